theorem o5_X10_here (M : Mem) (T : Int → Int) (hT : TXr M = T) (hp : 0 ≤ (M 0 7).toInt ∧ (M 0 7).toInt ≤ (M 0 8).toInt ∧ (M 0 8).toInt ≤ 240) : Wp (f_X10_here M) (fun q => ((q.toInt = -1 ∧ (M 0 7).toInt = (M 0 8).toInt) ∨ (0 ≤ q.toInt ∧ q.toInt ≤ 255 ∧ (M 0 7).toInt < (M 0 8).toInt)) ∧ (q.toInt = T (M 0 7).toInt)) := by
  refine wp_ite (fun c8 => ?_) (fun c8 => ?_)
  · exact wp_some ⟨(by show ((-1 : Int32).toInt = -1 ∧ (M 0 7).toInt = (M 0 8).toInt) ∨ (0 ≤ (-1 : Int32).toInt ∧ (-1 : Int32).toInt ≤ 255 ∧ (M 0 7).toInt < (M 0 8).toInt); have f0 := (by decide : ((-1 : Int32)).toInt = -1); have f1 := (by decide : ((-1 : Int32)).toInt = -1); omega), (by show (-1 : Int32).toInt = T (M 0 7).toInt; rw [← hT]; exact (txt_out (by omega)).symm)⟩
  · refine wp_gd (by omega) ?_
    exact wp_some ⟨(by have := and255 (M 5 (ix (M 0 7))); omega), (by show ((M 5 (ix (M 0 7))) &&& (nI 255)).toInt = T (M 0 7).toInt; rw [← hT]; exact (txt_in (b := fun j => ((M 5 j) &&& (nI 255)).toInt) (n := (M 0 8).toInt) (p := (M 0 7).toInt) (by omega)).symm)⟩
theorem o5_X10_isDigit (M : Mem) (T : Int → Int) (hT : TXr M = T) (hp : 0 ≤ (M 0 7).toInt ∧ (M 0 7).toInt ≤ (M 0 8).toInt ∧ (M 0 8).toInt ≤ 240) : Wp (f_X10_isDigit M) (fun q => (q = 0 ∨ q = 1) ∧ (¬ q.toInt = 0 → (M 0 7).toInt < (M 0 8).toInt ∧ ∀ d, f_X10_here M = some d → 48 ≤ d.toInt ∧ d.toInt ≤ 57) ∧ (DgI q.toInt (dgt (T (M 0 7).toInt)))) := by
  refine wp_bind2 (o5_X10_here M T hT hp) (fun r_1 he1 hq1 => ?_)
  obtain ⟨hh_1, hq_1⟩ := hq1
  replace hh_1 : (r_1.toInt = -1 ∧ (M 0 7).toInt = (M 0 8).toInt) ∨ (0 ≤ r_1.toInt ∧ r_1.toInt ≤ 255 ∧ (M 0 7).toInt < (M 0 8).toInt) := hh_1
  replace hq_1 : r_1.toInt = T (M 0 7).toInt := hq_1
  refine wp_ite (fun c6 => ?_) (fun c6 => ?_)
  · exact wp_some ⟨b01_0, (fun h => absurd nI0 h), ⟨fun z => absurd nI0 z, fun z => absurd (dgt_i z) (by rw [← hq_1]; omega)⟩⟩
  · refine wp_bind2 (o5_X10_here M T hT hp) (fun r_2 he10 hq10 => ?_)
    obtain ⟨hh_10, hq_10⟩ := hq10
    replace hh_10 : (r_2.toInt = -1 ∧ (M 0 7).toInt = (M 0 8).toInt) ∨ (0 ≤ r_2.toInt ∧ r_2.toInt ≤ 255 ∧ (M 0 7).toInt < (M 0 8).toInt) := hh_10
    replace hq_10 : r_2.toInt = T (M 0 7).toInt := hq_10
    refine wp_ite (fun c15 => ?_) (fun c15 => ?_)
    · exact wp_some ⟨b01_0, (fun h => absurd nI0 h), ⟨fun z => absurd nI0 z, fun z => absurd (dgt_i z) (by rw [← hq_10]; omega)⟩⟩
    · exact wp_some ⟨b01_1, (fun _ => ⟨by omega, fun d hd => by rw [he1] at hd; rw [he1] at he10; cases hd; cases he10; omega⟩), ⟨fun _ => dgt_t (by have z1 := hq_1; have z2 := hq_10; omega), fun _ => by decide⟩⟩
theorem o5_X10_wrongAt (M : Mem) (v1 : Int32) (v2 : Int32) : Wp (f_X10_wrongAt M v1 v2) (fun q => (q.1 = 0 ∨ q.1 = 1) ∧ (∀ a i, ¬ ((a = 0 ∧ i = 9)) → q.2 a i = M a i) ∧ (q.1.toInt = 0) ∧ (0 ≤ v1.toInt → v1.toInt ≤ 9 → 0 ≤ v2.toInt → v2.toInt ≤ 1000 → (q.2 0 9).toInt = -1000 * v1.toInt - v2.toInt)) := by
  refine wp_bnd (fun M_1 eM_1 => ?_)
  exact wp_some ⟨b01_0, (fun a i q0 => ((congrFun (congrFun eM_1 a) i).trans ((mset_ne (fun h9 => q0 (h9))).trans rfl))), (by show (nI 0).toInt = 0; have f0 := t_lit 0; omega), (fun z1 z2 z3 z4 => by show (M_1 0 9).toInt = _; rw [eM_1, mset_eq]; exact flt_is z1 z2 z3 z4)⟩
theorem o5_X10_takesSign (M : Mem) (v1 : Int32) (T : Int → Int) (hT : TXr M = T) (hp : 0 ≤ (M 0 7).toInt ∧ (M 0 7).toInt ≤ (M 0 8).toInt ∧ (M 0 8).toInt ≤ 240) (hv : 0 ≤ v1.toInt) : Wp (f_X10_takesSign M v1) (fun q => (q.1 = 0 ∨ q.1 = 1) ∧ (∀ a i, ¬ ((a = 0 ∧ i = 7) ∨ (a = 0 ∧ i = 9)) → q.2 a i = M a i) ∧ ((M 0 7).toInt ≤ (q.2 0 7).toInt ∧ (q.2 0 7).toInt ≤ (M 0 8).toInt ∧ (¬ q.1.toInt = 0 → (M 0 7).toInt < (q.2 0 7).toInt)) ∧ (SkpP (T (M 0 7).toInt) v1.toInt q.1.toInt (M 0 7).toInt (q.2 0 7).toInt (M 0 8).toInt (q.2 0 9).toInt)) := by
  refine wp_bind2 (o5_X10_here M T hT hp) (fun r_1 he1 hq1 => ?_)
  obtain ⟨hh_1, hq_1⟩ := hq1
  replace hh_1 : (r_1.toInt = -1 ∧ (M 0 7).toInt = (M 0 8).toInt) ∨ (0 ≤ r_1.toInt ∧ r_1.toInt ≤ 255 ∧ (M 0 7).toInt < (M 0 8).toInt) := hh_1
  replace hq_1 : r_1.toInt = T (M 0 7).toInt := hq_1
  refine wp_ite (fun c5 => ?_) (fun c5 => ?_)
  · refine wp_bnd (fun M_2 eM_2 => ?_)
    exact wp_some ⟨b01_1, (fun a i q0 => ((congrFun (congrFun eM_2 a) i).trans ((mset_ne (fun h9 => q0 (Or.inl h9))).trans rfl))), (by show (M 0 7).toInt ≤ (M_2 0 7).toInt ∧ (M_2 0 7).toInt ≤ (M 0 8).toInt ∧ (¬ (nI 1).toInt = 0 → (M 0 7).toInt < (M_2 0 7).toInt); have f0 := congrArg Int32.toInt ((congrFun (congrFun eM_2 0) 7).trans mset_eq); have f1 := t_lit 1; have f2 := t_add (M 0 7) (nI 1); omega), (Or.inl ⟨ne1, by rw [← hq_1]; exact c5, by show (M_2 0 7).toInt = _; rw [eM_2, mset_eq]; exact (i_up (by omega)).2, by omega⟩)⟩
  · refine wp_cb2 (o5_X10_wrongAt M (nI 1) (M 0 7)) (fun r_3 M_4 he14 hq14 => ?_)
    obtain ⟨hz_r_3, hg_M_4, hw_14, hq_14⟩ := hq14
    replace hw_14 : r_3.toInt = 0 := hw_14
    have := t_lit 1
    replace hq_14 : 0 ≤ (nI 1).toInt → (nI 1).toInt ≤ 9 → 0 ≤ (M 0 7).toInt → (M 0 7).toInt ≤ 1000 → (M_4 0 9).toInt = -1000 * (nI 1).toInt - (M 0 7).toInt := hq_14
    have := t_lit 1
    replace hg_M_4 : ∀ a i, ¬ ((a = 0 ∧ i = 9)) → M_4 a i = M a i := hg_M_4
    refine wp_gb hz_r_3 ?_
    exact wp_some ⟨hz_r_3, (fun a i q0 => ((hg_M_4 a i (fun h9 => q0 (Or.inr (h9)))).trans rfl)), (by show (M 0 7).toInt ≤ (M_4 0 7).toInt ∧ (M_4 0 7).toInt ≤ (M 0 8).toInt ∧ (¬ r_3.toInt = 0 → (M 0 7).toInt < (M_4 0 7).toInt); have f0 := congrArg Int32.toInt (hg_M_4 0 7 (by omega)); omega), (Or.inr ⟨hw_14, by rw [← hq_1]; exact c5, by show (M_4 0 9).toInt = _; rw [hq_14 (by decide) (by decide) (by omega) (by omega)]; have := t_lit 1; omega⟩)⟩
theorem o5_X10_readsAmount (M : Mem) (T : Int → Int) (hT : TXr M = T) (hp : 0 ≤ (M 0 7).toInt ∧ (M 0 7).toInt ≤ (M 0 8).toInt ∧ (M 0 8).toInt ≤ 240) : Wp (f_X10_readsAmount M) (fun q => (q.1 = 0 ∨ q.1 = 1) ∧ (∀ a i, ¬ ((a = 0 ∧ i = 7) ∨ (a = 0 ∧ i = 9) ∨ (a = 0 ∧ i = 10)) → q.2 a i = M a i) ∧ ((M 0 7).toInt ≤ (q.2 0 7).toInt ∧ (q.2 0 7).toInt ≤ (M 0 8).toInt ∧ (¬ q.1.toInt = 0 → (M 0 7).toInt < (q.2 0 7).toInt)) ∧ (¬ q.1.toInt = 0 → 0 ≤ (q.2 0 10).toInt ∧ (q.2 0 10).toInt ≤ 99) ∧ (NumQ (numS T (M 0 7).toInt 2) q.1.toInt (q.2 0 9).toInt (q.2 0 7).toInt (q.2 0 10).toInt (M 0 7).toInt (M 0 8).toInt)) := by
  refine wp_bnd (fun x_1 ex_1 => ?_)
  have hv_x_1 := congrArg Int32.toInt ex_1
  refine wp_bind2 (o5_X10_isDigit M T hT hp) (fun r_2 he6 hq6 => ?_)
  obtain ⟨hz_r_2, hd_6, hk_6⟩ := hq6
  replace hd_6 : ¬ r_2.toInt = 0 → (M 0 7).toInt < (M 0 8).toInt ∧ ∀ d, f_X10_here M = some d → 48 ≤ d.toInt ∧ d.toInt ≤ 57 := hd_6
  replace hk_6 : DgI r_2.toInt (dgt (T (M 0 7).toInt)) := hk_6
  refine wp_ite (fun c9 => ?_) (fun c9 => ?_)
  · refine wp_cb2 (o5_X10_wrongAt M (nI 1) (M 0 7)) (fun r_10 M_11 he18 hq18 => ?_)
    obtain ⟨hz_r_10, hg_M_11, hw_18, hq_18⟩ := hq18
    replace hw_18 : r_10.toInt = 0 := hw_18
    have := t_lit 1
    replace hq_18 : 0 ≤ (nI 1).toInt → (nI 1).toInt ≤ 9 → 0 ≤ (M 0 7).toInt → (M 0 7).toInt ≤ 1000 → (M_11 0 9).toInt = -1000 * (nI 1).toInt - (M 0 7).toInt := hq_18
    have := t_lit 1
    replace hg_M_11 : ∀ a i, ¬ ((a = 0 ∧ i = 9)) → M_11 a i = M a i := hg_M_11
    refine wp_gb hz_r_10 ?_
    exact wp_some ⟨hz_r_10, (fun a i q0 => ((hg_M_11 a i (fun h9 => q0 (Or.inr (Or.inl h9)))).trans rfl)), (by show (M 0 7).toInt ≤ (M_11 0 7).toInt ∧ (M_11 0 7).toInt ≤ (M 0 8).toInt ∧ (¬ r_10.toInt = 0 → (M 0 7).toInt < (M_11 0 7).toInt); have f0 := congrArg Int32.toInt (hg_M_11 0 7 (by omega)); omega), (by show ¬ r_10.toInt = 0 → 0 ≤ (M_11 0 10).toInt ∧ (M_11 0 10).toInt ≤ 99; have f0 := congrArg Int32.toInt (hg_M_11 0 10 (by omega)); omega), (by show NumQ _ r_10.toInt (M_11 0 9).toInt (M_11 0 7).toInt (M_11 0 10).toInt _ _; rw [numS_0 (by omega) (dgi_0 hk_6 c9)]; exact ⟨hw_18, by rw [hq_18 (by decide) (by decide) (by omega) (by omega)]; have := t_lit 1; omega⟩)⟩
  · refine wp_bnd (fun M_3 eM_3 => ?_)
    refine wp_lp1 (fun M27 => (∀ a i, ¬ ((a = 0 ∧ i = 7) ∨ (a = 0 ∧ i = 10)) → M27 a i = M_3 a i) ∧ (∃ c : Nat, c ≤ 2 ∧ (M27 0 7).toInt = x_1.toInt + c ∧ 0 ≤ (M27 0 10).toInt ∧ (M27 0 10).toInt < (10 : Int) ^ c ∧ (M27 0 7).toInt ≤ (M 0 8).toInt) ∧ ((M27 0 7).toInt = x_1.toInt → f_X10_isDigit M27 = some r_2) ∧ (∀ i : Nat, (i : Int) < (M27 0 7).toInt - (M 0 7).toInt → dgt (T ((M 0 7).toInt + i)) = true) ∧ ((M27 0 10).toInt = nvv T (M 0 7).toInt ((M27 0 7).toInt - (M 0 7).toInt).toNat)) (fun M27 => ((M27 0 8).toInt - (M27 0 7).toInt).toNat) (fun ag27 M27 hI27 ih27 => ?_) FU M_3 ⟨(fun _ _ _ => rfl), ⟨0, by omega, by (have f0 := congrArg Int32.toInt ((congrFun (congrFun eM_3 0) 7).trans (mset_ne (by omega))); omega), by (rw [eM_3, mset_eq]; decide), by (rw [eM_3, mset_eq]; decide), by (have f0 := congrArg Int32.toInt ((congrFun (congrFun eM_3 0) 7).trans (mset_ne (by omega))); omega)⟩, (fun _ => (isDigit_congr ((congrFun (congrFun eM_3 0) 7).trans (mset_ne (by omega))) ((congrFun (congrFun eM_3 0) 8).trans (mset_ne (by omega))) (by rw [eM_3, mset_n (by omega)])).trans he6), (fun i hi => absurd hi (by rw [eM_3, mset_ne (by omega)]; omega)), (by rw [eM_3, mset_eq, mset_ne (by omega), Int.sub_self]; exact nI0)⟩ (fu_lt (by have f0 := congrArg Int32.toInt ((congrFun (congrFun eM_3 0) 8).trans (mset_ne (by omega))); have f1 := congrArg Int32.toInt ((congrFun (congrFun eM_3 0) 7).trans (mset_ne (by omega))); omega))
    obtain ⟨hf_M27, hc27, hdz, hd27, hv27⟩ := hI27
    obtain ⟨cg, hc1, hc2, hc3, hc4, hc6⟩ := hc27
    have hc5 := pow10_le hc1
    have hc7 : (10 : Int) ^ 2 = 100 := by decide
    have f8 := congrArg Int32.toInt (hf_M27 0 8 (by omega))
    have f9 := congrArg Int32.toInt ((congrFun (congrFun eM_3 0) 8).trans (mset_ne (by omega)))
    have fl5 := t_add x_1 (nI 2)
    have fl6 := t_lit 2
    refine wp_bind2 (o5_X10_isDigit M27 T ((txr_fr ((hf_M27 0 8 (by omega)).trans ((congrFun (congrFun eM_3 0) 8).trans ((mset_ne (by omega)).trans rfl))) (fun j => ((hf_M27 5 j (by omega)).trans ((congrFun (congrFun eM_3 5) j).trans ((mset_ne (by omega)).trans rfl))))).trans hT) (by have f0 := congrArg Int32.toInt (hf_M27 0 8 (by omega)); have f1 := congrArg Int32.toInt ((congrFun (congrFun eM_3 0) 8).trans (mset_ne (by omega))); omega)) (fun r_4 he28 hq28 => ?_)
    obtain ⟨hz_r_4, hd_28, hk_28⟩ := hq28
    replace hd_28 : ¬ r_4.toInt = 0 → (M27 0 7).toInt < (M27 0 8).toInt ∧ ∀ d, f_X10_here M27 = some d → 48 ≤ d.toInt ∧ d.toInt ≤ 57 := hd_28
    replace hk_28 : DgI r_4.toInt (dgt (T (M27 0 7).toInt)) := hk_28
    refine wp_ite (fun c31 => ?_) (fun c31 => ?_)
    · exact wp_some ⟨b01_1, (fun a i q0 => ((hf_M27 a i (fun z8 => q0 ((fun z9 => Or.elim z9 (fun h9 => Or.inl h9) (fun h9 => Or.inr (Or.inr (h9)))) z8))).trans ((congrFun (congrFun eM_3 a) i).trans ((mset_ne (fun h9 => q0 (Or.inr (Or.inr (h9))))).trans rfl)))), (by show (M 0 7).toInt ≤ (M27 0 7).toInt ∧ (M27 0 7).toInt ≤ (M 0 8).toInt ∧ (¬ (nI 1).toInt = 0 → (M 0 7).toInt < (M27 0 7).toInt); have h8 : ¬ (M27 0 7).toInt = x_1.toInt := (fun z => by have h9 := hdz z; rw [he28] at h9; cases h9; exact c9 c31); omega), (by show ¬ (nI 1).toInt = 0 → 0 ≤ (M27 0 10).toInt ∧ (M27 0 10).toInt ≤ 99; have f0 := t_lit 1; omega), (by show NumQ _ (nI 1).toInt (M27 0 9).toInt (M27 0 7).toInt (M27 0 10).toInt _ _; have h8 : ¬ (M27 0 7).toInt = x_1.toInt := (fun z => by have h9 := hdz z; rw [he28] at h9; cases h9; exact c9 c31); have ec : ((M27 0 7).toInt - (M 0 7).toInt).toNat = cg := (by omega); have e2 : (M27 0 7).toInt = (M 0 7).toInt + (cg : Int) := (by omega); rw [ec] at hv27; rw [numS_v (c := cg) (by omega) hc1 (fun i hi => hd27 i (by omega)) (by rw [← e2]; exact dgi_0 hk_28 c31)]; exact ⟨ne1, hv27, by show 0 ≤ nvv T _ _; rw [← hv27]; omega, by show nvv T _ _ ≤ 99999; rw [← hv27]; omega, e2, by show (M 0 7).toInt < (M 0 7).toInt + _; omega, by show (M 0 7).toInt + _ ≤ _; omega⟩)⟩
    · have j44 : ((M27 0 7).toInt = (M 0 7).toInt + 2) → Wp (f_X10_readsAmount_L44 M27) (fun q => (q.1 = 0 ∨ q.1 = 1) ∧ (∀ a i, ¬ ((a = 0 ∧ i = 7) ∨ (a = 0 ∧ i = 9) ∨ (a = 0 ∧ i = 10)) → q.2 a i = M a i) ∧ ((M 0 7).toInt ≤ (q.2 0 7).toInt ∧ (q.2 0 7).toInt ≤ (M 0 8).toInt ∧ (¬ q.1.toInt = 0 → (M 0 7).toInt < (q.2 0 7).toInt)) ∧ (¬ q.1.toInt = 0 → 0 ≤ (q.2 0 10).toInt ∧ (q.2 0 10).toInt ≤ 99) ∧ (NumQ (numS T (M 0 7).toInt 2) q.1.toInt (q.2 0 9).toInt (q.2 0 7).toInt (q.2 0 10).toInt (M 0 7).toInt (M 0 8).toInt)) := by
        intro h44
        unfold f_X10_readsAmount_L44
        refine wp_cb2 (o5_X10_wrongAt M27 (nI 2) (M27 0 7)) (fun r_5 M_6 he50 hq50 => ?_)
        obtain ⟨hz_r_5, hg_M_6, hw_50, hq_50⟩ := hq50
        replace hw_50 : r_5.toInt = 0 := hw_50
        have := t_lit 2
        replace hq_50 : 0 ≤ (nI 2).toInt → (nI 2).toInt ≤ 9 → 0 ≤ (M27 0 7).toInt → (M27 0 7).toInt ≤ 1000 → (M_6 0 9).toInt = -1000 * (nI 2).toInt - (M27 0 7).toInt := hq_50
        have := t_lit 2
        replace hg_M_6 : ∀ a i, ¬ ((a = 0 ∧ i = 9)) → M_6 a i = M27 a i := hg_M_6
        refine wp_gb hz_r_5 ?_
        exact wp_some ⟨hz_r_5, (fun a i q0 => ((hg_M_6 a i (fun h9 => q0 (Or.inr (Or.inl h9)))).trans ((hf_M27 a i (fun z8 => q0 ((fun z9 => Or.elim z9 (fun h9 => Or.inl h9) (fun h9 => Or.inr (Or.inr (h9)))) z8))).trans ((congrFun (congrFun eM_3 a) i).trans ((mset_ne (fun h9 => q0 (Or.inr (Or.inr (h9))))).trans rfl))))), (by show (M 0 7).toInt ≤ (M_6 0 7).toInt ∧ (M_6 0 7).toInt ≤ (M 0 8).toInt ∧ (¬ r_5.toInt = 0 → (M 0 7).toInt < (M_6 0 7).toInt); have f0 := congrArg Int32.toInt (hg_M_6 0 7 (by omega)); omega), (by show ¬ r_5.toInt = 0 → 0 ≤ (M_6 0 10).toInt ∧ (M_6 0 10).toInt ≤ 99; have f0 := congrArg Int32.toInt (hg_M_6 0 10 (by omega)); omega), (by show NumQ _ r_5.toInt (M_6 0 9).toInt (M_6 0 7).toInt (M_6 0 10).toInt _ _; have e2 : (M27 0 7).toInt = (M 0 7).toInt + ((2 : Nat) : Int) := (by omega); rw [numS_2 (by omega) (fun i hi => hd27 i (by omega)) (by rw [← e2]; exact dgi_1 hk_28 c31), ← e2]; exact ⟨hw_50, by rw [hq_50 (by decide) (by decide) (by omega) (by omega)]; have := t_lit 2; omega⟩)⟩
      refine wp_ite (fun c41 => ?_) (fun c41 => ?_)
      · exact j44 (by have f9 := t_inc x_1 2 (by omega); omega)
      · refine wp_bind2 (o5_X10_here M27 T ((txr_fr ((hf_M27 0 8 (by omega)).trans ((congrFun (congrFun eM_3 0) 8).trans ((mset_ne (by omega)).trans rfl))) (fun j => ((hf_M27 5 j (by omega)).trans ((congrFun (congrFun eM_3 5) j).trans ((mset_ne (by omega)).trans rfl))))).trans hT) (by have f0 := congrArg Int32.toInt (hf_M27 0 8 (by omega)); have f1 := congrArg Int32.toInt ((congrFun (congrFun eM_3 0) 8).trans (mset_ne (by omega))); have f2 := t_lit 2; have f3 := t_add x_1 (nI 2); have f4 := congrArg Int32.toInt ex_1; omega)) (fun r_7 he63 hq63 => ?_)
        obtain ⟨hh_63, hq_63⟩ := hq63
        replace hh_63 : (r_7.toInt = -1 ∧ (M27 0 7).toInt = (M27 0 8).toInt) ∨ (0 ≤ r_7.toInt ∧ r_7.toInt ≤ 255 ∧ (M27 0 7).toInt < (M27 0 8).toInt) := hh_63
        replace hq_63 : r_7.toInt = T (M27 0 7).toInt := hq_63
        have hdg := (hd_28 (by omega)).2 r_7 he63
        have hnum := num_step (a := M27 0 10) (r := r_7) (by omega) hdg
        have hpl := (hd_28 (by omega)).1
        refine wp_bnd (fun M_8 eM_8 => ?_)
        refine wp_bnd (fun M_9 eM_9 => ?_)
        have g7 : (M_9 0 7).toInt = (M27 0 7).toInt + 1 := by rw [eM_9, mset_eq, eM_8, mset_ne (by omega)]; exact (i_up (by omega)).2
        have g10 : (M_9 0 10).toInt = 10 * (M27 0 10).toInt + (r_7.toInt - 48) := by rw [eM_9, mset_ne (by omega), eM_8, mset_eq]; exact hnum
        have ec : ((M27 0 7).toInt - (M 0 7).toInt).toNat = cg := by omega
        rw [ec] at hv27
        exact ih27 M_9 ⟨(fun a i q0 => ((congrFun (congrFun eM_9 a) i).trans ((mset_ne (fun h9 => q0 (Or.inl h9))).trans ((congrFun (congrFun eM_8 a) i).trans ((mset_ne (fun h9 => q0 (Or.inr (h9)))).trans ((hf_M27 a i (fun z8 => q0 ((fun z9 => Or.elim z9 (fun h9 => Or.inl h9) (fun h9 => Or.inr (h9))) z8))).trans rfl)))))), ⟨cg + 1, by omega, by (have f0 := t_lit 1; have f1 := t_add (M_8 0 7) (nI 1); have f2 := congrArg Int32.toInt ((congrFun (congrFun eM_9 0) 7).trans mset_eq); have f3 := congrArg Int32.toInt ((congrFun (congrFun eM_8 0) 7).trans (mset_ne (by omega))); omega), by (rw [eM_9, mset_ne (by omega), eM_8, mset_eq, hnum]; omega), by (rw [eM_9, mset_ne (by omega), eM_8, mset_eq, hnum, Int.pow_succ]; omega), by (have f0 := t_lit 1; have f1 := t_add (M_8 0 7) (nI 1); have f2 := congrArg Int32.toInt ((congrFun (congrFun eM_9 0) 7).trans mset_eq); have f3 := congrArg Int32.toInt ((congrFun (congrFun eM_8 0) 7).trans (mset_ne (by omega))); omega)⟩, (fun z => absurd z (by have f0 := t_lit 1; have f1 := t_add (M_8 0 7) (nI 1); have f2 := congrArg Int32.toInt ((congrFun (congrFun eM_9 0) 7).trans mset_eq); have f3 := congrArg Int32.toInt ((congrFun (congrFun eM_8 0) 7).trans (mset_ne (by omega))); omega)), (fun i hz => by rw [g7] at hz; by_cases e9 : (i : Int) = cg; (rw [show (M 0 7).toInt + (i : Int) = (M27 0 7).toInt from (by omega)]; exact dgi_1 hk_28 c31); exact hd27 i (by omega)), (by rw [g10, g7, show ((M27 0 7).toInt + 1 - (M 0 7).toInt).toNat = cg + 1 from (by omega), nvv_s, ← hv27, hq_63, show (M27 0 7).toInt = (M 0 7).toInt + (cg : Int) from (by omega)])⟩ (by have f0 := congrArg Int32.toInt ((congrFun (congrFun eM_9 0) 8).trans (mset_ne (by omega))); have f1 := congrArg Int32.toInt ((congrFun (congrFun eM_8 0) 8).trans (mset_ne (by omega))); have f2 := congrArg Int32.toInt (hf_M27 0 8 (by omega)); have f3 := congrArg Int32.toInt ((congrFun (congrFun eM_3 0) 8).trans (mset_ne (by omega))); have f4 := congrArg Int32.toInt ((congrFun (congrFun eM_9 0) 7).trans mset_eq); have f5 := t_lit 1; have f6 := t_add (M_8 0 7) (nI 1); have f7 := congrArg Int32.toInt ((congrFun (congrFun eM_8 0) 7).trans (mset_ne (by omega))); omega)
theorem o5_X10_readsBetween (M : Mem) (v1 : Int32) (v2 : Int32) (T : Int → Int) (hT : TXr M = T) (hp : 0 ≤ (M 0 7).toInt ∧ (M 0 7).toInt ≤ (M 0 8).toInt ∧ (M 0 8).toInt ≤ 240) : Wp (f_X10_readsBetween M v1 v2) (fun q => (q.1 = 0 ∨ q.1 = 1) ∧ (∀ a i, ¬ ((a = 0 ∧ i = 7) ∨ (a = 0 ∧ i = 9) ∨ (a = 0 ∧ i = 10)) → q.2 a i = M a i) ∧ ((M 0 7).toInt ≤ (q.2 0 7).toInt ∧ (q.2 0 7).toInt ≤ (M 0 8).toInt ∧ (¬ q.1.toInt = 0 → (M 0 7).toInt < (q.2 0 7).toInt)) ∧ (¬ q.1.toInt = 0 → v1.toInt ≤ (q.2 0 10).toInt ∧ (q.2 0 10).toInt ≤ v2.toInt) ∧ (BetQ (numS T (M 0 7).toInt 2) (M 0 7).toInt v1.toInt v2.toInt q.1.toInt (q.2 0 9).toInt (q.2 0 7).toInt (q.2 0 10).toInt (M 0 7).toInt (M 0 8).toInt)) := by
  refine wp_bnd (fun x_1 ex_1 => ?_)
  have hv_x_1 := congrArg Int32.toInt ex_1
  refine wp_cb2 (o5_X10_readsAmount M T hT hp) (fun r_2 M_3 he6 hq6 => ?_)
  obtain ⟨hz_r_2, hg_M_3, hp_6, hn_6, hN_6⟩ := hq6
  replace hp_6 : (M 0 7).toInt ≤ (M_3 0 7).toInt ∧ (M_3 0 7).toInt ≤ (M 0 8).toInt ∧ (¬ r_2.toInt = 0 → (M 0 7).toInt < (M_3 0 7).toInt) := hp_6
  replace hn_6 : ¬ r_2.toInt = 0 → 0 ≤ (M_3 0 10).toInt ∧ (M_3 0 10).toInt ≤ 99 := hn_6
  replace hN_6 : NumQ (numS T (M 0 7).toInt 2) r_2.toInt (M_3 0 9).toInt (M_3 0 7).toInt (M_3 0 10).toInt (M 0 7).toInt (M 0 8).toInt := hN_6
  replace hg_M_3 : ∀ a i, ¬ ((a = 0 ∧ i = 7) ∨ (a = 0 ∧ i = 9) ∨ (a = 0 ∧ i = 10)) → M_3 a i = M a i := hg_M_3
  refine wp_ite (fun c9 => ?_) (fun c9 => ?_)
  · exact wp_some ⟨b01_0, (fun a i q0 => ((hg_M_3 a i (fun z8 => q0 ((fun z9 => Or.elim z9 (fun h9 => Or.inl h9) (fun z9 => Or.elim z9 (fun h9 => Or.inr (Or.inl h9)) (fun h9 => Or.inr (Or.inr (h9))))) z8))).trans rfl)), (by show (M 0 7).toInt ≤ (M_3 0 7).toInt ∧ (M_3 0 7).toInt ≤ (M 0 8).toInt ∧ (¬ (nI 0).toInt = 0 → (M 0 7).toInt < (M_3 0 7).toInt); have f0 := t_lit 0; omega), (by show ¬ (nI 0).toInt = 0 → v1.toInt ≤ (M_3 0 10).toInt ∧ (M_3 0 10).toInt ≤ v2.toInt; have f0 := t_lit 0; omega), (Or.inl ⟨nI0, Or.inl (numQ_f hN_6 c9)⟩)⟩
  · refine wp_bind2 (o2_X10_in M_3 (M_3 0 10) v1 v2) (fun r_4 he20 hq20 => ?_)
    obtain ⟨hz_r_4, hr_20, hi_20⟩ := hq20
    replace hr_20 : ¬ r_4.toInt = 0 → v1.toInt ≤ (M_3 0 10).toInt ∧ (M_3 0 10).toInt ≤ v2.toInt := hr_20
    replace hi_20 : ¬ r_4.toInt = 0 ↔ v1.toInt ≤ (M_3 0 10).toInt ∧ (M_3 0 10).toInt ≤ v2.toInt := hi_20
    refine wp_ite (fun c23 => ?_) (fun c23 => ?_)
    · refine wp_cb2 (o5_X10_wrongAt M_3 (nI 3) x_1) (fun r_5 M_6 he29 hq29 => ?_)
      obtain ⟨hz_r_5, hg_M_6, hw_29, hq_29⟩ := hq29
      replace hw_29 : r_5.toInt = 0 := hw_29
      have := t_lit 3
      replace hq_29 : 0 ≤ (nI 3).toInt → (nI 3).toInt ≤ 9 → 0 ≤ x_1.toInt → x_1.toInt ≤ 1000 → (M_6 0 9).toInt = -1000 * (nI 3).toInt - x_1.toInt := hq_29
      have := t_lit 3
      replace hg_M_6 : ∀ a i, ¬ ((a = 0 ∧ i = 9)) → M_6 a i = M_3 a i := hg_M_6
      refine wp_ite (fun c32 => ?_) (fun c32 => ?_)
      · exact wp_some ⟨b01_0, (fun a i q0 => ((hg_M_6 a i (fun h9 => q0 (Or.inr (Or.inl h9)))).trans ((hg_M_3 a i (fun z8 => q0 ((fun z9 => Or.elim z9 (fun h9 => Or.inl h9) (fun z9 => Or.elim z9 (fun h9 => Or.inr (Or.inl h9)) (fun h9 => Or.inr (Or.inr (h9))))) z8))).trans rfl))), (by show (M 0 7).toInt ≤ (M_6 0 7).toInt ∧ (M_6 0 7).toInt ≤ (M 0 8).toInt ∧ (¬ (nI 0).toInt = 0 → (M 0 7).toInt < (M_6 0 7).toInt); have f0 := congrArg Int32.toInt (hg_M_6 0 7 (by omega)); have f1 := t_lit 0; omega), (by show ¬ (nI 0).toInt = 0 → v1.toInt ≤ (M_6 0 10).toInt ∧ (M_6 0 10).toInt ≤ v2.toInt; have f0 := t_lit 0; have f1 := congrArg Int32.toInt (hg_M_6 0 10 (by omega)); omega), (by obtain ⟨n1, n2, n3, n4, n5⟩ := numQ_v hN_6 c9; exact Or.inl ⟨nI0, Or.inr ⟨_, _, n1, n2, fun z => (hi_20.mpr z) c23, by show (M_6 0 9).toInt = _; rw [hq_29 (by decide) (by decide) (by omega) (by omega)]; have := t_lit 3; omega⟩⟩)⟩
      · exact wp_some ⟨b01_1, (fun a i q0 => ((hg_M_6 a i (fun h9 => q0 (Or.inr (Or.inl h9)))).trans ((hg_M_3 a i (fun z8 => q0 ((fun z9 => Or.elim z9 (fun h9 => Or.inl h9) (fun z9 => Or.elim z9 (fun h9 => Or.inr (Or.inl h9)) (fun h9 => Or.inr (Or.inr (h9))))) z8))).trans rfl))), (by show (M 0 7).toInt ≤ (M_6 0 7).toInt ∧ (M_6 0 7).toInt ≤ (M 0 8).toInt ∧ (¬ (nI 1).toInt = 0 → (M 0 7).toInt < (M_6 0 7).toInt); have f0 := congrArg Int32.toInt (hg_M_6 0 7 (by omega)); have f1 := t_lit 1; omega), (by show ¬ (nI 1).toInt = 0 → v1.toInt ≤ (M_6 0 10).toInt ∧ (M_6 0 10).toInt ≤ v2.toInt; have f0 := t_lit 1; have f1 := congrArg Int32.toInt (hg_M_6 0 10 (by omega)); omega), (False.elim (c32 hw_29))⟩
    · exact wp_some ⟨b01_1, (fun a i q0 => ((hg_M_3 a i (fun z8 => q0 ((fun z9 => Or.elim z9 (fun h9 => Or.inl h9) (fun z9 => Or.elim z9 (fun h9 => Or.inr (Or.inl h9)) (fun h9 => Or.inr (Or.inr (h9))))) z8))).trans rfl)), (by show (M 0 7).toInt ≤ (M_3 0 7).toInt ∧ (M_3 0 7).toInt ≤ (M 0 8).toInt ∧ (¬ (nI 1).toInt = 0 → (M 0 7).toInt < (M_3 0 7).toInt); have f0 := t_lit 1; omega), (by show ¬ (nI 1).toInt = 0 → v1.toInt ≤ (M_3 0 10).toInt ∧ (M_3 0 10).toInt ≤ v2.toInt; have f0 := t_lit 1; omega), (by obtain ⟨n1, n2, n3, n4, n5⟩ := numQ_v hN_6 c9; exact Or.inr ⟨ne1, n1, hi_20.mp c23, n4, n5⟩)⟩
