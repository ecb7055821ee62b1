theorem o_X10_readsNumber (M : Mem) (hp : 0 ≤ (M 0 7).toInt ∧ (M 0 7).toInt ≤ (M 0 8).toInt ∧ (M 0 8).toInt ≤ 240) : Wp (f_X10_readsNumber M) (fun q => (q.1 = 0 ∨ q.1 = 1) ∧ (∀ a i, ¬ ((a = 0 ∧ i = 7) ∨ (a = 0 ∧ i = 9) ∨ (a = 0 ∧ i = 10)) → q.2 a i = M a i) ∧ ((M 0 7).toInt ≤ (q.2 0 7).toInt ∧ (q.2 0 7).toInt ≤ (M 0 8).toInt) ∧ (¬ q.1.toInt = 0 → 0 ≤ (q.2 0 10).toInt ∧ (q.2 0 10).toInt ≤ 99999)) := by
  refine wp_bnd (fun x_1 ex_1 => ?_)
  have hv_x_1 := congrArg Int32.toInt ex_1
  refine wp_bnd (fun M_2 eM_2 => ?_)
  refine wp_lp1 (fun M10 => (∀ a i, ¬ ((a = 0 ∧ i = 7) ∨ (a = 0 ∧ i = 10)) → M10 a i = M_2 a i) ∧ (∃ c : Nat, c ≤ 5 ∧ (M10 0 7).toInt = x_1.toInt + c ∧ 0 ≤ (M10 0 10).toInt ∧ (M10 0 10).toInt < (10 : Int) ^ c ∧ (M10 0 7).toInt ≤ (M 0 8).toInt)) (fun M10 => ((M10 0 8).toInt - (M10 0 7).toInt).toNat) (fun ag10 M10 hI10 ih10 => ?_) FU M_2 ⟨(fun _ _ _ => rfl), ⟨0, by omega, by (have f0 := congrArg Int32.toInt ((congrFun (congrFun eM_2 0) 7).trans (mset_ne (by omega))); omega), by (rw [eM_2, mset_eq]; decide), by (rw [eM_2, mset_eq]; decide), by (have f0 := congrArg Int32.toInt ((congrFun (congrFun eM_2 0) 7).trans (mset_ne (by omega))); omega)⟩⟩ (fu_lt (by have f0 := congrArg Int32.toInt ((congrFun (congrFun eM_2 0) 8).trans (mset_ne (by omega))); have f1 := congrArg Int32.toInt ((congrFun (congrFun eM_2 0) 7).trans (mset_ne (by omega))); omega))
  obtain ⟨hf_M10, hc10⟩ := hI10
  obtain ⟨cg, hc1, hc2, hc3, hc4, hc6⟩ := hc10
  have hc5 := pow10_le hc1
  have hc7 : (10 : Int) ^ 5 = 100000 := by decide
  have f8 := congrArg Int32.toInt (hf_M10 0 8 (by omega))
  have f9 := congrArg Int32.toInt ((congrFun (congrFun eM_2 0) 8).trans (mset_ne (by omega)))
  have fl5 := t_add x_1 (nI 5)
  have fl6 := t_lit 5
  refine wp_bind2 (o_X10_isDigit M10 (by have f0 := congrArg Int32.toInt (hf_M10 0 8 (by omega)); have f1 := congrArg Int32.toInt ((congrFun (congrFun eM_2 0) 8).trans (mset_ne (by omega))); omega)) (fun r_3 he11 hq11 => ?_)
  obtain ⟨hz_r_3, hd_11⟩ := hq11
  replace hd_11 : ¬ r_3.toInt = 0 → (M10 0 7).toInt < (M10 0 8).toInt ∧ ∀ d, f_X10_here M10 = some d → 48 ≤ d.toInt ∧ d.toInt ≤ 57 := hd_11
  refine wp_ite (fun c14 => ?_) (fun c14 => ?_)
  · exact wp_some ⟨b01_1, (fun a i q0 => ((hf_M10 a i (fun z8 => q0 ((fun z9 => Or.elim z9 (fun h9 => Or.inl h9) (fun h9 => Or.inr (Or.inr (h9)))) z8))).trans ((congrFun (congrFun eM_2 a) i).trans ((mset_ne (fun h9 => q0 (Or.inr (Or.inr (h9))))).trans rfl)))), (by show (M 0 7).toInt ≤ (M10 0 7).toInt ∧ (M10 0 7).toInt ≤ (M 0 8).toInt; have f0 := t_lit 1; omega), (by show ¬ (nI 1).toInt = 0 → 0 ≤ (M10 0 10).toInt ∧ (M10 0 10).toInt ≤ 99999; have f0 := t_lit 1; omega)⟩
  · have j27 : Wp (f_X10_readsNumber_L27 M10) (fun q => (q.1 = 0 ∨ q.1 = 1) ∧ (∀ a i, ¬ ((a = 0 ∧ i = 7) ∨ (a = 0 ∧ i = 9) ∨ (a = 0 ∧ i = 10)) → q.2 a i = M a i) ∧ ((M 0 7).toInt ≤ (q.2 0 7).toInt ∧ (q.2 0 7).toInt ≤ (M 0 8).toInt) ∧ (¬ q.1.toInt = 0 → 0 ≤ (q.2 0 10).toInt ∧ (q.2 0 10).toInt ≤ 99999)) := by
      unfold f_X10_readsNumber_L27
      refine wp_cb2 (o_X10_wrongAt M10 (nI 2) (M10 0 7)) (fun r_4 M_5 he33 hq33 => ?_)
      obtain ⟨hz_r_4, hg_M_5, hw_33⟩ := hq33
      replace hw_33 : r_4.toInt = 0 := hw_33
      have := t_lit 2
      replace hg_M_5 : ∀ a i, ¬ ((a = 0 ∧ i = 9)) → M_5 a i = M10 a i := hg_M_5
      refine wp_gb hz_r_4 ?_
      exact wp_some ⟨hz_r_4, (fun a i q0 => ((hg_M_5 a i (fun h9 => q0 (Or.inr (Or.inl h9)))).trans ((hf_M10 a i (fun z8 => q0 ((fun z9 => Or.elim z9 (fun h9 => Or.inl h9) (fun h9 => Or.inr (Or.inr (h9)))) z8))).trans ((congrFun (congrFun eM_2 a) i).trans ((mset_ne (fun h9 => q0 (Or.inr (Or.inr (h9))))).trans rfl))))), (by show (M 0 7).toInt ≤ (M_5 0 7).toInt ∧ (M_5 0 7).toInt ≤ (M 0 8).toInt; have f0 := congrArg Int32.toInt (hg_M_5 0 7 (by omega)); omega), (by show ¬ r_4.toInt = 0 → 0 ≤ (M_5 0 10).toInt ∧ (M_5 0 10).toInt ≤ 99999; have f0 := congrArg Int32.toInt (hg_M_5 0 10 (by omega)); omega)⟩
    refine wp_ite (fun c24 => ?_) (fun c24 => ?_)
    · exact j27
    · refine wp_bind2 (o_X10_here M10 (by have f0 := congrArg Int32.toInt (hf_M10 0 8 (by omega)); have f1 := congrArg Int32.toInt ((congrFun (congrFun eM_2 0) 8).trans (mset_ne (by omega))); have f2 := t_lit 5; have f3 := t_add x_1 (nI 5); have f4 := congrArg Int32.toInt ex_1; omega)) (fun r_6 he46 hq46 => ?_)
      have hh_46 := hq46
      replace hh_46 : (r_6.toInt = -1 ∧ (M10 0 7).toInt = (M10 0 8).toInt) ∨ (0 ≤ r_6.toInt ∧ r_6.toInt ≤ 255 ∧ (M10 0 7).toInt < (M10 0 8).toInt) := hh_46
      have hdg := (hd_11 (by omega)).2 r_6 he46
      have hnum := num_step (a := M10 0 10) (r := r_6) (by omega) hdg
      have hpl := (hd_11 (by omega)).1
      refine wp_bnd (fun M_7 eM_7 => ?_)
      refine wp_bnd (fun M_8 eM_8 => ?_)
      exact ih10 M_8 ⟨(fun a i q0 => ((congrFun (congrFun eM_8 a) i).trans ((mset_ne (fun h9 => q0 (Or.inl h9))).trans ((congrFun (congrFun eM_7 a) i).trans ((mset_ne (fun h9 => q0 (Or.inr (h9)))).trans ((hf_M10 a i (fun z8 => q0 ((fun z9 => Or.elim z9 (fun h9 => Or.inl h9) (fun h9 => Or.inr (h9))) z8))).trans rfl)))))), ⟨cg + 1, by omega, by (have f0 := t_lit 1; have f1 := t_add (M_7 0 7) (nI 1); have f2 := congrArg Int32.toInt ((congrFun (congrFun eM_8 0) 7).trans mset_eq); have f3 := congrArg Int32.toInt ((congrFun (congrFun eM_7 0) 7).trans (mset_ne (by omega))); omega), by (rw [eM_8, mset_ne (by omega), eM_7, mset_eq, hnum]; omega), by (rw [eM_8, mset_ne (by omega), eM_7, mset_eq, hnum, Int.pow_succ]; omega), by (have f0 := t_lit 1; have f1 := t_add (M_7 0 7) (nI 1); have f2 := congrArg Int32.toInt ((congrFun (congrFun eM_8 0) 7).trans mset_eq); have f3 := congrArg Int32.toInt ((congrFun (congrFun eM_7 0) 7).trans (mset_ne (by omega))); omega)⟩⟩ (by have f0 := congrArg Int32.toInt ((congrFun (congrFun eM_8 0) 8).trans (mset_ne (by omega))); have f1 := congrArg Int32.toInt ((congrFun (congrFun eM_7 0) 8).trans (mset_ne (by omega))); have f2 := congrArg Int32.toInt (hf_M10 0 8 (by omega)); have f3 := congrArg Int32.toInt ((congrFun (congrFun eM_2 0) 8).trans (mset_ne (by omega))); have f4 := congrArg Int32.toInt ((congrFun (congrFun eM_8 0) 7).trans mset_eq); have f5 := t_lit 1; have f6 := t_add (M_7 0 7) (nI 1); have f7 := congrArg Int32.toInt ((congrFun (congrFun eM_7 0) 7).trans (mset_ne (by omega))); omega)
theorem isDigit_congr {M M' : Mem} (h1 : M' 0 7 = M 0 7) (h2 : M' 0 8 = M 0 8) (h3 : M' 5 = M 5) : f_X10_isDigit M' = f_X10_isDigit M := by
  unfold f_X10_isDigit f_X10_here
  rw [h1, h2, h3]
theorem o_X10_readsAmount (M : Mem) (hp : 0 ≤ (M 0 7).toInt ∧ (M 0 7).toInt ≤ (M 0 8).toInt ∧ (M 0 8).toInt ≤ 240) : Wp (f_X10_readsAmount M) (fun q => (q.1 = 0 ∨ q.1 = 1) ∧ (∀ a i, ¬ ((a = 0 ∧ i = 7) ∨ (a = 0 ∧ i = 9) ∨ (a = 0 ∧ i = 10)) → q.2 a i = M a i) ∧ ((M 0 7).toInt ≤ (q.2 0 7).toInt ∧ (q.2 0 7).toInt ≤ (M 0 8).toInt ∧ (¬ q.1.toInt = 0 → (M 0 7).toInt < (q.2 0 7).toInt)) ∧ (¬ q.1.toInt = 0 → 0 ≤ (q.2 0 10).toInt ∧ (q.2 0 10).toInt ≤ 99)) := by
  refine wp_bnd (fun x_1 ex_1 => ?_)
  have hv_x_1 := congrArg Int32.toInt ex_1
  refine wp_bind2 (o_X10_isDigit M (by omega)) (fun r_2 he6 hq6 => ?_)
  obtain ⟨hz_r_2, hd_6⟩ := hq6
  replace hd_6 : ¬ r_2.toInt = 0 → (M 0 7).toInt < (M 0 8).toInt ∧ ∀ d, f_X10_here M = some d → 48 ≤ d.toInt ∧ d.toInt ≤ 57 := hd_6
  refine wp_ite (fun c9 => ?_) (fun c9 => ?_)
  · refine wp_cb2 (o_X10_wrongAt M (nI 1) (M 0 7)) (fun r_10 M_11 he18 hq18 => ?_)
    obtain ⟨hz_r_10, hg_M_11, hw_18⟩ := hq18
    replace hw_18 : r_10.toInt = 0 := hw_18
    have := t_lit 1
    replace hg_M_11 : ∀ a i, ¬ ((a = 0 ∧ i = 9)) → M_11 a i = M a i := hg_M_11
    refine wp_gb hz_r_10 ?_
    exact wp_some ⟨hz_r_10, (fun a i q0 => ((hg_M_11 a i (fun h9 => q0 (Or.inr (Or.inl h9)))).trans rfl)), (by show (M 0 7).toInt ≤ (M_11 0 7).toInt ∧ (M_11 0 7).toInt ≤ (M 0 8).toInt ∧ (¬ r_10.toInt = 0 → (M 0 7).toInt < (M_11 0 7).toInt); have f0 := congrArg Int32.toInt (hg_M_11 0 7 (by omega)); omega), (by show ¬ r_10.toInt = 0 → 0 ≤ (M_11 0 10).toInt ∧ (M_11 0 10).toInt ≤ 99; have f0 := congrArg Int32.toInt (hg_M_11 0 10 (by omega)); omega)⟩
  · refine wp_bnd (fun M_3 eM_3 => ?_)
    refine wp_lp1 (fun M27 => (∀ a i, ¬ ((a = 0 ∧ i = 7) ∨ (a = 0 ∧ i = 10)) → M27 a i = M_3 a i) ∧ (∃ c : Nat, c ≤ 2 ∧ (M27 0 7).toInt = x_1.toInt + c ∧ 0 ≤ (M27 0 10).toInt ∧ (M27 0 10).toInt < (10 : Int) ^ c ∧ (M27 0 7).toInt ≤ (M 0 8).toInt) ∧ ((M27 0 7).toInt = x_1.toInt → f_X10_isDigit M27 = some r_2)) (fun M27 => ((M27 0 8).toInt - (M27 0 7).toInt).toNat) (fun ag27 M27 hI27 ih27 => ?_) FU M_3 ⟨(fun _ _ _ => rfl), ⟨0, by omega, by (have f0 := congrArg Int32.toInt ((congrFun (congrFun eM_3 0) 7).trans (mset_ne (by omega))); omega), by (rw [eM_3, mset_eq]; decide), by (rw [eM_3, mset_eq]; decide), by (have f0 := congrArg Int32.toInt ((congrFun (congrFun eM_3 0) 7).trans (mset_ne (by omega))); omega)⟩, (fun _ => (isDigit_congr ((congrFun (congrFun eM_3 0) 7).trans (mset_ne (by omega))) ((congrFun (congrFun eM_3 0) 8).trans (mset_ne (by omega))) (by rw [eM_3, mset_n (by omega)])).trans he6)⟩ (fu_lt (by have f0 := congrArg Int32.toInt ((congrFun (congrFun eM_3 0) 8).trans (mset_ne (by omega))); have f1 := congrArg Int32.toInt ((congrFun (congrFun eM_3 0) 7).trans (mset_ne (by omega))); omega))
    obtain ⟨hf_M27, hc27, hdz⟩ := hI27
    obtain ⟨cg, hc1, hc2, hc3, hc4, hc6⟩ := hc27
    have hc5 := pow10_le hc1
    have hc7 : (10 : Int) ^ 2 = 100 := by decide
    have f8 := congrArg Int32.toInt (hf_M27 0 8 (by omega))
    have f9 := congrArg Int32.toInt ((congrFun (congrFun eM_3 0) 8).trans (mset_ne (by omega)))
    have fl5 := t_add x_1 (nI 2)
    have fl6 := t_lit 2
    refine wp_bind2 (o_X10_isDigit M27 (by have f0 := congrArg Int32.toInt (hf_M27 0 8 (by omega)); have f1 := congrArg Int32.toInt ((congrFun (congrFun eM_3 0) 8).trans (mset_ne (by omega))); omega)) (fun r_4 he28 hq28 => ?_)
    obtain ⟨hz_r_4, hd_28⟩ := hq28
    replace hd_28 : ¬ r_4.toInt = 0 → (M27 0 7).toInt < (M27 0 8).toInt ∧ ∀ d, f_X10_here M27 = some d → 48 ≤ d.toInt ∧ d.toInt ≤ 57 := hd_28
    refine wp_ite (fun c31 => ?_) (fun c31 => ?_)
    · exact wp_some ⟨b01_1, (fun a i q0 => ((hf_M27 a i (fun z8 => q0 ((fun z9 => Or.elim z9 (fun h9 => Or.inl h9) (fun h9 => Or.inr (Or.inr (h9)))) z8))).trans ((congrFun (congrFun eM_3 a) i).trans ((mset_ne (fun h9 => q0 (Or.inr (Or.inr (h9))))).trans rfl)))), (by show (M 0 7).toInt ≤ (M27 0 7).toInt ∧ (M27 0 7).toInt ≤ (M 0 8).toInt ∧ (¬ (nI 1).toInt = 0 → (M 0 7).toInt < (M27 0 7).toInt); have h8 : ¬ (M27 0 7).toInt = x_1.toInt := fun z => by (have h9 := hdz z; rw [he28] at h9; cases h9; exact c9 c31); omega), (by show ¬ (nI 1).toInt = 0 → 0 ≤ (M27 0 10).toInt ∧ (M27 0 10).toInt ≤ 99; have f0 := t_lit 1; omega)⟩
    · have j44 : Wp (f_X10_readsAmount_L44 M27) (fun q => (q.1 = 0 ∨ q.1 = 1) ∧ (∀ a i, ¬ ((a = 0 ∧ i = 7) ∨ (a = 0 ∧ i = 9) ∨ (a = 0 ∧ i = 10)) → q.2 a i = M a i) ∧ ((M 0 7).toInt ≤ (q.2 0 7).toInt ∧ (q.2 0 7).toInt ≤ (M 0 8).toInt ∧ (¬ q.1.toInt = 0 → (M 0 7).toInt < (q.2 0 7).toInt)) ∧ (¬ q.1.toInt = 0 → 0 ≤ (q.2 0 10).toInt ∧ (q.2 0 10).toInt ≤ 99)) := by
        unfold f_X10_readsAmount_L44
        refine wp_cb2 (o_X10_wrongAt M27 (nI 2) (M27 0 7)) (fun r_5 M_6 he50 hq50 => ?_)
        obtain ⟨hz_r_5, hg_M_6, hw_50⟩ := hq50
        replace hw_50 : r_5.toInt = 0 := hw_50
        have := t_lit 2
        replace hg_M_6 : ∀ a i, ¬ ((a = 0 ∧ i = 9)) → M_6 a i = M27 a i := hg_M_6
        refine wp_gb hz_r_5 ?_
        exact wp_some ⟨hz_r_5, (fun a i q0 => ((hg_M_6 a i (fun h9 => q0 (Or.inr (Or.inl h9)))).trans ((hf_M27 a i (fun z8 => q0 ((fun z9 => Or.elim z9 (fun h9 => Or.inl h9) (fun h9 => Or.inr (Or.inr (h9)))) z8))).trans ((congrFun (congrFun eM_3 a) i).trans ((mset_ne (fun h9 => q0 (Or.inr (Or.inr (h9))))).trans rfl))))), (by show (M 0 7).toInt ≤ (M_6 0 7).toInt ∧ (M_6 0 7).toInt ≤ (M 0 8).toInt ∧ (¬ r_5.toInt = 0 → (M 0 7).toInt < (M_6 0 7).toInt); have f0 := congrArg Int32.toInt (hg_M_6 0 7 (by omega)); omega), (by show ¬ r_5.toInt = 0 → 0 ≤ (M_6 0 10).toInt ∧ (M_6 0 10).toInt ≤ 99; have f0 := congrArg Int32.toInt (hg_M_6 0 10 (by omega)); omega)⟩
      refine wp_ite (fun c41 => ?_) (fun c41 => ?_)
      · exact j44
      · refine wp_bind2 (o_X10_here M27 (by have f0 := congrArg Int32.toInt (hf_M27 0 8 (by omega)); have f1 := congrArg Int32.toInt ((congrFun (congrFun eM_3 0) 8).trans (mset_ne (by omega))); have f2 := t_lit 2; have f3 := t_add x_1 (nI 2); have f4 := congrArg Int32.toInt ex_1; omega)) (fun r_7 he63 hq63 => ?_)
        have hh_63 := hq63
        replace hh_63 : (r_7.toInt = -1 ∧ (M27 0 7).toInt = (M27 0 8).toInt) ∨ (0 ≤ r_7.toInt ∧ r_7.toInt ≤ 255 ∧ (M27 0 7).toInt < (M27 0 8).toInt) := hh_63
        have hdg := (hd_28 (by omega)).2 r_7 he63
        have hnum := num_step (a := M27 0 10) (r := r_7) (by omega) hdg
        have hpl := (hd_28 (by omega)).1
        refine wp_bnd (fun M_8 eM_8 => ?_)
        refine wp_bnd (fun M_9 eM_9 => ?_)
        exact ih27 M_9 ⟨(fun a i q0 => ((congrFun (congrFun eM_9 a) i).trans ((mset_ne (fun h9 => q0 (Or.inl h9))).trans ((congrFun (congrFun eM_8 a) i).trans ((mset_ne (fun h9 => q0 (Or.inr (h9)))).trans ((hf_M27 a i (fun z8 => q0 ((fun z9 => Or.elim z9 (fun h9 => Or.inl h9) (fun h9 => Or.inr (h9))) z8))).trans rfl)))))), ⟨cg + 1, by omega, by (have f0 := t_lit 1; have f1 := t_add (M_8 0 7) (nI 1); have f2 := congrArg Int32.toInt ((congrFun (congrFun eM_9 0) 7).trans mset_eq); have f3 := congrArg Int32.toInt ((congrFun (congrFun eM_8 0) 7).trans (mset_ne (by omega))); omega), by (rw [eM_9, mset_ne (by omega), eM_8, mset_eq, hnum]; omega), by (rw [eM_9, mset_ne (by omega), eM_8, mset_eq, hnum, Int.pow_succ]; omega), by (have f0 := t_lit 1; have f1 := t_add (M_8 0 7) (nI 1); have f2 := congrArg Int32.toInt ((congrFun (congrFun eM_9 0) 7).trans mset_eq); have f3 := congrArg Int32.toInt ((congrFun (congrFun eM_8 0) 7).trans (mset_ne (by omega))); omega)⟩, (fun z => absurd z (by have f0 := t_lit 1; have f1 := t_add (M_8 0 7) (nI 1); have f2 := congrArg Int32.toInt ((congrFun (congrFun eM_9 0) 7).trans mset_eq); have f3 := congrArg Int32.toInt ((congrFun (congrFun eM_8 0) 7).trans (mset_ne (by omega))); omega))⟩ (by have f0 := congrArg Int32.toInt ((congrFun (congrFun eM_9 0) 8).trans (mset_ne (by omega))); have f1 := congrArg Int32.toInt ((congrFun (congrFun eM_8 0) 8).trans (mset_ne (by omega))); have f2 := congrArg Int32.toInt (hf_M27 0 8 (by omega)); have f3 := congrArg Int32.toInt ((congrFun (congrFun eM_3 0) 8).trans (mset_ne (by omega))); have f4 := congrArg Int32.toInt ((congrFun (congrFun eM_9 0) 7).trans mset_eq); have f5 := t_lit 1; have f6 := t_add (M_8 0 7) (nI 1); have f7 := congrArg Int32.toInt ((congrFun (congrFun eM_8 0) 7).trans (mset_ne (by omega))); omega)
theorem o_X10_readsBetween (M : Mem) (v1 : Int32) (v2 : Int32) : Wp (f_X10_readsBetween M v1 v2) (fun q => (q.1 = 0 ∨ q.1 = 1) ∧ (∀ a i, ¬ ((a = 0 ∧ i = 7) ∨ (a = 0 ∧ i = 9) ∨ (a = 0 ∧ i = 10)) → q.2 a i = M a i)) := by
  refine wp_bnd (fun x_1 ex_1 => ?_)
  have hv_x_1 := congrArg Int32.toInt ex_1
  refine wp_cb2 (o_X10_readsAmount M (by omega)) (fun r_2 M_3 he6 hq6 => ?_)
  obtain ⟨hz_r_2, hg_M_3, hp_6, hn_6⟩ := hq6
  replace hp_6 : (M 0 7).toInt ≤ (M_3 0 7).toInt ∧ (M_3 0 7).toInt ≤ (M 0 8).toInt ∧ (¬ r_2.toInt = 0 → (M 0 7).toInt < (M_3 0 7).toInt) := hp_6
  replace hn_6 : ¬ r_2.toInt = 0 → 0 ≤ (M_3 0 10).toInt ∧ (M_3 0 10).toInt ≤ 99 := hn_6
  replace hg_M_3 : ∀ a i, ¬ ((a = 0 ∧ i = 7) ∨ (a = 0 ∧ i = 9) ∨ (a = 0 ∧ i = 10)) → M_3 a i = M a i := hg_M_3
  refine wp_ite (fun c9 => ?_) (fun c9 => ?_)
  · exact wp_some ⟨b01_0, (fun a i q0 => ((hg_M_3 a i (fun z8 => q0 ((fun z9 => Or.elim z9 (fun h9 => Or.inl h9) (fun z9 => Or.elim z9 (fun h9 => Or.inr (Or.inl h9)) (fun h9 => Or.inr (Or.inr (h9))))) z8))).trans rfl))⟩
  · refine wp_bind2 (o_X10_in M_3 (M_3 0 10) v1 v2) (fun r_4 he20 hq20 => ?_)
    obtain ⟨hz_r_4, hr_20⟩ := hq20
    replace hr_20 : ¬ r_4.toInt = 0 → v1.toInt ≤ (M_3 0 10).toInt ∧ (M_3 0 10).toInt ≤ v2.toInt := hr_20
    refine wp_ite (fun c23 => ?_) (fun c23 => ?_)
    · refine wp_cb2 (o_X10_wrongAt M_3 (nI 3) x_1) (fun r_5 M_6 he29 hq29 => ?_)
      obtain ⟨hz_r_5, hg_M_6, hw_29⟩ := hq29
      replace hw_29 : r_5.toInt = 0 := hw_29
      have := t_lit 3
      replace hg_M_6 : ∀ a i, ¬ ((a = 0 ∧ i = 9)) → M_6 a i = M_3 a i := hg_M_6
      refine wp_ite (fun c32 => ?_) (fun c32 => ?_)
      · exact wp_some ⟨b01_0, (fun a i q0 => ((hg_M_6 a i (fun h9 => q0 (Or.inr (Or.inl h9)))).trans ((hg_M_3 a i (fun z8 => q0 ((fun z9 => Or.elim z9 (fun h9 => Or.inl h9) (fun z9 => Or.elim z9 (fun h9 => Or.inr (Or.inl h9)) (fun h9 => Or.inr (Or.inr (h9))))) z8))).trans rfl)))⟩
      · exact wp_some ⟨b01_1, (fun a i q0 => ((hg_M_6 a i (fun h9 => q0 (Or.inr (Or.inl h9)))).trans ((hg_M_3 a i (fun z8 => q0 ((fun z9 => Or.elim z9 (fun h9 => Or.inl h9) (fun z9 => Or.elim z9 (fun h9 => Or.inr (Or.inl h9)) (fun h9 => Or.inr (Or.inr (h9))))) z8))).trans rfl)))⟩
    · exact wp_some ⟨b01_1, (fun a i q0 => ((hg_M_3 a i (fun z8 => q0 ((fun z9 => Or.elim z9 (fun h9 => Or.inl h9) (fun z9 => Or.elim z9 (fun h9 => Or.inr (Or.inl h9)) (fun h9 => Or.inr (Or.inr (h9))))) z8))).trans rfl))⟩
