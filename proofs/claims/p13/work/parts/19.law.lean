theorem o_X10_waitTop (M : Mem) (hP : PMm M) : Wp (f_X10_waitTop M) (fun q => ((ix (M 0 13) = 0 ∧ q.toInt = -1) ∨ (0 < ix (M 0 13) ∧ q.toInt = kd (M 7 (ix (M 0 13) - 1))))) := by
  have hb := pm_bd hP
  have hx := pm_ix hP
  refine wp_ite (fun c4 => ?_) (fun c4 => ?_)
  · exact wp_some (Or.inl ⟨by omega, by decide⟩)
  · have hd := i_dn (x := M 0 13) (by omega)
    have hd1 := i_dn1 (x := M 0 13) (by omega)
    refine wp_gd (by omega) ?_
    exact wp_some (Or.inr ⟨by omega, by rw [kd_div (by rw [hd1]; exact pm_top hP (by omega)), hd1]⟩)
theorem o_X10_notes (M : Mem) (v1 : Int32) (v2 : Int32) (hc : 0 ≤ (M 0 12).toInt ∧ (M 0 12).toInt < 260) : Wp (f_X10_notes M v1 v2) (fun q => (∀ a i, ¬ ((a = 0 ∧ i = 12) ∨ a = 6) → q a i = M a i) ∧ (q 0 12 = M 0 12 + nI 1) ∧ (q 6 (ix (M 0 12)) = (nI 1048576) * v1 + v2) ∧ (∀ k : Nat, ¬ k = ix (M 0 12) → q 6 k = M 6 k)) := by
  refine wp_gd hc ?_
  refine wp_bnd (fun M_1 eM_1 => ?_)
  refine wp_bnd (fun M_2 eM_2 => ?_)
  exact wp_some ⟨(fun a i q0 => ((congrFun (congrFun eM_2 a) i).trans ((mset_ne (fun h9 => q0 (Or.inl h9))).trans ((congrFun (congrFun eM_1 a) i).trans ((mset_ne (fun h9 => q0 (Or.inr ((h9).1)))).trans rfl))))), (by rw [eM_2, mset_eq, eM_1, mset_ne (by omega)]), (by rw [eM_2, mset_ne (by omega), eM_1, mset_eq]), (fun k hk => by rw [eM_2, mset_ne (by omega), eM_1, mset_ne (by omega)])⟩
set_option maxHeartbeats 2000000 in
theorem o_X10_closesSums (M : Mem) (v1 : Int32) (B : Mem) (hR : RS B M 1) : Wp (f_X10_closesSums M v1) (fun q => (∀ a i, ¬ ((a = 0 ∧ i = 12) ∨ (a = 0 ∧ i = 13) ∨ a = 6) → q a i = M a i) ∧ (RS B q 1) ∧ (ix (q 0 13) ≤ ix (M 0 13) ∧ ∀ t : Nat, ix (q 0 13) ≤ t → t < ix (M 0 13) → 2 ≤ kd (M 7 t) ∧ kd (M 7 t) ≤ 6) ∧ (¬ v1.toInt = 0 → ix (q 0 13) = 0 ∨ ¬ (2 ≤ kd (M 7 (ix (q 0 13) - 1)) ∧ kd (M 7 (ix (q 0 13) - 1)) ≤ 6))) := by
  refine wp_lp1 (fun M0 => (∀ a i, ¬ ((a = 0 ∧ i = 12) ∨ (a = 0 ∧ i = 13) ∨ a = 6) → M0 a i = M a i) ∧ (RS B M0 1) ∧ (ix (M0 0 13) ≤ ix (M 0 13) ∧ ∀ t : Nat, ix (M0 0 13) ≤ t → t < ix (M 0 13) → 2 ≤ kd (M 7 t) ∧ kd (M 7 t) ≤ 6)) (fun M0 => ix (M0 0 13)) (fun ag0 M0 hI0 ih0 => ?_) FU M ⟨(fun _ _ _ => rfl), hR, ⟨Nat.le_refl _, fun t h1 h2 => absurd h2 (by omega)⟩⟩ (fu_lt ((by have := pm_bd hR.1; have := pm_ix hR.1; omega)))
  obtain ⟨hf_M0, hR0, hw0⟩ := hI0
  have hb := pm_bd hR0.1
  have hx := pm_ix hR0.1
  have e7 : M0 7 = M 7 := funext (fun i => hf_M0 7 i (by omega))
  refine wp_bind2 (o_X10_waitTop M0 hR0.1) (fun r_1 he1 hq1 => ?_)
  have hr_1 := hq1
  replace hr_1 : (ix (M0 0 13) = 0 ∧ r_1.toInt = -1) ∨ (0 < ix (M0 0 13) ∧ r_1.toInt = kd (M0 7 (ix (M0 0 13) - 1))) := hr_1
  have j37 : (0 < ix (M0 0 13) ∧ 2 ≤ kd (M0 7 (ix (M0 0 13) - 1)) ∧ kd (M0 7 (ix (M0 0 13) - 1)) ≤ 6) → Wp (f_X10_closesSums_L37 ag0 M0) (fun q => (∀ a i, ¬ ((a = 0 ∧ i = 12) ∨ (a = 0 ∧ i = 13) ∨ a = 6) → q a i = M a i) ∧ (RS B q 1) ∧ (ix (q 0 13) ≤ ix (M 0 13) ∧ ∀ t : Nat, ix (q 0 13) ≤ t → t < ix (M 0 13) → 2 ≤ kd (M 7 t) ∧ kd (M 7 t) ≤ 6) ∧ (¬ v1.toInt = 0 → ix (q 0 13) = 0 ∨ ¬ (2 ≤ kd (M 7 (ix (q 0 13) - 1)) ∧ kd (M 7 (ix (q 0 13) - 1)) ≤ 6))) := by
    intro h37
    unfold f_X10_closesSums_L37
    refine wp_bind2 (o_X10_waitTop M0 hR0.1) (fun r_2 he39 hq39 => ?_)
    have hr_39 := hq39
    replace hr_39 : (ix (M0 0 13) = 0 ∧ r_2.toInt = -1) ∨ (0 < ix (M0 0 13) ∧ r_2.toInt = kd (M0 7 (ix (M0 0 13) - 1))) := hr_39
    refine wp_bind2 (o_X10_notes M0 r_2 (nI 0) (by omega)) (fun M_3 he43 hq43 => ?_)
    obtain ⟨hg_M_3, hn1_43, hn2_43, hn3_43⟩ := hq43
    replace hn1_43 : M_3 0 12 = M0 0 12 + nI 1 := hn1_43
    have := t_lit 0
    replace hn2_43 : M_3 6 (ix (M0 0 12)) = (nI 1048576) * r_2 + (nI 0) := hn2_43
    have := t_lit 0
    replace hn3_43 : ∀ k : Nat, ¬ k = ix (M0 0 12) → M_3 6 k = M0 6 k := hn3_43
    have := t_lit 0
    replace hg_M_3 : ∀ a i, ¬ ((a = 0 ∧ i = 12) ∨ a = 6) → M_3 a i = M0 a i := hg_M_3
    refine wp_bnd (fun M_4 eM_4 => ?_)
    have q12 : M_4 0 12 = M0 0 12 + nI 1 := by rw [eM_4, mset_ne (by omega)]; exact hn1_43
    have q13 : M_4 0 13 = M0 0 13 - nI 1 := by rw [eM_4, mset_eq, hg_M_3 0 13 (by omega)]
    have q7 : M_4 0 7 = M0 0 7 := by rw [eM_4, mset_ne (by omega), hg_M_3 0 7 (by omega)]
    have q8 : M_4 0 8 = M0 0 8 := by rw [eM_4, mset_ne (by omega), hg_M_3 0 8 (by omega)]
    have qr7 : M_4 7 = M0 7 := funext (fun i => by rw [eM_4, mset_ne (by omega), hg_M_3 7 i (by omega)])
    have qr6 : ∀ k, ¬ k = ix (M0 0 12) → M_4 6 k = M0 6 k := fun k hk => by rw [eM_4, mset_ne (by omega)]; exact hn3_43 k hk
    have qv : M_4 6 (ix (M0 0 12)) = _ := (by rw [eM_4, mset_ne (by omega)]; exact hn2_43 : M_4 6 (ix (M0 0 12)) = (nI 1048576) * r_2 + (nI 0))
    have qd := i_dn (x := M0 0 13) (by omega)
    have hwd := wd_is (a := r_2) (b := nI 0) (by omega) (by decide)
    exact ih0 M_4 ⟨(fun a i q0 => ((congrFun (congrFun eM_4 a) i).trans ((mset_ne (fun h9 => q0 (Or.inr (Or.inl h9)))).trans ((hg_M_3 a i (fun z8 => q0 ((fun z9 => Or.elim z9 (fun h9 => Or.inl h9) (fun h9 => Or.inr (Or.inr (h9)))) z8))).trans ((hf_M0 a i (fun z8 => q0 ((fun z9 => Or.elim z9 (fun h9 => Or.inl h9) (fun z9 => Or.elim z9 (fun h9 => Or.inr (Or.inl h9)) (fun h9 => Or.inr (Or.inr (h9))))) z8))).trans rfl))))), (rs_popn hR0 h37.1 h37.2 q12 q13 q7 q8 qr7 qr6 (by rw [qv]; exact hwd.1) (by rw [qv, hwd.2.2.1]; omega)), (by rw [q13]; exact pop_w hw0 qd.1 (by rw [← e7]; exact h37.2))⟩ (by rw [q13]; omega)
  have j17 : (ix (M0 0 13) = 0 ∨ ¬ (4 ≤ kd (M0 7 (ix (M0 0 13) - 1)) ∧ kd (M0 7 (ix (M0 0 13) - 1)) ≤ 6)) → Wp (f_X10_closesSums_L17 v1 ag0 M0) (fun q => (∀ a i, ¬ ((a = 0 ∧ i = 12) ∨ (a = 0 ∧ i = 13) ∨ a = 6) → q a i = M a i) ∧ (RS B q 1) ∧ (ix (q 0 13) ≤ ix (M 0 13) ∧ ∀ t : Nat, ix (q 0 13) ≤ t → t < ix (M 0 13) → 2 ≤ kd (M 7 t) ∧ kd (M 7 t) ≤ 6) ∧ (¬ v1.toInt = 0 → ix (q 0 13) = 0 ∨ ¬ (2 ≤ kd (M 7 (ix (q 0 13) - 1)) ∧ kd (M 7 (ix (q 0 13) - 1)) ≤ 6))) := by
    intro h17
    unfold f_X10_closesSums_L17
    refine wp_ite (fun c18 => ?_) (fun c18 => ?_)
    · exact wp_some ⟨(fun a i q0 => ((hf_M0 a i (fun z8 => q0 ((fun z9 => Or.elim z9 (fun h9 => Or.inl h9) (fun z9 => Or.elim z9 (fun h9 => Or.inr (Or.inl h9)) (fun h9 => Or.inr (Or.inr (h9))))) z8))).trans rfl)), hR0, hw0, (fun z => absurd c18 z)⟩
    · refine wp_bind2 (o_X10_waitTop M0 hR0.1) (fun r_5 he22 hq22 => ?_)
      have hr_22 := hq22
      replace hr_22 : (ix (M0 0 13) = 0 ∧ r_5.toInt = -1) ∨ (0 < ix (M0 0 13) ∧ r_5.toInt = kd (M0 7 (ix (M0 0 13) - 1))) := hr_22
      refine wp_ite (fun c26 => ?_) (fun c26 => ?_)
      · exact j37 (by omega)
      · refine wp_bind2 (o_X10_waitTop M0 hR0.1) (fun r_6 he30 hq30 => ?_)
        have hr_30 := hq30
        replace hr_30 : (ix (M0 0 13) = 0 ∧ r_6.toInt = -1) ∨ (0 < ix (M0 0 13) ∧ r_6.toInt = kd (M0 7 (ix (M0 0 13) - 1))) := hr_30
        refine wp_ite (fun c34 => ?_) (fun c34 => ?_)
        · exact j37 (by omega)
        · exact wp_some ⟨(fun a i q0 => ((hf_M0 a i (fun z8 => q0 ((fun z9 => Or.elim z9 (fun h9 => Or.inl h9) (fun z9 => Or.elim z9 (fun h9 => Or.inr (Or.inl h9)) (fun h9 => Or.inr (Or.inr (h9))))) z8))).trans rfl)), hR0, hw0, (fun _ => by rw [← e7]; omega)⟩
  refine wp_ite (fun c5 => ?_) (fun c5 => ?_)
  · exact j17 (by omega)
  · refine wp_bind2 (o_X10_waitTop M0 hR0.1) (fun r_7 he9 hq9 => ?_)
    have hr_9 := hq9
    replace hr_9 : (ix (M0 0 13) = 0 ∧ r_7.toInt = -1) ∨ (0 < ix (M0 0 13) ∧ r_7.toInt = kd (M0 7 (ix (M0 0 13) - 1))) := hr_9
    refine wp_ite (fun c14 => ?_) (fun c14 => ?_)
    · exact j37 (by omega)
    · exact j17 (by omega)
set_option maxHeartbeats 2000000 in
theorem o_X10_endsPiece (M : Mem) (B : Mem) (hT : TM B M 1) : Wp (f_X10_endsPiece M) (fun q => (∀ a i, ¬ ((a = 0 ∧ i = 11) ∨ (a = 0 ∧ i = 12) ∨ (a = 0 ∧ i = 13) ∨ a = 6) → q a i = M a i) ∧ (TM B q 1)) := by
  refine wp_lp1 (fun M0 => (∀ a i, ¬ ((a = 0 ∧ i = 11) ∨ (a = 0 ∧ i = 12) ∨ (a = 0 ∧ i = 13) ∨ a = 6) → M0 a i = M a i) ∧ (TM B M0 1)) (fun M0 => ix (M0 0 13)) (fun ag0 M0 hI0 ih0 => ?_) FU M ⟨(fun _ _ _ => rfl), hT⟩ (fu_lt ((by have := pm_bd hT.1; have := pm_ix hT.1; omega)))
  obtain ⟨hf_M0, hT0⟩ := hI0
  have hb := pm_bd hT0.1
  have hx := pm_ix hT0.1
  have hw1 := hT0.2.1.2.1
  refine wp_bind2 (o_X10_waitTop M0 hT0.1) (fun r_1 he1 hq1 => ?_)
  have hr_1 := hq1
  replace hr_1 : (ix (M0 0 13) = 0 ∧ r_1.toInt = -1) ∨ (0 < ix (M0 0 13) ∧ r_1.toInt = kd (M0 7 (ix (M0 0 13) - 1))) := hr_1
  refine wp_ite (fun c6 => ?_) (fun c6 => ?_)
  · refine wp_bind2 (o_X10_notes M0 (nI 10) (nI 0) (by omega)) (fun M_2 he13 hq13 => ?_)
    obtain ⟨hg_M_2, hn1_13, hn2_13, hn3_13⟩ := hq13
    replace hn1_13 : M_2 0 12 = M0 0 12 + nI 1 := hn1_13
    have := t_lit 10
    have := t_lit 0
    replace hn2_13 : M_2 6 (ix (M0 0 12)) = (nI 1048576) * (nI 10) + (nI 0) := hn2_13
    have := t_lit 10
    have := t_lit 0
    replace hn3_13 : ∀ k : Nat, ¬ k = ix (M0 0 12) → M_2 6 k = M0 6 k := hn3_13
    have := t_lit 10
    have := t_lit 0
    replace hg_M_2 : ∀ a i, ¬ ((a = 0 ∧ i = 12) ∨ a = 6) → M_2 a i = M0 a i := hg_M_2
    refine wp_bnd (fun M_3 eM_3 => ?_)
    refine wp_bnd (fun M_4 eM_4 => ?_)
    have q12 : M_4 0 12 = M0 0 12 + nI 1 := by rw [eM_4, mset_ne (by omega), eM_3, mset_ne (by omega)]; exact hn1_13
    have q13 : M_4 0 13 = M0 0 13 - nI 1 := by rw [eM_4, mset_ne (by omega), eM_3, mset_eq, hg_M_2 0 13 (by omega)]
    have q7 : M_4 0 7 = M0 0 7 := by rw [eM_4, mset_ne (by omega), eM_3, mset_ne (by omega), hg_M_2 0 7 (by omega)]
    have q8 : M_4 0 8 = M0 0 8 := by rw [eM_4, mset_ne (by omega), eM_3, mset_ne (by omega), hg_M_2 0 8 (by omega)]
    have qr7 : M_4 7 = M0 7 := funext (fun i => by rw [eM_4, mset_ne (by omega), eM_3, mset_ne (by omega), hg_M_2 7 i (by omega)])
    have qr6 : ∀ k, ¬ k = ix (M0 0 12) → M_4 6 k = M0 6 k := fun k hk => by rw [eM_4, mset_ne (by omega), eM_3, mset_ne (by omega)]; exact hn3_13 k hk
    have qv : M_4 6 (ix (M0 0 12)) = _ := (by rw [eM_4, mset_ne (by omega), eM_3, mset_ne (by omega)]; exact hn2_13 : M_4 6 (ix (M0 0 12)) = (nI 1048576) * (nI 10) + (nI 0))
    have qd := i_dn (x := M0 0 13) (by omega)
    have hwd := wd_is (a := nI 10) (b := nI 0) (by decide) (by decide)
    exact ih0 M_4 ⟨(fun a i q0 => ((congrFun (congrFun eM_4 a) i).trans ((mset_ne (fun h9 => q0 (Or.inl h9))).trans ((congrFun (congrFun eM_3 a) i).trans ((mset_ne (fun h9 => q0 (Or.inr (Or.inr (Or.inl h9))))).trans ((hg_M_2 a i (fun z8 => q0 ((fun z9 => Or.elim z9 (fun h9 => Or.inr (Or.inl h9)) (fun h9 => Or.inr (Or.inr (Or.inr (h9))))) z8))).trans ((hf_M0 a i (fun z8 => q0 ((fun z9 => Or.elim z9 (fun h9 => Or.inl h9) (fun z9 => Or.elim z9 (fun h9 => Or.inr (Or.inl h9)) (fun z9 => Or.elim z9 (fun h9 => Or.inr (Or.inr (Or.inl h9))) (fun h9 => Or.inr (Or.inr (Or.inr (h9))))))) z8))).trans rfl))))))), (tmm_not hT0 (by omega) q12 q13 q7 q8 qr7 qr6 (by rw [qv]; exact hwd.1) (by rw [qv, hwd.2.2.1]; exact t_lit 10))⟩ (by rw [q13]; omega)
  · exact wp_some ⟨(fun a i q0 => ((hf_M0 a i (fun z8 => q0 ((fun z9 => Or.elim z9 (fun h9 => Or.inl h9) (fun z9 => Or.elim z9 (fun h9 => Or.inr (Or.inl h9)) (fun z9 => Or.elim z9 (fun h9 => Or.inr (Or.inr (Or.inl h9))) (fun h9 => Or.inr (Or.inr (Or.inr (h9))))))) z8))).trans rfl)), hT0⟩
theorem o2_X10_factOf (M : Mem) (v0 : Int32) : Wp (f_X10_factOf v0) (fun q => (q.toInt = -1 ∨ (0 ≤ q.toInt ∧ q.toInt ≤ 7 ∧ 100 ≤ v0.toInt))) := by
  refine wp_ite (fun c1 => ?_) (fun c1 => ?_)
  · exact wp_some (by show (nI 4).toInt = -1 ∨ (0 ≤ (nI 4).toInt ∧ (nI 4).toInt ≤ 7 ∧ 100 ≤ v0.toInt); have f0 := t_lit 4; omega)
  · refine wp_ite (fun c1 => ?_) (fun c1 => ?_)
    · exact wp_some (by show (nI 7).toInt = -1 ∨ (0 ≤ (nI 7).toInt ∧ (nI 7).toInt ≤ 7 ∧ 100 ≤ v0.toInt); have f0 := t_lit 7; omega)
    · refine wp_ite (fun c2 => ?_) (fun c2 => ?_)
      · exact wp_some (by show (nI 0).toInt = -1 ∨ (0 ≤ (nI 0).toInt ∧ (nI 0).toInt ≤ 7 ∧ 100 ≤ v0.toInt); have f0 := t_lit 0; omega)
      · refine wp_ite (fun c3 => ?_) (fun c3 => ?_)
        · exact wp_some (by show (nI 5).toInt = -1 ∨ (0 ≤ (nI 5).toInt ∧ (nI 5).toInt ≤ 7 ∧ 100 ≤ v0.toInt); have f0 := t_lit 5; omega)
        · refine wp_ite (fun c4 => ?_) (fun c4 => ?_)
          · exact wp_some (by show (nI 6).toInt = -1 ∨ (0 ≤ (nI 6).toInt ∧ (nI 6).toInt ≤ 7 ∧ 100 ≤ v0.toInt); have f0 := t_lit 6; omega)
          · refine wp_ite (fun c5 => ?_) (fun c5 => ?_)
            · exact wp_some (by show (nI 3).toInt = -1 ∨ (0 ≤ (nI 3).toInt ∧ (nI 3).toInt ≤ 7 ∧ 100 ≤ v0.toInt); have f0 := t_lit 3; omega)
            · refine wp_ite (fun c6 => ?_) (fun c6 => ?_)
              · exact wp_some (by show (nI 1).toInt = -1 ∨ (0 ≤ (nI 1).toInt ∧ (nI 1).toInt ≤ 7 ∧ 100 ≤ v0.toInt); have f0 := t_lit 1; omega)
              · refine wp_ite (fun c7 => ?_) (fun c7 => ?_)
                · exact wp_some (by show (nI 2).toInt = -1 ∨ (0 ≤ (nI 2).toInt ∧ (nI 2).toInt ≤ 7 ∧ 100 ≤ v0.toInt); have f0 := t_lit 2; omega)
                · exact wp_some (by show (-1 : Int32).toInt = -1 ∨ (0 ≤ (-1 : Int32).toInt ∧ (-1 : Int32).toInt ≤ 7 ∧ 100 ≤ v0.toInt); have f0 := (by decide : ((-1 : Int32)).toInt = -1); have f1 := (by decide : ((-1 : Int32)).toInt = -1); omega)
theorem o_X10_hasOpenSum (M : Mem) (v1 : Int32) (hP : PMm M) (hv : 0 ≤ v1.toInt) : Wp (f_X10_hasOpenSum M v1) (fun q => (q = 0 ∨ q = 1) ∧ ((q.toInt = 0 → ∀ t : Nat, ix v1 ≤ t → t < ix (M 0 13) → ¬ kd (M 7 t) = 14) ∧ (¬ q.toInt = 0 → ∃ t : Nat, ix v1 ≤ t ∧ t < ix (M 0 13) ∧ kd (M 7 t) = 14))) := by
  have hb := pm_bd hP
  have hx := pm_ix hP
  have fv := t_ixn v1 hv
  refine wp_lp1 (fun y2_2 => (v1.toInt ≤ y2_2.toInt) ∧ (∀ t : Nat, ix v1 ≤ t → t < ix y2_2 → t < ix (M 0 13) → ¬ kd (M 7 t) = 14)) (fun y2_2 => ((M 0 13).toInt - y2_2.toInt).toNat) (fun ag2 y2_2 hI2 ih2 => ?_) FU v1 ⟨(Int.le_refl _), (fun t h1 h2 => absurd h2 (by omega))⟩ (fu_lt ((by omega)))
  obtain ⟨h2, hn2⟩ := hI2
  refine wp_ite (fun c7 => ?_) (fun c7 => ?_)
  · exact wp_some ⟨b01_0, ⟨fun _ t h1 h2 => hn2 t h1 (by have := t_ixn y2_2 (by omega); omega) h2, fun z => absurd nI0 z⟩⟩
  · have fy := t_ixn y2_2 (by omega)
    have hk : ((M 7 (ix y2_2)) / (nI 1048576)).toInt = kd (M 7 (ix y2_2)) := kd_div (pm_top hP (by omega))
    have hi := i_up (x := y2_2) (by omega)
    refine wp_gd (by omega) ?_
    refine wp_ite (fun c21 => ?_) (fun c21 => ?_)
    · exact wp_some ⟨b01_1, ⟨fun z => absurd z (by decide), fun _ => ⟨ix y2_2, by omega, by omega, by rw [← hk]; exact c21⟩⟩⟩
    · exact ih2 (y2_2 + (nI 1)) ⟨(by omega), (fun t h1 h2 h3 => by rw [hi.1] at h2; by_cases e9 : t = ix y2_2; (rw [e9, ← hk]; exact c21); exact hn2 t h1 (by omega) h3)⟩ (by omega)
set_option maxHeartbeats 2000000 in
theorem o_X10_jumps (M : Mem) (v1 : Int32) (B : Mem) (hT : TM B M 1) (hv : v1.toInt = 11 ∨ v1.toInt = 12) (hl : (M 0 7).toInt < (M 0 8).toInt) : Wp (f_X10_jumps M v1) (fun q => (∀ a i, ¬ ((a = 0 ∧ i = 7) ∨ (a = 0 ∧ i = 12) ∨ (a = 0 ∧ i = 13) ∨ a = 6 ∨ a = 7) → q a i = M a i) ∧ (TM B q 0) ∧ (q 0 7 = M 0 7 + nI 1)) := by
  have hb := pm_bd hT.1
  have hx := pm_ix hT.1
  have hw1 := wd_is (a := v1) (b := nI 0) (by omega) (by decide)
  have hw2 := wd_is (a := v1) (b := M 0 12) (by omega) (by omega)
  refine wp_gd (by omega) ?_
  refine wp_bnd (fun M_1 eM_1 => ?_)
  refine wp_bnd (fun M_2 eM_2 => ?_)
  have a12 : M_2 0 12 = M 0 12 := by rw [eM_2, mset_ne (by omega), eM_1, mset_ne (by omega)]
  refine wp_bind2 (o_X10_notes M_2 v1 (nI 0) (by rw [a12]; omega)) (fun M_3 he31 hq31 => ?_)
  obtain ⟨hg_M_3, hn1_31, hn2_31, hn3_31⟩ := hq31
  replace hn1_31 : M_3 0 12 = M_2 0 12 + nI 1 := hn1_31
  have := t_lit 0
  replace hn2_31 : M_3 6 (ix (M_2 0 12)) = (nI 1048576) * v1 + (nI 0) := hn2_31
  have := t_lit 0
  replace hn3_31 : ∀ k : Nat, ¬ k = ix (M_2 0 12) → M_3 6 k = M_2 6 k := hn3_31
  have := t_lit 0
  replace hg_M_3 : ∀ a i, ¬ ((a = 0 ∧ i = 12) ∨ a = 6) → M_3 a i = M_2 a i := hg_M_3
  refine wp_bnd (fun M_4 eM_4 => ?_)
  have q12 : M_4 0 12 = M 0 12 + nI 1 := by rw [eM_4, mset_ne (by omega), hn1_31, a12]
  have q13 : M_4 0 13 = M 0 13 + nI 1 := by rw [eM_4, mset_ne (by omega), hg_M_3 0 13 (by omega), eM_2, mset_eq, eM_1, mset_ne (by omega)]
  have q7 : M_4 0 7 = M 0 7 + nI 1 := by rw [eM_4, mset_eq, hg_M_3 0 7 (by omega), eM_2, mset_ne (by omega), eM_1, mset_ne (by omega)]
  have q8 : M_4 0 8 = M 0 8 := by rw [eM_4, mset_ne (by omega), hg_M_3 0 8 (by omega), eM_2, mset_ne (by omega), eM_1, mset_ne (by omega)]
  have qr7 : M_4 7 = upd (M 7) (ix (M 0 13)) ((nI 1048576) * v1 + M 0 12) := funext (fun i => by rw [eM_4, mset_ne (by omega), hg_M_3 7 i (by omega), eM_2, mset_ne (by omega), eM_1, mset_s])
  have qr6 : ∀ k, ¬ k = ix (M 0 12) → M_4 6 k = M 6 k := fun k hk => by rw [eM_4, mset_ne (by omega), hn3_31 k (by rw [a12]; exact hk), eM_2, mset_ne (by omega), eM_1, mset_ne (by omega)]
  have qv : M_4 6 (ix (M 0 12)) = (nI 1048576) * v1 + (nI 0) := by rw [eM_4, mset_ne (by omega), ← a12]; exact hn2_31
  exact wp_some ⟨(fun a i q0 => ((congrFun (congrFun eM_4 a) i).trans ((mset_ne (fun h9 => q0 (Or.inl h9))).trans ((hg_M_3 a i (fun z8 => q0 ((fun z9 => Or.elim z9 (fun h9 => Or.inr (Or.inl h9)) (fun h9 => Or.inr (Or.inr (Or.inr (Or.inl h9))))) z8))).trans ((congrFun (congrFun eM_2 a) i).trans ((mset_ne (fun h9 => q0 (Or.inr (Or.inr (Or.inl h9))))).trans ((congrFun (congrFun eM_1 a) i).trans ((mset_ne (fun h9 => q0 (Or.inr (Or.inr (Or.inr (Or.inr ((h9).1))))))).trans rfl)))))))), (tmm_jump hT hl q13 qr7 q7 q12 q8 qr6 (by rw [qv]; exact hw1.1) (by rw [qv, hw1.2.2.1]; exact hv) ⟨hw2.1, hw2.2.1⟩ (by rw [hw2.2.2.1]; exact hv) hw2.2.2.2), q7⟩
set_option maxHeartbeats 2000000 in
theorem o_X10_lands (M : Mem) (v1 : Int32) (B : Mem) (hT : TM B M 1) : Wp (f_X10_lands M v1) (fun q => (∀ a i, ¬ ((a = 0 ∧ i = 13) ∨ a = 6) → q a i = M a i) ∧ (TM B q 1) ∧ (¬ v1.toInt = 0 → ¬ (kd (q 7 (ix (q 0 13) - 1)) = 11 ∨ kd (q 7 (ix (q 0 13) - 1)) = 12))) := by
  refine wp_lp1 (fun M0 => (∀ a i, ¬ ((a = 0 ∧ i = 13) ∨ a = 6) → M0 a i = M a i) ∧ (TM B M0 1)) (fun M0 => ix (M0 0 13)) (fun ag0 M0 hI0 ih0 => ?_) FU M ⟨(fun _ _ _ => rfl), hT⟩ (fu_lt ((by have := pm_bd hT.1; have := pm_ix hT.1; omega)))
  obtain ⟨hf_M0, hT0⟩ := hI0
  have hb := pm_bd hT0.1
  have hx := pm_ix hT0.1
  have hw1 := hT0.2.1.2.1
  refine wp_bind2 (o_X10_waitTop M0 hT0.1) (fun r_1 he1 hq1 => ?_)
  have hr_1 := hq1
  replace hr_1 : (ix (M0 0 13) = 0 ∧ r_1.toInt = -1) ∨ (0 < ix (M0 0 13) ∧ r_1.toInt = kd (M0 7 (ix (M0 0 13) - 1))) := hr_1
  have j22 : (kd (M0 7 (ix (M0 0 13) - 1)) = 11 ∨ kd (M0 7 (ix (M0 0 13) - 1)) = 12) → Wp (f_X10_lands_L22 ag0 M0) (fun q => (∀ a i, ¬ ((a = 0 ∧ i = 13) ∨ a = 6) → q a i = M a i) ∧ (TM B q 1) ∧ (¬ v1.toInt = 0 → ¬ (kd (q 7 (ix (q 0 13) - 1)) = 11 ∨ kd (q 7 (ix (q 0 13) - 1)) = 12))) := by
    intro h22
    unfold f_X10_lands_L22
    have hd := i_dn (x := M0 0 13) (by omega)
    have hd1 := i_dn1 (x := M0 0 13) (by omega)
    have hpn := tmm_pend hT0 h22
    refine wp_gd (by omega) ?_
    refine wp_bnd (fun x_2 ex_2 => ?_)
    have hx2 : x_2.toInt = vl (M0 7 (ix (M0 0 13) - 1)) := by rw [ex_2, vl_rm (by rw [hd1]; exact pm_top hT0.1 (by omega)), hd1]
    have fx2 := t_ixn x_2 (by omega)
    have hi2 : (vl (M0 7 (ix (M0 0 13) - 1))).toNat = ix x_2 := by omega
    rw [hi2] at hpn
    have hk6 := kd_div hpn.2.2.2.2
    have hwd := wd_is (a := M0 6 (ix x_2) / nI 1048576) (b := M0 0 12) (by omega) (by omega)
    refine wp_gd (by omega) ?_
    refine wp_gd (by omega) ?_
    refine wp_bnd (fun M_3 eM_3 => ?_)
    refine wp_bnd (fun M_4 eM_4 => ?_)
    have q12 : M_4 0 12 = M0 0 12 := by rw [eM_4, mset_ne (by omega), eM_3, mset_ne (by omega)]
    have q13 : M_4 0 13 = M0 0 13 - nI 1 := by rw [eM_4, mset_eq, eM_3, mset_ne (by omega)]
    have q7 : M_4 0 7 = M0 0 7 := by rw [eM_4, mset_ne (by omega), eM_3, mset_ne (by omega)]
    have q8 : M_4 0 8 = M0 0 8 := by rw [eM_4, mset_ne (by omega), eM_3, mset_ne (by omega)]
    have qr7 : M_4 7 = M0 7 := funext (fun i => by rw [eM_4, mset_ne (by omega), eM_3, mset_ne (by omega)])
    have qr6 : ∀ k, ¬ k = ix x_2 → M_4 6 k = M0 6 k := fun k hk => by rw [eM_4, mset_ne (by omega), eM_3, mset_ne (by omega)]
    have qv : M_4 6 (ix x_2) = (nI 1048576) * (M0 6 (ix x_2) / (nI 1048576)) + M0 0 12 := by rw [eM_4, mset_ne (by omega), eM_3, mset_eq]
    have hT4 : TM B M_4 1 := tmm_land hT0 h22 q12 q13 q7 q8 qr7 (by rw [hi2]; exact qr6) (by rw [hi2, qv]; exact hwd.1) (by rw [hi2, qv, hwd.2.2.1]; exact hk6) (by rw [hi2, qv]; exact hwd.2.2.2)
    exact ih0 M_4 ⟨(fun a i q0 => ((congrFun (congrFun eM_4 a) i).trans ((mset_ne (fun h9 => q0 (Or.inl h9))).trans ((congrFun (congrFun eM_3 a) i).trans ((mset_ne (fun h9 => q0 (Or.inr ((h9).1)))).trans ((hf_M0 a i (fun z8 => q0 ((fun z9 => Or.elim z9 (fun h9 => Or.inl h9) (fun h9 => Or.inr (h9))) z8))).trans rfl)))))), hT4⟩ (by rw [q13]; omega)
  refine wp_ite (fun c6 => ?_) (fun c6 => ?_)
  · exact j22 (by omega)
  · refine wp_ite (fun c10 => ?_) (fun c10 => ?_)
    · exact wp_some ⟨(fun a i q0 => ((hf_M0 a i (fun z8 => q0 ((fun z9 => Or.elim z9 (fun h9 => Or.inl h9) (fun h9 => Or.inr (h9))) z8))).trans rfl)), hT0, (fun z => absurd c10 z)⟩
    · refine wp_bind2 (o_X10_waitTop M0 hT0.1) (fun r_5 he14 hq14 => ?_)
      have hr_14 := hq14
      replace hr_14 : (ix (M0 0 13) = 0 ∧ r_5.toInt = -1) ∨ (0 < ix (M0 0 13) ∧ r_5.toInt = kd (M0 7 (ix (M0 0 13) - 1))) := hr_14
      refine wp_ite (fun c19 => ?_) (fun c19 => ?_)
      · exact j22 (by omega)
      · exact wp_some ⟨(fun a i q0 => ((hf_M0 a i (fun z8 => q0 ((fun z9 => Or.elim z9 (fun h9 => Or.inl h9) (fun h9 => Or.inr (h9))) z8))).trans rfl)), hT0, (fun _ => by omega)⟩
theorem o_X10_opens (M : Mem) (v1 : Int32) (hP : PMm M) : Wp (f_X10_opens M v1) (fun q => (q.1 = 0 ∨ q.1 = 1) ∧ (∀ a i, ¬ ((a = 0 ∧ i = 7) ∨ (a = 0 ∧ i = 9) ∨ (a = 0 ∧ i = 11) ∨ (a = 0 ∧ i = 13) ∨ a = 7) → q.2 a i = M a i) ∧ (¬ q.1.toInt = 0 → q.2 0 13 = M 0 13 + nI 1 ∧ q.2 7 = upd (M 7) (ix (M 0 13)) ((nI 1048576) * v1) ∧ q.2 0 7 = M 0 7 + nI 1)) := by
  have hb := pm_bd hP
  refine wp_ite (fun c6 => ?_) (fun c6 => ?_)
  · refine wp_cb2 (o_X10_wrongAt M (nI 5) (M 0 7)) (fun r_5 M_6 he15 hq15 => ?_)
    obtain ⟨hz_r_5, hg_M_6, hw_15⟩ := hq15
    replace hw_15 : r_5.toInt = 0 := hw_15
    have := t_lit 5
    replace hg_M_6 : ∀ a i, ¬ ((a = 0 ∧ i = 9)) → M_6 a i = M a i := hg_M_6
    refine wp_gb hz_r_5 ?_
    exact wp_some ⟨hz_r_5, (fun a i q0 => ((hg_M_6 a i (fun h9 => q0 (Or.inr (Or.inl h9)))).trans rfl)), (fun z => absurd hw_15 z)⟩
  · refine wp_bnd (fun M_1 eM_1 => ?_)
    refine wp_gd (by rw [eM_1, mset_ne (by omega)]; omega) ?_
    refine wp_bnd (fun M_2 eM_2 => ?_)
    refine wp_bnd (fun M_3 eM_3 => ?_)
    refine wp_bnd (fun M_4 eM_4 => ?_)
    exact wp_some ⟨b01_1, (fun a i q0 => ((congrFun (congrFun eM_4 a) i).trans ((mset_ne (fun h9 => q0 (Or.inl h9))).trans ((congrFun (congrFun eM_3 a) i).trans ((mset_ne (fun h9 => q0 (Or.inr (Or.inr (Or.inr (Or.inl h9)))))).trans ((congrFun (congrFun eM_2 a) i).trans ((mset_ne (fun h9 => q0 (Or.inr (Or.inr (Or.inr (Or.inr ((h9).1))))))).trans ((congrFun (congrFun eM_1 a) i).trans ((mset_ne (fun h9 => q0 (Or.inr (Or.inr (Or.inl h9))))).trans rfl))))))))), (fun _ => by show M_4 0 13 = M 0 13 + nI 1 ∧ M_4 7 = upd (M 7) (ix (M 0 13)) ((nI 1048576) * v1) ∧ M_4 0 7 = M 0 7 + nI 1; exact opens_is eM_1 eM_2 eM_3 eM_4)⟩
set_option maxHeartbeats 4000000 in
theorem o_X10_readsFactor (M : Mem) (B : Mem) (hR : RS B M 0) : Wp (f_X10_readsFactor M) (fun q => (q.1 = 0 ∨ q.1 = 1) ∧ (∀ a i, ¬ ((a = 0 ∧ i = 7) ∨ (a = 0 ∧ i = 9) ∨ (a = 0 ∧ i = 10) ∨ (a = 0 ∧ i = 11) ∨ (a = 0 ∧ i = 12) ∨ (a = 0 ∧ i = 13) ∨ a = 6 ∨ a = 7) → q.2 a i = M a i) ∧ (¬ q.1.toInt = 0 → RS B q.2 1 ∧ (M 0 7).toInt < (q.2 0 7).toInt)) := by
  refine wp_lp1 (fun M0 => (∀ a i, ¬ ((a = 0 ∧ i = 7) ∨ (a = 0 ∧ i = 9) ∨ (a = 0 ∧ i = 11) ∨ (a = 0 ∧ i = 13) ∨ a = 7) → M0 a i = M a i) ∧ (RS B M0 0) ∧ ((M 0 7).toInt ≤ (M0 0 7).toInt)) (fun M0 => ((M0 0 8).toInt - (M0 0 7).toInt).toNat) (fun ag0 M0 hI0 ih0 => ?_) FU M ⟨(fun _ _ _ => rfl), hR, (Int.le_refl _)⟩ (fu_lt ((by have := pm_bd hR.1; omega)))
  obtain ⟨hf_M0, hR0, hp0⟩ := hI0
  have hb := pm_bd hR0.1
  have hx := pm_ix hR0.1
  refine wp_bind2 (o_X10_here M0 (pm_hp hR0.1)) (fun r_1 he1 hq1 => ?_)
  have hh_1 := hq1
  replace hh_1 : (r_1.toInt = -1 ∧ (M0 0 7).toInt = (M0 0 8).toInt) ∨ (0 ≤ r_1.toInt ∧ r_1.toInt ≤ 255 ∧ (M0 0 7).toInt < (M0 0 8).toInt) := hh_1
  have j20 : Wp (f_X10_readsFactor_L20 M0) (fun q => (q.1 = 0 ∨ q.1 = 1) ∧ (∀ a i, ¬ ((a = 0 ∧ i = 7) ∨ (a = 0 ∧ i = 9) ∨ (a = 0 ∧ i = 10) ∨ (a = 0 ∧ i = 11) ∨ (a = 0 ∧ i = 12) ∨ (a = 0 ∧ i = 13) ∨ a = 6 ∨ a = 7) → q.2 a i = M a i) ∧ (¬ q.1.toInt = 0 → RS B q.2 1 ∧ (M 0 7).toInt < (q.2 0 7).toInt)) := by
    unfold f_X10_readsFactor_L20
    refine wp_bind2 (o_X10_isDigit M0 (pm_hp hR0.1)) (fun r_2 he21 hq21 => ?_)
    obtain ⟨hz_r_2, hd_21⟩ := hq21
    replace hd_21 : ¬ r_2.toInt = 0 → (M0 0 7).toInt < (M0 0 8).toInt ∧ ∀ d, f_X10_here M0 = some d → 48 ≤ d.toInt ∧ d.toInt ≤ 57 := hd_21
    refine wp_ite (fun c24 => ?_) (fun c24 => ?_)
    · refine wp_bind2 (o_X10_here M0 (pm_hp hR0.1)) (fun r_3 he48 hq48 => ?_)
      have hh_48 := hq48
      replace hh_48 : (r_3.toInt = -1 ∧ (M0 0 7).toInt = (M0 0 8).toInt) ∨ (0 ≤ r_3.toInt ∧ r_3.toInt ≤ 255 ∧ (M0 0 7).toInt < (M0 0 8).toInt) := hh_48
      refine wp_bind2 (o2_X10_factOf M0 r_3) (fun r_4 he51 hq51 => ?_)
      have hr_51 := hq51
      replace hr_51 : r_4.toInt = -1 ∨ (0 ≤ r_4.toInt ∧ r_4.toInt ≤ 7 ∧ 100 ≤ r_3.toInt) := hr_51
      refine wp_ite (fun c57 => ?_) (fun c57 => ?_)
      · refine wp_cb2 (o_X10_wrongAt M0 (nI 1) (M0 0 7)) (fun r_7 M_8 he66 hq66 => ?_)
        obtain ⟨hz_r_7, hg_M_8, hw_66⟩ := hq66
        replace hw_66 : r_7.toInt = 0 := hw_66
        have := t_lit 1
        replace hg_M_8 : ∀ a i, ¬ ((a = 0 ∧ i = 9)) → M_8 a i = M0 a i := hg_M_8
        refine wp_gb hz_r_7 ?_
        exact wp_some ⟨hz_r_7, (fun a i q0 => ((hg_M_8 a i (fun h9 => q0 (Or.inr (Or.inl h9)))).trans ((hf_M0 a i (fun z8 => q0 ((fun z9 => Or.elim z9 (fun h9 => Or.inl h9) (fun z9 => Or.elim z9 (fun h9 => Or.inr (Or.inl h9)) (fun z9 => Or.elim z9 (fun h9 => Or.inr (Or.inr (Or.inr (Or.inl h9)))) (fun z9 => Or.elim z9 (fun h9 => Or.inr (Or.inr (Or.inr (Or.inr (Or.inr (Or.inl h9)))))) (fun h9 => Or.inr (Or.inr (Or.inr (Or.inr (Or.inr (Or.inr (Or.inr (h9)))))))))))) z8))).trans rfl))), (fun z => absurd hw_66 z)⟩
      · refine wp_bind2 (o_X10_notes M0 (nI 1) r_4 (by omega)) (fun M_5 he73 hq73 => ?_)
        obtain ⟨hg_M_5, hn1_73, hn2_73, hn3_73⟩ := hq73
        replace hn1_73 : M_5 0 12 = M0 0 12 + nI 1 := hn1_73
        have := t_lit 1
        replace hn2_73 : M_5 6 (ix (M0 0 12)) = (nI 1048576) * (nI 1) + r_4 := hn2_73
        have := t_lit 1
        replace hn3_73 : ∀ k : Nat, ¬ k = ix (M0 0 12) → M_5 6 k = M0 6 k := hn3_73
        have := t_lit 1
        replace hg_M_5 : ∀ a i, ¬ ((a = 0 ∧ i = 12) ∨ a = 6) → M_5 a i = M0 a i := hg_M_5
        refine wp_bnd (fun M_6 eM_6 => ?_)
        have q7 : (M_6 0 7).toInt = (M0 0 7).toInt + 1 := by rw [eM_6, mset_eq, hg_M_5 0 7 (by omega)]; exact (i_up (by omega)).2
        have hwd := wd_is (a := nI 1) (b := r_4) (by decide) (by omega)
        have qv : M_6 6 (ix (M0 0 12)) = (nI 1048576) * (nI 1) + r_4 := by rw [eM_6, mset_ne (by omega)]; exact hn2_73
        have hR6 : RS B M_6 1 := rs_note hR0 (by rw [eM_6, mset_ne (by omega)]; exact hn1_73) (by rw [eM_6, mset_ne (by omega), hg_M_5 0 13 (by omega)]) (by rw [eM_6, mset_ne (by omega), hg_M_5 0 8 (by omega)]) (by omega) (funext (fun i => by rw [eM_6, mset_ne (by omega), hg_M_5 7 i (by omega)])) (fun k hk => by rw [eM_6, mset_ne (by omega)]; exact hn3_73 k hk) (by rw [qv]; exact hwd.1) (by rw [qv, hwd.2.2.1]; decide) (fun _ => by rw [qv, hwd.2.2.2]; omega)
        exact wp_some ⟨b01_1, (fun a i q0 => ((congrFun (congrFun eM_6 a) i).trans ((mset_ne (fun h9 => q0 (Or.inl h9))).trans ((hg_M_5 a i (fun z8 => q0 ((fun z9 => Or.elim z9 (fun h9 => Or.inr (Or.inr (Or.inr (Or.inr (Or.inl h9))))) (fun h9 => Or.inr (Or.inr (Or.inr (Or.inr (Or.inr (Or.inr (Or.inl h9)))))))) z8))).trans ((hf_M0 a i (fun z8 => q0 ((fun z9 => Or.elim z9 (fun h9 => Or.inl h9) (fun z9 => Or.elim z9 (fun h9 => Or.inr (Or.inl h9)) (fun z9 => Or.elim z9 (fun h9 => Or.inr (Or.inr (Or.inr (Or.inl h9)))) (fun z9 => Or.elim z9 (fun h9 => Or.inr (Or.inr (Or.inr (Or.inr (Or.inr (Or.inl h9)))))) (fun h9 => Or.inr (Or.inr (Or.inr (Or.inr (Or.inr (Or.inr (Or.inr (h9)))))))))))) z8))).trans rfl))))), (fun _ => by show RS B M_6 1 ∧ (M 0 7).toInt < (M_6 0 7).toInt; exact ⟨hR6, by omega⟩)⟩
    · refine wp_cb2 (o_X10_readsNumber M0 (pm_hp hR0.1)) (fun r_9 M_10 he28 hq28 => ?_)
      obtain ⟨hz_r_9, hg_M_10, hp_28, hn_28, hs_28⟩ := hq28
      replace hp_28 : (M0 0 7).toInt ≤ (M_10 0 7).toInt ∧ (M_10 0 7).toInt ≤ (M0 0 8).toInt := hp_28
      replace hn_28 : ¬ r_9.toInt = 0 → 0 ≤ (M_10 0 10).toInt ∧ (M_10 0 10).toInt ≤ 99999 := hn_28
      replace hs_28 : ¬ r_9.toInt = 0 → ∀ d, f_X10_isDigit M0 = some d → ¬ d.toInt = 0 → (M0 0 7).toInt < (M_10 0 7).toInt := hs_28
      replace hg_M_10 : ∀ a i, ¬ ((a = 0 ∧ i = 7) ∨ (a = 0 ∧ i = 9) ∨ (a = 0 ∧ i = 10)) → M_10 a i = M0 a i := hg_M_10
      refine wp_ite (fun c31 => ?_) (fun c31 => ?_)
      · exact wp_some ⟨b01_0, (fun a i q0 => ((hg_M_10 a i (fun z8 => q0 ((fun z9 => Or.elim z9 (fun h9 => Or.inl h9) (fun z9 => Or.elim z9 (fun h9 => Or.inr (Or.inl h9)) (fun h9 => Or.inr (Or.inr (Or.inl h9))))) z8))).trans ((hf_M0 a i (fun z8 => q0 ((fun z9 => Or.elim z9 (fun h9 => Or.inl h9) (fun z9 => Or.elim z9 (fun h9 => Or.inr (Or.inl h9)) (fun z9 => Or.elim z9 (fun h9 => Or.inr (Or.inr (Or.inr (Or.inl h9)))) (fun z9 => Or.elim z9 (fun h9 => Or.inr (Or.inr (Or.inr (Or.inr (Or.inr (Or.inl h9)))))) (fun h9 => Or.inr (Or.inr (Or.inr (Or.inr (Or.inr (Or.inr (Or.inr (h9)))))))))))) z8))).trans rfl))), (fun z => absurd nI0 z)⟩
      · refine wp_bind2 (o_X10_notes M_10 (nI 0) (M_10 0 10) (by rw [hg_M_10 0 12 (by omega)]; omega)) (fun M_11 he42 hq42 => ?_)
        obtain ⟨hg_M_11, hn1_42, hn2_42, hn3_42⟩ := hq42
        replace hn1_42 : M_11 0 12 = M_10 0 12 + nI 1 := hn1_42
        have := t_lit 0
        replace hn2_42 : M_11 6 (ix (M_10 0 12)) = (nI 1048576) * (nI 0) + (M_10 0 10) := hn2_42
        have := t_lit 0
        replace hn3_42 : ∀ k : Nat, ¬ k = ix (M_10 0 12) → M_11 6 k = M_10 6 k := hn3_42
        have := t_lit 0
        replace hg_M_11 : ∀ a i, ¬ ((a = 0 ∧ i = 12) ∨ a = 6) → M_11 a i = M_10 a i := hg_M_11
        have hpl := hs_28 c31 r_2 he21 c24
        have hnn := hn_28 c31
        have q7 : (M_11 0 7).toInt = (M_10 0 7).toInt := congrArg Int32.toInt (hg_M_11 0 7 (by omega))
        have a12 : M_10 0 12 = M0 0 12 := hg_M_10 0 12 (by omega)
        have hwd := wd_is (a := nI 0) (b := M_10 0 10) (by decide) (by omega)
        rw [a12] at hn1_42 hn2_42 hn3_42
        have hR11 : RS B M_11 1 := rs_note hR0 hn1_42 (by rw [hg_M_11 0 13 (by omega), hg_M_10 0 13 (by omega)]) (by rw [hg_M_11 0 8 (by omega), hg_M_10 0 8 (by omega)]) (by omega) (funext (fun i => by rw [hg_M_11 7 i (by omega), hg_M_10 7 i (by omega)])) (fun k hk => by rw [hn3_42 k hk, hg_M_10 6 k (by omega)]) (by rw [hn2_42]; exact hwd.1) (by rw [hn2_42, hwd.2.2.1]; decide) (fun z => absurd z (by rw [hn2_42, hwd.2.2.1]; decide))
        exact wp_some ⟨b01_1, (fun a i q0 => ((hg_M_11 a i (fun z8 => q0 ((fun z9 => Or.elim z9 (fun h9 => Or.inr (Or.inr (Or.inr (Or.inr (Or.inl h9))))) (fun h9 => Or.inr (Or.inr (Or.inr (Or.inr (Or.inr (Or.inr (Or.inl h9)))))))) z8))).trans ((hg_M_10 a i (fun z8 => q0 ((fun z9 => Or.elim z9 (fun h9 => Or.inl h9) (fun z9 => Or.elim z9 (fun h9 => Or.inr (Or.inl h9)) (fun h9 => Or.inr (Or.inr (Or.inl h9))))) z8))).trans ((hf_M0 a i (fun z8 => q0 ((fun z9 => Or.elim z9 (fun h9 => Or.inl h9) (fun z9 => Or.elim z9 (fun h9 => Or.inr (Or.inl h9)) (fun z9 => Or.elim z9 (fun h9 => Or.inr (Or.inr (Or.inr (Or.inl h9)))) (fun z9 => Or.elim z9 (fun h9 => Or.inr (Or.inr (Or.inr (Or.inr (Or.inr (Or.inl h9)))))) (fun h9 => Or.inr (Or.inr (Or.inr (Or.inr (Or.inr (Or.inr (Or.inr (h9)))))))))))) z8))).trans rfl)))), (fun _ => by show RS B M_11 1 ∧ (M 0 7).toInt < (M_11 0 7).toInt; exact ⟨hR11, by omega⟩)⟩
  refine wp_ite (fun c6 => ?_) (fun c6 => ?_)
  · refine wp_cb2 (o_X10_opens M0 (nI 14) hR0.1) (fun r_12 M_13 he12 hq12 => ?_)
    obtain ⟨hz_r_12, hg_M_13, ho_12⟩ := hq12
    replace ho_12 : ¬ r_12.toInt = 0 → M_13 0 13 = M0 0 13 + nI 1 ∧ M_13 7 = upd (M0 7) (ix (M0 0 13)) ((nI 1048576) * (nI 14)) ∧ M_13 0 7 = M0 0 7 + nI 1 := ho_12
    have := t_lit 14
    replace hg_M_13 : ∀ a i, ¬ ((a = 0 ∧ i = 7) ∨ (a = 0 ∧ i = 9) ∨ (a = 0 ∧ i = 11) ∨ (a = 0 ∧ i = 13) ∨ a = 7) → M_13 a i = M0 a i := hg_M_13
    refine wp_ite (fun c15 => ?_) (fun c15 => ?_)
    · exact wp_some ⟨b01_0, (fun a i q0 => ((hg_M_13 a i (fun z8 => q0 ((fun z9 => Or.elim z9 (fun h9 => Or.inl h9) (fun z9 => Or.elim z9 (fun h9 => Or.inr (Or.inl h9)) (fun z9 => Or.elim z9 (fun h9 => Or.inr (Or.inr (Or.inr (Or.inl h9)))) (fun z9 => Or.elim z9 (fun h9 => Or.inr (Or.inr (Or.inr (Or.inr (Or.inr (Or.inl h9)))))) (fun h9 => Or.inr (Or.inr (Or.inr (Or.inr (Or.inr (Or.inr (Or.inr (h9)))))))))))) z8))).trans ((hf_M0 a i (fun z8 => q0 ((fun z9 => Or.elim z9 (fun h9 => Or.inl h9) (fun z9 => Or.elim z9 (fun h9 => Or.inr (Or.inl h9)) (fun z9 => Or.elim z9 (fun h9 => Or.inr (Or.inr (Or.inr (Or.inl h9)))) (fun z9 => Or.elim z9 (fun h9 => Or.inr (Or.inr (Or.inr (Or.inr (Or.inr (Or.inl h9)))))) (fun h9 => Or.inr (Or.inr (Or.inr (Or.inr (Or.inr (Or.inr (Or.inr (h9)))))))))))) z8))).trans rfl))), (fun z => absurd nI0 z)⟩
    · have ho := ho_12 c15
      have hwd := wd_0 (a := nI 14) (by decide)
      have q7 : (M_13 0 7).toInt = (M0 0 7).toInt + 1 := by rw [ho.2.2]; exact (i_up (by omega)).2
      have q8 := congrArg Int32.toInt (hg_M_13 0 8 (by omega))
      have hR13 : RS B M_13 0 := rs_open hR0 (by omega) ho.1 ho.2.1 ho.2.2 (hg_M_13 0 12 (by omega)) (hg_M_13 0 8 (by omega)) (funext (fun i => hg_M_13 6 i (by omega))) ⟨hwd.1, hwd.2.1⟩ (by rw [hwd.2.2.1]; decide)
      exact ih0 M_13 ⟨(fun a i q0 => ((hg_M_13 a i (fun z8 => q0 ((fun z9 => Or.elim z9 (fun h9 => Or.inl h9) (fun z9 => Or.elim z9 (fun h9 => Or.inr (Or.inl h9)) (fun z9 => Or.elim z9 (fun h9 => Or.inr (Or.inr (Or.inl h9))) (fun z9 => Or.elim z9 (fun h9 => Or.inr (Or.inr (Or.inr (Or.inl h9)))) (fun h9 => Or.inr (Or.inr (Or.inr (Or.inr (h9))))))))) z8))).trans ((hf_M0 a i (fun z8 => q0 ((fun z9 => Or.elim z9 (fun h9 => Or.inl h9) (fun z9 => Or.elim z9 (fun h9 => Or.inr (Or.inl h9)) (fun z9 => Or.elim z9 (fun h9 => Or.inr (Or.inr (Or.inl h9))) (fun z9 => Or.elim z9 (fun h9 => Or.inr (Or.inr (Or.inr (Or.inl h9)))) (fun h9 => Or.inr (Or.inr (Or.inr (Or.inr (h9))))))))) z8))).trans rfl))), hR13, (by omega)⟩ (by omega)
  · exact j20
theorem o2_X10_sumSign (M : Mem) (v0 : Int32) : Wp (f_X10_sumSign v0) (fun q => (q.toInt = -1 ∨ (2 ≤ q.toInt ∧ q.toInt ≤ 6 ∧ 0 ≤ v0.toInt))) := by
  refine wp_ite (fun c3 => ?_) (fun c3 => ?_)
  · exact wp_some (by show (nI 2).toInt = -1 ∨ (2 ≤ (nI 2).toInt ∧ (nI 2).toInt ≤ 6 ∧ 0 ≤ v0.toInt); have f0 := t_lit 2; omega)
  · refine wp_ite (fun c13 => ?_) (fun c13 => ?_)
    · exact wp_some (by show (nI 3).toInt = -1 ∨ (2 ≤ (nI 3).toInt ∧ (nI 3).toInt ≤ 6 ∧ 0 ≤ v0.toInt); have f0 := t_lit 3; omega)
    · refine wp_ite (fun c23 => ?_) (fun c23 => ?_)
      · exact wp_some (by show (nI 4).toInt = -1 ∨ (2 ≤ (nI 4).toInt ∧ (nI 4).toInt ≤ 6 ∧ 0 ≤ v0.toInt); have f0 := t_lit 4; omega)
      · refine wp_ite (fun c33 => ?_) (fun c33 => ?_)
        · exact wp_some (by show (nI 5).toInt = -1 ∨ (2 ≤ (nI 5).toInt ∧ (nI 5).toInt ≤ 6 ∧ 0 ≤ v0.toInt); have f0 := t_lit 5; omega)
        · refine wp_ite (fun c43 => ?_) (fun c43 => ?_)
          · exact wp_some (by show (nI 6).toInt = -1 ∨ (2 ≤ (nI 6).toInt ∧ (nI 6).toInt ≤ 6 ∧ 0 ≤ v0.toInt); have f0 := t_lit 6; omega)
          · exact wp_some (by show (-1 : Int32).toInt = -1 ∨ (2 ≤ (-1 : Int32).toInt ∧ (-1 : Int32).toInt ≤ 6 ∧ 0 ≤ v0.toInt); have f0 := (by decide : ((-1 : Int32)).toInt = -1); have f1 := (by decide : ((-1 : Int32)).toInt = -1); omega)
set_option maxHeartbeats 8000000 in
theorem o_X10_readsSum (M : Mem) (hP : PMm M) (hB : ix (M 0 13) = 0 ∨ 6 < kd (M 7 (ix (M 0 13) - 1))) : Wp (f_X10_readsSum M) (fun q => (q.1 = 0 ∨ q.1 = 1) ∧ (∀ a i, ¬ ((a = 0 ∧ i = 7) ∨ (a = 0 ∧ i = 9) ∨ (a = 0 ∧ i = 10) ∨ (a = 0 ∧ i = 11) ∨ (a = 0 ∧ i = 12) ∨ (a = 0 ∧ i = 13) ∨ a = 6 ∨ a = 7) → q.2 a i = M a i) ∧ (¬ q.1.toInt = 0 → RS M q.2 1 ∧ ix (q.2 0 13) = ix (M 0 13) ∧ (M 0 7).toInt < (q.2 0 7).toInt)) := by
  obtain ⟨B, eB⟩ : ∃ B : Mem, B = M := ⟨M, rfl⟩
  have hR : RS B M 0 := by rw [eB]; exact rs_begin hP hB
  have hx := pm_ix hP
  have hb := pm_bd hP
  refine wp_bnd (fun x_1 ex_1 => ?_)
  have hv_x_1 := congrArg Int32.toInt ex_1
  refine wp_cb2 (o_X10_readsFactor M B hR) (fun r_2 M_3 he6 hq6 => ?_)
  obtain ⟨hz_r_2, hg_M_3, hR_6⟩ := hq6
  replace hR_6 : ¬ r_2.toInt = 0 → RS B M_3 1 ∧ (M 0 7).toInt < (M_3 0 7).toInt := hR_6
  replace hg_M_3 : ∀ a i, ¬ ((a = 0 ∧ i = 7) ∨ (a = 0 ∧ i = 9) ∨ (a = 0 ∧ i = 10) ∨ (a = 0 ∧ i = 11) ∨ (a = 0 ∧ i = 12) ∨ (a = 0 ∧ i = 13) ∨ a = 6 ∨ a = 7) → M_3 a i = M a i := hg_M_3
  refine wp_ite (fun c9 => ?_) (fun c9 => ?_)
  · exact wp_some ⟨b01_0, (fun a i q0 => ((hg_M_3 a i (fun z8 => q0 ((fun z9 => Or.elim z9 (fun h9 => Or.inl h9) (fun z9 => Or.elim z9 (fun h9 => Or.inr (Or.inl h9)) (fun z9 => Or.elim z9 (fun h9 => Or.inr (Or.inr (Or.inl h9))) (fun z9 => Or.elim z9 (fun h9 => Or.inr (Or.inr (Or.inr (Or.inl h9)))) (fun z9 => Or.elim z9 (fun h9 => Or.inr (Or.inr (Or.inr (Or.inr (Or.inl h9))))) (fun z9 => Or.elim z9 (fun h9 => Or.inr (Or.inr (Or.inr (Or.inr (Or.inr (Or.inl h9)))))) (fun z9 => Or.elim z9 (fun h9 => Or.inr (Or.inr (Or.inr (Or.inr (Or.inr (Or.inr (Or.inl h9))))))) (fun h9 => Or.inr (Or.inr (Or.inr (Or.inr (Or.inr (Or.inr (Or.inr (h9))))))))))))))) z8))).trans rfl)), (fun z => absurd nI0 z)⟩
  · refine wp_lp1 (fun M14 => (∀ a i, ¬ ((a = 0 ∧ i = 7) ∨ (a = 0 ∧ i = 9) ∨ (a = 0 ∧ i = 10) ∨ (a = 0 ∧ i = 11) ∨ (a = 0 ∧ i = 12) ∨ (a = 0 ∧ i = 13) ∨ a = 6 ∨ a = 7) → M14 a i = M_3 a i) ∧ (RS B M14 1) ∧ ((M 0 7).toInt < (M14 0 7).toInt)) (fun M14 => ((M14 0 8).toInt - (M14 0 7).toInt).toNat) (fun ag14 M14 hI14 ih14 => ?_) FU M_3 ⟨(fun _ _ _ => rfl), (hR_6 c9).1, (hR_6 c9).2⟩ (fu_lt ((by have h9 := pm_bd (hR_6 c9).1.1; omega)))
    obtain ⟨hf_M14, hR14, hp14⟩ := hI14
    have hb14 := pm_bd hR14.1
    have hx14 := pm_ix hR14.1
    have ew : ix x_1 = ix (B 0 13) := by rw [ex_1, eB]
    refine wp_bind2 (o_X10_here M14 (pm_hp hR14.1)) (fun r_4 he15 hq15 => ?_)
    have hh_15 := hq15
    replace hh_15 : (r_4.toInt = -1 ∧ (M14 0 7).toInt = (M14 0 8).toInt) ∨ (0 ≤ r_4.toInt ∧ r_4.toInt ≤ 255 ∧ (M14 0 7).toInt < (M14 0 8).toInt) := hh_15
    refine wp_bind2 (o2_X10_sumSign M14 r_4) (fun r_5 he18 hq18 => ?_)
    have hr_18 := hq18
    replace hr_18 : r_5.toInt = -1 ∨ (2 ≤ r_5.toInt ∧ r_5.toInt ≤ 6 ∧ 0 ≤ r_4.toInt) := hr_18
    refine wp_ite (fun c24 => ?_) (fun c24 => ?_)
    · refine wp_bind2 (o_X10_here M14 (pm_hp hR14.1)) (fun r_6 he84 hq84 => ?_)
      have hh_84 := hq84
      replace hh_84 : (r_6.toInt = -1 ∧ (M14 0 7).toInt = (M14 0 8).toInt) ∨ (0 ≤ r_6.toInt ∧ r_6.toInt ≤ 255 ∧ (M14 0 7).toInt < (M14 0 8).toInt) := hh_84
      have j138 : Wp (f_X10_readsSum_L138 x_1 M14) (fun q => (q.1 = 0 ∨ q.1 = 1) ∧ (∀ a i, ¬ ((a = 0 ∧ i = 7) ∨ (a = 0 ∧ i = 9) ∨ (a = 0 ∧ i = 10) ∨ (a = 0 ∧ i = 11) ∨ (a = 0 ∧ i = 12) ∨ (a = 0 ∧ i = 13) ∨ a = 6 ∨ a = 7) → q.2 a i = M a i) ∧ (¬ q.1.toInt = 0 → RS M q.2 1 ∧ ix (q.2 0 13) = ix (M 0 13) ∧ (M 0 7).toInt < (q.2 0 7).toInt)) := by
        unfold f_X10_readsSum_L138
        refine wp_bind2 (o_X10_hasOpenSum M14 x_1 hR14.1 (by omega)) (fun r_7 he140 hq140 => ?_)
        obtain ⟨hz_r_7, hr_140⟩ := hq140
        replace hr_140 : (r_7.toInt = 0 → ∀ t : Nat, ix x_1 ≤ t → t < ix (M14 0 13) → ¬ kd (M14 7 t) = 14) ∧ (¬ r_7.toInt = 0 → ∃ t : Nat, ix x_1 ≤ t ∧ t < ix (M14 0 13) ∧ kd (M14 7 t) = 14) := hr_140
        refine wp_ite (fun c143 => ?_) (fun c143 => ?_)
        · refine wp_bind2 (o_X10_closesSums M14 (nI 1) B hR14) (fun M_8 he158 hq158 => ?_)
          obtain ⟨hg_M_8, hR_158, hw_158, ht_158⟩ := hq158
          replace hR_158 : RS B M_8 1 := hR_158
          have := t_lit 1
          replace hw_158 : ix (M_8 0 13) ≤ ix (M14 0 13) ∧ ∀ t : Nat, ix (M_8 0 13) ≤ t → t < ix (M14 0 13) → 2 ≤ kd (M14 7 t) ∧ kd (M14 7 t) ≤ 6 := hw_158
          have := t_lit 1
          replace ht_158 : ¬ (nI 1).toInt = 0 → ix (M_8 0 13) = 0 ∨ ¬ (2 ≤ kd (M14 7 (ix (M_8 0 13) - 1)) ∧ kd (M14 7 (ix (M_8 0 13) - 1)) ≤ 6) := ht_158
          have := t_lit 1
          replace hg_M_8 : ∀ a i, ¬ ((a = 0 ∧ i = 12) ∨ (a = 0 ∧ i = 13) ∨ a = 6) → M_8 a i = M14 a i := hg_M_8
          have e87 : M_8 7 = M14 7 := funext (fun i => hg_M_8 7 i (by omega))
          have hend := rs_end hR_158 (fun t h1 h2 => by rw [e87]; exact hr_140.1 c143 t (by omega) (by have := hw_158.1; omega)) (by rw [e87]; exact ht_158 (by decide))
          have hp8 : M_8 0 7 = M14 0 7 := hg_M_8 0 7 (by omega)
          exact wp_some ⟨b01_1, (fun a i q0 => ((hg_M_8 a i (fun z8 => q0 ((fun z9 => Or.elim z9 (fun h9 => Or.inr (Or.inr (Or.inr (Or.inr (Or.inl h9))))) (fun z9 => Or.elim z9 (fun h9 => Or.inr (Or.inr (Or.inr (Or.inr (Or.inr (Or.inl h9)))))) (fun h9 => Or.inr (Or.inr (Or.inr (Or.inr (Or.inr (Or.inr (Or.inl h9))))))))) z8))).trans ((hf_M14 a i (fun z8 => q0 ((fun z9 => Or.elim z9 (fun h9 => Or.inl h9) (fun z9 => Or.elim z9 (fun h9 => Or.inr (Or.inl h9)) (fun z9 => Or.elim z9 (fun h9 => Or.inr (Or.inr (Or.inl h9))) (fun z9 => Or.elim z9 (fun h9 => Or.inr (Or.inr (Or.inr (Or.inl h9)))) (fun z9 => Or.elim z9 (fun h9 => Or.inr (Or.inr (Or.inr (Or.inr (Or.inl h9))))) (fun z9 => Or.elim z9 (fun h9 => Or.inr (Or.inr (Or.inr (Or.inr (Or.inr (Or.inl h9)))))) (fun z9 => Or.elim z9 (fun h9 => Or.inr (Or.inr (Or.inr (Or.inr (Or.inr (Or.inr (Or.inl h9))))))) (fun h9 => Or.inr (Or.inr (Or.inr (Or.inr (Or.inr (Or.inr (Or.inr (h9))))))))))))))) z8))).trans ((hg_M_3 a i (fun z8 => q0 ((fun z9 => Or.elim z9 (fun h9 => Or.inl h9) (fun z9 => Or.elim z9 (fun h9 => Or.inr (Or.inl h9)) (fun z9 => Or.elim z9 (fun h9 => Or.inr (Or.inr (Or.inl h9))) (fun z9 => Or.elim z9 (fun h9 => Or.inr (Or.inr (Or.inr (Or.inl h9)))) (fun z9 => Or.elim z9 (fun h9 => Or.inr (Or.inr (Or.inr (Or.inr (Or.inl h9))))) (fun z9 => Or.elim z9 (fun h9 => Or.inr (Or.inr (Or.inr (Or.inr (Or.inr (Or.inl h9)))))) (fun z9 => Or.elim z9 (fun h9 => Or.inr (Or.inr (Or.inr (Or.inr (Or.inr (Or.inr (Or.inl h9))))))) (fun h9 => Or.inr (Or.inr (Or.inr (Or.inr (Or.inr (Or.inr (Or.inr (h9))))))))))))))) z8))).trans rfl)))), (fun _ => by show RS M M_8 1 ∧ ix (M_8 0 13) = ix (M 0 13) ∧ (M 0 7).toInt < (M_8 0 7).toInt; rw [hp8]; rw [eB] at hR_158 hend; exact ⟨hR_158, hend, hp14⟩)⟩
        · refine wp_cb2 (o_X10_wrongAt M14 (nI 1) (M14 0 7)) (fun r_9 M_10 he152 hq152 => ?_)
          obtain ⟨hz_r_9, hg_M_10, hw_152⟩ := hq152
          replace hw_152 : r_9.toInt = 0 := hw_152
          have := t_lit 1
          replace hg_M_10 : ∀ a i, ¬ ((a = 0 ∧ i = 9)) → M_10 a i = M14 a i := hg_M_10
          refine wp_gb hz_r_9 ?_
          exact wp_some ⟨hz_r_9, (fun a i q0 => ((hg_M_10 a i (fun h9 => q0 (Or.inr (Or.inl h9)))).trans ((hf_M14 a i (fun z8 => q0 ((fun z9 => Or.elim z9 (fun h9 => Or.inl h9) (fun z9 => Or.elim z9 (fun h9 => Or.inr (Or.inl h9)) (fun z9 => Or.elim z9 (fun h9 => Or.inr (Or.inr (Or.inl h9))) (fun z9 => Or.elim z9 (fun h9 => Or.inr (Or.inr (Or.inr (Or.inl h9)))) (fun z9 => Or.elim z9 (fun h9 => Or.inr (Or.inr (Or.inr (Or.inr (Or.inl h9))))) (fun z9 => Or.elim z9 (fun h9 => Or.inr (Or.inr (Or.inr (Or.inr (Or.inr (Or.inl h9)))))) (fun z9 => Or.elim z9 (fun h9 => Or.inr (Or.inr (Or.inr (Or.inr (Or.inr (Or.inr (Or.inl h9))))))) (fun h9 => Or.inr (Or.inr (Or.inr (Or.inr (Or.inr (Or.inr (Or.inr (h9))))))))))))))) z8))).trans ((hg_M_3 a i (fun z8 => q0 ((fun z9 => Or.elim z9 (fun h9 => Or.inl h9) (fun z9 => Or.elim z9 (fun h9 => Or.inr (Or.inl h9)) (fun z9 => Or.elim z9 (fun h9 => Or.inr (Or.inr (Or.inl h9))) (fun z9 => Or.elim z9 (fun h9 => Or.inr (Or.inr (Or.inr (Or.inl h9)))) (fun z9 => Or.elim z9 (fun h9 => Or.inr (Or.inr (Or.inr (Or.inr (Or.inl h9))))) (fun z9 => Or.elim z9 (fun h9 => Or.inr (Or.inr (Or.inr (Or.inr (Or.inr (Or.inl h9)))))) (fun z9 => Or.elim z9 (fun h9 => Or.inr (Or.inr (Or.inr (Or.inr (Or.inr (Or.inr (Or.inl h9))))))) (fun h9 => Or.inr (Or.inr (Or.inr (Or.inr (Or.inr (Or.inr (Or.inr (h9))))))))))))))) z8))).trans rfl)))), (fun z => absurd hw_152 z)⟩
      refine wp_ite (fun c89 => ?_) (fun c89 => ?_)
      · refine wp_bind2 (o_X10_hasOpenSum M14 x_1 hR14.1 (by omega)) (fun r_11 he94 hq94 => ?_)
        obtain ⟨hz_r_11, hr_94⟩ := hq94
        replace hr_94 : (r_11.toInt = 0 → ∀ t : Nat, ix x_1 ≤ t → t < ix (M14 0 13) → ¬ kd (M14 7 t) = 14) ∧ (¬ r_11.toInt = 0 → ∃ t : Nat, ix x_1 ≤ t ∧ t < ix (M14 0 13) ∧ kd (M14 7 t) = 14) := hr_94
        refine wp_ite (fun c97 => ?_) (fun c97 => ?_)
        · exact j138
        · refine wp_bind2 (o_X10_closesSums M14 (nI 1) B hR14) (fun M_12 he102 hq102 => ?_)
          obtain ⟨hg_M_12, hR_102, hw_102, ht_102⟩ := hq102
          replace hR_102 : RS B M_12 1 := hR_102
          have := t_lit 1
          replace hw_102 : ix (M_12 0 13) ≤ ix (M14 0 13) ∧ ∀ t : Nat, ix (M_12 0 13) ≤ t → t < ix (M14 0 13) → 2 ≤ kd (M14 7 t) ∧ kd (M14 7 t) ≤ 6 := hw_102
          have := t_lit 1
          replace ht_102 : ¬ (nI 1).toInt = 0 → ix (M_12 0 13) = 0 ∨ ¬ (2 ≤ kd (M14 7 (ix (M_12 0 13) - 1)) ∧ kd (M14 7 (ix (M_12 0 13) - 1)) ≤ 6) := ht_102
          have := t_lit 1
          replace hg_M_12 : ∀ a i, ¬ ((a = 0 ∧ i = 12) ∨ (a = 0 ∧ i = 13) ∨ a = 6) → M_12 a i = M14 a i := hg_M_12
          have e12 : M_12 7 = M14 7 := funext (fun i => hg_M_12 7 i (by omega))
          obtain ⟨t0, ht1, ht2, ht3⟩ := hr_94.2 c97
          clear hr_94
          have hgt : ix (B 0 13) < ix (M_12 0 13) := by
            have q1 : ¬ ix (M_12 0 13) ≤ t0 := fun z => by have q2 := hw_102.2 t0 z ht2; omega
            omega
          have htop : kd (M_12 7 (ix (M_12 0 13) - 1)) = 14 := rs_top hR_102 hgt (by rw [e12]; exact ht_102 (by decide))
          have hp12 : M_12 0 7 = M14 0 7 := hg_M_12 0 7 (by omega)
          have h812 : M_12 0 8 = M14 0 8 := hg_M_12 0 8 (by omega)
          refine wp_bnd (fun M_13 eM_13 => ?_)
          refine wp_bnd (fun M_14 eM_14 => ?_)
          refine wp_bnd (fun M_15 eM_15 => ?_)
          have hps := pop_is eM_13 eM_14 eM_15
          have hR15 : RS B M_15 1 := rs_pop hR_102 hgt htop (by rw [hp12, h812]; omega) hps.1 hps.2.1 hps.2.2.1 hps.2.2.2.1 hps.2.2.2.2.1 hps.2.2.2.2.2
          have hq15 : (M_15 0 7).toInt = (M14 0 7).toInt + 1 := by rw [hps.2.1, hp12]; exact (i_up (by omega)).2
          have h815 : (M_15 0 8).toInt = (M14 0 8).toInt := by rw [hps.2.2.2.1, h812]
          exact ih14 M_15 ⟨(fun a i q0 => ((congrFun (congrFun eM_15 a) i).trans ((mset_ne (fun h9 => q0 (Or.inl h9))).trans ((congrFun (congrFun eM_14 a) i).trans ((mset_ne (fun h9 => q0 (Or.inr (Or.inr (Or.inr (Or.inl h9)))))).trans ((congrFun (congrFun eM_13 a) i).trans ((mset_ne (fun h9 => q0 (Or.inr (Or.inr (Or.inr (Or.inr (Or.inr (Or.inl h9)))))))).trans ((hg_M_12 a i (fun z8 => q0 ((fun z9 => Or.elim z9 (fun h9 => Or.inr (Or.inr (Or.inr (Or.inr (Or.inl h9))))) (fun z9 => Or.elim z9 (fun h9 => Or.inr (Or.inr (Or.inr (Or.inr (Or.inr (Or.inl h9)))))) (fun h9 => Or.inr (Or.inr (Or.inr (Or.inr (Or.inr (Or.inr (Or.inl h9))))))))) z8))).trans ((hf_M14 a i (fun z8 => q0 ((fun z9 => Or.elim z9 (fun h9 => Or.inl h9) (fun z9 => Or.elim z9 (fun h9 => Or.inr (Or.inl h9)) (fun z9 => Or.elim z9 (fun h9 => Or.inr (Or.inr (Or.inl h9))) (fun z9 => Or.elim z9 (fun h9 => Or.inr (Or.inr (Or.inr (Or.inl h9)))) (fun z9 => Or.elim z9 (fun h9 => Or.inr (Or.inr (Or.inr (Or.inr (Or.inl h9))))) (fun z9 => Or.elim z9 (fun h9 => Or.inr (Or.inr (Or.inr (Or.inr (Or.inr (Or.inl h9)))))) (fun z9 => Or.elim z9 (fun h9 => Or.inr (Or.inr (Or.inr (Or.inr (Or.inr (Or.inr (Or.inl h9))))))) (fun h9 => Or.inr (Or.inr (Or.inr (Or.inr (Or.inr (Or.inr (Or.inr (h9))))))))))))))) z8))).trans rfl))))))))), hR15, (by omega)⟩ (by omega)
      · exact j138
    · have j38 : ∀ (t0_38 : Int32), (t0_38 = 0 ∨ t0_38 = 1) → Wp (f_X10_readsSum_L38 ag14 M14 r_5 t0_38) (fun q => (q.1 = 0 ∨ q.1 = 1) ∧ (∀ a i, ¬ ((a = 0 ∧ i = 7) ∨ (a = 0 ∧ i = 9) ∨ (a = 0 ∧ i = 10) ∨ (a = 0 ∧ i = 11) ∨ (a = 0 ∧ i = 12) ∨ (a = 0 ∧ i = 13) ∨ a = 6 ∨ a = 7) → q.2 a i = M a i) ∧ (¬ q.1.toInt = 0 → RS M q.2 1 ∧ ix (q.2 0 13) = ix (M 0 13) ∧ (M 0 7).toInt < (q.2 0 7).toInt)) := by
        intro t0_38 hb_t0_38
        unfold f_X10_readsSum_L38
        refine wp_bind2 (o_X10_closesSums M14 t0_38 B hR14) (fun M_16 he38 hq38 => ?_)
        obtain ⟨hg_M_16, hR_38, hw_38, ht_38⟩ := hq38
        replace hR_38 : RS B M_16 1 := hR_38
        replace hw_38 : ix (M_16 0 13) ≤ ix (M14 0 13) ∧ ∀ t : Nat, ix (M_16 0 13) ≤ t → t < ix (M14 0 13) → 2 ≤ kd (M14 7 t) ∧ kd (M14 7 t) ≤ 6 := hw_38
        replace ht_38 : ¬ t0_38.toInt = 0 → ix (M_16 0 13) = 0 ∨ ¬ (2 ≤ kd (M14 7 (ix (M_16 0 13) - 1)) ∧ kd (M14 7 (ix (M_16 0 13) - 1)) ≤ 6) := ht_38
        replace hg_M_16 : ∀ a i, ¬ ((a = 0 ∧ i = 12) ∨ (a = 0 ∧ i = 13) ∨ a = 6) → M_16 a i = M14 a i := hg_M_16
        have hb16 := pm_bd hR_38.1
        have hp16 : M_16 0 7 = M14 0 7 := hg_M_16 0 7 (by omega)
        have h816 : M_16 0 8 = M14 0 8 := hg_M_16 0 8 (by omega)
        refine wp_gd (by omega) ?_
        refine wp_bnd (fun M_17 eM_17 => ?_)
        refine wp_bnd (fun M_18 eM_18 => ?_)
        refine wp_bnd (fun M_19 eM_19 => ?_)
        have hps := push_is eM_17 eM_18 eM_19
        have hwd := wd_0 (a := r_5) (by omega)
        have hR19 : RS B M_19 0 := rs_op hR_38 (by rw [hp16, h816]; omega) hps.1 hps.2.1 hps.2.2.1 hps.2.2.2.1 hps.2.2.2.2.1 hps.2.2.2.2.2 ⟨hwd.1, hwd.2.1⟩ (by rw [hwd.2.2.1]; omega)
        have hq19 : (M_19 0 7).toInt = (M14 0 7).toInt + 1 := by rw [hps.2.2.1, hp16]; exact (i_up (by omega)).2
        refine wp_cb2 (o_X10_readsFactor M_19 B hR19) (fun r_20 M_21 he75 hq75 => ?_)
        obtain ⟨hz_r_20, hg_M_21, hR_75⟩ := hq75
        replace hR_75 : ¬ r_20.toInt = 0 → RS B M_21 1 ∧ (M_19 0 7).toInt < (M_21 0 7).toInt := hR_75
        replace hg_M_21 : ∀ a i, ¬ ((a = 0 ∧ i = 7) ∨ (a = 0 ∧ i = 9) ∨ (a = 0 ∧ i = 10) ∨ (a = 0 ∧ i = 11) ∨ (a = 0 ∧ i = 12) ∨ (a = 0 ∧ i = 13) ∨ a = 6 ∨ a = 7) → M_21 a i = M_19 a i := hg_M_21
        refine wp_ite (fun c78 => ?_) (fun c78 => ?_)
        · exact wp_some ⟨b01_0, (fun a i q0 => ((hg_M_21 a i (fun z8 => q0 ((fun z9 => Or.elim z9 (fun h9 => Or.inl h9) (fun z9 => Or.elim z9 (fun h9 => Or.inr (Or.inl h9)) (fun z9 => Or.elim z9 (fun h9 => Or.inr (Or.inr (Or.inl h9))) (fun z9 => Or.elim z9 (fun h9 => Or.inr (Or.inr (Or.inr (Or.inl h9)))) (fun z9 => Or.elim z9 (fun h9 => Or.inr (Or.inr (Or.inr (Or.inr (Or.inl h9))))) (fun z9 => Or.elim z9 (fun h9 => Or.inr (Or.inr (Or.inr (Or.inr (Or.inr (Or.inl h9)))))) (fun z9 => Or.elim z9 (fun h9 => Or.inr (Or.inr (Or.inr (Or.inr (Or.inr (Or.inr (Or.inl h9))))))) (fun h9 => Or.inr (Or.inr (Or.inr (Or.inr (Or.inr (Or.inr (Or.inr (h9))))))))))))))) z8))).trans ((congrFun (congrFun eM_19 a) i).trans ((mset_ne (fun h9 => q0 (Or.inl h9))).trans ((congrFun (congrFun eM_18 a) i).trans ((mset_ne (fun h9 => q0 (Or.inr (Or.inr (Or.inr (Or.inr (Or.inr (Or.inl h9)))))))).trans ((congrFun (congrFun eM_17 a) i).trans ((mset_ne (fun h9 => q0 (Or.inr (Or.inr (Or.inr (Or.inr (Or.inr (Or.inr (Or.inr ((h9).1)))))))))).trans ((hg_M_16 a i (fun z8 => q0 ((fun z9 => Or.elim z9 (fun h9 => Or.inr (Or.inr (Or.inr (Or.inr (Or.inl h9))))) (fun z9 => Or.elim z9 (fun h9 => Or.inr (Or.inr (Or.inr (Or.inr (Or.inr (Or.inl h9)))))) (fun h9 => Or.inr (Or.inr (Or.inr (Or.inr (Or.inr (Or.inr (Or.inl h9))))))))) z8))).trans ((hf_M14 a i (fun z8 => q0 ((fun z9 => Or.elim z9 (fun h9 => Or.inl h9) (fun z9 => Or.elim z9 (fun h9 => Or.inr (Or.inl h9)) (fun z9 => Or.elim z9 (fun h9 => Or.inr (Or.inr (Or.inl h9))) (fun z9 => Or.elim z9 (fun h9 => Or.inr (Or.inr (Or.inr (Or.inl h9)))) (fun z9 => Or.elim z9 (fun h9 => Or.inr (Or.inr (Or.inr (Or.inr (Or.inl h9))))) (fun z9 => Or.elim z9 (fun h9 => Or.inr (Or.inr (Or.inr (Or.inr (Or.inr (Or.inl h9)))))) (fun z9 => Or.elim z9 (fun h9 => Or.inr (Or.inr (Or.inr (Or.inr (Or.inr (Or.inr (Or.inl h9))))))) (fun h9 => Or.inr (Or.inr (Or.inr (Or.inr (Or.inr (Or.inr (Or.inr (h9))))))))))))))) z8))).trans ((hg_M_3 a i (fun z8 => q0 ((fun z9 => Or.elim z9 (fun h9 => Or.inl h9) (fun z9 => Or.elim z9 (fun h9 => Or.inr (Or.inl h9)) (fun z9 => Or.elim z9 (fun h9 => Or.inr (Or.inr (Or.inl h9))) (fun z9 => Or.elim z9 (fun h9 => Or.inr (Or.inr (Or.inr (Or.inl h9)))) (fun z9 => Or.elim z9 (fun h9 => Or.inr (Or.inr (Or.inr (Or.inr (Or.inl h9))))) (fun z9 => Or.elim z9 (fun h9 => Or.inr (Or.inr (Or.inr (Or.inr (Or.inr (Or.inl h9)))))) (fun z9 => Or.elim z9 (fun h9 => Or.inr (Or.inr (Or.inr (Or.inr (Or.inr (Or.inr (Or.inl h9))))))) (fun h9 => Or.inr (Or.inr (Or.inr (Or.inr (Or.inr (Or.inr (Or.inr (h9))))))))))))))) z8))).trans rfl))))))))))), (fun z => absurd nI0 z)⟩
        · have h75 := hR_75 c78
          have h821 := congrArg Int32.toInt (h75.1.2.2.2.2.1.trans hR14.2.2.2.2.1.symm)
          have hb21 := pm_bd h75.1.1
          exact ih14 M_21 ⟨(fun a i q0 => ((hg_M_21 a i (fun z8 => q0 ((fun z9 => Or.elim z9 (fun h9 => Or.inl h9) (fun z9 => Or.elim z9 (fun h9 => Or.inr (Or.inl h9)) (fun z9 => Or.elim z9 (fun h9 => Or.inr (Or.inr (Or.inl h9))) (fun z9 => Or.elim z9 (fun h9 => Or.inr (Or.inr (Or.inr (Or.inl h9)))) (fun z9 => Or.elim z9 (fun h9 => Or.inr (Or.inr (Or.inr (Or.inr (Or.inl h9))))) (fun z9 => Or.elim z9 (fun h9 => Or.inr (Or.inr (Or.inr (Or.inr (Or.inr (Or.inl h9)))))) (fun z9 => Or.elim z9 (fun h9 => Or.inr (Or.inr (Or.inr (Or.inr (Or.inr (Or.inr (Or.inl h9))))))) (fun h9 => Or.inr (Or.inr (Or.inr (Or.inr (Or.inr (Or.inr (Or.inr (h9))))))))))))))) z8))).trans ((congrFun (congrFun eM_19 a) i).trans ((mset_ne (fun h9 => q0 (Or.inl h9))).trans ((congrFun (congrFun eM_18 a) i).trans ((mset_ne (fun h9 => q0 (Or.inr (Or.inr (Or.inr (Or.inr (Or.inr (Or.inl h9)))))))).trans ((congrFun (congrFun eM_17 a) i).trans ((mset_ne (fun h9 => q0 (Or.inr (Or.inr (Or.inr (Or.inr (Or.inr (Or.inr (Or.inr ((h9).1)))))))))).trans ((hg_M_16 a i (fun z8 => q0 ((fun z9 => Or.elim z9 (fun h9 => Or.inr (Or.inr (Or.inr (Or.inr (Or.inl h9))))) (fun z9 => Or.elim z9 (fun h9 => Or.inr (Or.inr (Or.inr (Or.inr (Or.inr (Or.inl h9)))))) (fun h9 => Or.inr (Or.inr (Or.inr (Or.inr (Or.inr (Or.inr (Or.inl h9))))))))) z8))).trans ((hf_M14 a i (fun z8 => q0 ((fun z9 => Or.elim z9 (fun h9 => Or.inl h9) (fun z9 => Or.elim z9 (fun h9 => Or.inr (Or.inl h9)) (fun z9 => Or.elim z9 (fun h9 => Or.inr (Or.inr (Or.inl h9))) (fun z9 => Or.elim z9 (fun h9 => Or.inr (Or.inr (Or.inr (Or.inl h9)))) (fun z9 => Or.elim z9 (fun h9 => Or.inr (Or.inr (Or.inr (Or.inr (Or.inl h9))))) (fun z9 => Or.elim z9 (fun h9 => Or.inr (Or.inr (Or.inr (Or.inr (Or.inr (Or.inl h9)))))) (fun z9 => Or.elim z9 (fun h9 => Or.inr (Or.inr (Or.inr (Or.inr (Or.inr (Or.inr (Or.inl h9))))))) (fun h9 => Or.inr (Or.inr (Or.inr (Or.inr (Or.inr (Or.inr (Or.inr (h9))))))))))))))) z8))).trans rfl)))))))))), h75.1, (by omega)⟩ (by omega)
      refine wp_ite (fun c30 => ?_) (fun c30 => ?_)
      · exact j38 (nI 0) b01_0
      · exact j38 (nI 1) b01_1
set_option maxHeartbeats 4000000 in
theorem o_X10_readsCompared (M : Mem) (B : Mem) (hT : TM B M 0) : Wp (f_X10_readsCompared M) (fun q => (q.1 = 0 ∨ q.1 = 1) ∧ (∀ a i, ¬ ((a = 0 ∧ i = 7) ∨ (a = 0 ∧ i = 9) ∨ (a = 0 ∧ i = 10) ∨ (a = 0 ∧ i = 11) ∨ (a = 0 ∧ i = 12) ∨ (a = 0 ∧ i = 13) ∨ a = 6 ∨ a = 7) → q.2 a i = M a i) ∧ (¬ q.1.toInt = 0 → TM B q.2 1 ∧ (M 0 7).toInt < (q.2 0 7).toInt)) := by
  refine wp_cb2 (o_X10_readsSum M hT.1 (tmm_below hT)) (fun r_1 M_2 he1 hq1 => ?_)
  obtain ⟨hz_r_1, hg_M_2, hR_1⟩ := hq1
  replace hR_1 : ¬ r_1.toInt = 0 → RS M M_2 1 ∧ ix (M_2 0 13) = ix (M 0 13) ∧ (M 0 7).toInt < (M_2 0 7).toInt := hR_1
  replace hg_M_2 : ∀ a i, ¬ ((a = 0 ∧ i = 7) ∨ (a = 0 ∧ i = 9) ∨ (a = 0 ∧ i = 10) ∨ (a = 0 ∧ i = 11) ∨ (a = 0 ∧ i = 12) ∨ (a = 0 ∧ i = 13) ∨ a = 6 ∨ a = 7) → M_2 a i = M a i := hg_M_2
  refine wp_ite (fun c4 => ?_) (fun c4 => ?_)
  · exact wp_some ⟨b01_0, (fun a i q0 => ((hg_M_2 a i (fun z8 => q0 ((fun z9 => Or.elim z9 (fun h9 => Or.inl h9) (fun z9 => Or.elim z9 (fun h9 => Or.inr (Or.inl h9)) (fun z9 => Or.elim z9 (fun h9 => Or.inr (Or.inr (Or.inl h9))) (fun z9 => Or.elim z9 (fun h9 => Or.inr (Or.inr (Or.inr (Or.inl h9)))) (fun z9 => Or.elim z9 (fun h9 => Or.inr (Or.inr (Or.inr (Or.inr (Or.inl h9))))) (fun z9 => Or.elim z9 (fun h9 => Or.inr (Or.inr (Or.inr (Or.inr (Or.inr (Or.inl h9)))))) (fun z9 => Or.elim z9 (fun h9 => Or.inr (Or.inr (Or.inr (Or.inr (Or.inr (Or.inr (Or.inl h9))))))) (fun h9 => Or.inr (Or.inr (Or.inr (Or.inr (Or.inr (Or.inr (Or.inr (h9))))))))))))))) z8))).trans rfl)), (fun z => absurd nI0 z)⟩
  · have hr1 := hR_1 c4
    have hT2 : TM B M_2 1 := tmm_sum hT (by omega) hr1.1 hr1.2.1
    have hb2 := pm_bd hT2.1
    have hx2 := pm_ix hT2.1
    refine wp_bind2 (o_X10_here M_2 (pm_hp hT2.1)) (fun r_3 he10 hq10 => ?_)
    have hh_10 := hq10
    replace hh_10 : (r_3.toInt = -1 ∧ (M_2 0 7).toInt = (M_2 0 8).toInt) ∨ (0 ≤ r_3.toInt ∧ r_3.toInt ≤ 255 ∧ (M_2 0 7).toInt < (M_2 0 8).toInt) := hh_10
    have j52 : ∀ (t0_52 : Int32), (t0_52.toInt = -1 ∨ (7 ≤ t0_52.toInt ∧ t0_52.toInt ≤ 9 ∧ (M_2 0 7).toInt < (M_2 0 8).toInt)) → Wp (f_X10_readsCompared_L52 M_2 t0_52) (fun q => (q.1 = 0 ∨ q.1 = 1) ∧ (∀ a i, ¬ ((a = 0 ∧ i = 7) ∨ (a = 0 ∧ i = 9) ∨ (a = 0 ∧ i = 10) ∨ (a = 0 ∧ i = 11) ∨ (a = 0 ∧ i = 12) ∨ (a = 0 ∧ i = 13) ∨ a = 6 ∨ a = 7) → q.2 a i = M a i) ∧ (¬ q.1.toInt = 0 → TM B q.2 1 ∧ (M 0 7).toInt < (q.2 0 7).toInt)) := by
      intro t0_52 h52
      unfold f_X10_readsCompared_L52
      refine wp_ite (fun c55 => ?_) (fun c55 => ?_)
      · refine wp_cb2 (o_X10_wrongAt M_2 (nI 1) (M_2 0 7)) (fun r_9 M_10 he64 hq64 => ?_)
        obtain ⟨hz_r_9, hg_M_10, hw_64⟩ := hq64
        replace hw_64 : r_9.toInt = 0 := hw_64
        have := t_lit 1
        replace hg_M_10 : ∀ a i, ¬ ((a = 0 ∧ i = 9)) → M_10 a i = M_2 a i := hg_M_10
        refine wp_gb hz_r_9 ?_
        exact wp_some ⟨hz_r_9, (fun a i q0 => ((hg_M_10 a i (fun h9 => q0 (Or.inr (Or.inl h9)))).trans ((hg_M_2 a i (fun z8 => q0 ((fun z9 => Or.elim z9 (fun h9 => Or.inl h9) (fun z9 => Or.elim z9 (fun h9 => Or.inr (Or.inl h9)) (fun z9 => Or.elim z9 (fun h9 => Or.inr (Or.inr (Or.inl h9))) (fun z9 => Or.elim z9 (fun h9 => Or.inr (Or.inr (Or.inr (Or.inl h9)))) (fun z9 => Or.elim z9 (fun h9 => Or.inr (Or.inr (Or.inr (Or.inr (Or.inl h9))))) (fun z9 => Or.elim z9 (fun h9 => Or.inr (Or.inr (Or.inr (Or.inr (Or.inr (Or.inl h9)))))) (fun z9 => Or.elim z9 (fun h9 => Or.inr (Or.inr (Or.inr (Or.inr (Or.inr (Or.inr (Or.inl h9))))))) (fun h9 => Or.inr (Or.inr (Or.inr (Or.inr (Or.inr (Or.inr (Or.inr (h9))))))))))))))) z8))).trans rfl))), (fun z => absurd hw_64 z)⟩
      · refine wp_bnd (fun M_4 eM_4 => ?_)
        have q7 : M_4 0 7 = M_2 0 7 + nI 1 := by rw [eM_4, mset_eq]
        have i7 := i_up (x := M_2 0 7) (by omega)
        have q12 : M_4 0 12 = M_2 0 12 := by rw [eM_4, mset_ne (by omega)]
        have q13 : M_4 0 13 = M_2 0 13 := by rw [eM_4, mset_ne (by omega)]
        have qr7 : M_4 7 = M_2 7 := by rw [eM_4, mset_n (by omega)]
        have hT4 : TM B M_4 1 := tmm_go hT2 (by rw [q7]; omega) q12 q13 (by rw [eM_4, mset_ne (by omega)]) qr7 (by rw [eM_4, mset_n (by omega)])
        have hs4 : ix (M_4 0 12) + aN (M_4 7) (ix (M_4 0 13)) + 1 ≤ ix (M_4 0 7) := by
          rw [q7, i7.1, q12, q13, qr7]
          have := hT2.1.2.2.1
          omega
        refine wp_cb2 (o_X10_readsSum M_4 hT4.1 (tmm_below hT4)) (fun r_5 M_6 he79 hq79 => ?_)
        obtain ⟨hz_r_5, hg_M_6, hR_79⟩ := hq79
        replace hR_79 : ¬ r_5.toInt = 0 → RS M_4 M_6 1 ∧ ix (M_6 0 13) = ix (M_4 0 13) ∧ (M_4 0 7).toInt < (M_6 0 7).toInt := hR_79
        replace hg_M_6 : ∀ a i, ¬ ((a = 0 ∧ i = 7) ∨ (a = 0 ∧ i = 9) ∨ (a = 0 ∧ i = 10) ∨ (a = 0 ∧ i = 11) ∨ (a = 0 ∧ i = 12) ∨ (a = 0 ∧ i = 13) ∨ a = 6 ∨ a = 7) → M_6 a i = M_4 a i := hg_M_6
        refine wp_ite (fun c82 => ?_) (fun c82 => ?_)
        · exact wp_some ⟨b01_0, (fun a i q0 => ((hg_M_6 a i (fun z8 => q0 ((fun z9 => Or.elim z9 (fun h9 => Or.inl h9) (fun z9 => Or.elim z9 (fun h9 => Or.inr (Or.inl h9)) (fun z9 => Or.elim z9 (fun h9 => Or.inr (Or.inr (Or.inl h9))) (fun z9 => Or.elim z9 (fun h9 => Or.inr (Or.inr (Or.inr (Or.inl h9)))) (fun z9 => Or.elim z9 (fun h9 => Or.inr (Or.inr (Or.inr (Or.inr (Or.inl h9))))) (fun z9 => Or.elim z9 (fun h9 => Or.inr (Or.inr (Or.inr (Or.inr (Or.inr (Or.inl h9)))))) (fun z9 => Or.elim z9 (fun h9 => Or.inr (Or.inr (Or.inr (Or.inr (Or.inr (Or.inr (Or.inl h9))))))) (fun h9 => Or.inr (Or.inr (Or.inr (Or.inr (Or.inr (Or.inr (Or.inr (h9))))))))))))))) z8))).trans ((congrFun (congrFun eM_4 a) i).trans ((mset_ne (fun h9 => q0 (Or.inl h9))).trans ((hg_M_2 a i (fun z8 => q0 ((fun z9 => Or.elim z9 (fun h9 => Or.inl h9) (fun z9 => Or.elim z9 (fun h9 => Or.inr (Or.inl h9)) (fun z9 => Or.elim z9 (fun h9 => Or.inr (Or.inr (Or.inl h9))) (fun z9 => Or.elim z9 (fun h9 => Or.inr (Or.inr (Or.inr (Or.inl h9)))) (fun z9 => Or.elim z9 (fun h9 => Or.inr (Or.inr (Or.inr (Or.inr (Or.inl h9))))) (fun z9 => Or.elim z9 (fun h9 => Or.inr (Or.inr (Or.inr (Or.inr (Or.inr (Or.inl h9)))))) (fun z9 => Or.elim z9 (fun h9 => Or.inr (Or.inr (Or.inr (Or.inr (Or.inr (Or.inr (Or.inl h9))))))) (fun h9 => Or.inr (Or.inr (Or.inr (Or.inr (Or.inr (Or.inr (Or.inr (h9))))))))))))))) z8))).trans rfl))))), (fun z => absurd nI0 z)⟩
        · have hr5 := hR_79 c82
          have hT6 : TM B M_6 2 := tmm_sum hT4 (by omega) hr5.1 hr5.2.1
          have hs6 : ix (M_6 0 12) + aN (M_6 7) (ix (M_6 0 13)) + 1 ≤ ix (M_6 0 7) := by
            have h9 := hr5.1.2.2.2.2.2.1
            omega
          have hb6 := pm_bd hT6.1
          refine wp_bind2 (o_X10_notes M_6 t0_52 (nI 0) (by omega)) (fun M_7 he90 hq90 => ?_)
          obtain ⟨hg_M_7, hn1_90, hn2_90, hn3_90⟩ := hq90
          replace hn1_90 : M_7 0 12 = M_6 0 12 + nI 1 := hn1_90
          have := t_lit 0
          replace hn2_90 : M_7 6 (ix (M_6 0 12)) = (nI 1048576) * t0_52 + (nI 0) := hn2_90
          have := t_lit 0
          replace hn3_90 : ∀ k : Nat, ¬ k = ix (M_6 0 12) → M_7 6 k = M_6 6 k := hn3_90
          have := t_lit 0
          replace hg_M_7 : ∀ a i, ¬ ((a = 0 ∧ i = 12) ∨ a = 6) → M_7 a i = M_6 a i := hg_M_7
          have hwd := wd_is (a := t0_52) (b := nI 0) (by omega) (by decide)
          have hT7 : TM B M_7 1 := tmm_cmp hT6 hs6 hn1_90 (hg_M_7 0 13 (by omega)) (hg_M_7 0 7 (by omega)) (hg_M_7 0 8 (by omega)) (funext (fun i => hg_M_7 7 i (by omega))) hn3_90 (by rw [hn2_90]; exact hwd.1) (by rw [hn2_90, hwd.2.2.1]; omega)
          refine wp_bind2 (o_X10_endsPiece M_7 B hT7) (fun M_8 he94 hq94 => ?_)
          obtain ⟨hg_M_8, hT_94⟩ := hq94
          replace hT_94 : TM B M_8 1 := hT_94
          replace hg_M_8 : ∀ a i, ¬ ((a = 0 ∧ i = 11) ∨ (a = 0 ∧ i = 12) ∨ (a = 0 ∧ i = 13) ∨ a = 6) → M_8 a i = M_7 a i := hg_M_8
          exact wp_some ⟨b01_1, (fun a i q0 => ((hg_M_8 a i (fun z8 => q0 ((fun z9 => Or.elim z9 (fun h9 => Or.inr (Or.inr (Or.inr (Or.inl h9)))) (fun z9 => Or.elim z9 (fun h9 => Or.inr (Or.inr (Or.inr (Or.inr (Or.inl h9))))) (fun z9 => Or.elim z9 (fun h9 => Or.inr (Or.inr (Or.inr (Or.inr (Or.inr (Or.inl h9)))))) (fun h9 => Or.inr (Or.inr (Or.inr (Or.inr (Or.inr (Or.inr (Or.inl h9)))))))))) z8))).trans ((hg_M_7 a i (fun z8 => q0 ((fun z9 => Or.elim z9 (fun h9 => Or.inr (Or.inr (Or.inr (Or.inr (Or.inl h9))))) (fun h9 => Or.inr (Or.inr (Or.inr (Or.inr (Or.inr (Or.inr (Or.inl h9)))))))) z8))).trans ((hg_M_6 a i (fun z8 => q0 ((fun z9 => Or.elim z9 (fun h9 => Or.inl h9) (fun z9 => Or.elim z9 (fun h9 => Or.inr (Or.inl h9)) (fun z9 => Or.elim z9 (fun h9 => Or.inr (Or.inr (Or.inl h9))) (fun z9 => Or.elim z9 (fun h9 => Or.inr (Or.inr (Or.inr (Or.inl h9)))) (fun z9 => Or.elim z9 (fun h9 => Or.inr (Or.inr (Or.inr (Or.inr (Or.inl h9))))) (fun z9 => Or.elim z9 (fun h9 => Or.inr (Or.inr (Or.inr (Or.inr (Or.inr (Or.inl h9)))))) (fun z9 => Or.elim z9 (fun h9 => Or.inr (Or.inr (Or.inr (Or.inr (Or.inr (Or.inr (Or.inl h9))))))) (fun h9 => Or.inr (Or.inr (Or.inr (Or.inr (Or.inr (Or.inr (Or.inr (h9))))))))))))))) z8))).trans ((congrFun (congrFun eM_4 a) i).trans ((mset_ne (fun h9 => q0 (Or.inl h9))).trans ((hg_M_2 a i (fun z8 => q0 ((fun z9 => Or.elim z9 (fun h9 => Or.inl h9) (fun z9 => Or.elim z9 (fun h9 => Or.inr (Or.inl h9)) (fun z9 => Or.elim z9 (fun h9 => Or.inr (Or.inr (Or.inl h9))) (fun z9 => Or.elim z9 (fun h9 => Or.inr (Or.inr (Or.inr (Or.inl h9)))) (fun z9 => Or.elim z9 (fun h9 => Or.inr (Or.inr (Or.inr (Or.inr (Or.inl h9))))) (fun z9 => Or.elim z9 (fun h9 => Or.inr (Or.inr (Or.inr (Or.inr (Or.inr (Or.inl h9)))))) (fun z9 => Or.elim z9 (fun h9 => Or.inr (Or.inr (Or.inr (Or.inr (Or.inr (Or.inr (Or.inl h9))))))) (fun h9 => Or.inr (Or.inr (Or.inr (Or.inr (Or.inr (Or.inr (Or.inr (h9))))))))))))))) z8))).trans rfl))))))), (fun _ => by show TM B M_8 1 ∧ (M 0 7).toInt < (M_8 0 7).toInt; have e1 := congrArg Int32.toInt (hg_M_8 0 7 (by omega)); have e2 := congrArg Int32.toInt (hg_M_7 0 7 (by omega)); have e3 := congrArg Int32.toInt q7; have e4 := hr5.2.2; have e5 := hr1.2.2; exact ⟨hT_94, by omega⟩)⟩
    refine wp_ite (fun c15 => ?_) (fun c15 => ?_)
    · exact j52 (nI 7) (by have f0 := t_lit 7; omega)
    · refine wp_bind2 (o_X10_here M_2 (pm_hp hT2.1)) (fun r_11 he24 hq24 => ?_)
      have hh_24 := hq24
      replace hh_24 : (r_11.toInt = -1 ∧ (M_2 0 7).toInt = (M_2 0 8).toInt) ∨ (0 ≤ r_11.toInt ∧ r_11.toInt ≤ 255 ∧ (M_2 0 7).toInt < (M_2 0 8).toInt) := hh_24
      refine wp_ite (fun c29 => ?_) (fun c29 => ?_)
      · exact j52 (nI 8) (by have f0 := t_lit 8; omega)
      · refine wp_bind2 (o_X10_here M_2 (pm_hp hT2.1)) (fun r_12 he38 hq38 => ?_)
        have hh_38 := hq38
        replace hh_38 : (r_12.toInt = -1 ∧ (M_2 0 7).toInt = (M_2 0 8).toInt) ∨ (0 ≤ r_12.toInt ∧ r_12.toInt ≤ 255 ∧ (M_2 0 7).toInt < (M_2 0 8).toInt) := hh_38
        refine wp_ite (fun c43 => ?_) (fun c43 => ?_)
        · exact j52 (nI 9) (by have f0 := t_lit 9; omega)
        · exact j52 (-1) (by have f0 := (by decide : ((-1 : Int32)).toInt = -1); omega)
set_option maxHeartbeats 8000000 in
theorem o_X10_readsCondition (M : Mem) (hP : PMm M) : Wp (f_X10_readsCondition M) (fun q => (q.1 = 0 ∨ q.1 = 1) ∧ (∀ a i, ¬ ((a = 0 ∧ i = 7) ∨ (a = 0 ∧ i = 9) ∨ (a = 0 ∧ i = 10) ∨ (a = 0 ∧ i = 11) ∨ (a = 0 ∧ i = 12) ∨ (a = 0 ∧ i = 13) ∨ a = 6 ∨ a = 7) → q.2 a i = M a i) ∧ (¬ q.1.toInt = 0 → PMm q.2 ∧ Seg (q.2 6) (ix (M 0 12)) (ix (q.2 0 12)) ∧ ix (M 0 12) ≤ ix (q.2 0 12) ∧ (∀ k, k < ix (M 0 12) → q.2 6 k = M 6 k) ∧ (M 0 7).toInt < (q.2 0 7).toInt)) := by
  obtain ⟨B, eB⟩ : ∃ B : Mem, B = M := ⟨M, rfl⟩
  have hb := pm_bd hP
  have hx := pm_ix hP
  refine wp_bind2 (o_X10_here M (pm_hp hP)) (fun r_1 he1 hq1 => ?_)
  have hh_1 := hq1
  replace hh_1 : (r_1.toInt = -1 ∧ (M 0 7).toInt = (M 0 8).toInt) ∨ (0 ≤ r_1.toInt ∧ r_1.toInt ≤ 255 ∧ (M 0 7).toInt < (M 0 8).toInt) := hh_1
  refine wp_ite (fun c6 => ?_) (fun c6 => ?_)
  · refine wp_bnd (fun M_2 eM_2 => ?_)
    refine wp_bnd (fun M_3 eM_3 => ?_)
    have a13 : M_3 0 13 = nI 0 := by rw [eM_3, mset_eq]
    have a12 : M_3 0 12 = M 0 12 := by rw [eM_3, mset_ne (by omega), eM_2, mset_ne (by omega)]
    have a7 : M_3 0 7 = M 0 7 := by rw [eM_3, mset_ne (by omega), eM_2, mset_ne (by omega)]
    have a8 : M_3 0 8 = M 0 8 := by rw [eM_3, mset_ne (by omega), eM_2, mset_ne (by omega)]
    have hP3 : PMm M_3 := pm_mk a13 (by rw [a12, a7, a8]; have h9 := hP.2.2.1; omega)
    refine wp_cb2 (o_X10_opens M_3 (nI 13) hP3) (fun r_4 M_5 he32 hq32 => ?_)
    obtain ⟨hz_r_4, hg_M_5, ho_32⟩ := hq32
    replace ho_32 : ¬ r_4.toInt = 0 → M_5 0 13 = M_3 0 13 + nI 1 ∧ M_5 7 = upd (M_3 7) (ix (M_3 0 13)) ((nI 1048576) * (nI 13)) ∧ M_5 0 7 = M_3 0 7 + nI 1 := ho_32
    have := t_lit 13
    replace hg_M_5 : ∀ a i, ¬ ((a = 0 ∧ i = 7) ∨ (a = 0 ∧ i = 9) ∨ (a = 0 ∧ i = 11) ∨ (a = 0 ∧ i = 13) ∨ a = 7) → M_5 a i = M_3 a i := hg_M_5
    refine wp_ite (fun c35 => ?_) (fun c35 => ?_)
    · exact wp_some ⟨b01_0, (fun a i q0 => ((hg_M_5 a i (fun z8 => q0 ((fun z9 => Or.elim z9 (fun h9 => Or.inl h9) (fun z9 => Or.elim z9 (fun h9 => Or.inr (Or.inl h9)) (fun z9 => Or.elim z9 (fun h9 => Or.inr (Or.inr (Or.inr (Or.inl h9)))) (fun z9 => Or.elim z9 (fun h9 => Or.inr (Or.inr (Or.inr (Or.inr (Or.inr (Or.inl h9)))))) (fun h9 => Or.inr (Or.inr (Or.inr (Or.inr (Or.inr (Or.inr (Or.inr (h9)))))))))))) z8))).trans ((congrFun (congrFun eM_3 a) i).trans ((mset_ne (fun h9 => q0 (Or.inr (Or.inr (Or.inr (Or.inr (Or.inr (Or.inl h9)))))))).trans ((congrFun (congrFun eM_2 a) i).trans ((mset_ne (fun h9 => q0 (Or.inr (Or.inr (Or.inr (Or.inl h9)))))).trans rfl)))))), (fun z => absurd nI0 z)⟩
    · have ho := ho_32 c35
      have hwd := wd_0 (a := nI 13) (by decide)
      have hP5 : PMm M_5 := pm_push hP3 (by rw [a7, a8]; omega) ho.1 ho.2.1 ho.2.2 (hg_M_5 0 12 (by omega)) (hg_M_5 0 8 (by omega)) ⟨hwd.1, hwd.2.1⟩
      have hT5 : TM B M_5 0 := by
        rw [eB]
        exact tmm_begin (v := (nI 1048576) * (nI 13)) hP5 (by rw [ho.1, a13]) (by rw [ho.2.1, a13, show ix (nI 0) = 0 from (by decide), upd_e]) (by rw [hwd.2.2.1]; exact t_lit 13) (by rw [hg_M_5 0 12 (by omega), a12]) (by rw [hg_M_5 0 8 (by omega), a8]) (funext (fun i => by rw [hg_M_5 6 i (by omega), eM_3, mset_ne (by omega), eM_2, mset_ne (by omega)]))
      have hq5 : (M_5 0 7).toInt = (M 0 7).toInt + 1 := by rw [ho.2.2, a7]; exact (i_up (by omega)).2
      refine wp_lp1 (fun M40 => (∀ a i, ¬ ((a = 0 ∧ i = 7) ∨ (a = 0 ∧ i = 9) ∨ (a = 0 ∧ i = 10) ∨ (a = 0 ∧ i = 11) ∨ (a = 0 ∧ i = 12) ∨ (a = 0 ∧ i = 13) ∨ a = 6 ∨ a = 7) → M40 a i = M_5 a i) ∧ (TM B M40 0) ∧ ((M 0 7).toInt < (M40 0 7).toInt)) (fun M40 => ((M40 0 8).toInt - (M40 0 7).toInt).toNat) (fun ag40 M40 hI40 ih40 => ?_) FU M_5 ⟨(fun _ _ _ => rfl), hT5, (by omega)⟩ (fu_lt ((by have := pm_bd hP5; omega)))
      obtain ⟨hf_M40, hT40, hp40⟩ := hI40
      have hb40 := pm_bd hT40.1
      have hx40 := pm_ix hT40.1
      refine wp_bind2 (o_X10_here M40 (pm_hp hT40.1)) (fun r_6 he41 hq41 => ?_)
      have hh_41 := hq41
      replace hh_41 : (r_6.toInt = -1 ∧ (M40 0 7).toInt = (M40 0 8).toInt) ∨ (0 ≤ r_6.toInt ∧ r_6.toInt ≤ 255 ∧ (M40 0 7).toInt < (M40 0 8).toInt) := hh_41
      have j58 : ((M40 0 7).toInt < (M40 0 8).toInt) → Wp (f_X10_readsCondition_L58 ag40 M40) (fun q => (q.1 = 0 ∨ q.1 = 1) ∧ (∀ a i, ¬ ((a = 0 ∧ i = 7) ∨ (a = 0 ∧ i = 9) ∨ (a = 0 ∧ i = 10) ∨ (a = 0 ∧ i = 11) ∨ (a = 0 ∧ i = 12) ∨ (a = 0 ∧ i = 13) ∨ a = 6 ∨ a = 7) → q.2 a i = M a i) ∧ (¬ q.1.toInt = 0 → PMm q.2 ∧ Seg (q.2 6) (ix (M 0 12)) (ix (q.2 0 12)) ∧ ix (M 0 12) ≤ ix (q.2 0 12) ∧ (∀ k, k < ix (M 0 12) → q.2 6 k = M 6 k) ∧ (M 0 7).toInt < (q.2 0 7).toInt)) := by
        intro h58
        unfold f_X10_readsCondition_L58
        refine wp_bind2 (o_X10_here M40 (pm_hp hT40.1)) (fun r_7 he60 hq60 => ?_)
        have hh_60 := hq60
        replace hh_60 : (r_7.toInt = -1 ∧ (M40 0 7).toInt = (M40 0 8).toInt) ∨ (0 ≤ r_7.toInt ∧ r_7.toInt ≤ 255 ∧ (M40 0 7).toInt < (M40 0 8).toInt) := hh_60
        have j75 : ∀ (t0_75 : Int32), (t0_75.toInt = 10 ∨ t0_75.toInt = 13) → Wp (f_X10_readsCondition_L75 ag40 M40 t0_75) (fun q => (q.1 = 0 ∨ q.1 = 1) ∧ (∀ a i, ¬ ((a = 0 ∧ i = 7) ∨ (a = 0 ∧ i = 9) ∨ (a = 0 ∧ i = 10) ∨ (a = 0 ∧ i = 11) ∨ (a = 0 ∧ i = 12) ∨ (a = 0 ∧ i = 13) ∨ a = 6 ∨ a = 7) → q.2 a i = M a i) ∧ (¬ q.1.toInt = 0 → PMm q.2 ∧ Seg (q.2 6) (ix (M 0 12)) (ix (q.2 0 12)) ∧ ix (M 0 12) ≤ ix (q.2 0 12) ∧ (∀ k, k < ix (M 0 12) → q.2 6 k = M 6 k) ∧ (M 0 7).toInt < (q.2 0 7).toInt)) := by
          intro t0_75 h75
          unfold f_X10_readsCondition_L75
          refine wp_cb2 (o_X10_opens M40 t0_75 hT40.1) (fun r_8 M_9 he75 hq75 => ?_)
          obtain ⟨hz_r_8, hg_M_9, ho_75⟩ := hq75
          replace ho_75 : ¬ r_8.toInt = 0 → M_9 0 13 = M40 0 13 + nI 1 ∧ M_9 7 = upd (M40 7) (ix (M40 0 13)) ((nI 1048576) * t0_75) ∧ M_9 0 7 = M40 0 7 + nI 1 := ho_75
          replace hg_M_9 : ∀ a i, ¬ ((a = 0 ∧ i = 7) ∨ (a = 0 ∧ i = 9) ∨ (a = 0 ∧ i = 11) ∨ (a = 0 ∧ i = 13) ∨ a = 7) → M_9 a i = M40 a i := hg_M_9
          refine wp_ite (fun c78 => ?_) (fun c78 => ?_)
          · exact wp_some ⟨b01_0, (fun a i q0 => ((hg_M_9 a i (fun z8 => q0 ((fun z9 => Or.elim z9 (fun h9 => Or.inl h9) (fun z9 => Or.elim z9 (fun h9 => Or.inr (Or.inl h9)) (fun z9 => Or.elim z9 (fun h9 => Or.inr (Or.inr (Or.inr (Or.inl h9)))) (fun z9 => Or.elim z9 (fun h9 => Or.inr (Or.inr (Or.inr (Or.inr (Or.inr (Or.inl h9)))))) (fun h9 => Or.inr (Or.inr (Or.inr (Or.inr (Or.inr (Or.inr (Or.inr (h9)))))))))))) z8))).trans ((hf_M40 a i (fun z8 => q0 ((fun z9 => Or.elim z9 (fun h9 => Or.inl h9) (fun z9 => Or.elim z9 (fun h9 => Or.inr (Or.inl h9)) (fun z9 => Or.elim z9 (fun h9 => Or.inr (Or.inr (Or.inl h9))) (fun z9 => Or.elim z9 (fun h9 => Or.inr (Or.inr (Or.inr (Or.inl h9)))) (fun z9 => Or.elim z9 (fun h9 => Or.inr (Or.inr (Or.inr (Or.inr (Or.inl h9))))) (fun z9 => Or.elim z9 (fun h9 => Or.inr (Or.inr (Or.inr (Or.inr (Or.inr (Or.inl h9)))))) (fun z9 => Or.elim z9 (fun h9 => Or.inr (Or.inr (Or.inr (Or.inr (Or.inr (Or.inr (Or.inl h9))))))) (fun h9 => Or.inr (Or.inr (Or.inr (Or.inr (Or.inr (Or.inr (Or.inr (h9))))))))))))))) z8))).trans ((hg_M_5 a i (fun z8 => q0 ((fun z9 => Or.elim z9 (fun h9 => Or.inl h9) (fun z9 => Or.elim z9 (fun h9 => Or.inr (Or.inl h9)) (fun z9 => Or.elim z9 (fun h9 => Or.inr (Or.inr (Or.inr (Or.inl h9)))) (fun z9 => Or.elim z9 (fun h9 => Or.inr (Or.inr (Or.inr (Or.inr (Or.inr (Or.inl h9)))))) (fun h9 => Or.inr (Or.inr (Or.inr (Or.inr (Or.inr (Or.inr (Or.inr (h9)))))))))))) z8))).trans ((congrFun (congrFun eM_3 a) i).trans ((mset_ne (fun h9 => q0 (Or.inr (Or.inr (Or.inr (Or.inr (Or.inr (Or.inl h9)))))))).trans ((congrFun (congrFun eM_2 a) i).trans ((mset_ne (fun h9 => q0 (Or.inr (Or.inr (Or.inr (Or.inl h9)))))).trans rfl)))))))), (fun z => absurd nI0 z)⟩
          · have ho9 := ho_75 c78
            have hw9 := wd_0 (a := t0_75) (by omega)
            have hq9 : (M_9 0 7).toInt = (M40 0 7).toInt + 1 := by rw [ho9.2.2]; exact (i_up (by omega)).2
            have h89 := congrArg Int32.toInt (hg_M_9 0 8 (by omega))
            exact ih40 M_9 ⟨(fun a i q0 => ((hg_M_9 a i (fun z8 => q0 ((fun z9 => Or.elim z9 (fun h9 => Or.inl h9) (fun z9 => Or.elim z9 (fun h9 => Or.inr (Or.inl h9)) (fun z9 => Or.elim z9 (fun h9 => Or.inr (Or.inr (Or.inr (Or.inl h9)))) (fun z9 => Or.elim z9 (fun h9 => Or.inr (Or.inr (Or.inr (Or.inr (Or.inr (Or.inl h9)))))) (fun h9 => Or.inr (Or.inr (Or.inr (Or.inr (Or.inr (Or.inr (Or.inr (h9)))))))))))) z8))).trans ((hf_M40 a i (fun z8 => q0 ((fun z9 => Or.elim z9 (fun h9 => Or.inl h9) (fun z9 => Or.elim z9 (fun h9 => Or.inr (Or.inl h9)) (fun z9 => Or.elim z9 (fun h9 => Or.inr (Or.inr (Or.inl h9))) (fun z9 => Or.elim z9 (fun h9 => Or.inr (Or.inr (Or.inr (Or.inl h9)))) (fun z9 => Or.elim z9 (fun h9 => Or.inr (Or.inr (Or.inr (Or.inr (Or.inl h9))))) (fun z9 => Or.elim z9 (fun h9 => Or.inr (Or.inr (Or.inr (Or.inr (Or.inr (Or.inl h9)))))) (fun z9 => Or.elim z9 (fun h9 => Or.inr (Or.inr (Or.inr (Or.inr (Or.inr (Or.inr (Or.inl h9))))))) (fun h9 => Or.inr (Or.inr (Or.inr (Or.inr (Or.inr (Or.inr (Or.inr (h9))))))))))))))) z8))).trans rfl))), (tmm_open hT40 h58 ho9.1 ho9.2.1 ho9.2.2 (hg_M_9 0 12 (by omega)) (hg_M_9 0 8 (by omega)) (funext (fun i => hg_M_9 6 i (by omega))) ⟨hw9.1, hw9.2.1⟩ (by rw [hw9.2.2.1]; exact h75)), (by omega)⟩ (by omega)
        refine wp_ite (fun c65 => ?_) (fun c65 => ?_)
        · exact j75 (nI 10) (by have f0 := t_lit 10; omega)
        · exact j75 (nI 13) (by have f0 := t_lit 13; omega)
      refine wp_ite (fun c46 => ?_) (fun c46 => ?_)
      · exact j58 (by omega)
      · refine wp_bind2 (o_X10_here M40 (pm_hp hT40.1)) (fun r_10 he50 hq50 => ?_)
        have hh_50 := hq50
        replace hh_50 : (r_10.toInt = -1 ∧ (M40 0 7).toInt = (M40 0 8).toInt) ∨ (0 ≤ r_10.toInt ∧ r_10.toInt ≤ 255 ∧ (M40 0 7).toInt < (M40 0 8).toInt) := hh_50
        refine wp_ite (fun c55 => ?_) (fun c55 => ?_)
        · exact j58 (by omega)
        · refine wp_cb2 (o_X10_readsCompared M40 B hT40) (fun r_11 M_12 he84 hq84 => ?_)
          obtain ⟨hz_r_11, hg_M_12, hT_84⟩ := hq84
          replace hT_84 : ¬ r_11.toInt = 0 → TM B M_12 1 ∧ (M40 0 7).toInt < (M_12 0 7).toInt := hT_84
          replace hg_M_12 : ∀ a i, ¬ ((a = 0 ∧ i = 7) ∨ (a = 0 ∧ i = 9) ∨ (a = 0 ∧ i = 10) ∨ (a = 0 ∧ i = 11) ∨ (a = 0 ∧ i = 12) ∨ (a = 0 ∧ i = 13) ∨ a = 6 ∨ a = 7) → M_12 a i = M40 a i := hg_M_12
          refine wp_ite (fun c87 => ?_) (fun c87 => ?_)
          · exact wp_some ⟨b01_0, (fun a i q0 => ((hg_M_12 a i (fun z8 => q0 ((fun z9 => Or.elim z9 (fun h9 => Or.inl h9) (fun z9 => Or.elim z9 (fun h9 => Or.inr (Or.inl h9)) (fun z9 => Or.elim z9 (fun h9 => Or.inr (Or.inr (Or.inl h9))) (fun z9 => Or.elim z9 (fun h9 => Or.inr (Or.inr (Or.inr (Or.inl h9)))) (fun z9 => Or.elim z9 (fun h9 => Or.inr (Or.inr (Or.inr (Or.inr (Or.inl h9))))) (fun z9 => Or.elim z9 (fun h9 => Or.inr (Or.inr (Or.inr (Or.inr (Or.inr (Or.inl h9)))))) (fun z9 => Or.elim z9 (fun h9 => Or.inr (Or.inr (Or.inr (Or.inr (Or.inr (Or.inr (Or.inl h9))))))) (fun h9 => Or.inr (Or.inr (Or.inr (Or.inr (Or.inr (Or.inr (Or.inr (h9))))))))))))))) z8))).trans ((hf_M40 a i (fun z8 => q0 ((fun z9 => Or.elim z9 (fun h9 => Or.inl h9) (fun z9 => Or.elim z9 (fun h9 => Or.inr (Or.inl h9)) (fun z9 => Or.elim z9 (fun h9 => Or.inr (Or.inr (Or.inl h9))) (fun z9 => Or.elim z9 (fun h9 => Or.inr (Or.inr (Or.inr (Or.inl h9)))) (fun z9 => Or.elim z9 (fun h9 => Or.inr (Or.inr (Or.inr (Or.inr (Or.inl h9))))) (fun z9 => Or.elim z9 (fun h9 => Or.inr (Or.inr (Or.inr (Or.inr (Or.inr (Or.inl h9)))))) (fun z9 => Or.elim z9 (fun h9 => Or.inr (Or.inr (Or.inr (Or.inr (Or.inr (Or.inr (Or.inl h9))))))) (fun h9 => Or.inr (Or.inr (Or.inr (Or.inr (Or.inr (Or.inr (Or.inr (h9))))))))))))))) z8))).trans ((hg_M_5 a i (fun z8 => q0 ((fun z9 => Or.elim z9 (fun h9 => Or.inl h9) (fun z9 => Or.elim z9 (fun h9 => Or.inr (Or.inl h9)) (fun z9 => Or.elim z9 (fun h9 => Or.inr (Or.inr (Or.inr (Or.inl h9)))) (fun z9 => Or.elim z9 (fun h9 => Or.inr (Or.inr (Or.inr (Or.inr (Or.inr (Or.inl h9)))))) (fun h9 => Or.inr (Or.inr (Or.inr (Or.inr (Or.inr (Or.inr (Or.inr (h9)))))))))))) z8))).trans ((congrFun (congrFun eM_3 a) i).trans ((mset_ne (fun h9 => q0 (Or.inr (Or.inr (Or.inr (Or.inr (Or.inr (Or.inl h9)))))))).trans ((congrFun (congrFun eM_2 a) i).trans ((mset_ne (fun h9 => q0 (Or.inr (Or.inr (Or.inr (Or.inl h9)))))).trans rfl)))))))), (fun z => absurd nI0 z)⟩
          · refine wp_lp1 (fun M92 => (∀ a i, ¬ ((a = 0 ∧ i = 7) ∨ (a = 0 ∧ i = 11) ∨ (a = 0 ∧ i = 12) ∨ (a = 0 ∧ i = 13) ∨ a = 6) → M92 a i = M_12 a i) ∧ (TM B M92 1) ∧ ((M40 0 7).toInt < (M92 0 7).toInt)) (fun M92 => ((M92 0 8).toInt - (M92 0 7).toInt).toNat) (fun ag92 M92 hI92 ih92 => ?_) FU M_12 ⟨(fun _ _ _ => rfl), (hT_84 c87).1, (hT_84 c87).2⟩ (fu_lt ((by have := pm_bd (hT_84 c87).1.1; omega)))
            obtain ⟨hf_M92, hT92, hp92⟩ := hI92
            have hb92 := pm_bd hT92.1
            have hx92 := pm_ix hT92.1
            have h892 := congrArg Int32.toInt (hT92.2.2.2.trans hT40.2.2.2.symm)
            refine wp_bind2 (o_X10_here M92 (pm_hp hT92.1)) (fun r_13 he93 hq93 => ?_)
            have hh_93 := hq93
            replace hh_93 : (r_13.toInt = -1 ∧ (M92 0 7).toInt = (M92 0 8).toInt) ∨ (0 ≤ r_13.toInt ∧ r_13.toInt ≤ 255 ∧ (M92 0 7).toInt < (M92 0 8).toInt) := hh_93
            have j152 : Wp (f_X10_readsCondition_L152 ag40 M92) (fun q => (q.1 = 0 ∨ q.1 = 1) ∧ (∀ a i, ¬ ((a = 0 ∧ i = 7) ∨ (a = 0 ∧ i = 9) ∨ (a = 0 ∧ i = 10) ∨ (a = 0 ∧ i = 11) ∨ (a = 0 ∧ i = 12) ∨ (a = 0 ∧ i = 13) ∨ a = 6 ∨ a = 7) → q.2 a i = M a i) ∧ (¬ q.1.toInt = 0 → PMm q.2 ∧ Seg (q.2 6) (ix (M 0 12)) (ix (q.2 0 12)) ∧ ix (M 0 12) ≤ ix (q.2 0 12) ∧ (∀ k, k < ix (M 0 12) → q.2 6 k = M 6 k) ∧ (M 0 7).toInt < (q.2 0 7).toInt)) := by
              unfold f_X10_readsCondition_L152
              refine wp_bind2 (o_X10_here M92 (pm_hp hT92.1)) (fun r_14 he153 hq153 => ?_)
              have hh_153 := hq153
              replace hh_153 : (r_14.toInt = -1 ∧ (M92 0 7).toInt = (M92 0 8).toInt) ∨ (0 ≤ r_14.toInt ∧ r_14.toInt ≤ 255 ∧ (M92 0 7).toInt < (M92 0 8).toInt) := hh_153
              have j180 : ((M92 0 7).toInt < (M92 0 8).toInt) → Wp (f_X10_readsCondition_L180 ag40 M92) (fun q => (q.1 = 0 ∨ q.1 = 1) ∧ (∀ a i, ¬ ((a = 0 ∧ i = 7) ∨ (a = 0 ∧ i = 9) ∨ (a = 0 ∧ i = 10) ∨ (a = 0 ∧ i = 11) ∨ (a = 0 ∧ i = 12) ∨ (a = 0 ∧ i = 13) ∨ a = 6 ∨ a = 7) → q.2 a i = M a i) ∧ (¬ q.1.toInt = 0 → PMm q.2 ∧ Seg (q.2 6) (ix (M 0 12)) (ix (q.2 0 12)) ∧ ix (M 0 12) ≤ ix (q.2 0 12) ∧ (∀ k, k < ix (M 0 12) → q.2 6 k = M 6 k) ∧ (M 0 7).toInt < (q.2 0 7).toInt)) := by
                intro h180
                unfold f_X10_readsCondition_L180
                refine wp_bind2 (o_X10_here M92 (pm_hp hT92.1)) (fun r_15 he182 hq182 => ?_)
                have hh_182 := hq182
                replace hh_182 : (r_15.toInt = -1 ∧ (M92 0 7).toInt = (M92 0 8).toInt) ∨ (0 ≤ r_15.toInt ∧ r_15.toInt ≤ 255 ∧ (M92 0 7).toInt < (M92 0 8).toInt) := hh_182
                have j195 : ∀ (t0_195 : Int32), (t0_195 = 0 ∨ t0_195 = 1) → Wp (f_X10_readsCondition_L195 ag40 M92 t0_195) (fun q => (q.1 = 0 ∨ q.1 = 1) ∧ (∀ a i, ¬ ((a = 0 ∧ i = 7) ∨ (a = 0 ∧ i = 9) ∨ (a = 0 ∧ i = 10) ∨ (a = 0 ∧ i = 11) ∨ (a = 0 ∧ i = 12) ∨ (a = 0 ∧ i = 13) ∨ a = 6 ∨ a = 7) → q.2 a i = M a i) ∧ (¬ q.1.toInt = 0 → PMm q.2 ∧ Seg (q.2 6) (ix (M 0 12)) (ix (q.2 0 12)) ∧ ix (M 0 12) ≤ ix (q.2 0 12) ∧ (∀ k, k < ix (M 0 12) → q.2 6 k = M 6 k) ∧ (M 0 7).toInt < (q.2 0 7).toInt)) := by
                  intro t0_195 hb_t0_195
                  unfold f_X10_readsCondition_L195
                  refine wp_bind2 (o_X10_lands M92 t0_195 B hT92) (fun M_16 he195 hq195 => ?_)
                  obtain ⟨hg_M_16, hT_195, ht_195⟩ := hq195
                  replace hT_195 : TM B M_16 1 := hT_195
                  replace ht_195 : ¬ t0_195.toInt = 0 → ¬ (kd (M_16 7 (ix (M_16 0 13) - 1)) = 11 ∨ kd (M_16 7 (ix (M_16 0 13) - 1)) = 12) := ht_195
                  replace hg_M_16 : ∀ a i, ¬ ((a = 0 ∧ i = 13) ∨ a = 6) → M_16 a i = M92 a i := hg_M_16
                  have e16 := congrArg Int32.toInt (hg_M_16 0 7 (by omega))
                  have e168 := congrArg Int32.toInt (hg_M_16 0 8 (by omega))
                  refine wp_bind2 (o_X10_here M_16 (pm_hp hT_195.1)) (fun r_17 he200 hq200 => ?_)
                  have hh_200 := hq200
                  replace hh_200 : (r_17.toInt = -1 ∧ (M_16 0 7).toInt = (M_16 0 8).toInt) ∨ (0 ≤ r_17.toInt ∧ r_17.toInt ≤ 255 ∧ (M_16 0 7).toInt < (M_16 0 8).toInt) := hh_200
                  have j215 : ∀ (t0_215 : Int32), (t0_215.toInt = 11 ∨ t0_215.toInt = 12) → Wp (f_X10_readsCondition_L215 ag40 M_16 t0_215) (fun q => (q.1 = 0 ∨ q.1 = 1) ∧ (∀ a i, ¬ ((a = 0 ∧ i = 7) ∨ (a = 0 ∧ i = 9) ∨ (a = 0 ∧ i = 10) ∨ (a = 0 ∧ i = 11) ∨ (a = 0 ∧ i = 12) ∨ (a = 0 ∧ i = 13) ∨ a = 6 ∨ a = 7) → q.2 a i = M a i) ∧ (¬ q.1.toInt = 0 → PMm q.2 ∧ Seg (q.2 6) (ix (M 0 12)) (ix (q.2 0 12)) ∧ ix (M 0 12) ≤ ix (q.2 0 12) ∧ (∀ k, k < ix (M 0 12) → q.2 6 k = M 6 k) ∧ (M 0 7).toInt < (q.2 0 7).toInt)) := by
                    intro t0_215 h215
                    unfold f_X10_readsCondition_L215
                    refine wp_bind2 (o_X10_jumps M_16 t0_215 B hT_195 h215 (by omega)) (fun M_18 he215 hq215 => ?_)
                    obtain ⟨hg_M_18, hT_215, hq_215⟩ := hq215
                    replace hT_215 : TM B M_18 0 := hT_215
                    replace hq_215 : M_18 0 7 = M_16 0 7 + nI 1 := hq_215
                    replace hg_M_18 : ∀ a i, ¬ ((a = 0 ∧ i = 7) ∨ (a = 0 ∧ i = 12) ∨ (a = 0 ∧ i = 13) ∨ a = 6 ∨ a = 7) → M_18 a i = M_16 a i := hg_M_18
                    have hq18 : (M_18 0 7).toInt = (M_16 0 7).toInt + 1 := by rw [hq_215]; exact (i_up (by omega)).2
                    have h818 := congrArg Int32.toInt (hT_215.2.2.2.trans hT40.2.2.2.symm)
                    exact ih40 M_18 ⟨(fun a i q0 => ((hg_M_18 a i (fun z8 => q0 ((fun z9 => Or.elim z9 (fun h9 => Or.inl h9) (fun z9 => Or.elim z9 (fun h9 => Or.inr (Or.inr (Or.inr (Or.inr (Or.inl h9))))) (fun z9 => Or.elim z9 (fun h9 => Or.inr (Or.inr (Or.inr (Or.inr (Or.inr (Or.inl h9)))))) (fun z9 => Or.elim z9 (fun h9 => Or.inr (Or.inr (Or.inr (Or.inr (Or.inr (Or.inr (Or.inl h9))))))) (fun h9 => Or.inr (Or.inr (Or.inr (Or.inr (Or.inr (Or.inr (Or.inr (h9)))))))))))) z8))).trans ((hg_M_16 a i (fun z8 => q0 ((fun z9 => Or.elim z9 (fun h9 => Or.inr (Or.inr (Or.inr (Or.inr (Or.inr (Or.inl h9)))))) (fun h9 => Or.inr (Or.inr (Or.inr (Or.inr (Or.inr (Or.inr (Or.inl h9)))))))) z8))).trans ((hf_M92 a i (fun z8 => q0 ((fun z9 => Or.elim z9 (fun h9 => Or.inl h9) (fun z9 => Or.elim z9 (fun h9 => Or.inr (Or.inr (Or.inr (Or.inl h9)))) (fun z9 => Or.elim z9 (fun h9 => Or.inr (Or.inr (Or.inr (Or.inr (Or.inl h9))))) (fun z9 => Or.elim z9 (fun h9 => Or.inr (Or.inr (Or.inr (Or.inr (Or.inr (Or.inl h9)))))) (fun h9 => Or.inr (Or.inr (Or.inr (Or.inr (Or.inr (Or.inr (Or.inl h9))))))))))) z8))).trans ((hg_M_12 a i (fun z8 => q0 ((fun z9 => Or.elim z9 (fun h9 => Or.inl h9) (fun z9 => Or.elim z9 (fun h9 => Or.inr (Or.inl h9)) (fun z9 => Or.elim z9 (fun h9 => Or.inr (Or.inr (Or.inl h9))) (fun z9 => Or.elim z9 (fun h9 => Or.inr (Or.inr (Or.inr (Or.inl h9)))) (fun z9 => Or.elim z9 (fun h9 => Or.inr (Or.inr (Or.inr (Or.inr (Or.inl h9))))) (fun z9 => Or.elim z9 (fun h9 => Or.inr (Or.inr (Or.inr (Or.inr (Or.inr (Or.inl h9)))))) (fun z9 => Or.elim z9 (fun h9 => Or.inr (Or.inr (Or.inr (Or.inr (Or.inr (Or.inr (Or.inl h9))))))) (fun h9 => Or.inr (Or.inr (Or.inr (Or.inr (Or.inr (Or.inr (Or.inr (h9))))))))))))))) z8))).trans ((hf_M40 a i (fun z8 => q0 ((fun z9 => Or.elim z9 (fun h9 => Or.inl h9) (fun z9 => Or.elim z9 (fun h9 => Or.inr (Or.inl h9)) (fun z9 => Or.elim z9 (fun h9 => Or.inr (Or.inr (Or.inl h9))) (fun z9 => Or.elim z9 (fun h9 => Or.inr (Or.inr (Or.inr (Or.inl h9)))) (fun z9 => Or.elim z9 (fun h9 => Or.inr (Or.inr (Or.inr (Or.inr (Or.inl h9))))) (fun z9 => Or.elim z9 (fun h9 => Or.inr (Or.inr (Or.inr (Or.inr (Or.inr (Or.inl h9)))))) (fun z9 => Or.elim z9 (fun h9 => Or.inr (Or.inr (Or.inr (Or.inr (Or.inr (Or.inr (Or.inl h9))))))) (fun h9 => Or.inr (Or.inr (Or.inr (Or.inr (Or.inr (Or.inr (Or.inr (h9))))))))))))))) z8))).trans rfl)))))), hT_215, (by omega)⟩ (by omega)
                  refine wp_ite (fun c205 => ?_) (fun c205 => ?_)
                  · exact j215 (nI 11) (by have f0 := t_lit 11; omega)
                  · exact j215 (nI 12) (by have f0 := t_lit 12; omega)
                refine wp_ite (fun c187 => ?_) (fun c187 => ?_)
                · exact j195 (nI 1) b01_1
                · exact j195 (nI 0) b01_0
              refine wp_ite (fun c158 => ?_) (fun c158 => ?_)
              · exact j180 (by omega)
              · refine wp_bind2 (o_X10_here M92 (pm_hp hT92.1)) (fun r_19 he162 hq162 => ?_)
                have hh_162 := hq162
                replace hh_162 : (r_19.toInt = -1 ∧ (M92 0 7).toInt = (M92 0 8).toInt) ∨ (0 ≤ r_19.toInt ∧ r_19.toInt ≤ 255 ∧ (M92 0 7).toInt < (M92 0 8).toInt) := hh_162
                have j170 : Wp (f_X10_readsCondition_L170 M92) (fun q => (q.1 = 0 ∨ q.1 = 1) ∧ (∀ a i, ¬ ((a = 0 ∧ i = 7) ∨ (a = 0 ∧ i = 9) ∨ (a = 0 ∧ i = 10) ∨ (a = 0 ∧ i = 11) ∨ (a = 0 ∧ i = 12) ∨ (a = 0 ∧ i = 13) ∨ a = 6 ∨ a = 7) → q.2 a i = M a i) ∧ (¬ q.1.toInt = 0 → PMm q.2 ∧ Seg (q.2 6) (ix (M 0 12)) (ix (q.2 0 12)) ∧ ix (M 0 12) ≤ ix (q.2 0 12) ∧ (∀ k, k < ix (M 0 12) → q.2 6 k = M 6 k) ∧ (M 0 7).toInt < (q.2 0 7).toInt)) := by
                  unfold f_X10_readsCondition_L170
                  refine wp_cb2 (o_X10_wrongAt M92 (nI 1) (M92 0 7)) (fun r_20 M_21 he176 hq176 => ?_)
                  obtain ⟨hz_r_20, hg_M_21, hw_176⟩ := hq176
                  replace hw_176 : r_20.toInt = 0 := hw_176
                  have := t_lit 1
                  replace hg_M_21 : ∀ a i, ¬ ((a = 0 ∧ i = 9)) → M_21 a i = M92 a i := hg_M_21
                  refine wp_gb hz_r_20 ?_
                  exact wp_some ⟨hz_r_20, (fun a i q0 => ((hg_M_21 a i (fun h9 => q0 (Or.inr (Or.inl h9)))).trans ((hf_M92 a i (fun z8 => q0 ((fun z9 => Or.elim z9 (fun h9 => Or.inl h9) (fun z9 => Or.elim z9 (fun h9 => Or.inr (Or.inr (Or.inr (Or.inl h9)))) (fun z9 => Or.elim z9 (fun h9 => Or.inr (Or.inr (Or.inr (Or.inr (Or.inl h9))))) (fun z9 => Or.elim z9 (fun h9 => Or.inr (Or.inr (Or.inr (Or.inr (Or.inr (Or.inl h9)))))) (fun h9 => Or.inr (Or.inr (Or.inr (Or.inr (Or.inr (Or.inr (Or.inl h9))))))))))) z8))).trans ((hg_M_12 a i (fun z8 => q0 ((fun z9 => Or.elim z9 (fun h9 => Or.inl h9) (fun z9 => Or.elim z9 (fun h9 => Or.inr (Or.inl h9)) (fun z9 => Or.elim z9 (fun h9 => Or.inr (Or.inr (Or.inl h9))) (fun z9 => Or.elim z9 (fun h9 => Or.inr (Or.inr (Or.inr (Or.inl h9)))) (fun z9 => Or.elim z9 (fun h9 => Or.inr (Or.inr (Or.inr (Or.inr (Or.inl h9))))) (fun z9 => Or.elim z9 (fun h9 => Or.inr (Or.inr (Or.inr (Or.inr (Or.inr (Or.inl h9)))))) (fun z9 => Or.elim z9 (fun h9 => Or.inr (Or.inr (Or.inr (Or.inr (Or.inr (Or.inr (Or.inl h9))))))) (fun h9 => Or.inr (Or.inr (Or.inr (Or.inr (Or.inr (Or.inr (Or.inr (h9))))))))))))))) z8))).trans ((hf_M40 a i (fun z8 => q0 ((fun z9 => Or.elim z9 (fun h9 => Or.inl h9) (fun z9 => Or.elim z9 (fun h9 => Or.inr (Or.inl h9)) (fun z9 => Or.elim z9 (fun h9 => Or.inr (Or.inr (Or.inl h9))) (fun z9 => Or.elim z9 (fun h9 => Or.inr (Or.inr (Or.inr (Or.inl h9)))) (fun z9 => Or.elim z9 (fun h9 => Or.inr (Or.inr (Or.inr (Or.inr (Or.inl h9))))) (fun z9 => Or.elim z9 (fun h9 => Or.inr (Or.inr (Or.inr (Or.inr (Or.inr (Or.inl h9)))))) (fun z9 => Or.elim z9 (fun h9 => Or.inr (Or.inr (Or.inr (Or.inr (Or.inr (Or.inr (Or.inl h9))))))) (fun h9 => Or.inr (Or.inr (Or.inr (Or.inr (Or.inr (Or.inr (Or.inr (h9))))))))))))))) z8))).trans ((hg_M_5 a i (fun z8 => q0 ((fun z9 => Or.elim z9 (fun h9 => Or.inl h9) (fun z9 => Or.elim z9 (fun h9 => Or.inr (Or.inl h9)) (fun z9 => Or.elim z9 (fun h9 => Or.inr (Or.inr (Or.inr (Or.inl h9)))) (fun z9 => Or.elim z9 (fun h9 => Or.inr (Or.inr (Or.inr (Or.inr (Or.inr (Or.inl h9)))))) (fun h9 => Or.inr (Or.inr (Or.inr (Or.inr (Or.inr (Or.inr (Or.inr (h9)))))))))))) z8))).trans ((congrFun (congrFun eM_3 a) i).trans ((mset_ne (fun h9 => q0 (Or.inr (Or.inr (Or.inr (Or.inr (Or.inr (Or.inl h9)))))))).trans ((congrFun (congrFun eM_2 a) i).trans ((mset_ne (fun h9 => q0 (Or.inr (Or.inr (Or.inr (Or.inl h9)))))).trans rfl)))))))))), (fun z => absurd hw_176 z)⟩
                refine wp_ite (fun c167 => ?_) (fun c167 => ?_)
                · exact j180 (by omega)
                · exact j170
            refine wp_ite (fun c98 => ?_) (fun c98 => ?_)
            · refine wp_bind2 (o_X10_lands M92 (nI 1) B hT92) (fun M_22 he103 hq103 => ?_)
              obtain ⟨hg_M_22, hT_103, ht_103⟩ := hq103
              replace hT_103 : TM B M_22 1 := hT_103
              have := t_lit 1
              replace ht_103 : ¬ (nI 1).toInt = 0 → ¬ (kd (M_22 7 (ix (M_22 0 13) - 1)) = 11 ∨ kd (M_22 7 (ix (M_22 0 13) - 1)) = 12) := ht_103
              have := t_lit 1
              replace hg_M_22 : ∀ a i, ¬ ((a = 0 ∧ i = 13) ∨ a = 6) → M_22 a i = M92 a i := hg_M_22
              have hb22 := pm_bd hT_103.1
              have hx22 := pm_ix hT_103.1
              have hw22 := hT_103.2.1.2.1
              have ht22 := ht_103 (by decide)
              have e227 := congrArg Int32.toInt (hg_M_22 0 7 (by omega))
              have e228 := congrArg Int32.toInt (hg_M_22 0 8 (by omega))
              refine wp_bnd (fun M_23 eM_23 => ?_)
              refine wp_bnd (fun M_24 eM_24 => ?_)
              refine wp_bnd (fun M_25 eM_25 => ?_)
              have hps := pop_is eM_23 eM_24 eM_25
              have hd := i_dn (x := M_22 0 13) (by omega)
              have hq25 : (M_25 0 7).toInt = (M_22 0 7).toInt + 1 := by rw [hps.2.1]; exact (i_up (by omega)).2
              have hw25 : (M_25 0 13).toInt = (M_22 0 13).toInt - 1 := by rw [hps.1]; exact hd.2
              refine wp_ite (fun c140 => ?_) (fun c140 => ?_)
              · have hw1 : ix (M_22 0 13) = 1 := by omega
                have hseg := tmm_end hT_103 hw1
                have hP25 : PMm M_25 := pm_pop hT_103.1 (by omega) (by omega) hps.2.2.1 hps.1 hps.2.2.2.1 hps.2.2.2.2.1
                have hr6 := hT_103.2.2.1
                have hcc := hT_103.2.1.1
                rw [eB] at hseg hr6 hcc
                exact wp_some ⟨b01_1, (fun a i q0 => ((congrFun (congrFun eM_25 a) i).trans ((mset_ne (fun h9 => q0 (Or.inl h9))).trans ((congrFun (congrFun eM_24 a) i).trans ((mset_ne (fun h9 => q0 (Or.inr (Or.inr (Or.inr (Or.inl h9)))))).trans ((congrFun (congrFun eM_23 a) i).trans ((mset_ne (fun h9 => q0 (Or.inr (Or.inr (Or.inr (Or.inr (Or.inr (Or.inl h9)))))))).trans ((hg_M_22 a i (fun z8 => q0 ((fun z9 => Or.elim z9 (fun h9 => Or.inr (Or.inr (Or.inr (Or.inr (Or.inr (Or.inl h9)))))) (fun h9 => Or.inr (Or.inr (Or.inr (Or.inr (Or.inr (Or.inr (Or.inl h9)))))))) z8))).trans ((hf_M92 a i (fun z8 => q0 ((fun z9 => Or.elim z9 (fun h9 => Or.inl h9) (fun z9 => Or.elim z9 (fun h9 => Or.inr (Or.inr (Or.inr (Or.inl h9)))) (fun z9 => Or.elim z9 (fun h9 => Or.inr (Or.inr (Or.inr (Or.inr (Or.inl h9))))) (fun z9 => Or.elim z9 (fun h9 => Or.inr (Or.inr (Or.inr (Or.inr (Or.inr (Or.inl h9)))))) (fun h9 => Or.inr (Or.inr (Or.inr (Or.inr (Or.inr (Or.inr (Or.inl h9))))))))))) z8))).trans ((hg_M_12 a i (fun z8 => q0 ((fun z9 => Or.elim z9 (fun h9 => Or.inl h9) (fun z9 => Or.elim z9 (fun h9 => Or.inr (Or.inl h9)) (fun z9 => Or.elim z9 (fun h9 => Or.inr (Or.inr (Or.inl h9))) (fun z9 => Or.elim z9 (fun h9 => Or.inr (Or.inr (Or.inr (Or.inl h9)))) (fun z9 => Or.elim z9 (fun h9 => Or.inr (Or.inr (Or.inr (Or.inr (Or.inl h9))))) (fun z9 => Or.elim z9 (fun h9 => Or.inr (Or.inr (Or.inr (Or.inr (Or.inr (Or.inl h9)))))) (fun z9 => Or.elim z9 (fun h9 => Or.inr (Or.inr (Or.inr (Or.inr (Or.inr (Or.inr (Or.inl h9))))))) (fun h9 => Or.inr (Or.inr (Or.inr (Or.inr (Or.inr (Or.inr (Or.inr (h9))))))))))))))) z8))).trans ((hf_M40 a i (fun z8 => q0 ((fun z9 => Or.elim z9 (fun h9 => Or.inl h9) (fun z9 => Or.elim z9 (fun h9 => Or.inr (Or.inl h9)) (fun z9 => Or.elim z9 (fun h9 => Or.inr (Or.inr (Or.inl h9))) (fun z9 => Or.elim z9 (fun h9 => Or.inr (Or.inr (Or.inr (Or.inl h9)))) (fun z9 => Or.elim z9 (fun h9 => Or.inr (Or.inr (Or.inr (Or.inr (Or.inl h9))))) (fun z9 => Or.elim z9 (fun h9 => Or.inr (Or.inr (Or.inr (Or.inr (Or.inr (Or.inl h9)))))) (fun z9 => Or.elim z9 (fun h9 => Or.inr (Or.inr (Or.inr (Or.inr (Or.inr (Or.inr (Or.inl h9))))))) (fun h9 => Or.inr (Or.inr (Or.inr (Or.inr (Or.inr (Or.inr (Or.inr (h9))))))))))))))) z8))).trans ((hg_M_5 a i (fun z8 => q0 ((fun z9 => Or.elim z9 (fun h9 => Or.inl h9) (fun z9 => Or.elim z9 (fun h9 => Or.inr (Or.inl h9)) (fun z9 => Or.elim z9 (fun h9 => Or.inr (Or.inr (Or.inr (Or.inl h9)))) (fun z9 => Or.elim z9 (fun h9 => Or.inr (Or.inr (Or.inr (Or.inr (Or.inr (Or.inl h9)))))) (fun h9 => Or.inr (Or.inr (Or.inr (Or.inr (Or.inr (Or.inr (Or.inr (h9)))))))))))) z8))).trans ((congrFun (congrFun eM_3 a) i).trans ((mset_ne (fun h9 => q0 (Or.inr (Or.inr (Or.inr (Or.inr (Or.inr (Or.inl h9)))))))).trans ((congrFun (congrFun eM_2 a) i).trans ((mset_ne (fun h9 => q0 (Or.inr (Or.inr (Or.inr (Or.inl h9)))))).trans rfl)))))))))))))))), (fun _ => by show PMm M_25 ∧ Seg (M_25 6) (ix (M 0 12)) (ix (M_25 0 12)) ∧ ix (M 0 12) ≤ ix (M_25 0 12) ∧ (∀ k, k < ix (M 0 12) → M_25 6 k = M 6 k) ∧ (M 0 7).toInt < (M_25 0 7).toInt; rw [hps.2.2.1, hps.2.2.2.2.2]; exact ⟨hP25, hseg, hcc, hr6, by omega⟩)⟩
              · have hT25 : TM B M_25 1 := tmm_pop hT_103 (by omega) ht22 (by omega) hps.1 hps.2.2.1 hps.2.2.2.1 hps.2.2.2.2.1 hps.2.2.2.2.2
                refine wp_bind2 (o_X10_endsPiece M_25 B hT25) (fun M_26 he146 hq146 => ?_)
                obtain ⟨hg_M_26, hT_146⟩ := hq146
                replace hT_146 : TM B M_26 1 := hT_146
                replace hg_M_26 : ∀ a i, ¬ ((a = 0 ∧ i = 11) ∨ (a = 0 ∧ i = 12) ∨ (a = 0 ∧ i = 13) ∨ a = 6) → M_26 a i = M_25 a i := hg_M_26
                have e267 := congrArg Int32.toInt (hg_M_26 0 7 (by omega))
                have e268 := congrArg Int32.toInt (hT_146.2.2.2.trans hT40.2.2.2.symm)
                exact ih92 M_26 ⟨(fun a i q0 => ((hg_M_26 a i (fun z8 => q0 ((fun z9 => Or.elim z9 (fun h9 => Or.inr (Or.inl h9)) (fun z9 => Or.elim z9 (fun h9 => Or.inr (Or.inr (Or.inl h9))) (fun z9 => Or.elim z9 (fun h9 => Or.inr (Or.inr (Or.inr (Or.inl h9)))) (fun h9 => Or.inr (Or.inr (Or.inr (Or.inr (h9)))))))) z8))).trans ((congrFun (congrFun eM_25 a) i).trans ((mset_ne (fun h9 => q0 (Or.inl h9))).trans ((congrFun (congrFun eM_24 a) i).trans ((mset_ne (fun h9 => q0 (Or.inr (Or.inl h9)))).trans ((congrFun (congrFun eM_23 a) i).trans ((mset_ne (fun h9 => q0 (Or.inr (Or.inr (Or.inr (Or.inl h9)))))).trans ((hg_M_22 a i (fun z8 => q0 ((fun z9 => Or.elim z9 (fun h9 => Or.inr (Or.inr (Or.inr (Or.inl h9)))) (fun h9 => Or.inr (Or.inr (Or.inr (Or.inr (h9)))))) z8))).trans ((hf_M92 a i (fun z8 => q0 ((fun z9 => Or.elim z9 (fun h9 => Or.inl h9) (fun z9 => Or.elim z9 (fun h9 => Or.inr (Or.inl h9)) (fun z9 => Or.elim z9 (fun h9 => Or.inr (Or.inr (Or.inl h9))) (fun z9 => Or.elim z9 (fun h9 => Or.inr (Or.inr (Or.inr (Or.inl h9)))) (fun h9 => Or.inr (Or.inr (Or.inr (Or.inr (h9))))))))) z8))).trans rfl)))))))))), hT_146, (by omega)⟩ (by omega)
            · exact j152
  · refine wp_cb2 (o_X10_wrongAt M (nI 1) (M 0 7)) (fun r_27 M_28 he15 hq15 => ?_)
    obtain ⟨hz_r_27, hg_M_28, hw_15⟩ := hq15
    replace hw_15 : r_27.toInt = 0 := hw_15
    have := t_lit 1
    replace hg_M_28 : ∀ a i, ¬ ((a = 0 ∧ i = 9)) → M_28 a i = M a i := hg_M_28
    refine wp_gb hz_r_27 ?_
    exact wp_some ⟨hz_r_27, (fun a i q0 => ((hg_M_28 a i (fun h9 => q0 (Or.inr (Or.inl h9)))).trans rfl)), (fun z => absurd hw_15 z)⟩
set_option maxHeartbeats 8000000 in
theorem o_X10_readsRule (M : Mem) (hc : 0 ≤ (M 0 12).toInt ∧ (M 0 12).toInt ≤ (M 0 7).toInt ∧ (M 0 7).toInt ≤ (M 0 8).toInt ∧ (M 0 8).toInt ≤ 240) (hS : Said M) : Wp (f_X10_readsRule M) (fun q => (q.1 = 0 ∨ q.1 = 1) ∧ (∀ a i, ¬ ((a = 0 ∧ i = 7) ∨ (a = 0 ∧ i = 9) ∨ (a = 0 ∧ i = 10) ∨ (a = 0 ∧ i = 11) ∨ (a = 0 ∧ i = 12) ∨ (a = 0 ∧ i = 13) ∨ (a = 0 ∧ i = 14) ∨ a = 6 ∨ a = 7 ∨ a = 8 ∨ a = 9 ∨ a = 10 ∨ a = 11) → q.2 a i = M a i) ∧ (¬ q.1.toInt = 0 → Said q.2 ∧ (M 0 7).toInt < (q.2 0 7).toInt ∧ 0 ≤ (q.2 0 12).toInt ∧ (q.2 0 12).toInt ≤ (q.2 0 7).toInt ∧ (q.2 0 7).toInt ≤ (M 0 8).toInt)) := by
  refine wp_bind2 (o_X10_here M (by omega)) (fun r_1 he1 hq1 => ?_)
  have hh_1 := hq1
  replace hh_1 : (r_1.toInt = -1 ∧ (M 0 7).toInt = (M 0 8).toInt) ∨ (0 ≤ r_1.toInt ∧ r_1.toInt ≤ 255 ∧ (M 0 7).toInt < (M 0 8).toInt) := hh_1
  have j45 : (0 ≤ r_1.toInt) → Wp (f_X10_readsRule_L45 M r_1) (fun q => (q.1 = 0 ∨ q.1 = 1) ∧ (∀ a i, ¬ ((a = 0 ∧ i = 7) ∨ (a = 0 ∧ i = 9) ∨ (a = 0 ∧ i = 10) ∨ (a = 0 ∧ i = 11) ∨ (a = 0 ∧ i = 12) ∨ (a = 0 ∧ i = 13) ∨ (a = 0 ∧ i = 14) ∨ a = 6 ∨ a = 7 ∨ a = 8 ∨ a = 9 ∨ a = 10 ∨ a = 11) → q.2 a i = M a i) ∧ (¬ q.1.toInt = 0 → Said q.2 ∧ (M 0 7).toInt < (q.2 0 7).toInt ∧ 0 ≤ (q.2 0 12).toInt ∧ (q.2 0 12).toInt ≤ (q.2 0 7).toInt ∧ (q.2 0 7).toInt ≤ (M 0 8).toInt)) := by
    intro h45
    unfold f_X10_readsRule_L45
    have hm := hS.1
    have fm := t_ixn (M 0 14) hm.1
    refine wp_ite (fun c51 => ?_) (fun c51 => ?_)
    · refine wp_cb2 (o_X10_wrongAt M (nI 4) (M 0 7)) (fun r_14 M_15 he60 hq60 => ?_)
      obtain ⟨hz_r_14, hg_M_15, hw_60⟩ := hq60
      replace hw_60 : r_14.toInt = 0 := hw_60
      have := t_lit 4
      replace hg_M_15 : ∀ a i, ¬ ((a = 0 ∧ i = 9)) → M_15 a i = M a i := hg_M_15
      refine wp_gb hz_r_14 ?_
      exact wp_some ⟨hz_r_14, (fun a i q0 => ((hg_M_15 a i (fun h9 => q0 (Or.inr (Or.inl h9)))).trans rfl)), (fun z => absurd hw_60 z)⟩
    · refine wp_gd (by omega) ?_
      refine wp_bnd (fun M_2 eM_2 => ?_)
      refine wp_bnd (fun M_3 eM_3 => ?_)
      have a14 : M_3 0 14 = M 0 14 := by rw [eM_3, mset_ne (by omega), eM_2, mset_ne (by omega)]
      have a12 : M_3 0 12 = M 0 12 := by rw [eM_3, mset_ne (by omega), eM_2, mset_ne (by omega)]
      refine wp_gd (by rw [a14]; omega) ?_
      refine wp_bnd (fun M_4 eM_4 => ?_)
      rw [a14, a12] at eM_4
      refine wp_bnd (fun M_5 eM_5 => ?_)
      refine wp_bnd (fun M_6 eM_6 => ?_)
      have q13 : M_6 0 13 = nI 0 := by rw [eM_6, mset_eq]
      have q12 : M_6 0 12 = M 0 12 := by rw [eM_6, mset_ne (by omega), eM_5, mset_ne (by omega), eM_4, mset_ne (by omega), a12]
      have q14 : M_6 0 14 = M 0 14 := by rw [eM_6, mset_ne (by omega), eM_5, mset_ne (by omega), eM_4, mset_ne (by omega), a14]
      have q8 : M_6 0 8 = M 0 8 := by rw [eM_6, mset_ne (by omega), eM_5, mset_ne (by omega), eM_4, mset_ne (by omega), eM_3, mset_ne (by omega), eM_2, mset_ne (by omega)]
      have q7 : (M_6 0 7).toInt = (M 0 7).toInt + 1 := by
        rw [eM_6, mset_ne (by omega), eM_5, mset_ne (by omega), eM_4, mset_ne (by omega), eM_3, mset_eq, eM_2, mset_ne (by omega)]
        exact (i_up (by omega)).2
      have q6 : M_6 6 = M 6 := by rw [eM_6, mset_n (by omega), eM_5, mset_n (by omega), eM_4, mset_n (by omega), eM_3, mset_n (by omega), eM_2, mset_n (by omega)]
      have q9 : ∀ r, ¬ r = ix (M 0 14) → M_6 9 r = M 9 r := fun r h9 => by rw [eM_6, mset_ne (by omega), eM_5, mset_ne (by omega), eM_4, mset_ne (by omega), eM_3, mset_ne (by omega), eM_2, mset_ne (by omega)]
      have qv9 : M_6 9 (ix (M 0 14)) = M 0 12 := by rw [eM_6, mset_ne (by omega), eM_5, mset_ne (by omega), eM_4, mset_eq]
      have q10 : ∀ r, M_6 10 r = M 10 r := fun r => by rw [eM_6, mset_ne (by omega), eM_5, mset_ne (by omega), eM_4, mset_ne (by omega), eM_3, mset_ne (by omega), eM_2, mset_ne (by omega)]
      have q11 : ∀ r, M_6 11 r = M 11 r := fun r => by rw [eM_6, mset_ne (by omega), eM_5, mset_ne (by omega), eM_4, mset_ne (by omega), eM_3, mset_ne (by omega), eM_2, mset_ne (by omega)]
      have hP6 : PMm M_6 := pm_mk q13 (by rw [q12, q8]; omega)
      have j122 : ∀ (N122 : Mem), (∀ a i, ¬ ((a = 0 ∧ i = 7) ∨ (a = 0 ∧ i = 9) ∨ (a = 0 ∧ i = 10) ∨ (a = 0 ∧ i = 11) ∨ (a = 0 ∧ i = 12) ∨ (a = 0 ∧ i = 13) ∨ a = 6 ∨ a = 7) → N122 a i = M_6 a i) → (PMm N122 ∧ Seg (N122 6) (ix (M 0 12)) (ix (N122 0 12)) ∧ ix (M 0 12) ≤ ix (N122 0 12) ∧ (∀ k, k < ix (M 0 12) → N122 6 k = M 6 k) ∧ (M 0 7).toInt < (N122 0 7).toInt) → Wp (f_X10_readsRule_L122 N122) (fun q => (q.1 = 0 ∨ q.1 = 1) ∧ (∀ a i, ¬ ((a = 0 ∧ i = 7) ∨ (a = 0 ∧ i = 9) ∨ (a = 0 ∧ i = 10) ∨ (a = 0 ∧ i = 11) ∨ (a = 0 ∧ i = 12) ∨ (a = 0 ∧ i = 13) ∨ (a = 0 ∧ i = 14) ∨ a = 6 ∨ a = 7 ∨ a = 8 ∨ a = 9 ∨ a = 10 ∨ a = 11) → q.2 a i = M a i) ∧ (¬ q.1.toInt = 0 → Said q.2 ∧ (M 0 7).toInt < (q.2 0 7).toInt ∧ 0 ≤ (q.2 0 12).toInt ∧ (q.2 0 12).toInt ≤ (q.2 0 7).toInt ∧ (q.2 0 7).toInt ≤ (M 0 8).toInt)) := by
        intro N122 hf_N122 h122
        unfold f_X10_readsRule_L122
        have n14 : N122 0 14 = M 0 14 := by rw [hf_N122 0 14 (by omega), q14]
        have n8 : N122 0 8 = M 0 8 := by rw [hf_N122 0 8 (by omega), q8]
        have nb := pm_bd h122.1
        have nx := pm_ix h122.1
        refine wp_gd (by rw [n14]; omega) ?_
        refine wp_bnd (fun M_7 eM_7 => ?_)
        rw [n14] at eM_7
        have s12 : M_7 0 12 = N122 0 12 := by rw [eM_7, mset_ne (by omega)]
        have s7 : M_7 0 7 = N122 0 7 := by rw [eM_7, mset_ne (by omega)]
        have s8 : M_7 0 8 = N122 0 8 := by rw [eM_7, mset_ne (by omega)]
        have s6 : M_7 6 = N122 6 := by rw [eM_7, mset_n (by omega)]
        have hP7 : PMm M_7 := pm_go h122.1 (by rw [s7]; omega) s12 (by rw [eM_7, mset_ne (by omega)]) s8 (by rw [eM_7, mset_n (by omega)])
        refine wp_cb2 (o_X10_readsCondition M_7 hP7) (fun r_8 M_9 he136 hq136 => ?_)
        obtain ⟨hz_r_8, hg_M_9, hC_136⟩ := hq136
        replace hC_136 : ¬ r_8.toInt = 0 → PMm M_9 ∧ Seg (M_9 6) (ix (M_7 0 12)) (ix (M_9 0 12)) ∧ ix (M_7 0 12) ≤ ix (M_9 0 12) ∧ (∀ k, k < ix (M_7 0 12) → M_9 6 k = M_7 6 k) ∧ (M_7 0 7).toInt < (M_9 0 7).toInt := hC_136
        replace hg_M_9 : ∀ a i, ¬ ((a = 0 ∧ i = 7) ∨ (a = 0 ∧ i = 9) ∨ (a = 0 ∧ i = 10) ∨ (a = 0 ∧ i = 11) ∨ (a = 0 ∧ i = 12) ∨ (a = 0 ∧ i = 13) ∨ a = 6 ∨ a = 7) → M_9 a i = M_7 a i := hg_M_9
        refine wp_ite (fun c139 => ?_) (fun c139 => ?_)
        · exact wp_some ⟨b01_0, (fun a i q0 => ((hg_M_9 a i (fun z8 => q0 ((fun z9 => Or.elim z9 (fun h9 => Or.inl h9) (fun z9 => Or.elim z9 (fun h9 => Or.inr (Or.inl h9)) (fun z9 => Or.elim z9 (fun h9 => Or.inr (Or.inr (Or.inl h9))) (fun z9 => Or.elim z9 (fun h9 => Or.inr (Or.inr (Or.inr (Or.inl h9)))) (fun z9 => Or.elim z9 (fun h9 => Or.inr (Or.inr (Or.inr (Or.inr (Or.inl h9))))) (fun z9 => Or.elim z9 (fun h9 => Or.inr (Or.inr (Or.inr (Or.inr (Or.inr (Or.inl h9)))))) (fun z9 => Or.elim z9 (fun h9 => Or.inr (Or.inr (Or.inr (Or.inr (Or.inr (Or.inr (Or.inr (Or.inl h9)))))))) (fun h9 => Or.inr (Or.inr (Or.inr (Or.inr (Or.inr (Or.inr (Or.inr (Or.inr (Or.inl h9)))))))))))))))) z8))).trans ((congrFun (congrFun eM_7 a) i).trans ((mset_ne (fun h9 => q0 (Or.inr (Or.inr (Or.inr (Or.inr (Or.inr (Or.inr (Or.inr (Or.inr (Or.inr (Or.inr (Or.inr (Or.inl (h9).1)))))))))))))).trans ((hf_N122 a i (fun z8 => q0 ((fun z9 => Or.elim z9 (fun h9 => Or.inl h9) (fun z9 => Or.elim z9 (fun h9 => Or.inr (Or.inl h9)) (fun z9 => Or.elim z9 (fun h9 => Or.inr (Or.inr (Or.inl h9))) (fun z9 => Or.elim z9 (fun h9 => Or.inr (Or.inr (Or.inr (Or.inl h9)))) (fun z9 => Or.elim z9 (fun h9 => Or.inr (Or.inr (Or.inr (Or.inr (Or.inl h9))))) (fun z9 => Or.elim z9 (fun h9 => Or.inr (Or.inr (Or.inr (Or.inr (Or.inr (Or.inl h9)))))) (fun z9 => Or.elim z9 (fun h9 => Or.inr (Or.inr (Or.inr (Or.inr (Or.inr (Or.inr (Or.inr (Or.inl h9)))))))) (fun h9 => Or.inr (Or.inr (Or.inr (Or.inr (Or.inr (Or.inr (Or.inr (Or.inr (Or.inl h9)))))))))))))))) z8))).trans ((congrFun (congrFun eM_6 a) i).trans ((mset_ne (fun h9 => q0 (Or.inr (Or.inr (Or.inr (Or.inr (Or.inr (Or.inl h9)))))))).trans ((congrFun (congrFun eM_5 a) i).trans ((mset_ne (fun h9 => q0 (Or.inr (Or.inr (Or.inr (Or.inl h9)))))).trans ((congrFun (congrFun eM_4 a) i).trans ((mset_ne (fun h9 => q0 (Or.inr (Or.inr (Or.inr (Or.inr (Or.inr (Or.inr (Or.inr (Or.inr (Or.inr (Or.inr (Or.inl (h9).1))))))))))))).trans ((congrFun (congrFun eM_3 a) i).trans ((mset_ne (fun h9 => q0 (Or.inl h9))).trans ((congrFun (congrFun eM_2 a) i).trans ((mset_ne (fun h9 => q0 (Or.inr (Or.inr (Or.inr (Or.inr (Or.inr (Or.inr (Or.inr (Or.inr (Or.inr (Or.inl (h9).1)))))))))))).trans rfl))))))))))))))), (fun z => absurd nI0 z)⟩
        · have hC := hC_136 c139
          rw [s12, s6, s7] at hC
          have t14 : M_9 0 14 = M 0 14 := by rw [hg_M_9 0 14 (by omega), eM_7, mset_ne (by omega), n14]
          have mb := pm_bd hC.1
          have mx := pm_ix hC.1
          have t8 : M_9 0 8 = M 0 8 := by rw [hg_M_9 0 8 (by omega), s8, n8]
          refine wp_gd (by rw [t14]; omega) ?_
          refine wp_bnd (fun M_10 eM_10 => ?_)
          rw [t14] at eM_10
          refine wp_bnd (fun M_11 eM_11 => ?_)
          have u12 : M_11 0 12 = M_9 0 12 := by rw [eM_11, mset_ne (by omega), eM_10, mset_ne (by omega)]
          have u7 : M_11 0 7 = M_9 0 7 := by rw [eM_11, mset_ne (by omega), eM_10, mset_ne (by omega)]
          have u6 : M_11 6 = M_9 6 := by rw [eM_11, mset_n (by omega), eM_10, mset_n (by omega)]
          have hSaid : Said M_11 := said_more (b := N122 0 12) hS (by omega) (by rw [eM_11, mset_eq, eM_10, mset_ne (by omega), t14]) (fun r h9 => by rw [eM_11, mset_ne (by omega), eM_10, mset_ne (by omega), hg_M_9 9 r (by omega), eM_7, mset_ne (by omega), hf_N122 9 r (by omega), q9 r (by omega)]) (fun r h9 => by rw [eM_11, mset_ne (by omega), eM_10, mset_ne (by omega), hg_M_9 10 r (by omega), eM_7, mset_ne (by omega), hf_N122 10 r (by omega), q10 r]) (fun r h9 => by rw [eM_11, mset_ne (by omega), eM_10, mset_ne (by omega), hg_M_9 11 r (by omega), eM_7, mset_ne (by omega), hf_N122 11 r (by omega), q11 r]) (by rw [eM_11, mset_ne (by omega), eM_10, mset_ne (by omega), hg_M_9 9 _ (by omega), eM_7, mset_ne (by omega), hf_N122 9 _ (by omega), qv9]) (by rw [eM_11, mset_ne (by omega), eM_10, mset_ne (by omega), hg_M_9 10 _ (by omega), eM_7, mset_eq]) (by rw [u12, eM_11, mset_ne (by omega), eM_10, mset_eq]) (fun k hk => by rw [u6, hC.2.2.2.1 k (by have h9 := h122.2.2.1; omega)]; exact h122.2.2.2.1 k hk) (by rw [u12]; have h9 := h122.2.2.1; have h8 := hC.2.2.1; have h7 := t_ixn (M 0 12) hc.1; omega) (by rw [u6]; exact seg_ext h122.2.1 hC.2.2.2.1) (by rw [u6, u12]; exact hC.2.1)
          exact wp_some ⟨b01_1, (fun a i q0 => ((congrFun (congrFun eM_11 a) i).trans ((mset_ne (fun h9 => q0 (Or.inr (Or.inr (Or.inr (Or.inr (Or.inr (Or.inr (Or.inl h9))))))))).trans ((congrFun (congrFun eM_10 a) i).trans ((mset_ne (fun h9 => q0 (Or.inr (Or.inr (Or.inr (Or.inr (Or.inr (Or.inr (Or.inr (Or.inr (Or.inr (Or.inr (Or.inr (Or.inr ((h9).1))))))))))))))).trans ((hg_M_9 a i (fun z8 => q0 ((fun z9 => Or.elim z9 (fun h9 => Or.inl h9) (fun z9 => Or.elim z9 (fun h9 => Or.inr (Or.inl h9)) (fun z9 => Or.elim z9 (fun h9 => Or.inr (Or.inr (Or.inl h9))) (fun z9 => Or.elim z9 (fun h9 => Or.inr (Or.inr (Or.inr (Or.inl h9)))) (fun z9 => Or.elim z9 (fun h9 => Or.inr (Or.inr (Or.inr (Or.inr (Or.inl h9))))) (fun z9 => Or.elim z9 (fun h9 => Or.inr (Or.inr (Or.inr (Or.inr (Or.inr (Or.inl h9)))))) (fun z9 => Or.elim z9 (fun h9 => Or.inr (Or.inr (Or.inr (Or.inr (Or.inr (Or.inr (Or.inr (Or.inl h9)))))))) (fun h9 => Or.inr (Or.inr (Or.inr (Or.inr (Or.inr (Or.inr (Or.inr (Or.inr (Or.inl h9)))))))))))))))) z8))).trans ((congrFun (congrFun eM_7 a) i).trans ((mset_ne (fun h9 => q0 (Or.inr (Or.inr (Or.inr (Or.inr (Or.inr (Or.inr (Or.inr (Or.inr (Or.inr (Or.inr (Or.inr (Or.inl (h9).1)))))))))))))).trans ((hf_N122 a i (fun z8 => q0 ((fun z9 => Or.elim z9 (fun h9 => Or.inl h9) (fun z9 => Or.elim z9 (fun h9 => Or.inr (Or.inl h9)) (fun z9 => Or.elim z9 (fun h9 => Or.inr (Or.inr (Or.inl h9))) (fun z9 => Or.elim z9 (fun h9 => Or.inr (Or.inr (Or.inr (Or.inl h9)))) (fun z9 => Or.elim z9 (fun h9 => Or.inr (Or.inr (Or.inr (Or.inr (Or.inl h9))))) (fun z9 => Or.elim z9 (fun h9 => Or.inr (Or.inr (Or.inr (Or.inr (Or.inr (Or.inl h9)))))) (fun z9 => Or.elim z9 (fun h9 => Or.inr (Or.inr (Or.inr (Or.inr (Or.inr (Or.inr (Or.inr (Or.inl h9)))))))) (fun h9 => Or.inr (Or.inr (Or.inr (Or.inr (Or.inr (Or.inr (Or.inr (Or.inr (Or.inl h9)))))))))))))))) z8))).trans ((congrFun (congrFun eM_6 a) i).trans ((mset_ne (fun h9 => q0 (Or.inr (Or.inr (Or.inr (Or.inr (Or.inr (Or.inl h9)))))))).trans ((congrFun (congrFun eM_5 a) i).trans ((mset_ne (fun h9 => q0 (Or.inr (Or.inr (Or.inr (Or.inl h9)))))).trans ((congrFun (congrFun eM_4 a) i).trans ((mset_ne (fun h9 => q0 (Or.inr (Or.inr (Or.inr (Or.inr (Or.inr (Or.inr (Or.inr (Or.inr (Or.inr (Or.inr (Or.inl (h9).1))))))))))))).trans ((congrFun (congrFun eM_3 a) i).trans ((mset_ne (fun h9 => q0 (Or.inl h9))).trans ((congrFun (congrFun eM_2 a) i).trans ((mset_ne (fun h9 => q0 (Or.inr (Or.inr (Or.inr (Or.inr (Or.inr (Or.inr (Or.inr (Or.inr (Or.inr (Or.inl (h9).1)))))))))))).trans rfl))))))))))))))))))), (fun _ => by show Said M_11 ∧ (M 0 7).toInt < (M_11 0 7).toInt ∧ 0 ≤ (M_11 0 12).toInt ∧ (M_11 0 12).toInt ≤ (M_11 0 7).toInt ∧ (M_11 0 7).toInt ≤ (M 0 8).toInt; rw [u7, u12]; exact ⟨hSaid, by have h9 := h122.2.2.2.2; have h8 := hC.2.2.2.2; omega, by omega, by have h9 := hC.1.2.2.1; omega, by rw [← t8]; omega⟩)⟩
      refine wp_ite (fun c110 => ?_) (fun c110 => ?_)
      · exact j122 M_6 (fun _ _ _ => rfl) ⟨hP6, by rw [q12]; exact fun k h1 h2 => absurd h2 (by omega), by rw [q12]; omega, fun k _ => by rw [q6], by omega⟩
      · refine wp_cb2 (o_X10_readsSum M_6 hP6 (Or.inl (by rw [q13]; decide))) (fun r_12 M_13 he114 hq114 => ?_)
        obtain ⟨hz_r_12, hg_M_13, hR_114⟩ := hq114
        replace hR_114 : ¬ r_12.toInt = 0 → RS M_6 M_13 1 ∧ ix (M_13 0 13) = ix (M_6 0 13) ∧ (M_6 0 7).toInt < (M_13 0 7).toInt := hR_114
        replace hg_M_13 : ∀ a i, ¬ ((a = 0 ∧ i = 7) ∨ (a = 0 ∧ i = 9) ∨ (a = 0 ∧ i = 10) ∨ (a = 0 ∧ i = 11) ∨ (a = 0 ∧ i = 12) ∨ (a = 0 ∧ i = 13) ∨ a = 6 ∨ a = 7) → M_13 a i = M_6 a i := hg_M_13
        refine wp_ite (fun c117 => ?_) (fun c117 => ?_)
        · exact wp_some ⟨b01_0, (fun a i q0 => ((hg_M_13 a i (fun z8 => q0 ((fun z9 => Or.elim z9 (fun h9 => Or.inl h9) (fun z9 => Or.elim z9 (fun h9 => Or.inr (Or.inl h9)) (fun z9 => Or.elim z9 (fun h9 => Or.inr (Or.inr (Or.inl h9))) (fun z9 => Or.elim z9 (fun h9 => Or.inr (Or.inr (Or.inr (Or.inl h9)))) (fun z9 => Or.elim z9 (fun h9 => Or.inr (Or.inr (Or.inr (Or.inr (Or.inl h9))))) (fun z9 => Or.elim z9 (fun h9 => Or.inr (Or.inr (Or.inr (Or.inr (Or.inr (Or.inl h9)))))) (fun z9 => Or.elim z9 (fun h9 => Or.inr (Or.inr (Or.inr (Or.inr (Or.inr (Or.inr (Or.inr (Or.inl h9)))))))) (fun h9 => Or.inr (Or.inr (Or.inr (Or.inr (Or.inr (Or.inr (Or.inr (Or.inr (Or.inl h9)))))))))))))))) z8))).trans ((congrFun (congrFun eM_6 a) i).trans ((mset_ne (fun h9 => q0 (Or.inr (Or.inr (Or.inr (Or.inr (Or.inr (Or.inl h9)))))))).trans ((congrFun (congrFun eM_5 a) i).trans ((mset_ne (fun h9 => q0 (Or.inr (Or.inr (Or.inr (Or.inl h9)))))).trans ((congrFun (congrFun eM_4 a) i).trans ((mset_ne (fun h9 => q0 (Or.inr (Or.inr (Or.inr (Or.inr (Or.inr (Or.inr (Or.inr (Or.inr (Or.inr (Or.inr (Or.inl (h9).1))))))))))))).trans ((congrFun (congrFun eM_3 a) i).trans ((mset_ne (fun h9 => q0 (Or.inl h9))).trans ((congrFun (congrFun eM_2 a) i).trans ((mset_ne (fun h9 => q0 (Or.inr (Or.inr (Or.inr (Or.inr (Or.inr (Or.inr (Or.inr (Or.inr (Or.inr (Or.inl (h9).1)))))))))))).trans rfl)))))))))))), (fun z => absurd nI0 z)⟩
        · have hr := hR_114 c117
          exact j122 M_13 (fun a i q0 => ((hg_M_13 a i (fun z8 => q0 ((fun z9 => Or.elim z9 (fun h9 => Or.inl h9) (fun z9 => Or.elim z9 (fun h9 => Or.inr (Or.inl h9)) (fun z9 => Or.elim z9 (fun h9 => Or.inr (Or.inr (Or.inl h9))) (fun z9 => Or.elim z9 (fun h9 => Or.inr (Or.inr (Or.inr (Or.inl h9)))) (fun z9 => Or.elim z9 (fun h9 => Or.inr (Or.inr (Or.inr (Or.inr (Or.inl h9))))) (fun z9 => Or.elim z9 (fun h9 => Or.inr (Or.inr (Or.inr (Or.inr (Or.inr (Or.inl h9)))))) (fun z9 => Or.elim z9 (fun h9 => Or.inr (Or.inr (Or.inr (Or.inr (Or.inr (Or.inr (Or.inl h9))))))) (fun h9 => Or.inr (Or.inr (Or.inr (Or.inr (Or.inr (Or.inr (Or.inr (h9))))))))))))))) z8))).trans rfl)) ⟨hr.1.1, by rw [← q12]; exact sok_seg hr.1.2.1.2.2.2.2, by rw [← q12]; exact hr.1.2.1.1, fun k hk => by rw [hr.1.2.2.1 k (by rw [q12]; exact hk), q6], by have h9 := hr.2.2; omega⟩
  refine wp_ite (fun c8 => ?_) (fun c8 => ?_)
  · exact j45 (by omega)
  · refine wp_ite (fun c14 => ?_) (fun c14 => ?_)
    · exact j45 (by omega)
    · refine wp_ite (fun c20 => ?_) (fun c20 => ?_)
      · exact j45 (by omega)
      · refine wp_ite (fun c26 => ?_) (fun c26 => ?_)
        · exact j45 (by omega)
        · refine wp_ite (fun c32 => ?_) (fun c32 => ?_)
          · exact j45 (by omega)
          · refine wp_cb2 (o_X10_wrongAt M (nI 1) (M 0 7)) (fun r_16 M_17 he41 hq41 => ?_)
            obtain ⟨hz_r_16, hg_M_17, hw_41⟩ := hq41
            replace hw_41 : r_16.toInt = 0 := hw_41
            have := t_lit 1
            replace hg_M_17 : ∀ a i, ¬ ((a = 0 ∧ i = 9)) → M_17 a i = M a i := hg_M_17
            refine wp_gb hz_r_16 ?_
            exact wp_some ⟨hz_r_16, (fun a i q0 => ((hg_M_17 a i (fun h9 => q0 (Or.inr (Or.inl h9)))).trans rfl)), (fun z => absurd hw_41 z)⟩
theorem mu_f4 {y : Int32} {a b : Int} (h1 : a ≤ 1000) (h2 : -2147483648 ≤ b) : (if y.toInt = 0 then 0 else 1 + (a - b).toNat) < 4294967296 := by
  by_cases h : y.toInt = 0
  · rw [if_pos h]; omega
  · rw [if_neg h]; omega
set_option maxHeartbeats 8000000 in
theorem o_X10_law (M : Mem) (v1 : Int32) (ht : 0 ≤ (M 0 6).toInt ∧ (M 0 6).toInt ≤ 260) (hG : Gl M) : Wp (f_X10_law M v1) (fun q => (∀ a i, ¬ ((a = 0 ∧ i = 6) ∨ (a = 0 ∧ i = 7) ∨ (a = 0 ∧ i = 8) ∨ (a = 0 ∧ i = 9) ∨ (a = 0 ∧ i = 10) ∨ (a = 0 ∧ i = 11) ∨ (a = 0 ∧ i = 12) ∨ (a = 0 ∧ i = 13) ∨ (a = 0 ∧ i = 14) ∨ (a = 0 ∧ i = 15) ∨ a = 6 ∨ a = 7 ∨ a = 8 ∨ a = 9 ∨ a = 10 ∨ a = 11 ∨ a = 12 ∨ a = 13 ∨ a = 14 ∨ a = 15 ∨ a = 16) → q.2 a i = M a i) ∧ (0 ≤ (q.2 0 6).toInt ∧ (q.2 0 6).toInt ≤ 260) ∧ (Gl q.2)) := by
  refine wp_bind2 (o_X10_in M v1 (nI 1) (nI 240)) (fun r_1 he5 hq5 => ?_)
  obtain ⟨hz_r_1, hr_5⟩ := hq5
  replace hr_5 : ¬ r_1.toInt = 0 → (nI 1).toInt ≤ v1.toInt ∧ v1.toInt ≤ (nI 240).toInt := hr_5
  have := t_lit 1
  have := t_lit 240
  refine wp_ite (fun c8 => ?_) (fun c8 => ?_)
  · exact wp_some ⟨(fun _ _ _ => rfl), ht, hG⟩
  · refine wp_ite (fun c16 => ?_) (fun c16 => ?_)
    · refine wp_bind2 (o_X10_beginsText M v1) (fun M_2 he23 hq23 => ?_)
      obtain ⟨hg_M_2, hb_23⟩ := hq23
      replace hb_23 : (M_2 0 7).toInt = 0 ∧ (M_2 0 8).toInt = v1.toInt := hb_23
      replace hg_M_2 : ∀ a i, ¬ ((a = 0 ∧ i = 7) ∨ (a = 0 ∧ i = 8) ∨ (a = 0 ∧ i = 12) ∨ (a = 0 ∧ i = 14)) → M_2 a i = M a i := hg_M_2
      have eb : M_2 = mset (mset (mset (mset M 0 7 (nI 0)) 0 8 v1) 0 12 (nI 0)) 0 14 (nI 0) := by
        simp only [f_X10_beginsText, bnd] at he23
        exact (Option.some.inj he23).symm
      have b12 : (M_2 0 12).toInt = 0 := by rw [eb, mset_ne (by omega), mset_eq]; exact nI0
      have b14 : (M_2 0 14).toInt = 0 := by rw [eb, mset_eq]; exact nI0
      refine wp_cb2 (o_X10_readsRule M_2 (by omega) (said_0 b14)) (fun r_3 M_4 he27 hq27 => ?_)
      obtain ⟨hz_r_3, hg_M_4, hS_27⟩ := hq27
      replace hS_27 : ¬ r_3.toInt = 0 → Said M_4 ∧ (M_2 0 7).toInt < (M_4 0 7).toInt ∧ 0 ≤ (M_4 0 12).toInt ∧ (M_4 0 12).toInt ≤ (M_4 0 7).toInt ∧ (M_4 0 7).toInt ≤ (M_2 0 8).toInt := hS_27
      replace hg_M_4 : ∀ a i, ¬ ((a = 0 ∧ i = 7) ∨ (a = 0 ∧ i = 9) ∨ (a = 0 ∧ i = 10) ∨ (a = 0 ∧ i = 11) ∨ (a = 0 ∧ i = 12) ∨ (a = 0 ∧ i = 13) ∨ (a = 0 ∧ i = 14) ∨ a = 6 ∨ a = 7 ∨ a = 8 ∨ a = 9 ∨ a = 10 ∨ a = 11) → M_4 a i = M_2 a i := hg_M_4
      refine wp_lp2 (fun M31 y2_31 => (∀ a i, ¬ ((a = 0 ∧ i = 7) ∨ (a = 0 ∧ i = 9) ∨ (a = 0 ∧ i = 10) ∨ (a = 0 ∧ i = 11) ∨ (a = 0 ∧ i = 12) ∨ (a = 0 ∧ i = 13) ∨ (a = 0 ∧ i = 14) ∨ a = 6 ∨ a = 7 ∨ a = 8 ∨ a = 9 ∨ a = 10 ∨ a = 11) → M31 a i = M_4 a i) ∧ (¬ y2_31.toInt = 0 → Said M31 ∧ 0 ≤ (M31 0 12).toInt ∧ (M31 0 12).toInt ≤ (M31 0 7).toInt ∧ (M31 0 7).toInt ≤ (M31 0 8).toInt)) (fun M31 y2_31 => (if y2_31.toInt = 0 then 0 else 1 + ((M31 0 8).toInt - (M31 0 7).toInt).toNat)) (fun ag31 M31 y2_31 hI31 ih31 => ?_) FU M_4 r_3 ⟨(fun _ _ _ => rfl), (fun z => by have h9 := hS_27 z; exact ⟨h9.1, h9.2.2.1, h9.2.2.2.1, by rw [hg_M_4 0 8 (by omega)]; exact h9.2.2.2.2⟩)⟩ (fu_lt ((mu_f4 (by rw [hg_M_4 0 8 (by omega)]; omega) (t_rng _).1)))
      obtain ⟨hf_M31, h31⟩ := hI31
      have f8 : (M31 0 8).toInt = v1.toInt := by rw [hf_M31 0 8 (by omega), hg_M_4 0 8 (by omega)]; exact hb_23.2
      have j71 : Wp (f_X10_law_L71 M31 y2_31) (fun q => (∀ a i, ¬ ((a = 0 ∧ i = 6) ∨ (a = 0 ∧ i = 7) ∨ (a = 0 ∧ i = 8) ∨ (a = 0 ∧ i = 9) ∨ (a = 0 ∧ i = 10) ∨ (a = 0 ∧ i = 11) ∨ (a = 0 ∧ i = 12) ∨ (a = 0 ∧ i = 13) ∨ (a = 0 ∧ i = 14) ∨ (a = 0 ∧ i = 15) ∨ a = 6 ∨ a = 7 ∨ a = 8 ∨ a = 9 ∨ a = 10 ∨ a = 11 ∨ a = 12 ∨ a = 13 ∨ a = 14 ∨ a = 15 ∨ a = 16) → q.2 a i = M a i) ∧ (0 ≤ (q.2 0 6).toInt ∧ (q.2 0 6).toInt ≤ 260) ∧ (Gl q.2)) := by
        unfold f_X10_law_L71
        refine wp_bnd (fun M_5 eM_5 => ?_)
        have fG : ∀ a i, (a = 12 ∨ a = 14 ∨ a = 15 ∨ a = 16 ∨ (a = 0 ∧ i = 15)) → M_5 a i = M a i := fun a i q => by rw [eM_5, mset_ne (by omega), hf_M31 a i (by omega), hg_M_4 a i (by omega), hg_M_2 a i (by omega)]
        refine wp_ite (fun c77 => ?_) (fun c77 => ?_)
        · exact wp_some ⟨(fun a i q0 => ((congrFun (congrFun eM_5 a) i).trans ((mset_ne (fun h9 => q0 (Or.inl h9))).trans ((hf_M31 a i (fun z8 => q0 ((fun z9 => Or.elim z9 (fun h9 => Or.inr (Or.inl h9)) (fun z9 => Or.elim z9 (fun h9 => Or.inr (Or.inr (Or.inr (Or.inl h9)))) (fun z9 => Or.elim z9 (fun h9 => Or.inr (Or.inr (Or.inr (Or.inr (Or.inl h9))))) (fun z9 => Or.elim z9 (fun h9 => Or.inr (Or.inr (Or.inr (Or.inr (Or.inr (Or.inl h9)))))) (fun z9 => Or.elim z9 (fun h9 => Or.inr (Or.inr (Or.inr (Or.inr (Or.inr (Or.inr (Or.inl h9))))))) (fun z9 => Or.elim z9 (fun h9 => Or.inr (Or.inr (Or.inr (Or.inr (Or.inr (Or.inr (Or.inr (Or.inl h9)))))))) (fun z9 => Or.elim z9 (fun h9 => Or.inr (Or.inr (Or.inr (Or.inr (Or.inr (Or.inr (Or.inr (Or.inr (Or.inl h9))))))))) (fun z9 => Or.elim z9 (fun h9 => Or.inr (Or.inr (Or.inr (Or.inr (Or.inr (Or.inr (Or.inr (Or.inr (Or.inr (Or.inr (Or.inl h9))))))))))) (fun z9 => Or.elim z9 (fun h9 => Or.inr (Or.inr (Or.inr (Or.inr (Or.inr (Or.inr (Or.inr (Or.inr (Or.inr (Or.inr (Or.inr (Or.inl h9)))))))))))) (fun z9 => Or.elim z9 (fun h9 => Or.inr (Or.inr (Or.inr (Or.inr (Or.inr (Or.inr (Or.inr (Or.inr (Or.inr (Or.inr (Or.inr (Or.inr (Or.inl h9))))))))))))) (fun z9 => Or.elim z9 (fun h9 => Or.inr (Or.inr (Or.inr (Or.inr (Or.inr (Or.inr (Or.inr (Or.inr (Or.inr (Or.inr (Or.inr (Or.inr (Or.inr (Or.inl h9)))))))))))))) (fun z9 => Or.elim z9 (fun h9 => Or.inr (Or.inr (Or.inr (Or.inr (Or.inr (Or.inr (Or.inr (Or.inr (Or.inr (Or.inr (Or.inr (Or.inr (Or.inr (Or.inr (Or.inl h9))))))))))))))) (fun h9 => Or.inr (Or.inr (Or.inr (Or.inr (Or.inr (Or.inr (Or.inr (Or.inr (Or.inr (Or.inr (Or.inr (Or.inr (Or.inr (Or.inr (Or.inr (Or.inl h9)))))))))))))))))))))))))))) z8))).trans ((hg_M_4 a i (fun z8 => q0 ((fun z9 => Or.elim z9 (fun h9 => Or.inr (Or.inl h9)) (fun z9 => Or.elim z9 (fun h9 => Or.inr (Or.inr (Or.inr (Or.inl h9)))) (fun z9 => Or.elim z9 (fun h9 => Or.inr (Or.inr (Or.inr (Or.inr (Or.inl h9))))) (fun z9 => Or.elim z9 (fun h9 => Or.inr (Or.inr (Or.inr (Or.inr (Or.inr (Or.inl h9)))))) (fun z9 => Or.elim z9 (fun h9 => Or.inr (Or.inr (Or.inr (Or.inr (Or.inr (Or.inr (Or.inl h9))))))) (fun z9 => Or.elim z9 (fun h9 => Or.inr (Or.inr (Or.inr (Or.inr (Or.inr (Or.inr (Or.inr (Or.inl h9)))))))) (fun z9 => Or.elim z9 (fun h9 => Or.inr (Or.inr (Or.inr (Or.inr (Or.inr (Or.inr (Or.inr (Or.inr (Or.inl h9))))))))) (fun z9 => Or.elim z9 (fun h9 => Or.inr (Or.inr (Or.inr (Or.inr (Or.inr (Or.inr (Or.inr (Or.inr (Or.inr (Or.inr (Or.inl h9))))))))))) (fun z9 => Or.elim z9 (fun h9 => Or.inr (Or.inr (Or.inr (Or.inr (Or.inr (Or.inr (Or.inr (Or.inr (Or.inr (Or.inr (Or.inr (Or.inl h9)))))))))))) (fun z9 => Or.elim z9 (fun h9 => Or.inr (Or.inr (Or.inr (Or.inr (Or.inr (Or.inr (Or.inr (Or.inr (Or.inr (Or.inr (Or.inr (Or.inr (Or.inl h9))))))))))))) (fun z9 => Or.elim z9 (fun h9 => Or.inr (Or.inr (Or.inr (Or.inr (Or.inr (Or.inr (Or.inr (Or.inr (Or.inr (Or.inr (Or.inr (Or.inr (Or.inr (Or.inl h9)))))))))))))) (fun z9 => Or.elim z9 (fun h9 => Or.inr (Or.inr (Or.inr (Or.inr (Or.inr (Or.inr (Or.inr (Or.inr (Or.inr (Or.inr (Or.inr (Or.inr (Or.inr (Or.inr (Or.inl h9))))))))))))))) (fun h9 => Or.inr (Or.inr (Or.inr (Or.inr (Or.inr (Or.inr (Or.inr (Or.inr (Or.inr (Or.inr (Or.inr (Or.inr (Or.inr (Or.inr (Or.inr (Or.inl h9)))))))))))))))))))))))))))) z8))).trans ((hg_M_2 a i (fun z8 => q0 ((fun z9 => Or.elim z9 (fun h9 => Or.inr (Or.inl h9)) (fun z9 => Or.elim z9 (fun h9 => Or.inr (Or.inr (Or.inl h9))) (fun z9 => Or.elim z9 (fun h9 => Or.inr (Or.inr (Or.inr (Or.inr (Or.inr (Or.inr (Or.inl h9))))))) (fun h9 => Or.inr (Or.inr (Or.inr (Or.inr (Or.inr (Or.inr (Or.inr (Or.inr (Or.inl h9)))))))))))) z8))).trans rfl)))))), (by show 0 ≤ (M_5 0 6).toInt ∧ (M_5 0 6).toInt ≤ 260; rw [eM_5, mset_eq]; decide), (gl_ext hG (fG 0 15 (by omega)) (fun i => fG 12 i (by omega)) (fun i => fG 14 i (by omega)) (fun i => fG 15 i (by omega)) (fun i => fG 16 i (by omega)))⟩
        · refine wp_bnd (fun M_6 eM_6 => ?_)
          obtain ⟨s1, s2, s3, s4⟩ := h31 c77
          have j12 : M_6 0 12 = M31 0 12 := by rw [eM_6, mset_ne (by omega), eM_5, mset_ne (by omega)]
          have j14 : M_6 0 14 = M31 0 14 := by rw [eM_6, mset_ne (by omega), eM_5, mset_ne (by omega)]
          have j15 : M_6 0 15 = M31 0 14 := by rw [eM_6, mset_eq, eM_5, mset_ne (by omega)]
          have s14 := s1.1
          have f14 := t_ixn (M31 0 14) s14.1
          refine wp_lp2 (fun M95 y3_95 => (∀ a i, ¬ (a = 12) → M95 a i = M_6 a i) ∧ (0 ≤ y3_95.toInt) ∧ (∀ j : Nat, (j : Int) < y3_95.toInt → M95 12 j = M31 6 j)) (fun M95 y3_95 => ((M95 0 12).toInt - y3_95.toInt).toNat) (fun ag95 M95 y3_95 hI95 ih95 => ?_) FU M_6 (nI 0) ⟨(fun _ _ _ => rfl), (by decide), (fun j hj => absurd hj (by have := t_lit 0; omega))⟩ (fu_lt ((by rw [j12]; have := t_lit 0; omega)))
          obtain ⟨hf_M95, h95, hc95⟩ := hI95
          have k12 : M95 0 12 = M31 0 12 := by rw [hf_M95 0 12 (by omega), j12]
          have k14 : M95 0 14 = M31 0 14 := by rw [hf_M95 0 14 (by omega), j14]
          have k15 : M95 0 15 = M31 0 14 := by rw [hf_M95 0 15 (by omega), j15]
          have k6 : ∀ i, M95 6 i = M31 6 i := fun i => by rw [hf_M95 6 i (by omega), eM_6, mset_ne (by omega), eM_5, mset_ne (by omega)]
          have k9 : ∀ i, M95 9 i = M31 9 i := fun i => by rw [hf_M95 9 i (by omega), eM_6, mset_ne (by omega), eM_5, mset_ne (by omega)]
          have k10 : ∀ i, M95 10 i = M31 10 i := fun i => by rw [hf_M95 10 i (by omega), eM_6, mset_ne (by omega), eM_5, mset_ne (by omega)]
          have k11 : ∀ i, M95 11 i = M31 11 i := fun i => by rw [hf_M95 11 i (by omega), eM_6, mset_ne (by omega), eM_5, mset_ne (by omega)]
          have j121 : ((M95 0 12).toInt ≤ y3_95.toInt) → Wp (f_X10_law_L121 M95) (fun q => (∀ a i, ¬ ((a = 0 ∧ i = 6) ∨ (a = 0 ∧ i = 7) ∨ (a = 0 ∧ i = 8) ∨ (a = 0 ∧ i = 9) ∨ (a = 0 ∧ i = 10) ∨ (a = 0 ∧ i = 11) ∨ (a = 0 ∧ i = 12) ∨ (a = 0 ∧ i = 13) ∨ (a = 0 ∧ i = 14) ∨ (a = 0 ∧ i = 15) ∨ a = 6 ∨ a = 7 ∨ a = 8 ∨ a = 9 ∨ a = 10 ∨ a = 11 ∨ a = 12 ∨ a = 13 ∨ a = 14 ∨ a = 15 ∨ a = 16) → q.2 a i = M a i) ∧ (0 ≤ (q.2 0 6).toInt ∧ (q.2 0 6).toInt ≤ 260) ∧ (Gl q.2)) := by
            intro h121
            unfold f_X10_law_L121
            refine wp_lp2 (fun M123 y3_123 => (∀ a i, ¬ (a = 13 ∨ a = 14 ∨ a = 15 ∨ a = 16) → M123 a i = M95 a i) ∧ (0 ≤ y3_123.toInt) ∧ (∀ j : Nat, (j : Int) < y3_123.toInt → M123 14 j = M31 9 j ∧ M123 15 j = M31 10 j ∧ M123 16 j = M31 11 j)) (fun M123 y3_123 => ((M123 0 14).toInt - y3_123.toInt).toNat) (fun ag123 M123 y3_123 hI123 ih123 => ?_) FU M95 (nI 0) ⟨(fun _ _ _ => rfl), (by decide), (fun j hj => absurd hj (by have := t_lit 0; omega))⟩ (fu_lt ((by rw [k14]; have := t_lit 0; omega)))
            obtain ⟨hf_M123, h123, hd123⟩ := hI123
            have l14 : M123 0 14 = M31 0 14 := by rw [hf_M123 0 14 (by omega), k14]
            have l15 : M123 0 15 = M31 0 14 := by rw [hf_M123 0 15 (by omega), k15]
            have l12 : ∀ i, M123 12 i = M95 12 i := fun i => hf_M123 12 i (by omega)
            have l9 : ∀ i, M123 9 i = M31 9 i := fun i => by rw [hf_M123 9 i (by omega), k9]
            have l10 : ∀ i, M123 10 i = M31 10 i := fun i => by rw [hf_M123 10 i (by omega), k10]
            have l11 : ∀ i, M123 11 i = M31 11 i := fun i => by rw [hf_M123 11 i (by omega), k11]
            refine wp_ite (fun c128 => ?_) (fun c128 => ?_)
            · exact wp_some ⟨(fun a i q0 => ((hf_M123 a i (fun z8 => q0 ((fun z9 => Or.elim z9 (fun h9 => Or.inr (Or.inr (Or.inr (Or.inr (Or.inr (Or.inr (Or.inr (Or.inr (Or.inr (Or.inr (Or.inr (Or.inr (Or.inr (Or.inr (Or.inr (Or.inr (Or.inr (Or.inl h9)))))))))))))))))) (fun z9 => Or.elim z9 (fun h9 => Or.inr (Or.inr (Or.inr (Or.inr (Or.inr (Or.inr (Or.inr (Or.inr (Or.inr (Or.inr (Or.inr (Or.inr (Or.inr (Or.inr (Or.inr (Or.inr (Or.inr (Or.inr (Or.inl h9))))))))))))))))))) (fun z9 => Or.elim z9 (fun h9 => Or.inr (Or.inr (Or.inr (Or.inr (Or.inr (Or.inr (Or.inr (Or.inr (Or.inr (Or.inr (Or.inr (Or.inr (Or.inr (Or.inr (Or.inr (Or.inr (Or.inr (Or.inr (Or.inr (Or.inl h9)))))))))))))))))))) (fun h9 => Or.inr (Or.inr (Or.inr (Or.inr (Or.inr (Or.inr (Or.inr (Or.inr (Or.inr (Or.inr (Or.inr (Or.inr (Or.inr (Or.inr (Or.inr (Or.inr (Or.inr (Or.inr (Or.inr (Or.inr (h9)))))))))))))))))))))))) z8))).trans ((hf_M95 a i (fun h9 => q0 (Or.inr (Or.inr (Or.inr (Or.inr (Or.inr (Or.inr (Or.inr (Or.inr (Or.inr (Or.inr (Or.inr (Or.inr (Or.inr (Or.inr (Or.inr (Or.inr (Or.inl h9))))))))))))))))))).trans ((congrFun (congrFun eM_6 a) i).trans ((mset_ne (fun h9 => q0 (Or.inr (Or.inr (Or.inr (Or.inr (Or.inr (Or.inr (Or.inr (Or.inr (Or.inr (Or.inl h9)))))))))))).trans ((congrFun (congrFun eM_5 a) i).trans ((mset_ne (fun h9 => q0 (Or.inl h9))).trans ((hf_M31 a i (fun z8 => q0 ((fun z9 => Or.elim z9 (fun h9 => Or.inr (Or.inl h9)) (fun z9 => Or.elim z9 (fun h9 => Or.inr (Or.inr (Or.inr (Or.inl h9)))) (fun z9 => Or.elim z9 (fun h9 => Or.inr (Or.inr (Or.inr (Or.inr (Or.inl h9))))) (fun z9 => Or.elim z9 (fun h9 => Or.inr (Or.inr (Or.inr (Or.inr (Or.inr (Or.inl h9)))))) (fun z9 => Or.elim z9 (fun h9 => Or.inr (Or.inr (Or.inr (Or.inr (Or.inr (Or.inr (Or.inl h9))))))) (fun z9 => Or.elim z9 (fun h9 => Or.inr (Or.inr (Or.inr (Or.inr (Or.inr (Or.inr (Or.inr (Or.inl h9)))))))) (fun z9 => Or.elim z9 (fun h9 => Or.inr (Or.inr (Or.inr (Or.inr (Or.inr (Or.inr (Or.inr (Or.inr (Or.inl h9))))))))) (fun z9 => Or.elim z9 (fun h9 => Or.inr (Or.inr (Or.inr (Or.inr (Or.inr (Or.inr (Or.inr (Or.inr (Or.inr (Or.inr (Or.inl h9))))))))))) (fun z9 => Or.elim z9 (fun h9 => Or.inr (Or.inr (Or.inr (Or.inr (Or.inr (Or.inr (Or.inr (Or.inr (Or.inr (Or.inr (Or.inr (Or.inl h9)))))))))))) (fun z9 => Or.elim z9 (fun h9 => Or.inr (Or.inr (Or.inr (Or.inr (Or.inr (Or.inr (Or.inr (Or.inr (Or.inr (Or.inr (Or.inr (Or.inr (Or.inl h9))))))))))))) (fun z9 => Or.elim z9 (fun h9 => Or.inr (Or.inr (Or.inr (Or.inr (Or.inr (Or.inr (Or.inr (Or.inr (Or.inr (Or.inr (Or.inr (Or.inr (Or.inr (Or.inl h9)))))))))))))) (fun z9 => Or.elim z9 (fun h9 => Or.inr (Or.inr (Or.inr (Or.inr (Or.inr (Or.inr (Or.inr (Or.inr (Or.inr (Or.inr (Or.inr (Or.inr (Or.inr (Or.inr (Or.inl h9))))))))))))))) (fun h9 => Or.inr (Or.inr (Or.inr (Or.inr (Or.inr (Or.inr (Or.inr (Or.inr (Or.inr (Or.inr (Or.inr (Or.inr (Or.inr (Or.inr (Or.inr (Or.inl h9)))))))))))))))))))))))))))) z8))).trans ((hg_M_4 a i (fun z8 => q0 ((fun z9 => Or.elim z9 (fun h9 => Or.inr (Or.inl h9)) (fun z9 => Or.elim z9 (fun h9 => Or.inr (Or.inr (Or.inr (Or.inl h9)))) (fun z9 => Or.elim z9 (fun h9 => Or.inr (Or.inr (Or.inr (Or.inr (Or.inl h9))))) (fun z9 => Or.elim z9 (fun h9 => Or.inr (Or.inr (Or.inr (Or.inr (Or.inr (Or.inl h9)))))) (fun z9 => Or.elim z9 (fun h9 => Or.inr (Or.inr (Or.inr (Or.inr (Or.inr (Or.inr (Or.inl h9))))))) (fun z9 => Or.elim z9 (fun h9 => Or.inr (Or.inr (Or.inr (Or.inr (Or.inr (Or.inr (Or.inr (Or.inl h9)))))))) (fun z9 => Or.elim z9 (fun h9 => Or.inr (Or.inr (Or.inr (Or.inr (Or.inr (Or.inr (Or.inr (Or.inr (Or.inl h9))))))))) (fun z9 => Or.elim z9 (fun h9 => Or.inr (Or.inr (Or.inr (Or.inr (Or.inr (Or.inr (Or.inr (Or.inr (Or.inr (Or.inr (Or.inl h9))))))))))) (fun z9 => Or.elim z9 (fun h9 => Or.inr (Or.inr (Or.inr (Or.inr (Or.inr (Or.inr (Or.inr (Or.inr (Or.inr (Or.inr (Or.inr (Or.inl h9)))))))))))) (fun z9 => Or.elim z9 (fun h9 => Or.inr (Or.inr (Or.inr (Or.inr (Or.inr (Or.inr (Or.inr (Or.inr (Or.inr (Or.inr (Or.inr (Or.inr (Or.inl h9))))))))))))) (fun z9 => Or.elim z9 (fun h9 => Or.inr (Or.inr (Or.inr (Or.inr (Or.inr (Or.inr (Or.inr (Or.inr (Or.inr (Or.inr (Or.inr (Or.inr (Or.inr (Or.inl h9)))))))))))))) (fun z9 => Or.elim z9 (fun h9 => Or.inr (Or.inr (Or.inr (Or.inr (Or.inr (Or.inr (Or.inr (Or.inr (Or.inr (Or.inr (Or.inr (Or.inr (Or.inr (Or.inr (Or.inl h9))))))))))))))) (fun h9 => Or.inr (Or.inr (Or.inr (Or.inr (Or.inr (Or.inr (Or.inr (Or.inr (Or.inr (Or.inr (Or.inr (Or.inr (Or.inr (Or.inr (Or.inr (Or.inl h9)))))))))))))))))))))))))))) z8))).trans ((hg_M_2 a i (fun z8 => q0 ((fun z9 => Or.elim z9 (fun h9 => Or.inr (Or.inl h9)) (fun z9 => Or.elim z9 (fun h9 => Or.inr (Or.inr (Or.inl h9))) (fun z9 => Or.elim z9 (fun h9 => Or.inr (Or.inr (Or.inr (Or.inr (Or.inr (Or.inr (Or.inl h9))))))) (fun h9 => Or.inr (Or.inr (Or.inr (Or.inr (Or.inr (Or.inr (Or.inr (Or.inr (Or.inl h9)))))))))))) z8))).trans rfl)))))))))), (by show 0 ≤ (M123 0 6).toInt ∧ (M123 0 6).toInt ≤ 260; rw [hf_M123 0 6 (by omega), hf_M95 0 6 (by omega), eM_6, mset_ne (by omega), eM_5, mset_eq]; decide), (by show Gl M123; exact gl_of s1 (by omega) l15 (fun j hj => by rw [l12]; exact hc95 j (by rw [k12] at h121; omega)) (fun j hj => hd123 j (by rw [l14] at c128; omega)))⟩
            · rw [l14] at c128
              have fy := t_ixn y3_123 h123
              have hi := i_up (x := y3_123) (by omega)
              refine wp_gd (by omega) ?_
              refine wp_gd (by omega) ?_
              refine wp_bnd (fun M_7 eM_7 => ?_)
              refine wp_gd (by omega) ?_
              refine wp_gd (by omega) ?_
              refine wp_bnd (fun M_8 eM_8 => ?_)
              refine wp_gd (by omega) ?_
              refine wp_gd (by omega) ?_
              refine wp_bnd (fun M_9 eM_9 => ?_)
              refine wp_gd (by omega) ?_
              refine wp_gd (by omega) ?_
              refine wp_bnd (fun M_10 eM_10 => ?_)
              have v14 : M_10 14 (ix y3_123) = M31 9 (ix y3_123) := by rw [eM_10, mset_ne (by omega), eM_9, mset_ne (by omega), eM_8, mset_eq, eM_7, mset_ne (by omega), l9]
              have v15 : M_10 15 (ix y3_123) = M31 10 (ix y3_123) := by rw [eM_10, mset_ne (by omega), eM_9, mset_eq, eM_8, mset_ne (by omega), eM_7, mset_ne (by omega), l10]
              have v16 : M_10 16 (ix y3_123) = M31 11 (ix y3_123) := by rw [eM_10, mset_eq, eM_9, mset_ne (by omega), eM_8, mset_ne (by omega), eM_7, mset_ne (by omega), l11]
              have o14 : ∀ j, ¬ j = ix y3_123 → M_10 14 j = M123 14 j := fun j h9 => by rw [eM_10, mset_ne (by omega), eM_9, mset_ne (by omega), eM_8, mset_ne (by omega), eM_7, mset_ne (by omega)]
              have o15 : ∀ j, ¬ j = ix y3_123 → M_10 15 j = M123 15 j := fun j h9 => by rw [eM_10, mset_ne (by omega), eM_9, mset_ne (by omega), eM_8, mset_ne (by omega), eM_7, mset_ne (by omega)]
              have o16 : ∀ j, ¬ j = ix y3_123 → M_10 16 j = M123 16 j := fun j h9 => by rw [eM_10, mset_ne (by omega), eM_9, mset_ne (by omega), eM_8, mset_ne (by omega), eM_7, mset_ne (by omega)]
              exact ih123 M_10 (y3_123 + (nI 1)) ⟨(fun a i q0 => ((congrFun (congrFun eM_10 a) i).trans ((mset_ne (fun h9 => q0 (Or.inr (Or.inr (Or.inr ((h9).1)))))).trans ((congrFun (congrFun eM_9 a) i).trans ((mset_ne (fun h9 => q0 (Or.inr (Or.inr (Or.inl (h9).1))))).trans ((congrFun (congrFun eM_8 a) i).trans ((mset_ne (fun h9 => q0 (Or.inr (Or.inl (h9).1)))).trans ((congrFun (congrFun eM_7 a) i).trans ((mset_ne (fun h9 => q0 (Or.inl (h9).1))).trans ((hf_M123 a i (fun z8 => q0 ((fun z9 => Or.elim z9 (fun h9 => Or.inl h9) (fun z9 => Or.elim z9 (fun h9 => Or.inr (Or.inl h9)) (fun z9 => Or.elim z9 (fun h9 => Or.inr (Or.inr (Or.inl h9))) (fun h9 => Or.inr (Or.inr (Or.inr (h9))))))) z8))).trans rfl)))))))))), (by omega), (fun j hj => by rw [hi.2] at hj; by_cases e9 : j = ix y3_123; (rw [e9]; exact ⟨v14, v15, v16⟩); (have h9 := hd123 j (by omega); exact ⟨(o14 j e9).trans h9.1, (o15 j e9).trans h9.2.1, (o16 j e9).trans h9.2.2⟩))⟩ (by rw [show M_10 0 14 = M31 0 14 from (by rw [eM_10, mset_ne (by omega), eM_9, mset_ne (by omega), eM_8, mset_ne (by omega), eM_7, mset_ne (by omega), l14]), l14]; omega)
          refine wp_ite (fun c100 => ?_) (fun c100 => ?_)
          · exact j121 (by omega)
          · rw [k12] at c100
            have fy := t_ixn y3_95 h95
            have hi := i_up (x := y3_95) (by omega)
            refine wp_gd (by omega) ?_
            refine wp_gd (by omega) ?_
            refine wp_bnd (fun M_11 eM_11 => ?_)
            exact ih95 M_11 (y3_95 + (nI 1)) ⟨(fun a i q0 => ((congrFun (congrFun eM_11 a) i).trans ((mset_ne (fun h9 => q0 ((h9).1))).trans ((hf_M95 a i (fun h9 => q0 (h9))).trans rfl)))), (by omega), (set_ext (P := fun j x => x = M31 6 j) eM_11 (by omega) (by omega) hc95 (k6 _))⟩ (by rw [show M_11 0 12 = M31 0 12 from (by rw [eM_11, mset_ne (by omega), k12]), k12]; omega)
      refine wp_ite (fun c32 => ?_) (fun c32 => ?_)
      · exact j71
      · obtain ⟨s1, s2, s3, s4⟩ := h31 c32
        refine wp_ite (fun c43 => ?_) (fun c43 => ?_)
        · exact j71
        · refine wp_cb2 (o_X10_takesSign M31 (nI 59) (by omega) (by decide)) (fun r_12 M_13 he49 hq49 => ?_)
          obtain ⟨hz_r_12, hg_M_13, hp_49⟩ := hq49
          replace hp_49 : (M31 0 7).toInt ≤ (M_13 0 7).toInt ∧ (M_13 0 7).toInt ≤ (M31 0 8).toInt ∧ (¬ r_12.toInt = 0 → (M31 0 7).toInt < (M_13 0 7).toInt) := hp_49
          have := t_lit 59
          replace hg_M_13 : ∀ a i, ¬ ((a = 0 ∧ i = 7) ∨ (a = 0 ∧ i = 9)) → M_13 a i = M31 a i := hg_M_13
          refine wp_ite (fun c52 => ?_) (fun c52 => ?_)
          · exact ih31 M_13 (nI 0) ⟨(fun a i q0 => ((hg_M_13 a i (fun z8 => q0 ((fun z9 => Or.elim z9 (fun h9 => Or.inl h9) (fun h9 => Or.inr (Or.inl h9))) z8))).trans ((hf_M31 a i (fun z8 => q0 ((fun z9 => Or.elim z9 (fun h9 => Or.inl h9) (fun z9 => Or.elim z9 (fun h9 => Or.inr (Or.inl h9)) (fun z9 => Or.elim z9 (fun h9 => Or.inr (Or.inr (Or.inl h9))) (fun z9 => Or.elim z9 (fun h9 => Or.inr (Or.inr (Or.inr (Or.inl h9)))) (fun z9 => Or.elim z9 (fun h9 => Or.inr (Or.inr (Or.inr (Or.inr (Or.inl h9))))) (fun z9 => Or.elim z9 (fun h9 => Or.inr (Or.inr (Or.inr (Or.inr (Or.inr (Or.inl h9)))))) (fun z9 => Or.elim z9 (fun h9 => Or.inr (Or.inr (Or.inr (Or.inr (Or.inr (Or.inr (Or.inl h9))))))) (fun z9 => Or.elim z9 (fun h9 => Or.inr (Or.inr (Or.inr (Or.inr (Or.inr (Or.inr (Or.inr (Or.inl h9)))))))) (fun z9 => Or.elim z9 (fun h9 => Or.inr (Or.inr (Or.inr (Or.inr (Or.inr (Or.inr (Or.inr (Or.inr (Or.inl h9))))))))) (fun z9 => Or.elim z9 (fun h9 => Or.inr (Or.inr (Or.inr (Or.inr (Or.inr (Or.inr (Or.inr (Or.inr (Or.inr (Or.inl h9)))))))))) (fun z9 => Or.elim z9 (fun h9 => Or.inr (Or.inr (Or.inr (Or.inr (Or.inr (Or.inr (Or.inr (Or.inr (Or.inr (Or.inr (Or.inl h9))))))))))) (fun z9 => Or.elim z9 (fun h9 => Or.inr (Or.inr (Or.inr (Or.inr (Or.inr (Or.inr (Or.inr (Or.inr (Or.inr (Or.inr (Or.inr (Or.inl h9)))))))))))) (fun h9 => Or.inr (Or.inr (Or.inr (Or.inr (Or.inr (Or.inr (Or.inr (Or.inr (Or.inr (Or.inr (Or.inr (Or.inr (h9))))))))))))))))))))))))) z8))).trans rfl))), (fun z => absurd nI0 z)⟩ (mu_d2 c32 (fun z => absurd nI0 z))
          · have hpl := hp_49.2.2 c52
            have z12 := congrArg Int32.toInt (hg_M_13 0 12 (by omega))
            have z8 := congrArg Int32.toInt (hg_M_13 0 8 (by omega))
            have hS13 : Said M_13 := said_ext s1 (hg_M_13 0 14 (by omega)) (hg_M_13 0 12 (by omega)) (fun i => hg_M_13 6 i (by omega)) (fun i => hg_M_13 9 i (by omega)) (fun i => hg_M_13 10 i (by omega)) (fun i => hg_M_13 11 i (by omega))
            refine wp_cb2 (o_X10_readsRule M_13 (by omega) hS13) (fun r_14 M_15 he56 hq56 => ?_)
            obtain ⟨hz_r_14, hg_M_15, hS_56⟩ := hq56
            replace hS_56 : ¬ r_14.toInt = 0 → Said M_15 ∧ (M_13 0 7).toInt < (M_15 0 7).toInt ∧ 0 ≤ (M_15 0 12).toInt ∧ (M_15 0 12).toInt ≤ (M_15 0 7).toInt ∧ (M_15 0 7).toInt ≤ (M_13 0 8).toInt := hS_56
            replace hg_M_15 : ∀ a i, ¬ ((a = 0 ∧ i = 7) ∨ (a = 0 ∧ i = 9) ∨ (a = 0 ∧ i = 10) ∨ (a = 0 ∧ i = 11) ∨ (a = 0 ∧ i = 12) ∨ (a = 0 ∧ i = 13) ∨ (a = 0 ∧ i = 14) ∨ a = 6 ∨ a = 7 ∨ a = 8 ∨ a = 9 ∨ a = 10 ∨ a = 11) → M_15 a i = M_13 a i := hg_M_15
            refine wp_ite (fun c59 => ?_) (fun c59 => ?_)
            · exact ih31 M_15 (nI 0) ⟨(fun a i q0 => ((hg_M_15 a i (fun z8 => q0 ((fun z9 => Or.elim z9 (fun h9 => Or.inl h9) (fun z9 => Or.elim z9 (fun h9 => Or.inr (Or.inl h9)) (fun z9 => Or.elim z9 (fun h9 => Or.inr (Or.inr (Or.inl h9))) (fun z9 => Or.elim z9 (fun h9 => Or.inr (Or.inr (Or.inr (Or.inl h9)))) (fun z9 => Or.elim z9 (fun h9 => Or.inr (Or.inr (Or.inr (Or.inr (Or.inl h9))))) (fun z9 => Or.elim z9 (fun h9 => Or.inr (Or.inr (Or.inr (Or.inr (Or.inr (Or.inl h9)))))) (fun z9 => Or.elim z9 (fun h9 => Or.inr (Or.inr (Or.inr (Or.inr (Or.inr (Or.inr (Or.inl h9))))))) (fun z9 => Or.elim z9 (fun h9 => Or.inr (Or.inr (Or.inr (Or.inr (Or.inr (Or.inr (Or.inr (Or.inl h9)))))))) (fun z9 => Or.elim z9 (fun h9 => Or.inr (Or.inr (Or.inr (Or.inr (Or.inr (Or.inr (Or.inr (Or.inr (Or.inl h9))))))))) (fun z9 => Or.elim z9 (fun h9 => Or.inr (Or.inr (Or.inr (Or.inr (Or.inr (Or.inr (Or.inr (Or.inr (Or.inr (Or.inl h9)))))))))) (fun z9 => Or.elim z9 (fun h9 => Or.inr (Or.inr (Or.inr (Or.inr (Or.inr (Or.inr (Or.inr (Or.inr (Or.inr (Or.inr (Or.inl h9))))))))))) (fun z9 => Or.elim z9 (fun h9 => Or.inr (Or.inr (Or.inr (Or.inr (Or.inr (Or.inr (Or.inr (Or.inr (Or.inr (Or.inr (Or.inr (Or.inl h9)))))))))))) (fun h9 => Or.inr (Or.inr (Or.inr (Or.inr (Or.inr (Or.inr (Or.inr (Or.inr (Or.inr (Or.inr (Or.inr (Or.inr (h9))))))))))))))))))))))))) z8))).trans ((hg_M_13 a i (fun z8 => q0 ((fun z9 => Or.elim z9 (fun h9 => Or.inl h9) (fun h9 => Or.inr (Or.inl h9))) z8))).trans ((hf_M31 a i (fun z8 => q0 ((fun z9 => Or.elim z9 (fun h9 => Or.inl h9) (fun z9 => Or.elim z9 (fun h9 => Or.inr (Or.inl h9)) (fun z9 => Or.elim z9 (fun h9 => Or.inr (Or.inr (Or.inl h9))) (fun z9 => Or.elim z9 (fun h9 => Or.inr (Or.inr (Or.inr (Or.inl h9)))) (fun z9 => Or.elim z9 (fun h9 => Or.inr (Or.inr (Or.inr (Or.inr (Or.inl h9))))) (fun z9 => Or.elim z9 (fun h9 => Or.inr (Or.inr (Or.inr (Or.inr (Or.inr (Or.inl h9)))))) (fun z9 => Or.elim z9 (fun h9 => Or.inr (Or.inr (Or.inr (Or.inr (Or.inr (Or.inr (Or.inl h9))))))) (fun z9 => Or.elim z9 (fun h9 => Or.inr (Or.inr (Or.inr (Or.inr (Or.inr (Or.inr (Or.inr (Or.inl h9)))))))) (fun z9 => Or.elim z9 (fun h9 => Or.inr (Or.inr (Or.inr (Or.inr (Or.inr (Or.inr (Or.inr (Or.inr (Or.inl h9))))))))) (fun z9 => Or.elim z9 (fun h9 => Or.inr (Or.inr (Or.inr (Or.inr (Or.inr (Or.inr (Or.inr (Or.inr (Or.inr (Or.inl h9)))))))))) (fun z9 => Or.elim z9 (fun h9 => Or.inr (Or.inr (Or.inr (Or.inr (Or.inr (Or.inr (Or.inr (Or.inr (Or.inr (Or.inr (Or.inl h9))))))))))) (fun z9 => Or.elim z9 (fun h9 => Or.inr (Or.inr (Or.inr (Or.inr (Or.inr (Or.inr (Or.inr (Or.inr (Or.inr (Or.inr (Or.inr (Or.inl h9)))))))))))) (fun h9 => Or.inr (Or.inr (Or.inr (Or.inr (Or.inr (Or.inr (Or.inr (Or.inr (Or.inr (Or.inr (Or.inr (Or.inr (h9))))))))))))))))))))))))) z8))).trans rfl)))), (fun z => absurd nI0 z)⟩ (mu_d2 c32 (fun z => absurd nI0 z))
            · exact ih31 M_15 (nI 1) ⟨(fun a i q0 => ((hg_M_15 a i (fun z8 => q0 ((fun z9 => Or.elim z9 (fun h9 => Or.inl h9) (fun z9 => Or.elim z9 (fun h9 => Or.inr (Or.inl h9)) (fun z9 => Or.elim z9 (fun h9 => Or.inr (Or.inr (Or.inl h9))) (fun z9 => Or.elim z9 (fun h9 => Or.inr (Or.inr (Or.inr (Or.inl h9)))) (fun z9 => Or.elim z9 (fun h9 => Or.inr (Or.inr (Or.inr (Or.inr (Or.inl h9))))) (fun z9 => Or.elim z9 (fun h9 => Or.inr (Or.inr (Or.inr (Or.inr (Or.inr (Or.inl h9)))))) (fun z9 => Or.elim z9 (fun h9 => Or.inr (Or.inr (Or.inr (Or.inr (Or.inr (Or.inr (Or.inl h9))))))) (fun z9 => Or.elim z9 (fun h9 => Or.inr (Or.inr (Or.inr (Or.inr (Or.inr (Or.inr (Or.inr (Or.inl h9)))))))) (fun z9 => Or.elim z9 (fun h9 => Or.inr (Or.inr (Or.inr (Or.inr (Or.inr (Or.inr (Or.inr (Or.inr (Or.inl h9))))))))) (fun z9 => Or.elim z9 (fun h9 => Or.inr (Or.inr (Or.inr (Or.inr (Or.inr (Or.inr (Or.inr (Or.inr (Or.inr (Or.inl h9)))))))))) (fun z9 => Or.elim z9 (fun h9 => Or.inr (Or.inr (Or.inr (Or.inr (Or.inr (Or.inr (Or.inr (Or.inr (Or.inr (Or.inr (Or.inl h9))))))))))) (fun z9 => Or.elim z9 (fun h9 => Or.inr (Or.inr (Or.inr (Or.inr (Or.inr (Or.inr (Or.inr (Or.inr (Or.inr (Or.inr (Or.inr (Or.inl h9)))))))))))) (fun h9 => Or.inr (Or.inr (Or.inr (Or.inr (Or.inr (Or.inr (Or.inr (Or.inr (Or.inr (Or.inr (Or.inr (Or.inr (h9))))))))))))))))))))))))) z8))).trans ((hg_M_13 a i (fun z8 => q0 ((fun z9 => Or.elim z9 (fun h9 => Or.inl h9) (fun h9 => Or.inr (Or.inl h9))) z8))).trans ((hf_M31 a i (fun z8 => q0 ((fun z9 => Or.elim z9 (fun h9 => Or.inl h9) (fun z9 => Or.elim z9 (fun h9 => Or.inr (Or.inl h9)) (fun z9 => Or.elim z9 (fun h9 => Or.inr (Or.inr (Or.inl h9))) (fun z9 => Or.elim z9 (fun h9 => Or.inr (Or.inr (Or.inr (Or.inl h9)))) (fun z9 => Or.elim z9 (fun h9 => Or.inr (Or.inr (Or.inr (Or.inr (Or.inl h9))))) (fun z9 => Or.elim z9 (fun h9 => Or.inr (Or.inr (Or.inr (Or.inr (Or.inr (Or.inl h9)))))) (fun z9 => Or.elim z9 (fun h9 => Or.inr (Or.inr (Or.inr (Or.inr (Or.inr (Or.inr (Or.inl h9))))))) (fun z9 => Or.elim z9 (fun h9 => Or.inr (Or.inr (Or.inr (Or.inr (Or.inr (Or.inr (Or.inr (Or.inl h9)))))))) (fun z9 => Or.elim z9 (fun h9 => Or.inr (Or.inr (Or.inr (Or.inr (Or.inr (Or.inr (Or.inr (Or.inr (Or.inl h9))))))))) (fun z9 => Or.elim z9 (fun h9 => Or.inr (Or.inr (Or.inr (Or.inr (Or.inr (Or.inr (Or.inr (Or.inr (Or.inr (Or.inl h9)))))))))) (fun z9 => Or.elim z9 (fun h9 => Or.inr (Or.inr (Or.inr (Or.inr (Or.inr (Or.inr (Or.inr (Or.inr (Or.inr (Or.inr (Or.inl h9))))))))))) (fun z9 => Or.elim z9 (fun h9 => Or.inr (Or.inr (Or.inr (Or.inr (Or.inr (Or.inr (Or.inr (Or.inr (Or.inr (Or.inr (Or.inr (Or.inl h9)))))))))))) (fun h9 => Or.inr (Or.inr (Or.inr (Or.inr (Or.inr (Or.inr (Or.inr (Or.inr (Or.inr (Or.inr (Or.inr (Or.inr (h9))))))))))))))))))))))))) z8))).trans rfl)))), (fun _ => by have h9 := hS_56 c59; exact ⟨h9.1, h9.2.2.1, h9.2.2.2.1, by rw [hg_M_15 0 8 (by omega)]; exact h9.2.2.2.2⟩)⟩ (mu_d2 c32 (fun _ => by have h9 := hS_56 c59; have z15 := congrArg Int32.toInt (hg_M_15 0 8 (by omega)); omega))
    · exact wp_some ⟨(fun _ _ _ => rfl), ht, hG⟩
