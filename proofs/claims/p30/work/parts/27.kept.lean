/-! what is kept between two calls -/
def InvC (M : Mem) : Prop := ((M 0 10).toInt = 44 ∨ (M 0 10).toInt = 52) ∧ ((M 0 11).toInt = 44 ∨ (M 0 11).toInt = 52) ∧ (M 0 12 = 0 ∨ M 0 12 = 1)
def InvM (M : Mem) : Prop := ST (M 1) ∧ ST (M 3) ∧ (0 ≤ (M 0 6).toInt ∧ (M 0 6).toInt ≤ 260) ∧ Gl M
theorem invC_fr {M M' : Mem} (h : InvC M) (e1 : M' 0 10 = M 0 10) (e2 : M' 0 11 = M 0 11) (e3 : M' 0 12 = M 0 12) : InvC M' := by
  unfold InvC
  rw [e1, e2, e3]
  exact h
theorem st_y {f : Nat → Int32} (h : ST f) : ∀ j : Nat, j < 40 → (f j).toInt = 1 → 1 ≤ (f (80 + j)).toInt ∧ (f (80 + j)).toInt ≤ 20 := fun j hj h1 => ⟨(h j hj h1).1, (h j hj h1).2.1⟩
theorem tp_fr {x y : Int32} (h : 0 ≤ x.toInt ∧ x.toInt ≤ 260) (e : y = x) : 0 ≤ y.toInt ∧ y.toInt ≤ 260 := e ▸ h
theorem o2_X9_keep (M : Mem) : Wp (f_X9_keep M) (fun q => (∀ a i, ¬ ((a = 0 ∧ i = 12) ∨ (a = 7 ∧ i = 5) ∨ (a = 7 ∧ i = 6) ∨ a = 8 ∨ a = 9 ∨ a = 10 ∨ a = 11 ∨ a = 12) → q.2 a i = M a i) ∧ (q.2 0 12 = 1)) := by
  refine wp_bind2 (o_X2_copyAll (Or.inr (Or.inl rfl)) (Or.inl rfl) M) (fun M_1 he8 hq8 => ?_)
  have hg_M_1 := hq8
  replace hg_M_1 : ∀ a i, ¬ ((a = 7 ∧ i = 5) ∨ (a = 7 ∧ i = 6) ∨ a = 8 ∨ a = 9 ∨ a = 10 ∨ a = 11 ∨ a = 12) → M_1 a i = M a i := by exact fun a i q0 => hg_M_1 a i (by omega)
  refine wp_bnd (fun M_2 eM_2 => ?_)
  exact wp_some ⟨(fun a i q0 => ((congrFun (congrFun eM_2 a) i).trans ((mset_ne (fun h9 => q0 (Or.inl h9))).trans ((hg_M_1 a i (fun z8 => q0 ((fun z9 => Or.elim z9 (fun h9 => Or.inr (Or.inl h9)) (fun z9 => Or.elim z9 (fun h9 => Or.inr (Or.inr (Or.inl h9))) (fun z9 => Or.elim z9 (fun h9 => Or.inr (Or.inr (Or.inr (Or.inl h9)))) (fun z9 => Or.elim z9 (fun h9 => Or.inr (Or.inr (Or.inr (Or.inr (Or.inl h9))))) (fun z9 => Or.elim z9 (fun h9 => Or.inr (Or.inr (Or.inr (Or.inr (Or.inr (Or.inl h9)))))) (fun z9 => Or.elim z9 (fun h9 => Or.inr (Or.inr (Or.inr (Or.inr (Or.inr (Or.inr (Or.inl h9))))))) (fun h9 => Or.inr (Or.inr (Or.inr (Or.inr (Or.inr (Or.inr (Or.inr (h9)))))))))))))) z8))).trans rfl)))), (by show M_2 0 12 = 1; rw [eM_2, mset_eq]; decide)⟩
theorem o2_X9_seed (M : Mem) (v1 : Int32) : Wp (f_X9_seed M v1) (fun q => (q.1 = 0 ∨ q.1 = 1) ∧ (∀ a i, ¬ ((a = 1 ∧ i = 6)) → q.2 a i = M a i) ∧ (q.1 = (if 0 ≤ v1.toInt ∧ v1.toInt ≤ 65535 then nI 1 else nI 0))) := by
  refine wp_ite (fun c1 => ?_) (fun c1 => ?_)
  · exact wp_some ⟨b01_0, (fun _ _ _ => rfl), (if_neg (by omega)).symm⟩
  · refine wp_ite (fun c8 => ?_) (fun c8 => ?_)
    · refine wp_bnd (fun M_1 eM_1 => ?_)
      exact wp_some ⟨b01_1, (fun a i q0 => ((congrFun (congrFun eM_1 a) i).trans ((mset_ne (fun h9 => q0 (h9))).trans rfl))), (if_pos (by omega)).symm⟩
    · exact wp_some ⟨b01_0, (fun _ _ _ => rfl), (if_neg (by omega)).symm⟩
theorem o2_X9_undo (M : Mem) (hK : M 0 12 = 0 ∨ M 0 12 = 1) : Wp (f_X9_undo M) (fun q => (q.1 = 0 ∨ q.1 = 1) ∧ (∀ a i, ¬ ((a = 1 ∧ i = 5) ∨ (a = 1 ∧ i = 6) ∨ a = 2 ∨ a = 3 ∨ a = 4 ∨ a = 5 ∨ a = 6) → q.2 a i = M a i) ∧ (q.1 = M 0 12)) := by
  refine wp_ite (fun c4 => ?_) (fun c4 => ?_)
  · refine wp_gb hK ?_
    exact wp_some ⟨hK, (fun _ _ _ => rfl), rfl⟩
  · refine wp_bind2 (o_X2_copyAll (Or.inl rfl) (Or.inr (Or.inl rfl)) M) (fun M_1 he15 hq15 => ?_)
    have hg_M_1 := hq15
    replace hg_M_1 : ∀ a i, ¬ ((a = 1 ∧ i = 5) ∨ (a = 1 ∧ i = 6) ∨ a = 2 ∨ a = 3 ∨ a = 4 ∨ a = 5 ∨ a = 6) → M_1 a i = M a i := by exact fun a i q0 => hg_M_1 a i (by omega)
    refine wp_gb (by rw [hg_M_1 0 12 (by omega)]; exact hK) ?_
    exact wp_some ⟨(by rw [hg_M_1 0 12 (by omega)]; exact hK), (fun a i q0 => ((hg_M_1 a i (fun z8 => q0 ((fun z9 => Or.elim z9 (fun h9 => Or.inl h9) (fun z9 => Or.elim z9 (fun h9 => Or.inr (Or.inl h9)) (fun z9 => Or.elim z9 (fun h9 => Or.inr (Or.inr (Or.inl h9))) (fun z9 => Or.elim z9 (fun h9 => Or.inr (Or.inr (Or.inr (Or.inl h9)))) (fun z9 => Or.elim z9 (fun h9 => Or.inr (Or.inr (Or.inr (Or.inr (Or.inl h9))))) (fun z9 => Or.elim z9 (fun h9 => Or.inr (Or.inr (Or.inr (Or.inr (Or.inr (Or.inl h9)))))) (fun h9 => Or.inr (Or.inr (Or.inr (Or.inr (Or.inr (Or.inr (h9))))))))))))) z8))).trans rfl)), (hg_M_1 0 12 (by omega))⟩
theorem o2_X9_isStride (M : Mem) (v0 : Int32) : Wp (f_X9_isStride v0) (fun q => (q = 0 ∨ q = 1) ∧ (¬ q.toInt = 0 ↔ 1 ≤ v0.toInt ∧ v0.toInt ≤ 30)) := by
  refine wp_ite (fun c2 => ?_) (fun c2 => ?_)
  · exact wp_some ⟨b01_0, ⟨fun z => absurd nI0 z, fun z => absurd z (by omega)⟩⟩
  · refine wp_ite (fun c8 => ?_) (fun c8 => ?_)
    · exact wp_some ⟨b01_0, ⟨fun z => absurd nI0 z, fun z => absurd z (by omega)⟩⟩
    · exact wp_some ⟨b01_1, ⟨fun _ => by omega, fun _ => by decide⟩⟩
theorem o2_X9_person (M : Mem) (v1 : Int32) (v2 : Int32) : Wp (f_X9_person M v1 v2) (fun q => (q.1 = 0 ∨ q.1 = 1) ∧ (∀ a i, ¬ (a = 43) → q.2 a i = M a i) ∧ (q.1 = (if (0 ≤ v1.toInt ∧ v1.toInt < 8) ∧ 1 ≤ v2.toInt ∧ v2.toInt ≤ 30 then nI 1 else nI 0))) := by
  refine wp_ite (fun c1 => ?_) (fun c1 => ?_)
  · exact wp_some ⟨b01_0, (fun _ _ _ => rfl), (if_neg (by omega)).symm⟩
  · refine wp_ite (fun c7 => ?_) (fun c7 => ?_)
    · exact wp_some ⟨b01_0, (fun _ _ _ => rfl), (if_neg (by omega)).symm⟩
    · refine wp_bind2 (o2_X9_isStride M v2) (fun r_1 he11 hq11 => ?_)
      obtain ⟨hz_r_1, hr_11⟩ := hq11
      replace hr_11 : ¬ r_1.toInt = 0 ↔ 1 ≤ v2.toInt ∧ v2.toInt ≤ 30 := hr_11
      refine wp_ite (fun c14 => ?_) (fun c14 => ?_)
      · exact wp_some ⟨b01_0, (fun _ _ _ => rfl), (if_neg (by omega)).symm⟩
      · refine wp_gd (by omega) ?_
        refine wp_bnd (fun M_2 eM_2 => ?_)
        exact wp_some ⟨b01_1, (fun a i q0 => ((congrFun (congrFun eM_2 a) i).trans ((mset_ne (fun h9 => q0 ((h9).1))).trans rfl))), (if_pos (by omega)).symm⟩
theorem o2_X10_in (M : Mem) (v0 : Int32) (v1 : Int32) (v2 : Int32) : Wp (f_X10_in v0 v1 v2) (fun q => (q = 0 ∨ q = 1) ∧ (¬ q.toInt = 0 → v1.toInt ≤ v0.toInt ∧ v0.toInt ≤ v2.toInt) ∧ (¬ q.toInt = 0 ↔ v1.toInt ≤ v0.toInt ∧ v0.toInt ≤ v2.toInt)) := by
  refine wp_ite (fun c2 => ?_) (fun c2 => ?_)
  · exact wp_some ⟨b01_0, (fun z => absurd nI0 z), ⟨fun z => absurd nI0 z, fun z => absurd z (by omega)⟩⟩
  · refine wp_ite (fun c7 => ?_) (fun c7 => ?_)
    · exact wp_some ⟨b01_0, (fun z => absurd nI0 z), ⟨fun z => absurd nI0 z, fun z => absurd z (by omega)⟩⟩
    · exact wp_some ⟨b01_1, (fun _ => by omega), ⟨fun _ => by omega, fun _ => by decide⟩⟩
theorem o2_X10_person (M : Mem) (v1 : Int32) (v2 : Int32) : Wp (f_X10_person M v1 v2) (fun q => (q.1 = 0 ∨ q.1 = 1) ∧ (∀ a i, ¬ ((a = 0 ∧ i = 4) ∨ a = 4) → q.2 a i = M a i) ∧ (q.1 = (if (0 ≤ v1.toInt ∧ v1.toInt < 8) ∧ 1 ≤ v2.toInt ∧ v2.toInt ≤ 30 then nI 1 else nI 0))) := by
  refine wp_bind2 (o2_X10_in M v1 (nI 0) (nI 7)) (fun r_1 he4 hq4 => ?_)
  obtain ⟨hz_r_1, hr_4, hi_4⟩ := hq4
  replace hr_4 : ¬ r_1.toInt = 0 → (nI 0).toInt ≤ v1.toInt ∧ v1.toInt ≤ (nI 7).toInt := hr_4
  have := t_lit 0
  have := t_lit 7
  replace hi_4 : ¬ r_1.toInt = 0 ↔ (nI 0).toInt ≤ v1.toInt ∧ v1.toInt ≤ (nI 7).toInt := hi_4
  have := t_lit 0
  have := t_lit 7
  refine wp_ite (fun c7 => ?_) (fun c7 => ?_)
  · exact wp_some ⟨b01_0, (fun _ _ _ => rfl), (if_neg (by omega)).symm⟩
  · refine wp_bind2 (o2_X10_in M v2 (nI 1) (nI 30)) (fun r_2 he14 hq14 => ?_)
    obtain ⟨hz_r_2, hr_14, hi_14⟩ := hq14
    replace hr_14 : ¬ r_2.toInt = 0 → (nI 1).toInt ≤ v2.toInt ∧ v2.toInt ≤ (nI 30).toInt := hr_14
    have := t_lit 1
    have := t_lit 30
    replace hi_14 : ¬ r_2.toInt = 0 ↔ (nI 1).toInt ≤ v2.toInt ∧ v2.toInt ≤ (nI 30).toInt := hi_14
    have := t_lit 1
    have := t_lit 30
    refine wp_ite (fun c17 => ?_) (fun c17 => ?_)
    · exact wp_some ⟨b01_0, (fun _ _ _ => rfl), (if_neg (by omega)).symm⟩
    · refine wp_bnd (fun M_3 eM_3 => ?_)
      refine wp_gd (by omega) ?_
      refine wp_bnd (fun M_4 eM_4 => ?_)
      exact wp_some ⟨b01_1, (fun a i q0 => ((congrFun (congrFun eM_4 a) i).trans ((mset_ne (fun h9 => q0 (Or.inr ((h9).1)))).trans ((congrFun (congrFun eM_3 a) i).trans ((mset_ne (fun h9 => q0 (Or.inl h9))).trans rfl))))), (if_pos (by omega)).symm⟩
theorem o2_X10_seed (M : Mem) (v1 : Int32) (hst : ST (M 1)) : Wp (f_X10_seed M v1) (fun q => (q.1 = 0 ∨ q.1 = 1) ∧ (∀ a i, ¬ (a = 1) → q.2 a i = M a i) ∧ (ST (q.2 1)) ∧ (q.1 = (if 0 ≤ v1.toInt ∧ v1.toInt ≤ 65535 then nI 1 else nI 0))) := by
  refine wp_bind2 (o2_X10_in M v1 (nI 0) (nI 65535)) (fun r_1 he5 hq5 => ?_)
  obtain ⟨hz_r_1, hr_5, hi_5⟩ := hq5
  replace hr_5 : ¬ r_1.toInt = 0 → (nI 0).toInt ≤ v1.toInt ∧ v1.toInt ≤ (nI 65535).toInt := hr_5
  have := t_lit 0
  have := t_lit 65535
  replace hi_5 : ¬ r_1.toInt = 0 ↔ (nI 0).toInt ≤ v1.toInt ∧ v1.toInt ≤ (nI 65535).toInt := hi_5
  have := t_lit 0
  have := t_lit 65535
  refine wp_ite (fun c8 => ?_) (fun c8 => ?_)
  · exact wp_some ⟨b01_0, (fun _ _ _ => rfl), hst, (if_neg (by omega)).symm⟩
  · refine wp_bnd (fun M_2 eM_2 => ?_)
    exact wp_some ⟨b01_1, (fun a i q0 => ((congrFun (congrFun eM_2 a) i).trans ((mset_ne (fun h9 => q0 ((h9).1))).trans rfl))), (st_hi (i := 41) hst (fun j hj => by show M_2 1 j = M 1 j; rw [eM_2, mset_ne (by omega)])), (if_pos (by omega)).symm⟩
theorem o2_X10_check (M : Mem) (v1 : Int32) (ht : 0 ≤ (M 0 6).toInt ∧ (M 0 6).toInt ≤ 260) : Wp (f_X10_check M v1) (fun q => (∀ a i, ¬ ((a = 0 ∧ i = 6)) → q.2 a i = M a i) ∧ (0 ≤ (q.2 0 6).toInt ∧ (q.2 0 6).toInt ≤ 260)) := by
  refine wp_bind2 (o2_X10_in M v1 (nI 0) (nI 40)) (fun r_1 he4 hq4 => ?_)
  obtain ⟨hz_r_1, hr_4, hi_4⟩ := hq4
  replace hr_4 : ¬ r_1.toInt = 0 → (nI 0).toInt ≤ v1.toInt ∧ v1.toInt ≤ (nI 40).toInt := hr_4
  have := t_lit 0
  have := t_lit 40
  replace hi_4 : ¬ r_1.toInt = 0 ↔ (nI 0).toInt ≤ v1.toInt ∧ v1.toInt ≤ (nI 40).toInt := hi_4
  have := t_lit 0
  have := t_lit 40
  refine wp_ite (fun c7 => ?_) (fun c7 => ?_)
  · exact wp_some ⟨(fun _ _ _ => rfl), ht⟩
  · refine wp_ite (fun c15 => ?_) (fun c15 => ?_)
    · refine wp_bnd (fun M_2 eM_2 => ?_)
      have ft1 := t_rng v1
      refine wp_lp1 (fun y2_28 => (0 ≤ y2_28.toInt)) (fun y2_28 => (v1.toInt - y2_28.toInt).toNat) (fun ag28 y2_28 hI28 ih28 => ?_) FU (nI 0) (by have f0 := t_lit 0; omega) (fu_lt (by have f0 := t_lit 0; omega))
      have hi28 := hI28
      refine wp_ite (fun c30 => ?_) (fun c30 => ?_)
      · exact wp_some ⟨(fun a i q0 => ((congrFun (congrFun eM_2 a) i).trans ((mset_ne (fun h9 => q0 (h9))).trans rfl))), (by show 0 ≤ (M_2 0 6).toInt ∧ (M_2 0 6).toInt ≤ 260; rw [eM_2, mset_eq]; decide)⟩
      · refine wp_bind2 (o_X10_octet M_2 y2_28 (by omega)) (fun r_3 he35 hq35 => ?_)
        refine wp_bind2 (o_X10_isStone M_2 y2_28) (fun r_4 he40 hq40 => ?_)
        obtain ⟨hz_r_4, hr_40⟩ := hq40
        replace hr_40 : ¬ r_4.toInt = 0 → (0 ≤ y2_28.toInt ∧ y2_28.toInt < 40) ∧ (M_2 1 (ix y2_28)).toInt = 1 := hr_40
        have j61 : ∀ (t0_61 : Int32), Wp (f_X10_check_L61 M_2 ag28 y2_28 r_3 t0_61) (fun q => (∀ a i, ¬ ((a = 0 ∧ i = 6)) → q.2 a i = M a i) ∧ (0 ≤ (q.2 0 6).toInt ∧ (q.2 0 6).toInt ≤ 260)) := by
          intro t0_61
          unfold f_X10_check_L61
          refine wp_ite (fun c61 => ?_) (fun c61 => ?_)
          · exact ih28 (y2_28 + (nI 1)) (by have f0 := t_lit 1; have f1 := t_add y2_28 (nI 1); omega) (by have f0 := t_lit 1; have f1 := t_add y2_28 (nI 1); omega)
          · exact wp_some ⟨(fun a i q0 => ((congrFun (congrFun eM_2 a) i).trans ((mset_ne (fun h9 => q0 (h9))).trans rfl))), (by show 0 ≤ (M_2 0 6).toInt ∧ (M_2 0 6).toInt ≤ 260; rw [eM_2, mset_eq]; decide)⟩
        refine wp_ite (fun c43 => ?_) (fun c43 => ?_)
        · exact j61 (nI 255)
        · refine wp_gd (by have f0 := t_lit 40; have f1 := t_add (nI 40) y2_28; omega) ?_
          exact j61 (M_2 1 (ix ((nI 40) + y2_28)))
    · exact wp_some ⟨(fun _ _ _ => rfl), ht⟩
theorem o2_X10_letters (M : Mem) (v1 : Int32) (v2 : Int32) (ht : 0 ≤ (M 0 6).toInt ∧ (M 0 6).toInt ≤ 260) : Wp (f_X10_letters M v1 v2) (fun q => (∀ a i, ¬ ((a = 0 ∧ i = 6)) → q.2 a i = M a i) ∧ (0 ≤ (q.2 0 6).toInt ∧ (q.2 0 6).toInt ≤ 260)) := by
  refine wp_bind2 (o2_X10_in M v1 (nI 1) (nI 8)) (fun r_1 he4 hq4 => ?_)
  obtain ⟨hz_r_1, hr_4, hi_4⟩ := hq4
  replace hr_4 : ¬ r_1.toInt = 0 → (nI 1).toInt ≤ v1.toInt ∧ v1.toInt ≤ (nI 8).toInt := hr_4
  have := t_lit 1
  have := t_lit 8
  replace hi_4 : ¬ r_1.toInt = 0 ↔ (nI 1).toInt ≤ v1.toInt ∧ v1.toInt ≤ (nI 8).toInt := hi_4
  have := t_lit 1
  have := t_lit 8
  refine wp_ite (fun c7 => ?_) (fun c7 => ?_)
  · exact wp_some ⟨(fun _ _ _ => rfl), ht⟩
  · refine wp_bind2 (o2_X10_in M v2 (nI 0) (nI 1)) (fun r_2 he13 hq13 => ?_)
    obtain ⟨hz_r_2, hr_13, hi_13⟩ := hq13
    replace hr_13 : ¬ r_2.toInt = 0 → (nI 0).toInt ≤ v2.toInt ∧ v2.toInt ≤ (nI 1).toInt := hr_13
    have := t_lit 0
    have := t_lit 1
    replace hi_13 : ¬ r_2.toInt = 0 ↔ (nI 0).toInt ≤ v2.toInt ∧ v2.toInt ≤ (nI 1).toInt := hi_13
    have := t_lit 0
    have := t_lit 1
    refine wp_ite (fun c16 => ?_) (fun c16 => ?_)
    · exact wp_some ⟨(fun _ _ _ => rfl), ht⟩
    · refine wp_ite (fun c24 => ?_) (fun c24 => ?_)
      · refine wp_bnd (fun M_3 eM_3 => ?_)
        have ft1 := t_rng v1
        refine wp_lp1 (fun y3_36 => (0 ≤ y3_36.toInt)) (fun y3_36 => (v1.toInt - y3_36.toInt).toNat) (fun ag36 y3_36 hI36 ih36 => ?_) FU (nI 0) (by have f0 := t_lit 0; omega) (fu_lt (by have f0 := t_lit 0; omega))
        have hi36 := hI36
        have j58 : Wp (f_X10_letters_L58 v1 v2 M_3) (fun q => (∀ a i, ¬ ((a = 0 ∧ i = 6)) → q.2 a i = M a i) ∧ (0 ≤ (q.2 0 6).toInt ∧ (q.2 0 6).toInt ≤ 260)) := by
          unfold f_X10_letters_L58
          have hsh := shl8 (hr_4 (by omega)).1 (by have := t_lit 1; have := t_lit 8; omega)
          refine wp_lp3 (fun y3_68 y4_68 y5_68 => (1 ≤ y5_68.toInt ∧ y5_68.toInt ≤ 300)) (fun y3_68 y4_68 y5_68 => (300 - y5_68.toInt).toNat) (fun ag68 y3_68 y4_68 y5_68 hI68 ih68 => ?_) FU (nI 0) (nI 1000000) (nI 1) (by decide) (fu_lt (by have f0 := t_lit 1; have f1 := t_lit 0; have f2 := t_lit 1000000; omega))
          have hy := hI68
          have j157 : Wp (f_X10_letters_L157 v2 M_3 y3_68 y4_68) (fun q => (∀ a i, ¬ ((a = 0 ∧ i = 6)) → q.2 a i = M a i) ∧ (0 ≤ (q.2 0 6).toInt ∧ (q.2 0 6).toInt ≤ 260)) := by
            unfold f_X10_letters_L157
            refine wp_ite (fun c158 => ?_) (fun c158 => ?_)
            · exact wp_some ⟨(fun a i q0 => ((congrFun (congrFun eM_3 a) i).trans ((mset_ne (fun h9 => q0 (h9))).trans rfl))), (by show 0 ≤ (M_3 0 6).toInt ∧ (M_3 0 6).toInt ≤ 260; rw [eM_3, mset_eq]; decide)⟩
            · exact wp_some ⟨(fun a i q0 => ((congrFun (congrFun eM_3 a) i).trans ((mset_ne (fun h9 => q0 (h9))).trans rfl))), (by show 0 ≤ (M_3 0 6).toInt ∧ (M_3 0 6).toInt ≤ 260; rw [eM_3, mset_eq]; decide)⟩
          refine wp_ite (fun c73 => ?_) (fun c73 => ?_)
          · exact j157
          · refine wp_lp2 (fun y6_82 y7_82 => (0 ≤ y7_82.toInt)) (fun y6_82 y7_82 => (v1.toInt - y7_82.toInt).toNat) (fun ag82 y6_82 y7_82 hI82 ih82 => ?_) FU (nI 0) (nI 0) (by have f0 := t_lit 0; omega) (fu_lt (by have f0 := t_lit 0; omega))
            have hi82 := hI82
            have j125 : Wp (f_X10_letters_L125 ag68 y3_68 y4_68 y5_68 y6_82) (fun q => (∀ a i, ¬ ((a = 0 ∧ i = 6)) → q.2 a i = M a i) ∧ (0 ≤ (q.2 0 6).toInt ∧ (q.2 0 6).toInt ≤ 260)) := by
              unfold f_X10_letters_L125
              refine wp_bind2 (o_X10_size M_3 y6_82) (fun r_4 he127 hq127 => ?_)
              refine wp_ite (fun c132 => ?_) (fun c132 => ?_)
              · refine wp_bind2 (o_X10_size M_3 y6_82) (fun r_5 he140 hq140 => ?_)
                exact ih68 y5_68 r_5 (y5_68 + (nI 2)) (by have f0 := t_lit 2; have f1 := t_add y5_68 (nI 2); have f2 := t_lit 1; omega) (by have f0 := t_lit 2; have f1 := t_add y5_68 (nI 2); have f2 := t_lit 1; omega)
              · exact ih68 y3_68 y4_68 (y5_68 + (nI 2)) (by have f0 := t_lit 2; have f1 := t_add y5_68 (nI 2); have f2 := t_lit 1; omega) (by have f0 := t_lit 2; have f1 := t_add y5_68 (nI 2); have f2 := t_lit 1; omega)
            refine wp_ite (fun c85 => ?_) (fun c85 => ?_)
            · exact j125
            · refine wp_bind2 (o_X10_has M_3 y5_68 y7_82) (fun r_6 he94 hq94 => ?_)
              have hz_r_6 := hq94
              refine wp_ite (fun c97 => ?_) (fun c97 => ?_)
              · refine wp_bind2 (o_X10_octet M_3 y7_82 (by omega)) (fun r_7 he112 hq112 => ?_)
                refine wp_bnd (fun x_8 ex_8 => ?_)
                exact ih82 x_8 (y7_82 + (nI 1)) (by have f0 := t_lit 1; have f1 := t_add y7_82 (nI 1); omega) (by have f0 := t_lit 1; have f1 := t_add y7_82 (nI 1); omega)
              · refine wp_bind2 (o_X10_octet M_3 y7_82 (by omega)) (fun r_9 he103 hq103 => ?_)
                refine wp_bnd (fun x_10 ex_10 => ?_)
                exact ih82 x_10 (y7_82 + (nI 1)) (by have f0 := t_lit 1; have f1 := t_add y7_82 (nI 1); omega) (by have f0 := t_lit 1; have f1 := t_add y7_82 (nI 1); omega)
        refine wp_ite (fun c38 => ?_) (fun c38 => ?_)
        · exact j58
        · refine wp_bind2 (o_X10_octet M_3 y3_36 (by omega)) (fun r_11 he43 hq43 => ?_)
          refine wp_ite (fun c46 => ?_) (fun c46 => ?_)
          · exact wp_some ⟨(fun a i q0 => ((congrFun (congrFun eM_3 a) i).trans ((mset_ne (fun h9 => q0 (h9))).trans rfl))), (by show 0 ≤ (M_3 0 6).toInt ∧ (M_3 0 6).toInt ≤ 260; rw [eM_3, mset_eq]; decide)⟩
          · exact ih36 (y3_36 + (nI 1)) (by have f0 := t_lit 1; have f1 := t_add y3_36 (nI 1); omega) (by have f0 := t_lit 1; have f1 := t_add y3_36 (nI 1); omega)
      · exact wp_some ⟨(fun _ _ _ => rfl), ht⟩
theorem o2_X10_undo (M : Mem) (hst : ST (M 1)) (hsk : ST (M 3)) : Wp (f_X10_undo M) (fun q => (q.1 = 0 ∨ q.1 = 1) ∧ (∀ a i, ¬ (a = 1) → q.2 a i = M a i) ∧ (ST (q.2 1)) ∧ (q.1 = (if (M 0 54).toInt = 0 then nI 0 else nI 1))) := by
  refine wp_ite (fun c4 => ?_) (fun c4 => ?_)
  · exact wp_some ⟨b01_0, (fun _ _ _ => rfl), hst, (if_pos c4).symm⟩
  · refine wp_bind2 (o_X10_copies (by decide) (by decide) M (by omega) (by omega)) (fun M_1 he17 hq17 => ?_)
    obtain ⟨hg_M_1, hc_17⟩ := hq17
    replace hc_17 : ∀ j : Nat, j < 202 → M_1 1 j = M 3 j := hc_17
    replace hg_M_1 : ∀ a i, ¬ (a = 1) → M_1 a i = M a i := by exact fun a i q0 => hg_M_1 a i (by omega)
    exact wp_some ⟨b01_1, (fun a i q0 => ((hg_M_1 a i (fun h9 => q0 (h9))).trans rfl)), (st_copy hsk (fun j hj => hc_17 j hj)), (if_neg c4).symm⟩
theorem o2_X10_keep (M : Mem) (hst : ST (M 1)) : Wp (f_X10_keep M) (fun q => (∀ a i, ¬ ((a = 0 ∧ i = 54) ∨ a = 3) → q.2 a i = M a i) ∧ (ST (q.2 1)) ∧ (ST (q.2 3)) ∧ (q.2 0 54 = 1)) := by
  refine wp_bnd (fun M_1 eM_1 => ?_)
  refine wp_bind2 (o_X10_copies (by decide) (by decide) M_1 (by omega) (by omega)) (fun M_2 he13 hq13 => ?_)
  obtain ⟨hg_M_2, hc_13⟩ := hq13
  replace hc_13 : ∀ j : Nat, j < 202 → M_2 3 j = M_1 1 j := hc_13
  replace hg_M_2 : ∀ a i, ¬ (a = 3) → M_2 a i = M_1 a i := by exact fun a i q0 => hg_M_2 a i (by omega)
  exact wp_some ⟨(fun a i q0 => ((hg_M_2 a i (fun h9 => q0 (Or.inr (h9)))).trans ((congrFun (congrFun eM_1 a) i).trans ((mset_ne (fun h9 => q0 (Or.inl h9))).trans rfl)))), (by have e9 : M_2 1 = M 1 := funext (fun i => ((hg_M_2 1 i (by omega)).trans ((congrFun (congrFun eM_1 1) i).trans ((mset_ne (by omega)).trans rfl)))); show ST (M_2 1); rw [e9]; exact hst), (st_copy hst (fun j hj => by show M_2 3 j = M 1 j; rw [hc_13 j hj, eM_1, mset_ne (by omega)])), (by show M_2 0 54 = 1; rw [hg_M_2 0 54 (by omega), eM_1, mset_eq]; decide)⟩
theorem o3_X2_copyAll {b : Nat} (hb : isF b) {b2 : Nat} (hb2 : isF b2) (M : Mem) : Wp (f_X2_copyAll b b2 M) (fun q => (∀ a i, ¬ (a = (b + 1) ∨ a = (b + 2) ∨ a = (b + 3) ∨ a = (b + 4) ∨ a = (b + 5) ∨ (a = b ∧ i = 5) ∨ (a = b ∧ i = 6)) → q a i = M a i) ∧ (q b 5 = M b2 5)) := by
  have hb0 : b = 1 ∨ b = 7 ∨ b = 13 := hb
  have hb20 : b2 = 1 ∨ b2 = 7 ∨ b2 = 13 := hb2
  refine wp_bind2 (o_X2_copyStones hb hb2 M) (fun M_1 he2 hq2 => ?_)
  have hg_M_1 := hq2
  replace hg_M_1 : ∀ a i, ¬ (a = (b + 1) ∨ a = (b + 2) ∨ a = (b + 3) ∨ a = (b + 4) ∨ a = (b + 5)) → M_1 a i = M a i := by exact fun a i q0 => hg_M_1 a i (by omega)
  refine wp_bnd (fun M_2 eM_2 => ?_)
  refine wp_bnd (fun M_3 eM_3 => ?_)
  exact wp_some ⟨(fun a i q0 => ((congrFun (congrFun eM_3 a) i).trans ((mset_ne (fun h9 => q0 (Or.inr (Or.inr (Or.inr (Or.inr (Or.inr (Or.inr (h9))))))))).trans ((congrFun (congrFun eM_2 a) i).trans ((mset_ne (fun h9 => q0 (Or.inr (Or.inr (Or.inr (Or.inr (Or.inr (Or.inl h9)))))))).trans ((hg_M_1 a i (fun z8 => q0 ((fun z9 => Or.elim z9 (fun h9 => Or.inl h9) (fun z9 => Or.elim z9 (fun h9 => Or.inr (Or.inl h9)) (fun z9 => Or.elim z9 (fun h9 => Or.inr (Or.inr (Or.inl h9))) (fun z9 => Or.elim z9 (fun h9 => Or.inr (Or.inr (Or.inr (Or.inl h9)))) (fun h9 => Or.inr (Or.inr (Or.inr (Or.inr (Or.inl h9))))))))) z8))).trans rfl)))))), (by rw [eM_3, mset_ne (by omega), eM_2, mset_eq, hg_M_1 b2 5 (by omega)])⟩
theorem o3_X9_keep (M : Mem) : Wp (f_X9_keep M) (fun q => (∀ a i, ¬ ((a = 0 ∧ i = 12) ∨ (a = 7 ∧ i = 5) ∨ (a = 7 ∧ i = 6) ∨ a = 8 ∨ a = 9 ∨ a = 10 ∨ a = 11 ∨ a = 12) → q.2 a i = M a i) ∧ (q.2 0 12 = 1) ∧ (q.2 7 5 = M 1 5) ∧ (q.1 = M 1 5)) := by
  refine wp_bind2 (o3_X2_copyAll (Or.inr (Or.inl rfl)) (Or.inl rfl) M) (fun M_1 he8 hq8 => ?_)
  obtain ⟨hg_M_1, hN_8⟩ := hq8
  replace hN_8 : M_1 7 5 = M 1 5 := hN_8
  replace hg_M_1 : ∀ a i, ¬ ((a = 7 ∧ i = 5) ∨ (a = 7 ∧ i = 6) ∨ a = 8 ∨ a = 9 ∨ a = 10 ∨ a = 11 ∨ a = 12) → M_1 a i = M a i := by exact fun a i q0 => hg_M_1 a i (by omega)
  refine wp_bnd (fun M_2 eM_2 => ?_)
  exact wp_some ⟨(fun a i q0 => ((congrFun (congrFun eM_2 a) i).trans ((mset_ne (fun h9 => q0 (Or.inl h9))).trans ((hg_M_1 a i (fun z8 => q0 ((fun z9 => Or.elim z9 (fun h9 => Or.inr (Or.inl h9)) (fun z9 => Or.elim z9 (fun h9 => Or.inr (Or.inr (Or.inl h9))) (fun z9 => Or.elim z9 (fun h9 => Or.inr (Or.inr (Or.inr (Or.inl h9)))) (fun z9 => Or.elim z9 (fun h9 => Or.inr (Or.inr (Or.inr (Or.inr (Or.inl h9))))) (fun z9 => Or.elim z9 (fun h9 => Or.inr (Or.inr (Or.inr (Or.inr (Or.inr (Or.inl h9)))))) (fun z9 => Or.elim z9 (fun h9 => Or.inr (Or.inr (Or.inr (Or.inr (Or.inr (Or.inr (Or.inl h9))))))) (fun h9 => Or.inr (Or.inr (Or.inr (Or.inr (Or.inr (Or.inr (Or.inr (h9)))))))))))))) z8))).trans rfl)))), (by show M_2 0 12 = 1; rw [eM_2, mset_eq]; decide), (by show M_2 7 5 = M 1 5; rw [eM_2, mset_ne (by omega)]; exact hN_8), (by show M_2 1 5 = M 1 5; rw [eM_2, mset_ne (by omega), hg_M_1 1 5 (by omega)])⟩
theorem o3_X9_undo (M : Mem) (hK : M 0 12 = 0 ∨ M 0 12 = 1) : Wp (f_X9_undo M) (fun q => (q.1 = 0 ∨ q.1 = 1) ∧ (∀ a i, ¬ ((a = 1 ∧ i = 5) ∨ (a = 1 ∧ i = 6) ∨ a = 2 ∨ a = 3 ∨ a = 4 ∨ a = 5 ∨ a = 6) → q.2 a i = M a i) ∧ (q.1 = M 0 12) ∧ (q.2 1 5 = (if (M 0 12).toInt = 0 then M 1 5 else M 7 5))) := by
  refine wp_ite (fun c4 => ?_) (fun c4 => ?_)
  · refine wp_gb hK ?_
    exact wp_some ⟨hK, (fun _ _ _ => rfl), rfl, (if_pos c4).symm⟩
  · refine wp_bind2 (o3_X2_copyAll (Or.inl rfl) (Or.inr (Or.inl rfl)) M) (fun M_1 he15 hq15 => ?_)
    obtain ⟨hg_M_1, hN_15⟩ := hq15
    replace hN_15 : M_1 1 5 = M 7 5 := hN_15
    replace hg_M_1 : ∀ a i, ¬ ((a = 1 ∧ i = 5) ∨ (a = 1 ∧ i = 6) ∨ a = 2 ∨ a = 3 ∨ a = 4 ∨ a = 5 ∨ a = 6) → M_1 a i = M a i := by exact fun a i q0 => hg_M_1 a i (by omega)
    refine wp_gb (by rw [hg_M_1 0 12 (by omega)]; exact hK) ?_
    exact wp_some ⟨(by rw [hg_M_1 0 12 (by omega)]; exact hK), (fun a i q0 => ((hg_M_1 a i (fun z8 => q0 ((fun z9 => Or.elim z9 (fun h9 => Or.inl h9) (fun z9 => Or.elim z9 (fun h9 => Or.inr (Or.inl h9)) (fun z9 => Or.elim z9 (fun h9 => Or.inr (Or.inr (Or.inl h9))) (fun z9 => Or.elim z9 (fun h9 => Or.inr (Or.inr (Or.inr (Or.inl h9)))) (fun z9 => Or.elim z9 (fun h9 => Or.inr (Or.inr (Or.inr (Or.inr (Or.inl h9))))) (fun z9 => Or.elim z9 (fun h9 => Or.inr (Or.inr (Or.inr (Or.inr (Or.inr (Or.inl h9)))))) (fun h9 => Or.inr (Or.inr (Or.inr (Or.inr (Or.inr (Or.inr (h9))))))))))))) z8))).trans rfl)), (hg_M_1 0 12 (by omega)), (by rw [if_neg c4]; exact hN_15)⟩
theorem o3_X5_pass {b : Nat} (hb : isF b) {c : Nat} (hc : isL c) (M : Mem) (v3 : Int32) : Wp (f_X5_pass b c M v3) (fun q => (∀ a i, ¬ ((a = 21 ∧ i = 1) ∨ (a = 21 ∧ i = 2) ∨ a = 22 ∨ a = (b + 1) ∨ a = (b + 2) ∨ a = (b + 5) ∨ a = (c + 3) ∨ (a = b ∧ i = 5) ∨ (a = b ∧ i = 6)) → q a i = M a i) ∧ ((q b 5).toInt = max (M b 5).toInt (min ((M b 5).toInt + max v3.toInt 0) 9999))) := by
  have hb0 : b = 1 ∨ b = 7 ∨ b = 13 := hb
  have hc0 : c = 44 ∨ c = 52 := hc
  refine wp_bnd (fun M_1 eM_1 => ?_)
  refine wp_bnd (fun M_2 eM_2 => ?_)
  have ft1 := t_rng v3
  refine wp_lp2 (fun M13 y4_13 => (0 ≤ y4_13.toInt) ∧ (∀ a i, ¬ ((a = 21 ∧ i = 1) ∨ (a = 21 ∧ i = 2) ∨ a = 22 ∨ a = (b + 1) ∨ a = (b + 2) ∨ a = (b + 5) ∨ a = (c + 3) ∨ (a = b ∧ i = 5) ∨ (a = b ∧ i = 6)) → M13 a i = M_2 a i) ∧ ((M13 b 5).toInt = max (M b 5).toInt (min ((M b 5).toInt + y4_13.toInt) 9999) ∧ y4_13.toInt ≤ max v3.toInt 0)) (fun M13 y4_13 => (v3.toInt - y4_13.toInt).toNat) (fun ag13 M13 y4_13 hI13 ih13 => ?_) FU M_2 (nI 0) ⟨(by have f0 := t_lit 0; omega), (fun _ _ _ => rfl), (by have f1 : M_2 b 5 = M b 5 := (by rw [eM_2, mset_ne (by omega), eM_1, mset_ne (by omega)]); rw [f1]; have := t_lit 0; omega)⟩ (fu_lt (by have f0 := t_lit 0; omega))
  obtain ⟨hi13, hf_M13, h13⟩ := hI13
  refine wp_ite (fun c16 => ?_) (fun c16 => ?_)
  · exact wp_some ⟨(fun a i q0 => ((hf_M13 a i (fun z8 => q0 ((fun z9 => Or.elim z9 (fun h9 => Or.inl h9) (fun z9 => Or.elim z9 (fun h9 => Or.inr (Or.inl h9)) (fun z9 => Or.elim z9 (fun h9 => Or.inr (Or.inr (Or.inl h9))) (fun z9 => Or.elim z9 (fun h9 => Or.inr (Or.inr (Or.inr (Or.inl h9)))) (fun z9 => Or.elim z9 (fun h9 => Or.inr (Or.inr (Or.inr (Or.inr (Or.inl h9))))) (fun z9 => Or.elim z9 (fun h9 => Or.inr (Or.inr (Or.inr (Or.inr (Or.inr (Or.inl h9)))))) (fun z9 => Or.elim z9 (fun h9 => Or.inr (Or.inr (Or.inr (Or.inr (Or.inr (Or.inr (Or.inl h9))))))) (fun z9 => Or.elim z9 (fun h9 => Or.inr (Or.inr (Or.inr (Or.inr (Or.inr (Or.inr (Or.inr (Or.inl h9)))))))) (fun h9 => Or.inr (Or.inr (Or.inr (Or.inr (Or.inr (Or.inr (Or.inr (Or.inr (h9))))))))))))))))) z8))).trans ((congrFun (congrFun eM_2 a) i).trans ((mset_ne (fun h9 => q0 (Or.inr (Or.inl h9)))).trans ((congrFun (congrFun eM_1 a) i).trans ((mset_ne (fun h9 => q0 (Or.inl h9))).trans rfl)))))), (by omega)⟩
  · refine wp_ite (fun c26 => ?_) (fun c26 => ?_)
    · exact wp_some ⟨(fun a i q0 => ((hf_M13 a i (fun z8 => q0 ((fun z9 => Or.elim z9 (fun h9 => Or.inl h9) (fun z9 => Or.elim z9 (fun h9 => Or.inr (Or.inl h9)) (fun z9 => Or.elim z9 (fun h9 => Or.inr (Or.inr (Or.inl h9))) (fun z9 => Or.elim z9 (fun h9 => Or.inr (Or.inr (Or.inr (Or.inl h9)))) (fun z9 => Or.elim z9 (fun h9 => Or.inr (Or.inr (Or.inr (Or.inr (Or.inl h9))))) (fun z9 => Or.elim z9 (fun h9 => Or.inr (Or.inr (Or.inr (Or.inr (Or.inr (Or.inl h9)))))) (fun z9 => Or.elim z9 (fun h9 => Or.inr (Or.inr (Or.inr (Or.inr (Or.inr (Or.inr (Or.inl h9))))))) (fun z9 => Or.elim z9 (fun h9 => Or.inr (Or.inr (Or.inr (Or.inr (Or.inr (Or.inr (Or.inr (Or.inl h9)))))))) (fun h9 => Or.inr (Or.inr (Or.inr (Or.inr (Or.inr (Or.inr (Or.inr (Or.inr (h9))))))))))))))))) z8))).trans ((congrFun (congrFun eM_2 a) i).trans ((mset_ne (fun h9 => q0 (Or.inr (Or.inl h9)))).trans ((congrFun (congrFun eM_1 a) i).trans ((mset_ne (fun h9 => q0 (Or.inl h9))).trans rfl)))))), (by omega)⟩
    · refine wp_lp2 (fun M32 y5_32 => (0 ≤ y5_32.toInt) ∧ (∀ a i, ¬ ((a = 21 ∧ i = 1) ∨ (a = 21 ∧ i = 2) ∨ a = 22 ∨ a = (b + 1) ∨ a = (b + 2) ∨ a = (b + 5) ∨ a = (c + 3) ∨ (a = b ∧ i = 6)) → M32 a i = M13 a i)) (fun M32 y5_32 => (40 - y5_32.toInt).toNat) (fun ag32 M32 y5_32 hI32 ih32 => ?_) FU M13 (nI 0) ⟨(by have f0 := t_lit 0; omega), (fun _ _ _ => rfl)⟩ (fu_lt (by have f0 := t_lit 0; omega))
      obtain ⟨hi32, hf_M32⟩ := hI32
      have j63 : Wp (f_X5_pass_L63 b ag13 y4_13 M32) (fun q => (∀ a i, ¬ ((a = 21 ∧ i = 1) ∨ (a = 21 ∧ i = 2) ∨ a = 22 ∨ a = (b + 1) ∨ a = (b + 2) ∨ a = (b + 5) ∨ a = (c + 3) ∨ (a = b ∧ i = 5) ∨ (a = b ∧ i = 6)) → q a i = M a i) ∧ ((q b 5).toInt = max (M b 5).toInt (min ((M b 5).toInt + max v3.toInt 0) 9999))) := by
        unfold f_X5_pass_L63
        refine wp_bnd (fun M_3 eM_3 => ?_)
        exact ih13 M_3 (y4_13 + (nI 1)) ⟨(by have f0 := t_lit 1; have f1 := t_add y4_13 (nI 1); omega), (fun a i q0 => ((congrFun (congrFun eM_3 a) i).trans ((mset_ne (fun h9 => q0 (Or.inr (Or.inr (Or.inr (Or.inr (Or.inr (Or.inr (Or.inr (Or.inl h9)))))))))).trans ((hf_M32 a i (fun z8 => q0 ((fun z9 => Or.elim z9 (fun h9 => Or.inl h9) (fun z9 => Or.elim z9 (fun h9 => Or.inr (Or.inl h9)) (fun z9 => Or.elim z9 (fun h9 => Or.inr (Or.inr (Or.inl h9))) (fun z9 => Or.elim z9 (fun h9 => Or.inr (Or.inr (Or.inr (Or.inl h9)))) (fun z9 => Or.elim z9 (fun h9 => Or.inr (Or.inr (Or.inr (Or.inr (Or.inl h9))))) (fun z9 => Or.elim z9 (fun h9 => Or.inr (Or.inr (Or.inr (Or.inr (Or.inr (Or.inl h9)))))) (fun z9 => Or.elim z9 (fun h9 => Or.inr (Or.inr (Or.inr (Or.inr (Or.inr (Or.inr (Or.inl h9))))))) (fun h9 => Or.inr (Or.inr (Or.inr (Or.inr (Or.inr (Or.inr (Or.inr (Or.inr (h9)))))))))))))))) z8))).trans ((hf_M13 a i (fun z8 => q0 ((fun z9 => Or.elim z9 (fun h9 => Or.inl h9) (fun z9 => Or.elim z9 (fun h9 => Or.inr (Or.inl h9)) (fun z9 => Or.elim z9 (fun h9 => Or.inr (Or.inr (Or.inl h9))) (fun z9 => Or.elim z9 (fun h9 => Or.inr (Or.inr (Or.inr (Or.inl h9)))) (fun z9 => Or.elim z9 (fun h9 => Or.inr (Or.inr (Or.inr (Or.inr (Or.inl h9))))) (fun z9 => Or.elim z9 (fun h9 => Or.inr (Or.inr (Or.inr (Or.inr (Or.inr (Or.inl h9)))))) (fun z9 => Or.elim z9 (fun h9 => Or.inr (Or.inr (Or.inr (Or.inr (Or.inr (Or.inr (Or.inl h9))))))) (fun z9 => Or.elim z9 (fun h9 => Or.inr (Or.inr (Or.inr (Or.inr (Or.inr (Or.inr (Or.inr (Or.inl h9)))))))) (fun h9 => Or.inr (Or.inr (Or.inr (Or.inr (Or.inr (Or.inr (Or.inr (Or.inr (h9))))))))))))))))) z8))).trans rfl))))), (by have f1 : M32 b 5 = M13 b 5 := hf_M32 b 5 (by omega); have f2 : (M_3 b 5).toInt = (M13 b 5).toInt + 1 := (by rw [eM_3, mset_eq, f1]; exact t_inc _ 1 (by omega)); rw [f2, t_inc y4_13 1 (by omega)]; omega)⟩ (by have f0 := t_lit 1; have f1 := t_add y4_13 (nI 1); omega)
      refine wp_ite (fun c36 => ?_) (fun c36 => ?_)
      · exact j63
      · refine wp_gd (by omega) ?_
        refine wp_ite (fun c46 => ?_) (fun c46 => ?_)
        · exact ih32 M32 (y5_32 + (nI 1)) ⟨(by have f0 := t_lit 1; have f1 := t_add y5_32 (nI 1); have f2 := congrArg Int32.toInt (hf_M32 (b + 4) (ix y5_32) (by omega)); have f3 := congrArg Int32.toInt (hf_M13 (b + 4) (ix y5_32) (by omega)); have f4 := congrArg Int32.toInt ((congrFun (congrFun eM_2 (b + 4)) (ix y5_32)).trans (mset_ne (by omega))); have f5 := congrArg Int32.toInt ((congrFun (congrFun eM_1 (b + 4)) (ix y5_32)).trans (mset_ne (by omega))); omega), (fun a i q0 => ((hf_M32 a i (fun z8 => q0 ((fun z9 => Or.elim z9 (fun h9 => Or.inl h9) (fun z9 => Or.elim z9 (fun h9 => Or.inr (Or.inl h9)) (fun z9 => Or.elim z9 (fun h9 => Or.inr (Or.inr (Or.inl h9))) (fun z9 => Or.elim z9 (fun h9 => Or.inr (Or.inr (Or.inr (Or.inl h9)))) (fun z9 => Or.elim z9 (fun h9 => Or.inr (Or.inr (Or.inr (Or.inr (Or.inl h9))))) (fun z9 => Or.elim z9 (fun h9 => Or.inr (Or.inr (Or.inr (Or.inr (Or.inr (Or.inl h9)))))) (fun z9 => Or.elim z9 (fun h9 => Or.inr (Or.inr (Or.inr (Or.inr (Or.inr (Or.inr (Or.inl h9))))))) (fun h9 => Or.inr (Or.inr (Or.inr (Or.inr (Or.inr (Or.inr (Or.inr (h9))))))))))))))) z8))).trans rfl))⟩ (by have f0 := t_lit 1; have f1 := t_add y5_32 (nI 1); have f2 := congrArg Int32.toInt (hf_M32 (b + 4) (ix y5_32) (by omega)); have f3 := congrArg Int32.toInt (hf_M13 (b + 4) (ix y5_32) (by omega)); have f4 := congrArg Int32.toInt ((congrFun (congrFun eM_2 (b + 4)) (ix y5_32)).trans (mset_ne (by omega))); have f5 := congrArg Int32.toInt ((congrFun (congrFun eM_1 (b + 4)) (ix y5_32)).trans (mset_ne (by omega))); omega)
        · refine wp_bind2 (o_X5_turn hb hc M32 y5_32) (fun M_4 he54 hq54 => ?_)
          have hg_M_4 := hq54
          replace hg_M_4 : ∀ a i, ¬ ((a = 21 ∧ i = 1) ∨ (a = 21 ∧ i = 2) ∨ a = 22 ∨ a = (b + 1) ∨ a = (b + 2) ∨ a = (b + 5) ∨ a = (c + 3) ∨ (a = b ∧ i = 6)) → M_4 a i = M32 a i := by exact fun a i q0 => hg_M_4 a i (by omega)
          exact ih32 M_4 (y5_32 + (nI 1)) ⟨(by have f0 := t_lit 1; have f1 := t_add y5_32 (nI 1); have f2 := congrArg Int32.toInt (hf_M32 (b + 4) (ix y5_32) (by omega)); have f3 := congrArg Int32.toInt (hf_M13 (b + 4) (ix y5_32) (by omega)); have f4 := congrArg Int32.toInt ((congrFun (congrFun eM_2 (b + 4)) (ix y5_32)).trans (mset_ne (by omega))); have f5 := congrArg Int32.toInt ((congrFun (congrFun eM_1 (b + 4)) (ix y5_32)).trans (mset_ne (by omega))); omega), (fun a i q0 => ((hg_M_4 a i (fun z8 => q0 ((fun z9 => Or.elim z9 (fun h9 => Or.inl h9) (fun z9 => Or.elim z9 (fun h9 => Or.inr (Or.inl h9)) (fun z9 => Or.elim z9 (fun h9 => Or.inr (Or.inr (Or.inl h9))) (fun z9 => Or.elim z9 (fun h9 => Or.inr (Or.inr (Or.inr (Or.inl h9)))) (fun z9 => Or.elim z9 (fun h9 => Or.inr (Or.inr (Or.inr (Or.inr (Or.inl h9))))) (fun z9 => Or.elim z9 (fun h9 => Or.inr (Or.inr (Or.inr (Or.inr (Or.inr (Or.inl h9)))))) (fun z9 => Or.elim z9 (fun h9 => Or.inr (Or.inr (Or.inr (Or.inr (Or.inr (Or.inr (Or.inl h9))))))) (fun h9 => Or.inr (Or.inr (Or.inr (Or.inr (Or.inr (Or.inr (Or.inr (h9))))))))))))))) z8))).trans ((hf_M32 a i (fun z8 => q0 ((fun z9 => Or.elim z9 (fun h9 => Or.inl h9) (fun z9 => Or.elim z9 (fun h9 => Or.inr (Or.inl h9)) (fun z9 => Or.elim z9 (fun h9 => Or.inr (Or.inr (Or.inl h9))) (fun z9 => Or.elim z9 (fun h9 => Or.inr (Or.inr (Or.inr (Or.inl h9)))) (fun z9 => Or.elim z9 (fun h9 => Or.inr (Or.inr (Or.inr (Or.inr (Or.inl h9))))) (fun z9 => Or.elim z9 (fun h9 => Or.inr (Or.inr (Or.inr (Or.inr (Or.inr (Or.inl h9)))))) (fun z9 => Or.elim z9 (fun h9 => Or.inr (Or.inr (Or.inr (Or.inr (Or.inr (Or.inr (Or.inl h9))))))) (fun h9 => Or.inr (Or.inr (Or.inr (Or.inr (Or.inr (Or.inr (Or.inr (h9))))))))))))))) z8))).trans rfl)))⟩ (by have f0 := t_lit 1; have f1 := t_add y5_32 (nI 1); have f2 := congrArg Int32.toInt (hf_M32 (b + 4) (ix y5_32) (by omega)); have f3 := congrArg Int32.toInt (hf_M13 (b + 4) (ix y5_32) (by omega)); have f4 := congrArg Int32.toInt ((congrFun (congrFun eM_2 (b + 4)) (ix y5_32)).trans (mset_ne (by omega))); have f5 := congrArg Int32.toInt ((congrFun (congrFun eM_1 (b + 4)) (ix y5_32)).trans (mset_ne (by omega))); omega)
theorem o3_X9_isNights (M : Mem) (v0 : Int32) : Wp (f_X9_isNights v0) (fun q => (q = 0 ∨ q = 1) ∧ (¬ q.toInt = 0 ↔ 1 ≤ v0.toInt ∧ v0.toInt ≤ 60)) := by
  refine wp_ite (fun c2 => ?_) (fun c2 => ?_)
  · exact wp_some ⟨b01_0, ⟨fun z => absurd nI0 z, fun z => absurd z (by omega)⟩⟩
  · refine wp_ite (fun c8 => ?_) (fun c8 => ?_)
    · exact wp_some ⟨b01_0, ⟨fun z => absurd nI0 z, fun z => absurd z (by omega)⟩⟩
    · exact wp_some ⟨b01_1, ⟨fun _ => by omega, fun _ => by decide⟩⟩
theorem o3_X9_nights (M : Mem) (v1 : Int32) (hL10 : (M 0 10).toInt = 44 ∨ (M 0 10).toInt = 52) : Wp (f_X9_nights M v1) (fun q => (∀ a i, ¬ ((a = 1 ∧ i = 5) ∨ (a = 1 ∧ i = 6) ∨ a = 2 ∨ a = 3 ∨ a = 6 ∨ (a = 21 ∧ i = 1) ∨ (a = 21 ∧ i = 2) ∨ a = 22 ∨ a = 47 ∨ a = 55) → q.2 a i = M a i) ∧ ((q.2 1 5).toInt = (if 1 ≤ v1.toInt ∧ v1.toInt ≤ 60 then max (M 1 5).toInt (min ((M 1 5).toInt + v1.toInt) 9999) else (M 1 5).toInt))) := by
  refine wp_bind2 (o3_X9_isNights M v1) (fun r_1 he1 hq1 => ?_)
  obtain ⟨hz_r_1, hr_1⟩ := hq1
  replace hr_1 : ¬ r_1.toInt = 0 ↔ 1 ≤ v1.toInt ∧ v1.toInt ≤ 60 := hr_1
  refine wp_ite (fun c4 => ?_) (fun c4 => ?_)
  · exact wp_some ⟨(fun _ _ _ => rfl), (by show (M 1 5).toInt = (if 1 ≤ v1.toInt ∧ v1.toInt ≤ 60 then max (M 1 5).toInt (min ((M 1 5).toInt + v1.toInt) 9999) else (M 1 5).toInt); rw [if_neg (by omega)])⟩
  · refine wp_rl hL10 (fun c_2 hc_2 ecc_2 => ?_)
    have hc_20 : c_2 = 44 ∨ c_2 = 52 := hc_2
    refine wp_bind2 (o3_X5_pass (Or.inl rfl) hc_2 M v1) (fun M_3 he22 hq22 => ?_)
    obtain ⟨hg_M_3, hN_22⟩ := hq22
    replace hN_22 : (M_3 1 5).toInt = max (M 1 5).toInt (min ((M 1 5).toInt + max v1.toInt 0) 9999) := hN_22
    replace hg_M_3 : ∀ a i, ¬ ((a = 1 ∧ i = 5) ∨ (a = 1 ∧ i = 6) ∨ a = 2 ∨ a = 3 ∨ a = 6 ∨ (a = 21 ∧ i = 1) ∨ (a = 21 ∧ i = 2) ∨ a = 22 ∨ a = 47 ∨ a = 55) → M_3 a i = M a i := by rcases hc_20 with e9 | e9 <;> subst e9 <;> exact fun a i q0 => hg_M_3 a i (by omega)
    exact wp_some ⟨(fun a i q0 => ((hg_M_3 a i (fun z8 => q0 ((fun z9 => Or.elim z9 (fun h9 => Or.inl h9) (fun z9 => Or.elim z9 (fun h9 => Or.inr (Or.inl h9)) (fun z9 => Or.elim z9 (fun h9 => Or.inr (Or.inr (Or.inl h9))) (fun z9 => Or.elim z9 (fun h9 => Or.inr (Or.inr (Or.inr (Or.inl h9)))) (fun z9 => Or.elim z9 (fun h9 => Or.inr (Or.inr (Or.inr (Or.inr (Or.inl h9))))) (fun z9 => Or.elim z9 (fun h9 => Or.inr (Or.inr (Or.inr (Or.inr (Or.inr (Or.inl h9)))))) (fun z9 => Or.elim z9 (fun h9 => Or.inr (Or.inr (Or.inr (Or.inr (Or.inr (Or.inr (Or.inl h9))))))) (fun z9 => Or.elim z9 (fun h9 => Or.inr (Or.inr (Or.inr (Or.inr (Or.inr (Or.inr (Or.inr (Or.inl h9)))))))) (fun z9 => Or.elim z9 (fun h9 => Or.inr (Or.inr (Or.inr (Or.inr (Or.inr (Or.inr (Or.inr (Or.inr (Or.inl h9))))))))) (fun h9 => Or.inr (Or.inr (Or.inr (Or.inr (Or.inr (Or.inr (Or.inr (Or.inr (Or.inr (h9))))))))))))))))))) z8))).trans rfl)), (by show (M_3 1 5).toInt = (if 1 ≤ v1.toInt ∧ v1.toInt ≤ 60 then max (M 1 5).toInt (min ((M 1 5).toInt + v1.toInt) 9999) else (M 1 5).toInt); rw [if_pos (by omega)]; omega)⟩
set_option maxHeartbeats 4000000 in
theorem o3_X10_moves (M : Mem) (v1 : Int32) (hv1 : 0 ≤ v1.toInt ∧ v1.toInt < 40) (hst : ST (M 1)) (hG : Gl M) : Wp (f_X10_moves M v1) (fun q => (∀ a i, ¬ ((a = 0 ∧ i = 34) ∨ (a = 0 ∧ i = 35) ∨ a = 1 ∨ a = 17 ∨ a = 18) → q a i = M a i) ∧ (ST (q 1)) ∧ (q 1 200 = M 1 200)) := by
  refine wp_bnd (fun M_1 eM_1 => ?_)
  have hG1 : Gl M_1 := (gl_ext hG (by rw [eM_1, mset_ne (by omega)]) (fun i => by rw [eM_1, mset_ne (by omega)]) (fun i => by rw [eM_1, mset_ne (by omega)]) (fun i => by rw [eM_1, mset_ne (by omega)]) (fun i => by rw [eM_1, mset_ne (by omega)]))
  refine wp_bnd (fun x_2 ex_2 => ?_)
  refine wp_bind2 (o_X10_feels M_1 v1 x_2 hv1) (fun M_3 he43 hq43 => ?_)
  have hg_M_3 := hq43
  replace hg_M_3 : ∀ a i, ¬ (a = 18) → M_3 a i = M_1 a i := hg_M_3
  have hG3 : Gl M_3 := (gl_ext hG1 (hg_M_3 0 15 (by omega)) (fun i => hg_M_3 12 i (by omega)) (fun i => hg_M_3 14 i (by omega)) (fun i => hg_M_3 15 i (by omega)) (fun i => hg_M_3 16 i (by omega)))
  refine wp_gd (by have f0 := t_lit 40; have f1 := t_add (nI 40) v1; omega) ?_
  refine wp_cb2 (o_X10_byLaw M_3 (nI 117) (nI 9) hG3) (fun r_4 M_5 he60 hq60 => ?_)
  have hg_M_5 := hq60
  replace hg_M_5 : ∀ a i, ¬ (a = 17) → M_5 a i = M_3 a i := hg_M_5
  have hG5 : Gl M_5 := (gl_ext hG3 (hg_M_5 0 15 (by omega)) (fun i => hg_M_5 12 i (by omega)) (fun i => hg_M_5 14 i (by omega)) (fun i => hg_M_5 15 i (by omega)) (fun i => hg_M_5 16 i (by omega)))
  refine wp_cb2 (o_X10_byLaw M_5 (nI 100) (nI 9) hG5) (fun r_6 M_7 he69 hq69 => ?_)
  have hg_M_7 := hq69
  replace hg_M_7 : ∀ a i, ¬ (a = 17) → M_7 a i = M_5 a i := hg_M_7
  have hG7 : Gl M_7 := (gl_ext hG5 (hg_M_7 0 15 (by omega)) (fun i => hg_M_7 12 i (by omega)) (fun i => hg_M_7 14 i (by omega)) (fun i => hg_M_7 15 i (by omega)) (fun i => hg_M_7 16 i (by omega)))
  refine wp_bind2 (o_X10_bounded M_7 (((M_3 1 (ix ((nI 40) + v1))) + r_4) - r_6) (nI 0) (nI 39)) (fun r_8 he76 hq76 => ?_)
  have hr_76 := hq76
  replace hr_76 : r_8.toInt = max (nI 0).toInt (min (nI 39).toInt (((M_3 1 (ix ((nI 40) + v1))) + r_4) - r_6).toInt) := hr_76
  have := t_lit 0
  have := t_lit 39
  refine wp_gd (by have f0 := t_lit 80; have f1 := t_add (nI 80) v1; omega) ?_
  refine wp_cb2 (o_X10_byLaw M_7 (nI 111) (nI 9) hG7) (fun r_9 M_10 he94 hq94 => ?_)
  have hg_M_10 := hq94
  replace hg_M_10 : ∀ a i, ¬ (a = 17) → M_10 a i = M_7 a i := hg_M_10
  have hG10 : Gl M_10 := (gl_ext hG7 (hg_M_10 0 15 (by omega)) (fun i => hg_M_10 12 i (by omega)) (fun i => hg_M_10 14 i (by omega)) (fun i => hg_M_10 15 i (by omega)) (fun i => hg_M_10 16 i (by omega)))
  refine wp_cb2 (o_X10_byLaw M_10 (nI 98) (nI 9) hG10) (fun r_11 M_12 he103 hq103 => ?_)
  have hg_M_12 := hq103
  replace hg_M_12 : ∀ a i, ¬ (a = 17) → M_12 a i = M_10 a i := hg_M_12
  have hG12 : Gl M_12 := (gl_ext hG10 (hg_M_12 0 15 (by omega)) (fun i => hg_M_12 12 i (by omega)) (fun i => hg_M_12 14 i (by omega)) (fun i => hg_M_12 15 i (by omega)) (fun i => hg_M_12 16 i (by omega)))
  have e12 : ∀ j, M_12 1 j = M_1 1 j := fun j => by rw [hg_M_12 1 j (by omega), hg_M_10 1 j (by omega), hg_M_7 1 j (by omega), hg_M_5 1 j (by omega), hg_M_3 1 j (by omega)]
  have fv := t_ixn v1 hv1.1
  have x40 := ix_add (x := v1) (n := 40) (by omega) (by omega)
  have x80 := ix_add (x := v1) (n := 80) (by omega) (by omega)
  have x160 := ix_add (x := v1) (n := 160) (by omega) (by omega)
  refine wp_bind2 (o_X10_bounded M_12 (((M_7 1 (ix ((nI 80) + v1))) + r_9) - r_11) (nI 1) (nI 20)) (fun r_13 he110 hq110 => ?_)
  have hr_110 := hq110
  replace hr_110 : r_13.toInt = max (nI 1).toInt (min (nI 20).toInt (((M_7 1 (ix ((nI 80) + v1))) + r_9) - r_11).toInt) := hr_110
  have := t_lit 1
  have := t_lit 20
  refine wp_bind2 (o_X10_stoneAt M_12 r_8 r_13) (fun r_14 he119 hq119 => ?_)
  have hr_119 := hq119
  replace hr_119 : r_14.toInt = -1 ∨ ((0 ≤ r_14.toInt ∧ r_14.toInt < 40) ∧ (M_12 1 (ix r_14)).toInt = 1 ∧ (M_12 1 (ix (nI 40 + r_14))).toInt = r_8.toInt ∧ (M_12 1 (ix (nI 80 + r_14))).toInt = r_13.toInt) := hr_119
  have j180 : ∀ (N180 : Mem), (∀ a i, ¬ ((a = 0 ∧ i = 34) ∨ (a = 0 ∧ i = 35) ∨ a = 1) → N180 a i = M_12 a i) → ((∀ j : Nat, ¬ j = 40 + ix v1 → ¬ j = 80 + ix v1 → N180 1 j = M_12 1 j) ∧ (N180 1 (80 + ix v1) = M_12 1 (80 + ix v1) ∨ (1 ≤ (N180 1 (80 + ix v1)).toInt ∧ (N180 1 (80 + ix v1)).toInt ≤ 20))) → Wp (f_X10_moves_L180 v1 x_2 N180) (fun q => (∀ a i, ¬ ((a = 0 ∧ i = 34) ∨ (a = 0 ∧ i = 35) ∨ a = 1 ∨ a = 17 ∨ a = 18) → q a i = M a i) ∧ (ST (q 1)) ∧ (q 1 200 = M 1 200)) := by
    intro N180 hf_N180 h180
    unfold f_X10_moves_L180
    have hG180 : Gl N180 := (gl_ext hG12 (hf_N180 0 15 (by omega)) (fun i => hf_N180 12 i (by omega)) (fun i => hf_N180 14 i (by omega)) (fun i => hf_N180 15 i (by omega)) (fun i => hf_N180 16 i (by omega)))
    refine wp_bind2 (o_X10_feels N180 v1 x_2 hv1) (fun M_15 he183 hq183 => ?_)
    have hg_M_15 := hq183
    replace hg_M_15 : ∀ a i, ¬ (a = 18) → M_15 a i = N180 a i := hg_M_15
    have hG15 : Gl M_15 := (gl_ext hG180 (hg_M_15 0 15 (by omega)) (fun i => hg_M_15 12 i (by omega)) (fun i => hg_M_15 14 i (by omega)) (fun i => hg_M_15 15 i (by omega)) (fun i => hg_M_15 16 i (by omega)))
    refine wp_cb2 (o_X10_holdsAny M_15 (nI 120) hG15) (fun r_16 M_17 he198 hq198 => ?_)
    obtain ⟨hz_r_16, hg_M_17⟩ := hq198
    replace hg_M_17 : ∀ a i, ¬ (a = 17) → M_17 a i = M_15 a i := hg_M_17
    have j209 : ∀ (t0_209 : Int32), (t0_209 = 0 ∨ t0_209 = 1) → Wp (f_X10_moves_L209 v1 M_17 t0_209) (fun q => (∀ a i, ¬ ((a = 0 ∧ i = 34) ∨ (a = 0 ∧ i = 35) ∨ a = 1 ∨ a = 17 ∨ a = 18) → q a i = M a i) ∧ (ST (q 1)) ∧ (q 1 200 = M 1 200)) := by
      intro t0_209 hb_t0_209
      unfold f_X10_moves_L209
      refine wp_gd (by have f0 := t_lit 160; have f1 := t_add (nI 160) v1; omega) ?_
      refine wp_bnd (fun M_18 eM_18 => ?_)
      exact wp_some ⟨(fun a i q0 => ((congrFun (congrFun eM_18 a) i).trans ((mset_ne (fun h9 => q0 (Or.inr (Or.inr (Or.inl (h9).1))))).trans ((hg_M_17 a i (fun h9 => q0 (Or.inr (Or.inr (Or.inr (Or.inl h9)))))).trans ((hg_M_15 a i (fun h9 => q0 (Or.inr (Or.inr (Or.inr (Or.inr (h9))))))).trans ((hf_N180 a i (fun z8 => q0 ((fun z9 => Or.elim z9 (fun h9 => Or.inl h9) (fun z9 => Or.elim z9 (fun h9 => Or.inr (Or.inl h9)) (fun h9 => Or.inr (Or.inr (Or.inl h9))))) z8))).trans ((hg_M_12 a i (fun h9 => q0 (Or.inr (Or.inr (Or.inr (Or.inl h9)))))).trans ((hg_M_10 a i (fun h9 => q0 (Or.inr (Or.inr (Or.inr (Or.inl h9)))))).trans ((hg_M_7 a i (fun h9 => q0 (Or.inr (Or.inr (Or.inr (Or.inl h9)))))).trans ((hg_M_5 a i (fun h9 => q0 (Or.inr (Or.inr (Or.inr (Or.inl h9)))))).trans ((hg_M_3 a i (fun h9 => q0 (Or.inr (Or.inr (Or.inr (Or.inr (h9))))))).trans ((congrFun (congrFun eM_1 a) i).trans ((mset_ne (fun h9 => q0 (Or.inr (Or.inr (Or.inl (h9).1))))).trans rfl))))))))))))), (st_mv (i := ix v1) hst (by omega) (fun j z1 z2 z3 z4 => by rw [eM_18, mset_ne (by omega), hg_M_17 1 j (by omega), hg_M_15 1 j (by omega), h180.1 j z1 z2, e12 j, eM_1, mset_ne (by omega)]) (by rw [eM_18, mset_ne (by omega), hg_M_17 1 _ (by omega), hg_M_15 1 _ (by omega)]; exact h180.2.elim (fun z => Or.inl (by rw [z, e12, eM_1, mset_ne (by omega)])) Or.inr)), (by rw [eM_18, mset_ne (by omega), hg_M_17 1 _ (by omega), hg_M_15 1 _ (by omega), h180.1 200 (by omega) (by omega), e12, eM_1, mset_ne (by omega)])⟩
    refine wp_ite (fun c201 => ?_) (fun c201 => ?_)
    · exact j209 (nI 0) b01_0
    · exact j209 (nI 1) b01_1
  refine wp_ite (fun c127 => ?_) (fun c127 => ?_)
  · refine wp_gd (by have f0 := t_lit 40; have f1 := t_add (nI 40) v1; omega) ?_
    refine wp_bnd (fun M_20 eM_20 => ?_)
    refine wp_gd (by have f0 := t_lit 80; have f1 := t_add (nI 80) v1; omega) ?_
    refine wp_bnd (fun M_21 eM_21 => ?_)
    refine wp_bnd (fun M_22 eM_22 => ?_)
    exact j180 M_22 (fun a i q0 => ((congrFun (congrFun eM_22 a) i).trans ((mset_ne (fun h9 => q0 (Or.inl h9))).trans ((congrFun (congrFun eM_21 a) i).trans ((mset_ne (fun h9 => q0 (Or.inr (Or.inr ((h9).1))))).trans ((congrFun (congrFun eM_20 a) i).trans ((mset_ne (fun h9 => q0 (Or.inr (Or.inr ((h9).1))))).trans rfl))))))) ⟨fun j z1 z2 => by rw [eM_22, mset_ne (by omega), eM_21, mset_ne (by omega), eM_20, mset_ne (by omega)], Or.inr (by rw [eM_22, mset_ne (by omega), eM_21, ← x80, mset_eq]; omega)⟩
  · refine wp_ite (fun c167 => ?_) (fun c167 => ?_)
    · exact j180 M_12 (fun _ _ _ => rfl) ⟨fun _ _ _ => rfl, Or.inl rfl⟩
    · refine wp_bnd (fun M_19 eM_19 => ?_)
      exact j180 M_19 (fun a i q0 => ((congrFun (congrFun eM_19 a) i).trans ((mset_ne (fun h9 => q0 (Or.inr (Or.inl h9)))).trans rfl))) ⟨fun j _ _ => by rw [eM_19, mset_ne (by omega)], Or.inl (by rw [eM_19, mset_ne (by omega)])⟩
theorem o3_X10_nightGoes (M : Mem) (hst : ST (M 1)) (hG : Gl M) : Wp (f_X10_nightGoes M) (fun q => (∀ a i, ¬ ((a = 0 ∧ i = 34) ∨ (a = 0 ∧ i = 35) ∨ a = 1 ∨ a = 17 ∨ a = 18) → q a i = M a i) ∧ (ST (q 1)) ∧ (q 1 200 = M 1 200 + nI 1)) := by
  refine wp_lp2 (fun M2 y1_2 => (0 ≤ y1_2.toInt) ∧ (∀ a i, ¬ ((a = 0 ∧ i = 34) ∨ (a = 0 ∧ i = 35) ∨ a = 1 ∨ a = 17 ∨ a = 18) → M2 a i = M a i) ∧ (ST (M2 1)) ∧ (M2 1 200 = M 1 200)) (fun M2 y1_2 => (40 - y1_2.toInt).toNat) (fun ag2 M2 y1_2 hI2 ih2 => ?_) FU M (nI 0) ⟨(by have f0 := t_lit 0; omega), (fun _ _ _ => rfl), hst, rfl⟩ (fu_lt (by have f0 := t_lit 0; omega))
  obtain ⟨hi2, hf_M2, hst2, hN2⟩ := hI2
  have hG2 : Gl M2 := (gl_ext hG (hf_M2 0 15 (by omega)) (fun i => hf_M2 12 i (by omega)) (fun i => hf_M2 14 i (by omega)) (fun i => hf_M2 15 i (by omega)) (fun i => hf_M2 16 i (by omega)))
  have j27 : Wp (f_X10_nightGoes_L27 M2) (fun q => (∀ a i, ¬ ((a = 0 ∧ i = 34) ∨ (a = 0 ∧ i = 35) ∨ a = 1 ∨ a = 17 ∨ a = 18) → q a i = M a i) ∧ (ST (q 1)) ∧ (q 1 200 = M 1 200 + nI 1)) := by
    unfold f_X10_nightGoes_L27
    refine wp_bnd (fun M_1 eM_1 => ?_)
    exact wp_some ⟨(fun a i q0 => ((congrFun (congrFun eM_1 a) i).trans ((mset_ne (fun h9 => q0 (Or.inr (Or.inr (Or.inl (h9).1))))).trans ((hf_M2 a i (fun z8 => q0 ((fun z9 => Or.elim z9 (fun h9 => Or.inl h9) (fun z9 => Or.elim z9 (fun h9 => Or.inr (Or.inl h9)) (fun z9 => Or.elim z9 (fun h9 => Or.inr (Or.inr (Or.inl h9))) (fun z9 => Or.elim z9 (fun h9 => Or.inr (Or.inr (Or.inr (Or.inl h9)))) (fun h9 => Or.inr (Or.inr (Or.inr (Or.inr (h9))))))))) z8))).trans rfl)))), (st_hi (i := 40) hst2 (fun j hj => by rw [eM_1, mset_ne (by omega)])), (by rw [eM_1, mset_eq, hN2])⟩
  refine wp_ite (fun c5 => ?_) (fun c5 => ?_)
  · exact j27
  · refine wp_bind2 (o_X10_isStone M2 y1_2) (fun r_2 he10 hq10 => ?_)
    obtain ⟨hz_r_2, hr_10⟩ := hq10
    replace hr_10 : ¬ r_2.toInt = 0 → (0 ≤ y1_2.toInt ∧ y1_2.toInt < 40) ∧ (M2 1 (ix y1_2)).toInt = 1 := hr_10
    refine wp_ite (fun c13 => ?_) (fun c13 => ?_)
    · exact ih2 M2 (y1_2 + (nI 1)) ⟨(by have f0 := t_lit 1; have f1 := t_add y1_2 (nI 1); omega), (fun a i q0 => ((hf_M2 a i (fun z8 => q0 ((fun z9 => Or.elim z9 (fun h9 => Or.inl h9) (fun z9 => Or.elim z9 (fun h9 => Or.inr (Or.inl h9)) (fun z9 => Or.elim z9 (fun h9 => Or.inr (Or.inr (Or.inl h9))) (fun z9 => Or.elim z9 (fun h9 => Or.inr (Or.inr (Or.inr (Or.inl h9)))) (fun h9 => Or.inr (Or.inr (Or.inr (Or.inr (h9))))))))) z8))).trans rfl)), hst2, hN2⟩ (by have f0 := t_lit 1; have f1 := t_add y1_2 (nI 1); omega)
    · refine wp_bind2 (o3_X10_moves M2 y1_2 (by omega) hst2 hG2) (fun M_3 he18 hq18 => ?_)
      obtain ⟨hg_M_3, hst_18, hN_18⟩ := hq18
      replace hst_18 : ST (M_3 1) := hst_18
      replace hN_18 : M_3 1 200 = M2 1 200 := hN_18
      replace hg_M_3 : ∀ a i, ¬ ((a = 0 ∧ i = 34) ∨ (a = 0 ∧ i = 35) ∨ a = 1 ∨ a = 17 ∨ a = 18) → M_3 a i = M2 a i := hg_M_3
      exact ih2 M_3 (y1_2 + (nI 1)) ⟨(by have f0 := t_lit 1; have f1 := t_add y1_2 (nI 1); omega), (fun a i q0 => ((hg_M_3 a i (fun z8 => q0 ((fun z9 => Or.elim z9 (fun h9 => Or.inl h9) (fun z9 => Or.elim z9 (fun h9 => Or.inr (Or.inl h9)) (fun z9 => Or.elim z9 (fun h9 => Or.inr (Or.inr (Or.inl h9))) (fun z9 => Or.elim z9 (fun h9 => Or.inr (Or.inr (Or.inr (Or.inl h9)))) (fun h9 => Or.inr (Or.inr (Or.inr (Or.inr (h9))))))))) z8))).trans ((hf_M2 a i (fun z8 => q0 ((fun z9 => Or.elim z9 (fun h9 => Or.inl h9) (fun z9 => Or.elim z9 (fun h9 => Or.inr (Or.inl h9)) (fun z9 => Or.elim z9 (fun h9 => Or.inr (Or.inr (Or.inl h9))) (fun z9 => Or.elim z9 (fun h9 => Or.inr (Or.inr (Or.inr (Or.inl h9)))) (fun h9 => Or.inr (Or.inr (Or.inr (Or.inr (h9))))))))) z8))).trans rfl))), hst_18, (hN_18.trans hN2)⟩ (by have f0 := t_lit 1; have f1 := t_add y1_2 (nI 1); omega)
theorem o3_X10_nightsGo (M : Mem) (v1 : Int32) (hst : ST (M 1)) (hG : Gl M) : Wp (f_X10_nightsGo M v1) (fun q => (∀ a i, ¬ ((a = 0 ∧ i = 34) ∨ (a = 0 ∧ i = 35) ∨ a = 1 ∨ a = 17 ∨ a = 18) → q a i = M a i) ∧ (ST (q 1)) ∧ ((q 1 200).toInt = max (M 1 200).toInt (min ((M 1 200).toInt + max v1.toInt 0) 9999))) := by
  refine wp_bnd (fun M_1 eM_1 => ?_)
  refine wp_bnd (fun M_2 eM_2 => ?_)
  have hG1 : Gl M_1 := (gl_ext hG (by rw [eM_1, mset_ne (by omega)]) (fun i => by rw [eM_1, mset_ne (by omega)]) (fun i => by rw [eM_1, mset_ne (by omega)]) (fun i => by rw [eM_1, mset_ne (by omega)]) (fun i => by rw [eM_1, mset_ne (by omega)]))
  have hG2 : Gl M_2 := (gl_ext hG1 (by rw [eM_2, mset_ne (by omega)]) (fun i => by rw [eM_2, mset_ne (by omega)]) (fun i => by rw [eM_2, mset_ne (by omega)]) (fun i => by rw [eM_2, mset_ne (by omega)]) (fun i => by rw [eM_2, mset_ne (by omega)]))
  have ft1 := t_rng v1
  refine wp_lp2 (fun M12 y2_12 => (0 ≤ y2_12.toInt) ∧ (∀ a i, ¬ ((a = 0 ∧ i = 34) ∨ (a = 0 ∧ i = 35) ∨ a = 1 ∨ a = 17 ∨ a = 18) → M12 a i = M_2 a i) ∧ (ST (M12 1)) ∧ ((M12 1 200).toInt = max (M 1 200).toInt (min ((M 1 200).toInt + y2_12.toInt) 9999) ∧ y2_12.toInt ≤ max v1.toInt 0)) (fun M12 y2_12 => (v1.toInt - y2_12.toInt).toNat) (fun ag12 M12 y2_12 hI12 ih12 => ?_) FU M_2 (nI 0) ⟨(by have f0 := t_lit 0; omega), (fun _ _ _ => rfl), (by rw [eM_2, mset_n (by omega), eM_1, mset_n (by omega)]; exact hst), (by have f1 : M_2 1 200 = M 1 200 := (by rw [eM_2, mset_ne (by omega), eM_1, mset_ne (by omega)]); rw [f1]; have := t_lit 0; omega)⟩ (fu_lt (by have f0 := t_lit 0; omega))
  obtain ⟨hi12, hf_M12, hst12, h12⟩ := hI12
  have hG12 : Gl M12 := (gl_ext hG2 (hf_M12 0 15 (by omega)) (fun i => hf_M12 12 i (by omega)) (fun i => hf_M12 14 i (by omega)) (fun i => hf_M12 15 i (by omega)) (fun i => hf_M12 16 i (by omega)))
  refine wp_ite (fun c14 => ?_) (fun c14 => ?_)
  · exact wp_some ⟨(fun a i q0 => ((hf_M12 a i (fun z8 => q0 ((fun z9 => Or.elim z9 (fun h9 => Or.inl h9) (fun z9 => Or.elim z9 (fun h9 => Or.inr (Or.inl h9)) (fun z9 => Or.elim z9 (fun h9 => Or.inr (Or.inr (Or.inl h9))) (fun z9 => Or.elim z9 (fun h9 => Or.inr (Or.inr (Or.inr (Or.inl h9)))) (fun h9 => Or.inr (Or.inr (Or.inr (Or.inr (h9))))))))) z8))).trans ((congrFun (congrFun eM_2 a) i).trans ((mset_ne (fun h9 => q0 (Or.inr (Or.inl h9)))).trans ((congrFun (congrFun eM_1 a) i).trans ((mset_ne (fun h9 => q0 (Or.inl h9))).trans rfl)))))), hst12, (by omega)⟩
  · refine wp_ite (fun c28 => ?_) (fun c28 => ?_)
    · exact wp_some ⟨(fun a i q0 => ((hf_M12 a i (fun z8 => q0 ((fun z9 => Or.elim z9 (fun h9 => Or.inl h9) (fun z9 => Or.elim z9 (fun h9 => Or.inr (Or.inl h9)) (fun z9 => Or.elim z9 (fun h9 => Or.inr (Or.inr (Or.inl h9))) (fun z9 => Or.elim z9 (fun h9 => Or.inr (Or.inr (Or.inr (Or.inl h9)))) (fun h9 => Or.inr (Or.inr (Or.inr (Or.inr (h9))))))))) z8))).trans ((congrFun (congrFun eM_2 a) i).trans ((mset_ne (fun h9 => q0 (Or.inr (Or.inl h9)))).trans ((congrFun (congrFun eM_1 a) i).trans ((mset_ne (fun h9 => q0 (Or.inl h9))).trans rfl)))))), hst12, (by omega)⟩
    · refine wp_bind2 (o3_X10_nightGoes M12 hst12 hG12) (fun M_3 he32 hq32 => ?_)
      obtain ⟨hg_M_3, hst_32, hN_32⟩ := hq32
      replace hst_32 : ST (M_3 1) := hst_32
      replace hN_32 : M_3 1 200 = M12 1 200 + nI 1 := hN_32
      replace hg_M_3 : ∀ a i, ¬ ((a = 0 ∧ i = 34) ∨ (a = 0 ∧ i = 35) ∨ a = 1 ∨ a = 17 ∨ a = 18) → M_3 a i = M12 a i := hg_M_3
      exact ih12 M_3 (y2_12 + (nI 1)) ⟨(by have f0 := t_lit 1; have f1 := t_add y2_12 (nI 1); omega), (fun a i q0 => ((hg_M_3 a i (fun z8 => q0 ((fun z9 => Or.elim z9 (fun h9 => Or.inl h9) (fun z9 => Or.elim z9 (fun h9 => Or.inr (Or.inl h9)) (fun z9 => Or.elim z9 (fun h9 => Or.inr (Or.inr (Or.inl h9))) (fun z9 => Or.elim z9 (fun h9 => Or.inr (Or.inr (Or.inr (Or.inl h9)))) (fun h9 => Or.inr (Or.inr (Or.inr (Or.inr (h9))))))))) z8))).trans ((hf_M12 a i (fun z8 => q0 ((fun z9 => Or.elim z9 (fun h9 => Or.inl h9) (fun z9 => Or.elim z9 (fun h9 => Or.inr (Or.inl h9)) (fun z9 => Or.elim z9 (fun h9 => Or.inr (Or.inr (Or.inl h9))) (fun z9 => Or.elim z9 (fun h9 => Or.inr (Or.inr (Or.inr (Or.inl h9)))) (fun h9 => Or.inr (Or.inr (Or.inr (Or.inr (h9))))))))) z8))).trans rfl))), hst_32, (by have f2 : (M_3 1 200).toInt = (M12 1 200).toInt + 1 := (by rw [hN_32]; exact t_inc _ 1 (by omega)); rw [f2, t_inc y2_12 1 (by omega)]; omega)⟩ (by have f0 := t_lit 1; have f1 := t_add y2_12 (nI 1); omega)
theorem o3_X10_nights (M : Mem) (v1 : Int32) (hst : ST (M 1)) (hG : Gl M) : Wp (f_X10_nights M v1) (fun q => (∀ a i, ¬ ((a = 0 ∧ i = 34) ∨ (a = 0 ∧ i = 35) ∨ a = 1 ∨ a = 17 ∨ a = 18) → q.2 a i = M a i) ∧ (ST (q.2 1)) ∧ ((q.2 1 200).toInt = (if 1 ≤ v1.toInt ∧ v1.toInt ≤ 60 then max (M 1 200).toInt (min ((M 1 200).toInt + v1.toInt) 9999) else (M 1 200).toInt))) := by
  refine wp_bind2 (o2_X10_in M v1 (nI 1) (nI 60)) (fun r_1 he4 hq4 => ?_)
  obtain ⟨hz_r_1, hr_4, hi_4⟩ := hq4
  replace hr_4 : ¬ r_1.toInt = 0 → (nI 1).toInt ≤ v1.toInt ∧ v1.toInt ≤ (nI 60).toInt := hr_4
  have := t_lit 1
  have := t_lit 60
  replace hi_4 : ¬ r_1.toInt = 0 ↔ (nI 1).toInt ≤ v1.toInt ∧ v1.toInt ≤ (nI 60).toInt := hi_4
  have := t_lit 1
  have := t_lit 60
  refine wp_ite (fun c7 => ?_) (fun c7 => ?_)
  · exact wp_some ⟨(fun _ _ _ => rfl), hst, (by show (M 1 200).toInt = (if 1 ≤ v1.toInt ∧ v1.toInt ≤ 60 then max (M 1 200).toInt (min ((M 1 200).toInt + v1.toInt) 9999) else (M 1 200).toInt); rw [if_neg (by omega)])⟩
  · refine wp_bind2 (o3_X10_nightsGo M v1 hst hG) (fun M_2 he14 hq14 => ?_)
    obtain ⟨hg_M_2, hst_14, hN_14⟩ := hq14
    replace hst_14 : ST (M_2 1) := hst_14
    replace hN_14 : (M_2 1 200).toInt = max (M 1 200).toInt (min ((M 1 200).toInt + max v1.toInt 0) 9999) := hN_14
    replace hg_M_2 : ∀ a i, ¬ ((a = 0 ∧ i = 34) ∨ (a = 0 ∧ i = 35) ∨ a = 1 ∨ a = 17 ∨ a = 18) → M_2 a i = M a i := hg_M_2
    exact wp_some ⟨(fun a i q0 => ((hg_M_2 a i (fun z8 => q0 ((fun z9 => Or.elim z9 (fun h9 => Or.inl h9) (fun z9 => Or.elim z9 (fun h9 => Or.inr (Or.inl h9)) (fun z9 => Or.elim z9 (fun h9 => Or.inr (Or.inr (Or.inl h9))) (fun z9 => Or.elim z9 (fun h9 => Or.inr (Or.inr (Or.inr (Or.inl h9)))) (fun h9 => Or.inr (Or.inr (Or.inr (Or.inr (h9))))))))) z8))).trans rfl)), hst_14, (by show (M_2 1 200).toInt = (if 1 ≤ v1.toInt ∧ v1.toInt ≤ 60 then max (M 1 200).toInt (min ((M 1 200).toInt + v1.toInt) 9999) else (M 1 200).toInt); rw [if_pos (by omega)]; omega)⟩
set_option maxHeartbeats 4000000 in
theorem o3_X10_tried (M : Mem) (v1 : Int32) (v2 : Int32) (hst : ST (M 1)) (hG : Gl M) : Wp (f_X10_tried M v1 v2) (fun q => (∀ a i, ¬ ((a = 0 ∧ i = 34) ∨ (a = 0 ∧ i = 35) ∨ a = 1 ∨ a = 2 ∨ a = 17 ∨ a = 18) → q.2 a i = M a i) ∧ (ST (q.2 1)) ∧ (q.2 1 200 = M 1 200)) := by
  refine wp_bind2 (o2_X10_in M v1 (nI 1) (nI 60)) (fun r_1 he4 hq4 => ?_)
  obtain ⟨hz_r_1, hr_4, hi_4⟩ := hq4
  replace hr_4 : ¬ r_1.toInt = 0 → (nI 1).toInt ≤ v1.toInt ∧ v1.toInt ≤ (nI 60).toInt := hr_4
  have := t_lit 1
  have := t_lit 60
  replace hi_4 : ¬ r_1.toInt = 0 ↔ (nI 1).toInt ≤ v1.toInt ∧ v1.toInt ≤ (nI 60).toInt := hi_4
  have := t_lit 1
  have := t_lit 60
  refine wp_ite (fun c7 => ?_) (fun c7 => ?_)
  · exact wp_some ⟨(fun _ _ _ => rfl), hst, rfl⟩
  · refine wp_bind2 (o2_X10_in M v2 (nI 0) (nI 3)) (fun r_2 he13 hq13 => ?_)
    obtain ⟨hz_r_2, hr_13, hi_13⟩ := hq13
    replace hr_13 : ¬ r_2.toInt = 0 → (nI 0).toInt ≤ v2.toInt ∧ v2.toInt ≤ (nI 3).toInt := hr_13
    have := t_lit 0
    have := t_lit 3
    replace hi_13 : ¬ r_2.toInt = 0 ↔ (nI 0).toInt ≤ v2.toInt ∧ v2.toInt ≤ (nI 3).toInt := hi_13
    have := t_lit 0
    have := t_lit 3
    have j46 : ((0 ≤ v2.toInt ∧ v2.toInt ≤ 3) ∨ (100 ≤ v2.toInt ∧ v2.toInt ≤ 139) ∨ (200 ≤ v2.toInt ∧ v2.toInt ≤ 239)) → Wp (f_X10_tried_L46 M v1 v2) (fun q => (∀ a i, ¬ ((a = 0 ∧ i = 34) ∨ (a = 0 ∧ i = 35) ∨ a = 1 ∨ a = 2 ∨ a = 17 ∨ a = 18) → q.2 a i = M a i) ∧ (ST (q.2 1)) ∧ (q.2 1 200 = M 1 200)) := by
      intro h46
      unfold f_X10_tried_L46
      refine wp_bind2 (o_X10_sumOf M (nI 40) (by have f0 := t_lit 40; omega)) (fun r_3 he49 hq49 => ?_)
      refine wp_bind2 (o_X10_copies (by decide) (by decide) M (by omega) (by omega)) (fun M_4 he61 hq61 => ?_)
      obtain ⟨hg_M_4, hc_61⟩ := hq61
      replace hc_61 : ∀ j : Nat, j < 202 → M_4 2 j = M 1 j := hc_61
      replace hg_M_4 : ∀ a i, ¬ (a = 2) → M_4 a i = M a i := by exact fun a i q0 => hg_M_4 a i (by omega)
      have hG4 : Gl M_4 := (gl_ext hG (hg_M_4 0 15 (by omega)) (fun i => hg_M_4 12 i (by omega)) (fun i => hg_M_4 14 i (by omega)) (fun i => hg_M_4 15 i (by omega)) (fun i => hg_M_4 16 i (by omega)))
      have hst4 : ST (M_4 1) := by rw [show M_4 1 = M 1 from funext (fun i => hg_M_4 1 i (by omega))]; exact hst
      refine wp_bind2 (o3_X10_nightsGo M_4 v1 hst4 hG4) (fun M_5 he66 hq66 => ?_)
      obtain ⟨hg_M_5, hst_66, hN_66⟩ := hq66
      replace hst_66 : ST (M_5 1) := hst_66
      replace hN_66 : (M_5 1 200).toInt = max (M_4 1 200).toInt (min ((M_4 1 200).toInt + max v1.toInt 0) 9999) := hN_66
      replace hg_M_5 : ∀ a i, ¬ ((a = 0 ∧ i = 34) ∨ (a = 0 ∧ i = 35) ∨ a = 1 ∨ a = 17 ∨ a = 18) → M_5 a i = M_4 a i := hg_M_5
      have j180 : ∀ (z4_180 : Int32), Wp (f_X10_tried_L180 M_5 z4_180) (fun q => (∀ a i, ¬ ((a = 0 ∧ i = 34) ∨ (a = 0 ∧ i = 35) ∨ a = 1 ∨ a = 2 ∨ a = 17 ∨ a = 18) → q.2 a i = M a i) ∧ (ST (q.2 1)) ∧ (q.2 1 200 = M 1 200)) := by
        intro z4_180
        unfold f_X10_tried_L180
        refine wp_bind2 (o_X10_copies (by decide) (by decide) M_5 (by omega) (by omega)) (fun M_6 he188 hq188 => ?_)
        obtain ⟨hg_M_6, hc_188⟩ := hq188
        replace hc_188 : ∀ j : Nat, j < 202 → M_6 1 j = M_5 2 j := hc_188
        replace hg_M_6 : ∀ a i, ¬ (a = 1) → M_6 a i = M_5 a i := by exact fun a i q0 => hg_M_6 a i (by omega)
        exact wp_some ⟨(fun a i q0 => ((hg_M_6 a i (fun h9 => q0 (Or.inr (Or.inr (Or.inl h9))))).trans ((hg_M_5 a i (fun z8 => q0 ((fun z9 => Or.elim z9 (fun h9 => Or.inl h9) (fun z9 => Or.elim z9 (fun h9 => Or.inr (Or.inl h9)) (fun z9 => Or.elim z9 (fun h9 => Or.inr (Or.inr (Or.inl h9))) (fun z9 => Or.elim z9 (fun h9 => Or.inr (Or.inr (Or.inr (Or.inr (Or.inl h9))))) (fun h9 => Or.inr (Or.inr (Or.inr (Or.inr (Or.inr (h9)))))))))) z8))).trans ((hg_M_4 a i (fun h9 => q0 (Or.inr (Or.inr (Or.inr (Or.inl h9)))))).trans rfl)))), (st_copy hst (fun j hj => by show M_6 1 j = M 1 j; rw [hc_188 j hj, hg_M_5 2 j (by omega)]; exact hc_61 j hj)), (by show M_6 1 200 = M 1 200; rw [hc_188 200 (by omega), hg_M_5 2 200 (by omega)]; exact hc_61 200 (by omega))⟩
      refine wp_ite (fun c70 => ?_) (fun c70 => ?_)
      · refine wp_bnd (fun x_7 ex_7 => ?_)
        have hv_x_7 := congrArg Int32.toInt ex_7
        exact j180 x_7
      · refine wp_ite (fun c1 => ?_) (fun c1 => ?_)
        · refine wp_bnd (fun x_8 ex_8 => ?_)
          have hv_x_8 := congrArg Int32.toInt ex_8
          exact j180 x_8
        · refine wp_ite (fun c2 => ?_) (fun c2 => ?_)
          · refine wp_bind2 (o_X10_sumOf M_5 (nI 160) (by have f0 := t_lit 160; omega)) (fun r_9 he122 hq122 => ?_)
            exact j180 r_9
          · refine wp_ite (fun c3 => ?_) (fun c3 => ?_)
            · refine wp_bind2 (o_X10_sumOf M_5 (nI 40) (by have f0 := t_lit 40; omega)) (fun r_10 he133 hq133 => ?_)
              refine wp_bnd (fun x_11 ex_11 => ?_)
              exact j180 x_11
            · have j178 : ∀ (t0_178 : Int32), Wp (f_X10_tried_L178 M_5 t0_178) (fun q => (∀ a i, ¬ ((a = 0 ∧ i = 34) ∨ (a = 0 ∧ i = 35) ∨ a = 1 ∨ a = 2 ∨ a = 17 ∨ a = 18) → q.2 a i = M a i) ∧ (ST (q.2 1)) ∧ (q.2 1 200 = M 1 200)) := by
                intro t0_178
                unfold f_X10_tried_L178
                exact j180 t0_178
              refine wp_ite (fun c147 => ?_) (fun c147 => ?_)
              · refine wp_gd (by have f0 := t_lit 80; have f1 := t_add (nI 80) v2; have f2 := t_lit 200; have f3 := t_sub ((nI 80) + v2) (nI 200); omega) ?_
                exact j178 (M_5 1 (ix (((nI 80) + v2) - (nI 200))))
              · refine wp_gd (by have f0 := t_lit 40; have f1 := t_add (nI 40) v2; have f2 := t_lit 100; have f3 := t_sub ((nI 40) + v2) (nI 100); omega) ?_
                exact j178 (M_5 1 (ix (((nI 40) + v2) - (nI 100))))
    refine wp_ite (fun c16 => ?_) (fun c16 => ?_)
    · refine wp_bind2 (o_X10_isStone M (v2 - (nI 100))) (fun r_12 he24 hq24 => ?_)
      obtain ⟨hz_r_12, hr_24⟩ := hq24
      replace hr_24 : ¬ r_12.toInt = 0 → (0 ≤ (v2 - (nI 100)).toInt ∧ (v2 - (nI 100)).toInt < 40) ∧ (M 1 (ix (v2 - (nI 100)))).toInt = 1 := hr_24
      refine wp_ite (fun c27 => ?_) (fun c27 => ?_)
      · refine wp_bind2 (o_X10_isStone M (v2 - (nI 200))) (fun r_13 he36 hq36 => ?_)
        obtain ⟨hz_r_13, hr_36⟩ := hq36
        replace hr_36 : ¬ r_13.toInt = 0 → (0 ≤ (v2 - (nI 200)).toInt ∧ (v2 - (nI 200)).toInt < 40) ∧ (M 1 (ix (v2 - (nI 200)))).toInt = 1 := hr_36
        refine wp_ite (fun c39 => ?_) (fun c39 => ?_)
        · exact wp_some ⟨(fun _ _ _ => rfl), hst, rfl⟩
        · have hs := (hr_36 c39).1
          have f1 := t_sub v2 (nI 200)
          have f2 := t_lit 200
          exact j46 (by omega)
      · have hs := (hr_24 c27).1
        have f1 := t_sub v2 (nI 100)
        have f2 := t_lit 100
        exact j46 (by omega)
    · exact j46 (by omega)
set_option maxHeartbeats 4000000 in
theorem o3_X10_firstNight (M : Mem) (v1 : Int32) (hst : ST (M 1)) (hG : Gl M) : Wp (f_X10_firstNight M v1) (fun q => (∀ a i, ¬ ((a = 0 ∧ i = 34) ∨ (a = 0 ∧ i = 35) ∨ a = 1 ∨ a = 2 ∨ a = 17 ∨ a = 18 ∨ a = 23 ∨ a = 25) → q.2 a i = M a i) ∧ (ST (q.2 1)) ∧ (q.2 1 200 = M 1 200)) := by
  refine wp_bind2 (o_X10_isPerson M v1) (fun r_1 he2 hq2 => ?_)
  obtain ⟨hz_r_1, hr_2⟩ := hq2
  replace hr_2 : ¬ r_1.toInt = 0 → 0 ≤ v1.toInt ∧ v1.toInt < 8 := hr_2
  refine wp_ite (fun c5 => ?_) (fun c5 => ?_)
  · exact wp_some ⟨(fun _ _ _ => rfl), hst, rfl⟩
  · refine wp_bind2 (o_X10_copies (by decide) (by decide) M (by omega) (by omega)) (fun M_2 he18 hq18 => ?_)
    obtain ⟨hg_M_2, hc_18⟩ := hq18
    replace hc_18 : ∀ j : Nat, j < 202 → M_2 2 j = M 1 j := hc_18
    replace hg_M_2 : ∀ a i, ¬ (a = 2) → M_2 a i = M a i := by exact fun a i q0 => hg_M_2 a i (by omega)
    have hG2 : Gl M_2 := (gl_ext hG (hg_M_2 0 15 (by omega)) (fun i => hg_M_2 12 i (by omega)) (fun i => hg_M_2 14 i (by omega)) (fun i => hg_M_2 15 i (by omega)) (fun i => hg_M_2 16 i (by omega)))
    refine wp_gd (by omega) ?_
    refine wp_cb2 (o_X10_crossing M_2 (M_2 4 (ix v1))) (fun r_3 M_4 he30 hq30 => ?_)
    obtain ⟨hg_M_4, hE_30⟩ := hq30
    replace hE_30 : (21 ≤ (M_2 4 (ix v1)).toInt → r_3.toInt = 1) ∧ ((M_2 4 (ix v1)).toInt < 21 → Bend 40 (byB M_2 (nI 1) (M_2 4 (ix v1))) (cst M_2 (M_2 4 (ix v1))) (fun j => (M_4 23 j).toInt) ∧ Best (fun i => ¬ (M_4 23 i).toInt = -1 ∧ byB M_2 (nI 0) (M_2 4 (ix v1)) i) (fun i => (M_4 23 i).toInt) r_3.toInt 40) := hE_30
    replace hg_M_4 : ∀ a i, ¬ (a = 23 ∨ a = 25) → M_4 a i = M_2 a i := hg_M_4
    have hG4 : Gl M_4 := (gl_ext hG2 (hg_M_4 0 15 (by omega)) (fun i => hg_M_4 12 i (by omega)) (fun i => hg_M_4 14 i (by omega)) (fun i => hg_M_4 15 i (by omega)) (fun i => hg_M_4 16 i (by omega)))
    have j42 : ∀ (t0_42 : Int32), (t0_42 = 0 ∨ t0_42 = 1) → Wp (f_X10_firstNight_L42 v1 M_4 t0_42) (fun q => (∀ a i, ¬ ((a = 0 ∧ i = 34) ∨ (a = 0 ∧ i = 35) ∨ a = 1 ∨ a = 2 ∨ a = 17 ∨ a = 18 ∨ a = 23 ∨ a = 25) → q.2 a i = M a i) ∧ (ST (q.2 1)) ∧ (q.2 1 200 = M 1 200)) := by
      intro t0_42 hb_t0_42
      unfold f_X10_firstNight_L42
      refine wp_lp3 (fun M43 y2_43 y3_43 => (0 ≤ y2_43.toInt) ∧ (∀ a i, ¬ ((a = 0 ∧ i = 34) ∨ (a = 0 ∧ i = 35) ∨ a = 1 ∨ a = 17 ∨ a = 18 ∨ a = 23 ∨ a = 25) → M43 a i = M_4 a i) ∧ (ST (M43 1)) ∧ (∀ j : Nat, j < 202 → M43 2 j = M 1 j)) (fun M43 y2_43 y3_43 => (60 - y2_43.toInt).toNat) (fun ag43 M43 y2_43 y3_43 hI43 ih43 => ?_) FU M_4 (nI 0) t0_42 ⟨(by have f0 := t_lit 0; omega), (fun _ _ _ => rfl), (by rw [show M_4 1 = M 1 from funext (fun i => by rw [hg_M_4 1 i (by omega), hg_M_2 1 i (by omega)])]; exact hst), (fun j hj => by rw [hg_M_4 2 j (by omega)]; exact hc_18 j hj)⟩ (fu_lt (by have f0 := t_lit 0; omega))
      obtain ⟨hi43, hf_M43, hst43, h2⟩ := hI43
      have hG43 : Gl M43 := (gl_ext hG4 (hf_M43 0 15 (by omega)) (fun i => hf_M43 12 i (by omega)) (fun i => hf_M43 14 i (by omega)) (fun i => hf_M43 15 i (by omega)) (fun i => hf_M43 16 i (by omega)))
      have j85 : Wp (f_X10_firstNight_L85 M43 y2_43 y3_43) (fun q => (∀ a i, ¬ ((a = 0 ∧ i = 34) ∨ (a = 0 ∧ i = 35) ∨ a = 1 ∨ a = 2 ∨ a = 17 ∨ a = 18 ∨ a = 23 ∨ a = 25) → q.2 a i = M a i) ∧ (ST (q.2 1)) ∧ (q.2 1 200 = M 1 200)) := by
        unfold f_X10_firstNight_L85
        refine wp_bind2 (o_X10_copies (by decide) (by decide) M43 (by omega) (by omega)) (fun M_5 he93 hq93 => ?_)
        obtain ⟨hg_M_5, hc_93⟩ := hq93
        replace hc_93 : ∀ j : Nat, j < 202 → M_5 1 j = M43 2 j := hc_93
        replace hg_M_5 : ∀ a i, ¬ (a = 1) → M_5 a i = M43 a i := by exact fun a i q0 => hg_M_5 a i (by omega)
        refine wp_ite (fun c97 => ?_) (fun c97 => ?_)
        · exact wp_some ⟨(fun a i q0 => ((hg_M_5 a i (fun h9 => q0 (Or.inr (Or.inr (Or.inl h9))))).trans ((hf_M43 a i (fun z8 => q0 ((fun z9 => Or.elim z9 (fun h9 => Or.inl h9) (fun z9 => Or.elim z9 (fun h9 => Or.inr (Or.inl h9)) (fun z9 => Or.elim z9 (fun h9 => Or.inr (Or.inr (Or.inl h9))) (fun z9 => Or.elim z9 (fun h9 => Or.inr (Or.inr (Or.inr (Or.inr (Or.inl h9))))) (fun z9 => Or.elim z9 (fun h9 => Or.inr (Or.inr (Or.inr (Or.inr (Or.inr (Or.inl h9)))))) (fun z9 => Or.elim z9 (fun h9 => Or.inr (Or.inr (Or.inr (Or.inr (Or.inr (Or.inr (Or.inl h9))))))) (fun h9 => Or.inr (Or.inr (Or.inr (Or.inr (Or.inr (Or.inr (Or.inr (h9)))))))))))))) z8))).trans ((hg_M_4 a i (fun z8 => q0 ((fun z9 => Or.elim z9 (fun h9 => Or.inr (Or.inr (Or.inr (Or.inr (Or.inr (Or.inr (Or.inl h9))))))) (fun h9 => Or.inr (Or.inr (Or.inr (Or.inr (Or.inr (Or.inr (Or.inr (h9))))))))) z8))).trans ((hg_M_2 a i (fun h9 => q0 (Or.inr (Or.inr (Or.inr (Or.inl h9)))))).trans rfl))))), (st_copy hst (fun j hj => by show M_5 1 j = M 1 j; rw [hc_93 j hj]; exact h2 j hj)), (by show M_5 1 200 = M 1 200; rw [hc_93 200 (by omega)]; exact h2 200 (by omega))⟩
        · exact wp_some ⟨(fun a i q0 => ((hg_M_5 a i (fun h9 => q0 (Or.inr (Or.inr (Or.inl h9))))).trans ((hf_M43 a i (fun z8 => q0 ((fun z9 => Or.elim z9 (fun h9 => Or.inl h9) (fun z9 => Or.elim z9 (fun h9 => Or.inr (Or.inl h9)) (fun z9 => Or.elim z9 (fun h9 => Or.inr (Or.inr (Or.inl h9))) (fun z9 => Or.elim z9 (fun h9 => Or.inr (Or.inr (Or.inr (Or.inr (Or.inl h9))))) (fun z9 => Or.elim z9 (fun h9 => Or.inr (Or.inr (Or.inr (Or.inr (Or.inr (Or.inl h9)))))) (fun z9 => Or.elim z9 (fun h9 => Or.inr (Or.inr (Or.inr (Or.inr (Or.inr (Or.inr (Or.inl h9))))))) (fun h9 => Or.inr (Or.inr (Or.inr (Or.inr (Or.inr (Or.inr (Or.inr (h9)))))))))))))) z8))).trans ((hg_M_4 a i (fun z8 => q0 ((fun z9 => Or.elim z9 (fun h9 => Or.inr (Or.inr (Or.inr (Or.inr (Or.inr (Or.inr (Or.inl h9))))))) (fun h9 => Or.inr (Or.inr (Or.inr (Or.inr (Or.inr (Or.inr (Or.inr (h9))))))))) z8))).trans ((hg_M_2 a i (fun h9 => q0 (Or.inr (Or.inr (Or.inr (Or.inl h9)))))).trans rfl))))), (st_copy hst (fun j hj => by show M_5 1 j = M 1 j; rw [hc_93 j hj]; exact h2 j hj)), (by show M_5 1 200 = M 1 200; rw [hc_93 200 (by omega)]; exact h2 200 (by omega))⟩
      refine wp_ite (fun c44 => ?_) (fun c44 => ?_)
      · refine wp_ite (fun c50 => ?_) (fun c50 => ?_)
        · exact j85
        · refine wp_bind2 (o3_X10_nightsGo M43 (nI 1) hst43 hG43) (fun M_6 he55 hq55 => ?_)
          obtain ⟨hg_M_6, hst_55, hN_55⟩ := hq55
          replace hst_55 : ST (M_6 1) := hst_55
          have := t_lit 1
          replace hN_55 : (M_6 1 200).toInt = max (M43 1 200).toInt (min ((M43 1 200).toInt + max (nI 1).toInt 0) 9999) := hN_55
          have := t_lit 1
          replace hg_M_6 : ∀ a i, ¬ ((a = 0 ∧ i = 34) ∨ (a = 0 ∧ i = 35) ∨ a = 1 ∨ a = 17 ∨ a = 18) → M_6 a i = M43 a i := hg_M_6
          refine wp_gd (by omega) ?_
          refine wp_cb2 (o_X10_crossing M_6 (M_6 4 (ix v1))) (fun r_7 M_8 he69 hq69 => ?_)
          obtain ⟨hg_M_8, hE_69⟩ := hq69
          replace hE_69 : (21 ≤ (M_6 4 (ix v1)).toInt → r_7.toInt = 1) ∧ ((M_6 4 (ix v1)).toInt < 21 → Bend 40 (byB M_6 (nI 1) (M_6 4 (ix v1))) (cst M_6 (M_6 4 (ix v1))) (fun j => (M_8 23 j).toInt) ∧ Best (fun i => ¬ (M_8 23 i).toInt = -1 ∧ byB M_6 (nI 0) (M_6 4 (ix v1)) i) (fun i => (M_8 23 i).toInt) r_7.toInt 40) := hE_69
          replace hg_M_8 : ∀ a i, ¬ (a = 23 ∨ a = 25) → M_8 a i = M_6 a i := hg_M_8
          refine wp_ite (fun c73 => ?_) (fun c73 => ?_)
          · exact ih43 M_8 (y2_43 + (nI 1)) (nI 0) ⟨(by have f0 := t_lit 1; have f1 := t_add y2_43 (nI 1); omega), (fun a i q0 => ((hg_M_8 a i (fun z8 => q0 ((fun z9 => Or.elim z9 (fun h9 => Or.inr (Or.inr (Or.inr (Or.inr (Or.inr (Or.inl h9)))))) (fun h9 => Or.inr (Or.inr (Or.inr (Or.inr (Or.inr (Or.inr (h9)))))))) z8))).trans ((hg_M_6 a i (fun z8 => q0 ((fun z9 => Or.elim z9 (fun h9 => Or.inl h9) (fun z9 => Or.elim z9 (fun h9 => Or.inr (Or.inl h9)) (fun z9 => Or.elim z9 (fun h9 => Or.inr (Or.inr (Or.inl h9))) (fun z9 => Or.elim z9 (fun h9 => Or.inr (Or.inr (Or.inr (Or.inl h9)))) (fun h9 => Or.inr (Or.inr (Or.inr (Or.inr (Or.inl h9))))))))) z8))).trans ((hf_M43 a i (fun z8 => q0 ((fun z9 => Or.elim z9 (fun h9 => Or.inl h9) (fun z9 => Or.elim z9 (fun h9 => Or.inr (Or.inl h9)) (fun z9 => Or.elim z9 (fun h9 => Or.inr (Or.inr (Or.inl h9))) (fun z9 => Or.elim z9 (fun h9 => Or.inr (Or.inr (Or.inr (Or.inl h9)))) (fun z9 => Or.elim z9 (fun h9 => Or.inr (Or.inr (Or.inr (Or.inr (Or.inl h9))))) (fun z9 => Or.elim z9 (fun h9 => Or.inr (Or.inr (Or.inr (Or.inr (Or.inr (Or.inl h9)))))) (fun h9 => Or.inr (Or.inr (Or.inr (Or.inr (Or.inr (Or.inr (h9))))))))))))) z8))).trans rfl)))), (by rw [show M_8 1 = M_6 1 from funext (fun i => hg_M_8 1 i (by omega))]; exact hst_55), (fun j hj => by rw [hg_M_8 2 j (by omega), hg_M_6 2 j (by omega)]; exact h2 j hj)⟩ (by have f0 := t_lit 1; have f1 := t_add y2_43 (nI 1); omega)
          · exact ih43 M_8 (y2_43 + (nI 1)) (nI 1) ⟨(by have f0 := t_lit 1; have f1 := t_add y2_43 (nI 1); omega), (fun a i q0 => ((hg_M_8 a i (fun z8 => q0 ((fun z9 => Or.elim z9 (fun h9 => Or.inr (Or.inr (Or.inr (Or.inr (Or.inr (Or.inl h9)))))) (fun h9 => Or.inr (Or.inr (Or.inr (Or.inr (Or.inr (Or.inr (h9)))))))) z8))).trans ((hg_M_6 a i (fun z8 => q0 ((fun z9 => Or.elim z9 (fun h9 => Or.inl h9) (fun z9 => Or.elim z9 (fun h9 => Or.inr (Or.inl h9)) (fun z9 => Or.elim z9 (fun h9 => Or.inr (Or.inr (Or.inl h9))) (fun z9 => Or.elim z9 (fun h9 => Or.inr (Or.inr (Or.inr (Or.inl h9)))) (fun h9 => Or.inr (Or.inr (Or.inr (Or.inr (Or.inl h9))))))))) z8))).trans ((hf_M43 a i (fun z8 => q0 ((fun z9 => Or.elim z9 (fun h9 => Or.inl h9) (fun z9 => Or.elim z9 (fun h9 => Or.inr (Or.inl h9)) (fun z9 => Or.elim z9 (fun h9 => Or.inr (Or.inr (Or.inl h9))) (fun z9 => Or.elim z9 (fun h9 => Or.inr (Or.inr (Or.inr (Or.inl h9)))) (fun z9 => Or.elim z9 (fun h9 => Or.inr (Or.inr (Or.inr (Or.inr (Or.inl h9))))) (fun z9 => Or.elim z9 (fun h9 => Or.inr (Or.inr (Or.inr (Or.inr (Or.inr (Or.inl h9)))))) (fun h9 => Or.inr (Or.inr (Or.inr (Or.inr (Or.inr (Or.inr (h9))))))))))))) z8))).trans rfl)))), (by rw [show M_8 1 = M_6 1 from funext (fun i => hg_M_8 1 i (by omega))]; exact hst_55), (fun j hj => by rw [hg_M_8 2 j (by omega), hg_M_6 2 j (by omega)]; exact h2 j hj)⟩ (by have f0 := t_lit 1; have f1 := t_add y2_43 (nI 1); omega)
      · exact j85
    refine wp_ite (fun c34 => ?_) (fun c34 => ?_)
    · exact j42 (nI 0) b01_0
    · exact j42 (nI 1) b01_1
theorem o3_X10_key (M : Mem) (v1 : Int32) (v2 : Int32) (hst : ST (M 1)) : Wp (f_X10_key M v1 v2) (fun q => (∀ a i, ¬ (a = 1 ∨ a = 23 ∨ a = 25) → q.2 a i = M a i) ∧ (ST (q.2 1)) ∧ (q.2 1 200 = M 1 200)) := by
  refine wp_bind2 (o_X10_isPerson M v1) (fun r_1 he2 hq2 => ?_)
  obtain ⟨hz_r_1, hr_2⟩ := hq2
  replace hr_2 : ¬ r_1.toInt = 0 → 0 ≤ v1.toInt ∧ v1.toInt < 8 := hr_2
  refine wp_ite (fun c5 => ?_) (fun c5 => ?_)
  · exact wp_some ⟨(fun _ _ _ => rfl), hst, rfl⟩
  · refine wp_bind2 (o2_X10_in M v2 (nI 0) (nI 1)) (fun r_2 he11 hq11 => ?_)
    obtain ⟨hz_r_2, hr_11, hi_11⟩ := hq11
    replace hr_11 : ¬ r_2.toInt = 0 → (nI 0).toInt ≤ v2.toInt ∧ v2.toInt ≤ (nI 1).toInt := hr_11
    have := t_lit 0
    have := t_lit 1
    replace hi_11 : ¬ r_2.toInt = 0 ↔ (nI 0).toInt ≤ v2.toInt ∧ v2.toInt ≤ (nI 1).toInt := hi_11
    have := t_lit 0
    have := t_lit 1
    refine wp_ite (fun c14 => ?_) (fun c14 => ?_)
    · exact wp_some ⟨(fun _ _ _ => rfl), hst, rfl⟩
    · refine wp_gd (by omega) ?_
      refine wp_bnd (fun x_3 ex_3 => ?_)
      refine wp_cb2 (o_X10_crossing M x_3) (fun r_4 M_5 he28 hq28 => ?_)
      obtain ⟨hg_M_5, hE_28⟩ := hq28
      replace hE_28 : (21 ≤ x_3.toInt → r_4.toInt = 1) ∧ (x_3.toInt < 21 → Bend 40 (byB M (nI 1) x_3) (cst M x_3) (fun j => (M_5 23 j).toInt) ∧ Best (fun i => ¬ (M_5 23 i).toInt = -1 ∧ byB M (nI 0) x_3 i) (fun i => (M_5 23 i).toInt) r_4.toInt 40) := hE_28
      replace hg_M_5 : ∀ a i, ¬ (a = 23 ∨ a = 25) → M_5 a i = M a i := hg_M_5
      refine wp_ite (fun c32 => ?_) (fun c32 => ?_)
      · exact wp_some ⟨(fun a i q0 => ((hg_M_5 a i (fun z8 => q0 ((fun z9 => Or.elim z9 (fun h9 => Or.inr (Or.inl h9)) (fun h9 => Or.inr (Or.inr (h9)))) z8))).trans rfl)), (by rw [show ((-3 : Int32), M_5).2 1 = M 1 from funext (fun i => hg_M_5 1 i (by omega))]; exact hst), (hg_M_5 1 200 (by omega))⟩
      · refine wp_lp4 (fun M49 y4_49 y5_49 y6_49 => (y6_49.toInt ≤ 39) ∧ (∀ a i, ¬ (a = 1 ∨ a = 23 ∨ a = 25) → M49 a i = M_5 a i) ∧ (ST (M49 1)) ∧ (M49 1 200 = M 1 200)) (fun M49 y4_49 y5_49 y6_49 => (y6_49.toInt - 0 + 1).toNat) (fun ag49 M49 y4_49 y5_49 y6_49 hI49 ih49 => ?_) FU M_5 (nI 0) (-2) (nI 39) ⟨(by have f0 := t_lit 39; omega), (fun _ _ _ => rfl), (by rw [show M_5 1 = M 1 from funext (fun i => hg_M_5 1 i (by omega))]; exact hst), (hg_M_5 1 200 (by omega))⟩ (fu_lt (by have f0 := t_lit 39; omega))
        obtain ⟨hi49, hf_M49, hst49, hN49⟩ := hI49
        have j130 : Wp (f_X10_key_L130 v2 M49 y4_49 y5_49) (fun q => (∀ a i, ¬ (a = 1 ∨ a = 23 ∨ a = 25) → q.2 a i = M a i) ∧ (ST (q.2 1)) ∧ (q.2 1 200 = M 1 200)) := by
          unfold f_X10_key_L130
          refine wp_ite (fun c131 => ?_) (fun c131 => ?_)
          · exact wp_some ⟨(fun a i q0 => ((hf_M49 a i (fun z8 => q0 ((fun z9 => Or.elim z9 (fun h9 => Or.inl h9) (fun z9 => Or.elim z9 (fun h9 => Or.inr (Or.inl h9)) (fun h9 => Or.inr (Or.inr (h9))))) z8))).trans ((hg_M_5 a i (fun z8 => q0 ((fun z9 => Or.elim z9 (fun h9 => Or.inr (Or.inl h9)) (fun h9 => Or.inr (Or.inr (h9)))) z8))).trans rfl))), hst49, hN49⟩
          · exact wp_some ⟨(fun a i q0 => ((hf_M49 a i (fun z8 => q0 ((fun z9 => Or.elim z9 (fun h9 => Or.inl h9) (fun z9 => Or.elim z9 (fun h9 => Or.inr (Or.inl h9)) (fun h9 => Or.inr (Or.inr (h9))))) z8))).trans ((hg_M_5 a i (fun z8 => q0 ((fun z9 => Or.elim z9 (fun h9 => Or.inr (Or.inl h9)) (fun h9 => Or.inr (Or.inr (h9)))) z8))).trans rfl))), hst49, hN49⟩
        refine wp_ite (fun c51 => ?_) (fun c51 => ?_)
        · exact j130
        · refine wp_bind2 (o_X10_isDry M49 y6_49 (by omega)) (fun r_6 he57 hq57 => ?_)
          obtain ⟨hz_r_6, hr_57⟩ := hq57
          replace hr_57 : ¬ r_6.toInt = 0 → (M49 1 (ix y6_49)).toInt = 1 := hr_57
          refine wp_ite (fun c60 => ?_) (fun c60 => ?_)
          · exact ih49 M49 y4_49 y5_49 (y6_49 + (-1)) ⟨(by have f0 := (by decide : ((-1 : Int32)).toInt = -1); have f1 := t_add y6_49 (-1); omega), (fun a i q0 => ((hf_M49 a i (fun z8 => q0 ((fun z9 => Or.elim z9 (fun h9 => Or.inl h9) (fun z9 => Or.elim z9 (fun h9 => Or.inr (Or.inl h9)) (fun h9 => Or.inr (Or.inr (h9))))) z8))).trans rfl)), hst49, hN49⟩ (by have f0 := (by decide : ((-1 : Int32)).toInt = -1); have f1 := t_add y6_49 (-1); omega)
          · refine wp_gd (by have f0 := t_lit 160; have f1 := t_add (nI 160) y6_49; omega) ?_
            refine wp_bnd (fun M_7 eM_7 => ?_)
            have fy := t_ixn y6_49 (by omega)
            have x160 := ix_add (x := y6_49) (n := 160) (by omega) (by omega)
            refine wp_cb2 (o_X10_crossing M_7 x_3) (fun r_8 M_9 he80 hq80 => ?_)
            obtain ⟨hg_M_9, hE_80⟩ := hq80
            replace hE_80 : (21 ≤ x_3.toInt → r_8.toInt = 1) ∧ (x_3.toInt < 21 → Bend 40 (byB M_7 (nI 1) x_3) (cst M_7 x_3) (fun j => (M_9 23 j).toInt) ∧ Best (fun i => ¬ (M_9 23 i).toInt = -1 ∧ byB M_7 (nI 0) x_3 i) (fun i => (M_9 23 i).toInt) r_8.toInt 40) := hE_80
            replace hg_M_9 : ∀ a i, ¬ (a = 23 ∨ a = 25) → M_9 a i = M_7 a i := hg_M_9
            have j92 : ∀ (t0_92 : Int32), (t0_92 = 0 ∨ t0_92 = 1) → Wp (f_X10_key_L92 ag49 y4_49 y5_49 y6_49 M_9 t0_92) (fun q => (∀ a i, ¬ (a = 1 ∨ a = 23 ∨ a = 25) → q.2 a i = M a i) ∧ (ST (q.2 1)) ∧ (q.2 1 200 = M 1 200)) := by
              intro t0_92 hb_t0_92
              unfold f_X10_key_L92
              refine wp_gd (by have f0 := t_lit 160; have f1 := t_add (nI 160) y6_49; omega) ?_
              refine wp_bnd (fun M_10 eM_10 => ?_)
              refine wp_ite (fun c108 => ?_) (fun c108 => ?_)
              · exact ih49 M_10 y4_49 y5_49 (y6_49 + (-1)) ⟨(by have f0 := (by decide : ((-1 : Int32)).toInt = -1); have f1 := t_add y6_49 (-1); omega), (fun a i q0 => ((congrFun (congrFun eM_10 a) i).trans ((mset_ne (fun h9 => q0 (Or.inl (h9).1))).trans ((hg_M_9 a i (fun z8 => q0 ((fun z9 => Or.elim z9 (fun h9 => Or.inr (Or.inl h9)) (fun h9 => Or.inr (Or.inr (h9)))) z8))).trans ((congrFun (congrFun eM_7 a) i).trans ((mset_ne (fun h9 => q0 (Or.inl (h9).1))).trans ((hf_M49 a i (fun z8 => q0 ((fun z9 => Or.elim z9 (fun h9 => Or.inl h9) (fun z9 => Or.elim z9 (fun h9 => Or.inr (Or.inl h9)) (fun h9 => Or.inr (Or.inr (h9))))) z8))).trans rfl))))))), (st_hi (i := ix y6_49) hst49 (fun j hj => by rw [eM_10, mset_ne (by omega), hg_M_9 1 j (by omega), eM_7, mset_ne (by omega)])), (by rw [eM_10, mset_ne (by omega), hg_M_9 1 200 (by omega), eM_7, mset_ne (by omega)]; exact hN49)⟩ (by have f0 := (by decide : ((-1 : Int32)).toInt = -1); have f1 := t_add y6_49 (-1); omega)
              · exact ih49 M_10 (y4_49 + (nI 1)) y6_49 (y6_49 + (-1)) ⟨(by have f0 := (by decide : ((-1 : Int32)).toInt = -1); have f1 := t_add y6_49 (-1); omega), (fun a i q0 => ((congrFun (congrFun eM_10 a) i).trans ((mset_ne (fun h9 => q0 (Or.inl (h9).1))).trans ((hg_M_9 a i (fun z8 => q0 ((fun z9 => Or.elim z9 (fun h9 => Or.inr (Or.inl h9)) (fun h9 => Or.inr (Or.inr (h9)))) z8))).trans ((congrFun (congrFun eM_7 a) i).trans ((mset_ne (fun h9 => q0 (Or.inl (h9).1))).trans ((hf_M49 a i (fun z8 => q0 ((fun z9 => Or.elim z9 (fun h9 => Or.inl h9) (fun z9 => Or.elim z9 (fun h9 => Or.inr (Or.inl h9)) (fun h9 => Or.inr (Or.inr (h9))))) z8))).trans rfl))))))), (st_hi (i := ix y6_49) hst49 (fun j hj => by rw [eM_10, mset_ne (by omega), hg_M_9 1 j (by omega), eM_7, mset_ne (by omega)])), (by rw [eM_10, mset_ne (by omega), hg_M_9 1 200 (by omega), eM_7, mset_ne (by omega)]; exact hN49)⟩ (by have f0 := (by decide : ((-1 : Int32)).toInt = -1); have f1 := t_add y6_49 (-1); omega)
            refine wp_ite (fun c84 => ?_) (fun c84 => ?_)
            · exact j92 (nI 1) b01_1
            · exact j92 (nI 0) b01_0
theorem o3_X10_stone (M : Mem) (v1 : Int32) (v2 : Int32) (v3 : Int32) (v4 : Int32) (hst : ST (M 1)) : Wp (f_X10_stone M v1 v2 v3 v4) (fun q => (q.1 = 0 ∨ q.1 = 1) ∧ (∀ a i, ¬ (a = 1) → q.2 a i = M a i) ∧ (ST (q.2 1)) ∧ (q.2 1 200 = M 1 200)) := by
  refine wp_bind2 (o2_X10_in M v1 (nI 0) (nI 39)) (fun r_1 he4 hq4 => ?_)
  obtain ⟨hz_r_1, hr_4, hi_4⟩ := hq4
  replace hr_4 : ¬ r_1.toInt = 0 → (nI 0).toInt ≤ v1.toInt ∧ v1.toInt ≤ (nI 39).toInt := hr_4
  have := t_lit 0
  have := t_lit 39
  replace hi_4 : ¬ r_1.toInt = 0 ↔ (nI 0).toInt ≤ v1.toInt ∧ v1.toInt ≤ (nI 39).toInt := hi_4
  have := t_lit 0
  have := t_lit 39
  refine wp_ite (fun c7 => ?_) (fun c7 => ?_)
  · exact wp_some ⟨b01_0, (fun _ _ _ => rfl), (by have e9 : M 1 = M 1 := funext (fun i => rfl); show ST (M 1); rw [e9]; exact hst), rfl⟩
  · refine wp_bind2 (o2_X10_in M v2 (nI 0) (nI 39)) (fun r_2 he14 hq14 => ?_)
    obtain ⟨hz_r_2, hr_14, hi_14⟩ := hq14
    replace hr_14 : ¬ r_2.toInt = 0 → (nI 0).toInt ≤ v2.toInt ∧ v2.toInt ≤ (nI 39).toInt := hr_14
    have := t_lit 0
    have := t_lit 39
    replace hi_14 : ¬ r_2.toInt = 0 ↔ (nI 0).toInt ≤ v2.toInt ∧ v2.toInt ≤ (nI 39).toInt := hi_14
    have := t_lit 0
    have := t_lit 39
    refine wp_ite (fun c17 => ?_) (fun c17 => ?_)
    · exact wp_some ⟨b01_0, (fun _ _ _ => rfl), (by have e9 : M 1 = M 1 := funext (fun i => rfl); show ST (M 1); rw [e9]; exact hst), rfl⟩
    · refine wp_bind2 (o2_X10_in M v3 (nI 1) (nI 20)) (fun r_3 he24 hq24 => ?_)
      obtain ⟨hz_r_3, hr_24, hi_24⟩ := hq24
      replace hr_24 : ¬ r_3.toInt = 0 → (nI 1).toInt ≤ v3.toInt ∧ v3.toInt ≤ (nI 20).toInt := hr_24
      have := t_lit 1
      have := t_lit 20
      replace hi_24 : ¬ r_3.toInt = 0 ↔ (nI 1).toInt ≤ v3.toInt ∧ v3.toInt ≤ (nI 20).toInt := hi_24
      have := t_lit 1
      have := t_lit 20
      have fl1 := t_lit 1
      have fl20 := t_lit 20
      refine wp_ite (fun c27 => ?_) (fun c27 => ?_)
      · exact wp_some ⟨b01_0, (fun _ _ _ => rfl), (by have e9 : M 1 = M 1 := funext (fun i => rfl); show ST (M 1); rw [e9]; exact hst), rfl⟩
      · refine wp_bind2 (o2_X10_in M v4 (nI 0) (nI 9)) (fun r_4 he35 hq35 => ?_)
        obtain ⟨hz_r_4, hr_35, hi_35⟩ := hq35
        replace hr_35 : ¬ r_4.toInt = 0 → (nI 0).toInt ≤ v4.toInt ∧ v4.toInt ≤ (nI 9).toInt := hr_35
        have := t_lit 0
        have := t_lit 9
        replace hi_35 : ¬ r_4.toInt = 0 ↔ (nI 0).toInt ≤ v4.toInt ∧ v4.toInt ≤ (nI 9).toInt := hi_35
        have := t_lit 0
        have := t_lit 9
        have fl0 := t_lit 0
        have fl9 := t_lit 9
        refine wp_ite (fun c38 => ?_) (fun c38 => ?_)
        · exact wp_some ⟨b01_0, (fun _ _ _ => rfl), (by have e9 : M 1 = M 1 := funext (fun i => rfl); show ST (M 1); rw [e9]; exact hst), rfl⟩
        · refine wp_bind2 (o_X10_stoneAt M v2 v3) (fun r_5 he46 hq46 => ?_)
          have hr_46 := hq46
          replace hr_46 : r_5.toInt = -1 ∨ ((0 ≤ r_5.toInt ∧ r_5.toInt < 40) ∧ (M 1 (ix r_5)).toInt = 1 ∧ (M 1 (ix (nI 40 + r_5))).toInt = v2.toInt ∧ (M 1 (ix (nI 80 + r_5))).toInt = v3.toInt) := hr_46
          have j65 : Wp (f_X10_stone_L65 M v1 v2 v3 v4) (fun q => (q.1 = 0 ∨ q.1 = 1) ∧ (∀ a i, ¬ (a = 1) → q.2 a i = M a i) ∧ (ST (q.2 1)) ∧ (q.2 1 200 = M 1 200)) := by
            unfold f_X10_stone_L65
            refine wp_bind2 (o_X10_laysStone M v1 v2 v3 v4 (nI 0) (by have f0 := t_lit 0; omega)) (fun M_6 he72 hq72 => ?_)
            obtain ⟨hg_M_6, hl_72⟩ := hq72
            replace hl_72 : (M_6 1 (ix v1)).toInt = 1 ∧ M_6 1 (80 + ix v1) = v3 ∧ M_6 1 (120 + ix v1) = v4 ∧ ∀ j : Nat, ¬ j = ix v1 → ¬ j = 40 + ix v1 → ¬ j = 80 + ix v1 → ¬ j = 120 + ix v1 → ¬ j = 160 + ix v1 → M_6 1 j = M 1 j := hl_72
            have := t_lit 0
            replace hg_M_6 : ∀ a i, ¬ (a = 1) → M_6 a i = M a i := hg_M_6
            exact wp_some ⟨b01_1, (fun a i q0 => ((hg_M_6 a i (fun h9 => q0 (h9))).trans rfl)), (st_lay (i := ix v1) (by have := t_ixn v1 (by omega); omega) hst (by rw [show (nI 1, M_6).2 1 (80 + ix v1) = M_6 1 (80 + ix v1) from rfl, hl_72.2.1]; omega) (by rw [show (nI 1, M_6).2 1 (120 + ix v1) = M_6 1 (120 + ix v1) from rfl, hl_72.2.2.1]; omega) hl_72.2.2.2), (hl_72.2.2.2 200 (by have := t_ixn v1 (by omega); omega) (by have := t_ixn v1 (by omega); omega) (by have := t_ixn v1 (by omega); omega) (by have := t_ixn v1 (by omega); omega) (by have := t_ixn v1 (by omega); omega))⟩
          refine wp_ite (fun c54 => ?_) (fun c54 => ?_)
          · exact j65
          · refine wp_ite (fun c60 => ?_) (fun c60 => ?_)
            · exact j65
            · exact wp_some ⟨b01_0, (fun _ _ _ => rfl), (by have e9 : M 1 = M 1 := funext (fun i => rfl); show ST (M 1); rw [e9]; exact hst), rfl⟩
theorem o3_X10_take (M : Mem) (v1 : Int32) (hst : ST (M 1)) : Wp (f_X10_take M v1) (fun q => (q.1 = 0 ∨ q.1 = 1) ∧ (∀ a i, ¬ (a = 1) → q.2 a i = M a i) ∧ (ST (q.2 1)) ∧ (q.2 1 200 = M 1 200)) := by
  refine wp_bind2 (o_X10_isStone M v1) (fun r_1 he2 hq2 => ?_)
  obtain ⟨hz_r_1, hr_2⟩ := hq2
  replace hr_2 : ¬ r_1.toInt = 0 → (0 ≤ v1.toInt ∧ v1.toInt < 40) ∧ (M 1 (ix v1)).toInt = 1 := hr_2
  refine wp_ite (fun c5 => ?_) (fun c5 => ?_)
  · exact wp_some ⟨b01_0, (fun _ _ _ => rfl), (by have e9 : M 1 = M 1 := funext (fun i => rfl); show ST (M 1); rw [e9]; exact hst), rfl⟩
  · refine wp_gd (by omega) ?_
    refine wp_bnd (fun M_2 eM_2 => ?_)
    exact wp_some ⟨b01_1, (fun a i q0 => ((congrFun (congrFun eM_2 a) i).trans ((mset_ne (fun h9 => q0 ((h9).1))).trans rfl))), (st_off (i := ix v1) hst (by show ¬ (M_2 1 (ix v1)).toInt = 1; rw [eM_2, mset_eq]; decide) (fun j hj => by show M_2 1 j = M 1 j; rw [eM_2, mset_ne (by omega)]) (by have := t_ixn v1 (by omega); omega)), (by show M_2 1 200 = M 1 200; rw [eM_2, mset_ne (by have := t_ixn v1 (by omega); omega)])⟩
theorem o3_X10_under (M : Mem) (v1 : Int32) (v2 : Int32) (hst : ST (M 1)) : Wp (f_X10_under M v1 v2) (fun q => (q.1 = 0 ∨ q.1 = 1) ∧ (∀ a i, ¬ (a = 1) → q.2 a i = M a i) ∧ (ST (q.2 1)) ∧ (q.2 1 200 = M 1 200)) := by
  refine wp_bind2 (o_X10_isStone M v1) (fun r_1 he2 hq2 => ?_)
  obtain ⟨hz_r_1, hr_2⟩ := hq2
  replace hr_2 : ¬ r_1.toInt = 0 → (0 ≤ v1.toInt ∧ v1.toInt < 40) ∧ (M 1 (ix v1)).toInt = 1 := hr_2
  refine wp_ite (fun c5 => ?_) (fun c5 => ?_)
  · exact wp_some ⟨b01_0, (fun _ _ _ => rfl), (by have e9 : M 1 = M 1 := funext (fun i => rfl); show ST (M 1); rw [e9]; exact hst), rfl⟩
  · have j28 : ∀ (t0_28 : Int32), (t0_28 = 0 ∨ t0_28 = 1) → Wp (f_X10_under_L28 M v1 t0_28) (fun q => (q.1 = 0 ∨ q.1 = 1) ∧ (∀ a i, ¬ (a = 1) → q.2 a i = M a i) ∧ (ST (q.2 1)) ∧ (q.2 1 200 = M 1 200)) := by
      intro t0_28 hb_t0_28
      unfold f_X10_under_L28
      refine wp_gd (by have f0 := t_lit 160; have f1 := t_add (nI 160) v1; omega) ?_
      refine wp_bnd (fun M_2 eM_2 => ?_)
      exact wp_some ⟨b01_1, (fun a i q0 => ((congrFun (congrFun eM_2 a) i).trans ((mset_ne (fun h9 => q0 ((h9).1))).trans rfl))), (st_hi (i := ix v1) hst (fun j hj => by show M_2 1 j = M 1 j; rw [eM_2, mset_ne (by have := ix_add (x := v1) (n := 160) (by omega) (by omega); omega)])), (by show M_2 1 200 = M 1 200; rw [eM_2, mset_ne (by have := ix_add (x := v1) (n := 160) (by omega) (by omega); have := t_ixn v1 (by omega); omega)])⟩
    refine wp_ite (fun c20 => ?_) (fun c20 => ?_)
    · exact j28 (nI 0) b01_0
    · exact j28 (nI 1) b01_1
theorem o3_X10_seed (M : Mem) (v1 : Int32) (hst : ST (M 1)) : Wp (f_X10_seed M v1) (fun q => (q.1 = 0 ∨ q.1 = 1) ∧ (∀ a i, ¬ (a = 1) → q.2 a i = M a i) ∧ (ST (q.2 1)) ∧ (q.2 1 200 = M 1 200)) := by
  refine wp_bind2 (o2_X10_in M v1 (nI 0) (nI 65535)) (fun r_1 he5 hq5 => ?_)
  obtain ⟨hz_r_1, hr_5, hi_5⟩ := hq5
  replace hr_5 : ¬ r_1.toInt = 0 → (nI 0).toInt ≤ v1.toInt ∧ v1.toInt ≤ (nI 65535).toInt := hr_5
  have := t_lit 0
  have := t_lit 65535
  replace hi_5 : ¬ r_1.toInt = 0 ↔ (nI 0).toInt ≤ v1.toInt ∧ v1.toInt ≤ (nI 65535).toInt := hi_5
  have := t_lit 0
  have := t_lit 65535
  refine wp_ite (fun c8 => ?_) (fun c8 => ?_)
  · exact wp_some ⟨b01_0, (fun _ _ _ => rfl), hst, rfl⟩
  · refine wp_bnd (fun M_2 eM_2 => ?_)
    exact wp_some ⟨b01_1, (fun a i q0 => ((congrFun (congrFun eM_2 a) i).trans ((mset_ne (fun h9 => q0 ((h9).1))).trans rfl))), (st_hi (i := 41) hst (fun j hj => by show M_2 1 j = M 1 j; rw [eM_2, mset_ne (by omega)])), (by show M_2 1 200 = M 1 200; rw [eM_2, mset_ne (by omega)])⟩
theorem o3_X10_notebook (M : Mem) (v1 : Int32) (ht : 0 ≤ (M 0 6).toInt ∧ (M 0 6).toInt ≤ 260) (hst : ST (M 1)) : Wp (f_X10_notebook M v1) (fun q => (∀ a i, ¬ ((a = 0 ∧ i = 6) ∨ (a = 0 ∧ i = 7) ∨ (a = 0 ∧ i = 8) ∨ (a = 0 ∧ i = 9) ∨ (a = 0 ∧ i = 10) ∨ (a = 0 ∧ i = 12) ∨ (a = 0 ∧ i = 14) ∨ (a = 0 ∧ i = 33) ∨ a = 1 ∨ a = 19 ∨ a = 20 ∨ a = 21 ∨ a = 22) → q.2 a i = M a i) ∧ (0 ≤ (q.2 0 6).toInt ∧ (q.2 0 6).toInt ≤ 260) ∧ (ST (q.2 1)) ∧ (q.2 1 200 = M 1 200)) := by
  refine wp_bind2 (o2_X10_in M v1 (nI 1) (nI 200)) (fun r_1 he5 hq5 => ?_)
  obtain ⟨hz_r_1, hr_5, hi_5⟩ := hq5
  replace hr_5 : ¬ r_1.toInt = 0 → (nI 1).toInt ≤ v1.toInt ∧ v1.toInt ≤ (nI 200).toInt := hr_5
  have := t_lit 1
  have := t_lit 200
  replace hi_5 : ¬ r_1.toInt = 0 ↔ (nI 1).toInt ≤ v1.toInt ∧ v1.toInt ≤ (nI 200).toInt := hi_5
  have := t_lit 1
  have := t_lit 200
  have fl1 := t_lit 1
  have fl200 := t_lit 200
  refine wp_ite (fun c8 => ?_) (fun c8 => ?_)
  · exact wp_some ⟨(fun _ _ _ => rfl), (by show 0 ≤ (M 0 6).toInt ∧ (M 0 6).toInt ≤ 260; have f0 := (by decide : ((-1 : Int32)).toInt = -1); omega), (by have e9 : M 1 = M 1 := funext (fun i => rfl); show ST (M 1); rw [e9]; exact hst), rfl⟩
  · refine wp_ite (fun c16 => ?_) (fun c16 => ?_)
    · refine wp_bind2 (o_X10_beginsText M v1) (fun M_2 he23 hq23 => ?_)
      obtain ⟨hg_M_2, hb_23⟩ := hq23
      replace hb_23 : (M_2 0 7).toInt = 0 ∧ (M_2 0 8).toInt = v1.toInt := hb_23
      replace hg_M_2 : ∀ a i, ¬ ((a = 0 ∧ i = 7) ∨ (a = 0 ∧ i = 8) ∨ (a = 0 ∧ i = 12) ∨ (a = 0 ∧ i = 14)) → M_2 a i = M a i := hg_M_2
      refine wp_bnd (fun M_3 eM_3 => ?_)
      have a7 : (M_3 0 7).toInt = 0 := by rw [eM_3, mset_ne (by omega)]; exact hb_23.1
      have a8 : (M_3 0 8).toInt = v1.toInt := by rw [eM_3, mset_ne (by omega)]; exact hb_23.2
      have a33 : (M_3 0 33).toInt = 0 := by rw [eM_3, mset_eq]; exact nI0
      refine wp_cb2 (o_X10_readsLine M_3 (by omega) (by omega) (fun j hj => absurd hj (by omega))) (fun r_4 M_5 he32 hq32 => ?_)
      obtain ⟨hz_r_4, hg_M_5, hp_32, hk_32⟩ := hq32
      replace hp_32 : (M_3 0 7).toInt ≤ (M_5 0 7).toInt ∧ (M_5 0 7).toInt ≤ (M_3 0 8).toInt ∧ (¬ r_4.toInt = 0 → (M_3 0 7).toInt < (M_5 0 7).toInt) := hp_32
      replace hk_32 : ¬ r_4.toInt = 0 → (M_5 0 33).toInt = (M_3 0 33).toInt + 1 ∧ (M_3 0 33).toInt < 40 ∧ (∀ j : Nat, (j : Int) < (M_5 0 33).toInt → 1 ≤ (M_5 20 j).toInt ∧ (M_5 20 j).toInt ≤ 20 ∧ 0 ≤ (M_5 21 j).toInt ∧ (M_5 21 j).toInt ≤ 9) := hk_32
      replace hg_M_5 : ∀ a i, ¬ ((a = 0 ∧ i = 7) ∨ (a = 0 ∧ i = 9) ∨ (a = 0 ∧ i = 10) ∨ (a = 0 ∧ i = 33) ∨ a = 19 ∨ a = 20 ∨ a = 21 ∨ a = 22) → M_5 a i = M_3 a i := hg_M_5
      have b8 := congrArg Int32.toInt (hg_M_5 0 8 (by omega))
      refine wp_lp2 (fun M36 y2_36 => (∀ a i, ¬ ((a = 0 ∧ i = 7) ∨ (a = 0 ∧ i = 9) ∨ (a = 0 ∧ i = 10) ∨ (a = 0 ∧ i = 33) ∨ a = 19 ∨ a = 20 ∨ a = 21 ∨ a = 22) → M36 a i = M_5 a i) ∧ ((0 ≤ (M36 0 7).toInt ∧ (M36 0 7).toInt ≤ (M36 0 8).toInt) ∧ (M36 0 8).toInt = v1.toInt ∧ (¬ y2_36.toInt = 0 → (0 ≤ (M36 0 33).toInt ∧ (M36 0 33).toInt ≤ 40) ∧ (∀ j : Nat, (j : Int) < (M36 0 33).toInt → 1 ≤ (M36 20 j).toInt ∧ (M36 20 j).toInt ≤ 20 ∧ 0 ≤ (M36 21 j).toInt ∧ (M36 21 j).toInt ≤ 9)))) (fun M36 y2_36 => (if y2_36.toInt = 0 then 0 else 1 + ((M36 0 8).toInt - (M36 0 7).toInt).toNat)) (fun ag36 M36 y2_36 hI36 ih36 => ?_) FU M_5 r_4 ⟨(fun _ _ _ => rfl), ⟨by omega, by omega, fun h => ⟨by have := (hk_32 h).1; omega, (hk_32 h).2.2⟩⟩⟩ (fu_lt (mu_f2 (by omega)))
      obtain ⟨hf_M36, h36⟩ := hI36
      have h36a := h36.1
      have h36b := h36.2.1
      have j76 : Wp (f_X10_notebook_L76 M36 y2_36) (fun q => (∀ a i, ¬ ((a = 0 ∧ i = 6) ∨ (a = 0 ∧ i = 7) ∨ (a = 0 ∧ i = 8) ∨ (a = 0 ∧ i = 9) ∨ (a = 0 ∧ i = 10) ∨ (a = 0 ∧ i = 12) ∨ (a = 0 ∧ i = 14) ∨ (a = 0 ∧ i = 33) ∨ a = 1 ∨ a = 19 ∨ a = 20 ∨ a = 21 ∨ a = 22) → q.2 a i = M a i) ∧ (0 ≤ (q.2 0 6).toInt ∧ (q.2 0 6).toInt ≤ 260) ∧ (ST (q.2 1)) ∧ (q.2 1 200 = M 1 200)) := by
        unfold f_X10_notebook_L76
        refine wp_bnd (fun M_6 eM_6 => ?_)
        have e33 := congrArg Int32.toInt ((congrFun (congrFun eM_6 0) 33).trans (mset_ne (by omega)))
        refine wp_ite (fun c82 => ?_) (fun c82 => ?_)
        · exact wp_some ⟨(fun a i q0 => ((congrFun (congrFun eM_6 a) i).trans ((mset_ne (fun h9 => q0 (Or.inl h9))).trans ((hf_M36 a i (fun z8 => q0 ((fun z9 => Or.elim z9 (fun h9 => Or.inr (Or.inl h9)) (fun z9 => Or.elim z9 (fun h9 => Or.inr (Or.inr (Or.inr (Or.inl h9)))) (fun z9 => Or.elim z9 (fun h9 => Or.inr (Or.inr (Or.inr (Or.inr (Or.inl h9))))) (fun z9 => Or.elim z9 (fun h9 => Or.inr (Or.inr (Or.inr (Or.inr (Or.inr (Or.inr (Or.inr (Or.inl h9)))))))) (fun z9 => Or.elim z9 (fun h9 => Or.inr (Or.inr (Or.inr (Or.inr (Or.inr (Or.inr (Or.inr (Or.inr (Or.inr (Or.inl h9)))))))))) (fun z9 => Or.elim z9 (fun h9 => Or.inr (Or.inr (Or.inr (Or.inr (Or.inr (Or.inr (Or.inr (Or.inr (Or.inr (Or.inr (Or.inl h9))))))))))) (fun z9 => Or.elim z9 (fun h9 => Or.inr (Or.inr (Or.inr (Or.inr (Or.inr (Or.inr (Or.inr (Or.inr (Or.inr (Or.inr (Or.inr (Or.inl h9)))))))))))) (fun h9 => Or.inr (Or.inr (Or.inr (Or.inr (Or.inr (Or.inr (Or.inr (Or.inr (Or.inr (Or.inr (Or.inr (Or.inr (h9)))))))))))))))))))) z8))).trans ((hg_M_5 a i (fun z8 => q0 ((fun z9 => Or.elim z9 (fun h9 => Or.inr (Or.inl h9)) (fun z9 => Or.elim z9 (fun h9 => Or.inr (Or.inr (Or.inr (Or.inl h9)))) (fun z9 => Or.elim z9 (fun h9 => Or.inr (Or.inr (Or.inr (Or.inr (Or.inl h9))))) (fun z9 => Or.elim z9 (fun h9 => Or.inr (Or.inr (Or.inr (Or.inr (Or.inr (Or.inr (Or.inr (Or.inl h9)))))))) (fun z9 => Or.elim z9 (fun h9 => Or.inr (Or.inr (Or.inr (Or.inr (Or.inr (Or.inr (Or.inr (Or.inr (Or.inr (Or.inl h9)))))))))) (fun z9 => Or.elim z9 (fun h9 => Or.inr (Or.inr (Or.inr (Or.inr (Or.inr (Or.inr (Or.inr (Or.inr (Or.inr (Or.inr (Or.inl h9))))))))))) (fun z9 => Or.elim z9 (fun h9 => Or.inr (Or.inr (Or.inr (Or.inr (Or.inr (Or.inr (Or.inr (Or.inr (Or.inr (Or.inr (Or.inr (Or.inl h9)))))))))))) (fun h9 => Or.inr (Or.inr (Or.inr (Or.inr (Or.inr (Or.inr (Or.inr (Or.inr (Or.inr (Or.inr (Or.inr (Or.inr (h9)))))))))))))))))))) z8))).trans ((congrFun (congrFun eM_3 a) i).trans ((mset_ne (fun h9 => q0 (Or.inr (Or.inr (Or.inr (Or.inr (Or.inr (Or.inr (Or.inr (Or.inl h9)))))))))).trans ((hg_M_2 a i (fun z8 => q0 ((fun z9 => Or.elim z9 (fun h9 => Or.inr (Or.inl h9)) (fun z9 => Or.elim z9 (fun h9 => Or.inr (Or.inr (Or.inl h9))) (fun z9 => Or.elim z9 (fun h9 => Or.inr (Or.inr (Or.inr (Or.inr (Or.inr (Or.inl h9)))))) (fun h9 => Or.inr (Or.inr (Or.inr (Or.inr (Or.inr (Or.inr (Or.inl h9)))))))))) z8))).trans rfl)))))))), (by show 0 ≤ (M_6 0 6).toInt ∧ (M_6 0 6).toInt ≤ 260; have f0 := congrArg Int32.toInt ((congrFun (congrFun eM_6 0) 6).trans mset_eq); have f1 := t_lit 0; have f2 := congrArg Int32.toInt ((congrFun (congrFun eM_6 0) 9).trans (mset_ne (by omega))); omega), (by have e9 : M_6 1 = M 1 := funext (fun i => ((congrFun (congrFun eM_6 1) i).trans ((mset_ne (by omega)).trans ((hf_M36 1 i (by omega)).trans ((hg_M_5 1 i (by omega)).trans ((congrFun (congrFun eM_3 1) i).trans ((mset_ne (by omega)).trans ((hg_M_2 1 i (by omega)).trans rfl)))))))); show ST (M_6 1); rw [e9]; exact hst), (by show M_6 1 200 = M 1 200; exact ((congrFun (congrFun eM_6 1) 200).trans ((mset_ne (by omega)).trans ((hf_M36 1 200 (by omega)).trans ((hg_M_5 1 200 (by omega)).trans ((congrFun (congrFun eM_3 1) 200).trans ((mset_ne (by omega)).trans ((hg_M_2 1 200 (by omega)).trans rfl))))))))⟩
        · have hok := h36.2.2 c82
          have hok1 := hok.1
          refine wp_lp2 (fun M92 y3_92 => (0 ≤ y3_92.toInt) ∧ (∀ a i, ¬ (a = 1) → M92 a i = M_6 a i) ∧ (∀ j : Nat, (j : Int) < y3_92.toInt → (M92 1 j).toInt = 0) ∧ (M92 1 200 = M 1 200)) (fun M92 y3_92 => (40 - y3_92.toInt).toNat) (fun ag92 M92 y3_92 hI92 ih92 => ?_) FU M_6 (nI 0) ⟨(by have f0 := t_lit 0; omega), (fun _ _ _ => rfl), (fun j hj => absurd hj (by have := t_lit 0; omega)), ((congrFun (congrFun eM_6 1) 200).trans ((mset_ne (by omega)).trans ((hf_M36 1 200 (by omega)).trans ((hg_M_5 1 200 (by omega)).trans ((congrFun (congrFun eM_3 1) 200).trans ((mset_ne (by omega)).trans ((hg_M_2 1 200 (by omega)).trans rfl)))))))⟩ (fu_lt (by have f0 := t_lit 0; omega))
          obtain ⟨hi92, hf_M92, h92, hN92⟩ := hI92
          have i33 := congrArg Int32.toInt (hf_M92 0 33 (by omega))
          have j113 : (40 ≤ y3_92.toInt) → Wp (f_X10_notebook_L113 M92) (fun q => (∀ a i, ¬ ((a = 0 ∧ i = 6) ∨ (a = 0 ∧ i = 7) ∨ (a = 0 ∧ i = 8) ∨ (a = 0 ∧ i = 9) ∨ (a = 0 ∧ i = 10) ∨ (a = 0 ∧ i = 12) ∨ (a = 0 ∧ i = 14) ∨ (a = 0 ∧ i = 33) ∨ a = 1 ∨ a = 19 ∨ a = 20 ∨ a = 21 ∨ a = 22) → q.2 a i = M a i) ∧ (0 ≤ (q.2 0 6).toInt ∧ (q.2 0 6).toInt ≤ 260) ∧ (ST (q.2 1)) ∧ (q.2 1 200 = M 1 200)) := by
            intro h113
            unfold f_X10_notebook_L113
            refine wp_lp2 (fun M115 y3_115 => (∀ a i, ¬ (a = 1) → M115 a i = M92 a i) ∧ (0 ≤ y3_115.toInt) ∧ (ST (M115 1) ∧ ∀ j : Nat, j < 40 → y3_115.toInt ≤ (j : Int) → (M115 1 j).toInt = 0) ∧ (M115 1 200 = M 1 200)) (fun M115 y3_115 => ((M115 0 33).toInt - y3_115.toInt).toNat) (fun ag115 M115 y3_115 hI115 ih115 => ?_) FU M92 (nI 0) ⟨(fun _ _ _ => rfl), (by decide), ⟨fun j hj ht => absurd ht (by rw [h92 j (by omega)]; decide), fun j hj _ => h92 j (by omega)⟩, hN92⟩ (fu_lt (by have f0 := congrArg Int32.toInt (hf_M92 0 33 (by omega)); have f1 := congrArg Int32.toInt ((congrFun (congrFun eM_6 0) 33).trans (mset_ne (by omega))); have f2 := t_lit 0; omega))
            obtain ⟨hf_M115, h0, h115, hN115⟩ := hI115
            have k33 := congrArg Int32.toInt (hf_M115 0 33 (by omega))
            refine wp_ite (fun c120 => ?_) (fun c120 => ?_)
            · exact wp_some ⟨(fun a i q0 => ((hf_M115 a i (fun h9 => q0 (Or.inr (Or.inr (Or.inr (Or.inr (Or.inr (Or.inr (Or.inr (Or.inr (Or.inl h9))))))))))).trans ((hf_M92 a i (fun h9 => q0 (Or.inr (Or.inr (Or.inr (Or.inr (Or.inr (Or.inr (Or.inr (Or.inr (Or.inl h9))))))))))).trans ((congrFun (congrFun eM_6 a) i).trans ((mset_ne (fun h9 => q0 (Or.inl h9))).trans ((hf_M36 a i (fun z8 => q0 ((fun z9 => Or.elim z9 (fun h9 => Or.inr (Or.inl h9)) (fun z9 => Or.elim z9 (fun h9 => Or.inr (Or.inr (Or.inr (Or.inl h9)))) (fun z9 => Or.elim z9 (fun h9 => Or.inr (Or.inr (Or.inr (Or.inr (Or.inl h9))))) (fun z9 => Or.elim z9 (fun h9 => Or.inr (Or.inr (Or.inr (Or.inr (Or.inr (Or.inr (Or.inr (Or.inl h9)))))))) (fun z9 => Or.elim z9 (fun h9 => Or.inr (Or.inr (Or.inr (Or.inr (Or.inr (Or.inr (Or.inr (Or.inr (Or.inr (Or.inl h9)))))))))) (fun z9 => Or.elim z9 (fun h9 => Or.inr (Or.inr (Or.inr (Or.inr (Or.inr (Or.inr (Or.inr (Or.inr (Or.inr (Or.inr (Or.inl h9))))))))))) (fun z9 => Or.elim z9 (fun h9 => Or.inr (Or.inr (Or.inr (Or.inr (Or.inr (Or.inr (Or.inr (Or.inr (Or.inr (Or.inr (Or.inr (Or.inl h9)))))))))))) (fun h9 => Or.inr (Or.inr (Or.inr (Or.inr (Or.inr (Or.inr (Or.inr (Or.inr (Or.inr (Or.inr (Or.inr (Or.inr (h9)))))))))))))))))))) z8))).trans ((hg_M_5 a i (fun z8 => q0 ((fun z9 => Or.elim z9 (fun h9 => Or.inr (Or.inl h9)) (fun z9 => Or.elim z9 (fun h9 => Or.inr (Or.inr (Or.inr (Or.inl h9)))) (fun z9 => Or.elim z9 (fun h9 => Or.inr (Or.inr (Or.inr (Or.inr (Or.inl h9))))) (fun z9 => Or.elim z9 (fun h9 => Or.inr (Or.inr (Or.inr (Or.inr (Or.inr (Or.inr (Or.inr (Or.inl h9)))))))) (fun z9 => Or.elim z9 (fun h9 => Or.inr (Or.inr (Or.inr (Or.inr (Or.inr (Or.inr (Or.inr (Or.inr (Or.inr (Or.inl h9)))))))))) (fun z9 => Or.elim z9 (fun h9 => Or.inr (Or.inr (Or.inr (Or.inr (Or.inr (Or.inr (Or.inr (Or.inr (Or.inr (Or.inr (Or.inl h9))))))))))) (fun z9 => Or.elim z9 (fun h9 => Or.inr (Or.inr (Or.inr (Or.inr (Or.inr (Or.inr (Or.inr (Or.inr (Or.inr (Or.inr (Or.inr (Or.inl h9)))))))))))) (fun h9 => Or.inr (Or.inr (Or.inr (Or.inr (Or.inr (Or.inr (Or.inr (Or.inr (Or.inr (Or.inr (Or.inr (Or.inr (h9)))))))))))))))))))) z8))).trans ((congrFun (congrFun eM_3 a) i).trans ((mset_ne (fun h9 => q0 (Or.inr (Or.inr (Or.inr (Or.inr (Or.inr (Or.inr (Or.inr (Or.inl h9)))))))))).trans ((hg_M_2 a i (fun z8 => q0 ((fun z9 => Or.elim z9 (fun h9 => Or.inr (Or.inl h9)) (fun z9 => Or.elim z9 (fun h9 => Or.inr (Or.inr (Or.inl h9))) (fun z9 => Or.elim z9 (fun h9 => Or.inr (Or.inr (Or.inr (Or.inr (Or.inr (Or.inl h9)))))) (fun h9 => Or.inr (Or.inr (Or.inr (Or.inr (Or.inr (Or.inr (Or.inl h9)))))))))) z8))).trans rfl)))))))))), (by show 0 ≤ (M115 0 6).toInt ∧ (M115 0 6).toInt ≤ 260; have f0 := congrArg Int32.toInt (hf_M115 0 6 (by omega)); have f1 := congrArg Int32.toInt (hf_M92 0 6 (by omega)); have f2 := congrArg Int32.toInt ((congrFun (congrFun eM_6 0) 6).trans mset_eq); have f3 := t_lit 0; have f4 := congrArg Int32.toInt (hf_M115 0 33 (by omega)); have f5 := congrArg Int32.toInt (hf_M92 0 33 (by omega)); have f6 := congrArg Int32.toInt ((congrFun (congrFun eM_6 0) 33).trans (mset_ne (by omega))); omega), h115.1, hN115⟩
            · refine wp_gd (by have f0 := congrArg Int32.toInt (hf_M115 0 33 (by omega)); have f1 := congrArg Int32.toInt (hf_M92 0 33 (by omega)); have f2 := congrArg Int32.toInt ((congrFun (congrFun eM_6 0) 33).trans (mset_ne (by omega))); omega) ?_
              refine wp_gd (by have f0 := congrArg Int32.toInt (hf_M115 0 33 (by omega)); have f1 := congrArg Int32.toInt (hf_M92 0 33 (by omega)); have f2 := congrArg Int32.toInt ((congrFun (congrFun eM_6 0) 33).trans (mset_ne (by omega))); omega) ?_
              refine wp_gd (by have f0 := congrArg Int32.toInt (hf_M115 0 33 (by omega)); have f1 := congrArg Int32.toInt (hf_M92 0 33 (by omega)); have f2 := congrArg Int32.toInt ((congrFun (congrFun eM_6 0) 33).trans (mset_ne (by omega))); omega) ?_
              refine wp_gd (by have f0 := congrArg Int32.toInt (hf_M115 0 33 (by omega)); have f1 := congrArg Int32.toInt (hf_M92 0 33 (by omega)); have f2 := congrArg Int32.toInt ((congrFun (congrFun eM_6 0) 33).trans (mset_ne (by omega))); omega) ?_
              have fx := t_ixn y3_115 (by omega)
              have e20 : M115 20 (ix y3_115) = M36 20 (ix y3_115) := by rw [hf_M115 20 _ (by omega), hf_M92 20 _ (by omega), eM_6, mset_ne (by omega)]
              have e21 : M115 21 (ix y3_115) = M36 21 (ix y3_115) := by rw [hf_M115 21 _ (by omega), hf_M92 21 _ (by omega), eM_6, mset_ne (by omega)]
              have hlk := hok.2 (ix y3_115) (by omega)
              rw [← e20, ← e21] at hlk
              refine wp_bind2 (o_X10_laysStone M115 y3_115 (M115 19 (ix y3_115)) (M115 20 (ix y3_115)) (M115 21 (ix y3_115)) (M115 22 (ix y3_115)) (by have f0 := congrArg Int32.toInt (hf_M115 19 (ix y3_115) (by omega)); have f1 := congrArg Int32.toInt (hf_M92 19 (ix y3_115) (by omega)); have f2 := congrArg Int32.toInt ((congrFun (congrFun eM_6 19) (ix y3_115)).trans (mset_ne (by omega))); have f3 := congrArg Int32.toInt (hf_M115 20 (ix y3_115) (by omega)); have f4 := congrArg Int32.toInt (hf_M92 20 (ix y3_115) (by omega)); have f5 := congrArg Int32.toInt ((congrFun (congrFun eM_6 20) (ix y3_115)).trans (mset_ne (by omega))); have f6 := congrArg Int32.toInt (hf_M115 21 (ix y3_115) (by omega)); have f7 := congrArg Int32.toInt (hf_M92 21 (ix y3_115) (by omega)); have f8 := congrArg Int32.toInt ((congrFun (congrFun eM_6 21) (ix y3_115)).trans (mset_ne (by omega))); have f9 := congrArg Int32.toInt (hf_M115 22 (ix y3_115) (by omega)); have f10 := congrArg Int32.toInt (hf_M92 22 (ix y3_115) (by omega)); have f11 := congrArg Int32.toInt ((congrFun (congrFun eM_6 22) (ix y3_115)).trans (mset_ne (by omega))); have f12 := congrArg Int32.toInt (hf_M115 0 33 (by omega)); have f13 := congrArg Int32.toInt (hf_M92 0 33 (by omega)); have f14 := congrArg Int32.toInt ((congrFun (congrFun eM_6 0) 33).trans (mset_ne (by omega))); omega)) (fun M_7 he149 hq149 => ?_)
              obtain ⟨hg_M_7, hl_149⟩ := hq149
              replace hl_149 : (M_7 1 (ix y3_115)).toInt = 1 ∧ M_7 1 (80 + ix y3_115) = (M115 20 (ix y3_115)) ∧ M_7 1 (120 + ix y3_115) = (M115 21 (ix y3_115)) ∧ ∀ j : Nat, ¬ j = ix y3_115 → ¬ j = 40 + ix y3_115 → ¬ j = 80 + ix y3_115 → ¬ j = 120 + ix y3_115 → ¬ j = 160 + ix y3_115 → M_7 1 j = M115 1 j := hl_149
              replace hg_M_7 : ∀ a i, ¬ (a = 1) → M_7 a i = M115 a i := hg_M_7
              exact ih115 M_7 (y3_115 + (nI 1)) ⟨(fun a i q0 => ((hg_M_7 a i (fun h9 => q0 (h9))).trans ((hf_M115 a i (fun h9 => q0 (h9))).trans rfl))), (by rw [t_inc y3_115 1 (by omega)]; omega), ⟨st_lay (i := ix y3_115) (by omega) h115.1 (by rw [hl_149.2.1]; omega) (by rw [hl_149.2.2.1]; omega) hl_149.2.2.2, fun j hj hy => by rw [t_inc y3_115 1 (by omega)] at hy; rw [hl_149.2.2.2 j (by omega) (by omega) (by omega) (by omega) (by omega)]; exact h115.2 j hj (by omega)⟩, ((hl_149.2.2.2 200 (by omega) (by omega) (by omega) (by omega) (by omega)).trans hN115)⟩ (by have z1 := t_inc y3_115 1 (by omega); have z2 := congrArg Int32.toInt (hg_M_7 0 33 (by omega)); omega)
          refine wp_ite (fun c95 => ?_) (fun c95 => ?_)
          · exact j113 (by omega)
          · refine wp_gd (by omega) ?_
            refine wp_bnd (fun M_8 eM_8 => ?_)
            exact ih92 M_8 (y3_92 + (nI 1)) ⟨(by have f0 := t_lit 1; have f1 := t_add y3_92 (nI 1); omega), (fun a i q0 => ((congrFun (congrFun eM_8 a) i).trans ((mset_ne (fun h9 => q0 ((h9).1))).trans ((hf_M92 a i (fun h9 => q0 (h9))).trans rfl)))), (set_ext (P := fun _ x => x.toInt = 0) eM_8 (by omega) (by omega) h92 nI0), (by rw [eM_8, mset_ne (by have := t_ixn y3_92 (by omega); omega)]; exact hN92)⟩ (by have f0 := t_lit 1; have f1 := t_add y3_92 (nI 1); omega)
      refine wp_ite (fun c37 => ?_) (fun c37 => ?_)
      · exact j76
      · refine wp_ite (fun c48 => ?_) (fun c48 => ?_)
        · exact j76
        · refine wp_cb2 (o_X10_takesSign M36 (nI 59) (by have f0 := congrArg Int32.toInt (hf_M36 0 8 (by omega)); have f1 := congrArg Int32.toInt (hg_M_5 0 8 (by omega)); have f2 := congrArg Int32.toInt ((congrFun (congrFun eM_3 0) 8).trans (mset_ne (by omega))); have f3 := t_lit 59; omega) (by have f0 := t_lit 59; omega)) (fun r_9 M_10 he54 hq54 => ?_)
          obtain ⟨hz_r_9, hg_M_10, hp_54⟩ := hq54
          replace hp_54 : (M36 0 7).toInt ≤ (M_10 0 7).toInt ∧ (M_10 0 7).toInt ≤ (M36 0 8).toInt ∧ (¬ r_9.toInt = 0 → (M36 0 7).toInt < (M_10 0 7).toInt) := hp_54
          have := t_lit 59
          replace hg_M_10 : ∀ a i, ¬ ((a = 0 ∧ i = 7) ∨ (a = 0 ∧ i = 9)) → M_10 a i = M36 a i := hg_M_10
          have c8 := congrArg Int32.toInt (hg_M_10 0 8 (by omega))
          refine wp_ite (fun c57 => ?_) (fun c57 => ?_)
          · exact ih36 M_10 (nI 0) ⟨(fun a i q0 => ((hg_M_10 a i (fun z8 => q0 ((fun z9 => Or.elim z9 (fun h9 => Or.inl h9) (fun h9 => Or.inr (Or.inl h9))) z8))).trans ((hf_M36 a i (fun z8 => q0 ((fun z9 => Or.elim z9 (fun h9 => Or.inl h9) (fun z9 => Or.elim z9 (fun h9 => Or.inr (Or.inl h9)) (fun z9 => Or.elim z9 (fun h9 => Or.inr (Or.inr (Or.inl h9))) (fun z9 => Or.elim z9 (fun h9 => Or.inr (Or.inr (Or.inr (Or.inl h9)))) (fun z9 => Or.elim z9 (fun h9 => Or.inr (Or.inr (Or.inr (Or.inr (Or.inl h9))))) (fun z9 => Or.elim z9 (fun h9 => Or.inr (Or.inr (Or.inr (Or.inr (Or.inr (Or.inl h9)))))) (fun z9 => Or.elim z9 (fun h9 => Or.inr (Or.inr (Or.inr (Or.inr (Or.inr (Or.inr (Or.inl h9))))))) (fun h9 => Or.inr (Or.inr (Or.inr (Or.inr (Or.inr (Or.inr (Or.inr (h9))))))))))))))) z8))).trans rfl))), ⟨by omega, by omega, fun h => absurd nI0 h⟩⟩ (mu_d0 c37)
          · refine wp_cb2 (o_X10_readsLine M_10 (by omega) (by have e3 := congrArg Int32.toInt (hg_M_10 0 33 (by omega)); have := (h36.2.2 c37).1; omega) (fun j hj => by rw [hg_M_10 20 j (by omega), hg_M_10 21 j (by omega)]; exact (h36.2.2 c37).2 j (by have e3 := congrArg Int32.toInt (hg_M_10 0 33 (by omega)); omega))) (fun r_11 M_12 he61 hq61 => ?_)
            obtain ⟨hz_r_11, hg_M_12, hp_61, hk_61⟩ := hq61
            replace hp_61 : (M_10 0 7).toInt ≤ (M_12 0 7).toInt ∧ (M_12 0 7).toInt ≤ (M_10 0 8).toInt ∧ (¬ r_11.toInt = 0 → (M_10 0 7).toInt < (M_12 0 7).toInt) := hp_61
            replace hk_61 : ¬ r_11.toInt = 0 → (M_12 0 33).toInt = (M_10 0 33).toInt + 1 ∧ (M_10 0 33).toInt < 40 ∧ (∀ j : Nat, (j : Int) < (M_12 0 33).toInt → 1 ≤ (M_12 20 j).toInt ∧ (M_12 20 j).toInt ≤ 20 ∧ 0 ≤ (M_12 21 j).toInt ∧ (M_12 21 j).toInt ≤ 9) := hk_61
            replace hg_M_12 : ∀ a i, ¬ ((a = 0 ∧ i = 7) ∨ (a = 0 ∧ i = 9) ∨ (a = 0 ∧ i = 10) ∨ (a = 0 ∧ i = 33) ∨ a = 19 ∨ a = 20 ∨ a = 21 ∨ a = 22) → M_12 a i = M_10 a i := hg_M_12
            have d8 := congrArg Int32.toInt (hg_M_12 0 8 (by omega))
            refine wp_ite (fun c64 => ?_) (fun c64 => ?_)
            · exact ih36 M_12 (nI 0) ⟨(fun a i q0 => ((hg_M_12 a i (fun z8 => q0 ((fun z9 => Or.elim z9 (fun h9 => Or.inl h9) (fun z9 => Or.elim z9 (fun h9 => Or.inr (Or.inl h9)) (fun z9 => Or.elim z9 (fun h9 => Or.inr (Or.inr (Or.inl h9))) (fun z9 => Or.elim z9 (fun h9 => Or.inr (Or.inr (Or.inr (Or.inl h9)))) (fun z9 => Or.elim z9 (fun h9 => Or.inr (Or.inr (Or.inr (Or.inr (Or.inl h9))))) (fun z9 => Or.elim z9 (fun h9 => Or.inr (Or.inr (Or.inr (Or.inr (Or.inr (Or.inl h9)))))) (fun z9 => Or.elim z9 (fun h9 => Or.inr (Or.inr (Or.inr (Or.inr (Or.inr (Or.inr (Or.inl h9))))))) (fun h9 => Or.inr (Or.inr (Or.inr (Or.inr (Or.inr (Or.inr (Or.inr (h9))))))))))))))) z8))).trans ((hg_M_10 a i (fun z8 => q0 ((fun z9 => Or.elim z9 (fun h9 => Or.inl h9) (fun h9 => Or.inr (Or.inl h9))) z8))).trans ((hf_M36 a i (fun z8 => q0 ((fun z9 => Or.elim z9 (fun h9 => Or.inl h9) (fun z9 => Or.elim z9 (fun h9 => Or.inr (Or.inl h9)) (fun z9 => Or.elim z9 (fun h9 => Or.inr (Or.inr (Or.inl h9))) (fun z9 => Or.elim z9 (fun h9 => Or.inr (Or.inr (Or.inr (Or.inl h9)))) (fun z9 => Or.elim z9 (fun h9 => Or.inr (Or.inr (Or.inr (Or.inr (Or.inl h9))))) (fun z9 => Or.elim z9 (fun h9 => Or.inr (Or.inr (Or.inr (Or.inr (Or.inr (Or.inl h9)))))) (fun z9 => Or.elim z9 (fun h9 => Or.inr (Or.inr (Or.inr (Or.inr (Or.inr (Or.inr (Or.inl h9))))))) (fun h9 => Or.inr (Or.inr (Or.inr (Or.inr (Or.inr (Or.inr (Or.inr (h9))))))))))))))) z8))).trans rfl)))), ⟨by omega, by omega, fun h => absurd nI0 h⟩⟩ (mu_d0 c37)
            · exact ih36 M_12 (nI 1) ⟨(fun a i q0 => ((hg_M_12 a i (fun z8 => q0 ((fun z9 => Or.elim z9 (fun h9 => Or.inl h9) (fun z9 => Or.elim z9 (fun h9 => Or.inr (Or.inl h9)) (fun z9 => Or.elim z9 (fun h9 => Or.inr (Or.inr (Or.inl h9))) (fun z9 => Or.elim z9 (fun h9 => Or.inr (Or.inr (Or.inr (Or.inl h9)))) (fun z9 => Or.elim z9 (fun h9 => Or.inr (Or.inr (Or.inr (Or.inr (Or.inl h9))))) (fun z9 => Or.elim z9 (fun h9 => Or.inr (Or.inr (Or.inr (Or.inr (Or.inr (Or.inl h9)))))) (fun z9 => Or.elim z9 (fun h9 => Or.inr (Or.inr (Or.inr (Or.inr (Or.inr (Or.inr (Or.inl h9))))))) (fun h9 => Or.inr (Or.inr (Or.inr (Or.inr (Or.inr (Or.inr (Or.inr (h9))))))))))))))) z8))).trans ((hg_M_10 a i (fun z8 => q0 ((fun z9 => Or.elim z9 (fun h9 => Or.inl h9) (fun h9 => Or.inr (Or.inl h9))) z8))).trans ((hf_M36 a i (fun z8 => q0 ((fun z9 => Or.elim z9 (fun h9 => Or.inl h9) (fun z9 => Or.elim z9 (fun h9 => Or.inr (Or.inl h9)) (fun z9 => Or.elim z9 (fun h9 => Or.inr (Or.inr (Or.inl h9))) (fun z9 => Or.elim z9 (fun h9 => Or.inr (Or.inr (Or.inr (Or.inl h9)))) (fun z9 => Or.elim z9 (fun h9 => Or.inr (Or.inr (Or.inr (Or.inr (Or.inl h9))))) (fun z9 => Or.elim z9 (fun h9 => Or.inr (Or.inr (Or.inr (Or.inr (Or.inr (Or.inl h9)))))) (fun z9 => Or.elim z9 (fun h9 => Or.inr (Or.inr (Or.inr (Or.inr (Or.inr (Or.inr (Or.inl h9))))))) (fun h9 => Or.inr (Or.inr (Or.inr (Or.inr (Or.inr (Or.inr (Or.inr (h9))))))))))))))) z8))).trans rfl)))), ⟨by omega, by omega, fun _ => ⟨by have e3 := congrArg Int32.toInt (hg_M_10 0 33 (by omega)); have := (hk_61 (by omega)).1; have := (hk_61 (by omega)).2.1; have := (h36.2.2 c37).1; omega, (hk_61 (by omega)).2.2⟩⟩⟩ (mu_d1 c37 (by omega))
    · exact wp_some ⟨(fun _ _ _ => rfl), (by show 0 ≤ (M 0 6).toInt ∧ (M 0 6).toInt ≤ 260; have f0 := (by decide : ((-1 : Int32)).toInt = -1); omega), (by have e9 : M 1 = M 1 := funext (fun i => rfl); show ST (M 1); rw [e9]; exact hst), rfl⟩
theorem o3_X10_undo (M : Mem) (hst : ST (M 1)) (hsk : ST (M 3)) : Wp (f_X10_undo M) (fun q => (q.1 = 0 ∨ q.1 = 1) ∧ (∀ a i, ¬ (a = 1) → q.2 a i = M a i) ∧ (ST (q.2 1)) ∧ (q.1 = (if (M 0 54).toInt = 0 then nI 0 else nI 1)) ∧ (q.2 1 200 = (if (M 0 54).toInt = 0 then M 1 200 else M 3 200))) := by
  refine wp_ite (fun c4 => ?_) (fun c4 => ?_)
  · exact wp_some ⟨b01_0, (fun _ _ _ => rfl), hst, (if_pos c4).symm, (if_pos c4).symm⟩
  · refine wp_bind2 (o_X10_copies (by decide) (by decide) M (by omega) (by omega)) (fun M_1 he17 hq17 => ?_)
    obtain ⟨hg_M_1, hc_17⟩ := hq17
    replace hc_17 : ∀ j : Nat, j < 202 → M_1 1 j = M 3 j := hc_17
    replace hg_M_1 : ∀ a i, ¬ (a = 1) → M_1 a i = M a i := by exact fun a i q0 => hg_M_1 a i (by omega)
    exact wp_some ⟨b01_1, (fun a i q0 => ((hg_M_1 a i (fun h9 => q0 (h9))).trans rfl)), (st_copy hsk (fun j hj => hc_17 j hj)), (if_neg c4).symm, (by rw [if_neg c4]; exact hc_17 200 (by omega))⟩
theorem o3_X10_keep (M : Mem) (hst : ST (M 1)) : Wp (f_X10_keep M) (fun q => (∀ a i, ¬ ((a = 0 ∧ i = 54) ∨ a = 3) → q.2 a i = M a i) ∧ (ST (q.2 1)) ∧ (ST (q.2 3)) ∧ (q.2 0 54 = 1) ∧ (q.2 3 200 = M 1 200) ∧ (q.1 = M 1 200)) := by
  refine wp_bnd (fun M_1 eM_1 => ?_)
  refine wp_bind2 (o_X10_copies (by decide) (by decide) M_1 (by omega) (by omega)) (fun M_2 he13 hq13 => ?_)
  obtain ⟨hg_M_2, hc_13⟩ := hq13
  replace hc_13 : ∀ j : Nat, j < 202 → M_2 3 j = M_1 1 j := hc_13
  replace hg_M_2 : ∀ a i, ¬ (a = 3) → M_2 a i = M_1 a i := by exact fun a i q0 => hg_M_2 a i (by omega)
  exact wp_some ⟨(fun a i q0 => ((hg_M_2 a i (fun h9 => q0 (Or.inr (h9)))).trans ((congrFun (congrFun eM_1 a) i).trans ((mset_ne (fun h9 => q0 (Or.inl h9))).trans rfl)))), (by have e9 : M_2 1 = M 1 := funext (fun i => ((hg_M_2 1 i (by omega)).trans ((congrFun (congrFun eM_1 1) i).trans ((mset_ne (by omega)).trans rfl)))); show ST (M_2 1); rw [e9]; exact hst), (st_copy hst (fun j hj => by show M_2 3 j = M 1 j; rw [hc_13 j hj, eM_1, mset_ne (by omega)])), (by show M_2 0 54 = 1; rw [hg_M_2 0 54 (by omega), eM_1, mset_eq]; decide), (by show M_2 3 200 = M 1 200; rw [hc_13 200 (by omega), eM_1, mset_ne (by omega)]), (by show M_2 1 200 = M 1 200; rw [hg_M_2 1 200 (by omega), eM_1, mset_ne (by omega)])⟩
