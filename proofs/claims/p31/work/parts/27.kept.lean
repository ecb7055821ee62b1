/-! what is kept between two calls -/
def InvC (M : Mem) : Prop := ((M 0 10).toInt = 44 ∨ (M 0 10).toInt = 52) ∧ ((M 0 11).toInt = 44 ∨ (M 0 11).toInt = 52) ∧ (M 0 12 = 0 ∨ M 0 12 = 1)
def InvM (M : Mem) : Prop := ST (M 1) ∧ ST (M 3) ∧ (0 ≤ (M 0 6).toInt ∧ (M 0 6).toInt ≤ 260) ∧ Gl M
theorem invC_fr {M M' : Mem} (h : InvC M) (e1 : M' 0 10 = M 0 10) (e2 : M' 0 11 = M 0 11) (e3 : M' 0 12 = M 0 12) : InvC M' := by
  unfold InvC
  rw [e1, e2, e3]
  exact h
theorem st_y {f : Nat → Int32} (h : ST f) : ∀ j : Nat, j < 40 → (f j).toInt = 1 → 1 ≤ (f (80 + j)).toInt ∧ (f (80 + j)).toInt ≤ 20 := fun j hj h1 => ⟨(h j hj h1).1, (h j hj h1).2.1⟩
theorem tp_fr {x y : Int32} (h : 0 ≤ x.toInt ∧ x.toInt ≤ 260) (e : y = x) : 0 ≤ y.toInt ∧ y.toInt ≤ 260 := e ▸ h
theorem o2_X9_keep (M : Mem) : Wp (f_X9_keep M) (fun q => (∀ a i, ¬ ((a = 0 ∧ i = 12) ∨ (a = 7 ∧ i = 5) ∨ (a = 7 ∧ i = 6) ∨ a = 8 ∨ a = 9 ∨ a = 10 ∨ a = 11 ∨ a = 12) → q.2 a i = M a i) ∧ (q.2 0 12 = 1)) := by
  refine wp_bind2 (o_X2_copyAll (Or.inr (Or.inl rfl)) (Or.inl rfl) M) (fun M_1 he8 hq8 => ?_)
  have hg_M_1 := hq8
  replace hg_M_1 : ∀ a i, ¬ ((a = 7 ∧ i = 5) ∨ (a = 7 ∧ i = 6) ∨ a = 8 ∨ a = 9 ∨ a = 10 ∨ a = 11 ∨ a = 12) → M_1 a i = M a i := by exact fun a i q0 => hg_M_1 a i (by omega)
  refine wp_bnd (fun M_2 eM_2 => ?_)
  exact wp_some ⟨(fun a i q0 => ((congrFun (congrFun eM_2 a) i).trans ((mset_ne (fun h9 => q0 (Or.inl h9))).trans ((hg_M_1 a i (fun z8 => q0 ((fun z9 => Or.elim z9 (fun h9 => Or.inr (Or.inl h9)) (fun z9 => Or.elim z9 (fun h9 => Or.inr (Or.inr (Or.inl h9))) (fun z9 => Or.elim z9 (fun h9 => Or.inr (Or.inr (Or.inr (Or.inl h9)))) (fun z9 => Or.elim z9 (fun h9 => Or.inr (Or.inr (Or.inr (Or.inr (Or.inl h9))))) (fun z9 => Or.elim z9 (fun h9 => Or.inr (Or.inr (Or.inr (Or.inr (Or.inr (Or.inl h9)))))) (fun z9 => Or.elim z9 (fun h9 => Or.inr (Or.inr (Or.inr (Or.inr (Or.inr (Or.inr (Or.inl h9))))))) (fun h9 => Or.inr (Or.inr (Or.inr (Or.inr (Or.inr (Or.inr (Or.inr (h9)))))))))))))) z8))).trans rfl)))), (by show M_2 0 12 = 1; rw [eM_2, mset_eq]; decide)⟩
theorem o2_X9_seed (M : Mem) (v1 : Int32) : Wp (f_X9_seed M v1) (fun q => (q.1 = 0 ∨ q.1 = 1) ∧ (∀ a i, ¬ ((a = 1 ∧ i = 6)) → q.2 a i = M a i) ∧ (q.1 = (if 0 ≤ v1.toInt ∧ v1.toInt ≤ 65535 then nI 1 else nI 0))) := by
  refine wp_ite (fun c1 => ?_) (fun c1 => ?_)
  · exact wp_some ⟨b01_0, (fun _ _ _ => rfl), (if_neg (by omega)).symm⟩
  · refine wp_ite (fun c8 => ?_) (fun c8 => ?_)
    · refine wp_bnd (fun M_1 eM_1 => ?_)
      exact wp_some ⟨b01_1, (fun a i q0 => ((congrFun (congrFun eM_1 a) i).trans ((mset_ne (fun h9 => q0 (h9))).trans rfl))), (if_pos (by omega)).symm⟩
    · exact wp_some ⟨b01_0, (fun _ _ _ => rfl), (if_neg (by omega)).symm⟩
theorem o2_X9_undo (M : Mem) (hK : M 0 12 = 0 ∨ M 0 12 = 1) : Wp (f_X9_undo M) (fun q => (q.1 = 0 ∨ q.1 = 1) ∧ (∀ a i, ¬ ((a = 1 ∧ i = 5) ∨ (a = 1 ∧ i = 6) ∨ a = 2 ∨ a = 3 ∨ a = 4 ∨ a = 5 ∨ a = 6) → q.2 a i = M a i) ∧ (q.1 = M 0 12)) := by
  refine wp_ite (fun c4 => ?_) (fun c4 => ?_)
  · refine wp_gb hK ?_
    exact wp_some ⟨hK, (fun _ _ _ => rfl), rfl⟩
  · refine wp_bind2 (o_X2_copyAll (Or.inl rfl) (Or.inr (Or.inl rfl)) M) (fun M_1 he15 hq15 => ?_)
    have hg_M_1 := hq15
    replace hg_M_1 : ∀ a i, ¬ ((a = 1 ∧ i = 5) ∨ (a = 1 ∧ i = 6) ∨ a = 2 ∨ a = 3 ∨ a = 4 ∨ a = 5 ∨ a = 6) → M_1 a i = M a i := by exact fun a i q0 => hg_M_1 a i (by omega)
    refine wp_gb (by rw [hg_M_1 0 12 (by omega)]; exact hK) ?_
    exact wp_some ⟨(by rw [hg_M_1 0 12 (by omega)]; exact hK), (fun a i q0 => ((hg_M_1 a i (fun z8 => q0 ((fun z9 => Or.elim z9 (fun h9 => Or.inl h9) (fun z9 => Or.elim z9 (fun h9 => Or.inr (Or.inl h9)) (fun z9 => Or.elim z9 (fun h9 => Or.inr (Or.inr (Or.inl h9))) (fun z9 => Or.elim z9 (fun h9 => Or.inr (Or.inr (Or.inr (Or.inl h9)))) (fun z9 => Or.elim z9 (fun h9 => Or.inr (Or.inr (Or.inr (Or.inr (Or.inl h9))))) (fun z9 => Or.elim z9 (fun h9 => Or.inr (Or.inr (Or.inr (Or.inr (Or.inr (Or.inl h9)))))) (fun h9 => Or.inr (Or.inr (Or.inr (Or.inr (Or.inr (Or.inr (h9))))))))))))) z8))).trans rfl)), (hg_M_1 0 12 (by omega))⟩
theorem o2_X9_isStride (M : Mem) (v0 : Int32) : Wp (f_X9_isStride v0) (fun q => (q = 0 ∨ q = 1) ∧ (¬ q.toInt = 0 ↔ 1 ≤ v0.toInt ∧ v0.toInt ≤ 30)) := by
  refine wp_ite (fun c2 => ?_) (fun c2 => ?_)
  · exact wp_some ⟨b01_0, ⟨fun z => absurd nI0 z, fun z => absurd z (by omega)⟩⟩
  · refine wp_ite (fun c8 => ?_) (fun c8 => ?_)
    · exact wp_some ⟨b01_0, ⟨fun z => absurd nI0 z, fun z => absurd z (by omega)⟩⟩
    · exact wp_some ⟨b01_1, ⟨fun _ => by omega, fun _ => by decide⟩⟩
theorem o2_X9_person (M : Mem) (v1 : Int32) (v2 : Int32) : Wp (f_X9_person M v1 v2) (fun q => (q.1 = 0 ∨ q.1 = 1) ∧ (∀ a i, ¬ (a = 43) → q.2 a i = M a i) ∧ (q.1 = (if (0 ≤ v1.toInt ∧ v1.toInt < 8) ∧ 1 ≤ v2.toInt ∧ v2.toInt ≤ 30 then nI 1 else nI 0))) := by
  refine wp_ite (fun c1 => ?_) (fun c1 => ?_)
  · exact wp_some ⟨b01_0, (fun _ _ _ => rfl), (if_neg (by omega)).symm⟩
  · refine wp_ite (fun c7 => ?_) (fun c7 => ?_)
    · exact wp_some ⟨b01_0, (fun _ _ _ => rfl), (if_neg (by omega)).symm⟩
    · refine wp_bind2 (o2_X9_isStride M v2) (fun r_1 he11 hq11 => ?_)
      obtain ⟨hz_r_1, hr_11⟩ := hq11
      replace hr_11 : ¬ r_1.toInt = 0 ↔ 1 ≤ v2.toInt ∧ v2.toInt ≤ 30 := hr_11
      refine wp_ite (fun c14 => ?_) (fun c14 => ?_)
      · exact wp_some ⟨b01_0, (fun _ _ _ => rfl), (if_neg (by omega)).symm⟩
      · refine wp_gd (by omega) ?_
        refine wp_bnd (fun M_2 eM_2 => ?_)
        exact wp_some ⟨b01_1, (fun a i q0 => ((congrFun (congrFun eM_2 a) i).trans ((mset_ne (fun h9 => q0 ((h9).1))).trans rfl))), (if_pos (by omega)).symm⟩
theorem o2_X10_in (M : Mem) (v0 : Int32) (v1 : Int32) (v2 : Int32) : Wp (f_X10_in v0 v1 v2) (fun q => (q = 0 ∨ q = 1) ∧ (¬ q.toInt = 0 → v1.toInt ≤ v0.toInt ∧ v0.toInt ≤ v2.toInt) ∧ (¬ q.toInt = 0 ↔ v1.toInt ≤ v0.toInt ∧ v0.toInt ≤ v2.toInt)) := by
  refine wp_ite (fun c2 => ?_) (fun c2 => ?_)
  · exact wp_some ⟨b01_0, (fun z => absurd nI0 z), ⟨fun z => absurd nI0 z, fun z => absurd z (by omega)⟩⟩
  · refine wp_ite (fun c7 => ?_) (fun c7 => ?_)
    · exact wp_some ⟨b01_0, (fun z => absurd nI0 z), ⟨fun z => absurd nI0 z, fun z => absurd z (by omega)⟩⟩
    · exact wp_some ⟨b01_1, (fun _ => by omega), ⟨fun _ => by omega, fun _ => by decide⟩⟩
theorem o2_X10_person (M : Mem) (v1 : Int32) (v2 : Int32) : Wp (f_X10_person M v1 v2) (fun q => (q.1 = 0 ∨ q.1 = 1) ∧ (∀ a i, ¬ ((a = 0 ∧ i = 4) ∨ a = 4) → q.2 a i = M a i) ∧ (q.1 = (if (0 ≤ v1.toInt ∧ v1.toInt < 8) ∧ 1 ≤ v2.toInt ∧ v2.toInt ≤ 30 then nI 1 else nI 0))) := by
  refine wp_bind2 (o2_X10_in M v1 (nI 0) (nI 7)) (fun r_1 he4 hq4 => ?_)
  obtain ⟨hz_r_1, hr_4, hi_4⟩ := hq4
  replace hr_4 : ¬ r_1.toInt = 0 → (nI 0).toInt ≤ v1.toInt ∧ v1.toInt ≤ (nI 7).toInt := hr_4
  have := t_lit 0
  have := t_lit 7
  replace hi_4 : ¬ r_1.toInt = 0 ↔ (nI 0).toInt ≤ v1.toInt ∧ v1.toInt ≤ (nI 7).toInt := hi_4
  have := t_lit 0
  have := t_lit 7
  refine wp_ite (fun c7 => ?_) (fun c7 => ?_)
  · exact wp_some ⟨b01_0, (fun _ _ _ => rfl), (if_neg (by omega)).symm⟩
  · refine wp_bind2 (o2_X10_in M v2 (nI 1) (nI 30)) (fun r_2 he14 hq14 => ?_)
    obtain ⟨hz_r_2, hr_14, hi_14⟩ := hq14
    replace hr_14 : ¬ r_2.toInt = 0 → (nI 1).toInt ≤ v2.toInt ∧ v2.toInt ≤ (nI 30).toInt := hr_14
    have := t_lit 1
    have := t_lit 30
    replace hi_14 : ¬ r_2.toInt = 0 ↔ (nI 1).toInt ≤ v2.toInt ∧ v2.toInt ≤ (nI 30).toInt := hi_14
    have := t_lit 1
    have := t_lit 30
    refine wp_ite (fun c17 => ?_) (fun c17 => ?_)
    · exact wp_some ⟨b01_0, (fun _ _ _ => rfl), (if_neg (by omega)).symm⟩
    · refine wp_bnd (fun M_3 eM_3 => ?_)
      refine wp_gd (by omega) ?_
      refine wp_bnd (fun M_4 eM_4 => ?_)
      exact wp_some ⟨b01_1, (fun a i q0 => ((congrFun (congrFun eM_4 a) i).trans ((mset_ne (fun h9 => q0 (Or.inr ((h9).1)))).trans ((congrFun (congrFun eM_3 a) i).trans ((mset_ne (fun h9 => q0 (Or.inl h9))).trans rfl))))), (if_pos (by omega)).symm⟩
theorem o2_X10_seed (M : Mem) (v1 : Int32) (hst : ST (M 1)) : Wp (f_X10_seed M v1) (fun q => (q.1 = 0 ∨ q.1 = 1) ∧ (∀ a i, ¬ (a = 1) → q.2 a i = M a i) ∧ (ST (q.2 1)) ∧ (q.1 = (if 0 ≤ v1.toInt ∧ v1.toInt ≤ 65535 then nI 1 else nI 0))) := by
  refine wp_bind2 (o2_X10_in M v1 (nI 0) (nI 65535)) (fun r_1 he5 hq5 => ?_)
  obtain ⟨hz_r_1, hr_5, hi_5⟩ := hq5
  replace hr_5 : ¬ r_1.toInt = 0 → (nI 0).toInt ≤ v1.toInt ∧ v1.toInt ≤ (nI 65535).toInt := hr_5
  have := t_lit 0
  have := t_lit 65535
  replace hi_5 : ¬ r_1.toInt = 0 ↔ (nI 0).toInt ≤ v1.toInt ∧ v1.toInt ≤ (nI 65535).toInt := hi_5
  have := t_lit 0
  have := t_lit 65535
  refine wp_ite (fun c8 => ?_) (fun c8 => ?_)
  · exact wp_some ⟨b01_0, (fun _ _ _ => rfl), hst, (if_neg (by omega)).symm⟩
  · refine wp_bnd (fun M_2 eM_2 => ?_)
    exact wp_some ⟨b01_1, (fun a i q0 => ((congrFun (congrFun eM_2 a) i).trans ((mset_ne (fun h9 => q0 ((h9).1))).trans rfl))), (st_hi (i := 41) hst (fun j hj => by show M_2 1 j = M 1 j; rw [eM_2, mset_ne (by omega)])), (if_pos (by omega)).symm⟩
theorem o2_X10_check (M : Mem) (v1 : Int32) (ht : 0 ≤ (M 0 6).toInt ∧ (M 0 6).toInt ≤ 260) : Wp (f_X10_check M v1) (fun q => (∀ a i, ¬ ((a = 0 ∧ i = 6)) → q.2 a i = M a i) ∧ (0 ≤ (q.2 0 6).toInt ∧ (q.2 0 6).toInt ≤ 260)) := by
  refine wp_bind2 (o2_X10_in M v1 (nI 0) (nI 40)) (fun r_1 he4 hq4 => ?_)
  obtain ⟨hz_r_1, hr_4, hi_4⟩ := hq4
  replace hr_4 : ¬ r_1.toInt = 0 → (nI 0).toInt ≤ v1.toInt ∧ v1.toInt ≤ (nI 40).toInt := hr_4
  have := t_lit 0
  have := t_lit 40
  replace hi_4 : ¬ r_1.toInt = 0 ↔ (nI 0).toInt ≤ v1.toInt ∧ v1.toInt ≤ (nI 40).toInt := hi_4
  have := t_lit 0
  have := t_lit 40
  refine wp_ite (fun c7 => ?_) (fun c7 => ?_)
  · exact wp_some ⟨(fun _ _ _ => rfl), ht⟩
  · refine wp_ite (fun c15 => ?_) (fun c15 => ?_)
    · refine wp_bnd (fun M_2 eM_2 => ?_)
      have ft1 := t_rng v1
      refine wp_lp1 (fun y2_28 => (0 ≤ y2_28.toInt)) (fun y2_28 => (v1.toInt - y2_28.toInt).toNat) (fun ag28 y2_28 hI28 ih28 => ?_) FU (nI 0) (by have f0 := t_lit 0; omega) (fu_lt (by have f0 := t_lit 0; omega))
      have hi28 := hI28
      refine wp_ite (fun c30 => ?_) (fun c30 => ?_)
      · exact wp_some ⟨(fun a i q0 => ((congrFun (congrFun eM_2 a) i).trans ((mset_ne (fun h9 => q0 (h9))).trans rfl))), (by show 0 ≤ (M_2 0 6).toInt ∧ (M_2 0 6).toInt ≤ 260; rw [eM_2, mset_eq]; decide)⟩
      · refine wp_bind2 (o_X10_octet M_2 y2_28 (by omega)) (fun r_3 he35 hq35 => ?_)
        refine wp_bind2 (o_X10_isStone M_2 y2_28) (fun r_4 he40 hq40 => ?_)
        obtain ⟨hz_r_4, hr_40⟩ := hq40
        replace hr_40 : ¬ r_4.toInt = 0 → (0 ≤ y2_28.toInt ∧ y2_28.toInt < 40) ∧ (M_2 1 (ix y2_28)).toInt = 1 := hr_40
        have j61 : ∀ (t0_61 : Int32), Wp (f_X10_check_L61 M_2 ag28 y2_28 r_3 t0_61) (fun q => (∀ a i, ¬ ((a = 0 ∧ i = 6)) → q.2 a i = M a i) ∧ (0 ≤ (q.2 0 6).toInt ∧ (q.2 0 6).toInt ≤ 260)) := by
          intro t0_61
          unfold f_X10_check_L61
          refine wp_ite (fun c61 => ?_) (fun c61 => ?_)
          · exact ih28 (y2_28 + (nI 1)) (by have f0 := t_lit 1; have f1 := t_add y2_28 (nI 1); omega) (by have f0 := t_lit 1; have f1 := t_add y2_28 (nI 1); omega)
          · exact wp_some ⟨(fun a i q0 => ((congrFun (congrFun eM_2 a) i).trans ((mset_ne (fun h9 => q0 (h9))).trans rfl))), (by show 0 ≤ (M_2 0 6).toInt ∧ (M_2 0 6).toInt ≤ 260; rw [eM_2, mset_eq]; decide)⟩
        refine wp_ite (fun c43 => ?_) (fun c43 => ?_)
        · exact j61 (nI 255)
        · refine wp_gd (by have f0 := t_lit 40; have f1 := t_add (nI 40) y2_28; omega) ?_
          exact j61 (M_2 1 (ix ((nI 40) + y2_28)))
    · exact wp_some ⟨(fun _ _ _ => rfl), ht⟩
theorem o2_X10_letters (M : Mem) (v1 : Int32) (v2 : Int32) (ht : 0 ≤ (M 0 6).toInt ∧ (M 0 6).toInt ≤ 260) : Wp (f_X10_letters M v1 v2) (fun q => (∀ a i, ¬ ((a = 0 ∧ i = 6)) → q.2 a i = M a i) ∧ (0 ≤ (q.2 0 6).toInt ∧ (q.2 0 6).toInt ≤ 260)) := by
  refine wp_bind2 (o2_X10_in M v1 (nI 1) (nI 8)) (fun r_1 he4 hq4 => ?_)
  obtain ⟨hz_r_1, hr_4, hi_4⟩ := hq4
  replace hr_4 : ¬ r_1.toInt = 0 → (nI 1).toInt ≤ v1.toInt ∧ v1.toInt ≤ (nI 8).toInt := hr_4
  have := t_lit 1
  have := t_lit 8
  replace hi_4 : ¬ r_1.toInt = 0 ↔ (nI 1).toInt ≤ v1.toInt ∧ v1.toInt ≤ (nI 8).toInt := hi_4
  have := t_lit 1
  have := t_lit 8
  refine wp_ite (fun c7 => ?_) (fun c7 => ?_)
  · exact wp_some ⟨(fun _ _ _ => rfl), ht⟩
  · refine wp_bind2 (o2_X10_in M v2 (nI 0) (nI 1)) (fun r_2 he13 hq13 => ?_)
    obtain ⟨hz_r_2, hr_13, hi_13⟩ := hq13
    replace hr_13 : ¬ r_2.toInt = 0 → (nI 0).toInt ≤ v2.toInt ∧ v2.toInt ≤ (nI 1).toInt := hr_13
    have := t_lit 0
    have := t_lit 1
    replace hi_13 : ¬ r_2.toInt = 0 ↔ (nI 0).toInt ≤ v2.toInt ∧ v2.toInt ≤ (nI 1).toInt := hi_13
    have := t_lit 0
    have := t_lit 1
    refine wp_ite (fun c16 => ?_) (fun c16 => ?_)
    · exact wp_some ⟨(fun _ _ _ => rfl), ht⟩
    · refine wp_ite (fun c24 => ?_) (fun c24 => ?_)
      · refine wp_bnd (fun M_3 eM_3 => ?_)
        have ft1 := t_rng v1
        refine wp_lp1 (fun y3_36 => (0 ≤ y3_36.toInt)) (fun y3_36 => (v1.toInt - y3_36.toInt).toNat) (fun ag36 y3_36 hI36 ih36 => ?_) FU (nI 0) (by have f0 := t_lit 0; omega) (fu_lt (by have f0 := t_lit 0; omega))
        have hi36 := hI36
        have j58 : Wp (f_X10_letters_L58 v1 v2 M_3) (fun q => (∀ a i, ¬ ((a = 0 ∧ i = 6)) → q.2 a i = M a i) ∧ (0 ≤ (q.2 0 6).toInt ∧ (q.2 0 6).toInt ≤ 260)) := by
          unfold f_X10_letters_L58
          have hsh := shl8 (hr_4 (by omega)).1 (by have := t_lit 1; have := t_lit 8; omega)
          refine wp_lp3 (fun y3_68 y4_68 y5_68 => (1 ≤ y5_68.toInt ∧ y5_68.toInt ≤ 300)) (fun y3_68 y4_68 y5_68 => (300 - y5_68.toInt).toNat) (fun ag68 y3_68 y4_68 y5_68 hI68 ih68 => ?_) FU (nI 0) (nI 1000000) (nI 1) (by decide) (fu_lt (by have f0 := t_lit 1; have f1 := t_lit 0; have f2 := t_lit 1000000; omega))
          have hy := hI68
          have j157 : Wp (f_X10_letters_L157 v2 M_3 y3_68 y4_68) (fun q => (∀ a i, ¬ ((a = 0 ∧ i = 6)) → q.2 a i = M a i) ∧ (0 ≤ (q.2 0 6).toInt ∧ (q.2 0 6).toInt ≤ 260)) := by
            unfold f_X10_letters_L157
            refine wp_ite (fun c158 => ?_) (fun c158 => ?_)
            · exact wp_some ⟨(fun a i q0 => ((congrFun (congrFun eM_3 a) i).trans ((mset_ne (fun h9 => q0 (h9))).trans rfl))), (by show 0 ≤ (M_3 0 6).toInt ∧ (M_3 0 6).toInt ≤ 260; rw [eM_3, mset_eq]; decide)⟩
            · exact wp_some ⟨(fun a i q0 => ((congrFun (congrFun eM_3 a) i).trans ((mset_ne (fun h9 => q0 (h9))).trans rfl))), (by show 0 ≤ (M_3 0 6).toInt ∧ (M_3 0 6).toInt ≤ 260; rw [eM_3, mset_eq]; decide)⟩
          refine wp_ite (fun c73 => ?_) (fun c73 => ?_)
          · exact j157
          · refine wp_lp2 (fun y6_82 y7_82 => (0 ≤ y7_82.toInt)) (fun y6_82 y7_82 => (v1.toInt - y7_82.toInt).toNat) (fun ag82 y6_82 y7_82 hI82 ih82 => ?_) FU (nI 0) (nI 0) (by have f0 := t_lit 0; omega) (fu_lt (by have f0 := t_lit 0; omega))
            have hi82 := hI82
            have j125 : Wp (f_X10_letters_L125 ag68 y3_68 y4_68 y5_68 y6_82) (fun q => (∀ a i, ¬ ((a = 0 ∧ i = 6)) → q.2 a i = M a i) ∧ (0 ≤ (q.2 0 6).toInt ∧ (q.2 0 6).toInt ≤ 260)) := by
              unfold f_X10_letters_L125
              refine wp_bind2 (o_X10_size M_3 y6_82) (fun r_4 he127 hq127 => ?_)
              refine wp_ite (fun c132 => ?_) (fun c132 => ?_)
              · refine wp_bind2 (o_X10_size M_3 y6_82) (fun r_5 he140 hq140 => ?_)
                exact ih68 y5_68 r_5 (y5_68 + (nI 2)) (by have f0 := t_lit 2; have f1 := t_add y5_68 (nI 2); have f2 := t_lit 1; omega) (by have f0 := t_lit 2; have f1 := t_add y5_68 (nI 2); have f2 := t_lit 1; omega)
              · exact ih68 y3_68 y4_68 (y5_68 + (nI 2)) (by have f0 := t_lit 2; have f1 := t_add y5_68 (nI 2); have f2 := t_lit 1; omega) (by have f0 := t_lit 2; have f1 := t_add y5_68 (nI 2); have f2 := t_lit 1; omega)
            refine wp_ite (fun c85 => ?_) (fun c85 => ?_)
            · exact j125
            · refine wp_bind2 (o_X10_has M_3 y5_68 y7_82) (fun r_6 he94 hq94 => ?_)
              have hz_r_6 := hq94
              refine wp_ite (fun c97 => ?_) (fun c97 => ?_)
              · refine wp_bind2 (o_X10_octet M_3 y7_82 (by omega)) (fun r_7 he112 hq112 => ?_)
                refine wp_bnd (fun x_8 ex_8 => ?_)
                exact ih82 x_8 (y7_82 + (nI 1)) (by have f0 := t_lit 1; have f1 := t_add y7_82 (nI 1); omega) (by have f0 := t_lit 1; have f1 := t_add y7_82 (nI 1); omega)
              · refine wp_bind2 (o_X10_octet M_3 y7_82 (by omega)) (fun r_9 he103 hq103 => ?_)
                refine wp_bnd (fun x_10 ex_10 => ?_)
                exact ih82 x_10 (y7_82 + (nI 1)) (by have f0 := t_lit 1; have f1 := t_add y7_82 (nI 1); omega) (by have f0 := t_lit 1; have f1 := t_add y7_82 (nI 1); omega)
        refine wp_ite (fun c38 => ?_) (fun c38 => ?_)
        · exact j58
        · refine wp_bind2 (o_X10_octet M_3 y3_36 (by omega)) (fun r_11 he43 hq43 => ?_)
          refine wp_ite (fun c46 => ?_) (fun c46 => ?_)
          · exact wp_some ⟨(fun a i q0 => ((congrFun (congrFun eM_3 a) i).trans ((mset_ne (fun h9 => q0 (h9))).trans rfl))), (by show 0 ≤ (M_3 0 6).toInt ∧ (M_3 0 6).toInt ≤ 260; rw [eM_3, mset_eq]; decide)⟩
          · exact ih36 (y3_36 + (nI 1)) (by have f0 := t_lit 1; have f1 := t_add y3_36 (nI 1); omega) (by have f0 := t_lit 1; have f1 := t_add y3_36 (nI 1); omega)
      · exact wp_some ⟨(fun _ _ _ => rfl), ht⟩
theorem o2_X10_undo (M : Mem) (hst : ST (M 1)) (hsk : ST (M 3)) : Wp (f_X10_undo M) (fun q => (q.1 = 0 ∨ q.1 = 1) ∧ (∀ a i, ¬ (a = 1) → q.2 a i = M a i) ∧ (ST (q.2 1)) ∧ (q.1 = (if (M 0 54).toInt = 0 then nI 0 else nI 1))) := by
  refine wp_ite (fun c4 => ?_) (fun c4 => ?_)
  · exact wp_some ⟨b01_0, (fun _ _ _ => rfl), hst, (if_pos c4).symm⟩
  · refine wp_bind2 (o_X10_copies (by decide) (by decide) M (by omega) (by omega)) (fun M_1 he17 hq17 => ?_)
    obtain ⟨hg_M_1, hc_17⟩ := hq17
    replace hc_17 : ∀ j : Nat, j < 202 → M_1 1 j = M 3 j := hc_17
    replace hg_M_1 : ∀ a i, ¬ (a = 1) → M_1 a i = M a i := by exact fun a i q0 => hg_M_1 a i (by omega)
    exact wp_some ⟨b01_1, (fun a i q0 => ((hg_M_1 a i (fun h9 => q0 (h9))).trans rfl)), (st_copy hsk (fun j hj => hc_17 j hj)), (if_neg c4).symm⟩
theorem o2_X10_keep (M : Mem) (hst : ST (M 1)) : Wp (f_X10_keep M) (fun q => (∀ a i, ¬ ((a = 0 ∧ i = 54) ∨ a = 3) → q.2 a i = M a i) ∧ (ST (q.2 1)) ∧ (ST (q.2 3)) ∧ (q.2 0 54 = 1)) := by
  refine wp_bnd (fun M_1 eM_1 => ?_)
  refine wp_bind2 (o_X10_copies (by decide) (by decide) M_1 (by omega) (by omega)) (fun M_2 he13 hq13 => ?_)
  obtain ⟨hg_M_2, hc_13⟩ := hq13
  replace hc_13 : ∀ j : Nat, j < 202 → M_2 3 j = M_1 1 j := hc_13
  replace hg_M_2 : ∀ a i, ¬ (a = 3) → M_2 a i = M_1 a i := by exact fun a i q0 => hg_M_2 a i (by omega)
  exact wp_some ⟨(fun a i q0 => ((hg_M_2 a i (fun h9 => q0 (Or.inr (h9)))).trans ((congrFun (congrFun eM_1 a) i).trans ((mset_ne (fun h9 => q0 (Or.inl h9))).trans rfl)))), (by have e9 : M_2 1 = M 1 := funext (fun i => ((hg_M_2 1 i (by omega)).trans ((congrFun (congrFun eM_1 1) i).trans ((mset_ne (by omega)).trans rfl)))); show ST (M_2 1); rw [e9]; exact hst), (st_copy hst (fun j hj => by show M_2 3 j = M 1 j; rw [hc_13 j hj, eM_1, mset_ne (by omega)])), (by show M_2 0 54 = 1; rw [hg_M_2 0 54 (by omega), eM_1, mset_eq]; decide)⟩
