/-! what is kept between two calls -/
def InvC (M : Mem) : Prop := ((M 0 10).toInt = 44 ∨ (M 0 10).toInt = 52) ∧ ((M 0 11).toInt = 44 ∨ (M 0 11).toInt = 52) ∧ (M 0 12 = 0 ∨ M 0 12 = 1)
def InvM (M : Mem) : Prop := ST (M 1) ∧ ST (M 3) ∧ (0 ≤ (M 0 6).toInt ∧ (M 0 6).toInt ≤ 260) ∧ Gl M
theorem invC_fr {M M' : Mem} (h : InvC M) (e1 : M' 0 10 = M 0 10) (e2 : M' 0 11 = M 0 11) (e3 : M' 0 12 = M 0 12) : InvC M' := by
  unfold InvC
  rw [e1, e2, e3]
  exact h
theorem st_y {f : Nat → Int32} (h : ST f) : ∀ j : Nat, j < 40 → (f j).toInt = 1 → 1 ≤ (f (80 + j)).toInt ∧ (f (80 + j)).toInt ≤ 20 := fun j hj h1 => ⟨(h j hj h1).1, (h j hj h1).2.1⟩
theorem tp_fr {x y : Int32} (h : 0 ≤ x.toInt ∧ x.toInt ≤ 260) (e : y = x) : 0 ≤ y.toInt ∧ y.toInt ≤ 260 := e ▸ h
theorem o2_X9_keep (M : Mem) : Wp (f_X9_keep M) (fun q => (∀ a i, ¬ ((a = 0 ∧ i = 12) ∨ (a = 7 ∧ i = 5) ∨ (a = 7 ∧ i = 6) ∨ a = 8 ∨ a = 9 ∨ a = 10 ∨ a = 11 ∨ a = 12) → q.2 a i = M a i) ∧ (q.2 0 12 = 1)) := by
  refine wp_bind2 (o_X2_copyAll (Or.inr (Or.inl rfl)) (Or.inl rfl) M) (fun M_1 he8 hq8 => ?_)
  have hg_M_1 := hq8
  replace hg_M_1 : ∀ a i, ¬ ((a = 7 ∧ i = 5) ∨ (a = 7 ∧ i = 6) ∨ a = 8 ∨ a = 9 ∨ a = 10 ∨ a = 11 ∨ a = 12) → M_1 a i = M a i := by exact fun a i q0 => hg_M_1 a i (by first | decide | (rcases hc0 with h | h <;> rw [h] <;> simp; done) | (rcases hb0 with h | h | h <;> rw [h] <;> simp; done) | (simp; done) | omega)
  refine wp_bnd (fun M_2 eM_2 => ?_)
  exact wp_some ⟨(fun a i q0 => ((congrFun (congrFun eM_2 a) i).trans ((mset_ne (fun h9 => q0 (Or.inl h9))).trans ((hg_M_1 a i (fun z8 => q0 ((fun z9 => Or.elim z9 (fun h9 => Or.inr (Or.inl h9)) (fun z9 => Or.elim z9 (fun h9 => Or.inr (Or.inr (Or.inl h9))) (fun z9 => Or.elim z9 (fun h9 => Or.inr (Or.inr (Or.inr (Or.inl h9)))) (fun z9 => Or.elim z9 (fun h9 => Or.inr (Or.inr (Or.inr (Or.inr (Or.inl h9))))) (fun z9 => Or.elim z9 (fun h9 => Or.inr (Or.inr (Or.inr (Or.inr (Or.inr (Or.inl h9)))))) (fun z9 => Or.elim z9 (fun h9 => Or.inr (Or.inr (Or.inr (Or.inr (Or.inr (Or.inr (Or.inl h9))))))) (fun h9 => Or.inr (Or.inr (Or.inr (Or.inr (Or.inr (Or.inr (Or.inr (h9)))))))))))))) z8))).trans rfl)))), (by show M_2 0 12 = 1; rw [eM_2, mset_eq]; decide)⟩
theorem o2_X9_seed (M : Mem) (v1 : Int32) : Wp (f_X9_seed M v1) (fun q => (q.1 = 0 ∨ q.1 = 1) ∧ (∀ a i, ¬ ((a = 1 ∧ i = 6)) → q.2 a i = M a i) ∧ (q.1 = (if 0 ≤ v1.toInt ∧ v1.toInt ≤ 65535 then nI 1 else nI 0))) := by
  refine wp_ite (fun c1 => ?_) (fun c1 => ?_)
  · exact wp_some ⟨b01_0, (fun _ _ _ => rfl), (if_neg (by omega)).symm⟩
  · refine wp_ite (fun c8 => ?_) (fun c8 => ?_)
    · refine wp_bnd (fun M_1 eM_1 => ?_)
      exact wp_some ⟨b01_1, (fun a i q0 => ((congrFun (congrFun eM_1 a) i).trans ((mset_ne (fun h9 => q0 (h9))).trans rfl))), (if_pos (by omega)).symm⟩
    · exact wp_some ⟨b01_0, (fun _ _ _ => rfl), (if_neg (by omega)).symm⟩
theorem o2_X9_undo (M : Mem) (hK : M 0 12 = 0 ∨ M 0 12 = 1) : Wp (f_X9_undo M) (fun q => (q.1 = 0 ∨ q.1 = 1) ∧ (∀ a i, ¬ ((a = 1 ∧ i = 5) ∨ (a = 1 ∧ i = 6) ∨ a = 2 ∨ a = 3 ∨ a = 4 ∨ a = 5 ∨ a = 6) → q.2 a i = M a i) ∧ (q.1 = M 0 12)) := by
  refine wp_ite (fun c4 => ?_) (fun c4 => ?_)
  · refine wp_gb hK ?_
    exact wp_some ⟨hK, (fun _ _ _ => rfl), rfl⟩
  · refine wp_bind2 (o_X2_copyAll (Or.inl rfl) (Or.inr (Or.inl rfl)) M) (fun M_1 he15 hq15 => ?_)
    have hg_M_1 := hq15
    replace hg_M_1 : ∀ a i, ¬ ((a = 1 ∧ i = 5) ∨ (a = 1 ∧ i = 6) ∨ a = 2 ∨ a = 3 ∨ a = 4 ∨ a = 5 ∨ a = 6) → M_1 a i = M a i := by exact fun a i q0 => hg_M_1 a i (by first | decide | (rcases hc0 with h | h <;> rw [h] <;> simp; done) | (rcases hb0 with h | h | h <;> rw [h] <;> simp; done) | (simp; done) | omega)
    refine wp_gb (by rw [hg_M_1 0 12 (by first | decide | (rcases hc0 with h | h <;> rw [h] <;> simp; done) | (rcases hb0 with h | h | h <;> rw [h] <;> simp; done) | (simp; done) | omega)]; exact hK) ?_
    exact wp_some ⟨(by rw [hg_M_1 0 12 (by first | decide | (rcases hc0 with h | h <;> rw [h] <;> simp; done) | (rcases hb0 with h | h | h <;> rw [h] <;> simp; done) | (simp; done) | omega)]; exact hK), (fun a i q0 => ((hg_M_1 a i (fun z8 => q0 ((fun z9 => Or.elim z9 (fun h9 => Or.inl h9) (fun z9 => Or.elim z9 (fun h9 => Or.inr (Or.inl h9)) (fun z9 => Or.elim z9 (fun h9 => Or.inr (Or.inr (Or.inl h9))) (fun z9 => Or.elim z9 (fun h9 => Or.inr (Or.inr (Or.inr (Or.inl h9)))) (fun z9 => Or.elim z9 (fun h9 => Or.inr (Or.inr (Or.inr (Or.inr (Or.inl h9))))) (fun z9 => Or.elim z9 (fun h9 => Or.inr (Or.inr (Or.inr (Or.inr (Or.inr (Or.inl h9)))))) (fun h9 => Or.inr (Or.inr (Or.inr (Or.inr (Or.inr (Or.inr (h9))))))))))))) z8))).trans rfl)), (hg_M_1 0 12 (by first | decide | (rcases hc0 with h | h <;> rw [h] <;> simp; done) | (rcases hb0 with h | h | h <;> rw [h] <;> simp; done) | (simp; done) | omega))⟩
theorem o2_X9_isStride (M : Mem) (v0 : Int32) : Wp (f_X9_isStride v0) (fun q => (q = 0 ∨ q = 1) ∧ (¬ q.toInt = 0 ↔ 1 ≤ v0.toInt ∧ v0.toInt ≤ 30)) := by
  refine wp_ite (fun c2 => ?_) (fun c2 => ?_)
  · exact wp_some ⟨b01_0, ⟨fun z => absurd nI0 z, fun z => absurd z (by omega)⟩⟩
  · refine wp_ite (fun c8 => ?_) (fun c8 => ?_)
    · exact wp_some ⟨b01_0, ⟨fun z => absurd nI0 z, fun z => absurd z (by omega)⟩⟩
    · exact wp_some ⟨b01_1, ⟨fun _ => by omega, fun _ => by decide⟩⟩
theorem o2_X9_person (M : Mem) (v1 : Int32) (v2 : Int32) : Wp (f_X9_person M v1 v2) (fun q => (q.1 = 0 ∨ q.1 = 1) ∧ (∀ a i, ¬ (a = 43) → q.2 a i = M a i) ∧ (q.1 = (if (0 ≤ v1.toInt ∧ v1.toInt < 8) ∧ 1 ≤ v2.toInt ∧ v2.toInt ≤ 30 then nI 1 else nI 0))) := by
  refine wp_ite (fun c1 => ?_) (fun c1 => ?_)
  · exact wp_some ⟨b01_0, (fun _ _ _ => rfl), (if_neg (by omega)).symm⟩
  · refine wp_ite (fun c7 => ?_) (fun c7 => ?_)
    · exact wp_some ⟨b01_0, (fun _ _ _ => rfl), (if_neg (by omega)).symm⟩
    · refine wp_bind2 (o2_X9_isStride M v2) (fun r_1 he11 hq11 => ?_)
      obtain ⟨hz_r_1, hr_11⟩ := hq11
      replace hr_11 : ¬ r_1.toInt = 0 ↔ 1 ≤ v2.toInt ∧ v2.toInt ≤ 30 := hr_11
      refine wp_ite (fun c14 => ?_) (fun c14 => ?_)
      · exact wp_some ⟨b01_0, (fun _ _ _ => rfl), (if_neg (by omega)).symm⟩
      · refine wp_gd (by omega) ?_
        refine wp_bnd (fun M_2 eM_2 => ?_)
        exact wp_some ⟨b01_1, (fun a i q0 => ((congrFun (congrFun eM_2 a) i).trans ((mset_ne (fun h9 => q0 ((h9).1))).trans rfl))), (if_pos (by omega)).symm⟩
theorem o2_X10_in (M : Mem) (v0 : Int32) (v1 : Int32) (v2 : Int32) : Wp (f_X10_in v0 v1 v2) (fun q => (q = 0 ∨ q = 1) ∧ (¬ q.toInt = 0 → v1.toInt ≤ v0.toInt ∧ v0.toInt ≤ v2.toInt) ∧ (¬ q.toInt = 0 ↔ v1.toInt ≤ v0.toInt ∧ v0.toInt ≤ v2.toInt)) := by
  refine wp_ite (fun c2 => ?_) (fun c2 => ?_)
  · exact wp_some ⟨b01_0, (fun z => absurd nI0 z), ⟨fun z => absurd nI0 z, fun z => absurd z (by omega)⟩⟩
  · refine wp_ite (fun c7 => ?_) (fun c7 => ?_)
    · exact wp_some ⟨b01_0, (fun z => absurd nI0 z), ⟨fun z => absurd nI0 z, fun z => absurd z (by omega)⟩⟩
    · exact wp_some ⟨b01_1, (fun _ => by omega), ⟨fun _ => by omega, fun _ => by decide⟩⟩
theorem o2_X10_person (M : Mem) (v1 : Int32) (v2 : Int32) : Wp (f_X10_person M v1 v2) (fun q => (q.1 = 0 ∨ q.1 = 1) ∧ (∀ a i, ¬ ((a = 0 ∧ i = 4) ∨ a = 4) → q.2 a i = M a i) ∧ (q.1 = (if (0 ≤ v1.toInt ∧ v1.toInt < 8) ∧ 1 ≤ v2.toInt ∧ v2.toInt ≤ 30 then nI 1 else nI 0))) := by
  refine wp_bind2 (o2_X10_in M v1 (nI 0) (nI 7)) (fun r_1 he4 hq4 => ?_)
  obtain ⟨hz_r_1, hr_4, hi_4⟩ := hq4
  replace hr_4 : ¬ r_1.toInt = 0 → (nI 0).toInt ≤ v1.toInt ∧ v1.toInt ≤ (nI 7).toInt := hr_4
  have := t_lit 0
  have := t_lit 7
  replace hi_4 : ¬ r_1.toInt = 0 ↔ (nI 0).toInt ≤ v1.toInt ∧ v1.toInt ≤ (nI 7).toInt := hi_4
  have := t_lit 0
  have := t_lit 7
  refine wp_ite (fun c7 => ?_) (fun c7 => ?_)
  · exact wp_some ⟨b01_0, (fun _ _ _ => rfl), (if_neg (by omega)).symm⟩
  · refine wp_bind2 (o2_X10_in M v2 (nI 1) (nI 30)) (fun r_2 he14 hq14 => ?_)
    obtain ⟨hz_r_2, hr_14, hi_14⟩ := hq14
    replace hr_14 : ¬ r_2.toInt = 0 → (nI 1).toInt ≤ v2.toInt ∧ v2.toInt ≤ (nI 30).toInt := hr_14
    have := t_lit 1
    have := t_lit 30
    replace hi_14 : ¬ r_2.toInt = 0 ↔ (nI 1).toInt ≤ v2.toInt ∧ v2.toInt ≤ (nI 30).toInt := hi_14
    have := t_lit 1
    have := t_lit 30
    refine wp_ite (fun c17 => ?_) (fun c17 => ?_)
    · exact wp_some ⟨b01_0, (fun _ _ _ => rfl), (if_neg (by omega)).symm⟩
    · refine wp_bnd (fun M_3 eM_3 => ?_)
      refine wp_gd (by omega) ?_
      refine wp_bnd (fun M_4 eM_4 => ?_)
      exact wp_some ⟨b01_1, (fun a i q0 => ((congrFun (congrFun eM_4 a) i).trans ((mset_ne (fun h9 => q0 (Or.inr ((h9).1)))).trans ((congrFun (congrFun eM_3 a) i).trans ((mset_ne (fun h9 => q0 (Or.inl h9))).trans rfl))))), (if_pos (by omega)).symm⟩
theorem o2_X10_seed (M : Mem) (v1 : Int32) (hst : ST (M 1)) : Wp (f_X10_seed M v1) (fun q => (q.1 = 0 ∨ q.1 = 1) ∧ (∀ a i, ¬ (a = 1) → q.2 a i = M a i) ∧ (ST (q.2 1)) ∧ (q.1 = (if 0 ≤ v1.toInt ∧ v1.toInt ≤ 65535 then nI 1 else nI 0))) := by
  refine wp_bind2 (o2_X10_in M v1 (nI 0) (nI 65535)) (fun r_1 he5 hq5 => ?_)
  obtain ⟨hz_r_1, hr_5, hi_5⟩ := hq5
  replace hr_5 : ¬ r_1.toInt = 0 → (nI 0).toInt ≤ v1.toInt ∧ v1.toInt ≤ (nI 65535).toInt := hr_5
  have := t_lit 0
  have := t_lit 65535
  replace hi_5 : ¬ r_1.toInt = 0 ↔ (nI 0).toInt ≤ v1.toInt ∧ v1.toInt ≤ (nI 65535).toInt := hi_5
  have := t_lit 0
  have := t_lit 65535
  refine wp_ite (fun c8 => ?_) (fun c8 => ?_)
  · exact wp_some ⟨b01_0, (fun _ _ _ => rfl), hst, (if_neg (by omega)).symm⟩
  · refine wp_bnd (fun M_2 eM_2 => ?_)
    exact wp_some ⟨b01_1, (fun a i q0 => ((congrFun (congrFun eM_2 a) i).trans ((mset_ne (fun h9 => q0 ((h9).1))).trans rfl))), (st_hi (i := 41) hst (fun j hj => by show M_2 1 j = M 1 j; rw [eM_2, mset_ne (by first | exact nz1 (by decide) | exact nz2 (by decide) | exact nz1 (nzA hc0 (by decide)) | exact nz1 (nzE (by decide)) | exact nz1 (nzB hc0 (by decide)) | exact nz1 (nzC hc0 (by decide)) | exact nz1 (nzD hc0 (by decide)) | exact nz1 (nzF (by decide)) | exact nz1 (nzG (by decide)) | omega)])), (if_pos (by omega)).symm⟩
theorem o2_X10_check (M : Mem) (v1 : Int32) (ht : 0 ≤ (M 0 6).toInt ∧ (M 0 6).toInt ≤ 260) : Wp (f_X10_check M v1) (fun q => (∀ a i, ¬ ((a = 0 ∧ i = 6)) → q.2 a i = M a i) ∧ (0 ≤ (q.2 0 6).toInt ∧ (q.2 0 6).toInt ≤ 260)) := by
  refine wp_bind2 (o2_X10_in M v1 (nI 0) (nI 40)) (fun r_1 he4 hq4 => ?_)
  obtain ⟨hz_r_1, hr_4, hi_4⟩ := hq4
  replace hr_4 : ¬ r_1.toInt = 0 → (nI 0).toInt ≤ v1.toInt ∧ v1.toInt ≤ (nI 40).toInt := hr_4
  have := t_lit 0
  have := t_lit 40
  replace hi_4 : ¬ r_1.toInt = 0 ↔ (nI 0).toInt ≤ v1.toInt ∧ v1.toInt ≤ (nI 40).toInt := hi_4
  have := t_lit 0
  have := t_lit 40
  refine wp_ite (fun c7 => ?_) (fun c7 => ?_)
  · exact wp_some ⟨(fun _ _ _ => rfl), ht⟩
  · refine wp_ite (fun c15 => ?_) (fun c15 => ?_)
    · refine wp_bnd (fun M_2 eM_2 => ?_)
      have ft1 := t_rng v1
      refine wp_lp1 (fun y2_28 => (0 ≤ y2_28.toInt)) (fun y2_28 => (v1.toInt - y2_28.toInt).toNat) (fun ag28 y2_28 hI28 ih28 => ?_) FU (nI 0) (by have f0 := t_lit 0; omega) (fu_lt (by have f0 := t_lit 0; omega))
      have hi28 := hI28
      refine wp_ite (fun c30 => ?_) (fun c30 => ?_)
      · exact wp_some ⟨(fun a i q0 => ((congrFun (congrFun eM_2 a) i).trans ((mset_ne (fun h9 => q0 (h9))).trans rfl))), (by show 0 ≤ (M_2 0 6).toInt ∧ (M_2 0 6).toInt ≤ 260; rw [eM_2, mset_eq]; decide)⟩
      · refine wp_bind2 (o_X10_octet M_2 y2_28 (by omega)) (fun r_3 he35 hq35 => ?_)
        refine wp_bind2 (o_X10_isStone M_2 y2_28) (fun r_4 he40 hq40 => ?_)
        obtain ⟨hz_r_4, hr_40⟩ := hq40
        replace hr_40 : ¬ r_4.toInt = 0 → (0 ≤ y2_28.toInt ∧ y2_28.toInt < 40) ∧ (M_2 1 (ix y2_28)).toInt = 1 := hr_40
        have j61 : ∀ (t0_61 : Int32), Wp (f_X10_check_L61 M_2 ag28 y2_28 r_3 t0_61) (fun q => (∀ a i, ¬ ((a = 0 ∧ i = 6)) → q.2 a i = M a i) ∧ (0 ≤ (q.2 0 6).toInt ∧ (q.2 0 6).toInt ≤ 260)) := by
          intro t0_61
          unfold f_X10_check_L61
          refine wp_ite (fun c61 => ?_) (fun c61 => ?_)
          · exact ih28 (y2_28 + (nI 1)) (by have f0 := t_lit 1; have f1 := t_add y2_28 (nI 1); omega) (by have f0 := t_lit 1; have f1 := t_add y2_28 (nI 1); omega)
          · exact wp_some ⟨(fun a i q0 => ((congrFun (congrFun eM_2 a) i).trans ((mset_ne (fun h9 => q0 (h9))).trans rfl))), (by show 0 ≤ (M_2 0 6).toInt ∧ (M_2 0 6).toInt ≤ 260; rw [eM_2, mset_eq]; decide)⟩
        refine wp_ite (fun c43 => ?_) (fun c43 => ?_)
        · exact j61 (nI 255)
        · refine wp_gd (by have f0 := t_lit 40; have f1 := t_add (nI 40) y2_28; omega) ?_
          exact j61 (M_2 1 (ix ((nI 40) + y2_28)))
    · exact wp_some ⟨(fun _ _ _ => rfl), ht⟩
theorem o2_X10_letters (M : Mem) (v1 : Int32) (v2 : Int32) (ht : 0 ≤ (M 0 6).toInt ∧ (M 0 6).toInt ≤ 260) : Wp (f_X10_letters M v1 v2) (fun q => (∀ a i, ¬ ((a = 0 ∧ i = 6)) → q.2 a i = M a i) ∧ (0 ≤ (q.2 0 6).toInt ∧ (q.2 0 6).toInt ≤ 260)) := by
  refine wp_bind2 (o2_X10_in M v1 (nI 1) (nI 8)) (fun r_1 he4 hq4 => ?_)
  obtain ⟨hz_r_1, hr_4, hi_4⟩ := hq4
  replace hr_4 : ¬ r_1.toInt = 0 → (nI 1).toInt ≤ v1.toInt ∧ v1.toInt ≤ (nI 8).toInt := hr_4
  have := t_lit 1
  have := t_lit 8
  replace hi_4 : ¬ r_1.toInt = 0 ↔ (nI 1).toInt ≤ v1.toInt ∧ v1.toInt ≤ (nI 8).toInt := hi_4
  have := t_lit 1
  have := t_lit 8
  refine wp_ite (fun c7 => ?_) (fun c7 => ?_)
  · exact wp_some ⟨(fun _ _ _ => rfl), ht⟩
  · refine wp_bind2 (o2_X10_in M v2 (nI 0) (nI 1)) (fun r_2 he13 hq13 => ?_)
    obtain ⟨hz_r_2, hr_13, hi_13⟩ := hq13
    replace hr_13 : ¬ r_2.toInt = 0 → (nI 0).toInt ≤ v2.toInt ∧ v2.toInt ≤ (nI 1).toInt := hr_13
    have := t_lit 0
    have := t_lit 1
    replace hi_13 : ¬ r_2.toInt = 0 ↔ (nI 0).toInt ≤ v2.toInt ∧ v2.toInt ≤ (nI 1).toInt := hi_13
    have := t_lit 0
    have := t_lit 1
    refine wp_ite (fun c16 => ?_) (fun c16 => ?_)
    · exact wp_some ⟨(fun _ _ _ => rfl), ht⟩
    · refine wp_ite (fun c24 => ?_) (fun c24 => ?_)
      · refine wp_bnd (fun M_3 eM_3 => ?_)
        have ft1 := t_rng v1
        refine wp_lp1 (fun y3_36 => (0 ≤ y3_36.toInt)) (fun y3_36 => (v1.toInt - y3_36.toInt).toNat) (fun ag36 y3_36 hI36 ih36 => ?_) FU (nI 0) (by have f0 := t_lit 0; omega) (fu_lt (by have f0 := t_lit 0; omega))
        have hi36 := hI36
        have j58 : Wp (f_X10_letters_L58 v1 v2 M_3) (fun q => (∀ a i, ¬ ((a = 0 ∧ i = 6)) → q.2 a i = M a i) ∧ (0 ≤ (q.2 0 6).toInt ∧ (q.2 0 6).toInt ≤ 260)) := by
          unfold f_X10_letters_L58
          have hsh := shl8 (hr_4 (by omega)).1 (by have := t_lit 1; have := t_lit 8; omega)
          refine wp_lp3 (fun y3_68 y4_68 y5_68 => (1 ≤ y5_68.toInt ∧ y5_68.toInt ≤ 300)) (fun y3_68 y4_68 y5_68 => (300 - y5_68.toInt).toNat) (fun ag68 y3_68 y4_68 y5_68 hI68 ih68 => ?_) FU (nI 0) (nI 1000000) (nI 1) (by decide) (fu_lt (by have f0 := t_lit 1; have f1 := t_lit 0; have f2 := t_lit 1000000; omega))
          have hy := hI68
          have j157 : Wp (f_X10_letters_L157 v2 M_3 y3_68 y4_68) (fun q => (∀ a i, ¬ ((a = 0 ∧ i = 6)) → q.2 a i = M a i) ∧ (0 ≤ (q.2 0 6).toInt ∧ (q.2 0 6).toInt ≤ 260)) := by
            unfold f_X10_letters_L157
            refine wp_ite (fun c158 => ?_) (fun c158 => ?_)
            · exact wp_some ⟨(fun a i q0 => ((congrFun (congrFun eM_3 a) i).trans ((mset_ne (fun h9 => q0 (h9))).trans rfl))), (by show 0 ≤ (M_3 0 6).toInt ∧ (M_3 0 6).toInt ≤ 260; rw [eM_3, mset_eq]; decide)⟩
            · exact wp_some ⟨(fun a i q0 => ((congrFun (congrFun eM_3 a) i).trans ((mset_ne (fun h9 => q0 (h9))).trans rfl))), (by show 0 ≤ (M_3 0 6).toInt ∧ (M_3 0 6).toInt ≤ 260; rw [eM_3, mset_eq]; decide)⟩
          refine wp_ite (fun c73 => ?_) (fun c73 => ?_)
          · exact j157
          · refine wp_lp2 (fun y6_82 y7_82 => (0 ≤ y7_82.toInt)) (fun y6_82 y7_82 => (v1.toInt - y7_82.toInt).toNat) (fun ag82 y6_82 y7_82 hI82 ih82 => ?_) FU (nI 0) (nI 0) (by have f0 := t_lit 0; omega) (fu_lt (by have f0 := t_lit 0; omega))
            have hi82 := hI82
            have j125 : Wp (f_X10_letters_L125 ag68 y3_68 y4_68 y5_68 y6_82) (fun q => (∀ a i, ¬ ((a = 0 ∧ i = 6)) → q.2 a i = M a i) ∧ (0 ≤ (q.2 0 6).toInt ∧ (q.2 0 6).toInt ≤ 260)) := by
              unfold f_X10_letters_L125
              refine wp_bind2 (o_X10_size M_3 y6_82) (fun r_4 he127 hq127 => ?_)
              refine wp_ite (fun c132 => ?_) (fun c132 => ?_)
              · refine wp_bind2 (o_X10_size M_3 y6_82) (fun r_5 he140 hq140 => ?_)
                exact ih68 y5_68 r_5 (y5_68 + (nI 2)) (by have f0 := t_lit 2; have f1 := t_add y5_68 (nI 2); have f2 := t_lit 1; omega) (by have f0 := t_lit 2; have f1 := t_add y5_68 (nI 2); have f2 := t_lit 1; omega)
              · exact ih68 y3_68 y4_68 (y5_68 + (nI 2)) (by have f0 := t_lit 2; have f1 := t_add y5_68 (nI 2); have f2 := t_lit 1; omega) (by have f0 := t_lit 2; have f1 := t_add y5_68 (nI 2); have f2 := t_lit 1; omega)
            refine wp_ite (fun c85 => ?_) (fun c85 => ?_)
            · exact j125
            · refine wp_bind2 (o_X10_has M_3 y5_68 y7_82) (fun r_6 he94 hq94 => ?_)
              have hz_r_6 := hq94
              refine wp_ite (fun c97 => ?_) (fun c97 => ?_)
              · refine wp_bind2 (o_X10_octet M_3 y7_82 (by omega)) (fun r_7 he112 hq112 => ?_)
                refine wp_bnd (fun x_8 ex_8 => ?_)
                exact ih82 x_8 (y7_82 + (nI 1)) (by have f0 := t_lit 1; have f1 := t_add y7_82 (nI 1); omega) (by have f0 := t_lit 1; have f1 := t_add y7_82 (nI 1); omega)
              · refine wp_bind2 (o_X10_octet M_3 y7_82 (by omega)) (fun r_9 he103 hq103 => ?_)
                refine wp_bnd (fun x_10 ex_10 => ?_)
                exact ih82 x_10 (y7_82 + (nI 1)) (by have f0 := t_lit 1; have f1 := t_add y7_82 (nI 1); omega) (by have f0 := t_lit 1; have f1 := t_add y7_82 (nI 1); omega)
        refine wp_ite (fun c38 => ?_) (fun c38 => ?_)
        · exact j58
        · refine wp_bind2 (o_X10_octet M_3 y3_36 (by omega)) (fun r_11 he43 hq43 => ?_)
          refine wp_ite (fun c46 => ?_) (fun c46 => ?_)
          · exact wp_some ⟨(fun a i q0 => ((congrFun (congrFun eM_3 a) i).trans ((mset_ne (fun h9 => q0 (h9))).trans rfl))), (by show 0 ≤ (M_3 0 6).toInt ∧ (M_3 0 6).toInt ≤ 260; rw [eM_3, mset_eq]; decide)⟩
          · exact ih36 (y3_36 + (nI 1)) (by have f0 := t_lit 1; have f1 := t_add y3_36 (nI 1); omega) (by have f0 := t_lit 1; have f1 := t_add y3_36 (nI 1); omega)
      · exact wp_some ⟨(fun _ _ _ => rfl), ht⟩
theorem o2_X10_undo (M : Mem) (hst : ST (M 1)) (hsk : ST (M 3)) : Wp (f_X10_undo M) (fun q => (q.1 = 0 ∨ q.1 = 1) ∧ (∀ a i, ¬ (a = 1) → q.2 a i = M a i) ∧ (ST (q.2 1)) ∧ (q.1 = (if (M 0 54).toInt = 0 then nI 0 else nI 1))) := by
  refine wp_ite (fun c4 => ?_) (fun c4 => ?_)
  · exact wp_some ⟨b01_0, (fun _ _ _ => rfl), hst, (if_pos c4).symm⟩
  · refine wp_bind2 (o_X10_copies (by decide) (by decide) M (by omega) (by omega)) (fun M_1 he17 hq17 => ?_)
    obtain ⟨hg_M_1, hc_17⟩ := hq17
    replace hc_17 : ∀ j : Nat, j < 202 → M_1 1 j = M 3 j := hc_17
    replace hg_M_1 : ∀ a i, ¬ (a = 1) → M_1 a i = M a i := by exact fun a i q0 => hg_M_1 a i (by first | decide | (rcases hc0 with h | h <;> rw [h] <;> simp; done) | (rcases hb0 with h | h | h <;> rw [h] <;> simp; done) | (simp; done) | omega)
    exact wp_some ⟨b01_1, (fun a i q0 => ((hg_M_1 a i (fun h9 => q0 (h9))).trans rfl)), (st_copy hsk (fun j hj => hc_17 j hj)), (if_neg c4).symm⟩
theorem o2_X10_keep (M : Mem) (hst : ST (M 1)) : Wp (f_X10_keep M) (fun q => (∀ a i, ¬ ((a = 0 ∧ i = 54) ∨ a = 3) → q.2 a i = M a i) ∧ (ST (q.2 1)) ∧ (ST (q.2 3)) ∧ (q.2 0 54 = 1)) := by
  refine wp_bnd (fun M_1 eM_1 => ?_)
  refine wp_bind2 (o_X10_copies (by decide) (by decide) M_1 (by omega) (by omega)) (fun M_2 he13 hq13 => ?_)
  obtain ⟨hg_M_2, hc_13⟩ := hq13
  replace hc_13 : ∀ j : Nat, j < 202 → M_2 3 j = M_1 1 j := hc_13
  replace hg_M_2 : ∀ a i, ¬ (a = 3) → M_2 a i = M_1 a i := by exact fun a i q0 => hg_M_2 a i (by first | decide | (rcases hc0 with h | h <;> rw [h] <;> simp; done) | (rcases hb0 with h | h | h <;> rw [h] <;> simp; done) | (simp; done) | omega)
  exact wp_some ⟨(fun a i q0 => ((hg_M_2 a i (fun h9 => q0 (Or.inr (h9)))).trans ((congrFun (congrFun eM_1 a) i).trans ((mset_ne (fun h9 => q0 (Or.inl h9))).trans rfl)))), (by have e9 : M_2 1 = M 1 := funext (fun i => ((hg_M_2 1 i (by first | decide | (rcases hc0 with h | h <;> rw [h] <;> simp; done) | (rcases hb0 with h | h | h <;> rw [h] <;> simp; done) | (simp; done) | omega)).trans ((congrFun (congrFun eM_1 1) i).trans ((mset_ne (by first | exact nz1 (by decide) | exact nz2 (by decide) | exact nz1 (nzA hc0 (by decide)) | exact nz1 (nzE (by decide)) | exact nz1 (nzB hc0 (by decide)) | exact nz1 (nzC hc0 (by decide)) | exact nz1 (nzD hc0 (by decide)) | exact nz1 (nzF (by decide)) | exact nz1 (nzG (by decide)) | omega)).trans rfl)))); show ST (M_2 1); rw [e9]; exact hst), (st_copy hst (fun j hj => by show M_2 3 j = M 1 j; rw [hc_13 j hj, eM_1, mset_ne (by first | exact nz1 (by decide) | exact nz2 (by decide) | exact nz1 (nzA hc0 (by decide)) | exact nz1 (nzE (by decide)) | exact nz1 (nzB hc0 (by decide)) | exact nz1 (nzC hc0 (by decide)) | exact nz1 (nzD hc0 (by decide)) | exact nz1 (nzF (by decide)) | exact nz1 (nzG (by decide)) | omega)])), (by show M_2 0 54 = 1; rw [hg_M_2 0 54 (by first | decide | (rcases hc0 with h | h <;> rw [h] <;> simp; done) | (rcases hb0 with h | h | h <;> rw [h] <;> simp; done) | (simp; done) | omega), eM_1, mset_eq]; decide)⟩
theorem o3_X7_holds (M : Mem) (v1 : Int32) (v2 : Int32) (v3 : Int32) : Wp (f_X7_holds M v1 v2 v3) (fun q => (q = 0 ∨ q = 1) ∧ (¬ q.toInt = 0 ↔ v2.toInt ≤ v1.toInt ∧ v1.toInt ≤ v3.toInt ∧ v1.toInt ≤ (M 19 1).toInt)) := by
  refine wp_ite (fun c2 => ?_) (fun c2 => ?_)
  · exact wp_some ⟨b01_0, ⟨fun z => absurd nI0 z, fun z => absurd z (by omega)⟩⟩
  · refine wp_ite (fun c7 => ?_) (fun c7 => ?_)
    · exact wp_some ⟨b01_0, ⟨fun z => absurd nI0 z, fun z => absurd z (by omega)⟩⟩
    · refine wp_ite (fun c15 => ?_) (fun c15 => ?_)
      · exact wp_some ⟨b01_0, ⟨fun z => absurd nI0 z, fun z => absurd z (by omega)⟩⟩
      · exact wp_some ⟨b01_1, ⟨fun _ => by omega, fun _ => by decide⟩⟩
theorem o3_X7_open (M : Mem) (v1 : Int32) : Wp (f_X7_open M v1) (fun q => (∀ a i, ¬ ((a = 19 ∧ i = 1) ∨ (a = 19 ∧ i = 2) ∨ (a = 19 ∧ i = 3) ∨ (a = 19 ∧ i = 4)) → q a i = M a i) ∧ (q 19 1 = nI 0)) := by
  refine wp_bnd (fun M_1 eM_1 => ?_)
  refine wp_bnd (fun M_2 eM_2 => ?_)
  refine wp_bnd (fun M_3 eM_3 => ?_)
  refine wp_bnd (fun M_4 eM_4 => ?_)
  exact wp_some ⟨(fun a i q0 => ((congrFun (congrFun eM_4 a) i).trans ((mset_ne (fun h9 => q0 (Or.inl h9))).trans ((congrFun (congrFun eM_3 a) i).trans ((mset_ne (fun h9 => q0 (Or.inr (Or.inr (Or.inr (h9)))))).trans ((congrFun (congrFun eM_2 a) i).trans ((mset_ne (fun h9 => q0 (Or.inr (Or.inr (Or.inl h9))))).trans ((congrFun (congrFun eM_1 a) i).trans ((mset_ne (fun h9 => q0 (Or.inr (Or.inl h9)))).trans rfl))))))))), (by rw [eM_4, mset_eq])⟩
theorem o3_X9_isEither (M : Mem) (v0 : Int32) : Wp (f_X9_isEither v0) (fun q => (q = 0 ∨ q = 1) ∧ (¬ q.toInt = 0 ↔ 0 ≤ v0.toInt ∧ v0.toInt ≤ 1)) := by
  refine wp_ite (fun c1 => ?_) (fun c1 => ?_)
  · exact wp_some ⟨b01_1, ⟨fun _ => by omega, fun _ => by decide⟩⟩
  · refine wp_ite (fun c6 => ?_) (fun c6 => ?_)
    · exact wp_some ⟨b01_1, ⟨fun _ => by omega, fun _ => by decide⟩⟩
    · exact wp_some ⟨b01_0, ⟨fun z => absurd nI0 z, fun z => absurd z (by omega)⟩⟩
theorem o3_X9_strideOf (M : Mem) (v1 : Int32) : Wp (f_X9_strideOf M v1) (fun q => (¬ q.toInt = 0 ↔ (0 ≤ v1.toInt ∧ v1.toInt < 8) ∧ ¬ (M 43 (ix v1)).toInt = 0)) := by
  refine wp_ite (fun c1 => ?_) (fun c1 => ?_)
  · exact wp_some ⟨fun z => absurd nI0 z, fun z => absurd z.1 (by omega)⟩
  · refine wp_ite (fun c7 => ?_) (fun c7 => ?_)
    · exact wp_some ⟨fun z => absurd nI0 z, fun z => absurd z.1 (by omega)⟩
    · refine wp_gd (by omega) ?_
      exact wp_some ⟨fun z => ⟨by omega, z⟩, fun z => z.2⟩
theorem o3_X9_law (M : Mem) (v1 : Int32) (hL10 : (M 0 10).toInt = 44 ∨ (M 0 10).toInt = 52) (hL11 : (M 0 11).toInt = 44 ∨ (M 0 11).toInt = 52) : Wp (f_X9_law M v1) (fun q => (∀ a i, ¬ ((a = 0 ∧ i = 10) ∨ (a = 0 ∧ i = 11) ∨ (a = 19 ∧ i = 1) ∨ (a = 19 ∧ i = 2) ∨ (a = 19 ∧ i = 3) ∨ (a = 19 ∧ i = 4) ∨ (a = 44 ∧ i = 7) ∨ (a = 44 ∧ i = 8) ∨ (a = 44 ∧ i = 9) ∨ a = 45 ∨ a = 46 ∨ a = 48 ∨ a = 49 ∨ a = 50 ∨ a = 51 ∨ (a = 52 ∧ i = 7) ∨ (a = 52 ∧ i = 8) ∨ (a = 52 ∧ i = 9) ∨ a = 53 ∨ a = 54 ∨ a = 56 ∨ a = 57 ∨ a = 58 ∨ a = 59) → q.2 a i = M a i) ∧ ((q.2 0 10).toInt = 44 ∨ (q.2 0 10).toInt = 52) ∧ ((q.2 0 11).toInt = 44 ∨ (q.2 0 11).toInt = 52) ∧ ((q.2 19 1).toInt = (if 1 ≤ v1.toInt ∧ v1.toInt ≤ 240 ∧ v1.toInt ≤ (M 19 1).toInt then 0 else (M 19 1).toInt))) := by
  refine wp_bind2 (o3_X7_holds M v1 (nI 1) (nI 240)) (fun r_1 he9 hq9 => ?_)
  obtain ⟨hz_r_1, hr_9⟩ := hq9
  replace hr_9 : ¬ r_1.toInt = 0 ↔ (nI 1).toInt ≤ v1.toInt ∧ v1.toInt ≤ (nI 240).toInt ∧ v1.toInt ≤ (M 19 1).toInt := hr_9
  have := t_lit 1
  have := t_lit 240
  refine wp_ite (fun c12 => ?_) (fun c12 => ?_)
  · exact wp_some ⟨(fun _ _ _ => rfl), (by show (M 0 10).toInt = 44 ∨ (M 0 10).toInt = 52; have f0 := (by decide : ((-1 : Int32)).toInt = -1); omega), (by show (M 0 11).toInt = 44 ∨ (M 0 11).toInt = 52; have f0 := (by decide : ((-1 : Int32)).toInt = -1); omega), (by show (M 19 1).toInt = _; rw [if_neg (by omega)])⟩
  · refine wp_bind2 (o3_X7_open M v1) (fun M_2 he22 hq22 => ?_)
    obtain ⟨hg_M_2, hS_22⟩ := hq22
    replace hS_22 : M_2 19 1 = nI 0 := hS_22
    replace hg_M_2 : ∀ a i, ¬ ((a = 19 ∧ i = 1) ∨ (a = 19 ∧ i = 2) ∨ (a = 19 ∧ i = 3) ∨ (a = 19 ∧ i = 4)) → M_2 a i = M a i := hg_M_2
    refine wp_rl (by have f0 := congrArg Int32.toInt (hg_M_2 0 11 (by first | decide | (rcases hc0 with h | h <;> rw [h] <;> simp; done) | (rcases hb0 with h | h | h <;> rw [h] <;> simp; done) | (simp; done) | omega)); omega) (fun c_3 hc_3 ecc_3 => ?_)
    have hc_30 : c_3 = 44 ∨ c_3 = 52 := hc_3
    refine wp_cb2 (o_X3_compile hc_3 M_2) (fun r_4 M_5 he33 hq33 => ?_)
    have hg_M_5 := hq33
    replace hg_M_5 : ∀ a i, ¬ ((a = 19 ∧ i = 3) ∨ (a = 19 ∧ i = 4) ∨ (a = 44 ∧ i = 7) ∨ (a = 44 ∧ i = 8) ∨ (a = 44 ∧ i = 9) ∨ a = 45 ∨ a = 46 ∨ a = 48 ∨ a = 49 ∨ a = 50 ∨ a = 51 ∨ (a = 52 ∧ i = 7) ∨ (a = 52 ∧ i = 8) ∨ (a = 52 ∧ i = 9) ∨ a = 53 ∨ a = 54 ∨ a = 56 ∨ a = 57 ∨ a = 58 ∨ a = 59) → M_5 a i = M_2 a i := by rcases hc_30 with e9 | e9 <;> subst e9 <;> exact fun a i q0 => hg_M_5 a i (by first | decide | (rcases hc0 with h | h <;> rw [h] <;> simp; done) | (rcases hb0 with h | h | h <;> rw [h] <;> simp; done) | (simp; done) | omega)
    refine wp_ite (fun c38 => ?_) (fun c38 => ?_)
    · exact wp_some ⟨(fun a i q0 => ((hg_M_5 a i (fun z8 => q0 ((fun z9 => Or.elim z9 (fun h9 => Or.inr (Or.inr (Or.inr (Or.inr (Or.inl h9))))) (fun z9 => Or.elim z9 (fun h9 => Or.inr (Or.inr (Or.inr (Or.inr (Or.inr (Or.inl h9)))))) (fun z9 => Or.elim z9 (fun h9 => Or.inr (Or.inr (Or.inr (Or.inr (Or.inr (Or.inr (Or.inl h9))))))) (fun z9 => Or.elim z9 (fun h9 => Or.inr (Or.inr (Or.inr (Or.inr (Or.inr (Or.inr (Or.inr (Or.inl h9)))))))) (fun z9 => Or.elim z9 (fun h9 => Or.inr (Or.inr (Or.inr (Or.inr (Or.inr (Or.inr (Or.inr (Or.inr (Or.inl h9))))))))) (fun z9 => Or.elim z9 (fun h9 => Or.inr (Or.inr (Or.inr (Or.inr (Or.inr (Or.inr (Or.inr (Or.inr (Or.inr (Or.inl h9)))))))))) (fun z9 => Or.elim z9 (fun h9 => Or.inr (Or.inr (Or.inr (Or.inr (Or.inr (Or.inr (Or.inr (Or.inr (Or.inr (Or.inr (Or.inl h9))))))))))) (fun z9 => Or.elim z9 (fun h9 => Or.inr (Or.inr (Or.inr (Or.inr (Or.inr (Or.inr (Or.inr (Or.inr (Or.inr (Or.inr (Or.inr (Or.inl h9)))))))))))) (fun z9 => Or.elim z9 (fun h9 => Or.inr (Or.inr (Or.inr (Or.inr (Or.inr (Or.inr (Or.inr (Or.inr (Or.inr (Or.inr (Or.inr (Or.inr (Or.inl h9))))))))))))) (fun z9 => Or.elim z9 (fun h9 => Or.inr (Or.inr (Or.inr (Or.inr (Or.inr (Or.inr (Or.inr (Or.inr (Or.inr (Or.inr (Or.inr (Or.inr (Or.inr (Or.inl h9)))))))))))))) (fun z9 => Or.elim z9 (fun h9 => Or.inr (Or.inr (Or.inr (Or.inr (Or.inr (Or.inr (Or.inr (Or.inr (Or.inr (Or.inr (Or.inr (Or.inr (Or.inr (Or.inr (Or.inl h9))))))))))))))) (fun z9 => Or.elim z9 (fun h9 => Or.inr (Or.inr (Or.inr (Or.inr (Or.inr (Or.inr (Or.inr (Or.inr (Or.inr (Or.inr (Or.inr (Or.inr (Or.inr (Or.inr (Or.inr (Or.inl h9)))))))))))))))) (fun z9 => Or.elim z9 (fun h9 => Or.inr (Or.inr (Or.inr (Or.inr (Or.inr (Or.inr (Or.inr (Or.inr (Or.inr (Or.inr (Or.inr (Or.inr (Or.inr (Or.inr (Or.inr (Or.inr (Or.inl h9))))))))))))))))) (fun z9 => Or.elim z9 (fun h9 => Or.inr (Or.inr (Or.inr (Or.inr (Or.inr (Or.inr (Or.inr (Or.inr (Or.inr (Or.inr (Or.inr (Or.inr (Or.inr (Or.inr (Or.inr (Or.inr (Or.inr (Or.inl h9)))))))))))))))))) (fun z9 => Or.elim z9 (fun h9 => Or.inr (Or.inr (Or.inr (Or.inr (Or.inr (Or.inr (Or.inr (Or.inr (Or.inr (Or.inr (Or.inr (Or.inr (Or.inr (Or.inr (Or.inr (Or.inr (Or.inr (Or.inr (Or.inl h9))))))))))))))))))) (fun z9 => Or.elim z9 (fun h9 => Or.inr (Or.inr (Or.inr (Or.inr (Or.inr (Or.inr (Or.inr (Or.inr (Or.inr (Or.inr (Or.inr (Or.inr (Or.inr (Or.inr (Or.inr (Or.inr (Or.inr (Or.inr (Or.inr (Or.inl h9)))))))))))))))))))) (fun z9 => Or.elim z9 (fun h9 => Or.inr (Or.inr (Or.inr (Or.inr (Or.inr (Or.inr (Or.inr (Or.inr (Or.inr (Or.inr (Or.inr (Or.inr (Or.inr (Or.inr (Or.inr (Or.inr (Or.inr (Or.inr (Or.inr (Or.inr (Or.inl h9))))))))))))))))))))) (fun z9 => Or.elim z9 (fun h9 => Or.inr (Or.inr (Or.inr (Or.inr (Or.inr (Or.inr (Or.inr (Or.inr (Or.inr (Or.inr (Or.inr (Or.inr (Or.inr (Or.inr (Or.inr (Or.inr (Or.inr (Or.inr (Or.inr (Or.inr (Or.inr (Or.inl h9)))))))))))))))))))))) (fun z9 => Or.elim z9 (fun h9 => Or.inr (Or.inr (Or.inr (Or.inr (Or.inr (Or.inr (Or.inr (Or.inr (Or.inr (Or.inr (Or.inr (Or.inr (Or.inr (Or.inr (Or.inr (Or.inr (Or.inr (Or.inr (Or.inr (Or.inr (Or.inr (Or.inr (Or.inl h9))))))))))))))))))))))) (fun h9 => Or.inr (Or.inr (Or.inr (Or.inr (Or.inr (Or.inr (Or.inr (Or.inr (Or.inr (Or.inr (Or.inr (Or.inr (Or.inr (Or.inr (Or.inr (Or.inr (Or.inr (Or.inr (Or.inr (Or.inr (Or.inr (Or.inr (Or.inr (h9))))))))))))))))))))))))))))))))))))))))))) z8))).trans ((hg_M_2 a i (fun z8 => q0 ((fun z9 => Or.elim z9 (fun h9 => Or.inr (Or.inr (Or.inl h9))) (fun z9 => Or.elim z9 (fun h9 => Or.inr (Or.inr (Or.inr (Or.inl h9)))) (fun z9 => Or.elim z9 (fun h9 => Or.inr (Or.inr (Or.inr (Or.inr (Or.inl h9))))) (fun h9 => Or.inr (Or.inr (Or.inr (Or.inr (Or.inr (Or.inl h9))))))))) z8))).trans rfl))), (by show (M_5 0 10).toInt = 44 ∨ (M_5 0 10).toInt = 52; have f0 := congrArg Int32.toInt (hg_M_5 0 10 (by first | decide | (rcases hc0 with h | h <;> rw [h] <;> simp; done) | (rcases hb0 with h | h | h <;> rw [h] <;> simp; done) | (simp; done) | omega)); have f1 := congrArg Int32.toInt (hg_M_2 0 10 (by first | decide | (rcases hc0 with h | h <;> rw [h] <;> simp; done) | (rcases hb0 with h | h | h <;> rw [h] <;> simp; done) | (simp; done) | omega)); omega), (by show (M_5 0 11).toInt = 44 ∨ (M_5 0 11).toInt = 52; have f0 := congrArg Int32.toInt (hg_M_5 0 11 (by first | decide | (rcases hc0 with h | h <;> rw [h] <;> simp; done) | (rcases hb0 with h | h | h <;> rw [h] <;> simp; done) | (simp; done) | omega)); have f1 := congrArg Int32.toInt (hg_M_2 0 11 (by first | decide | (rcases hc0 with h | h <;> rw [h] <;> simp; done) | (rcases hb0 with h | h | h <;> rw [h] <;> simp; done) | (simp; done) | omega)); omega), (by show (M_5 19 1).toInt = _; rw [if_pos (by omega), show M_5 19 1 = M_2 19 1 from ((hg_M_5 19 1 (by first | decide | (rcases hc0 with h | h <;> rw [h] <;> simp; done) | (rcases hb0 with h | h | h <;> rw [h] <;> simp; done) | (simp; done) | omega)).trans rfl), hS_22]; exact nI0)⟩
    · refine wp_rl (by have f0 := congrArg Int32.toInt (hg_M_5 0 10 (by first | decide | (rcases hc0 with h | h <;> rw [h] <;> simp; done) | (rcases hb0 with h | h | h <;> rw [h] <;> simp; done) | (simp; done) | omega)); have f1 := congrArg Int32.toInt (hg_M_2 0 10 (by first | decide | (rcases hc0 with h | h <;> rw [h] <;> simp; done) | (rcases hb0 with h | h | h <;> rw [h] <;> simp; done) | (simp; done) | omega)); omega) (fun c_6 hc_6 ecc_6 => ?_)
      have hc_60 : c_6 = 44 ∨ c_6 = 52 := hc_6
      refine wp_rl (by have f0 := congrArg Int32.toInt (hg_M_5 0 11 (by first | decide | (rcases hc0 with h | h <;> rw [h] <;> simp; done) | (rcases hb0 with h | h | h <;> rw [h] <;> simp; done) | (simp; done) | omega)); have f1 := congrArg Int32.toInt (hg_M_2 0 11 (by first | decide | (rcases hc0 with h | h <;> rw [h] <;> simp; done) | (rcases hb0 with h | h | h <;> rw [h] <;> simp; done) | (simp; done) | omega)); omega) (fun c_7 hc_7 ecc_7 => ?_)
      have hc_70 : c_7 = 44 ∨ c_7 = 52 := hc_7
      refine wp_bnd (fun M_8 eM_8 => ?_)
      refine wp_bnd (fun M_9 eM_9 => ?_)
      exact wp_some ⟨(fun a i q0 => ((congrFun (congrFun eM_9 a) i).trans ((mset_ne (fun h9 => q0 (Or.inr (Or.inl h9)))).trans ((congrFun (congrFun eM_8 a) i).trans ((mset_ne (fun h9 => q0 (Or.inl h9))).trans ((hg_M_5 a i (fun z8 => q0 ((fun z9 => Or.elim z9 (fun h9 => Or.inr (Or.inr (Or.inr (Or.inr (Or.inl h9))))) (fun z9 => Or.elim z9 (fun h9 => Or.inr (Or.inr (Or.inr (Or.inr (Or.inr (Or.inl h9)))))) (fun z9 => Or.elim z9 (fun h9 => Or.inr (Or.inr (Or.inr (Or.inr (Or.inr (Or.inr (Or.inl h9))))))) (fun z9 => Or.elim z9 (fun h9 => Or.inr (Or.inr (Or.inr (Or.inr (Or.inr (Or.inr (Or.inr (Or.inl h9)))))))) (fun z9 => Or.elim z9 (fun h9 => Or.inr (Or.inr (Or.inr (Or.inr (Or.inr (Or.inr (Or.inr (Or.inr (Or.inl h9))))))))) (fun z9 => Or.elim z9 (fun h9 => Or.inr (Or.inr (Or.inr (Or.inr (Or.inr (Or.inr (Or.inr (Or.inr (Or.inr (Or.inl h9)))))))))) (fun z9 => Or.elim z9 (fun h9 => Or.inr (Or.inr (Or.inr (Or.inr (Or.inr (Or.inr (Or.inr (Or.inr (Or.inr (Or.inr (Or.inl h9))))))))))) (fun z9 => Or.elim z9 (fun h9 => Or.inr (Or.inr (Or.inr (Or.inr (Or.inr (Or.inr (Or.inr (Or.inr (Or.inr (Or.inr (Or.inr (Or.inl h9)))))))))))) (fun z9 => Or.elim z9 (fun h9 => Or.inr (Or.inr (Or.inr (Or.inr (Or.inr (Or.inr (Or.inr (Or.inr (Or.inr (Or.inr (Or.inr (Or.inr (Or.inl h9))))))))))))) (fun z9 => Or.elim z9 (fun h9 => Or.inr (Or.inr (Or.inr (Or.inr (Or.inr (Or.inr (Or.inr (Or.inr (Or.inr (Or.inr (Or.inr (Or.inr (Or.inr (Or.inl h9)))))))))))))) (fun z9 => Or.elim z9 (fun h9 => Or.inr (Or.inr (Or.inr (Or.inr (Or.inr (Or.inr (Or.inr (Or.inr (Or.inr (Or.inr (Or.inr (Or.inr (Or.inr (Or.inr (Or.inl h9))))))))))))))) (fun z9 => Or.elim z9 (fun h9 => Or.inr (Or.inr (Or.inr (Or.inr (Or.inr (Or.inr (Or.inr (Or.inr (Or.inr (Or.inr (Or.inr (Or.inr (Or.inr (Or.inr (Or.inr (Or.inl h9)))))))))))))))) (fun z9 => Or.elim z9 (fun h9 => Or.inr (Or.inr (Or.inr (Or.inr (Or.inr (Or.inr (Or.inr (Or.inr (Or.inr (Or.inr (Or.inr (Or.inr (Or.inr (Or.inr (Or.inr (Or.inr (Or.inl h9))))))))))))))))) (fun z9 => Or.elim z9 (fun h9 => Or.inr (Or.inr (Or.inr (Or.inr (Or.inr (Or.inr (Or.inr (Or.inr (Or.inr (Or.inr (Or.inr (Or.inr (Or.inr (Or.inr (Or.inr (Or.inr (Or.inr (Or.inl h9)))))))))))))))))) (fun z9 => Or.elim z9 (fun h9 => Or.inr (Or.inr (Or.inr (Or.inr (Or.inr (Or.inr (Or.inr (Or.inr (Or.inr (Or.inr (Or.inr (Or.inr (Or.inr (Or.inr (Or.inr (Or.inr (Or.inr (Or.inr (Or.inl h9))))))))))))))))))) (fun z9 => Or.elim z9 (fun h9 => Or.inr (Or.inr (Or.inr (Or.inr (Or.inr (Or.inr (Or.inr (Or.inr (Or.inr (Or.inr (Or.inr (Or.inr (Or.inr (Or.inr (Or.inr (Or.inr (Or.inr (Or.inr (Or.inr (Or.inl h9)))))))))))))))))))) (fun z9 => Or.elim z9 (fun h9 => Or.inr (Or.inr (Or.inr (Or.inr (Or.inr (Or.inr (Or.inr (Or.inr (Or.inr (Or.inr (Or.inr (Or.inr (Or.inr (Or.inr (Or.inr (Or.inr (Or.inr (Or.inr (Or.inr (Or.inr (Or.inl h9))))))))))))))))))))) (fun z9 => Or.elim z9 (fun h9 => Or.inr (Or.inr (Or.inr (Or.inr (Or.inr (Or.inr (Or.inr (Or.inr (Or.inr (Or.inr (Or.inr (Or.inr (Or.inr (Or.inr (Or.inr (Or.inr (Or.inr (Or.inr (Or.inr (Or.inr (Or.inr (Or.inl h9)))))))))))))))))))))) (fun z9 => Or.elim z9 (fun h9 => Or.inr (Or.inr (Or.inr (Or.inr (Or.inr (Or.inr (Or.inr (Or.inr (Or.inr (Or.inr (Or.inr (Or.inr (Or.inr (Or.inr (Or.inr (Or.inr (Or.inr (Or.inr (Or.inr (Or.inr (Or.inr (Or.inr (Or.inl h9))))))))))))))))))))))) (fun h9 => Or.inr (Or.inr (Or.inr (Or.inr (Or.inr (Or.inr (Or.inr (Or.inr (Or.inr (Or.inr (Or.inr (Or.inr (Or.inr (Or.inr (Or.inr (Or.inr (Or.inr (Or.inr (Or.inr (Or.inr (Or.inr (Or.inr (Or.inr (h9))))))))))))))))))))))))))))))))))))))))))) z8))).trans ((hg_M_2 a i (fun z8 => q0 ((fun z9 => Or.elim z9 (fun h9 => Or.inr (Or.inr (Or.inl h9))) (fun z9 => Or.elim z9 (fun h9 => Or.inr (Or.inr (Or.inr (Or.inl h9)))) (fun z9 => Or.elim z9 (fun h9 => Or.inr (Or.inr (Or.inr (Or.inr (Or.inl h9))))) (fun h9 => Or.inr (Or.inr (Or.inr (Or.inr (Or.inr (Or.inl h9))))))))) z8))).trans rfl))))))), (by show (M_9 0 10).toInt = 44 ∨ (M_9 0 10).toInt = 52; have f0 := congrArg Int32.toInt ((congrFun (congrFun eM_9 0) 10).trans (mset_ne (by first | exact nz1 (by decide) | exact nz2 (by decide) | exact nz1 (nzA hc0 (by decide)) | exact nz1 (nzE (by decide)) | exact nz1 (nzB hc0 (by decide)) | exact nz1 (nzC hc0 (by decide)) | exact nz1 (nzD hc0 (by decide)) | exact nz1 (nzF (by decide)) | exact nz1 (nzG (by decide)) | omega))); have f1 := congrArg Int32.toInt ((congrFun (congrFun eM_8 0) 10).trans mset_eq); have f2 := t_lit c_7 (by omega); omega), (by show (M_9 0 11).toInt = 44 ∨ (M_9 0 11).toInt = 52; have f0 := congrArg Int32.toInt ((congrFun (congrFun eM_9 0) 11).trans mset_eq); have f1 := t_lit c_6 (by omega); omega), (by show (M_9 19 1).toInt = _; rw [if_pos (by omega), show M_9 19 1 = M_2 19 1 from ((congrFun (congrFun eM_9 19) 1).trans ((mset_ne (by first | exact nz1 (by decide) | exact nz2 (by decide) | exact nz1 (nzA hc0 (by decide)) | exact nz1 (nzE (by decide)) | exact nz1 (nzB hc0 (by decide)) | exact nz1 (nzC hc0 (by decide)) | exact nz1 (nzD hc0 (by decide)) | exact nz1 (nzF (by decide)) | exact nz1 (nzG (by decide)) | omega)).trans ((congrFun (congrFun eM_8 19) 1).trans ((mset_ne (by first | exact nz1 (by decide) | exact nz2 (by decide) | exact nz1 (nzA hc0 (by decide)) | exact nz1 (nzE (by decide)) | exact nz1 (nzB hc0 (by decide)) | exact nz1 (nzC hc0 (by decide)) | exact nz1 (nzD hc0 (by decide)) | exact nz1 (nzF (by decide)) | exact nz1 (nzG (by decide)) | omega)).trans ((hg_M_5 19 1 (by first | decide | (rcases hc0 with h | h <;> rw [h] <;> simp; done) | (rcases hb0 with h | h | h <;> rw [h] <;> simp; done) | (simp; done) | omega)).trans rfl))))), hS_22]; exact nI0)⟩
theorem o3_X9_notebook (M : Mem) (v1 : Int32) : Wp (f_X9_notebook M v1) (fun q => (∀ a i, ¬ (a = 2 ∨ a = 3 ∨ a = 4 ∨ a = 5 ∨ a = 6 ∨ a = 14 ∨ a = 15 ∨ a = 16 ∨ a = 17 ∨ a = 18 ∨ (a = 19 ∧ i = 1) ∨ (a = 19 ∧ i = 2) ∨ (a = 19 ∧ i = 3) ∨ (a = 19 ∧ i = 4)) → q.2 a i = M a i) ∧ ((q.2 19 1).toInt = (if 1 ≤ v1.toInt ∧ v1.toInt ≤ 200 ∧ v1.toInt ≤ (M 19 1).toInt then 0 else (M 19 1).toInt))) := by
  refine wp_bind2 (o3_X7_holds M v1 (nI 1) (nI 200)) (fun r_1 he9 hq9 => ?_)
  obtain ⟨hz_r_1, hr_9⟩ := hq9
  replace hr_9 : ¬ r_1.toInt = 0 ↔ (nI 1).toInt ≤ v1.toInt ∧ v1.toInt ≤ (nI 200).toInt ∧ v1.toInt ≤ (M 19 1).toInt := hr_9
  have := t_lit 1
  have := t_lit 200
  refine wp_ite (fun c12 => ?_) (fun c12 => ?_)
  · exact wp_some ⟨(fun _ _ _ => rfl), (by show (M 19 1).toInt = _; rw [if_neg (by omega)])⟩
  · refine wp_bind2 (o3_X7_open M v1) (fun M_2 he22 hq22 => ?_)
    obtain ⟨hg_M_2, hS_22⟩ := hq22
    replace hS_22 : M_2 19 1 = nI 0 := hS_22
    replace hg_M_2 : ∀ a i, ¬ ((a = 19 ∧ i = 1) ∨ (a = 19 ∧ i = 2) ∨ (a = 19 ∧ i = 3) ∨ (a = 19 ∧ i = 4)) → M_2 a i = M a i := hg_M_2
    refine wp_cb2 (o_X9_readNotebook (Or.inr (Or.inr rfl)) M_2) (fun r_3 M_4 he33 hq33 => ?_)
    have hg_M_4 := hq33
    replace hg_M_4 : ∀ a i, ¬ (a = 14 ∨ a = 15 ∨ a = 16 ∨ a = 17 ∨ a = 18 ∨ (a = 19 ∧ i = 3) ∨ (a = 19 ∧ i = 4)) → M_4 a i = M_2 a i := by exact fun a i q0 => hg_M_4 a i (by first | decide | (rcases hc0 with h | h <;> rw [h] <;> simp; done) | (rcases hb0 with h | h | h <;> rw [h] <;> simp; done) | (simp; done) | omega)
    refine wp_ite (fun c38 => ?_) (fun c38 => ?_)
    · exact wp_some ⟨(fun a i q0 => ((hg_M_4 a i (fun z8 => q0 ((fun z9 => Or.elim z9 (fun h9 => Or.inr (Or.inr (Or.inr (Or.inr (Or.inr (Or.inl h9)))))) (fun z9 => Or.elim z9 (fun h9 => Or.inr (Or.inr (Or.inr (Or.inr (Or.inr (Or.inr (Or.inl h9))))))) (fun z9 => Or.elim z9 (fun h9 => Or.inr (Or.inr (Or.inr (Or.inr (Or.inr (Or.inr (Or.inr (Or.inl h9)))))))) (fun z9 => Or.elim z9 (fun h9 => Or.inr (Or.inr (Or.inr (Or.inr (Or.inr (Or.inr (Or.inr (Or.inr (Or.inl h9))))))))) (fun z9 => Or.elim z9 (fun h9 => Or.inr (Or.inr (Or.inr (Or.inr (Or.inr (Or.inr (Or.inr (Or.inr (Or.inr (Or.inl h9)))))))))) (fun z9 => Or.elim z9 (fun h9 => Or.inr (Or.inr (Or.inr (Or.inr (Or.inr (Or.inr (Or.inr (Or.inr (Or.inr (Or.inr (Or.inr (Or.inr (Or.inl h9))))))))))))) (fun h9 => Or.inr (Or.inr (Or.inr (Or.inr (Or.inr (Or.inr (Or.inr (Or.inr (Or.inr (Or.inr (Or.inr (Or.inr (Or.inr (h9)))))))))))))))))))) z8))).trans ((hg_M_2 a i (fun z8 => q0 ((fun z9 => Or.elim z9 (fun h9 => Or.inr (Or.inr (Or.inr (Or.inr (Or.inr (Or.inr (Or.inr (Or.inr (Or.inr (Or.inr (Or.inl h9))))))))))) (fun z9 => Or.elim z9 (fun h9 => Or.inr (Or.inr (Or.inr (Or.inr (Or.inr (Or.inr (Or.inr (Or.inr (Or.inr (Or.inr (Or.inr (Or.inl h9)))))))))))) (fun z9 => Or.elim z9 (fun h9 => Or.inr (Or.inr (Or.inr (Or.inr (Or.inr (Or.inr (Or.inr (Or.inr (Or.inr (Or.inr (Or.inr (Or.inr (Or.inl h9))))))))))))) (fun h9 => Or.inr (Or.inr (Or.inr (Or.inr (Or.inr (Or.inr (Or.inr (Or.inr (Or.inr (Or.inr (Or.inr (Or.inr (Or.inr (h9))))))))))))))))) z8))).trans rfl))), (by show (M_4 19 1).toInt = _; rw [if_pos (by omega), show M_4 19 1 = M_2 19 1 from ((hg_M_4 19 1 (by first | decide | (rcases hc0 with h | h <;> rw [h] <;> simp; done) | (rcases hb0 with h | h | h <;> rw [h] <;> simp; done) | (simp; done) | omega)).trans rfl), hS_22]; exact nI0)⟩
    · refine wp_bind2 (o_X2_copyStones (Or.inl rfl) (Or.inr (Or.inr rfl)) M_4) (fun M_5 he49 hq49 => ?_)
      have hg_M_5 := hq49
      replace hg_M_5 : ∀ a i, ¬ (a = 2 ∨ a = 3 ∨ a = 4 ∨ a = 5 ∨ a = 6) → M_5 a i = M_4 a i := by exact fun a i q0 => hg_M_5 a i (by first | decide | (rcases hc0 with h | h <;> rw [h] <;> simp; done) | (rcases hb0 with h | h | h <;> rw [h] <;> simp; done) | (simp; done) | omega)
      exact wp_some ⟨(fun a i q0 => ((hg_M_5 a i (fun z8 => q0 ((fun z9 => Or.elim z9 (fun h9 => Or.inl h9) (fun z9 => Or.elim z9 (fun h9 => Or.inr (Or.inl h9)) (fun z9 => Or.elim z9 (fun h9 => Or.inr (Or.inr (Or.inl h9))) (fun z9 => Or.elim z9 (fun h9 => Or.inr (Or.inr (Or.inr (Or.inl h9)))) (fun h9 => Or.inr (Or.inr (Or.inr (Or.inr (Or.inl h9))))))))) z8))).trans ((hg_M_4 a i (fun z8 => q0 ((fun z9 => Or.elim z9 (fun h9 => Or.inr (Or.inr (Or.inr (Or.inr (Or.inr (Or.inl h9)))))) (fun z9 => Or.elim z9 (fun h9 => Or.inr (Or.inr (Or.inr (Or.inr (Or.inr (Or.inr (Or.inl h9))))))) (fun z9 => Or.elim z9 (fun h9 => Or.inr (Or.inr (Or.inr (Or.inr (Or.inr (Or.inr (Or.inr (Or.inl h9)))))))) (fun z9 => Or.elim z9 (fun h9 => Or.inr (Or.inr (Or.inr (Or.inr (Or.inr (Or.inr (Or.inr (Or.inr (Or.inl h9))))))))) (fun z9 => Or.elim z9 (fun h9 => Or.inr (Or.inr (Or.inr (Or.inr (Or.inr (Or.inr (Or.inr (Or.inr (Or.inr (Or.inl h9)))))))))) (fun z9 => Or.elim z9 (fun h9 => Or.inr (Or.inr (Or.inr (Or.inr (Or.inr (Or.inr (Or.inr (Or.inr (Or.inr (Or.inr (Or.inr (Or.inr (Or.inl h9))))))))))))) (fun h9 => Or.inr (Or.inr (Or.inr (Or.inr (Or.inr (Or.inr (Or.inr (Or.inr (Or.inr (Or.inr (Or.inr (Or.inr (Or.inr (h9)))))))))))))))))))) z8))).trans ((hg_M_2 a i (fun z8 => q0 ((fun z9 => Or.elim z9 (fun h9 => Or.inr (Or.inr (Or.inr (Or.inr (Or.inr (Or.inr (Or.inr (Or.inr (Or.inr (Or.inr (Or.inl h9))))))))))) (fun z9 => Or.elim z9 (fun h9 => Or.inr (Or.inr (Or.inr (Or.inr (Or.inr (Or.inr (Or.inr (Or.inr (Or.inr (Or.inr (Or.inr (Or.inl h9)))))))))))) (fun z9 => Or.elim z9 (fun h9 => Or.inr (Or.inr (Or.inr (Or.inr (Or.inr (Or.inr (Or.inr (Or.inr (Or.inr (Or.inr (Or.inr (Or.inr (Or.inl h9))))))))))))) (fun h9 => Or.inr (Or.inr (Or.inr (Or.inr (Or.inr (Or.inr (Or.inr (Or.inr (Or.inr (Or.inr (Or.inr (Or.inr (Or.inr (h9))))))))))))))))) z8))).trans rfl)))), (by show (M_5 19 1).toInt = _; rw [if_pos (by omega), show M_5 19 1 = M_2 19 1 from ((hg_M_5 19 1 (by first | decide | (rcases hc0 with h | h <;> rw [h] <;> simp; done) | (rcases hb0 with h | h | h <;> rw [h] <;> simp; done) | (simp; done) | omega)).trans ((hg_M_4 19 1 (by first | decide | (rcases hc0 with h | h <;> rw [h] <;> simp; done) | (rcases hb0 with h | h | h <;> rw [h] <;> simp; done) | (simp; done) | omega)).trans rfl)), hS_22]; exact nI0)⟩
theorem o3_X9_letters (M : Mem) (v1 : Int32) (v2 : Int32) : Wp (f_X9_letters M v1 v2) (fun q => (∀ a i, ¬ ((a = 19 ∧ i = 1) ∨ (a = 19 ∧ i = 2) ∨ (a = 19 ∧ i = 3) ∨ (a = 19 ∧ i = 4)) → q.2 a i = M a i) ∧ ((q.2 19 1).toInt = (if (0 ≤ v2.toInt ∧ v2.toInt ≤ 1) ∧ 1 ≤ v1.toInt ∧ v1.toInt ≤ 8 ∧ v1.toInt ≤ (M 19 1).toInt then 0 else (M 19 1).toInt))) := by
  refine wp_bind2 (o3_X9_isEither M v2) (fun r_1 he1 hq1 => ?_)
  obtain ⟨hz_r_1, hr_1⟩ := hq1
  replace hr_1 : ¬ r_1.toInt = 0 ↔ 0 ≤ v2.toInt ∧ v2.toInt ≤ 1 := hr_1
  refine wp_ite (fun c4 => ?_) (fun c4 => ?_)
  · exact wp_some ⟨(fun _ _ _ => rfl), (by show (M 19 1).toInt = _; rw [if_neg (by omega)])⟩
  · refine wp_bind2 (o3_X7_holds M v1 (nI 1) (nI 8)) (fun r_2 he15 hq15 => ?_)
    obtain ⟨hz_r_2, hr_15⟩ := hq15
    replace hr_15 : ¬ r_2.toInt = 0 ↔ (nI 1).toInt ≤ v1.toInt ∧ v1.toInt ≤ (nI 8).toInt ∧ v1.toInt ≤ (M 19 1).toInt := hr_15
    have := t_lit 1
    have := t_lit 8
    refine wp_ite (fun c18 => ?_) (fun c18 => ?_)
    · exact wp_some ⟨(fun _ _ _ => rfl), (by show (M 19 1).toInt = _; rw [if_neg (by omega)])⟩
    · refine wp_bind2 (o3_X7_open M v1) (fun M_3 he28 hq28 => ?_)
      obtain ⟨hg_M_3, hS_28⟩ := hq28
      replace hS_28 : M_3 19 1 = nI 0 := hS_28
      replace hg_M_3 : ∀ a i, ¬ ((a = 19 ∧ i = 1) ∨ (a = 19 ∧ i = 2) ∨ (a = 19 ∧ i = 3) ∨ (a = 19 ∧ i = 4)) → M_3 a i = M a i := hg_M_3
      have ft1 := t_rng v1
      refine wp_lp1 (fun y3_33 => (0 ≤ y3_33.toInt)) (fun y3_33 => (v1.toInt - y3_33.toInt).toNat) (fun ag33 y3_33 hI33 ih33 => ?_) FU (nI 0) (by have f0 := t_lit 0; omega) (fu_lt (by have f0 := t_lit 0; omega))
      have hi33 := hI33
      have j58 : Wp (f_X9_letters_L58 v1 v2 M_3) (fun q => (∀ a i, ¬ ((a = 19 ∧ i = 1) ∨ (a = 19 ∧ i = 2) ∨ (a = 19 ∧ i = 3) ∨ (a = 19 ∧ i = 4)) → q.2 a i = M a i) ∧ ((q.2 19 1).toInt = (if (0 ≤ v2.toInt ∧ v2.toInt ≤ 1) ∧ 1 ≤ v1.toInt ∧ v1.toInt ≤ 8 ∧ v1.toInt ≤ (M 19 1).toInt then 0 else (M 19 1).toInt))) := by
        unfold f_X9_letters_L58
        refine wp_bind2 (o_X9_evenBag M_3 v1 (by omega)) (fun r_4 he60 hq60 => ?_)
        refine wp_ite (fun c65 => ?_) (fun c65 => ?_)
        · refine wp_bind2 (o_X9_unlike M_3 r_4 v1) (fun r_5 he71 hq71 => ?_)
          exact wp_some ⟨(fun a i q0 => ((hg_M_3 a i (fun z8 => q0 ((fun z9 => Or.elim z9 (fun h9 => Or.inl h9) (fun z9 => Or.elim z9 (fun h9 => Or.inr (Or.inl h9)) (fun z9 => Or.elim z9 (fun h9 => Or.inr (Or.inr (Or.inl h9))) (fun h9 => Or.inr (Or.inr (Or.inr (h9))))))) z8))).trans rfl)), (by show (M_3 19 1).toInt = _; rw [if_pos (by omega), show M_3 19 1 = M_3 19 1 from rfl, hS_28]; exact nI0)⟩
        · exact wp_some ⟨(fun a i q0 => ((hg_M_3 a i (fun z8 => q0 ((fun z9 => Or.elim z9 (fun h9 => Or.inl h9) (fun z9 => Or.elim z9 (fun h9 => Or.inr (Or.inl h9)) (fun z9 => Or.elim z9 (fun h9 => Or.inr (Or.inr (Or.inl h9))) (fun h9 => Or.inr (Or.inr (Or.inr (h9))))))) z8))).trans rfl)), (by show (M_3 19 1).toInt = _; rw [if_pos (by omega), show M_3 19 1 = M_3 19 1 from rfl, hS_28]; exact nI0)⟩
      refine wp_ite (fun c35 => ?_) (fun c35 => ?_)
      · exact j58
      · refine wp_bind2 (o_X7_byteAt M_3 y3_33) (fun r_6 he43 hq43 => ?_)
        refine wp_ite (fun c46 => ?_) (fun c46 => ?_)
        · exact wp_some ⟨(fun a i q0 => ((hg_M_3 a i (fun z8 => q0 ((fun z9 => Or.elim z9 (fun h9 => Or.inl h9) (fun z9 => Or.elim z9 (fun h9 => Or.inr (Or.inl h9)) (fun z9 => Or.elim z9 (fun h9 => Or.inr (Or.inr (Or.inl h9))) (fun h9 => Or.inr (Or.inr (Or.inr (h9))))))) z8))).trans rfl)), (by show (M_3 19 1).toInt = _; rw [if_pos (by omega), show M_3 19 1 = M_3 19 1 from rfl, hS_28]; exact nI0)⟩
        · exact ih33 (y3_33 + (nI 1)) (by have f0 := t_lit 1; have f1 := t_add y3_33 (nI 1); omega) (by have f0 := t_lit 1; have f1 := t_add y3_33 (nI 1); omega)
theorem o3_X9_check (M : Mem) (v1 : Int32) : Wp (f_X9_check M v1) (fun q => (∀ a i, ¬ ((a = 19 ∧ i = 1) ∨ (a = 19 ∧ i = 2) ∨ (a = 19 ∧ i = 3) ∨ (a = 19 ∧ i = 4)) → q.2 a i = M a i) ∧ ((q.2 19 1).toInt = (if 0 ≤ v1.toInt ∧ v1.toInt ≤ 40 ∧ v1.toInt ≤ (M 19 1).toInt then 0 else (M 19 1).toInt))) := by
  refine wp_bind2 (o3_X7_holds M v1 (nI 0) (nI 40)) (fun r_1 he8 hq8 => ?_)
  obtain ⟨hz_r_1, hr_8⟩ := hq8
  replace hr_8 : ¬ r_1.toInt = 0 ↔ (nI 0).toInt ≤ v1.toInt ∧ v1.toInt ≤ (nI 40).toInt ∧ v1.toInt ≤ (M 19 1).toInt := hr_8
  have := t_lit 0
  have := t_lit 40
  refine wp_ite (fun c11 => ?_) (fun c11 => ?_)
  · exact wp_some ⟨(fun _ _ _ => rfl), (by show (M 19 1).toInt = _; rw [if_neg (by omega)])⟩
  · refine wp_bind2 (o3_X7_open M v1) (fun M_2 he22 hq22 => ?_)
    obtain ⟨hg_M_2, hS_22⟩ := hq22
    replace hS_22 : M_2 19 1 = nI 0 := hS_22
    replace hg_M_2 : ∀ a i, ¬ ((a = 19 ∧ i = 1) ∨ (a = 19 ∧ i = 2) ∨ (a = 19 ∧ i = 3) ∨ (a = 19 ∧ i = 4)) → M_2 a i = M a i := hg_M_2
    have ft1 := t_rng v1
    refine wp_lp1 (fun y2_27 => (0 ≤ y2_27.toInt)) (fun y2_27 => (v1.toInt - y2_27.toInt).toNat) (fun ag27 y2_27 hI27 ih27 => ?_) FU (nI 0) (by have f0 := t_lit 0; omega) (fu_lt (by have f0 := t_lit 0; omega))
    have hi27 := hI27
    refine wp_ite (fun c29 => ?_) (fun c29 => ?_)
    · exact wp_some ⟨(fun a i q0 => ((hg_M_2 a i (fun z8 => q0 ((fun z9 => Or.elim z9 (fun h9 => Or.inl h9) (fun z9 => Or.elim z9 (fun h9 => Or.inr (Or.inl h9)) (fun z9 => Or.elim z9 (fun h9 => Or.inr (Or.inr (Or.inl h9))) (fun h9 => Or.inr (Or.inr (Or.inr (h9))))))) z8))).trans rfl)), (by show (M_2 19 1).toInt = _; rw [if_pos (by omega), show M_2 19 1 = M_2 19 1 from rfl, hS_22]; exact nI0)⟩
    · refine wp_bind2 (o_X2_isTold (Or.inl rfl) M_2 y2_27) (fun r_3 he37 hq37 => ?_)
      obtain ⟨hz_r_3, hr_37⟩ := hq37
      replace hr_37 : ¬ r_3.toInt = 0 → 0 ≤ y2_27.toInt ∧ y2_27.toInt < 40 := hr_37
      have j58 : ∀ (t0_58 : Int32), Wp (f_X9_check_L58 M_2 ag27 y2_27 t0_58) (fun q => (∀ a i, ¬ ((a = 19 ∧ i = 1) ∨ (a = 19 ∧ i = 2) ∨ (a = 19 ∧ i = 3) ∨ (a = 19 ∧ i = 4)) → q.2 a i = M a i) ∧ ((q.2 19 1).toInt = (if 0 ≤ v1.toInt ∧ v1.toInt ≤ 40 ∧ v1.toInt ≤ (M 19 1).toInt then 0 else (M 19 1).toInt))) := by
        intro t0_58
        unfold f_X9_check_L58
        refine wp_bind2 (o_X7_byteAt M_2 y2_27) (fun r_4 he64 hq64 => ?_)
        refine wp_ite (fun c68 => ?_) (fun c68 => ?_)
        · exact ih27 (y2_27 + (nI 1)) (by have f0 := t_lit 1; have f1 := t_add y2_27 (nI 1); omega) (by have f0 := t_lit 1; have f1 := t_add y2_27 (nI 1); omega)
        · exact wp_some ⟨(fun a i q0 => ((hg_M_2 a i (fun z8 => q0 ((fun z9 => Or.elim z9 (fun h9 => Or.inl h9) (fun z9 => Or.elim z9 (fun h9 => Or.inr (Or.inl h9)) (fun z9 => Or.elim z9 (fun h9 => Or.inr (Or.inr (Or.inl h9))) (fun h9 => Or.inr (Or.inr (Or.inr (h9))))))) z8))).trans rfl)), (by show (M_2 19 1).toInt = _; rw [if_pos (by omega), show M_2 19 1 = M_2 19 1 from rfl, hS_22]; exact nI0)⟩
      refine wp_ite (fun c40 => ?_) (fun c40 => ?_)
      · exact j58 (nI 255)
      · refine wp_gd (by omega) ?_
        exact j58 (M_2 2 (ix y2_27))
theorem o3_X9_chalk (M : Mem) (v1 : Int32) (v2 : Int32) : Wp (f_X9_chalk M v1 v2) (fun q => (∀ a i, ¬ ((a = 19 ∧ i = 1) ∨ (a = 19 ∧ i = 2) ∨ (a = 19 ∧ i = 3) ∨ (a = 19 ∧ i = 4) ∨ a = 38 ∨ a = 39 ∨ a = 40 ∨ a = 41 ∨ a = 42) → q.2 a i = M a i) ∧ ((q.2 19 1).toInt = (if (1 ≤ v1.toInt ∧ v1.toInt ≤ 7) ∧ (v2.toInt = 100 ∨ (0 ≤ v2.toInt ∧ v2.toInt < v1.toInt)) ∧ 2 * v1.toInt ≤ (M 19 1).toInt then 0 else (M 19 1).toInt))) := by
  have tm : (1 ≤ v1.toInt ∧ v1.toInt ≤ 7) → ((nI 2) * v1).toInt = 2 * v1.toInt := fun z => t_mulL v1 2 (by omega) (by omega)
  refine wp_ite (fun c2 => ?_) (fun c2 => ?_)
  · exact wp_some ⟨(fun _ _ _ => rfl), (by show (M 19 1).toInt = _; rw [if_neg (by omega)])⟩
  · refine wp_ite (fun c8 => ?_) (fun c8 => ?_)
    · exact wp_some ⟨(fun _ _ _ => rfl), (by show (M 19 1).toInt = _; rw [if_neg (by omega)])⟩
    · refine wp_bind2 (o3_X7_holds M ((nI 2) * v1) (nI 2) (nI 14)) (fun r_1 he21 hq21 => ?_)
      obtain ⟨hz_r_1, hr_21⟩ := hq21
      replace hr_21 : ¬ r_1.toInt = 0 ↔ (nI 2).toInt ≤ ((nI 2) * v1).toInt ∧ ((nI 2) * v1).toInt ≤ (nI 14).toInt ∧ ((nI 2) * v1).toInt ≤ (M 19 1).toInt := hr_21
      have := t_lit 2
      have := t_lit 14
      refine wp_ite (fun c24 => ?_) (fun c24 => ?_)
      · exact wp_some ⟨(fun _ _ _ => rfl), (by show (M 19 1).toInt = _; rw [if_neg (by omega)])⟩
      · have j46 : (v2.toInt = 100 ∨ (0 ≤ v2.toInt ∧ v2.toInt < v1.toInt)) → Wp (f_X9_chalk_L46 M v1 v2) (fun q => (∀ a i, ¬ ((a = 19 ∧ i = 1) ∨ (a = 19 ∧ i = 2) ∨ (a = 19 ∧ i = 3) ∨ (a = 19 ∧ i = 4) ∨ a = 38 ∨ a = 39 ∨ a = 40 ∨ a = 41 ∨ a = 42) → q.2 a i = M a i) ∧ ((q.2 19 1).toInt = (if (1 ≤ v1.toInt ∧ v1.toInt ≤ 7) ∧ (v2.toInt = 100 ∨ (0 ≤ v2.toInt ∧ v2.toInt < v1.toInt)) ∧ 2 * v1.toInt ≤ (M 19 1).toInt then 0 else (M 19 1).toInt))) := by
          intro h46
          unfold f_X9_chalk_L46
          refine wp_bind2 (o3_X7_open M ((nI 2) * v1)) (fun M_2 he53 hq53 => ?_)
          obtain ⟨hg_M_2, hS_53⟩ := hq53
          replace hS_53 : M_2 19 1 = nI 0 := hS_53
          replace hg_M_2 : ∀ a i, ¬ ((a = 19 ∧ i = 1) ∨ (a = 19 ∧ i = 2) ∨ (a = 19 ∧ i = 3) ∨ (a = 19 ∧ i = 4)) → M_2 a i = M a i := hg_M_2
          refine wp_bind2 (o_X2_countTold (Or.inl rfl) M_2) (fun r_3 he60 hq60 => ?_)
          refine wp_ite (fun c64 => ?_) (fun c64 => ?_)
          · refine wp_cb2 (o_X0_read M_2 v1) (fun r_4 M_5 he79 hq79 => ?_)
            obtain ⟨hz_r_4, hg_M_5⟩ := hq79
            replace hg_M_5 : ∀ a i, ¬ (a = 38 ∨ a = 39) → M_5 a i = M_2 a i := hg_M_5
            refine wp_ite (fun c82 => ?_) (fun c82 => ?_)
            · exact wp_some ⟨(fun a i q0 => ((hg_M_5 a i (fun z8 => q0 ((fun z9 => Or.elim z9 (fun h9 => Or.inr (Or.inr (Or.inr (Or.inr (Or.inl h9))))) (fun h9 => Or.inr (Or.inr (Or.inr (Or.inr (Or.inr (Or.inl h9))))))) z8))).trans ((hg_M_2 a i (fun z8 => q0 ((fun z9 => Or.elim z9 (fun h9 => Or.inl h9) (fun z9 => Or.elim z9 (fun h9 => Or.inr (Or.inl h9)) (fun z9 => Or.elim z9 (fun h9 => Or.inr (Or.inr (Or.inl h9))) (fun h9 => Or.inr (Or.inr (Or.inr (Or.inl h9))))))) z8))).trans rfl))), (by show (M_5 19 1).toInt = _; rw [if_pos (by omega), show M_5 19 1 = M_2 19 1 from ((hg_M_5 19 1 (by first | decide | (rcases hc0 with h | h <;> rw [h] <;> simp; done) | (rcases hb0 with h | h | h <;> rw [h] <;> simp; done) | (simp; done) | omega)).trans rfl), hS_53]; exact nI0)⟩
            · refine wp_bind2 (o_X0_match (Or.inl rfl) M_5 v1 (by omega)) (fun M_6 he97 hq97 => ?_)
              have hg_M_6 := hq97
              replace hg_M_6 : ∀ a i, ¬ (a = 40 ∨ a = 41 ∨ a = 42) → M_6 a i = M_5 a i := by exact fun a i q0 => hg_M_6 a i (by first | decide | (rcases hc0 with h | h <;> rw [h] <;> simp; done) | (rcases hb0 with h | h | h <;> rw [h] <;> simp; done) | (simp; done) | omega)
              refine wp_ite (fun c103 => ?_) (fun c103 => ?_)
              · refine wp_bind2 (o_X0_wayInAll M_6) (fun r_8 he110 hq110 => ?_)
                exact wp_some ⟨(fun a i q0 => ((hg_M_6 a i (fun z8 => q0 ((fun z9 => Or.elim z9 (fun h9 => Or.inr (Or.inr (Or.inr (Or.inr (Or.inr (Or.inr (Or.inl h9))))))) (fun z9 => Or.elim z9 (fun h9 => Or.inr (Or.inr (Or.inr (Or.inr (Or.inr (Or.inr (Or.inr (Or.inl h9)))))))) (fun h9 => Or.inr (Or.inr (Or.inr (Or.inr (Or.inr (Or.inr (Or.inr (Or.inr (h9))))))))))) z8))).trans ((hg_M_5 a i (fun z8 => q0 ((fun z9 => Or.elim z9 (fun h9 => Or.inr (Or.inr (Or.inr (Or.inr (Or.inl h9))))) (fun h9 => Or.inr (Or.inr (Or.inr (Or.inr (Or.inr (Or.inl h9))))))) z8))).trans ((hg_M_2 a i (fun z8 => q0 ((fun z9 => Or.elim z9 (fun h9 => Or.inl h9) (fun z9 => Or.elim z9 (fun h9 => Or.inr (Or.inl h9)) (fun z9 => Or.elim z9 (fun h9 => Or.inr (Or.inr (Or.inl h9))) (fun h9 => Or.inr (Or.inr (Or.inr (Or.inl h9))))))) z8))).trans rfl)))), (by show (M_6 19 1).toInt = _; rw [if_pos (by omega), show M_6 19 1 = M_2 19 1 from ((hg_M_6 19 1 (by first | decide | (rcases hc0 with h | h <;> rw [h] <;> simp; done) | (rcases hb0 with h | h | h <;> rw [h] <;> simp; done) | (simp; done) | omega)).trans ((hg_M_5 19 1 (by first | decide | (rcases hc0 with h | h <;> rw [h] <;> simp; done) | (rcases hb0 with h | h | h <;> rw [h] <;> simp; done) | (simp; done) | omega)).trans rfl)), hS_53]; exact nI0)⟩
              · refine wp_bind2 (o_X0_stoneOf M_6 v1 v2) (fun r_7 he122 hq122 => ?_)
                exact wp_some ⟨(fun a i q0 => ((hg_M_6 a i (fun z8 => q0 ((fun z9 => Or.elim z9 (fun h9 => Or.inr (Or.inr (Or.inr (Or.inr (Or.inr (Or.inr (Or.inl h9))))))) (fun z9 => Or.elim z9 (fun h9 => Or.inr (Or.inr (Or.inr (Or.inr (Or.inr (Or.inr (Or.inr (Or.inl h9)))))))) (fun h9 => Or.inr (Or.inr (Or.inr (Or.inr (Or.inr (Or.inr (Or.inr (Or.inr (h9))))))))))) z8))).trans ((hg_M_5 a i (fun z8 => q0 ((fun z9 => Or.elim z9 (fun h9 => Or.inr (Or.inr (Or.inr (Or.inr (Or.inl h9))))) (fun h9 => Or.inr (Or.inr (Or.inr (Or.inr (Or.inr (Or.inl h9))))))) z8))).trans ((hg_M_2 a i (fun z8 => q0 ((fun z9 => Or.elim z9 (fun h9 => Or.inl h9) (fun z9 => Or.elim z9 (fun h9 => Or.inr (Or.inl h9)) (fun z9 => Or.elim z9 (fun h9 => Or.inr (Or.inr (Or.inl h9))) (fun h9 => Or.inr (Or.inr (Or.inr (Or.inl h9))))))) z8))).trans rfl)))), (by show (M_6 19 1).toInt = _; rw [if_pos (by omega), show M_6 19 1 = M_2 19 1 from ((hg_M_6 19 1 (by first | decide | (rcases hc0 with h | h <;> rw [h] <;> simp; done) | (rcases hb0 with h | h | h <;> rw [h] <;> simp; done) | (simp; done) | omega)).trans ((hg_M_5 19 1 (by first | decide | (rcases hc0 with h | h <;> rw [h] <;> simp; done) | (rcases hb0 with h | h | h <;> rw [h] <;> simp; done) | (simp; done) | omega)).trans rfl)), hS_53]; exact nI0)⟩
          · exact wp_some ⟨(fun a i q0 => ((hg_M_2 a i (fun z8 => q0 ((fun z9 => Or.elim z9 (fun h9 => Or.inl h9) (fun z9 => Or.elim z9 (fun h9 => Or.inr (Or.inl h9)) (fun z9 => Or.elim z9 (fun h9 => Or.inr (Or.inr (Or.inl h9))) (fun h9 => Or.inr (Or.inr (Or.inr (Or.inl h9))))))) z8))).trans rfl)), (by show (M_2 19 1).toInt = _; rw [if_pos (by omega), show M_2 19 1 = M_2 19 1 from rfl, hS_53]; exact nI0)⟩
        refine wp_ite (fun c32 => ?_) (fun c32 => ?_)
        · exact j46 (by omega)
        · refine wp_ite (fun c36 => ?_) (fun c36 => ?_)
          · exact wp_some ⟨(fun _ _ _ => rfl), (by show (M 19 1).toInt = _; rw [if_neg (by omega)])⟩
          · refine wp_ite (fun c41 => ?_) (fun c41 => ?_)
            · exact j46 (by omega)
            · exact wp_some ⟨(fun _ _ _ => rfl), (by show (M 19 1).toInt = _; rw [if_neg (by omega)])⟩
theorem o3_X9_walk (M : Mem) (v1 : Int32) (v2 : Int32) (v3 : Int32) (v4 : Int32) : Wp (f_X9_walk M v1 v2 v3 v4) (fun q => (∀ a i, ¬ ((a = 19 ∧ i = 1) ∨ (a = 19 ∧ i = 2) ∨ (a = 19 ∧ i = 3) ∨ (a = 19 ∧ i = 4) ∨ (a = 34 ∧ i = 2) ∨ (a = 34 ∧ i = 3) ∨ (a = 34 ∧ i = 4) ∨ (a = 34 ∧ i = 5) ∨ a = 35 ∨ a = 36) → q.2 a i = M a i) ∧ ((q.2 19 1).toInt = (if ((0 ≤ v1.toInt ∧ v1.toInt < 8) ∧ ¬ (M 43 (ix v1)).toInt = 0) ∧ (0 ≤ v2.toInt ∧ v2.toInt ≤ 39) ∧ (0 ≤ v4.toInt ∧ v4.toInt ≤ 3) ∧ 1 ≤ v3.toInt ∧ v3.toInt ≤ 60 ∧ v3.toInt ≤ (M 19 1).toInt then 0 else (M 19 1).toInt))) := by
  refine wp_bind2 (o3_X9_strideOf M v1) (fun r_1 he2 hq2 => ?_)
  have hi_2 := hq2
  replace hi_2 : ¬ r_1.toInt = 0 ↔ (0 ≤ v1.toInt ∧ v1.toInt < 8) ∧ ¬ (M 43 (ix v1)).toInt = 0 := hi_2
  refine wp_ite (fun c9 => ?_) (fun c9 => ?_)
  · exact wp_some ⟨(fun _ _ _ => rfl), (by show (M 19 1).toInt = _; rw [if_neg (by omega)])⟩
  · refine wp_ite (fun c13 => ?_) (fun c13 => ?_)
    · exact wp_some ⟨(fun _ _ _ => rfl), (by show (M 19 1).toInt = _; rw [if_neg (by omega)])⟩
    · refine wp_ite (fun c19 => ?_) (fun c19 => ?_)
      · exact wp_some ⟨(fun _ _ _ => rfl), (by show (M 19 1).toInt = _; rw [if_neg (by omega)])⟩
      · refine wp_ite (fun c24 => ?_) (fun c24 => ?_)
        · exact wp_some ⟨(fun _ _ _ => rfl), (by show (M 19 1).toInt = _; rw [if_neg (by omega)])⟩
        · refine wp_ite (fun c30 => ?_) (fun c30 => ?_)
          · exact wp_some ⟨(fun _ _ _ => rfl), (by show (M 19 1).toInt = _; rw [if_neg (by omega)])⟩
          · refine wp_bind2 (o3_X7_holds M v3 (nI 1) (nI 60)) (fun r_2 he41 hq41 => ?_)
            obtain ⟨hz_r_2, hr_41⟩ := hq41
            replace hr_41 : ¬ r_2.toInt = 0 ↔ (nI 1).toInt ≤ v3.toInt ∧ v3.toInt ≤ (nI 60).toInt ∧ v3.toInt ≤ (M 19 1).toInt := hr_41
            have := t_lit 1
            have := t_lit 60
            refine wp_ite (fun c44 => ?_) (fun c44 => ?_)
            · exact wp_some ⟨(fun _ _ _ => rfl), (by show (M 19 1).toInt = _; rw [if_neg (by omega)])⟩
            · refine wp_bind2 (o3_X7_open M v3) (fun M_3 he54 hq54 => ?_)
              obtain ⟨hg_M_3, hS_54⟩ := hq54
              replace hS_54 : M_3 19 1 = nI 0 := hS_54
              replace hg_M_3 : ∀ a i, ¬ ((a = 19 ∧ i = 1) ∨ (a = 19 ∧ i = 2) ∨ (a = 19 ∧ i = 3) ∨ (a = 19 ∧ i = 4)) → M_3 a i = M a i := hg_M_3
              refine wp_cb2 (o_X4_read M_3) (fun r_4 M_5 he65 hq65 => ?_)
              obtain ⟨hz_r_4, hg_M_5⟩ := hq65
              replace hg_M_5 : ∀ a i, ¬ ((a = 19 ∧ i = 3) ∨ (a = 19 ∧ i = 4) ∨ (a = 34 ∧ i = 2) ∨ a = 35 ∨ a = 36) → M_5 a i = M_3 a i := hg_M_5
              refine wp_ite (fun c68 => ?_) (fun c68 => ?_)
              · exact wp_some ⟨(fun a i q0 => ((hg_M_5 a i (fun z8 => q0 ((fun z9 => Or.elim z9 (fun h9 => Or.inr (Or.inr (Or.inl h9))) (fun z9 => Or.elim z9 (fun h9 => Or.inr (Or.inr (Or.inr (Or.inl h9)))) (fun z9 => Or.elim z9 (fun h9 => Or.inr (Or.inr (Or.inr (Or.inr (Or.inl h9))))) (fun z9 => Or.elim z9 (fun h9 => Or.inr (Or.inr (Or.inr (Or.inr (Or.inr (Or.inr (Or.inr (Or.inr (Or.inl h9))))))))) (fun h9 => Or.inr (Or.inr (Or.inr (Or.inr (Or.inr (Or.inr (Or.inr (Or.inr (Or.inr (h9)))))))))))))) z8))).trans ((hg_M_3 a i (fun z8 => q0 ((fun z9 => Or.elim z9 (fun h9 => Or.inl h9) (fun z9 => Or.elim z9 (fun h9 => Or.inr (Or.inl h9)) (fun z9 => Or.elim z9 (fun h9 => Or.inr (Or.inr (Or.inl h9))) (fun h9 => Or.inr (Or.inr (Or.inr (Or.inl h9))))))) z8))).trans rfl))), (by show (M_5 19 1).toInt = _; rw [if_pos (by omega), show M_5 19 1 = M_3 19 1 from ((hg_M_5 19 1 (by first | decide | (rcases hc0 with h | h <;> rw [h] <;> simp; done) | (rcases hb0 with h | h | h <;> rw [h] <;> simp; done) | (simp; done) | omega)).trans rfl), hS_54]; exact nI0)⟩
              · refine wp_bind2 (o_X4_go (Or.inl rfl) M_5 r_1 v2) (fun M_6 he90 hq90 => ?_)
                have hg_M_6 := hq90
                replace hg_M_6 : ∀ a i, ¬ ((a = 34 ∧ i = 3) ∨ (a = 34 ∧ i = 4) ∨ (a = 34 ∧ i = 5)) → M_6 a i = M_5 a i := by exact fun a i q0 => hg_M_6 a i (by first | decide | (rcases hc0 with h | h <;> rw [h] <;> simp; done) | (rcases hb0 with h | h | h <;> rw [h] <;> simp; done) | (simp; done) | omega)
                refine wp_ite (fun c95 => ?_) (fun c95 => ?_)
                · exact wp_some ⟨(fun a i q0 => ((hg_M_6 a i (fun z8 => q0 ((fun z9 => Or.elim z9 (fun h9 => Or.inr (Or.inr (Or.inr (Or.inr (Or.inr (Or.inl h9)))))) (fun z9 => Or.elim z9 (fun h9 => Or.inr (Or.inr (Or.inr (Or.inr (Or.inr (Or.inr (Or.inl h9))))))) (fun h9 => Or.inr (Or.inr (Or.inr (Or.inr (Or.inr (Or.inr (Or.inr (Or.inl h9)))))))))) z8))).trans ((hg_M_5 a i (fun z8 => q0 ((fun z9 => Or.elim z9 (fun h9 => Or.inr (Or.inr (Or.inl h9))) (fun z9 => Or.elim z9 (fun h9 => Or.inr (Or.inr (Or.inr (Or.inl h9)))) (fun z9 => Or.elim z9 (fun h9 => Or.inr (Or.inr (Or.inr (Or.inr (Or.inl h9))))) (fun z9 => Or.elim z9 (fun h9 => Or.inr (Or.inr (Or.inr (Or.inr (Or.inr (Or.inr (Or.inr (Or.inr (Or.inl h9))))))))) (fun h9 => Or.inr (Or.inr (Or.inr (Or.inr (Or.inr (Or.inr (Or.inr (Or.inr (Or.inr (h9)))))))))))))) z8))).trans ((hg_M_3 a i (fun z8 => q0 ((fun z9 => Or.elim z9 (fun h9 => Or.inl h9) (fun z9 => Or.elim z9 (fun h9 => Or.inr (Or.inl h9)) (fun z9 => Or.elim z9 (fun h9 => Or.inr (Or.inr (Or.inl h9))) (fun h9 => Or.inr (Or.inr (Or.inr (Or.inl h9))))))) z8))).trans rfl)))), (by show (M_6 19 1).toInt = _; rw [if_pos (by omega), show M_6 19 1 = M_3 19 1 from ((hg_M_6 19 1 (by first | decide | (rcases hc0 with h | h <;> rw [h] <;> simp; done) | (rcases hb0 with h | h | h <;> rw [h] <;> simp; done) | (simp; done) | omega)).trans ((hg_M_5 19 1 (by first | decide | (rcases hc0 with h | h <;> rw [h] <;> simp; done) | (rcases hb0 with h | h | h <;> rw [h] <;> simp; done) | (simp; done) | omega)).trans rfl)), hS_54]; exact nI0)⟩
                · refine wp_ite (fun c1 => ?_) (fun c1 => ?_)
                  · exact wp_some ⟨(fun a i q0 => ((hg_M_6 a i (fun z8 => q0 ((fun z9 => Or.elim z9 (fun h9 => Or.inr (Or.inr (Or.inr (Or.inr (Or.inr (Or.inl h9)))))) (fun z9 => Or.elim z9 (fun h9 => Or.inr (Or.inr (Or.inr (Or.inr (Or.inr (Or.inr (Or.inl h9))))))) (fun h9 => Or.inr (Or.inr (Or.inr (Or.inr (Or.inr (Or.inr (Or.inr (Or.inl h9)))))))))) z8))).trans ((hg_M_5 a i (fun z8 => q0 ((fun z9 => Or.elim z9 (fun h9 => Or.inr (Or.inr (Or.inl h9))) (fun z9 => Or.elim z9 (fun h9 => Or.inr (Or.inr (Or.inr (Or.inl h9)))) (fun z9 => Or.elim z9 (fun h9 => Or.inr (Or.inr (Or.inr (Or.inr (Or.inl h9))))) (fun z9 => Or.elim z9 (fun h9 => Or.inr (Or.inr (Or.inr (Or.inr (Or.inr (Or.inr (Or.inr (Or.inr (Or.inl h9))))))))) (fun h9 => Or.inr (Or.inr (Or.inr (Or.inr (Or.inr (Or.inr (Or.inr (Or.inr (Or.inr (h9)))))))))))))) z8))).trans ((hg_M_3 a i (fun z8 => q0 ((fun z9 => Or.elim z9 (fun h9 => Or.inl h9) (fun z9 => Or.elim z9 (fun h9 => Or.inr (Or.inl h9)) (fun z9 => Or.elim z9 (fun h9 => Or.inr (Or.inr (Or.inl h9))) (fun h9 => Or.inr (Or.inr (Or.inr (Or.inl h9))))))) z8))).trans rfl)))), (by show (M_6 19 1).toInt = _; rw [if_pos (by omega), show M_6 19 1 = M_3 19 1 from ((hg_M_6 19 1 (by first | decide | (rcases hc0 with h | h <;> rw [h] <;> simp; done) | (rcases hb0 with h | h | h <;> rw [h] <;> simp; done) | (simp; done) | omega)).trans ((hg_M_5 19 1 (by first | decide | (rcases hc0 with h | h <;> rw [h] <;> simp; done) | (rcases hb0 with h | h | h <;> rw [h] <;> simp; done) | (simp; done) | omega)).trans rfl)), hS_54]; exact nI0)⟩
                  · refine wp_ite (fun c2 => ?_) (fun c2 => ?_)
                    · exact wp_some ⟨(fun a i q0 => ((hg_M_6 a i (fun z8 => q0 ((fun z9 => Or.elim z9 (fun h9 => Or.inr (Or.inr (Or.inr (Or.inr (Or.inr (Or.inl h9)))))) (fun z9 => Or.elim z9 (fun h9 => Or.inr (Or.inr (Or.inr (Or.inr (Or.inr (Or.inr (Or.inl h9))))))) (fun h9 => Or.inr (Or.inr (Or.inr (Or.inr (Or.inr (Or.inr (Or.inr (Or.inl h9)))))))))) z8))).trans ((hg_M_5 a i (fun z8 => q0 ((fun z9 => Or.elim z9 (fun h9 => Or.inr (Or.inr (Or.inl h9))) (fun z9 => Or.elim z9 (fun h9 => Or.inr (Or.inr (Or.inr (Or.inl h9)))) (fun z9 => Or.elim z9 (fun h9 => Or.inr (Or.inr (Or.inr (Or.inr (Or.inl h9))))) (fun z9 => Or.elim z9 (fun h9 => Or.inr (Or.inr (Or.inr (Or.inr (Or.inr (Or.inr (Or.inr (Or.inr (Or.inl h9))))))))) (fun h9 => Or.inr (Or.inr (Or.inr (Or.inr (Or.inr (Or.inr (Or.inr (Or.inr (Or.inr (h9)))))))))))))) z8))).trans ((hg_M_3 a i (fun z8 => q0 ((fun z9 => Or.elim z9 (fun h9 => Or.inl h9) (fun z9 => Or.elim z9 (fun h9 => Or.inr (Or.inl h9)) (fun z9 => Or.elim z9 (fun h9 => Or.inr (Or.inr (Or.inl h9))) (fun h9 => Or.inr (Or.inr (Or.inr (Or.inl h9))))))) z8))).trans rfl)))), (by show (M_6 19 1).toInt = _; rw [if_pos (by omega), show M_6 19 1 = M_3 19 1 from ((hg_M_6 19 1 (by first | decide | (rcases hc0 with h | h <;> rw [h] <;> simp; done) | (rcases hb0 with h | h | h <;> rw [h] <;> simp; done) | (simp; done) | omega)).trans ((hg_M_5 19 1 (by first | decide | (rcases hc0 with h | h <;> rw [h] <;> simp; done) | (rcases hb0 with h | h | h <;> rw [h] <;> simp; done) | (simp; done) | omega)).trans rfl)), hS_54]; exact nI0)⟩
                    · refine wp_ite (fun c153 => ?_) (fun c153 => ?_)
                      · exact wp_some ⟨(fun a i q0 => ((hg_M_6 a i (fun z8 => q0 ((fun z9 => Or.elim z9 (fun h9 => Or.inr (Or.inr (Or.inr (Or.inr (Or.inr (Or.inl h9)))))) (fun z9 => Or.elim z9 (fun h9 => Or.inr (Or.inr (Or.inr (Or.inr (Or.inr (Or.inr (Or.inl h9))))))) (fun h9 => Or.inr (Or.inr (Or.inr (Or.inr (Or.inr (Or.inr (Or.inr (Or.inl h9)))))))))) z8))).trans ((hg_M_5 a i (fun z8 => q0 ((fun z9 => Or.elim z9 (fun h9 => Or.inr (Or.inr (Or.inl h9))) (fun z9 => Or.elim z9 (fun h9 => Or.inr (Or.inr (Or.inr (Or.inl h9)))) (fun z9 => Or.elim z9 (fun h9 => Or.inr (Or.inr (Or.inr (Or.inr (Or.inl h9))))) (fun z9 => Or.elim z9 (fun h9 => Or.inr (Or.inr (Or.inr (Or.inr (Or.inr (Or.inr (Or.inr (Or.inr (Or.inl h9))))))))) (fun h9 => Or.inr (Or.inr (Or.inr (Or.inr (Or.inr (Or.inr (Or.inr (Or.inr (Or.inr (h9)))))))))))))) z8))).trans ((hg_M_3 a i (fun z8 => q0 ((fun z9 => Or.elim z9 (fun h9 => Or.inl h9) (fun z9 => Or.elim z9 (fun h9 => Or.inr (Or.inl h9)) (fun z9 => Or.elim z9 (fun h9 => Or.inr (Or.inr (Or.inl h9))) (fun h9 => Or.inr (Or.inr (Or.inr (Or.inl h9))))))) z8))).trans rfl)))), (by show (M_6 19 1).toInt = _; rw [if_pos (by omega), show M_6 19 1 = M_3 19 1 from ((hg_M_6 19 1 (by first | decide | (rcases hc0 with h | h <;> rw [h] <;> simp; done) | (rcases hb0 with h | h | h <;> rw [h] <;> simp; done) | (simp; done) | omega)).trans ((hg_M_5 19 1 (by first | decide | (rcases hc0 with h | h <;> rw [h] <;> simp; done) | (rcases hb0 with h | h | h <;> rw [h] <;> simp; done) | (simp; done) | omega)).trans rfl)), hS_54]; exact nI0)⟩
                      · exact wp_some ⟨(fun a i q0 => ((hg_M_6 a i (fun z8 => q0 ((fun z9 => Or.elim z9 (fun h9 => Or.inr (Or.inr (Or.inr (Or.inr (Or.inr (Or.inl h9)))))) (fun z9 => Or.elim z9 (fun h9 => Or.inr (Or.inr (Or.inr (Or.inr (Or.inr (Or.inr (Or.inl h9))))))) (fun h9 => Or.inr (Or.inr (Or.inr (Or.inr (Or.inr (Or.inr (Or.inr (Or.inl h9)))))))))) z8))).trans ((hg_M_5 a i (fun z8 => q0 ((fun z9 => Or.elim z9 (fun h9 => Or.inr (Or.inr (Or.inl h9))) (fun z9 => Or.elim z9 (fun h9 => Or.inr (Or.inr (Or.inr (Or.inl h9)))) (fun z9 => Or.elim z9 (fun h9 => Or.inr (Or.inr (Or.inr (Or.inr (Or.inl h9))))) (fun z9 => Or.elim z9 (fun h9 => Or.inr (Or.inr (Or.inr (Or.inr (Or.inr (Or.inr (Or.inr (Or.inr (Or.inl h9))))))))) (fun h9 => Or.inr (Or.inr (Or.inr (Or.inr (Or.inr (Or.inr (Or.inr (Or.inr (Or.inr (h9)))))))))))))) z8))).trans ((hg_M_3 a i (fun z8 => q0 ((fun z9 => Or.elim z9 (fun h9 => Or.inl h9) (fun z9 => Or.elim z9 (fun h9 => Or.inr (Or.inl h9)) (fun z9 => Or.elim z9 (fun h9 => Or.inr (Or.inr (Or.inl h9))) (fun h9 => Or.inr (Or.inr (Or.inr (Or.inl h9))))))) z8))).trans rfl)))), (by show (M_6 19 1).toInt = _; rw [if_pos (by omega), show M_6 19 1 = M_3 19 1 from ((hg_M_6 19 1 (by first | decide | (rcases hc0 with h | h <;> rw [h] <;> simp; done) | (rcases hb0 with h | h | h <;> rw [h] <;> simp; done) | (simp; done) | omega)).trans ((hg_M_5 19 1 (by first | decide | (rcases hc0 with h | h <;> rw [h] <;> simp; done) | (rcases hb0 with h | h | h <;> rw [h] <;> simp; done) | (simp; done) | omega)).trans rfl)), hS_54]; exact nI0)⟩
theorem o3_X7_append (M : Mem) (v1 : Int32) : Wp (f_X7_append M v1) (fun q => (∀ a i, ¬ ((a = 19 ∧ i = 1) ∨ a = 20) → q a i = M a i) ∧ (0 ≤ (M 19 1).toInt → (M 19 1).toInt ≤ 256 → (q 19 1).toInt = (M 19 1).toInt + 4)) := by
  refine wp_lp2 (fun M3 y2_3 => (y2_3.toInt ≤ 24) ∧ (∀ a i, ¬ ((a = 19 ∧ i = 1) ∨ a = 20) → M3 a i = M a i) ∧ ((y2_3.toInt = 24 ∨ y2_3.toInt = 16 ∨ y2_3.toInt = 8 ∨ y2_3.toInt = 0 ∨ y2_3.toInt = -8) ∧ (0 ≤ (M 19 1).toInt → (M 19 1).toInt ≤ 256 → 8 * (M3 19 1).toInt = 8 * (M 19 1).toInt + 24 - y2_3.toInt))) (fun M3 y2_3 => (y2_3.toInt - 0 + 1).toNat) (fun ag3 M3 y2_3 hI3 ih3 => ?_) FU M (nI 24) ⟨(by have f0 := t_lit 24; omega), (fun _ _ _ => rfl), (by have := t_lit 24; omega)⟩ (fu_lt (by have f0 := t_lit 24; omega))
  obtain ⟨hi3, hf_M3, h3⟩ := hI3
  refine wp_ite (fun c4 => ?_) (fun c4 => ?_)
  · exact wp_some ⟨(fun a i q0 => ((hf_M3 a i (fun z8 => q0 ((fun z9 => Or.elim z9 (fun h9 => Or.inl h9) (fun h9 => Or.inr (h9))) z8))).trans rfl)), (fun _ _ => by omega)⟩
  · refine wp_ite (fun c11 => ?_) (fun c11 => ?_)
    · exact ih3 M3 (y2_3 + (-8)) ⟨(by have f0 := (by decide : ((-8 : Int32)).toInt = -8); have f1 := t_add y2_3 (-8); omega), (fun a i q0 => ((hf_M3 a i (fun z8 => q0 ((fun z9 => Or.elim z9 (fun h9 => Or.inl h9) (fun h9 => Or.inr (h9))) z8))).trans rfl)), (by have f8 : ((-8 : Int32)).toInt = -8 := (by decide); have f1 := t_add y2_3 (-8); omega)⟩ (by have f0 := (by decide : ((-8 : Int32)).toInt = -8); have f1 := t_add y2_3 (-8); omega)
    · refine wp_ite (fun c21 => ?_) (fun c21 => ?_)
      · exact ih3 M3 (y2_3 + (-8)) ⟨(by have f0 := (by decide : ((-8 : Int32)).toInt = -8); have f1 := t_add y2_3 (-8); omega), (fun a i q0 => ((hf_M3 a i (fun z8 => q0 ((fun z9 => Or.elim z9 (fun h9 => Or.inl h9) (fun h9 => Or.inr (h9))) z8))).trans rfl)), (by have f8 : ((-8 : Int32)).toInt = -8 := (by decide); have f1 := t_add y2_3 (-8); omega)⟩ (by have f0 := (by decide : ((-8 : Int32)).toInt = -8); have f1 := t_add y2_3 (-8); omega)
      · refine wp_gd (by omega) ?_
        refine wp_bnd (fun M_1 eM_1 => ?_)
        refine wp_bnd (fun M_2 eM_2 => ?_)
        exact ih3 M_2 (y2_3 + (-8)) ⟨(by have f0 := (by decide : ((-8 : Int32)).toInt = -8); have f1 := t_add y2_3 (-8); omega), (fun a i q0 => ((congrFun (congrFun eM_2 a) i).trans ((mset_ne (fun h9 => q0 (Or.inl h9))).trans ((congrFun (congrFun eM_1 a) i).trans ((mset_ne (fun h9 => q0 (Or.inr ((h9).1)))).trans ((hf_M3 a i (fun z8 => q0 ((fun z9 => Or.elim z9 (fun h9 => Or.inl h9) (fun h9 => Or.inr (h9))) z8))).trans rfl)))))), (by have f8 : ((-8 : Int32)).toInt = -8 := (by decide); have f1 := t_add y2_3 (-8); have f2 : (M_2 19 1).toInt = (M3 19 1).toInt + 1 := (by rw [eM_2, mset_eq, eM_1, mset_ne (by first | exact nz1 (by decide) | exact nz2 (by decide) | exact nz1 (nzA hc0 (by decide)) | exact nz1 (nzE (by decide)) | exact nz1 (nzB hc0 (by decide)) | exact nz1 (nzC hc0 (by decide)) | exact nz1 (nzD hc0 (by decide)) | exact nz1 (nzF (by decide)) | exact nz1 (nzG (by decide)) | omega)]; exact t_inc _ 1 (by omega)); omega)⟩ (by have f0 := (by decide : ((-8 : Int32)).toInt = -8); have f1 := t_add y2_3 (-8); omega)
theorem o3_X9_feed (M : Mem) (v1 : Int32) (v2 : Int32) (v3 : Int32) (v4 : Int32) (v5 : Int32) (hs0 : 0 ≤ (M 19 1).toInt ∧ (M 19 1).toInt ≤ 260) : Wp (f_X9_feed M v1 v2 v3 v4 v5) (fun q => (∀ a i, ¬ ((a = 19 ∧ i = 1) ∨ a = 20) → q.2 a i = M a i) ∧ ((q.2 19 1).toInt = (if (M 19 1).toInt + 20 ≤ 260 then (M 19 1).toInt + 20 else (M 19 1).toInt)) ∧ (q.1.toInt = (if (M 19 1).toInt + 20 ≤ 260 then (M 19 1).toInt + 20 else -1))) := by
  have ff := t_inc (M 19 1) 20 (by omega)
  refine wp_ite (fun c13 => ?_) (fun c13 => ?_)
  · refine wp_bind2 (o3_X7_append M v1) (fun M_1 he23 hq23 => ?_)
    obtain ⟨hg_M_1, hS_23⟩ := hq23
    replace hS_23 : 0 ≤ (M 19 1).toInt → (M 19 1).toInt ≤ 256 → (M_1 19 1).toInt = (M 19 1).toInt + 4 := hS_23
    replace hg_M_1 : ∀ a i, ¬ ((a = 19 ∧ i = 1) ∨ a = 20) → M_1 a i = M a i := hg_M_1
    have g1 := hS_23 (by omega) (by omega)
    refine wp_bind2 (o3_X7_append M_1 v2) (fun M_2 he31 hq31 => ?_)
    obtain ⟨hg_M_2, hS_31⟩ := hq31
    replace hS_31 : 0 ≤ (M_1 19 1).toInt → (M_1 19 1).toInt ≤ 256 → (M_2 19 1).toInt = (M_1 19 1).toInt + 4 := hS_31
    replace hg_M_2 : ∀ a i, ¬ ((a = 19 ∧ i = 1) ∨ a = 20) → M_2 a i = M_1 a i := hg_M_2
    have g2 := hS_31 (by omega) (by omega)
    refine wp_bind2 (o3_X7_append M_2 v3) (fun M_3 he39 hq39 => ?_)
    obtain ⟨hg_M_3, hS_39⟩ := hq39
    replace hS_39 : 0 ≤ (M_2 19 1).toInt → (M_2 19 1).toInt ≤ 256 → (M_3 19 1).toInt = (M_2 19 1).toInt + 4 := hS_39
    replace hg_M_3 : ∀ a i, ¬ ((a = 19 ∧ i = 1) ∨ a = 20) → M_3 a i = M_2 a i := hg_M_3
    have g3 := hS_39 (by omega) (by omega)
    refine wp_bind2 (o3_X7_append M_3 v4) (fun M_4 he48 hq48 => ?_)
    obtain ⟨hg_M_4, hS_48⟩ := hq48
    replace hS_48 : 0 ≤ (M_3 19 1).toInt → (M_3 19 1).toInt ≤ 256 → (M_4 19 1).toInt = (M_3 19 1).toInt + 4 := hS_48
    replace hg_M_4 : ∀ a i, ¬ ((a = 19 ∧ i = 1) ∨ a = 20) → M_4 a i = M_3 a i := hg_M_4
    have g4 := hS_48 (by omega) (by omega)
    refine wp_bind2 (o3_X7_append M_4 v5) (fun M_5 he57 hq57 => ?_)
    obtain ⟨hg_M_5, hS_57⟩ := hq57
    replace hS_57 : 0 ≤ (M_4 19 1).toInt → (M_4 19 1).toInt ≤ 256 → (M_5 19 1).toInt = (M_4 19 1).toInt + 4 := hS_57
    replace hg_M_5 : ∀ a i, ¬ ((a = 19 ∧ i = 1) ∨ a = 20) → M_5 a i = M_4 a i := hg_M_5
    have g5 := hS_57 (by omega) (by omega)
    exact wp_some ⟨(fun a i q0 => ((hg_M_5 a i (fun z8 => q0 ((fun z9 => Or.elim z9 (fun h9 => Or.inl h9) (fun h9 => Or.inr (h9))) z8))).trans ((hg_M_4 a i (fun z8 => q0 ((fun z9 => Or.elim z9 (fun h9 => Or.inl h9) (fun h9 => Or.inr (h9))) z8))).trans ((hg_M_3 a i (fun z8 => q0 ((fun z9 => Or.elim z9 (fun h9 => Or.inl h9) (fun h9 => Or.inr (h9))) z8))).trans ((hg_M_2 a i (fun z8 => q0 ((fun z9 => Or.elim z9 (fun h9 => Or.inl h9) (fun h9 => Or.inr (h9))) z8))).trans ((hg_M_1 a i (fun z8 => q0 ((fun z9 => Or.elim z9 (fun h9 => Or.inl h9) (fun h9 => Or.inr (h9))) z8))).trans rfl)))))), (by show (M_5 19 1).toInt = _; rw [if_pos (by omega)]; omega), (by show (M_5 19 1).toInt = _; rw [if_pos (by omega)]; omega)⟩
  · exact wp_some ⟨(fun _ _ _ => rfl), (by show (M 19 1).toInt = _; rw [if_neg (by omega)]), (by show (-1 : Int32).toInt = _; rw [if_neg (by omega)]; decide)⟩
theorem o3_X10_has (M : Mem) (v0 : Int32) (v1 : Int32) : Wp (f_X10_has v0 v1) (fun q => (q = 0 ∨ q = 1) ∧ (¬ q.toInt = 0 ↔ ((shr v0 v1) &&& (nI 1)).toInt = 1)) := by
  refine wp_ite (fun c6 => ?_) (fun c6 => ?_)
  · exact wp_some ⟨b01_1, ⟨fun _ => c6, fun _ => by decide⟩⟩
  · exact wp_some ⟨b01_0, ⟨fun z => absurd nI0 z, fun z => absurd z c6⟩⟩
theorem o3_X10_isPerson (M : Mem) (v1 : Int32) : Wp (f_X10_isPerson M v1) (fun q => (q = 0 ∨ q = 1) ∧ (¬ q.toInt = 0 → 0 ≤ v1.toInt ∧ v1.toInt < 8) ∧ (¬ q.toInt = 0 ↔ (0 ≤ v1.toInt ∧ v1.toInt < 8) ∧ ((shr (M 0 4) v1) &&& (nI 1)).toInt = 1)) := by
  refine wp_bind2 (o2_X10_in M v1 (nI 0) (nI 7)) (fun r_1 he4 hq4 => ?_)
  obtain ⟨hz_r_1, hr_4, hi_4⟩ := hq4
  replace hr_4 : ¬ r_1.toInt = 0 → (nI 0).toInt ≤ v1.toInt ∧ v1.toInt ≤ (nI 7).toInt := hr_4
  have := t_lit 0
  have := t_lit 7
  replace hi_4 : ¬ r_1.toInt = 0 ↔ (nI 0).toInt ≤ v1.toInt ∧ v1.toInt ≤ (nI 7).toInt := hi_4
  have := t_lit 0
  have := t_lit 7
  refine wp_ite (fun c7 => ?_) (fun c7 => ?_)
  · exact wp_some ⟨b01_0, (by show ¬ (nI 0).toInt = 0 → 0 ≤ v1.toInt ∧ v1.toInt < 8; have f0 := t_lit 0; omega), ⟨fun z => absurd nI0 z, fun z => absurd z (by omega)⟩⟩
  · refine wp_bind2 (o3_X10_has M (M 0 4) v1) (fun r_2 he15 hq15 => ?_)
    obtain ⟨hz_r_2, hi_15⟩ := hq15
    replace hi_15 : ¬ r_2.toInt = 0 ↔ ((shr (M 0 4) v1) &&& (nI 1)).toInt = 1 := hi_15
    refine wp_ite (fun c18 => ?_) (fun c18 => ?_)
    · exact wp_some ⟨b01_0, (by show ¬ (nI 0).toInt = 0 → 0 ≤ v1.toInt ∧ v1.toInt < 8; have f0 := t_lit 0; omega), ⟨fun z => absurd nI0 z, fun z => absurd z (by omega)⟩⟩
    · exact wp_some ⟨b01_1, (by show ¬ (nI 1).toInt = 0 → 0 ≤ v1.toInt ∧ v1.toInt < 8; have f0 := t_lit 1; omega), ⟨fun _ => by omega, fun _ => by decide⟩⟩
set_option maxHeartbeats 8000000 in
theorem o3_X10_law (M : Mem) (v1 : Int32) (ht : 0 ≤ (M 0 6).toInt ∧ (M 0 6).toInt ≤ 260) (hG : Gl M) : Wp (f_X10_law M v1) (fun q => (∀ a i, ¬ ((a = 0 ∧ i = 6) ∨ (a = 0 ∧ i = 7) ∨ (a = 0 ∧ i = 8) ∨ (a = 0 ∧ i = 9) ∨ (a = 0 ∧ i = 10) ∨ (a = 0 ∧ i = 11) ∨ (a = 0 ∧ i = 12) ∨ (a = 0 ∧ i = 13) ∨ (a = 0 ∧ i = 14) ∨ (a = 0 ∧ i = 15) ∨ a = 6 ∨ a = 7 ∨ a = 8 ∨ a = 9 ∨ a = 10 ∨ a = 11 ∨ a = 12 ∨ a = 13 ∨ a = 14 ∨ a = 15 ∨ a = 16) → q.2 a i = M a i) ∧ (0 ≤ (q.2 0 6).toInt ∧ (q.2 0 6).toInt ≤ 260) ∧ (Gl q.2) ∧ ((q.2 0 6).toInt = (if 1 ≤ v1.toInt ∧ v1.toInt ≤ 240 ∧ v1.toInt ≤ (M 0 6).toInt then 0 else (M 0 6).toInt))) := by
  refine wp_bind2 (o2_X10_in M v1 (nI 1) (nI 240)) (fun r_1 he5 hq5 => ?_)
  obtain ⟨hz_r_1, hr_5, hi_5⟩ := hq5
  replace hr_5 : ¬ r_1.toInt = 0 → (nI 1).toInt ≤ v1.toInt ∧ v1.toInt ≤ (nI 240).toInt := hr_5
  have := t_lit 1
  have := t_lit 240
  replace hi_5 : ¬ r_1.toInt = 0 ↔ (nI 1).toInt ≤ v1.toInt ∧ v1.toInt ≤ (nI 240).toInt := hi_5
  have := t_lit 1
  have := t_lit 240
  refine wp_ite (fun c8 => ?_) (fun c8 => ?_)
  · exact wp_some ⟨(fun _ _ _ => rfl), ht, hG, (by show (M 0 6).toInt = _; rw [if_neg (by omega)])⟩
  · refine wp_ite (fun c16 => ?_) (fun c16 => ?_)
    · refine wp_bind2 (o_X10_beginsText M v1) (fun M_2 he23 hq23 => ?_)
      obtain ⟨hg_M_2, hb_23⟩ := hq23
      replace hb_23 : (M_2 0 7).toInt = 0 ∧ (M_2 0 8).toInt = v1.toInt := hb_23
      replace hg_M_2 : ∀ a i, ¬ ((a = 0 ∧ i = 7) ∨ (a = 0 ∧ i = 8) ∨ (a = 0 ∧ i = 12) ∨ (a = 0 ∧ i = 14)) → M_2 a i = M a i := hg_M_2
      have eb : M_2 = mset (mset (mset (mset M 0 7 (nI 0)) 0 8 v1) 0 12 (nI 0)) 0 14 (nI 0) := by
        simp only [f_X10_beginsText, bnd] at he23
        exact (Option.some.inj he23).symm
      have b12 : (M_2 0 12).toInt = 0 := by rw [eb, mset_ne (by first | exact nz1 (by decide) | exact nz2 (by decide) | exact nz1 (nzA hc0 (by decide)) | exact nz1 (nzE (by decide)) | exact nz1 (nzB hc0 (by decide)) | exact nz1 (nzC hc0 (by decide)) | exact nz1 (nzD hc0 (by decide)) | exact nz1 (nzF (by decide)) | exact nz1 (nzG (by decide)) | omega), mset_eq]; exact nI0
      have b14 : (M_2 0 14).toInt = 0 := by rw [eb, mset_eq]; exact nI0
      refine wp_cb2 (o_X10_readsRule M_2 (by omega) (said_0 b14)) (fun r_3 M_4 he27 hq27 => ?_)
      obtain ⟨hz_r_3, hg_M_4, hS_27⟩ := hq27
      replace hS_27 : ¬ r_3.toInt = 0 → Said M_4 ∧ (M_2 0 7).toInt < (M_4 0 7).toInt ∧ 0 ≤ (M_4 0 12).toInt ∧ (M_4 0 12).toInt ≤ (M_4 0 7).toInt ∧ (M_4 0 7).toInt ≤ (M_2 0 8).toInt := hS_27
      replace hg_M_4 : ∀ a i, ¬ ((a = 0 ∧ i = 7) ∨ (a = 0 ∧ i = 9) ∨ (a = 0 ∧ i = 10) ∨ (a = 0 ∧ i = 11) ∨ (a = 0 ∧ i = 12) ∨ (a = 0 ∧ i = 13) ∨ (a = 0 ∧ i = 14) ∨ a = 6 ∨ a = 7 ∨ a = 8 ∨ a = 9 ∨ a = 10 ∨ a = 11) → M_4 a i = M_2 a i := hg_M_4
      refine wp_lp2 (fun M31 y2_31 => (∀ a i, ¬ ((a = 0 ∧ i = 7) ∨ (a = 0 ∧ i = 9) ∨ (a = 0 ∧ i = 10) ∨ (a = 0 ∧ i = 11) ∨ (a = 0 ∧ i = 12) ∨ (a = 0 ∧ i = 13) ∨ (a = 0 ∧ i = 14) ∨ a = 6 ∨ a = 7 ∨ a = 8 ∨ a = 9 ∨ a = 10 ∨ a = 11) → M31 a i = M_4 a i) ∧ (¬ y2_31.toInt = 0 → Said M31 ∧ 0 ≤ (M31 0 12).toInt ∧ (M31 0 12).toInt ≤ (M31 0 7).toInt ∧ (M31 0 7).toInt ≤ (M31 0 8).toInt)) (fun M31 y2_31 => (if y2_31.toInt = 0 then 0 else 1 + ((M31 0 8).toInt - (M31 0 7).toInt).toNat)) (fun ag31 M31 y2_31 hI31 ih31 => ?_) FU M_4 r_3 ⟨(fun _ _ _ => rfl), (fun z => by have h9 := hS_27 z; exact ⟨h9.1, h9.2.2.1, h9.2.2.2.1, by rw [hg_M_4 0 8 (by first | decide | (rcases hc0 with h | h <;> rw [h] <;> simp; done) | (rcases hb0 with h | h | h <;> rw [h] <;> simp; done) | (simp; done) | omega)]; exact h9.2.2.2.2⟩)⟩ (fu_lt ((mu_f4 (by rw [hg_M_4 0 8 (by first | decide | (rcases hc0 with h | h <;> rw [h] <;> simp; done) | (rcases hb0 with h | h | h <;> rw [h] <;> simp; done) | (simp; done) | omega)]; omega) (t_rng _).1)))
      obtain ⟨hf_M31, h31⟩ := hI31
      have f8 : (M31 0 8).toInt = v1.toInt := by rw [hf_M31 0 8 (by first | decide | (rcases hc0 with h | h <;> rw [h] <;> simp; done) | (rcases hb0 with h | h | h <;> rw [h] <;> simp; done) | (simp; done) | omega), hg_M_4 0 8 (by first | decide | (rcases hc0 with h | h <;> rw [h] <;> simp; done) | (rcases hb0 with h | h | h <;> rw [h] <;> simp; done) | (simp; done) | omega)]; exact hb_23.2
      have j71 : Wp (f_X10_law_L71 M31 y2_31) (fun q => (∀ a i, ¬ ((a = 0 ∧ i = 6) ∨ (a = 0 ∧ i = 7) ∨ (a = 0 ∧ i = 8) ∨ (a = 0 ∧ i = 9) ∨ (a = 0 ∧ i = 10) ∨ (a = 0 ∧ i = 11) ∨ (a = 0 ∧ i = 12) ∨ (a = 0 ∧ i = 13) ∨ (a = 0 ∧ i = 14) ∨ (a = 0 ∧ i = 15) ∨ a = 6 ∨ a = 7 ∨ a = 8 ∨ a = 9 ∨ a = 10 ∨ a = 11 ∨ a = 12 ∨ a = 13 ∨ a = 14 ∨ a = 15 ∨ a = 16) → q.2 a i = M a i) ∧ (0 ≤ (q.2 0 6).toInt ∧ (q.2 0 6).toInt ≤ 260) ∧ (Gl q.2) ∧ ((q.2 0 6).toInt = (if 1 ≤ v1.toInt ∧ v1.toInt ≤ 240 ∧ v1.toInt ≤ (M 0 6).toInt then 0 else (M 0 6).toInt))) := by
        unfold f_X10_law_L71
        refine wp_bnd (fun M_5 eM_5 => ?_)
        have fG : ∀ a i, (a = 12 ∨ a = 14 ∨ a = 15 ∨ a = 16 ∨ (a = 0 ∧ i = 15)) → M_5 a i = M a i := fun a i q => by rw [eM_5, mset_ne (by first | exact nz1 (by decide) | exact nz2 (by decide) | exact nz1 (nzA hc0 (by decide)) | exact nz1 (nzE (by decide)) | exact nz1 (nzB hc0 (by decide)) | exact nz1 (nzC hc0 (by decide)) | exact nz1 (nzD hc0 (by decide)) | exact nz1 (nzF (by decide)) | exact nz1 (nzG (by decide)) | omega), hf_M31 a i (by first | decide | (rcases hc0 with h | h <;> rw [h] <;> simp; done) | (rcases hb0 with h | h | h <;> rw [h] <;> simp; done) | (simp; done) | omega), hg_M_4 a i (by first | decide | (rcases hc0 with h | h <;> rw [h] <;> simp; done) | (rcases hb0 with h | h | h <;> rw [h] <;> simp; done) | (simp; done) | omega), hg_M_2 a i (by first | decide | (rcases hc0 with h | h <;> rw [h] <;> simp; done) | (rcases hb0 with h | h | h <;> rw [h] <;> simp; done) | (simp; done) | omega)]
        refine wp_ite (fun c77 => ?_) (fun c77 => ?_)
        · exact wp_some ⟨(fun a i q0 => ((congrFun (congrFun eM_5 a) i).trans ((mset_ne (fun h9 => q0 (Or.inl h9))).trans ((hf_M31 a i (fun z8 => q0 ((fun z9 => Or.elim z9 (fun h9 => Or.inr (Or.inl h9)) (fun z9 => Or.elim z9 (fun h9 => Or.inr (Or.inr (Or.inr (Or.inl h9)))) (fun z9 => Or.elim z9 (fun h9 => Or.inr (Or.inr (Or.inr (Or.inr (Or.inl h9))))) (fun z9 => Or.elim z9 (fun h9 => Or.inr (Or.inr (Or.inr (Or.inr (Or.inr (Or.inl h9)))))) (fun z9 => Or.elim z9 (fun h9 => Or.inr (Or.inr (Or.inr (Or.inr (Or.inr (Or.inr (Or.inl h9))))))) (fun z9 => Or.elim z9 (fun h9 => Or.inr (Or.inr (Or.inr (Or.inr (Or.inr (Or.inr (Or.inr (Or.inl h9)))))))) (fun z9 => Or.elim z9 (fun h9 => Or.inr (Or.inr (Or.inr (Or.inr (Or.inr (Or.inr (Or.inr (Or.inr (Or.inl h9))))))))) (fun z9 => Or.elim z9 (fun h9 => Or.inr (Or.inr (Or.inr (Or.inr (Or.inr (Or.inr (Or.inr (Or.inr (Or.inr (Or.inr (Or.inl h9))))))))))) (fun z9 => Or.elim z9 (fun h9 => Or.inr (Or.inr (Or.inr (Or.inr (Or.inr (Or.inr (Or.inr (Or.inr (Or.inr (Or.inr (Or.inr (Or.inl h9)))))))))))) (fun z9 => Or.elim z9 (fun h9 => Or.inr (Or.inr (Or.inr (Or.inr (Or.inr (Or.inr (Or.inr (Or.inr (Or.inr (Or.inr (Or.inr (Or.inr (Or.inl h9))))))))))))) (fun z9 => Or.elim z9 (fun h9 => Or.inr (Or.inr (Or.inr (Or.inr (Or.inr (Or.inr (Or.inr (Or.inr (Or.inr (Or.inr (Or.inr (Or.inr (Or.inr (Or.inl h9)))))))))))))) (fun z9 => Or.elim z9 (fun h9 => Or.inr (Or.inr (Or.inr (Or.inr (Or.inr (Or.inr (Or.inr (Or.inr (Or.inr (Or.inr (Or.inr (Or.inr (Or.inr (Or.inr (Or.inl h9))))))))))))))) (fun h9 => Or.inr (Or.inr (Or.inr (Or.inr (Or.inr (Or.inr (Or.inr (Or.inr (Or.inr (Or.inr (Or.inr (Or.inr (Or.inr (Or.inr (Or.inr (Or.inl h9)))))))))))))))))))))))))))) z8))).trans ((hg_M_4 a i (fun z8 => q0 ((fun z9 => Or.elim z9 (fun h9 => Or.inr (Or.inl h9)) (fun z9 => Or.elim z9 (fun h9 => Or.inr (Or.inr (Or.inr (Or.inl h9)))) (fun z9 => Or.elim z9 (fun h9 => Or.inr (Or.inr (Or.inr (Or.inr (Or.inl h9))))) (fun z9 => Or.elim z9 (fun h9 => Or.inr (Or.inr (Or.inr (Or.inr (Or.inr (Or.inl h9)))))) (fun z9 => Or.elim z9 (fun h9 => Or.inr (Or.inr (Or.inr (Or.inr (Or.inr (Or.inr (Or.inl h9))))))) (fun z9 => Or.elim z9 (fun h9 => Or.inr (Or.inr (Or.inr (Or.inr (Or.inr (Or.inr (Or.inr (Or.inl h9)))))))) (fun z9 => Or.elim z9 (fun h9 => Or.inr (Or.inr (Or.inr (Or.inr (Or.inr (Or.inr (Or.inr (Or.inr (Or.inl h9))))))))) (fun z9 => Or.elim z9 (fun h9 => Or.inr (Or.inr (Or.inr (Or.inr (Or.inr (Or.inr (Or.inr (Or.inr (Or.inr (Or.inr (Or.inl h9))))))))))) (fun z9 => Or.elim z9 (fun h9 => Or.inr (Or.inr (Or.inr (Or.inr (Or.inr (Or.inr (Or.inr (Or.inr (Or.inr (Or.inr (Or.inr (Or.inl h9)))))))))))) (fun z9 => Or.elim z9 (fun h9 => Or.inr (Or.inr (Or.inr (Or.inr (Or.inr (Or.inr (Or.inr (Or.inr (Or.inr (Or.inr (Or.inr (Or.inr (Or.inl h9))))))))))))) (fun z9 => Or.elim z9 (fun h9 => Or.inr (Or.inr (Or.inr (Or.inr (Or.inr (Or.inr (Or.inr (Or.inr (Or.inr (Or.inr (Or.inr (Or.inr (Or.inr (Or.inl h9)))))))))))))) (fun z9 => Or.elim z9 (fun h9 => Or.inr (Or.inr (Or.inr (Or.inr (Or.inr (Or.inr (Or.inr (Or.inr (Or.inr (Or.inr (Or.inr (Or.inr (Or.inr (Or.inr (Or.inl h9))))))))))))))) (fun h9 => Or.inr (Or.inr (Or.inr (Or.inr (Or.inr (Or.inr (Or.inr (Or.inr (Or.inr (Or.inr (Or.inr (Or.inr (Or.inr (Or.inr (Or.inr (Or.inl h9)))))))))))))))))))))))))))) z8))).trans ((hg_M_2 a i (fun z8 => q0 ((fun z9 => Or.elim z9 (fun h9 => Or.inr (Or.inl h9)) (fun z9 => Or.elim z9 (fun h9 => Or.inr (Or.inr (Or.inl h9))) (fun z9 => Or.elim z9 (fun h9 => Or.inr (Or.inr (Or.inr (Or.inr (Or.inr (Or.inr (Or.inl h9))))))) (fun h9 => Or.inr (Or.inr (Or.inr (Or.inr (Or.inr (Or.inr (Or.inr (Or.inr (Or.inl h9)))))))))))) z8))).trans rfl)))))), (by show 0 ≤ (M_5 0 6).toInt ∧ (M_5 0 6).toInt ≤ 260; rw [eM_5, mset_eq]; decide), (gl_ext hG (fG 0 15 (by omega)) (fun i => fG 12 i (by omega)) (fun i => fG 14 i (by omega)) (fun i => fG 15 i (by omega)) (fun i => fG 16 i (by omega))), (by show (M_5 0 6).toInt = _; rw [if_pos (by omega), show M_5 0 6 = M_5 0 6 from rfl, eM_5, mset_eq]; exact nI0)⟩
        · refine wp_bnd (fun M_6 eM_6 => ?_)
          obtain ⟨s1, s2, s3, s4⟩ := h31 c77
          have j12 : M_6 0 12 = M31 0 12 := by rw [eM_6, mset_ne (by first | exact nz1 (by decide) | exact nz2 (by decide) | exact nz1 (nzA hc0 (by decide)) | exact nz1 (nzE (by decide)) | exact nz1 (nzB hc0 (by decide)) | exact nz1 (nzC hc0 (by decide)) | exact nz1 (nzD hc0 (by decide)) | exact nz1 (nzF (by decide)) | exact nz1 (nzG (by decide)) | omega), eM_5, mset_ne (by first | exact nz1 (by decide) | exact nz2 (by decide) | exact nz1 (nzA hc0 (by decide)) | exact nz1 (nzE (by decide)) | exact nz1 (nzB hc0 (by decide)) | exact nz1 (nzC hc0 (by decide)) | exact nz1 (nzD hc0 (by decide)) | exact nz1 (nzF (by decide)) | exact nz1 (nzG (by decide)) | omega)]
          have j14 : M_6 0 14 = M31 0 14 := by rw [eM_6, mset_ne (by first | exact nz1 (by decide) | exact nz2 (by decide) | exact nz1 (nzA hc0 (by decide)) | exact nz1 (nzE (by decide)) | exact nz1 (nzB hc0 (by decide)) | exact nz1 (nzC hc0 (by decide)) | exact nz1 (nzD hc0 (by decide)) | exact nz1 (nzF (by decide)) | exact nz1 (nzG (by decide)) | omega), eM_5, mset_ne (by first | exact nz1 (by decide) | exact nz2 (by decide) | exact nz1 (nzA hc0 (by decide)) | exact nz1 (nzE (by decide)) | exact nz1 (nzB hc0 (by decide)) | exact nz1 (nzC hc0 (by decide)) | exact nz1 (nzD hc0 (by decide)) | exact nz1 (nzF (by decide)) | exact nz1 (nzG (by decide)) | omega)]
          have j15 : M_6 0 15 = M31 0 14 := by rw [eM_6, mset_eq, eM_5, mset_ne (by first | exact nz1 (by decide) | exact nz2 (by decide) | exact nz1 (nzA hc0 (by decide)) | exact nz1 (nzE (by decide)) | exact nz1 (nzB hc0 (by decide)) | exact nz1 (nzC hc0 (by decide)) | exact nz1 (nzD hc0 (by decide)) | exact nz1 (nzF (by decide)) | exact nz1 (nzG (by decide)) | omega)]
          have s14 := s1.1
          have f14 := t_ixn (M31 0 14) s14.1
          refine wp_lp2 (fun M95 y3_95 => (∀ a i, ¬ (a = 12) → M95 a i = M_6 a i) ∧ (0 ≤ y3_95.toInt) ∧ (∀ j : Nat, (j : Int) < y3_95.toInt → M95 12 j = M31 6 j)) (fun M95 y3_95 => ((M95 0 12).toInt - y3_95.toInt).toNat) (fun ag95 M95 y3_95 hI95 ih95 => ?_) FU M_6 (nI 0) ⟨(fun _ _ _ => rfl), (by decide), (fun j hj => absurd hj (by have := t_lit 0; omega))⟩ (fu_lt ((by rw [j12]; have := t_lit 0; omega)))
          obtain ⟨hf_M95, h95, hc95⟩ := hI95
          have k12 : M95 0 12 = M31 0 12 := by rw [hf_M95 0 12 (by first | decide | (rcases hc0 with h | h <;> rw [h] <;> simp; done) | (rcases hb0 with h | h | h <;> rw [h] <;> simp; done) | (simp; done) | omega), j12]
          have k14 : M95 0 14 = M31 0 14 := by rw [hf_M95 0 14 (by first | decide | (rcases hc0 with h | h <;> rw [h] <;> simp; done) | (rcases hb0 with h | h | h <;> rw [h] <;> simp; done) | (simp; done) | omega), j14]
          have k15 : M95 0 15 = M31 0 14 := by rw [hf_M95 0 15 (by first | decide | (rcases hc0 with h | h <;> rw [h] <;> simp; done) | (rcases hb0 with h | h | h <;> rw [h] <;> simp; done) | (simp; done) | omega), j15]
          have k6 : ∀ i, M95 6 i = M31 6 i := fun i => by rw [hf_M95 6 i (by first | decide | (rcases hc0 with h | h <;> rw [h] <;> simp; done) | (rcases hb0 with h | h | h <;> rw [h] <;> simp; done) | (simp; done) | omega), eM_6, mset_ne (by first | exact nz1 (by decide) | exact nz2 (by decide) | exact nz1 (nzA hc0 (by decide)) | exact nz1 (nzE (by decide)) | exact nz1 (nzB hc0 (by decide)) | exact nz1 (nzC hc0 (by decide)) | exact nz1 (nzD hc0 (by decide)) | exact nz1 (nzF (by decide)) | exact nz1 (nzG (by decide)) | omega), eM_5, mset_ne (by first | exact nz1 (by decide) | exact nz2 (by decide) | exact nz1 (nzA hc0 (by decide)) | exact nz1 (nzE (by decide)) | exact nz1 (nzB hc0 (by decide)) | exact nz1 (nzC hc0 (by decide)) | exact nz1 (nzD hc0 (by decide)) | exact nz1 (nzF (by decide)) | exact nz1 (nzG (by decide)) | omega)]
          have k9 : ∀ i, M95 9 i = M31 9 i := fun i => by rw [hf_M95 9 i (by first | decide | (rcases hc0 with h | h <;> rw [h] <;> simp; done) | (rcases hb0 with h | h | h <;> rw [h] <;> simp; done) | (simp; done) | omega), eM_6, mset_ne (by first | exact nz1 (by decide) | exact nz2 (by decide) | exact nz1 (nzA hc0 (by decide)) | exact nz1 (nzE (by decide)) | exact nz1 (nzB hc0 (by decide)) | exact nz1 (nzC hc0 (by decide)) | exact nz1 (nzD hc0 (by decide)) | exact nz1 (nzF (by decide)) | exact nz1 (nzG (by decide)) | omega), eM_5, mset_ne (by first | exact nz1 (by decide) | exact nz2 (by decide) | exact nz1 (nzA hc0 (by decide)) | exact nz1 (nzE (by decide)) | exact nz1 (nzB hc0 (by decide)) | exact nz1 (nzC hc0 (by decide)) | exact nz1 (nzD hc0 (by decide)) | exact nz1 (nzF (by decide)) | exact nz1 (nzG (by decide)) | omega)]
          have k10 : ∀ i, M95 10 i = M31 10 i := fun i => by rw [hf_M95 10 i (by first | decide | (rcases hc0 with h | h <;> rw [h] <;> simp; done) | (rcases hb0 with h | h | h <;> rw [h] <;> simp; done) | (simp; done) | omega), eM_6, mset_ne (by first | exact nz1 (by decide) | exact nz2 (by decide) | exact nz1 (nzA hc0 (by decide)) | exact nz1 (nzE (by decide)) | exact nz1 (nzB hc0 (by decide)) | exact nz1 (nzC hc0 (by decide)) | exact nz1 (nzD hc0 (by decide)) | exact nz1 (nzF (by decide)) | exact nz1 (nzG (by decide)) | omega), eM_5, mset_ne (by first | exact nz1 (by decide) | exact nz2 (by decide) | exact nz1 (nzA hc0 (by decide)) | exact nz1 (nzE (by decide)) | exact nz1 (nzB hc0 (by decide)) | exact nz1 (nzC hc0 (by decide)) | exact nz1 (nzD hc0 (by decide)) | exact nz1 (nzF (by decide)) | exact nz1 (nzG (by decide)) | omega)]
          have k11 : ∀ i, M95 11 i = M31 11 i := fun i => by rw [hf_M95 11 i (by first | decide | (rcases hc0 with h | h <;> rw [h] <;> simp; done) | (rcases hb0 with h | h | h <;> rw [h] <;> simp; done) | (simp; done) | omega), eM_6, mset_ne (by first | exact nz1 (by decide) | exact nz2 (by decide) | exact nz1 (nzA hc0 (by decide)) | exact nz1 (nzE (by decide)) | exact nz1 (nzB hc0 (by decide)) | exact nz1 (nzC hc0 (by decide)) | exact nz1 (nzD hc0 (by decide)) | exact nz1 (nzF (by decide)) | exact nz1 (nzG (by decide)) | omega), eM_5, mset_ne (by first | exact nz1 (by decide) | exact nz2 (by decide) | exact nz1 (nzA hc0 (by decide)) | exact nz1 (nzE (by decide)) | exact nz1 (nzB hc0 (by decide)) | exact nz1 (nzC hc0 (by decide)) | exact nz1 (nzD hc0 (by decide)) | exact nz1 (nzF (by decide)) | exact nz1 (nzG (by decide)) | omega)]
          have j121 : ((M95 0 12).toInt ≤ y3_95.toInt) → Wp (f_X10_law_L121 M95) (fun q => (∀ a i, ¬ ((a = 0 ∧ i = 6) ∨ (a = 0 ∧ i = 7) ∨ (a = 0 ∧ i = 8) ∨ (a = 0 ∧ i = 9) ∨ (a = 0 ∧ i = 10) ∨ (a = 0 ∧ i = 11) ∨ (a = 0 ∧ i = 12) ∨ (a = 0 ∧ i = 13) ∨ (a = 0 ∧ i = 14) ∨ (a = 0 ∧ i = 15) ∨ a = 6 ∨ a = 7 ∨ a = 8 ∨ a = 9 ∨ a = 10 ∨ a = 11 ∨ a = 12 ∨ a = 13 ∨ a = 14 ∨ a = 15 ∨ a = 16) → q.2 a i = M a i) ∧ (0 ≤ (q.2 0 6).toInt ∧ (q.2 0 6).toInt ≤ 260) ∧ (Gl q.2) ∧ ((q.2 0 6).toInt = (if 1 ≤ v1.toInt ∧ v1.toInt ≤ 240 ∧ v1.toInt ≤ (M 0 6).toInt then 0 else (M 0 6).toInt))) := by
            intro h121
            unfold f_X10_law_L121
            refine wp_lp2 (fun M123 y3_123 => (∀ a i, ¬ (a = 13 ∨ a = 14 ∨ a = 15 ∨ a = 16) → M123 a i = M95 a i) ∧ (0 ≤ y3_123.toInt) ∧ (∀ j : Nat, (j : Int) < y3_123.toInt → M123 14 j = M31 9 j ∧ M123 15 j = M31 10 j ∧ M123 16 j = M31 11 j)) (fun M123 y3_123 => ((M123 0 14).toInt - y3_123.toInt).toNat) (fun ag123 M123 y3_123 hI123 ih123 => ?_) FU M95 (nI 0) ⟨(fun _ _ _ => rfl), (by decide), (fun j hj => absurd hj (by have := t_lit 0; omega))⟩ (fu_lt ((by rw [k14]; have := t_lit 0; omega)))
            obtain ⟨hf_M123, h123, hd123⟩ := hI123
            have l14 : M123 0 14 = M31 0 14 := by rw [hf_M123 0 14 (by first | decide | (rcases hc0 with h | h <;> rw [h] <;> simp; done) | (rcases hb0 with h | h | h <;> rw [h] <;> simp; done) | (simp; done) | omega), k14]
            have l15 : M123 0 15 = M31 0 14 := by rw [hf_M123 0 15 (by first | decide | (rcases hc0 with h | h <;> rw [h] <;> simp; done) | (rcases hb0 with h | h | h <;> rw [h] <;> simp; done) | (simp; done) | omega), k15]
            have l12 : ∀ i, M123 12 i = M95 12 i := fun i => hf_M123 12 i (by first | decide | (rcases hc0 with h | h <;> rw [h] <;> simp; done) | (rcases hb0 with h | h | h <;> rw [h] <;> simp; done) | (simp; done) | omega)
            have l9 : ∀ i, M123 9 i = M31 9 i := fun i => by rw [hf_M123 9 i (by first | decide | (rcases hc0 with h | h <;> rw [h] <;> simp; done) | (rcases hb0 with h | h | h <;> rw [h] <;> simp; done) | (simp; done) | omega), k9]
            have l10 : ∀ i, M123 10 i = M31 10 i := fun i => by rw [hf_M123 10 i (by first | decide | (rcases hc0 with h | h <;> rw [h] <;> simp; done) | (rcases hb0 with h | h | h <;> rw [h] <;> simp; done) | (simp; done) | omega), k10]
            have l11 : ∀ i, M123 11 i = M31 11 i := fun i => by rw [hf_M123 11 i (by first | decide | (rcases hc0 with h | h <;> rw [h] <;> simp; done) | (rcases hb0 with h | h | h <;> rw [h] <;> simp; done) | (simp; done) | omega), k11]
            refine wp_ite (fun c128 => ?_) (fun c128 => ?_)
            · exact wp_some ⟨(fun a i q0 => ((hf_M123 a i (fun z8 => q0 ((fun z9 => Or.elim z9 (fun h9 => Or.inr (Or.inr (Or.inr (Or.inr (Or.inr (Or.inr (Or.inr (Or.inr (Or.inr (Or.inr (Or.inr (Or.inr (Or.inr (Or.inr (Or.inr (Or.inr (Or.inr (Or.inl h9)))))))))))))))))) (fun z9 => Or.elim z9 (fun h9 => Or.inr (Or.inr (Or.inr (Or.inr (Or.inr (Or.inr (Or.inr (Or.inr (Or.inr (Or.inr (Or.inr (Or.inr (Or.inr (Or.inr (Or.inr (Or.inr (Or.inr (Or.inr (Or.inl h9))))))))))))))))))) (fun z9 => Or.elim z9 (fun h9 => Or.inr (Or.inr (Or.inr (Or.inr (Or.inr (Or.inr (Or.inr (Or.inr (Or.inr (Or.inr (Or.inr (Or.inr (Or.inr (Or.inr (Or.inr (Or.inr (Or.inr (Or.inr (Or.inr (Or.inl h9)))))))))))))))))))) (fun h9 => Or.inr (Or.inr (Or.inr (Or.inr (Or.inr (Or.inr (Or.inr (Or.inr (Or.inr (Or.inr (Or.inr (Or.inr (Or.inr (Or.inr (Or.inr (Or.inr (Or.inr (Or.inr (Or.inr (Or.inr (h9)))))))))))))))))))))))) z8))).trans ((hf_M95 a i (fun h9 => q0 (Or.inr (Or.inr (Or.inr (Or.inr (Or.inr (Or.inr (Or.inr (Or.inr (Or.inr (Or.inr (Or.inr (Or.inr (Or.inr (Or.inr (Or.inr (Or.inr (Or.inl h9))))))))))))))))))).trans ((congrFun (congrFun eM_6 a) i).trans ((mset_ne (fun h9 => q0 (Or.inr (Or.inr (Or.inr (Or.inr (Or.inr (Or.inr (Or.inr (Or.inr (Or.inr (Or.inl h9)))))))))))).trans ((congrFun (congrFun eM_5 a) i).trans ((mset_ne (fun h9 => q0 (Or.inl h9))).trans ((hf_M31 a i (fun z8 => q0 ((fun z9 => Or.elim z9 (fun h9 => Or.inr (Or.inl h9)) (fun z9 => Or.elim z9 (fun h9 => Or.inr (Or.inr (Or.inr (Or.inl h9)))) (fun z9 => Or.elim z9 (fun h9 => Or.inr (Or.inr (Or.inr (Or.inr (Or.inl h9))))) (fun z9 => Or.elim z9 (fun h9 => Or.inr (Or.inr (Or.inr (Or.inr (Or.inr (Or.inl h9)))))) (fun z9 => Or.elim z9 (fun h9 => Or.inr (Or.inr (Or.inr (Or.inr (Or.inr (Or.inr (Or.inl h9))))))) (fun z9 => Or.elim z9 (fun h9 => Or.inr (Or.inr (Or.inr (Or.inr (Or.inr (Or.inr (Or.inr (Or.inl h9)))))))) (fun z9 => Or.elim z9 (fun h9 => Or.inr (Or.inr (Or.inr (Or.inr (Or.inr (Or.inr (Or.inr (Or.inr (Or.inl h9))))))))) (fun z9 => Or.elim z9 (fun h9 => Or.inr (Or.inr (Or.inr (Or.inr (Or.inr (Or.inr (Or.inr (Or.inr (Or.inr (Or.inr (Or.inl h9))))))))))) (fun z9 => Or.elim z9 (fun h9 => Or.inr (Or.inr (Or.inr (Or.inr (Or.inr (Or.inr (Or.inr (Or.inr (Or.inr (Or.inr (Or.inr (Or.inl h9)))))))))))) (fun z9 => Or.elim z9 (fun h9 => Or.inr (Or.inr (Or.inr (Or.inr (Or.inr (Or.inr (Or.inr (Or.inr (Or.inr (Or.inr (Or.inr (Or.inr (Or.inl h9))))))))))))) (fun z9 => Or.elim z9 (fun h9 => Or.inr (Or.inr (Or.inr (Or.inr (Or.inr (Or.inr (Or.inr (Or.inr (Or.inr (Or.inr (Or.inr (Or.inr (Or.inr (Or.inl h9)))))))))))))) (fun z9 => Or.elim z9 (fun h9 => Or.inr (Or.inr (Or.inr (Or.inr (Or.inr (Or.inr (Or.inr (Or.inr (Or.inr (Or.inr (Or.inr (Or.inr (Or.inr (Or.inr (Or.inl h9))))))))))))))) (fun h9 => Or.inr (Or.inr (Or.inr (Or.inr (Or.inr (Or.inr (Or.inr (Or.inr (Or.inr (Or.inr (Or.inr (Or.inr (Or.inr (Or.inr (Or.inr (Or.inl h9)))))))))))))))))))))))))))) z8))).trans ((hg_M_4 a i (fun z8 => q0 ((fun z9 => Or.elim z9 (fun h9 => Or.inr (Or.inl h9)) (fun z9 => Or.elim z9 (fun h9 => Or.inr (Or.inr (Or.inr (Or.inl h9)))) (fun z9 => Or.elim z9 (fun h9 => Or.inr (Or.inr (Or.inr (Or.inr (Or.inl h9))))) (fun z9 => Or.elim z9 (fun h9 => Or.inr (Or.inr (Or.inr (Or.inr (Or.inr (Or.inl h9)))))) (fun z9 => Or.elim z9 (fun h9 => Or.inr (Or.inr (Or.inr (Or.inr (Or.inr (Or.inr (Or.inl h9))))))) (fun z9 => Or.elim z9 (fun h9 => Or.inr (Or.inr (Or.inr (Or.inr (Or.inr (Or.inr (Or.inr (Or.inl h9)))))))) (fun z9 => Or.elim z9 (fun h9 => Or.inr (Or.inr (Or.inr (Or.inr (Or.inr (Or.inr (Or.inr (Or.inr (Or.inl h9))))))))) (fun z9 => Or.elim z9 (fun h9 => Or.inr (Or.inr (Or.inr (Or.inr (Or.inr (Or.inr (Or.inr (Or.inr (Or.inr (Or.inr (Or.inl h9))))))))))) (fun z9 => Or.elim z9 (fun h9 => Or.inr (Or.inr (Or.inr (Or.inr (Or.inr (Or.inr (Or.inr (Or.inr (Or.inr (Or.inr (Or.inr (Or.inl h9)))))))))))) (fun z9 => Or.elim z9 (fun h9 => Or.inr (Or.inr (Or.inr (Or.inr (Or.inr (Or.inr (Or.inr (Or.inr (Or.inr (Or.inr (Or.inr (Or.inr (Or.inl h9))))))))))))) (fun z9 => Or.elim z9 (fun h9 => Or.inr (Or.inr (Or.inr (Or.inr (Or.inr (Or.inr (Or.inr (Or.inr (Or.inr (Or.inr (Or.inr (Or.inr (Or.inr (Or.inl h9)))))))))))))) (fun z9 => Or.elim z9 (fun h9 => Or.inr (Or.inr (Or.inr (Or.inr (Or.inr (Or.inr (Or.inr (Or.inr (Or.inr (Or.inr (Or.inr (Or.inr (Or.inr (Or.inr (Or.inl h9))))))))))))))) (fun h9 => Or.inr (Or.inr (Or.inr (Or.inr (Or.inr (Or.inr (Or.inr (Or.inr (Or.inr (Or.inr (Or.inr (Or.inr (Or.inr (Or.inr (Or.inr (Or.inl h9)))))))))))))))))))))))))))) z8))).trans ((hg_M_2 a i (fun z8 => q0 ((fun z9 => Or.elim z9 (fun h9 => Or.inr (Or.inl h9)) (fun z9 => Or.elim z9 (fun h9 => Or.inr (Or.inr (Or.inl h9))) (fun z9 => Or.elim z9 (fun h9 => Or.inr (Or.inr (Or.inr (Or.inr (Or.inr (Or.inr (Or.inl h9))))))) (fun h9 => Or.inr (Or.inr (Or.inr (Or.inr (Or.inr (Or.inr (Or.inr (Or.inr (Or.inl h9)))))))))))) z8))).trans rfl)))))))))), (by show 0 ≤ (M123 0 6).toInt ∧ (M123 0 6).toInt ≤ 260; rw [hf_M123 0 6 (by first | decide | (rcases hc0 with h | h <;> rw [h] <;> simp; done) | (rcases hb0 with h | h | h <;> rw [h] <;> simp; done) | (simp; done) | omega), hf_M95 0 6 (by first | decide | (rcases hc0 with h | h <;> rw [h] <;> simp; done) | (rcases hb0 with h | h | h <;> rw [h] <;> simp; done) | (simp; done) | omega), eM_6, mset_ne (by first | exact nz1 (by decide) | exact nz2 (by decide) | exact nz1 (nzA hc0 (by decide)) | exact nz1 (nzE (by decide)) | exact nz1 (nzB hc0 (by decide)) | exact nz1 (nzC hc0 (by decide)) | exact nz1 (nzD hc0 (by decide)) | exact nz1 (nzF (by decide)) | exact nz1 (nzG (by decide)) | omega), eM_5, mset_eq]; decide), (by show Gl M123; exact gl_of s1 (by omega) l15 (fun j hj => by rw [l12]; exact hc95 j (by rw [k12] at h121; omega)) (fun j hj => hd123 j (by rw [l14] at c128; omega))), (by show (M123 0 6).toInt = _; rw [if_pos (by omega), show M123 0 6 = M_5 0 6 from ((hf_M123 0 6 (by first | decide | (rcases hc0 with h | h <;> rw [h] <;> simp; done) | (rcases hb0 with h | h | h <;> rw [h] <;> simp; done) | (simp; done) | omega)).trans ((hf_M95 0 6 (by first | decide | (rcases hc0 with h | h <;> rw [h] <;> simp; done) | (rcases hb0 with h | h | h <;> rw [h] <;> simp; done) | (simp; done) | omega)).trans ((congrFun (congrFun eM_6 0) 6).trans ((mset_ne (by first | exact nz1 (by decide) | exact nz2 (by decide) | exact nz1 (nzA hc0 (by decide)) | exact nz1 (nzE (by decide)) | exact nz1 (nzB hc0 (by decide)) | exact nz1 (nzC hc0 (by decide)) | exact nz1 (nzD hc0 (by decide)) | exact nz1 (nzF (by decide)) | exact nz1 (nzG (by decide)) | omega)).trans rfl)))), eM_5, mset_eq]; exact nI0)⟩
            · rw [l14] at c128
              have fy := t_ixn y3_123 h123
              have hi := i_up (x := y3_123) (by omega)
              refine wp_gd (by omega) ?_
              refine wp_gd (by omega) ?_
              refine wp_bnd (fun M_7 eM_7 => ?_)
              refine wp_gd (by omega) ?_
              refine wp_gd (by omega) ?_
              refine wp_bnd (fun M_8 eM_8 => ?_)
              refine wp_gd (by omega) ?_
              refine wp_gd (by omega) ?_
              refine wp_bnd (fun M_9 eM_9 => ?_)
              refine wp_gd (by omega) ?_
              refine wp_gd (by omega) ?_
              refine wp_bnd (fun M_10 eM_10 => ?_)
              have v14 : M_10 14 (ix y3_123) = M31 9 (ix y3_123) := by rw [eM_10, mset_ne (by first | exact nz1 (by decide) | exact nz2 (by decide) | exact nz1 (nzA hc0 (by decide)) | exact nz1 (nzE (by decide)) | exact nz1 (nzB hc0 (by decide)) | exact nz1 (nzC hc0 (by decide)) | exact nz1 (nzD hc0 (by decide)) | exact nz1 (nzF (by decide)) | exact nz1 (nzG (by decide)) | omega), eM_9, mset_ne (by first | exact nz1 (by decide) | exact nz2 (by decide) | exact nz1 (nzA hc0 (by decide)) | exact nz1 (nzE (by decide)) | exact nz1 (nzB hc0 (by decide)) | exact nz1 (nzC hc0 (by decide)) | exact nz1 (nzD hc0 (by decide)) | exact nz1 (nzF (by decide)) | exact nz1 (nzG (by decide)) | omega), eM_8, mset_eq, eM_7, mset_ne (by first | exact nz1 (by decide) | exact nz2 (by decide) | exact nz1 (nzA hc0 (by decide)) | exact nz1 (nzE (by decide)) | exact nz1 (nzB hc0 (by decide)) | exact nz1 (nzC hc0 (by decide)) | exact nz1 (nzD hc0 (by decide)) | exact nz1 (nzF (by decide)) | exact nz1 (nzG (by decide)) | omega), l9]
              have v15 : M_10 15 (ix y3_123) = M31 10 (ix y3_123) := by rw [eM_10, mset_ne (by first | exact nz1 (by decide) | exact nz2 (by decide) | exact nz1 (nzA hc0 (by decide)) | exact nz1 (nzE (by decide)) | exact nz1 (nzB hc0 (by decide)) | exact nz1 (nzC hc0 (by decide)) | exact nz1 (nzD hc0 (by decide)) | exact nz1 (nzF (by decide)) | exact nz1 (nzG (by decide)) | omega), eM_9, mset_eq, eM_8, mset_ne (by first | exact nz1 (by decide) | exact nz2 (by decide) | exact nz1 (nzA hc0 (by decide)) | exact nz1 (nzE (by decide)) | exact nz1 (nzB hc0 (by decide)) | exact nz1 (nzC hc0 (by decide)) | exact nz1 (nzD hc0 (by decide)) | exact nz1 (nzF (by decide)) | exact nz1 (nzG (by decide)) | omega), eM_7, mset_ne (by first | exact nz1 (by decide) | exact nz2 (by decide) | exact nz1 (nzA hc0 (by decide)) | exact nz1 (nzE (by decide)) | exact nz1 (nzB hc0 (by decide)) | exact nz1 (nzC hc0 (by decide)) | exact nz1 (nzD hc0 (by decide)) | exact nz1 (nzF (by decide)) | exact nz1 (nzG (by decide)) | omega), l10]
              have v16 : M_10 16 (ix y3_123) = M31 11 (ix y3_123) := by rw [eM_10, mset_eq, eM_9, mset_ne (by first | exact nz1 (by decide) | exact nz2 (by decide) | exact nz1 (nzA hc0 (by decide)) | exact nz1 (nzE (by decide)) | exact nz1 (nzB hc0 (by decide)) | exact nz1 (nzC hc0 (by decide)) | exact nz1 (nzD hc0 (by decide)) | exact nz1 (nzF (by decide)) | exact nz1 (nzG (by decide)) | omega), eM_8, mset_ne (by first | exact nz1 (by decide) | exact nz2 (by decide) | exact nz1 (nzA hc0 (by decide)) | exact nz1 (nzE (by decide)) | exact nz1 (nzB hc0 (by decide)) | exact nz1 (nzC hc0 (by decide)) | exact nz1 (nzD hc0 (by decide)) | exact nz1 (nzF (by decide)) | exact nz1 (nzG (by decide)) | omega), eM_7, mset_ne (by first | exact nz1 (by decide) | exact nz2 (by decide) | exact nz1 (nzA hc0 (by decide)) | exact nz1 (nzE (by decide)) | exact nz1 (nzB hc0 (by decide)) | exact nz1 (nzC hc0 (by decide)) | exact nz1 (nzD hc0 (by decide)) | exact nz1 (nzF (by decide)) | exact nz1 (nzG (by decide)) | omega), l11]
              have o14 : ∀ j, ¬ j = ix y3_123 → M_10 14 j = M123 14 j := fun j h9 => by rw [eM_10, mset_ne (by first | exact nz1 (by decide) | exact nz2 (by decide) | exact nz1 (nzA hc0 (by decide)) | exact nz1 (nzE (by decide)) | exact nz1 (nzB hc0 (by decide)) | exact nz1 (nzC hc0 (by decide)) | exact nz1 (nzD hc0 (by decide)) | exact nz1 (nzF (by decide)) | exact nz1 (nzG (by decide)) | omega), eM_9, mset_ne (by first | exact nz1 (by decide) | exact nz2 (by decide) | exact nz1 (nzA hc0 (by decide)) | exact nz1 (nzE (by decide)) | exact nz1 (nzB hc0 (by decide)) | exact nz1 (nzC hc0 (by decide)) | exact nz1 (nzD hc0 (by decide)) | exact nz1 (nzF (by decide)) | exact nz1 (nzG (by decide)) | omega), eM_8, mset_ne (by first | exact nz1 (by decide) | exact nz2 (by decide) | exact nz1 (nzA hc0 (by decide)) | exact nz1 (nzE (by decide)) | exact nz1 (nzB hc0 (by decide)) | exact nz1 (nzC hc0 (by decide)) | exact nz1 (nzD hc0 (by decide)) | exact nz1 (nzF (by decide)) | exact nz1 (nzG (by decide)) | omega), eM_7, mset_ne (by first | exact nz1 (by decide) | exact nz2 (by decide) | exact nz1 (nzA hc0 (by decide)) | exact nz1 (nzE (by decide)) | exact nz1 (nzB hc0 (by decide)) | exact nz1 (nzC hc0 (by decide)) | exact nz1 (nzD hc0 (by decide)) | exact nz1 (nzF (by decide)) | exact nz1 (nzG (by decide)) | omega)]
              have o15 : ∀ j, ¬ j = ix y3_123 → M_10 15 j = M123 15 j := fun j h9 => by rw [eM_10, mset_ne (by first | exact nz1 (by decide) | exact nz2 (by decide) | exact nz1 (nzA hc0 (by decide)) | exact nz1 (nzE (by decide)) | exact nz1 (nzB hc0 (by decide)) | exact nz1 (nzC hc0 (by decide)) | exact nz1 (nzD hc0 (by decide)) | exact nz1 (nzF (by decide)) | exact nz1 (nzG (by decide)) | omega), eM_9, mset_ne (by first | exact nz1 (by decide) | exact nz2 (by decide) | exact nz1 (nzA hc0 (by decide)) | exact nz1 (nzE (by decide)) | exact nz1 (nzB hc0 (by decide)) | exact nz1 (nzC hc0 (by decide)) | exact nz1 (nzD hc0 (by decide)) | exact nz1 (nzF (by decide)) | exact nz1 (nzG (by decide)) | omega), eM_8, mset_ne (by first | exact nz1 (by decide) | exact nz2 (by decide) | exact nz1 (nzA hc0 (by decide)) | exact nz1 (nzE (by decide)) | exact nz1 (nzB hc0 (by decide)) | exact nz1 (nzC hc0 (by decide)) | exact nz1 (nzD hc0 (by decide)) | exact nz1 (nzF (by decide)) | exact nz1 (nzG (by decide)) | omega), eM_7, mset_ne (by first | exact nz1 (by decide) | exact nz2 (by decide) | exact nz1 (nzA hc0 (by decide)) | exact nz1 (nzE (by decide)) | exact nz1 (nzB hc0 (by decide)) | exact nz1 (nzC hc0 (by decide)) | exact nz1 (nzD hc0 (by decide)) | exact nz1 (nzF (by decide)) | exact nz1 (nzG (by decide)) | omega)]
              have o16 : ∀ j, ¬ j = ix y3_123 → M_10 16 j = M123 16 j := fun j h9 => by rw [eM_10, mset_ne (by first | exact nz1 (by decide) | exact nz2 (by decide) | exact nz1 (nzA hc0 (by decide)) | exact nz1 (nzE (by decide)) | exact nz1 (nzB hc0 (by decide)) | exact nz1 (nzC hc0 (by decide)) | exact nz1 (nzD hc0 (by decide)) | exact nz1 (nzF (by decide)) | exact nz1 (nzG (by decide)) | omega), eM_9, mset_ne (by first | exact nz1 (by decide) | exact nz2 (by decide) | exact nz1 (nzA hc0 (by decide)) | exact nz1 (nzE (by decide)) | exact nz1 (nzB hc0 (by decide)) | exact nz1 (nzC hc0 (by decide)) | exact nz1 (nzD hc0 (by decide)) | exact nz1 (nzF (by decide)) | exact nz1 (nzG (by decide)) | omega), eM_8, mset_ne (by first | exact nz1 (by decide) | exact nz2 (by decide) | exact nz1 (nzA hc0 (by decide)) | exact nz1 (nzE (by decide)) | exact nz1 (nzB hc0 (by decide)) | exact nz1 (nzC hc0 (by decide)) | exact nz1 (nzD hc0 (by decide)) | exact nz1 (nzF (by decide)) | exact nz1 (nzG (by decide)) | omega), eM_7, mset_ne (by first | exact nz1 (by decide) | exact nz2 (by decide) | exact nz1 (nzA hc0 (by decide)) | exact nz1 (nzE (by decide)) | exact nz1 (nzB hc0 (by decide)) | exact nz1 (nzC hc0 (by decide)) | exact nz1 (nzD hc0 (by decide)) | exact nz1 (nzF (by decide)) | exact nz1 (nzG (by decide)) | omega)]
              exact ih123 M_10 (y3_123 + (nI 1)) ⟨(fun a i q0 => ((congrFun (congrFun eM_10 a) i).trans ((mset_ne (fun h9 => q0 (Or.inr (Or.inr (Or.inr ((h9).1)))))).trans ((congrFun (congrFun eM_9 a) i).trans ((mset_ne (fun h9 => q0 (Or.inr (Or.inr (Or.inl (h9).1))))).trans ((congrFun (congrFun eM_8 a) i).trans ((mset_ne (fun h9 => q0 (Or.inr (Or.inl (h9).1)))).trans ((congrFun (congrFun eM_7 a) i).trans ((mset_ne (fun h9 => q0 (Or.inl (h9).1))).trans ((hf_M123 a i (fun z8 => q0 ((fun z9 => Or.elim z9 (fun h9 => Or.inl h9) (fun z9 => Or.elim z9 (fun h9 => Or.inr (Or.inl h9)) (fun z9 => Or.elim z9 (fun h9 => Or.inr (Or.inr (Or.inl h9))) (fun h9 => Or.inr (Or.inr (Or.inr (h9))))))) z8))).trans rfl)))))))))), (by omega), (fun j hj => by rw [hi.2] at hj; by_cases e9 : j = ix y3_123; (rw [e9]; exact ⟨v14, v15, v16⟩); (have h9 := hd123 j (by omega); exact ⟨(o14 j e9).trans h9.1, (o15 j e9).trans h9.2.1, (o16 j e9).trans h9.2.2⟩))⟩ (by rw [show M_10 0 14 = M31 0 14 from (by rw [eM_10, mset_ne (by first | exact nz1 (by decide) | exact nz2 (by decide) | exact nz1 (nzA hc0 (by decide)) | exact nz1 (nzE (by decide)) | exact nz1 (nzB hc0 (by decide)) | exact nz1 (nzC hc0 (by decide)) | exact nz1 (nzD hc0 (by decide)) | exact nz1 (nzF (by decide)) | exact nz1 (nzG (by decide)) | omega), eM_9, mset_ne (by first | exact nz1 (by decide) | exact nz2 (by decide) | exact nz1 (nzA hc0 (by decide)) | exact nz1 (nzE (by decide)) | exact nz1 (nzB hc0 (by decide)) | exact nz1 (nzC hc0 (by decide)) | exact nz1 (nzD hc0 (by decide)) | exact nz1 (nzF (by decide)) | exact nz1 (nzG (by decide)) | omega), eM_8, mset_ne (by first | exact nz1 (by decide) | exact nz2 (by decide) | exact nz1 (nzA hc0 (by decide)) | exact nz1 (nzE (by decide)) | exact nz1 (nzB hc0 (by decide)) | exact nz1 (nzC hc0 (by decide)) | exact nz1 (nzD hc0 (by decide)) | exact nz1 (nzF (by decide)) | exact nz1 (nzG (by decide)) | omega), eM_7, mset_ne (by first | exact nz1 (by decide) | exact nz2 (by decide) | exact nz1 (nzA hc0 (by decide)) | exact nz1 (nzE (by decide)) | exact nz1 (nzB hc0 (by decide)) | exact nz1 (nzC hc0 (by decide)) | exact nz1 (nzD hc0 (by decide)) | exact nz1 (nzF (by decide)) | exact nz1 (nzG (by decide)) | omega), l14]), l14]; omega)
          refine wp_ite (fun c100 => ?_) (fun c100 => ?_)
          · exact j121 (by omega)
          · rw [k12] at c100
            have fy := t_ixn y3_95 h95
            have hi := i_up (x := y3_95) (by omega)
            refine wp_gd (by omega) ?_
            refine wp_gd (by omega) ?_
            refine wp_bnd (fun M_11 eM_11 => ?_)
            exact ih95 M_11 (y3_95 + (nI 1)) ⟨(fun a i q0 => ((congrFun (congrFun eM_11 a) i).trans ((mset_ne (fun h9 => q0 ((h9).1))).trans ((hf_M95 a i (fun h9 => q0 (h9))).trans rfl)))), (by omega), (set_ext (P := fun j x => x = M31 6 j) eM_11 (by omega) (by omega) hc95 (k6 _))⟩ (by rw [show M_11 0 12 = M31 0 12 from (by rw [eM_11, mset_ne (by first | exact nz1 (by decide) | exact nz2 (by decide) | exact nz1 (nzA hc0 (by decide)) | exact nz1 (nzE (by decide)) | exact nz1 (nzB hc0 (by decide)) | exact nz1 (nzC hc0 (by decide)) | exact nz1 (nzD hc0 (by decide)) | exact nz1 (nzF (by decide)) | exact nz1 (nzG (by decide)) | omega), k12]), k12]; omega)
      refine wp_ite (fun c32 => ?_) (fun c32 => ?_)
      · exact j71
      · obtain ⟨s1, s2, s3, s4⟩ := h31 c32
        refine wp_ite (fun c43 => ?_) (fun c43 => ?_)
        · exact j71
        · refine wp_cb2 (o_X10_takesSign M31 (nI 59) (by omega) (by decide)) (fun r_12 M_13 he49 hq49 => ?_)
          obtain ⟨hz_r_12, hg_M_13, hp_49⟩ := hq49
          replace hp_49 : (M31 0 7).toInt ≤ (M_13 0 7).toInt ∧ (M_13 0 7).toInt ≤ (M31 0 8).toInt ∧ (¬ r_12.toInt = 0 → (M31 0 7).toInt < (M_13 0 7).toInt) := hp_49
          have := t_lit 59
          replace hg_M_13 : ∀ a i, ¬ ((a = 0 ∧ i = 7) ∨ (a = 0 ∧ i = 9)) → M_13 a i = M31 a i := hg_M_13
          refine wp_ite (fun c52 => ?_) (fun c52 => ?_)
          · exact ih31 M_13 (nI 0) ⟨(fun a i q0 => ((hg_M_13 a i (fun z8 => q0 ((fun z9 => Or.elim z9 (fun h9 => Or.inl h9) (fun h9 => Or.inr (Or.inl h9))) z8))).trans ((hf_M31 a i (fun z8 => q0 ((fun z9 => Or.elim z9 (fun h9 => Or.inl h9) (fun z9 => Or.elim z9 (fun h9 => Or.inr (Or.inl h9)) (fun z9 => Or.elim z9 (fun h9 => Or.inr (Or.inr (Or.inl h9))) (fun z9 => Or.elim z9 (fun h9 => Or.inr (Or.inr (Or.inr (Or.inl h9)))) (fun z9 => Or.elim z9 (fun h9 => Or.inr (Or.inr (Or.inr (Or.inr (Or.inl h9))))) (fun z9 => Or.elim z9 (fun h9 => Or.inr (Or.inr (Or.inr (Or.inr (Or.inr (Or.inl h9)))))) (fun z9 => Or.elim z9 (fun h9 => Or.inr (Or.inr (Or.inr (Or.inr (Or.inr (Or.inr (Or.inl h9))))))) (fun z9 => Or.elim z9 (fun h9 => Or.inr (Or.inr (Or.inr (Or.inr (Or.inr (Or.inr (Or.inr (Or.inl h9)))))))) (fun z9 => Or.elim z9 (fun h9 => Or.inr (Or.inr (Or.inr (Or.inr (Or.inr (Or.inr (Or.inr (Or.inr (Or.inl h9))))))))) (fun z9 => Or.elim z9 (fun h9 => Or.inr (Or.inr (Or.inr (Or.inr (Or.inr (Or.inr (Or.inr (Or.inr (Or.inr (Or.inl h9)))))))))) (fun z9 => Or.elim z9 (fun h9 => Or.inr (Or.inr (Or.inr (Or.inr (Or.inr (Or.inr (Or.inr (Or.inr (Or.inr (Or.inr (Or.inl h9))))))))))) (fun z9 => Or.elim z9 (fun h9 => Or.inr (Or.inr (Or.inr (Or.inr (Or.inr (Or.inr (Or.inr (Or.inr (Or.inr (Or.inr (Or.inr (Or.inl h9)))))))))))) (fun h9 => Or.inr (Or.inr (Or.inr (Or.inr (Or.inr (Or.inr (Or.inr (Or.inr (Or.inr (Or.inr (Or.inr (Or.inr (h9))))))))))))))))))))))))) z8))).trans rfl))), (fun z => absurd nI0 z)⟩ (mu_d2 c32 (fun z => absurd nI0 z))
          · have hpl := hp_49.2.2 c52
            have z12 := congrArg Int32.toInt (hg_M_13 0 12 (by first | decide | (rcases hc0 with h | h <;> rw [h] <;> simp; done) | (rcases hb0 with h | h | h <;> rw [h] <;> simp; done) | (simp; done) | omega))
            have z8 := congrArg Int32.toInt (hg_M_13 0 8 (by first | decide | (rcases hc0 with h | h <;> rw [h] <;> simp; done) | (rcases hb0 with h | h | h <;> rw [h] <;> simp; done) | (simp; done) | omega))
            have hS13 : Said M_13 := said_ext s1 (hg_M_13 0 14 (by first | decide | (rcases hc0 with h | h <;> rw [h] <;> simp; done) | (rcases hb0 with h | h | h <;> rw [h] <;> simp; done) | (simp; done) | omega)) (hg_M_13 0 12 (by first | decide | (rcases hc0 with h | h <;> rw [h] <;> simp; done) | (rcases hb0 with h | h | h <;> rw [h] <;> simp; done) | (simp; done) | omega)) (fun i => hg_M_13 6 i (by first | decide | (rcases hc0 with h | h <;> rw [h] <;> simp; done) | (rcases hb0 with h | h | h <;> rw [h] <;> simp; done) | (simp; done) | omega)) (fun i => hg_M_13 9 i (by first | decide | (rcases hc0 with h | h <;> rw [h] <;> simp; done) | (rcases hb0 with h | h | h <;> rw [h] <;> simp; done) | (simp; done) | omega)) (fun i => hg_M_13 10 i (by first | decide | (rcases hc0 with h | h <;> rw [h] <;> simp; done) | (rcases hb0 with h | h | h <;> rw [h] <;> simp; done) | (simp; done) | omega)) (fun i => hg_M_13 11 i (by first | decide | (rcases hc0 with h | h <;> rw [h] <;> simp; done) | (rcases hb0 with h | h | h <;> rw [h] <;> simp; done) | (simp; done) | omega))
            refine wp_cb2 (o_X10_readsRule M_13 (by omega) hS13) (fun r_14 M_15 he56 hq56 => ?_)
            obtain ⟨hz_r_14, hg_M_15, hS_56⟩ := hq56
            replace hS_56 : ¬ r_14.toInt = 0 → Said M_15 ∧ (M_13 0 7).toInt < (M_15 0 7).toInt ∧ 0 ≤ (M_15 0 12).toInt ∧ (M_15 0 12).toInt ≤ (M_15 0 7).toInt ∧ (M_15 0 7).toInt ≤ (M_13 0 8).toInt := hS_56
            replace hg_M_15 : ∀ a i, ¬ ((a = 0 ∧ i = 7) ∨ (a = 0 ∧ i = 9) ∨ (a = 0 ∧ i = 10) ∨ (a = 0 ∧ i = 11) ∨ (a = 0 ∧ i = 12) ∨ (a = 0 ∧ i = 13) ∨ (a = 0 ∧ i = 14) ∨ a = 6 ∨ a = 7 ∨ a = 8 ∨ a = 9 ∨ a = 10 ∨ a = 11) → M_15 a i = M_13 a i := hg_M_15
            refine wp_ite (fun c59 => ?_) (fun c59 => ?_)
            · exact ih31 M_15 (nI 0) ⟨(fun a i q0 => ((hg_M_15 a i (fun z8 => q0 ((fun z9 => Or.elim z9 (fun h9 => Or.inl h9) (fun z9 => Or.elim z9 (fun h9 => Or.inr (Or.inl h9)) (fun z9 => Or.elim z9 (fun h9 => Or.inr (Or.inr (Or.inl h9))) (fun z9 => Or.elim z9 (fun h9 => Or.inr (Or.inr (Or.inr (Or.inl h9)))) (fun z9 => Or.elim z9 (fun h9 => Or.inr (Or.inr (Or.inr (Or.inr (Or.inl h9))))) (fun z9 => Or.elim z9 (fun h9 => Or.inr (Or.inr (Or.inr (Or.inr (Or.inr (Or.inl h9)))))) (fun z9 => Or.elim z9 (fun h9 => Or.inr (Or.inr (Or.inr (Or.inr (Or.inr (Or.inr (Or.inl h9))))))) (fun z9 => Or.elim z9 (fun h9 => Or.inr (Or.inr (Or.inr (Or.inr (Or.inr (Or.inr (Or.inr (Or.inl h9)))))))) (fun z9 => Or.elim z9 (fun h9 => Or.inr (Or.inr (Or.inr (Or.inr (Or.inr (Or.inr (Or.inr (Or.inr (Or.inl h9))))))))) (fun z9 => Or.elim z9 (fun h9 => Or.inr (Or.inr (Or.inr (Or.inr (Or.inr (Or.inr (Or.inr (Or.inr (Or.inr (Or.inl h9)))))))))) (fun z9 => Or.elim z9 (fun h9 => Or.inr (Or.inr (Or.inr (Or.inr (Or.inr (Or.inr (Or.inr (Or.inr (Or.inr (Or.inr (Or.inl h9))))))))))) (fun z9 => Or.elim z9 (fun h9 => Or.inr (Or.inr (Or.inr (Or.inr (Or.inr (Or.inr (Or.inr (Or.inr (Or.inr (Or.inr (Or.inr (Or.inl h9)))))))))))) (fun h9 => Or.inr (Or.inr (Or.inr (Or.inr (Or.inr (Or.inr (Or.inr (Or.inr (Or.inr (Or.inr (Or.inr (Or.inr (h9))))))))))))))))))))))))) z8))).trans ((hg_M_13 a i (fun z8 => q0 ((fun z9 => Or.elim z9 (fun h9 => Or.inl h9) (fun h9 => Or.inr (Or.inl h9))) z8))).trans ((hf_M31 a i (fun z8 => q0 ((fun z9 => Or.elim z9 (fun h9 => Or.inl h9) (fun z9 => Or.elim z9 (fun h9 => Or.inr (Or.inl h9)) (fun z9 => Or.elim z9 (fun h9 => Or.inr (Or.inr (Or.inl h9))) (fun z9 => Or.elim z9 (fun h9 => Or.inr (Or.inr (Or.inr (Or.inl h9)))) (fun z9 => Or.elim z9 (fun h9 => Or.inr (Or.inr (Or.inr (Or.inr (Or.inl h9))))) (fun z9 => Or.elim z9 (fun h9 => Or.inr (Or.inr (Or.inr (Or.inr (Or.inr (Or.inl h9)))))) (fun z9 => Or.elim z9 (fun h9 => Or.inr (Or.inr (Or.inr (Or.inr (Or.inr (Or.inr (Or.inl h9))))))) (fun z9 => Or.elim z9 (fun h9 => Or.inr (Or.inr (Or.inr (Or.inr (Or.inr (Or.inr (Or.inr (Or.inl h9)))))))) (fun z9 => Or.elim z9 (fun h9 => Or.inr (Or.inr (Or.inr (Or.inr (Or.inr (Or.inr (Or.inr (Or.inr (Or.inl h9))))))))) (fun z9 => Or.elim z9 (fun h9 => Or.inr (Or.inr (Or.inr (Or.inr (Or.inr (Or.inr (Or.inr (Or.inr (Or.inr (Or.inl h9)))))))))) (fun z9 => Or.elim z9 (fun h9 => Or.inr (Or.inr (Or.inr (Or.inr (Or.inr (Or.inr (Or.inr (Or.inr (Or.inr (Or.inr (Or.inl h9))))))))))) (fun z9 => Or.elim z9 (fun h9 => Or.inr (Or.inr (Or.inr (Or.inr (Or.inr (Or.inr (Or.inr (Or.inr (Or.inr (Or.inr (Or.inr (Or.inl h9)))))))))))) (fun h9 => Or.inr (Or.inr (Or.inr (Or.inr (Or.inr (Or.inr (Or.inr (Or.inr (Or.inr (Or.inr (Or.inr (Or.inr (h9))))))))))))))))))))))))) z8))).trans rfl)))), (fun z => absurd nI0 z)⟩ (mu_d2 c32 (fun z => absurd nI0 z))
            · exact ih31 M_15 (nI 1) ⟨(fun a i q0 => ((hg_M_15 a i (fun z8 => q0 ((fun z9 => Or.elim z9 (fun h9 => Or.inl h9) (fun z9 => Or.elim z9 (fun h9 => Or.inr (Or.inl h9)) (fun z9 => Or.elim z9 (fun h9 => Or.inr (Or.inr (Or.inl h9))) (fun z9 => Or.elim z9 (fun h9 => Or.inr (Or.inr (Or.inr (Or.inl h9)))) (fun z9 => Or.elim z9 (fun h9 => Or.inr (Or.inr (Or.inr (Or.inr (Or.inl h9))))) (fun z9 => Or.elim z9 (fun h9 => Or.inr (Or.inr (Or.inr (Or.inr (Or.inr (Or.inl h9)))))) (fun z9 => Or.elim z9 (fun h9 => Or.inr (Or.inr (Or.inr (Or.inr (Or.inr (Or.inr (Or.inl h9))))))) (fun z9 => Or.elim z9 (fun h9 => Or.inr (Or.inr (Or.inr (Or.inr (Or.inr (Or.inr (Or.inr (Or.inl h9)))))))) (fun z9 => Or.elim z9 (fun h9 => Or.inr (Or.inr (Or.inr (Or.inr (Or.inr (Or.inr (Or.inr (Or.inr (Or.inl h9))))))))) (fun z9 => Or.elim z9 (fun h9 => Or.inr (Or.inr (Or.inr (Or.inr (Or.inr (Or.inr (Or.inr (Or.inr (Or.inr (Or.inl h9)))))))))) (fun z9 => Or.elim z9 (fun h9 => Or.inr (Or.inr (Or.inr (Or.inr (Or.inr (Or.inr (Or.inr (Or.inr (Or.inr (Or.inr (Or.inl h9))))))))))) (fun z9 => Or.elim z9 (fun h9 => Or.inr (Or.inr (Or.inr (Or.inr (Or.inr (Or.inr (Or.inr (Or.inr (Or.inr (Or.inr (Or.inr (Or.inl h9)))))))))))) (fun h9 => Or.inr (Or.inr (Or.inr (Or.inr (Or.inr (Or.inr (Or.inr (Or.inr (Or.inr (Or.inr (Or.inr (Or.inr (h9))))))))))))))))))))))))) z8))).trans ((hg_M_13 a i (fun z8 => q0 ((fun z9 => Or.elim z9 (fun h9 => Or.inl h9) (fun h9 => Or.inr (Or.inl h9))) z8))).trans ((hf_M31 a i (fun z8 => q0 ((fun z9 => Or.elim z9 (fun h9 => Or.inl h9) (fun z9 => Or.elim z9 (fun h9 => Or.inr (Or.inl h9)) (fun z9 => Or.elim z9 (fun h9 => Or.inr (Or.inr (Or.inl h9))) (fun z9 => Or.elim z9 (fun h9 => Or.inr (Or.inr (Or.inr (Or.inl h9)))) (fun z9 => Or.elim z9 (fun h9 => Or.inr (Or.inr (Or.inr (Or.inr (Or.inl h9))))) (fun z9 => Or.elim z9 (fun h9 => Or.inr (Or.inr (Or.inr (Or.inr (Or.inr (Or.inl h9)))))) (fun z9 => Or.elim z9 (fun h9 => Or.inr (Or.inr (Or.inr (Or.inr (Or.inr (Or.inr (Or.inl h9))))))) (fun z9 => Or.elim z9 (fun h9 => Or.inr (Or.inr (Or.inr (Or.inr (Or.inr (Or.inr (Or.inr (Or.inl h9)))))))) (fun z9 => Or.elim z9 (fun h9 => Or.inr (Or.inr (Or.inr (Or.inr (Or.inr (Or.inr (Or.inr (Or.inr (Or.inl h9))))))))) (fun z9 => Or.elim z9 (fun h9 => Or.inr (Or.inr (Or.inr (Or.inr (Or.inr (Or.inr (Or.inr (Or.inr (Or.inr (Or.inl h9)))))))))) (fun z9 => Or.elim z9 (fun h9 => Or.inr (Or.inr (Or.inr (Or.inr (Or.inr (Or.inr (Or.inr (Or.inr (Or.inr (Or.inr (Or.inl h9))))))))))) (fun z9 => Or.elim z9 (fun h9 => Or.inr (Or.inr (Or.inr (Or.inr (Or.inr (Or.inr (Or.inr (Or.inr (Or.inr (Or.inr (Or.inr (Or.inl h9)))))))))))) (fun h9 => Or.inr (Or.inr (Or.inr (Or.inr (Or.inr (Or.inr (Or.inr (Or.inr (Or.inr (Or.inr (Or.inr (Or.inr (h9))))))))))))))))))))))))) z8))).trans rfl)))), (fun _ => by have h9 := hS_56 c59; exact ⟨h9.1, h9.2.2.1, h9.2.2.2.1, by rw [hg_M_15 0 8 (by first | decide | (rcases hc0 with h | h <;> rw [h] <;> simp; done) | (rcases hb0 with h | h | h <;> rw [h] <;> simp; done) | (simp; done) | omega)]; exact h9.2.2.2.2⟩)⟩ (mu_d2 c32 (fun _ => by have h9 := hS_56 c59; have z15 := congrArg Int32.toInt (hg_M_15 0 8 (by first | decide | (rcases hc0 with h | h <;> rw [h] <;> simp; done) | (rcases hb0 with h | h | h <;> rw [h] <;> simp; done) | (simp; done) | omega)); omega))
    · exact wp_some ⟨(fun _ _ _ => rfl), ht, hG, (by show (M 0 6).toInt = _; rw [if_neg (by omega)])⟩
theorem o3_X10_notebook (M : Mem) (v1 : Int32) (ht : 0 ≤ (M 0 6).toInt ∧ (M 0 6).toInt ≤ 260) (hst : ST (M 1)) : Wp (f_X10_notebook M v1) (fun q => (∀ a i, ¬ ((a = 0 ∧ i = 6) ∨ (a = 0 ∧ i = 7) ∨ (a = 0 ∧ i = 8) ∨ (a = 0 ∧ i = 9) ∨ (a = 0 ∧ i = 10) ∨ (a = 0 ∧ i = 12) ∨ (a = 0 ∧ i = 14) ∨ (a = 0 ∧ i = 33) ∨ a = 1 ∨ a = 19 ∨ a = 20 ∨ a = 21 ∨ a = 22) → q.2 a i = M a i) ∧ (0 ≤ (q.2 0 6).toInt ∧ (q.2 0 6).toInt ≤ 260) ∧ (ST (q.2 1)) ∧ ((q.2 0 6).toInt = (if 1 ≤ v1.toInt ∧ v1.toInt ≤ 200 ∧ v1.toInt ≤ (M 0 6).toInt then 0 else (M 0 6).toInt))) := by
  refine wp_bind2 (o2_X10_in M v1 (nI 1) (nI 200)) (fun r_1 he5 hq5 => ?_)
  obtain ⟨hz_r_1, hr_5, hi_5⟩ := hq5
  replace hr_5 : ¬ r_1.toInt = 0 → (nI 1).toInt ≤ v1.toInt ∧ v1.toInt ≤ (nI 200).toInt := hr_5
  have := t_lit 1
  have := t_lit 200
  replace hi_5 : ¬ r_1.toInt = 0 ↔ (nI 1).toInt ≤ v1.toInt ∧ v1.toInt ≤ (nI 200).toInt := hi_5
  have := t_lit 1
  have := t_lit 200
  have fl1 := t_lit 1
  have fl200 := t_lit 200
  refine wp_ite (fun c8 => ?_) (fun c8 => ?_)
  · exact wp_some ⟨(fun _ _ _ => rfl), (by show 0 ≤ (M 0 6).toInt ∧ (M 0 6).toInt ≤ 260; have f0 := (by decide : ((-1 : Int32)).toInt = -1); omega), (by have e9 : M 1 = M 1 := funext (fun i => rfl); show ST (M 1); rw [e9]; exact hst), (by show (M 0 6).toInt = _; rw [if_neg (by omega)])⟩
  · refine wp_ite (fun c16 => ?_) (fun c16 => ?_)
    · refine wp_bind2 (o_X10_beginsText M v1) (fun M_2 he23 hq23 => ?_)
      obtain ⟨hg_M_2, hb_23⟩ := hq23
      replace hb_23 : (M_2 0 7).toInt = 0 ∧ (M_2 0 8).toInt = v1.toInt := hb_23
      replace hg_M_2 : ∀ a i, ¬ ((a = 0 ∧ i = 7) ∨ (a = 0 ∧ i = 8) ∨ (a = 0 ∧ i = 12) ∨ (a = 0 ∧ i = 14)) → M_2 a i = M a i := hg_M_2
      refine wp_bnd (fun M_3 eM_3 => ?_)
      have a7 : (M_3 0 7).toInt = 0 := by rw [eM_3, mset_ne (by first | exact nz1 (by decide) | exact nz2 (by decide) | exact nz1 (nzA hc0 (by decide)) | exact nz1 (nzE (by decide)) | exact nz1 (nzB hc0 (by decide)) | exact nz1 (nzC hc0 (by decide)) | exact nz1 (nzD hc0 (by decide)) | exact nz1 (nzF (by decide)) | exact nz1 (nzG (by decide)) | omega)]; exact hb_23.1
      have a8 : (M_3 0 8).toInt = v1.toInt := by rw [eM_3, mset_ne (by first | exact nz1 (by decide) | exact nz2 (by decide) | exact nz1 (nzA hc0 (by decide)) | exact nz1 (nzE (by decide)) | exact nz1 (nzB hc0 (by decide)) | exact nz1 (nzC hc0 (by decide)) | exact nz1 (nzD hc0 (by decide)) | exact nz1 (nzF (by decide)) | exact nz1 (nzG (by decide)) | omega)]; exact hb_23.2
      have a33 : (M_3 0 33).toInt = 0 := by rw [eM_3, mset_eq]; exact nI0
      refine wp_cb2 (o_X10_readsLine M_3 (by omega) (by omega) (fun j hj => absurd hj (by omega))) (fun r_4 M_5 he32 hq32 => ?_)
      obtain ⟨hz_r_4, hg_M_5, hp_32, hk_32⟩ := hq32
      replace hp_32 : (M_3 0 7).toInt ≤ (M_5 0 7).toInt ∧ (M_5 0 7).toInt ≤ (M_3 0 8).toInt ∧ (¬ r_4.toInt = 0 → (M_3 0 7).toInt < (M_5 0 7).toInt) := hp_32
      replace hk_32 : ¬ r_4.toInt = 0 → (M_5 0 33).toInt = (M_3 0 33).toInt + 1 ∧ (M_3 0 33).toInt < 40 ∧ (∀ j : Nat, (j : Int) < (M_5 0 33).toInt → 1 ≤ (M_5 20 j).toInt ∧ (M_5 20 j).toInt ≤ 20 ∧ 0 ≤ (M_5 21 j).toInt ∧ (M_5 21 j).toInt ≤ 9) := hk_32
      replace hg_M_5 : ∀ a i, ¬ ((a = 0 ∧ i = 7) ∨ (a = 0 ∧ i = 9) ∨ (a = 0 ∧ i = 10) ∨ (a = 0 ∧ i = 33) ∨ a = 19 ∨ a = 20 ∨ a = 21 ∨ a = 22) → M_5 a i = M_3 a i := hg_M_5
      have b8 := congrArg Int32.toInt (hg_M_5 0 8 (by first | decide | (rcases hc0 with h | h <;> rw [h] <;> simp; done) | (rcases hb0 with h | h | h <;> rw [h] <;> simp; done) | (simp; done) | omega))
      refine wp_lp2 (fun M36 y2_36 => (∀ a i, ¬ ((a = 0 ∧ i = 7) ∨ (a = 0 ∧ i = 9) ∨ (a = 0 ∧ i = 10) ∨ (a = 0 ∧ i = 33) ∨ a = 19 ∨ a = 20 ∨ a = 21 ∨ a = 22) → M36 a i = M_5 a i) ∧ ((0 ≤ (M36 0 7).toInt ∧ (M36 0 7).toInt ≤ (M36 0 8).toInt) ∧ (M36 0 8).toInt = v1.toInt ∧ (¬ y2_36.toInt = 0 → (0 ≤ (M36 0 33).toInt ∧ (M36 0 33).toInt ≤ 40) ∧ (∀ j : Nat, (j : Int) < (M36 0 33).toInt → 1 ≤ (M36 20 j).toInt ∧ (M36 20 j).toInt ≤ 20 ∧ 0 ≤ (M36 21 j).toInt ∧ (M36 21 j).toInt ≤ 9)))) (fun M36 y2_36 => (if y2_36.toInt = 0 then 0 else 1 + ((M36 0 8).toInt - (M36 0 7).toInt).toNat)) (fun ag36 M36 y2_36 hI36 ih36 => ?_) FU M_5 r_4 ⟨(fun _ _ _ => rfl), ⟨by omega, by omega, fun h => ⟨by have := (hk_32 h).1; omega, (hk_32 h).2.2⟩⟩⟩ (fu_lt (mu_f2 (by omega)))
      obtain ⟨hf_M36, h36⟩ := hI36
      have h36a := h36.1
      have h36b := h36.2.1
      have j76 : Wp (f_X10_notebook_L76 M36 y2_36) (fun q => (∀ a i, ¬ ((a = 0 ∧ i = 6) ∨ (a = 0 ∧ i = 7) ∨ (a = 0 ∧ i = 8) ∨ (a = 0 ∧ i = 9) ∨ (a = 0 ∧ i = 10) ∨ (a = 0 ∧ i = 12) ∨ (a = 0 ∧ i = 14) ∨ (a = 0 ∧ i = 33) ∨ a = 1 ∨ a = 19 ∨ a = 20 ∨ a = 21 ∨ a = 22) → q.2 a i = M a i) ∧ (0 ≤ (q.2 0 6).toInt ∧ (q.2 0 6).toInt ≤ 260) ∧ (ST (q.2 1)) ∧ ((q.2 0 6).toInt = (if 1 ≤ v1.toInt ∧ v1.toInt ≤ 200 ∧ v1.toInt ≤ (M 0 6).toInt then 0 else (M 0 6).toInt))) := by
        unfold f_X10_notebook_L76
        refine wp_bnd (fun M_6 eM_6 => ?_)
        have e33 := congrArg Int32.toInt ((congrFun (congrFun eM_6 0) 33).trans (mset_ne (by first | exact nz1 (by decide) | exact nz2 (by decide) | exact nz1 (nzA hc0 (by decide)) | exact nz1 (nzE (by decide)) | exact nz1 (nzB hc0 (by decide)) | exact nz1 (nzC hc0 (by decide)) | exact nz1 (nzD hc0 (by decide)) | exact nz1 (nzF (by decide)) | exact nz1 (nzG (by decide)) | omega)))
        refine wp_ite (fun c82 => ?_) (fun c82 => ?_)
        · exact wp_some ⟨(fun a i q0 => ((congrFun (congrFun eM_6 a) i).trans ((mset_ne (fun h9 => q0 (Or.inl h9))).trans ((hf_M36 a i (fun z8 => q0 ((fun z9 => Or.elim z9 (fun h9 => Or.inr (Or.inl h9)) (fun z9 => Or.elim z9 (fun h9 => Or.inr (Or.inr (Or.inr (Or.inl h9)))) (fun z9 => Or.elim z9 (fun h9 => Or.inr (Or.inr (Or.inr (Or.inr (Or.inl h9))))) (fun z9 => Or.elim z9 (fun h9 => Or.inr (Or.inr (Or.inr (Or.inr (Or.inr (Or.inr (Or.inr (Or.inl h9)))))))) (fun z9 => Or.elim z9 (fun h9 => Or.inr (Or.inr (Or.inr (Or.inr (Or.inr (Or.inr (Or.inr (Or.inr (Or.inr (Or.inl h9)))))))))) (fun z9 => Or.elim z9 (fun h9 => Or.inr (Or.inr (Or.inr (Or.inr (Or.inr (Or.inr (Or.inr (Or.inr (Or.inr (Or.inr (Or.inl h9))))))))))) (fun z9 => Or.elim z9 (fun h9 => Or.inr (Or.inr (Or.inr (Or.inr (Or.inr (Or.inr (Or.inr (Or.inr (Or.inr (Or.inr (Or.inr (Or.inl h9)))))))))))) (fun h9 => Or.inr (Or.inr (Or.inr (Or.inr (Or.inr (Or.inr (Or.inr (Or.inr (Or.inr (Or.inr (Or.inr (Or.inr (h9)))))))))))))))))))) z8))).trans ((hg_M_5 a i (fun z8 => q0 ((fun z9 => Or.elim z9 (fun h9 => Or.inr (Or.inl h9)) (fun z9 => Or.elim z9 (fun h9 => Or.inr (Or.inr (Or.inr (Or.inl h9)))) (fun z9 => Or.elim z9 (fun h9 => Or.inr (Or.inr (Or.inr (Or.inr (Or.inl h9))))) (fun z9 => Or.elim z9 (fun h9 => Or.inr (Or.inr (Or.inr (Or.inr (Or.inr (Or.inr (Or.inr (Or.inl h9)))))))) (fun z9 => Or.elim z9 (fun h9 => Or.inr (Or.inr (Or.inr (Or.inr (Or.inr (Or.inr (Or.inr (Or.inr (Or.inr (Or.inl h9)))))))))) (fun z9 => Or.elim z9 (fun h9 => Or.inr (Or.inr (Or.inr (Or.inr (Or.inr (Or.inr (Or.inr (Or.inr (Or.inr (Or.inr (Or.inl h9))))))))))) (fun z9 => Or.elim z9 (fun h9 => Or.inr (Or.inr (Or.inr (Or.inr (Or.inr (Or.inr (Or.inr (Or.inr (Or.inr (Or.inr (Or.inr (Or.inl h9)))))))))))) (fun h9 => Or.inr (Or.inr (Or.inr (Or.inr (Or.inr (Or.inr (Or.inr (Or.inr (Or.inr (Or.inr (Or.inr (Or.inr (h9)))))))))))))))))))) z8))).trans ((congrFun (congrFun eM_3 a) i).trans ((mset_ne (fun h9 => q0 (Or.inr (Or.inr (Or.inr (Or.inr (Or.inr (Or.inr (Or.inr (Or.inl h9)))))))))).trans ((hg_M_2 a i (fun z8 => q0 ((fun z9 => Or.elim z9 (fun h9 => Or.inr (Or.inl h9)) (fun z9 => Or.elim z9 (fun h9 => Or.inr (Or.inr (Or.inl h9))) (fun z9 => Or.elim z9 (fun h9 => Or.inr (Or.inr (Or.inr (Or.inr (Or.inr (Or.inl h9)))))) (fun h9 => Or.inr (Or.inr (Or.inr (Or.inr (Or.inr (Or.inr (Or.inl h9)))))))))) z8))).trans rfl)))))))), (by show 0 ≤ (M_6 0 6).toInt ∧ (M_6 0 6).toInt ≤ 260; have f0 := congrArg Int32.toInt ((congrFun (congrFun eM_6 0) 6).trans mset_eq); have f1 := t_lit 0; have f2 := congrArg Int32.toInt ((congrFun (congrFun eM_6 0) 9).trans (mset_ne (by first | exact nz1 (by decide) | exact nz2 (by decide) | exact nz1 (nzA hc0 (by decide)) | exact nz1 (nzE (by decide)) | exact nz1 (nzB hc0 (by decide)) | exact nz1 (nzC hc0 (by decide)) | exact nz1 (nzD hc0 (by decide)) | exact nz1 (nzF (by decide)) | exact nz1 (nzG (by decide)) | omega))); omega), (by have e9 : M_6 1 = M 1 := funext (fun i => ((congrFun (congrFun eM_6 1) i).trans ((mset_ne (by first | exact nz1 (by decide) | exact nz2 (by decide) | exact nz1 (nzA hc0 (by decide)) | exact nz1 (nzE (by decide)) | exact nz1 (nzB hc0 (by decide)) | exact nz1 (nzC hc0 (by decide)) | exact nz1 (nzD hc0 (by decide)) | exact nz1 (nzF (by decide)) | exact nz1 (nzG (by decide)) | omega)).trans ((hf_M36 1 i (by first | decide | (rcases hc0 with h | h <;> rw [h] <;> simp; done) | (rcases hb0 with h | h | h <;> rw [h] <;> simp; done) | (simp; done) | omega)).trans ((hg_M_5 1 i (by first | decide | (rcases hc0 with h | h <;> rw [h] <;> simp; done) | (rcases hb0 with h | h | h <;> rw [h] <;> simp; done) | (simp; done) | omega)).trans ((congrFun (congrFun eM_3 1) i).trans ((mset_ne (by first | exact nz1 (by decide) | exact nz2 (by decide) | exact nz1 (nzA hc0 (by decide)) | exact nz1 (nzE (by decide)) | exact nz1 (nzB hc0 (by decide)) | exact nz1 (nzC hc0 (by decide)) | exact nz1 (nzD hc0 (by decide)) | exact nz1 (nzF (by decide)) | exact nz1 (nzG (by decide)) | omega)).trans ((hg_M_2 1 i (by first | decide | (rcases hc0 with h | h <;> rw [h] <;> simp; done) | (rcases hb0 with h | h | h <;> rw [h] <;> simp; done) | (simp; done) | omega)).trans rfl)))))))); show ST (M_6 1); rw [e9]; exact hst), (by show (M_6 0 6).toInt = _; rw [if_pos (by omega), show M_6 0 6 = M_6 0 6 from rfl, eM_6, mset_eq]; exact nI0)⟩
        · have hok := h36.2.2 c82
          have hok1 := hok.1
          refine wp_lp2 (fun M92 y3_92 => (0 ≤ y3_92.toInt) ∧ (∀ a i, ¬ (a = 1) → M92 a i = M_6 a i) ∧ (∀ j : Nat, (j : Int) < y3_92.toInt → (M92 1 j).toInt = 0)) (fun M92 y3_92 => (40 - y3_92.toInt).toNat) (fun ag92 M92 y3_92 hI92 ih92 => ?_) FU M_6 (nI 0) ⟨(by have f0 := t_lit 0; omega), (fun _ _ _ => rfl), (fun j hj => absurd hj (by have := t_lit 0; omega))⟩ (fu_lt (by have f0 := t_lit 0; omega))
          obtain ⟨hi92, hf_M92, h92⟩ := hI92
          have i33 := congrArg Int32.toInt (hf_M92 0 33 (by first | decide | (rcases hc0 with h | h <;> rw [h] <;> simp; done) | (rcases hb0 with h | h | h <;> rw [h] <;> simp; done) | (simp; done) | omega))
          have j113 : (40 ≤ y3_92.toInt) → Wp (f_X10_notebook_L113 M92) (fun q => (∀ a i, ¬ ((a = 0 ∧ i = 6) ∨ (a = 0 ∧ i = 7) ∨ (a = 0 ∧ i = 8) ∨ (a = 0 ∧ i = 9) ∨ (a = 0 ∧ i = 10) ∨ (a = 0 ∧ i = 12) ∨ (a = 0 ∧ i = 14) ∨ (a = 0 ∧ i = 33) ∨ a = 1 ∨ a = 19 ∨ a = 20 ∨ a = 21 ∨ a = 22) → q.2 a i = M a i) ∧ (0 ≤ (q.2 0 6).toInt ∧ (q.2 0 6).toInt ≤ 260) ∧ (ST (q.2 1)) ∧ ((q.2 0 6).toInt = (if 1 ≤ v1.toInt ∧ v1.toInt ≤ 200 ∧ v1.toInt ≤ (M 0 6).toInt then 0 else (M 0 6).toInt))) := by
            intro h113
            unfold f_X10_notebook_L113
            refine wp_lp2 (fun M115 y3_115 => (∀ a i, ¬ (a = 1) → M115 a i = M92 a i) ∧ (0 ≤ y3_115.toInt) ∧ (ST (M115 1) ∧ ∀ j : Nat, j < 40 → y3_115.toInt ≤ (j : Int) → (M115 1 j).toInt = 0)) (fun M115 y3_115 => ((M115 0 33).toInt - y3_115.toInt).toNat) (fun ag115 M115 y3_115 hI115 ih115 => ?_) FU M92 (nI 0) ⟨(fun _ _ _ => rfl), (by decide), ⟨fun j hj ht => absurd ht (by rw [h92 j (by omega)]; decide), fun j hj _ => h92 j (by omega)⟩⟩ (fu_lt (by have f0 := congrArg Int32.toInt (hf_M92 0 33 (by first | decide | (rcases hc0 with h | h <;> rw [h] <;> simp; done) | (rcases hb0 with h | h | h <;> rw [h] <;> simp; done) | (simp; done) | omega)); have f1 := congrArg Int32.toInt ((congrFun (congrFun eM_6 0) 33).trans (mset_ne (by first | exact nz1 (by decide) | exact nz2 (by decide) | exact nz1 (nzA hc0 (by decide)) | exact nz1 (nzE (by decide)) | exact nz1 (nzB hc0 (by decide)) | exact nz1 (nzC hc0 (by decide)) | exact nz1 (nzD hc0 (by decide)) | exact nz1 (nzF (by decide)) | exact nz1 (nzG (by decide)) | omega))); have f2 := t_lit 0; omega))
            obtain ⟨hf_M115, h0, h115⟩ := hI115
            have k33 := congrArg Int32.toInt (hf_M115 0 33 (by first | decide | (rcases hc0 with h | h <;> rw [h] <;> simp; done) | (rcases hb0 with h | h | h <;> rw [h] <;> simp; done) | (simp; done) | omega))
            refine wp_ite (fun c120 => ?_) (fun c120 => ?_)
            · exact wp_some ⟨(fun a i q0 => ((hf_M115 a i (fun h9 => q0 (Or.inr (Or.inr (Or.inr (Or.inr (Or.inr (Or.inr (Or.inr (Or.inr (Or.inl h9))))))))))).trans ((hf_M92 a i (fun h9 => q0 (Or.inr (Or.inr (Or.inr (Or.inr (Or.inr (Or.inr (Or.inr (Or.inr (Or.inl h9))))))))))).trans ((congrFun (congrFun eM_6 a) i).trans ((mset_ne (fun h9 => q0 (Or.inl h9))).trans ((hf_M36 a i (fun z8 => q0 ((fun z9 => Or.elim z9 (fun h9 => Or.inr (Or.inl h9)) (fun z9 => Or.elim z9 (fun h9 => Or.inr (Or.inr (Or.inr (Or.inl h9)))) (fun z9 => Or.elim z9 (fun h9 => Or.inr (Or.inr (Or.inr (Or.inr (Or.inl h9))))) (fun z9 => Or.elim z9 (fun h9 => Or.inr (Or.inr (Or.inr (Or.inr (Or.inr (Or.inr (Or.inr (Or.inl h9)))))))) (fun z9 => Or.elim z9 (fun h9 => Or.inr (Or.inr (Or.inr (Or.inr (Or.inr (Or.inr (Or.inr (Or.inr (Or.inr (Or.inl h9)))))))))) (fun z9 => Or.elim z9 (fun h9 => Or.inr (Or.inr (Or.inr (Or.inr (Or.inr (Or.inr (Or.inr (Or.inr (Or.inr (Or.inr (Or.inl h9))))))))))) (fun z9 => Or.elim z9 (fun h9 => Or.inr (Or.inr (Or.inr (Or.inr (Or.inr (Or.inr (Or.inr (Or.inr (Or.inr (Or.inr (Or.inr (Or.inl h9)))))))))))) (fun h9 => Or.inr (Or.inr (Or.inr (Or.inr (Or.inr (Or.inr (Or.inr (Or.inr (Or.inr (Or.inr (Or.inr (Or.inr (h9)))))))))))))))))))) z8))).trans ((hg_M_5 a i (fun z8 => q0 ((fun z9 => Or.elim z9 (fun h9 => Or.inr (Or.inl h9)) (fun z9 => Or.elim z9 (fun h9 => Or.inr (Or.inr (Or.inr (Or.inl h9)))) (fun z9 => Or.elim z9 (fun h9 => Or.inr (Or.inr (Or.inr (Or.inr (Or.inl h9))))) (fun z9 => Or.elim z9 (fun h9 => Or.inr (Or.inr (Or.inr (Or.inr (Or.inr (Or.inr (Or.inr (Or.inl h9)))))))) (fun z9 => Or.elim z9 (fun h9 => Or.inr (Or.inr (Or.inr (Or.inr (Or.inr (Or.inr (Or.inr (Or.inr (Or.inr (Or.inl h9)))))))))) (fun z9 => Or.elim z9 (fun h9 => Or.inr (Or.inr (Or.inr (Or.inr (Or.inr (Or.inr (Or.inr (Or.inr (Or.inr (Or.inr (Or.inl h9))))))))))) (fun z9 => Or.elim z9 (fun h9 => Or.inr (Or.inr (Or.inr (Or.inr (Or.inr (Or.inr (Or.inr (Or.inr (Or.inr (Or.inr (Or.inr (Or.inl h9)))))))))))) (fun h9 => Or.inr (Or.inr (Or.inr (Or.inr (Or.inr (Or.inr (Or.inr (Or.inr (Or.inr (Or.inr (Or.inr (Or.inr (h9)))))))))))))))))))) z8))).trans ((congrFun (congrFun eM_3 a) i).trans ((mset_ne (fun h9 => q0 (Or.inr (Or.inr (Or.inr (Or.inr (Or.inr (Or.inr (Or.inr (Or.inl h9)))))))))).trans ((hg_M_2 a i (fun z8 => q0 ((fun z9 => Or.elim z9 (fun h9 => Or.inr (Or.inl h9)) (fun z9 => Or.elim z9 (fun h9 => Or.inr (Or.inr (Or.inl h9))) (fun z9 => Or.elim z9 (fun h9 => Or.inr (Or.inr (Or.inr (Or.inr (Or.inr (Or.inl h9)))))) (fun h9 => Or.inr (Or.inr (Or.inr (Or.inr (Or.inr (Or.inr (Or.inl h9)))))))))) z8))).trans rfl)))))))))), (by show 0 ≤ (M115 0 6).toInt ∧ (M115 0 6).toInt ≤ 260; have f0 := congrArg Int32.toInt (hf_M115 0 6 (by first | decide | (rcases hc0 with h | h <;> rw [h] <;> simp; done) | (rcases hb0 with h | h | h <;> rw [h] <;> simp; done) | (simp; done) | omega)); have f1 := congrArg Int32.toInt (hf_M92 0 6 (by first | decide | (rcases hc0 with h | h <;> rw [h] <;> simp; done) | (rcases hb0 with h | h | h <;> rw [h] <;> simp; done) | (simp; done) | omega)); have f2 := congrArg Int32.toInt ((congrFun (congrFun eM_6 0) 6).trans mset_eq); have f3 := t_lit 0; have f4 := congrArg Int32.toInt (hf_M115 0 33 (by first | decide | (rcases hc0 with h | h <;> rw [h] <;> simp; done) | (rcases hb0 with h | h | h <;> rw [h] <;> simp; done) | (simp; done) | omega)); have f5 := congrArg Int32.toInt (hf_M92 0 33 (by first | decide | (rcases hc0 with h | h <;> rw [h] <;> simp; done) | (rcases hb0 with h | h | h <;> rw [h] <;> simp; done) | (simp; done) | omega)); have f6 := congrArg Int32.toInt ((congrFun (congrFun eM_6 0) 33).trans (mset_ne (by first | exact nz1 (by decide) | exact nz2 (by decide) | exact nz1 (nzA hc0 (by decide)) | exact nz1 (nzE (by decide)) | exact nz1 (nzB hc0 (by decide)) | exact nz1 (nzC hc0 (by decide)) | exact nz1 (nzD hc0 (by decide)) | exact nz1 (nzF (by decide)) | exact nz1 (nzG (by decide)) | omega))); omega), h115.1, (by show (M115 0 6).toInt = _; rw [if_pos (by omega), show M115 0 6 = M_6 0 6 from ((hf_M115 0 6 (by first | decide | (rcases hc0 with h | h <;> rw [h] <;> simp; done) | (rcases hb0 with h | h | h <;> rw [h] <;> simp; done) | (simp; done) | omega)).trans ((hf_M92 0 6 (by first | decide | (rcases hc0 with h | h <;> rw [h] <;> simp; done) | (rcases hb0 with h | h | h <;> rw [h] <;> simp; done) | (simp; done) | omega)).trans rfl)), eM_6, mset_eq]; exact nI0)⟩
            · refine wp_gd (by have f0 := congrArg Int32.toInt (hf_M115 0 33 (by first | decide | (rcases hc0 with h | h <;> rw [h] <;> simp; done) | (rcases hb0 with h | h | h <;> rw [h] <;> simp; done) | (simp; done) | omega)); have f1 := congrArg Int32.toInt (hf_M92 0 33 (by first | decide | (rcases hc0 with h | h <;> rw [h] <;> simp; done) | (rcases hb0 with h | h | h <;> rw [h] <;> simp; done) | (simp; done) | omega)); have f2 := congrArg Int32.toInt ((congrFun (congrFun eM_6 0) 33).trans (mset_ne (by first | exact nz1 (by decide) | exact nz2 (by decide) | exact nz1 (nzA hc0 (by decide)) | exact nz1 (nzE (by decide)) | exact nz1 (nzB hc0 (by decide)) | exact nz1 (nzC hc0 (by decide)) | exact nz1 (nzD hc0 (by decide)) | exact nz1 (nzF (by decide)) | exact nz1 (nzG (by decide)) | omega))); omega) ?_
              refine wp_gd (by have f0 := congrArg Int32.toInt (hf_M115 0 33 (by first | decide | (rcases hc0 with h | h <;> rw [h] <;> simp; done) | (rcases hb0 with h | h | h <;> rw [h] <;> simp; done) | (simp; done) | omega)); have f1 := congrArg Int32.toInt (hf_M92 0 33 (by first | decide | (rcases hc0 with h | h <;> rw [h] <;> simp; done) | (rcases hb0 with h | h | h <;> rw [h] <;> simp; done) | (simp; done) | omega)); have f2 := congrArg Int32.toInt ((congrFun (congrFun eM_6 0) 33).trans (mset_ne (by first | exact nz1 (by decide) | exact nz2 (by decide) | exact nz1 (nzA hc0 (by decide)) | exact nz1 (nzE (by decide)) | exact nz1 (nzB hc0 (by decide)) | exact nz1 (nzC hc0 (by decide)) | exact nz1 (nzD hc0 (by decide)) | exact nz1 (nzF (by decide)) | exact nz1 (nzG (by decide)) | omega))); omega) ?_
              refine wp_gd (by have f0 := congrArg Int32.toInt (hf_M115 0 33 (by first | decide | (rcases hc0 with h | h <;> rw [h] <;> simp; done) | (rcases hb0 with h | h | h <;> rw [h] <;> simp; done) | (simp; done) | omega)); have f1 := congrArg Int32.toInt (hf_M92 0 33 (by first | decide | (rcases hc0 with h | h <;> rw [h] <;> simp; done) | (rcases hb0 with h | h | h <;> rw [h] <;> simp; done) | (simp; done) | omega)); have f2 := congrArg Int32.toInt ((congrFun (congrFun eM_6 0) 33).trans (mset_ne (by first | exact nz1 (by decide) | exact nz2 (by decide) | exact nz1 (nzA hc0 (by decide)) | exact nz1 (nzE (by decide)) | exact nz1 (nzB hc0 (by decide)) | exact nz1 (nzC hc0 (by decide)) | exact nz1 (nzD hc0 (by decide)) | exact nz1 (nzF (by decide)) | exact nz1 (nzG (by decide)) | omega))); omega) ?_
              refine wp_gd (by have f0 := congrArg Int32.toInt (hf_M115 0 33 (by first | decide | (rcases hc0 with h | h <;> rw [h] <;> simp; done) | (rcases hb0 with h | h | h <;> rw [h] <;> simp; done) | (simp; done) | omega)); have f1 := congrArg Int32.toInt (hf_M92 0 33 (by first | decide | (rcases hc0 with h | h <;> rw [h] <;> simp; done) | (rcases hb0 with h | h | h <;> rw [h] <;> simp; done) | (simp; done) | omega)); have f2 := congrArg Int32.toInt ((congrFun (congrFun eM_6 0) 33).trans (mset_ne (by first | exact nz1 (by decide) | exact nz2 (by decide) | exact nz1 (nzA hc0 (by decide)) | exact nz1 (nzE (by decide)) | exact nz1 (nzB hc0 (by decide)) | exact nz1 (nzC hc0 (by decide)) | exact nz1 (nzD hc0 (by decide)) | exact nz1 (nzF (by decide)) | exact nz1 (nzG (by decide)) | omega))); omega) ?_
              have fx := t_ixn y3_115 (by omega)
              have e20 : M115 20 (ix y3_115) = M36 20 (ix y3_115) := by rw [hf_M115 20 _ (by first | decide | (rcases hc0 with h | h <;> rw [h] <;> simp; done) | (rcases hb0 with h | h | h <;> rw [h] <;> simp; done) | (simp; done) | omega), hf_M92 20 _ (by first | decide | (rcases hc0 with h | h <;> rw [h] <;> simp; done) | (rcases hb0 with h | h | h <;> rw [h] <;> simp; done) | (simp; done) | omega), eM_6, mset_ne (by first | exact nz1 (by decide) | exact nz2 (by decide) | exact nz1 (nzA hc0 (by decide)) | exact nz1 (nzE (by decide)) | exact nz1 (nzB hc0 (by decide)) | exact nz1 (nzC hc0 (by decide)) | exact nz1 (nzD hc0 (by decide)) | exact nz1 (nzF (by decide)) | exact nz1 (nzG (by decide)) | omega)]
              have e21 : M115 21 (ix y3_115) = M36 21 (ix y3_115) := by rw [hf_M115 21 _ (by first | decide | (rcases hc0 with h | h <;> rw [h] <;> simp; done) | (rcases hb0 with h | h | h <;> rw [h] <;> simp; done) | (simp; done) | omega), hf_M92 21 _ (by first | decide | (rcases hc0 with h | h <;> rw [h] <;> simp; done) | (rcases hb0 with h | h | h <;> rw [h] <;> simp; done) | (simp; done) | omega), eM_6, mset_ne (by first | exact nz1 (by decide) | exact nz2 (by decide) | exact nz1 (nzA hc0 (by decide)) | exact nz1 (nzE (by decide)) | exact nz1 (nzB hc0 (by decide)) | exact nz1 (nzC hc0 (by decide)) | exact nz1 (nzD hc0 (by decide)) | exact nz1 (nzF (by decide)) | exact nz1 (nzG (by decide)) | omega)]
              have hlk := hok.2 (ix y3_115) (by omega)
              rw [← e20, ← e21] at hlk
              refine wp_bind2 (o_X10_laysStone M115 y3_115 (M115 19 (ix y3_115)) (M115 20 (ix y3_115)) (M115 21 (ix y3_115)) (M115 22 (ix y3_115)) (by have f0 := congrArg Int32.toInt (hf_M115 19 (ix y3_115) (by first | decide | (rcases hc0 with h | h <;> rw [h] <;> simp; done) | (rcases hb0 with h | h | h <;> rw [h] <;> simp; done) | (simp; done) | omega)); have f1 := congrArg Int32.toInt (hf_M92 19 (ix y3_115) (by first | decide | (rcases hc0 with h | h <;> rw [h] <;> simp; done) | (rcases hb0 with h | h | h <;> rw [h] <;> simp; done) | (simp; done) | omega)); have f2 := congrArg Int32.toInt ((congrFun (congrFun eM_6 19) (ix y3_115)).trans (mset_ne (by first | exact nz1 (by decide) | exact nz2 (by decide) | exact nz1 (nzA hc0 (by decide)) | exact nz1 (nzE (by decide)) | exact nz1 (nzB hc0 (by decide)) | exact nz1 (nzC hc0 (by decide)) | exact nz1 (nzD hc0 (by decide)) | exact nz1 (nzF (by decide)) | exact nz1 (nzG (by decide)) | omega))); have f3 := congrArg Int32.toInt (hf_M115 20 (ix y3_115) (by first | decide | (rcases hc0 with h | h <;> rw [h] <;> simp; done) | (rcases hb0 with h | h | h <;> rw [h] <;> simp; done) | (simp; done) | omega)); have f4 := congrArg Int32.toInt (hf_M92 20 (ix y3_115) (by first | decide | (rcases hc0 with h | h <;> rw [h] <;> simp; done) | (rcases hb0 with h | h | h <;> rw [h] <;> simp; done) | (simp; done) | omega)); have f5 := congrArg Int32.toInt ((congrFun (congrFun eM_6 20) (ix y3_115)).trans (mset_ne (by first | exact nz1 (by decide) | exact nz2 (by decide) | exact nz1 (nzA hc0 (by decide)) | exact nz1 (nzE (by decide)) | exact nz1 (nzB hc0 (by decide)) | exact nz1 (nzC hc0 (by decide)) | exact nz1 (nzD hc0 (by decide)) | exact nz1 (nzF (by decide)) | exact nz1 (nzG (by decide)) | omega))); have f6 := congrArg Int32.toInt (hf_M115 21 (ix y3_115) (by first | decide | (rcases hc0 with h | h <;> rw [h] <;> simp; done) | (rcases hb0 with h | h | h <;> rw [h] <;> simp; done) | (simp; done) | omega)); have f7 := congrArg Int32.toInt (hf_M92 21 (ix y3_115) (by first | decide | (rcases hc0 with h | h <;> rw [h] <;> simp; done) | (rcases hb0 with h | h | h <;> rw [h] <;> simp; done) | (simp; done) | omega)); have f8 := congrArg Int32.toInt ((congrFun (congrFun eM_6 21) (ix y3_115)).trans (mset_ne (by first | exact nz1 (by decide) | exact nz2 (by decide) | exact nz1 (nzA hc0 (by decide)) | exact nz1 (nzE (by decide)) | exact nz1 (nzB hc0 (by decide)) | exact nz1 (nzC hc0 (by decide)) | exact nz1 (nzD hc0 (by decide)) | exact nz1 (nzF (by decide)) | exact nz1 (nzG (by decide)) | omega))); have f9 := congrArg Int32.toInt (hf_M115 22 (ix y3_115) (by first | decide | (rcases hc0 with h | h <;> rw [h] <;> simp; done) | (rcases hb0 with h | h | h <;> rw [h] <;> simp; done) | (simp; done) | omega)); have f10 := congrArg Int32.toInt (hf_M92 22 (ix y3_115) (by first | decide | (rcases hc0 with h | h <;> rw [h] <;> simp; done) | (rcases hb0 with h | h | h <;> rw [h] <;> simp; done) | (simp; done) | omega)); have f11 := congrArg Int32.toInt ((congrFun (congrFun eM_6 22) (ix y3_115)).trans (mset_ne (by first | exact nz1 (by decide) | exact nz2 (by decide) | exact nz1 (nzA hc0 (by decide)) | exact nz1 (nzE (by decide)) | exact nz1 (nzB hc0 (by decide)) | exact nz1 (nzC hc0 (by decide)) | exact nz1 (nzD hc0 (by decide)) | exact nz1 (nzF (by decide)) | exact nz1 (nzG (by decide)) | omega))); have f12 := congrArg Int32.toInt (hf_M115 0 33 (by first | decide | (rcases hc0 with h | h <;> rw [h] <;> simp; done) | (rcases hb0 with h | h | h <;> rw [h] <;> simp; done) | (simp; done) | omega)); have f13 := congrArg Int32.toInt (hf_M92 0 33 (by first | decide | (rcases hc0 with h | h <;> rw [h] <;> simp; done) | (rcases hb0 with h | h | h <;> rw [h] <;> simp; done) | (simp; done) | omega)); have f14 := congrArg Int32.toInt ((congrFun (congrFun eM_6 0) 33).trans (mset_ne (by first | exact nz1 (by decide) | exact nz2 (by decide) | exact nz1 (nzA hc0 (by decide)) | exact nz1 (nzE (by decide)) | exact nz1 (nzB hc0 (by decide)) | exact nz1 (nzC hc0 (by decide)) | exact nz1 (nzD hc0 (by decide)) | exact nz1 (nzF (by decide)) | exact nz1 (nzG (by decide)) | omega))); omega)) (fun M_7 he149 hq149 => ?_)
              obtain ⟨hg_M_7, hl_149⟩ := hq149
              replace hl_149 : (M_7 1 (ix y3_115)).toInt = 1 ∧ M_7 1 (80 + ix y3_115) = (M115 20 (ix y3_115)) ∧ M_7 1 (120 + ix y3_115) = (M115 21 (ix y3_115)) ∧ ∀ j : Nat, ¬ j = ix y3_115 → ¬ j = 40 + ix y3_115 → ¬ j = 80 + ix y3_115 → ¬ j = 120 + ix y3_115 → ¬ j = 160 + ix y3_115 → M_7 1 j = M115 1 j := hl_149
              replace hg_M_7 : ∀ a i, ¬ (a = 1) → M_7 a i = M115 a i := hg_M_7
              exact ih115 M_7 (y3_115 + (nI 1)) ⟨(fun a i q0 => ((hg_M_7 a i (fun h9 => q0 (h9))).trans ((hf_M115 a i (fun h9 => q0 (h9))).trans rfl))), (by rw [t_inc y3_115 1 (by omega)]; omega), ⟨st_lay (i := ix y3_115) (by omega) h115.1 (by rw [hl_149.2.1]; omega) (by rw [hl_149.2.2.1]; omega) hl_149.2.2.2, fun j hj hy => by rw [t_inc y3_115 1 (by omega)] at hy; rw [hl_149.2.2.2 j (by omega) (by omega) (by omega) (by omega) (by omega)]; exact h115.2 j hj (by omega)⟩⟩ (by have z1 := t_inc y3_115 1 (by omega); have z2 := congrArg Int32.toInt (hg_M_7 0 33 (by first | decide | (rcases hc0 with h | h <;> rw [h] <;> simp; done) | (rcases hb0 with h | h | h <;> rw [h] <;> simp; done) | (simp; done) | omega)); omega)
          refine wp_ite (fun c95 => ?_) (fun c95 => ?_)
          · exact j113 (by omega)
          · refine wp_gd (by omega) ?_
            refine wp_bnd (fun M_8 eM_8 => ?_)
            exact ih92 M_8 (y3_92 + (nI 1)) ⟨(by have f0 := t_lit 1; have f1 := t_add y3_92 (nI 1); omega), (fun a i q0 => ((congrFun (congrFun eM_8 a) i).trans ((mset_ne (fun h9 => q0 ((h9).1))).trans ((hf_M92 a i (fun h9 => q0 (h9))).trans rfl)))), (set_ext (P := fun _ x => x.toInt = 0) eM_8 (by omega) (by omega) h92 nI0)⟩ (by have f0 := t_lit 1; have f1 := t_add y3_92 (nI 1); omega)
      refine wp_ite (fun c37 => ?_) (fun c37 => ?_)
      · exact j76
      · refine wp_ite (fun c48 => ?_) (fun c48 => ?_)
        · exact j76
        · refine wp_cb2 (o_X10_takesSign M36 (nI 59) (by have f0 := congrArg Int32.toInt (hf_M36 0 8 (by first | decide | (rcases hc0 with h | h <;> rw [h] <;> simp; done) | (rcases hb0 with h | h | h <;> rw [h] <;> simp; done) | (simp; done) | omega)); have f1 := congrArg Int32.toInt (hg_M_5 0 8 (by first | decide | (rcases hc0 with h | h <;> rw [h] <;> simp; done) | (rcases hb0 with h | h | h <;> rw [h] <;> simp; done) | (simp; done) | omega)); have f2 := congrArg Int32.toInt ((congrFun (congrFun eM_3 0) 8).trans (mset_ne (by first | exact nz1 (by decide) | exact nz2 (by decide) | exact nz1 (nzA hc0 (by decide)) | exact nz1 (nzE (by decide)) | exact nz1 (nzB hc0 (by decide)) | exact nz1 (nzC hc0 (by decide)) | exact nz1 (nzD hc0 (by decide)) | exact nz1 (nzF (by decide)) | exact nz1 (nzG (by decide)) | omega))); have f3 := t_lit 59; omega) (by have f0 := t_lit 59; omega)) (fun r_9 M_10 he54 hq54 => ?_)
          obtain ⟨hz_r_9, hg_M_10, hp_54⟩ := hq54
          replace hp_54 : (M36 0 7).toInt ≤ (M_10 0 7).toInt ∧ (M_10 0 7).toInt ≤ (M36 0 8).toInt ∧ (¬ r_9.toInt = 0 → (M36 0 7).toInt < (M_10 0 7).toInt) := hp_54
          have := t_lit 59
          replace hg_M_10 : ∀ a i, ¬ ((a = 0 ∧ i = 7) ∨ (a = 0 ∧ i = 9)) → M_10 a i = M36 a i := hg_M_10
          have c8 := congrArg Int32.toInt (hg_M_10 0 8 (by first | decide | (rcases hc0 with h | h <;> rw [h] <;> simp; done) | (rcases hb0 with h | h | h <;> rw [h] <;> simp; done) | (simp; done) | omega))
          refine wp_ite (fun c57 => ?_) (fun c57 => ?_)
          · exact ih36 M_10 (nI 0) ⟨(fun a i q0 => ((hg_M_10 a i (fun z8 => q0 ((fun z9 => Or.elim z9 (fun h9 => Or.inl h9) (fun h9 => Or.inr (Or.inl h9))) z8))).trans ((hf_M36 a i (fun z8 => q0 ((fun z9 => Or.elim z9 (fun h9 => Or.inl h9) (fun z9 => Or.elim z9 (fun h9 => Or.inr (Or.inl h9)) (fun z9 => Or.elim z9 (fun h9 => Or.inr (Or.inr (Or.inl h9))) (fun z9 => Or.elim z9 (fun h9 => Or.inr (Or.inr (Or.inr (Or.inl h9)))) (fun z9 => Or.elim z9 (fun h9 => Or.inr (Or.inr (Or.inr (Or.inr (Or.inl h9))))) (fun z9 => Or.elim z9 (fun h9 => Or.inr (Or.inr (Or.inr (Or.inr (Or.inr (Or.inl h9)))))) (fun z9 => Or.elim z9 (fun h9 => Or.inr (Or.inr (Or.inr (Or.inr (Or.inr (Or.inr (Or.inl h9))))))) (fun h9 => Or.inr (Or.inr (Or.inr (Or.inr (Or.inr (Or.inr (Or.inr (h9))))))))))))))) z8))).trans rfl))), ⟨by omega, by omega, fun h => absurd nI0 h⟩⟩ (mu_d0 c37)
          · refine wp_cb2 (o_X10_readsLine M_10 (by omega) (by have e3 := congrArg Int32.toInt (hg_M_10 0 33 (by first | decide | (rcases hc0 with h | h <;> rw [h] <;> simp; done) | (rcases hb0 with h | h | h <;> rw [h] <;> simp; done) | (simp; done) | omega)); have := (h36.2.2 c37).1; omega) (fun j hj => by rw [hg_M_10 20 j (by first | decide | (rcases hc0 with h | h <;> rw [h] <;> simp; done) | (rcases hb0 with h | h | h <;> rw [h] <;> simp; done) | (simp; done) | omega), hg_M_10 21 j (by first | decide | (rcases hc0 with h | h <;> rw [h] <;> simp; done) | (rcases hb0 with h | h | h <;> rw [h] <;> simp; done) | (simp; done) | omega)]; exact (h36.2.2 c37).2 j (by have e3 := congrArg Int32.toInt (hg_M_10 0 33 (by first | decide | (rcases hc0 with h | h <;> rw [h] <;> simp; done) | (rcases hb0 with h | h | h <;> rw [h] <;> simp; done) | (simp; done) | omega)); omega))) (fun r_11 M_12 he61 hq61 => ?_)
            obtain ⟨hz_r_11, hg_M_12, hp_61, hk_61⟩ := hq61
            replace hp_61 : (M_10 0 7).toInt ≤ (M_12 0 7).toInt ∧ (M_12 0 7).toInt ≤ (M_10 0 8).toInt ∧ (¬ r_11.toInt = 0 → (M_10 0 7).toInt < (M_12 0 7).toInt) := hp_61
            replace hk_61 : ¬ r_11.toInt = 0 → (M_12 0 33).toInt = (M_10 0 33).toInt + 1 ∧ (M_10 0 33).toInt < 40 ∧ (∀ j : Nat, (j : Int) < (M_12 0 33).toInt → 1 ≤ (M_12 20 j).toInt ∧ (M_12 20 j).toInt ≤ 20 ∧ 0 ≤ (M_12 21 j).toInt ∧ (M_12 21 j).toInt ≤ 9) := hk_61
            replace hg_M_12 : ∀ a i, ¬ ((a = 0 ∧ i = 7) ∨ (a = 0 ∧ i = 9) ∨ (a = 0 ∧ i = 10) ∨ (a = 0 ∧ i = 33) ∨ a = 19 ∨ a = 20 ∨ a = 21 ∨ a = 22) → M_12 a i = M_10 a i := hg_M_12
            have d8 := congrArg Int32.toInt (hg_M_12 0 8 (by first | decide | (rcases hc0 with h | h <;> rw [h] <;> simp; done) | (rcases hb0 with h | h | h <;> rw [h] <;> simp; done) | (simp; done) | omega))
            refine wp_ite (fun c64 => ?_) (fun c64 => ?_)
            · exact ih36 M_12 (nI 0) ⟨(fun a i q0 => ((hg_M_12 a i (fun z8 => q0 ((fun z9 => Or.elim z9 (fun h9 => Or.inl h9) (fun z9 => Or.elim z9 (fun h9 => Or.inr (Or.inl h9)) (fun z9 => Or.elim z9 (fun h9 => Or.inr (Or.inr (Or.inl h9))) (fun z9 => Or.elim z9 (fun h9 => Or.inr (Or.inr (Or.inr (Or.inl h9)))) (fun z9 => Or.elim z9 (fun h9 => Or.inr (Or.inr (Or.inr (Or.inr (Or.inl h9))))) (fun z9 => Or.elim z9 (fun h9 => Or.inr (Or.inr (Or.inr (Or.inr (Or.inr (Or.inl h9)))))) (fun z9 => Or.elim z9 (fun h9 => Or.inr (Or.inr (Or.inr (Or.inr (Or.inr (Or.inr (Or.inl h9))))))) (fun h9 => Or.inr (Or.inr (Or.inr (Or.inr (Or.inr (Or.inr (Or.inr (h9))))))))))))))) z8))).trans ((hg_M_10 a i (fun z8 => q0 ((fun z9 => Or.elim z9 (fun h9 => Or.inl h9) (fun h9 => Or.inr (Or.inl h9))) z8))).trans ((hf_M36 a i (fun z8 => q0 ((fun z9 => Or.elim z9 (fun h9 => Or.inl h9) (fun z9 => Or.elim z9 (fun h9 => Or.inr (Or.inl h9)) (fun z9 => Or.elim z9 (fun h9 => Or.inr (Or.inr (Or.inl h9))) (fun z9 => Or.elim z9 (fun h9 => Or.inr (Or.inr (Or.inr (Or.inl h9)))) (fun z9 => Or.elim z9 (fun h9 => Or.inr (Or.inr (Or.inr (Or.inr (Or.inl h9))))) (fun z9 => Or.elim z9 (fun h9 => Or.inr (Or.inr (Or.inr (Or.inr (Or.inr (Or.inl h9)))))) (fun z9 => Or.elim z9 (fun h9 => Or.inr (Or.inr (Or.inr (Or.inr (Or.inr (Or.inr (Or.inl h9))))))) (fun h9 => Or.inr (Or.inr (Or.inr (Or.inr (Or.inr (Or.inr (Or.inr (h9))))))))))))))) z8))).trans rfl)))), ⟨by omega, by omega, fun h => absurd nI0 h⟩⟩ (mu_d0 c37)
            · exact ih36 M_12 (nI 1) ⟨(fun a i q0 => ((hg_M_12 a i (fun z8 => q0 ((fun z9 => Or.elim z9 (fun h9 => Or.inl h9) (fun z9 => Or.elim z9 (fun h9 => Or.inr (Or.inl h9)) (fun z9 => Or.elim z9 (fun h9 => Or.inr (Or.inr (Or.inl h9))) (fun z9 => Or.elim z9 (fun h9 => Or.inr (Or.inr (Or.inr (Or.inl h9)))) (fun z9 => Or.elim z9 (fun h9 => Or.inr (Or.inr (Or.inr (Or.inr (Or.inl h9))))) (fun z9 => Or.elim z9 (fun h9 => Or.inr (Or.inr (Or.inr (Or.inr (Or.inr (Or.inl h9)))))) (fun z9 => Or.elim z9 (fun h9 => Or.inr (Or.inr (Or.inr (Or.inr (Or.inr (Or.inr (Or.inl h9))))))) (fun h9 => Or.inr (Or.inr (Or.inr (Or.inr (Or.inr (Or.inr (Or.inr (h9))))))))))))))) z8))).trans ((hg_M_10 a i (fun z8 => q0 ((fun z9 => Or.elim z9 (fun h9 => Or.inl h9) (fun h9 => Or.inr (Or.inl h9))) z8))).trans ((hf_M36 a i (fun z8 => q0 ((fun z9 => Or.elim z9 (fun h9 => Or.inl h9) (fun z9 => Or.elim z9 (fun h9 => Or.inr (Or.inl h9)) (fun z9 => Or.elim z9 (fun h9 => Or.inr (Or.inr (Or.inl h9))) (fun z9 => Or.elim z9 (fun h9 => Or.inr (Or.inr (Or.inr (Or.inl h9)))) (fun z9 => Or.elim z9 (fun h9 => Or.inr (Or.inr (Or.inr (Or.inr (Or.inl h9))))) (fun z9 => Or.elim z9 (fun h9 => Or.inr (Or.inr (Or.inr (Or.inr (Or.inr (Or.inl h9)))))) (fun z9 => Or.elim z9 (fun h9 => Or.inr (Or.inr (Or.inr (Or.inr (Or.inr (Or.inr (Or.inl h9))))))) (fun h9 => Or.inr (Or.inr (Or.inr (Or.inr (Or.inr (Or.inr (Or.inr (h9))))))))))))))) z8))).trans rfl)))), ⟨by omega, by omega, fun _ => ⟨by have e3 := congrArg Int32.toInt (hg_M_10 0 33 (by first | decide | (rcases hc0 with h | h <;> rw [h] <;> simp; done) | (rcases hb0 with h | h | h <;> rw [h] <;> simp; done) | (simp; done) | omega)); have := (hk_61 (by omega)).1; have := (hk_61 (by omega)).2.1; have := (h36.2.2 c37).1; omega, (hk_61 (by omega)).2.2⟩⟩⟩ (mu_d1 c37 (by omega))
    · exact wp_some ⟨(fun _ _ _ => rfl), (by show 0 ≤ (M 0 6).toInt ∧ (M 0 6).toInt ≤ 260; have f0 := (by decide : ((-1 : Int32)).toInt = -1); omega), (by have e9 : M 1 = M 1 := funext (fun i => rfl); show ST (M 1); rw [e9]; exact hst), (by show (M 0 6).toInt = _; rw [if_neg (by omega)])⟩
theorem o3_X10_letters (M : Mem) (v1 : Int32) (v2 : Int32) (ht : 0 ≤ (M 0 6).toInt ∧ (M 0 6).toInt ≤ 260) : Wp (f_X10_letters M v1 v2) (fun q => (∀ a i, ¬ ((a = 0 ∧ i = 6)) → q.2 a i = M a i) ∧ (0 ≤ (q.2 0 6).toInt ∧ (q.2 0 6).toInt ≤ 260) ∧ ((q.2 0 6).toInt = (if (0 ≤ v2.toInt ∧ v2.toInt ≤ 1) ∧ 1 ≤ v1.toInt ∧ v1.toInt ≤ 8 ∧ v1.toInt ≤ (M 0 6).toInt then 0 else (M 0 6).toInt))) := by
  refine wp_bind2 (o2_X10_in M v1 (nI 1) (nI 8)) (fun r_1 he4 hq4 => ?_)
  obtain ⟨hz_r_1, hr_4, hi_4⟩ := hq4
  replace hr_4 : ¬ r_1.toInt = 0 → (nI 1).toInt ≤ v1.toInt ∧ v1.toInt ≤ (nI 8).toInt := hr_4
  have := t_lit 1
  have := t_lit 8
  replace hi_4 : ¬ r_1.toInt = 0 ↔ (nI 1).toInt ≤ v1.toInt ∧ v1.toInt ≤ (nI 8).toInt := hi_4
  have := t_lit 1
  have := t_lit 8
  refine wp_ite (fun c7 => ?_) (fun c7 => ?_)
  · exact wp_some ⟨(fun _ _ _ => rfl), ht, (by show (M 0 6).toInt = _; rw [if_neg (by omega)])⟩
  · refine wp_bind2 (o2_X10_in M v2 (nI 0) (nI 1)) (fun r_2 he13 hq13 => ?_)
    obtain ⟨hz_r_2, hr_13, hi_13⟩ := hq13
    replace hr_13 : ¬ r_2.toInt = 0 → (nI 0).toInt ≤ v2.toInt ∧ v2.toInt ≤ (nI 1).toInt := hr_13
    have := t_lit 0
    have := t_lit 1
    replace hi_13 : ¬ r_2.toInt = 0 ↔ (nI 0).toInt ≤ v2.toInt ∧ v2.toInt ≤ (nI 1).toInt := hi_13
    have := t_lit 0
    have := t_lit 1
    refine wp_ite (fun c16 => ?_) (fun c16 => ?_)
    · exact wp_some ⟨(fun _ _ _ => rfl), ht, (by show (M 0 6).toInt = _; rw [if_neg (by omega)])⟩
    · refine wp_ite (fun c24 => ?_) (fun c24 => ?_)
      · refine wp_bnd (fun M_3 eM_3 => ?_)
        have ft1 := t_rng v1
        refine wp_lp1 (fun y3_36 => (0 ≤ y3_36.toInt)) (fun y3_36 => (v1.toInt - y3_36.toInt).toNat) (fun ag36 y3_36 hI36 ih36 => ?_) FU (nI 0) (by have f0 := t_lit 0; omega) (fu_lt (by have f0 := t_lit 0; omega))
        have hi36 := hI36
        have j58 : Wp (f_X10_letters_L58 v1 v2 M_3) (fun q => (∀ a i, ¬ ((a = 0 ∧ i = 6)) → q.2 a i = M a i) ∧ (0 ≤ (q.2 0 6).toInt ∧ (q.2 0 6).toInt ≤ 260) ∧ ((q.2 0 6).toInt = (if (0 ≤ v2.toInt ∧ v2.toInt ≤ 1) ∧ 1 ≤ v1.toInt ∧ v1.toInt ≤ 8 ∧ v1.toInt ≤ (M 0 6).toInt then 0 else (M 0 6).toInt))) := by
          unfold f_X10_letters_L58
          have hsh := shl8 (hr_4 (by omega)).1 (by have := t_lit 1; have := t_lit 8; omega)
          refine wp_lp3 (fun y3_68 y4_68 y5_68 => (1 ≤ y5_68.toInt ∧ y5_68.toInt ≤ 300)) (fun y3_68 y4_68 y5_68 => (300 - y5_68.toInt).toNat) (fun ag68 y3_68 y4_68 y5_68 hI68 ih68 => ?_) FU (nI 0) (nI 1000000) (nI 1) (by decide) (fu_lt (by have f0 := t_lit 1; have f1 := t_lit 0; have f2 := t_lit 1000000; omega))
          have hy := hI68
          have j157 : Wp (f_X10_letters_L157 v2 M_3 y3_68 y4_68) (fun q => (∀ a i, ¬ ((a = 0 ∧ i = 6)) → q.2 a i = M a i) ∧ (0 ≤ (q.2 0 6).toInt ∧ (q.2 0 6).toInt ≤ 260) ∧ ((q.2 0 6).toInt = (if (0 ≤ v2.toInt ∧ v2.toInt ≤ 1) ∧ 1 ≤ v1.toInt ∧ v1.toInt ≤ 8 ∧ v1.toInt ≤ (M 0 6).toInt then 0 else (M 0 6).toInt))) := by
            unfold f_X10_letters_L157
            refine wp_ite (fun c158 => ?_) (fun c158 => ?_)
            · exact wp_some ⟨(fun a i q0 => ((congrFun (congrFun eM_3 a) i).trans ((mset_ne (fun h9 => q0 (h9))).trans rfl))), (by show 0 ≤ (M_3 0 6).toInt ∧ (M_3 0 6).toInt ≤ 260; rw [eM_3, mset_eq]; decide), (by show (M_3 0 6).toInt = _; rw [if_pos (by omega), show M_3 0 6 = M_3 0 6 from rfl, eM_3, mset_eq]; exact nI0)⟩
            · exact wp_some ⟨(fun a i q0 => ((congrFun (congrFun eM_3 a) i).trans ((mset_ne (fun h9 => q0 (h9))).trans rfl))), (by show 0 ≤ (M_3 0 6).toInt ∧ (M_3 0 6).toInt ≤ 260; rw [eM_3, mset_eq]; decide), (by show (M_3 0 6).toInt = _; rw [if_pos (by omega), show M_3 0 6 = M_3 0 6 from rfl, eM_3, mset_eq]; exact nI0)⟩
          refine wp_ite (fun c73 => ?_) (fun c73 => ?_)
          · exact j157
          · refine wp_lp2 (fun y6_82 y7_82 => (0 ≤ y7_82.toInt)) (fun y6_82 y7_82 => (v1.toInt - y7_82.toInt).toNat) (fun ag82 y6_82 y7_82 hI82 ih82 => ?_) FU (nI 0) (nI 0) (by have f0 := t_lit 0; omega) (fu_lt (by have f0 := t_lit 0; omega))
            have hi82 := hI82
            have j125 : Wp (f_X10_letters_L125 ag68 y3_68 y4_68 y5_68 y6_82) (fun q => (∀ a i, ¬ ((a = 0 ∧ i = 6)) → q.2 a i = M a i) ∧ (0 ≤ (q.2 0 6).toInt ∧ (q.2 0 6).toInt ≤ 260) ∧ ((q.2 0 6).toInt = (if (0 ≤ v2.toInt ∧ v2.toInt ≤ 1) ∧ 1 ≤ v1.toInt ∧ v1.toInt ≤ 8 ∧ v1.toInt ≤ (M 0 6).toInt then 0 else (M 0 6).toInt))) := by
              unfold f_X10_letters_L125
              refine wp_bind2 (o_X10_size M_3 y6_82) (fun r_4 he127 hq127 => ?_)
              refine wp_ite (fun c132 => ?_) (fun c132 => ?_)
              · refine wp_bind2 (o_X10_size M_3 y6_82) (fun r_5 he140 hq140 => ?_)
                exact ih68 y5_68 r_5 (y5_68 + (nI 2)) (by have f0 := t_lit 2; have f1 := t_add y5_68 (nI 2); have f2 := t_lit 1; omega) (by have f0 := t_lit 2; have f1 := t_add y5_68 (nI 2); have f2 := t_lit 1; omega)
              · exact ih68 y3_68 y4_68 (y5_68 + (nI 2)) (by have f0 := t_lit 2; have f1 := t_add y5_68 (nI 2); have f2 := t_lit 1; omega) (by have f0 := t_lit 2; have f1 := t_add y5_68 (nI 2); have f2 := t_lit 1; omega)
            refine wp_ite (fun c85 => ?_) (fun c85 => ?_)
            · exact j125
            · refine wp_bind2 (o3_X10_has M_3 y5_68 y7_82) (fun r_6 he94 hq94 => ?_)
              obtain ⟨hz_r_6, hi_94⟩ := hq94
              replace hi_94 : ¬ r_6.toInt = 0 ↔ ((shr y5_68 y7_82) &&& (nI 1)).toInt = 1 := hi_94
              refine wp_ite (fun c97 => ?_) (fun c97 => ?_)
              · refine wp_bind2 (o_X10_octet M_3 y7_82 (by omega)) (fun r_7 he112 hq112 => ?_)
                refine wp_bnd (fun x_8 ex_8 => ?_)
                exact ih82 x_8 (y7_82 + (nI 1)) (by have f0 := t_lit 1; have f1 := t_add y7_82 (nI 1); omega) (by have f0 := t_lit 1; have f1 := t_add y7_82 (nI 1); omega)
              · refine wp_bind2 (o_X10_octet M_3 y7_82 (by omega)) (fun r_9 he103 hq103 => ?_)
                refine wp_bnd (fun x_10 ex_10 => ?_)
                exact ih82 x_10 (y7_82 + (nI 1)) (by have f0 := t_lit 1; have f1 := t_add y7_82 (nI 1); omega) (by have f0 := t_lit 1; have f1 := t_add y7_82 (nI 1); omega)
        refine wp_ite (fun c38 => ?_) (fun c38 => ?_)
        · exact j58
        · refine wp_bind2 (o_X10_octet M_3 y3_36 (by omega)) (fun r_11 he43 hq43 => ?_)
          refine wp_ite (fun c46 => ?_) (fun c46 => ?_)
          · exact wp_some ⟨(fun a i q0 => ((congrFun (congrFun eM_3 a) i).trans ((mset_ne (fun h9 => q0 (h9))).trans rfl))), (by show 0 ≤ (M_3 0 6).toInt ∧ (M_3 0 6).toInt ≤ 260; rw [eM_3, mset_eq]; decide), (by show (M_3 0 6).toInt = _; rw [if_pos (by omega), show M_3 0 6 = M_3 0 6 from rfl, eM_3, mset_eq]; exact nI0)⟩
          · exact ih36 (y3_36 + (nI 1)) (by have f0 := t_lit 1; have f1 := t_add y3_36 (nI 1); omega) (by have f0 := t_lit 1; have f1 := t_add y3_36 (nI 1); omega)
      · exact wp_some ⟨(fun _ _ _ => rfl), ht, (by show (M 0 6).toInt = _; rw [if_neg (by omega)])⟩
theorem o3_X10_check (M : Mem) (v1 : Int32) (ht : 0 ≤ (M 0 6).toInt ∧ (M 0 6).toInt ≤ 260) : Wp (f_X10_check M v1) (fun q => (∀ a i, ¬ ((a = 0 ∧ i = 6)) → q.2 a i = M a i) ∧ (0 ≤ (q.2 0 6).toInt ∧ (q.2 0 6).toInt ≤ 260) ∧ ((q.2 0 6).toInt = (if 0 ≤ v1.toInt ∧ v1.toInt ≤ 40 ∧ v1.toInt ≤ (M 0 6).toInt then 0 else (M 0 6).toInt))) := by
  refine wp_bind2 (o2_X10_in M v1 (nI 0) (nI 40)) (fun r_1 he4 hq4 => ?_)
  obtain ⟨hz_r_1, hr_4, hi_4⟩ := hq4
  replace hr_4 : ¬ r_1.toInt = 0 → (nI 0).toInt ≤ v1.toInt ∧ v1.toInt ≤ (nI 40).toInt := hr_4
  have := t_lit 0
  have := t_lit 40
  replace hi_4 : ¬ r_1.toInt = 0 ↔ (nI 0).toInt ≤ v1.toInt ∧ v1.toInt ≤ (nI 40).toInt := hi_4
  have := t_lit 0
  have := t_lit 40
  refine wp_ite (fun c7 => ?_) (fun c7 => ?_)
  · exact wp_some ⟨(fun _ _ _ => rfl), ht, (by show (M 0 6).toInt = _; rw [if_neg (by omega)])⟩
  · refine wp_ite (fun c15 => ?_) (fun c15 => ?_)
    · refine wp_bnd (fun M_2 eM_2 => ?_)
      have ft1 := t_rng v1
      refine wp_lp1 (fun y2_28 => (0 ≤ y2_28.toInt)) (fun y2_28 => (v1.toInt - y2_28.toInt).toNat) (fun ag28 y2_28 hI28 ih28 => ?_) FU (nI 0) (by have f0 := t_lit 0; omega) (fu_lt (by have f0 := t_lit 0; omega))
      have hi28 := hI28
      refine wp_ite (fun c30 => ?_) (fun c30 => ?_)
      · exact wp_some ⟨(fun a i q0 => ((congrFun (congrFun eM_2 a) i).trans ((mset_ne (fun h9 => q0 (h9))).trans rfl))), (by show 0 ≤ (M_2 0 6).toInt ∧ (M_2 0 6).toInt ≤ 260; rw [eM_2, mset_eq]; decide), (by show (M_2 0 6).toInt = _; rw [if_pos (by omega), show M_2 0 6 = M_2 0 6 from rfl, eM_2, mset_eq]; exact nI0)⟩
      · refine wp_bind2 (o_X10_octet M_2 y2_28 (by omega)) (fun r_3 he35 hq35 => ?_)
        refine wp_bind2 (o_X10_isStone M_2 y2_28) (fun r_4 he40 hq40 => ?_)
        obtain ⟨hz_r_4, hr_40⟩ := hq40
        replace hr_40 : ¬ r_4.toInt = 0 → (0 ≤ y2_28.toInt ∧ y2_28.toInt < 40) ∧ (M_2 1 (ix y2_28)).toInt = 1 := hr_40
        have j61 : ∀ (t0_61 : Int32), Wp (f_X10_check_L61 M_2 ag28 y2_28 r_3 t0_61) (fun q => (∀ a i, ¬ ((a = 0 ∧ i = 6)) → q.2 a i = M a i) ∧ (0 ≤ (q.2 0 6).toInt ∧ (q.2 0 6).toInt ≤ 260) ∧ ((q.2 0 6).toInt = (if 0 ≤ v1.toInt ∧ v1.toInt ≤ 40 ∧ v1.toInt ≤ (M 0 6).toInt then 0 else (M 0 6).toInt))) := by
          intro t0_61
          unfold f_X10_check_L61
          refine wp_ite (fun c61 => ?_) (fun c61 => ?_)
          · exact ih28 (y2_28 + (nI 1)) (by have f0 := t_lit 1; have f1 := t_add y2_28 (nI 1); omega) (by have f0 := t_lit 1; have f1 := t_add y2_28 (nI 1); omega)
          · exact wp_some ⟨(fun a i q0 => ((congrFun (congrFun eM_2 a) i).trans ((mset_ne (fun h9 => q0 (h9))).trans rfl))), (by show 0 ≤ (M_2 0 6).toInt ∧ (M_2 0 6).toInt ≤ 260; rw [eM_2, mset_eq]; decide), (by show (M_2 0 6).toInt = _; rw [if_pos (by omega), show M_2 0 6 = M_2 0 6 from rfl, eM_2, mset_eq]; exact nI0)⟩
        refine wp_ite (fun c43 => ?_) (fun c43 => ?_)
        · exact j61 (nI 255)
        · refine wp_gd (by have f0 := t_lit 40; have f1 := t_add (nI 40) y2_28; omega) ?_
          exact j61 (M_2 1 (ix ((nI 40) + y2_28)))
    · exact wp_some ⟨(fun _ _ _ => rfl), ht, (by show (M 0 6).toInt = _; rw [if_neg (by omega)])⟩
theorem o3_X10_chalk (M : Mem) (v1 : Int32) (v2 : Int32) (ht : 0 ≤ (M 0 6).toInt ∧ (M 0 6).toInt ≤ 260) : Wp (f_X10_chalk M v1 v2) (fun q => (∀ a i, ¬ ((a = 0 ∧ i = 6) ∨ a = 36 ∨ a = 37 ∨ a = 38) → q.2 a i = M a i) ∧ (0 ≤ (q.2 0 6).toInt ∧ (q.2 0 6).toInt ≤ 260) ∧ ((q.2 0 6).toInt = (if (1 ≤ v1.toInt ∧ v1.toInt ≤ 7) ∧ (v2.toInt = 100 ∨ (0 ≤ v2.toInt ∧ v2.toInt < v1.toInt)) ∧ 2 * v1.toInt ≤ (M 0 6).toInt then 0 else (M 0 6).toInt))) := by
  have tm : (1 ≤ v1.toInt ∧ v1.toInt ≤ 7) → ((nI 2) * v1).toInt = 2 * v1.toInt := fun z => t_mulL v1 2 (by omega) (by omega)
  refine wp_bind2 (o2_X10_in M v1 (nI 1) (nI 7)) (fun r_1 he4 hq4 => ?_)
  obtain ⟨hz_r_1, hr_4, hi_4⟩ := hq4
  replace hr_4 : ¬ r_1.toInt = 0 → (nI 1).toInt ≤ v1.toInt ∧ v1.toInt ≤ (nI 7).toInt := hr_4
  have := t_lit 1
  have := t_lit 7
  replace hi_4 : ¬ r_1.toInt = 0 ↔ (nI 1).toInt ≤ v1.toInt ∧ v1.toInt ≤ (nI 7).toInt := hi_4
  have := t_lit 1
  have := t_lit 7
  have ft7 := t_lit 7
  have ft1 := t_lit 1
  refine wp_ite (fun c7 => ?_) (fun c7 => ?_)
  · exact wp_some ⟨(fun _ _ _ => rfl), (by show 0 ≤ (M 0 6).toInt ∧ (M 0 6).toInt ≤ 260; have f0 := (by decide : ((-1 : Int32)).toInt = -1); omega), (by show (M 0 6).toInt = _; rw [if_neg (by omega)])⟩
  · have j27 : (v2.toInt = 100 ∨ (0 ≤ v2.toInt ∧ v2.toInt < v1.toInt)) → Wp (f_X10_chalk_L27 M v1 v2) (fun q => (∀ a i, ¬ ((a = 0 ∧ i = 6) ∨ a = 36 ∨ a = 37 ∨ a = 38) → q.2 a i = M a i) ∧ (0 ≤ (q.2 0 6).toInt ∧ (q.2 0 6).toInt ≤ 260) ∧ ((q.2 0 6).toInt = (if (1 ≤ v1.toInt ∧ v1.toInt ≤ 7) ∧ (v2.toInt = 100 ∨ (0 ≤ v2.toInt ∧ v2.toInt < v1.toInt)) ∧ 2 * v1.toInt ≤ (M 0 6).toInt then 0 else (M 0 6).toInt))) := by
      intro h27
      unfold f_X10_chalk_L27
      refine wp_ite (fun c34 => ?_) (fun c34 => ?_)
      · refine wp_bnd (fun M_2 eM_2 => ?_)
        refine wp_cb2 (o_X10_listsStones M_2 v1 (nI 0) (by have f0 := t_lit 0; have f1 := t_lit 2; have f2 := (t_mulL v1 2 (by omega) (by omega)); omega)) (fun r_3 M_4 he47 hq47 => ?_)
        obtain ⟨hz_r_3, hg_M_4, hw_47⟩ := hq47
        replace hw_47 : ¬ r_3.toInt = 0 → ∀ j : Nat, (j : Int) < v1.toInt → 0 ≤ (M_4 36 j).toInt ∧ (M_4 36 j).toInt < 40 := hw_47
        have := t_lit 0
        replace hg_M_4 : ∀ a i, ¬ (a = 36) → M_4 a i = M_2 a i := hg_M_4
        refine wp_ite (fun c50 => ?_) (fun c50 => ?_)
        · exact wp_some ⟨(fun a i q0 => ((hg_M_4 a i (fun h9 => q0 (Or.inr (Or.inl h9)))).trans ((congrFun (congrFun eM_2 a) i).trans ((mset_ne (fun h9 => q0 (Or.inl h9))).trans rfl)))), (by show 0 ≤ (M_4 0 6).toInt ∧ (M_4 0 6).toInt ≤ 260; have f0 := congrArg Int32.toInt (hg_M_4 0 6 (by first | decide | (rcases hc0 with h | h <;> rw [h] <;> simp; done) | (rcases hb0 with h | h | h <;> rw [h] <;> simp; done) | (simp; done) | omega)); have f1 := congrArg Int32.toInt ((congrFun (congrFun eM_2 0) 6).trans mset_eq); have f2 := t_lit 0; have f3 := (by decide : ((-2 : Int32)).toInt = -2); omega), (by show (M_4 0 6).toInt = _; rw [if_pos (by omega), show M_4 0 6 = M_2 0 6 from ((hg_M_4 0 6 (by first | decide | (rcases hc0 with h | h <;> rw [h] <;> simp; done) | (rcases hb0 with h | h | h <;> rw [h] <;> simp; done) | (simp; done) | omega)).trans rfl), eM_2, mset_eq]; exact nI0)⟩
        · have ft1 := t_rng v1
          refine wp_lp1 (fun y3_58 => (0 ≤ y3_58.toInt)) (fun y3_58 => (v1.toInt - y3_58.toInt).toNat) (fun ag58 y3_58 hI58 ih58 => ?_) FU (nI 0) (by have f0 := t_lit 0; omega) (fu_lt (by have f0 := t_lit 0; omega))
          have hi58 := hI58
          have j98 : Wp (f_X10_chalk_L98 v1 v2 M_4) (fun q => (∀ a i, ¬ ((a = 0 ∧ i = 6) ∨ a = 36 ∨ a = 37 ∨ a = 38) → q.2 a i = M a i) ∧ (0 ≤ (q.2 0 6).toInt ∧ (q.2 0 6).toInt ≤ 260) ∧ ((q.2 0 6).toInt = (if (1 ≤ v1.toInt ∧ v1.toInt ≤ 7) ∧ (v2.toInt = 100 ∨ (0 ≤ v2.toInt ∧ v2.toInt < v1.toInt)) ∧ 2 * v1.toInt ≤ (M 0 6).toInt then 0 else (M 0 6).toInt))) := by
            unfold f_X10_chalk_L98
            refine wp_bind2 (o_X10_beginsRows M_4 v1 (by have f0 := t_lit 2; have f1 := (t_mulL v1 2 (by omega) (by omega)); omega)) (fun M_5 he100 hq100 => ?_)
            obtain ⟨hg_M_5, hb_100⟩ := hq100
            replace hb_100 : ∀ j : Nat, (j : Int) < v1.toInt → M_5 37 j = nI j := hb_100
            replace hg_M_5 : ∀ a i, ¬ (a = 37) → M_5 a i = M_4 a i := hg_M_5
            have hrow0 : PermN (M_5 37) v1.toInt.toNat := perm_id (by omega) (fun j hj => hb_100 j (by omega))
            refine wp_lp3 (fun M110 y3_110 y4_110 => (∀ a i, ¬ (a = 37 ∨ a = 38) → M110 a i = M_5 a i) ∧ (PermN (M110 37) v1.toInt.toNat ∧ ∀ j : Nat, (j : Int) < v1.toInt → 0 ≤ (M110 36 j).toInt ∧ (M110 36 j).toInt < 40) ∧ ((M110 0 6).toInt = 0)) (fun M110 y3_110 y4_110 => (if y4_110.toInt = 0 then 0 else 900000 - rowNum (M110 37) v1.toInt.toNat)) (fun ag110 M110 y3_110 y4_110 hI110 ih110 => ?_) FU M_5 (nI 1000000) (nI 1) ⟨(fun _ _ _ => rfl), ⟨hrow0, fun j hj => by rw [hg_M_5 36 j (by first | decide | (rcases hc0 with h | h <;> rw [h] <;> simp; done) | (rcases hb0 with h | h | h <;> rw [h] <;> simp; done) | (simp; done) | omega)]; exact hw_47 (by omega) j hj⟩, (by have f0 := congrArg Int32.toInt (hg_M_5 0 6 (by first | decide | (rcases hc0 with h | h <;> rw [h] <;> simp; done) | (rcases hb0 with h | h | h <;> rw [h] <;> simp; done) | (simp; done) | omega)); have f1 := congrArg Int32.toInt (hg_M_4 0 6 (by first | decide | (rcases hc0 with h | h <;> rw [h] <;> simp; done) | (rcases hb0 with h | h | h <;> rw [h] <;> simp; done) | (simp; done) | omega)); have f2 := congrArg Int32.toInt ((congrFun (congrFun eM_2 0) 6).trans mset_eq); have f3 := t_lit 0; have f4 := t_lit 1000000; have f5 := t_lit 1; omega)⟩ (fu_lt (mu_fu))
            obtain ⟨hf_M110, hrow, ht110⟩ := hI110
            have j176 : Wp (f_X10_chalk_L176 v2 M110 y3_110) (fun q => (∀ a i, ¬ ((a = 0 ∧ i = 6) ∨ a = 36 ∨ a = 37 ∨ a = 38) → q.2 a i = M a i) ∧ (0 ≤ (q.2 0 6).toInt ∧ (q.2 0 6).toInt ≤ 260) ∧ ((q.2 0 6).toInt = (if (1 ≤ v1.toInt ∧ v1.toInt ≤ 7) ∧ (v2.toInt = 100 ∨ (0 ≤ v2.toInt ∧ v2.toInt < v1.toInt)) ∧ 2 * v1.toInt ≤ (M 0 6).toInt then 0 else (M 0 6).toInt))) := by
              unfold f_X10_chalk_L176
              refine wp_ite (fun c179 => ?_) (fun c179 => ?_)
              · exact wp_some ⟨(fun a i q0 => ((hf_M110 a i (fun z8 => q0 ((fun z9 => Or.elim z9 (fun h9 => Or.inr (Or.inr (Or.inl h9))) (fun h9 => Or.inr (Or.inr (Or.inr (h9))))) z8))).trans ((hg_M_5 a i (fun h9 => q0 (Or.inr (Or.inr (Or.inl h9))))).trans ((hg_M_4 a i (fun h9 => q0 (Or.inr (Or.inl h9)))).trans ((congrFun (congrFun eM_2 a) i).trans ((mset_ne (fun h9 => q0 (Or.inl h9))).trans rfl)))))), (by show 0 ≤ (M110 0 6).toInt ∧ (M110 0 6).toInt ≤ 260; have f0 := congrArg Int32.toInt (hf_M110 0 6 (by first | decide | (rcases hc0 with h | h <;> rw [h] <;> simp; done) | (rcases hb0 with h | h | h <;> rw [h] <;> simp; done) | (simp; done) | omega)); have f1 := congrArg Int32.toInt (hg_M_5 0 6 (by first | decide | (rcases hc0 with h | h <;> rw [h] <;> simp; done) | (rcases hb0 with h | h | h <;> rw [h] <;> simp; done) | (simp; done) | omega)); have f2 := congrArg Int32.toInt (hg_M_4 0 6 (by first | decide | (rcases hc0 with h | h <;> rw [h] <;> simp; done) | (rcases hb0 with h | h | h <;> rw [h] <;> simp; done) | (simp; done) | omega)); have f3 := congrArg Int32.toInt ((congrFun (congrFun eM_2 0) 6).trans mset_eq); have f4 := t_lit 0; omega), (by show (M110 0 6).toInt = _; rw [if_pos (by omega), show M110 0 6 = M_2 0 6 from ((hf_M110 0 6 (by first | decide | (rcases hc0 with h | h <;> rw [h] <;> simp; done) | (rcases hb0 with h | h | h <;> rw [h] <;> simp; done) | (simp; done) | omega)).trans ((hg_M_5 0 6 (by first | decide | (rcases hc0 with h | h <;> rw [h] <;> simp; done) | (rcases hb0 with h | h | h <;> rw [h] <;> simp; done) | (simp; done) | omega)).trans ((hg_M_4 0 6 (by first | decide | (rcases hc0 with h | h <;> rw [h] <;> simp; done) | (rcases hb0 with h | h | h <;> rw [h] <;> simp; done) | (simp; done) | omega)).trans rfl))), eM_2, mset_eq]; exact nI0)⟩
              · refine wp_gd (by omega) ?_
                exact wp_some ⟨(fun a i q0 => ((hf_M110 a i (fun z8 => q0 ((fun z9 => Or.elim z9 (fun h9 => Or.inr (Or.inr (Or.inl h9))) (fun h9 => Or.inr (Or.inr (Or.inr (h9))))) z8))).trans ((hg_M_5 a i (fun h9 => q0 (Or.inr (Or.inr (Or.inl h9))))).trans ((hg_M_4 a i (fun h9 => q0 (Or.inr (Or.inl h9)))).trans ((congrFun (congrFun eM_2 a) i).trans ((mset_ne (fun h9 => q0 (Or.inl h9))).trans rfl)))))), (by show 0 ≤ (M110 0 6).toInt ∧ (M110 0 6).toInt ≤ 260; have f0 := congrArg Int32.toInt (hf_M110 0 6 (by first | decide | (rcases hc0 with h | h <;> rw [h] <;> simp; done) | (rcases hb0 with h | h | h <;> rw [h] <;> simp; done) | (simp; done) | omega)); have f1 := congrArg Int32.toInt (hg_M_5 0 6 (by first | decide | (rcases hc0 with h | h <;> rw [h] <;> simp; done) | (rcases hb0 with h | h | h <;> rw [h] <;> simp; done) | (simp; done) | omega)); have f2 := congrArg Int32.toInt (hg_M_4 0 6 (by first | decide | (rcases hc0 with h | h <;> rw [h] <;> simp; done) | (rcases hb0 with h | h | h <;> rw [h] <;> simp; done) | (simp; done) | omega)); have f3 := congrArg Int32.toInt ((congrFun (congrFun eM_2 0) 6).trans mset_eq); have f4 := t_lit 0; omega), (by show (M110 0 6).toInt = _; rw [if_pos (by omega), show M110 0 6 = M_2 0 6 from ((hf_M110 0 6 (by first | decide | (rcases hc0 with h | h <;> rw [h] <;> simp; done) | (rcases hb0 with h | h | h <;> rw [h] <;> simp; done) | (simp; done) | omega)).trans ((hg_M_5 0 6 (by first | decide | (rcases hc0 with h | h <;> rw [h] <;> simp; done) | (rcases hb0 with h | h | h <;> rw [h] <;> simp; done) | (simp; done) | omega)).trans ((hg_M_4 0 6 (by first | decide | (rcases hc0 with h | h <;> rw [h] <;> simp; done) | (rcases hb0 with h | h | h <;> rw [h] <;> simp; done) | (simp; done) | omega)).trans rfl))), eM_2, mset_eq]; exact nI0)⟩
            refine wp_ite (fun c112 => ?_) (fun c112 => ?_)
            · exact j176
            · refine wp_bind2 (o_X10_chalkOff M110 v1 (by omega) hrow.1 hrow.2) (fun r_6 he117 hq117 => ?_)
              have j165 : ∀ (N165 : Mem), ∀ (z3_165 : Int32), (∀ a i, ¬ (a = 38) → N165 a i = M110 a i) → Wp (f_X10_chalk_L165 v1 ag110 N165 z3_165) (fun q => (∀ a i, ¬ ((a = 0 ∧ i = 6) ∨ a = 36 ∨ a = 37 ∨ a = 38) → q.2 a i = M a i) ∧ (0 ≤ (q.2 0 6).toInt ∧ (q.2 0 6).toInt ≤ 260) ∧ ((q.2 0 6).toInt = (if (1 ≤ v1.toInt ∧ v1.toInt ≤ 7) ∧ (v2.toInt = 100 ∨ (0 ≤ v2.toInt ∧ v2.toInt < v1.toInt)) ∧ 2 * v1.toInt ≤ (M 0 6).toInt then 0 else (M 0 6).toInt))) := by
                intro N165 z3_165 hf_N165
                unfold f_X10_chalk_L165
                have e37 : N165 37 = M110 37 := funext (fun i => hf_N165 37 i (by first | decide | (rcases hc0 with h | h <;> rw [h] <;> simp; done) | (rcases hb0 with h | h | h <;> rw [h] <;> simp; done) | (simp; done) | omega))
                have e36 : N165 36 = M110 36 := funext (fun i => hf_N165 36 i (by first | decide | (rcases hc0 with h | h <;> rw [h] <;> simp; done) | (rcases hb0 with h | h | h <;> rw [h] <;> simp; done) | (simp; done) | omega))
                refine wp_cb2 (o_X10_nextRow N165 v1 (nI 0) (by omega) (by decide) (by rw [e37]; exact hrow.1)) (fun r_7 M_8 he168 hq168 => ?_)
                obtain ⟨hz_r_7, hg_M_8, hr_168, hl_168⟩ := hq168
                replace hr_168 : PermN (M_8 37) v1.toInt.toNat := hr_168
                have := t_lit 0
                replace hl_168 : ¬ r_7.toInt = 0 → rowNum (N165 37) v1.toInt.toNat < rowNum (M_8 37) v1.toInt.toNat := hl_168
                have := t_lit 0
                replace hg_M_8 : ∀ a i, ¬ (a = 37) → M_8 a i = N165 a i := hg_M_8
                exact ih110 M_8 z3_165 r_7 ⟨(fun a i q0 => ((hg_M_8 a i (fun h9 => q0 (Or.inl h9))).trans ((hf_N165 a i (fun h9 => q0 (Or.inr (h9)))).trans ((hf_M110 a i (fun z8 => q0 ((fun z9 => Or.elim z9 (fun h9 => Or.inl h9) (fun h9 => Or.inr (h9))) z8))).trans rfl)))), ⟨hr_168, fun j hj => by rw [hg_M_8 36 j (by first | decide | (rcases hc0 with h | h <;> rw [h] <;> simp; done) | (rcases hb0 with h | h | h <;> rw [h] <;> simp; done) | (simp; done) | omega), e36]; exact hrow.2 j hj⟩, (by have f0 := congrArg Int32.toInt (hg_M_8 0 6 (by first | decide | (rcases hc0 with h | h <;> rw [h] <;> simp; done) | (rcases hb0 with h | h | h <;> rw [h] <;> simp; done) | (simp; done) | omega)); have f1 := congrArg Int32.toInt (hf_N165 0 6 (by first | decide | (rcases hc0 with h | h <;> rw [h] <;> simp; done) | (rcases hb0 with h | h | h <;> rw [h] <;> simp; done) | (simp; done) | omega)); have f2 := congrArg Int32.toInt (hf_M110 0 6 (by first | decide | (rcases hc0 with h | h <;> rw [h] <;> simp; done) | (rcases hb0 with h | h | h <;> rw [h] <;> simp; done) | (simp; done) | omega)); have f3 := congrArg Int32.toInt (hg_M_5 0 6 (by first | decide | (rcases hc0 with h | h <;> rw [h] <;> simp; done) | (rcases hb0 with h | h | h <;> rw [h] <;> simp; done) | (simp; done) | omega)); have f4 := congrArg Int32.toInt (hg_M_4 0 6 (by first | decide | (rcases hc0 with h | h <;> rw [h] <;> simp; done) | (rcases hb0 with h | h | h <;> rw [h] <;> simp; done) | (simp; done) | omega)); have f5 := congrArg Int32.toInt ((congrFun (congrFun eM_2 0) 6).trans mset_eq); have f6 := t_lit 0; omega)⟩ (row_mu (by omega) hrow.1 hr_168 c112 (fun z => by have := hl_168 z; rwa [e37] at this))
              refine wp_ite (fun c125 => ?_) (fun c125 => ?_)
              · exact j165 M110 y3_110 (fun _ _ _ => rfl)
              · refine wp_lp2 (fun M134 y6_134 => (0 ≤ y6_134.toInt) ∧ (∀ a i, ¬ (a = 38) → M134 a i = M110 a i)) (fun M134 y6_134 => (v1.toInt - y6_134.toInt).toNat) (fun ag134 M134 y6_134 hI134 ih134 => ?_) FU M110 (nI 0) ⟨(by have f0 := t_lit 0; omega), (fun _ _ _ => rfl)⟩ (fu_lt (by have f0 := t_lit 0; omega))
                obtain ⟨hi134, hf_M134⟩ := hI134
                refine wp_ite (fun c137 => ?_) (fun c137 => ?_)
                · exact j165 M134 r_6 (fun a i q0 => ((hf_M134 a i (fun h9 => q0 (h9))).trans rfl))
                · refine wp_gd (by omega) ?_
                  have fx := t_ixn y6_134 (by omega)
                  have e37b := congrArg Int32.toInt (hf_M134 37 (ix y6_134) (by first | decide | (rcases hc0 with h | h <;> rw [h] <;> simp; done) | (rcases hb0 with h | h | h <;> rw [h] <;> simp; done) | (simp; done) | omega))
                  have hr9 := hrow.1.1 (ix y6_134) (by omega)
                  refine wp_gd (by have f0 := congrArg Int32.toInt (hf_M134 37 (ix y6_134) (by first | decide | (rcases hc0 with h | h <;> rw [h] <;> simp; done) | (rcases hb0 with h | h | h <;> rw [h] <;> simp; done) | (simp; done) | omega)); omega) ?_
                  refine wp_gd (by omega) ?_
                  refine wp_bnd (fun M_9 eM_9 => ?_)
                  exact ih134 M_9 (y6_134 + (nI 1)) ⟨(by have f0 := t_lit 1; have f1 := t_add y6_134 (nI 1); omega), (fun a i q0 => ((congrFun (congrFun eM_9 a) i).trans ((mset_ne (fun h9 => q0 ((h9).1))).trans ((hf_M134 a i (fun h9 => q0 (h9))).trans rfl))))⟩ (by have f0 := t_lit 1; have f1 := t_add y6_134 (nI 1); omega)
          refine wp_ite (fun c60 => ?_) (fun c60 => ?_)
          · exact j98
          · refine wp_bind2 (o_X10_octet M_4 ((nI 2) * y3_58) (by have f0 := t_lit 2; have f1 := (t_mulL y3_58 2 (by omega) (by omega)); omega)) (fun r_10 he67 hq67 => ?_)
            refine wp_ite (fun c72 => ?_) (fun c72 => ?_)
            · exact wp_some ⟨(fun a i q0 => ((hg_M_4 a i (fun h9 => q0 (Or.inr (Or.inl h9)))).trans ((congrFun (congrFun eM_2 a) i).trans ((mset_ne (fun h9 => q0 (Or.inl h9))).trans rfl)))), (by show 0 ≤ (M_4 0 6).toInt ∧ (M_4 0 6).toInt ≤ 260; have f0 := congrArg Int32.toInt (hg_M_4 0 6 (by first | decide | (rcases hc0 with h | h <;> rw [h] <;> simp; done) | (rcases hb0 with h | h | h <;> rw [h] <;> simp; done) | (simp; done) | omega)); have f1 := congrArg Int32.toInt ((congrFun (congrFun eM_2 0) 6).trans mset_eq); have f2 := t_lit 0; have f3 := (by decide : ((-3 : Int32)).toInt = -3); omega), (by show (M_4 0 6).toInt = _; rw [if_pos (by omega), show M_4 0 6 = M_2 0 6 from ((hg_M_4 0 6 (by first | decide | (rcases hc0 with h | h <;> rw [h] <;> simp; done) | (rcases hb0 with h | h | h <;> rw [h] <;> simp; done) | (simp; done) | omega)).trans rfl), eM_2, mset_eq]; exact nI0)⟩
            · refine wp_bind2 (o_X10_octet M_4 (((nI 2) * y3_58) + (nI 1)) (by have f0 := t_lit 2; have f1 := (t_mulL y3_58 2 (by omega) (by omega)); have f2 := t_lit 1; have f3 := t_add ((nI 2) * y3_58) (nI 1); omega)) (fun r_11 he81 hq81 => ?_)
              refine wp_ite (fun c86 => ?_) (fun c86 => ?_)
              · exact ih58 (y3_58 + (nI 1)) (by have f0 := t_lit 1; have f1 := t_add y3_58 (nI 1); omega) (by have f0 := t_lit 1; have f1 := t_add y3_58 (nI 1); omega)
              · exact wp_some ⟨(fun a i q0 => ((hg_M_4 a i (fun h9 => q0 (Or.inr (Or.inl h9)))).trans ((congrFun (congrFun eM_2 a) i).trans ((mset_ne (fun h9 => q0 (Or.inl h9))).trans rfl)))), (by show 0 ≤ (M_4 0 6).toInt ∧ (M_4 0 6).toInt ≤ 260; have f0 := congrArg Int32.toInt (hg_M_4 0 6 (by first | decide | (rcases hc0 with h | h <;> rw [h] <;> simp; done) | (rcases hb0 with h | h | h <;> rw [h] <;> simp; done) | (simp; done) | omega)); have f1 := congrArg Int32.toInt ((congrFun (congrFun eM_2 0) 6).trans mset_eq); have f2 := t_lit 0; have f3 := (by decide : ((-3 : Int32)).toInt = -3); omega), (by show (M_4 0 6).toInt = _; rw [if_pos (by omega), show M_4 0 6 = M_2 0 6 from ((hg_M_4 0 6 (by first | decide | (rcases hc0 with h | h <;> rw [h] <;> simp; done) | (rcases hb0 with h | h | h <;> rw [h] <;> simp; done) | (simp; done) | omega)).trans rfl), eM_2, mset_eq]; exact nI0)⟩
      · exact wp_some ⟨(fun _ _ _ => rfl), (by show 0 ≤ (M 0 6).toInt ∧ (M 0 6).toInt ≤ 260; have f0 := (by decide : ((-1 : Int32)).toInt = -1); have f1 := t_lit 2; have f2 := (t_mulL v1 2 (by omega) (by omega)); omega), (by show (M 0 6).toInt = _; rw [if_neg (by omega)])⟩
    refine wp_ite (fun c13 => ?_) (fun c13 => ?_)
    · exact j27 (by omega)
    · refine wp_bind2 (o2_X10_in M v2 (nI 0) (v1 - (nI 1))) (fun r_12 he21 hq21 => ?_)
      obtain ⟨hz_r_12, hr_21, hi_21⟩ := hq21
      replace hr_21 : ¬ r_12.toInt = 0 → (nI 0).toInt ≤ v2.toInt ∧ v2.toInt ≤ (v1 - (nI 1)).toInt := hr_21
      have := t_lit 0
      replace hi_21 : ¬ r_12.toInt = 0 ↔ (nI 0).toInt ≤ v2.toInt ∧ v2.toInt ≤ (v1 - (nI 1)).toInt := hi_21
      have := t_lit 0
      have ft21 := t_sub v1 (nI 1)
      have ft20 := t_lit 0
      refine wp_ite (fun c24 => ?_) (fun c24 => ?_)
      · exact wp_some ⟨(fun _ _ _ => rfl), (by show 0 ≤ (M 0 6).toInt ∧ (M 0 6).toInt ≤ 260; have f0 := (by decide : ((-1 : Int32)).toInt = -1); omega), (by show (M 0 6).toInt = _; rw [if_neg (by omega)])⟩
      · exact j27 (by omega)
theorem o3_X10_walk (M : Mem) (v1 : Int32) (v2 : Int32) (v3 : Int32) (v4 : Int32) (ht : 0 ≤ (M 0 6).toInt ∧ (M 0 6).toInt ≤ 260) : Wp (f_X10_walk M v1 v2 v3 v4) (fun q => (∀ a i, ¬ ((a = 0 ∧ i = 6) ∨ (a = 0 ∧ i = 7) ∨ (a = 0 ∧ i = 8) ∨ (a = 0 ∧ i = 9) ∨ (a = 0 ∧ i = 10) ∨ (a = 0 ∧ i = 12) ∨ (a = 0 ∧ i = 14) ∨ (a = 0 ∧ i = 49) ∨ (a = 0 ∧ i = 50) ∨ a = 32 ∨ a = 33 ∨ a = 34 ∨ a = 35) → q.2 a i = M a i) ∧ (0 ≤ (q.2 0 6).toInt ∧ (q.2 0 6).toInt ≤ 260) ∧ ((q.2 0 6).toInt = (if ((0 ≤ v1.toInt ∧ v1.toInt < 8) ∧ ((shr (M 0 4) v1) &&& (nI 1)).toInt = 1) ∧ (0 ≤ v2.toInt ∧ v2.toInt ≤ 39) ∧ (0 ≤ v4.toInt ∧ v4.toInt ≤ 3) ∧ 1 ≤ v3.toInt ∧ v3.toInt ≤ 60 ∧ v3.toInt ≤ (M 0 6).toInt then 0 else (M 0 6).toInt))) := by
  refine wp_bind2 (o3_X10_isPerson M v1) (fun r_1 he2 hq2 => ?_)
  obtain ⟨hz_r_1, hr_2, hi_2⟩ := hq2
  replace hr_2 : ¬ r_1.toInt = 0 → 0 ≤ v1.toInt ∧ v1.toInt < 8 := hr_2
  replace hi_2 : ¬ r_1.toInt = 0 ↔ (0 ≤ v1.toInt ∧ v1.toInt < 8) ∧ ((shr (M 0 4) v1) &&& (nI 1)).toInt = 1 := hi_2
  refine wp_ite (fun c5 => ?_) (fun c5 => ?_)
  · exact wp_some ⟨(fun _ _ _ => rfl), (by show 0 ≤ (M 0 6).toInt ∧ (M 0 6).toInt ≤ 260; have f0 := (by decide : ((-1 : Int32)).toInt = -1); omega), (by show (M 0 6).toInt = _; rw [if_neg (by omega)])⟩
  · refine wp_bind2 (o2_X10_in M v2 (nI 0) (nI 39)) (fun r_2 he12 hq12 => ?_)
    obtain ⟨hz_r_2, hr_12, hi_12⟩ := hq12
    replace hr_12 : ¬ r_2.toInt = 0 → (nI 0).toInt ≤ v2.toInt ∧ v2.toInt ≤ (nI 39).toInt := hr_12
    have := t_lit 0
    have := t_lit 39
    replace hi_12 : ¬ r_2.toInt = 0 ↔ (nI 0).toInt ≤ v2.toInt ∧ v2.toInt ≤ (nI 39).toInt := hi_12
    have := t_lit 0
    have := t_lit 39
    refine wp_ite (fun c15 => ?_) (fun c15 => ?_)
    · exact wp_some ⟨(fun _ _ _ => rfl), (by show 0 ≤ (M 0 6).toInt ∧ (M 0 6).toInt ≤ 260; have f0 := (by decide : ((-1 : Int32)).toInt = -1); omega), (by show (M 0 6).toInt = _; rw [if_neg (by omega)])⟩
    · refine wp_bind2 (o2_X10_in M v3 (nI 1) (nI 60)) (fun r_3 he22 hq22 => ?_)
      obtain ⟨hz_r_3, hr_22, hi_22⟩ := hq22
      replace hr_22 : ¬ r_3.toInt = 0 → (nI 1).toInt ≤ v3.toInt ∧ v3.toInt ≤ (nI 60).toInt := hr_22
      have := t_lit 1
      have := t_lit 60
      replace hi_22 : ¬ r_3.toInt = 0 ↔ (nI 1).toInt ≤ v3.toInt ∧ v3.toInt ≤ (nI 60).toInt := hi_22
      have := t_lit 1
      have := t_lit 60
      have fl1 := t_lit 1
      have fl60 := t_lit 60
      refine wp_ite (fun c25 => ?_) (fun c25 => ?_)
      · exact wp_some ⟨(fun _ _ _ => rfl), (by show 0 ≤ (M 0 6).toInt ∧ (M 0 6).toInt ≤ 260; have f0 := (by decide : ((-1 : Int32)).toInt = -1); omega), (by show (M 0 6).toInt = _; rw [if_neg (by omega)])⟩
      · refine wp_bind2 (o2_X10_in M v4 (nI 0) (nI 3)) (fun r_4 he32 hq32 => ?_)
        obtain ⟨hz_r_4, hr_32, hi_32⟩ := hq32
        replace hr_32 : ¬ r_4.toInt = 0 → (nI 0).toInt ≤ v4.toInt ∧ v4.toInt ≤ (nI 3).toInt := hr_32
        have := t_lit 0
        have := t_lit 3
        replace hi_32 : ¬ r_4.toInt = 0 ↔ (nI 0).toInt ≤ v4.toInt ∧ v4.toInt ≤ (nI 3).toInt := hi_32
        have := t_lit 0
        have := t_lit 3
        refine wp_ite (fun c35 => ?_) (fun c35 => ?_)
        · exact wp_some ⟨(fun _ _ _ => rfl), (by show 0 ≤ (M 0 6).toInt ∧ (M 0 6).toInt ≤ 260; have f0 := (by decide : ((-1 : Int32)).toInt = -1); omega), (by show (M 0 6).toInt = _; rw [if_neg (by omega)])⟩
        · refine wp_ite (fun c43 => ?_) (fun c43 => ?_)
          · refine wp_bind2 (o_X10_beginsText M v3) (fun M_5 he50 hq50 => ?_)
            obtain ⟨hg_M_5, hb_50⟩ := hq50
            replace hb_50 : (M_5 0 7).toInt = 0 ∧ (M_5 0 8).toInt = v3.toInt := hb_50
            replace hg_M_5 : ∀ a i, ¬ ((a = 0 ∧ i = 7) ∨ (a = 0 ∧ i = 8) ∨ (a = 0 ∧ i = 12) ∨ (a = 0 ∧ i = 14)) → M_5 a i = M a i := hg_M_5
            refine wp_bnd (fun M_6 eM_6 => ?_)
            refine wp_bnd (fun M_7 eM_7 => ?_)
            have a7 : (M_7 0 7).toInt = 0 := by rw [eM_7, mset_ne (by first | exact nz1 (by decide) | exact nz2 (by decide) | exact nz1 (nzA hc0 (by decide)) | exact nz1 (nzE (by decide)) | exact nz1 (nzB hc0 (by decide)) | exact nz1 (nzC hc0 (by decide)) | exact nz1 (nzD hc0 (by decide)) | exact nz1 (nzF (by decide)) | exact nz1 (nzG (by decide)) | omega), eM_6, mset_ne (by first | exact nz1 (by decide) | exact nz2 (by decide) | exact nz1 (nzA hc0 (by decide)) | exact nz1 (nzE (by decide)) | exact nz1 (nzB hc0 (by decide)) | exact nz1 (nzC hc0 (by decide)) | exact nz1 (nzD hc0 (by decide)) | exact nz1 (nzF (by decide)) | exact nz1 (nzG (by decide)) | omega)]; exact hb_50.1
            have a8 : (M_7 0 8).toInt = v3.toInt := by rw [eM_7, mset_ne (by first | exact nz1 (by decide) | exact nz2 (by decide) | exact nz1 (nzA hc0 (by decide)) | exact nz1 (nzE (by decide)) | exact nz1 (nzB hc0 (by decide)) | exact nz1 (nzC hc0 (by decide)) | exact nz1 (nzD hc0 (by decide)) | exact nz1 (nzF (by decide)) | exact nz1 (nzG (by decide)) | omega), eM_6, mset_ne (by first | exact nz1 (by decide) | exact nz2 (by decide) | exact nz1 (nzA hc0 (by decide)) | exact nz1 (nzE (by decide)) | exact nz1 (nzB hc0 (by decide)) | exact nz1 (nzC hc0 (by decide)) | exact nz1 (nzD hc0 (by decide)) | exact nz1 (nzF (by decide)) | exact nz1 (nzG (by decide)) | omega)]; exact hb_50.2
            have a50 : (M_7 0 50).toInt = 0 := by rw [eM_7, mset_eq]; exact nI0
            have a49 : (M_7 0 49).toInt = 0 := by rw [eM_7, mset_ne (by first | exact nz1 (by decide) | exact nz2 (by decide) | exact nz1 (nzA hc0 (by decide)) | exact nz1 (nzE (by decide)) | exact nz1 (nzB hc0 (by decide)) | exact nz1 (nzC hc0 (by decide)) | exact nz1 (nzD hc0 (by decide)) | exact nz1 (nzF (by decide)) | exact nz1 (nzG (by decide)) | omega), eM_6, mset_eq]; exact nI0
            refine wp_cb2 (o_X10_readsWalk M_7 (by omega) (by omega) (by omega) (fun j hj => absurd hj (by omega))) (fun r_8 M_9 he64 hq64 => ?_)
            obtain ⟨hz_r_8, hg_M_9, hp_64, hw_64⟩ := hq64
            replace hp_64 : (M_7 0 7).toInt ≤ (M_9 0 7).toInt ∧ (M_9 0 7).toInt ≤ (M_7 0 8).toInt := hp_64
            replace hw_64 : ¬ r_8.toInt = 0 → 0 ≤ (M_9 0 49).toInt ∧ (M_9 0 49).toInt ≤ 60 := hw_64
            replace hg_M_9 : ∀ a i, ¬ ((a = 0 ∧ i = 7) ∨ (a = 0 ∧ i = 9) ∨ (a = 0 ∧ i = 10) ∨ (a = 0 ∧ i = 49) ∨ (a = 0 ∧ i = 50) ∨ a = 32 ∨ a = 33 ∨ a = 34 ∨ a = 35) → M_9 a i = M_7 a i := hg_M_9
            refine wp_bnd (fun M_10 eM_10 => ?_)
            have b49 := congrArg Int32.toInt ((congrFun (congrFun eM_10 0) 49).trans (mset_ne (by first | exact nz1 (by decide) | exact nz2 (by decide) | exact nz1 (nzA hc0 (by decide)) | exact nz1 (nzE (by decide)) | exact nz1 (nzB hc0 (by decide)) | exact nz1 (nzC hc0 (by decide)) | exact nz1 (nzD hc0 (by decide)) | exact nz1 (nzF (by decide)) | exact nz1 (nzG (by decide)) | omega)))
            refine wp_ite (fun c76 => ?_) (fun c76 => ?_)
            · exact wp_some ⟨(fun a i q0 => ((congrFun (congrFun eM_10 a) i).trans ((mset_ne (fun h9 => q0 (Or.inl h9))).trans ((hg_M_9 a i (fun z8 => q0 ((fun z9 => Or.elim z9 (fun h9 => Or.inr (Or.inl h9)) (fun z9 => Or.elim z9 (fun h9 => Or.inr (Or.inr (Or.inr (Or.inl h9)))) (fun z9 => Or.elim z9 (fun h9 => Or.inr (Or.inr (Or.inr (Or.inr (Or.inl h9))))) (fun z9 => Or.elim z9 (fun h9 => Or.inr (Or.inr (Or.inr (Or.inr (Or.inr (Or.inr (Or.inr (Or.inl h9)))))))) (fun z9 => Or.elim z9 (fun h9 => Or.inr (Or.inr (Or.inr (Or.inr (Or.inr (Or.inr (Or.inr (Or.inr (Or.inl h9))))))))) (fun z9 => Or.elim z9 (fun h9 => Or.inr (Or.inr (Or.inr (Or.inr (Or.inr (Or.inr (Or.inr (Or.inr (Or.inr (Or.inl h9)))))))))) (fun z9 => Or.elim z9 (fun h9 => Or.inr (Or.inr (Or.inr (Or.inr (Or.inr (Or.inr (Or.inr (Or.inr (Or.inr (Or.inr (Or.inl h9))))))))))) (fun z9 => Or.elim z9 (fun h9 => Or.inr (Or.inr (Or.inr (Or.inr (Or.inr (Or.inr (Or.inr (Or.inr (Or.inr (Or.inr (Or.inr (Or.inl h9)))))))))))) (fun h9 => Or.inr (Or.inr (Or.inr (Or.inr (Or.inr (Or.inr (Or.inr (Or.inr (Or.inr (Or.inr (Or.inr (Or.inr (h9))))))))))))))))))))) z8))).trans ((congrFun (congrFun eM_7 a) i).trans ((mset_ne (fun h9 => q0 (Or.inr (Or.inr (Or.inr (Or.inr (Or.inr (Or.inr (Or.inr (Or.inr (Or.inl h9))))))))))).trans ((congrFun (congrFun eM_6 a) i).trans ((mset_ne (fun h9 => q0 (Or.inr (Or.inr (Or.inr (Or.inr (Or.inr (Or.inr (Or.inr (Or.inl h9)))))))))).trans ((hg_M_5 a i (fun z8 => q0 ((fun z9 => Or.elim z9 (fun h9 => Or.inr (Or.inl h9)) (fun z9 => Or.elim z9 (fun h9 => Or.inr (Or.inr (Or.inl h9))) (fun z9 => Or.elim z9 (fun h9 => Or.inr (Or.inr (Or.inr (Or.inr (Or.inr (Or.inl h9)))))) (fun h9 => Or.inr (Or.inr (Or.inr (Or.inr (Or.inr (Or.inr (Or.inl h9)))))))))) z8))).trans rfl))))))))), (by show 0 ≤ (M_10 0 6).toInt ∧ (M_10 0 6).toInt ≤ 260; have f0 := congrArg Int32.toInt ((congrFun (congrFun eM_10 0) 6).trans mset_eq); have f1 := t_lit 0; have f2 := congrArg Int32.toInt ((congrFun (congrFun eM_10 0) 9).trans (mset_ne (by first | exact nz1 (by decide) | exact nz2 (by decide) | exact nz1 (nzA hc0 (by decide)) | exact nz1 (nzE (by decide)) | exact nz1 (nzB hc0 (by decide)) | exact nz1 (nzC hc0 (by decide)) | exact nz1 (nzD hc0 (by decide)) | exact nz1 (nzF (by decide)) | exact nz1 (nzG (by decide)) | omega))); omega), (by show (M_10 0 6).toInt = _; rw [if_pos (by omega), show M_10 0 6 = M_10 0 6 from rfl, eM_10, mset_eq]; exact nI0)⟩
            · have hwk := hw_64 c76
              refine wp_lp5 (fun y6_99 y7_99 y8_99 y9_99 y10_99 => (0 ≤ y10_99.toInt)) (fun y6_99 y7_99 y8_99 y9_99 y10_99 => ((M_10 0 49).toInt - y10_99.toInt).toNat) (fun ag99 y6_99 y7_99 y8_99 y9_99 y10_99 hI99 ih99 => ?_) FU (nI 0) v2 (nI 0) (nI 1) (nI 0) (by decide) (fu_lt (by have f0 := congrArg Int32.toInt ((congrFun (congrFun eM_10 0) 49).trans (mset_ne (by first | exact nz1 (by decide) | exact nz2 (by decide) | exact nz1 (nzA hc0 (by decide)) | exact nz1 (nzE (by decide)) | exact nz1 (nzB hc0 (by decide)) | exact nz1 (nzC hc0 (by decide)) | exact nz1 (nzD hc0 (by decide)) | exact nz1 (nzF (by decide)) | exact nz1 (nzG (by decide)) | omega))); have f1 := t_lit 0; have f2 := t_lit 1; omega))
              have hy := hI99
              have j297 : Wp (f_X10_walk_L297 v4 M_10 y6_99 y7_99 y8_99) (fun q => (∀ a i, ¬ ((a = 0 ∧ i = 6) ∨ (a = 0 ∧ i = 7) ∨ (a = 0 ∧ i = 8) ∨ (a = 0 ∧ i = 9) ∨ (a = 0 ∧ i = 10) ∨ (a = 0 ∧ i = 12) ∨ (a = 0 ∧ i = 14) ∨ (a = 0 ∧ i = 49) ∨ (a = 0 ∧ i = 50) ∨ a = 32 ∨ a = 33 ∨ a = 34 ∨ a = 35) → q.2 a i = M a i) ∧ (0 ≤ (q.2 0 6).toInt ∧ (q.2 0 6).toInt ≤ 260) ∧ ((q.2 0 6).toInt = (if ((0 ≤ v1.toInt ∧ v1.toInt < 8) ∧ ((shr (M 0 4) v1) &&& (nI 1)).toInt = 1) ∧ (0 ≤ v2.toInt ∧ v2.toInt ≤ 39) ∧ (0 ≤ v4.toInt ∧ v4.toInt ≤ 3) ∧ 1 ≤ v3.toInt ∧ v3.toInt ≤ 60 ∧ v3.toInt ≤ (M 0 6).toInt then 0 else (M 0 6).toInt))) := by
                unfold f_X10_walk_L297
                refine wp_ite (fun c299 => ?_) (fun c299 => ?_)
                · exact wp_some ⟨(fun a i q0 => ((congrFun (congrFun eM_10 a) i).trans ((mset_ne (fun h9 => q0 (Or.inl h9))).trans ((hg_M_9 a i (fun z8 => q0 ((fun z9 => Or.elim z9 (fun h9 => Or.inr (Or.inl h9)) (fun z9 => Or.elim z9 (fun h9 => Or.inr (Or.inr (Or.inr (Or.inl h9)))) (fun z9 => Or.elim z9 (fun h9 => Or.inr (Or.inr (Or.inr (Or.inr (Or.inl h9))))) (fun z9 => Or.elim z9 (fun h9 => Or.inr (Or.inr (Or.inr (Or.inr (Or.inr (Or.inr (Or.inr (Or.inl h9)))))))) (fun z9 => Or.elim z9 (fun h9 => Or.inr (Or.inr (Or.inr (Or.inr (Or.inr (Or.inr (Or.inr (Or.inr (Or.inl h9))))))))) (fun z9 => Or.elim z9 (fun h9 => Or.inr (Or.inr (Or.inr (Or.inr (Or.inr (Or.inr (Or.inr (Or.inr (Or.inr (Or.inl h9)))))))))) (fun z9 => Or.elim z9 (fun h9 => Or.inr (Or.inr (Or.inr (Or.inr (Or.inr (Or.inr (Or.inr (Or.inr (Or.inr (Or.inr (Or.inl h9))))))))))) (fun z9 => Or.elim z9 (fun h9 => Or.inr (Or.inr (Or.inr (Or.inr (Or.inr (Or.inr (Or.inr (Or.inr (Or.inr (Or.inr (Or.inr (Or.inl h9)))))))))))) (fun h9 => Or.inr (Or.inr (Or.inr (Or.inr (Or.inr (Or.inr (Or.inr (Or.inr (Or.inr (Or.inr (Or.inr (Or.inr (h9))))))))))))))))))))) z8))).trans ((congrFun (congrFun eM_7 a) i).trans ((mset_ne (fun h9 => q0 (Or.inr (Or.inr (Or.inr (Or.inr (Or.inr (Or.inr (Or.inr (Or.inr (Or.inl h9))))))))))).trans ((congrFun (congrFun eM_6 a) i).trans ((mset_ne (fun h9 => q0 (Or.inr (Or.inr (Or.inr (Or.inr (Or.inr (Or.inr (Or.inr (Or.inl h9)))))))))).trans ((hg_M_5 a i (fun z8 => q0 ((fun z9 => Or.elim z9 (fun h9 => Or.inr (Or.inl h9)) (fun z9 => Or.elim z9 (fun h9 => Or.inr (Or.inr (Or.inl h9))) (fun z9 => Or.elim z9 (fun h9 => Or.inr (Or.inr (Or.inr (Or.inr (Or.inr (Or.inl h9)))))) (fun h9 => Or.inr (Or.inr (Or.inr (Or.inr (Or.inr (Or.inr (Or.inl h9)))))))))) z8))).trans rfl))))))))), (by show 0 ≤ (M_10 0 6).toInt ∧ (M_10 0 6).toInt ≤ 260; have f0 := congrArg Int32.toInt ((congrFun (congrFun eM_10 0) 6).trans mset_eq); have f1 := t_lit 0; omega), (by show (M_10 0 6).toInt = _; rw [if_pos (by omega), show M_10 0 6 = M_10 0 6 from rfl, eM_10, mset_eq]; exact nI0)⟩
                · refine wp_ite (fun c310 => ?_) (fun c310 => ?_)
                  · exact wp_some ⟨(fun a i q0 => ((congrFun (congrFun eM_10 a) i).trans ((mset_ne (fun h9 => q0 (Or.inl h9))).trans ((hg_M_9 a i (fun z8 => q0 ((fun z9 => Or.elim z9 (fun h9 => Or.inr (Or.inl h9)) (fun z9 => Or.elim z9 (fun h9 => Or.inr (Or.inr (Or.inr (Or.inl h9)))) (fun z9 => Or.elim z9 (fun h9 => Or.inr (Or.inr (Or.inr (Or.inr (Or.inl h9))))) (fun z9 => Or.elim z9 (fun h9 => Or.inr (Or.inr (Or.inr (Or.inr (Or.inr (Or.inr (Or.inr (Or.inl h9)))))))) (fun z9 => Or.elim z9 (fun h9 => Or.inr (Or.inr (Or.inr (Or.inr (Or.inr (Or.inr (Or.inr (Or.inr (Or.inl h9))))))))) (fun z9 => Or.elim z9 (fun h9 => Or.inr (Or.inr (Or.inr (Or.inr (Or.inr (Or.inr (Or.inr (Or.inr (Or.inr (Or.inl h9)))))))))) (fun z9 => Or.elim z9 (fun h9 => Or.inr (Or.inr (Or.inr (Or.inr (Or.inr (Or.inr (Or.inr (Or.inr (Or.inr (Or.inr (Or.inl h9))))))))))) (fun z9 => Or.elim z9 (fun h9 => Or.inr (Or.inr (Or.inr (Or.inr (Or.inr (Or.inr (Or.inr (Or.inr (Or.inr (Or.inr (Or.inr (Or.inl h9)))))))))))) (fun h9 => Or.inr (Or.inr (Or.inr (Or.inr (Or.inr (Or.inr (Or.inr (Or.inr (Or.inr (Or.inr (Or.inr (Or.inr (h9))))))))))))))))))))) z8))).trans ((congrFun (congrFun eM_7 a) i).trans ((mset_ne (fun h9 => q0 (Or.inr (Or.inr (Or.inr (Or.inr (Or.inr (Or.inr (Or.inr (Or.inr (Or.inl h9))))))))))).trans ((congrFun (congrFun eM_6 a) i).trans ((mset_ne (fun h9 => q0 (Or.inr (Or.inr (Or.inr (Or.inr (Or.inr (Or.inr (Or.inr (Or.inl h9)))))))))).trans ((hg_M_5 a i (fun z8 => q0 ((fun z9 => Or.elim z9 (fun h9 => Or.inr (Or.inl h9)) (fun z9 => Or.elim z9 (fun h9 => Or.inr (Or.inr (Or.inl h9))) (fun z9 => Or.elim z9 (fun h9 => Or.inr (Or.inr (Or.inr (Or.inr (Or.inr (Or.inl h9)))))) (fun h9 => Or.inr (Or.inr (Or.inr (Or.inr (Or.inr (Or.inr (Or.inl h9)))))))))) z8))).trans rfl))))))))), (by show 0 ≤ (M_10 0 6).toInt ∧ (M_10 0 6).toInt ≤ 260; have f0 := congrArg Int32.toInt ((congrFun (congrFun eM_10 0) 6).trans mset_eq); have f1 := t_lit 0; omega), (by show (M_10 0 6).toInt = _; rw [if_pos (by omega), show M_10 0 6 = M_10 0 6 from rfl, eM_10, mset_eq]; exact nI0)⟩
                  · refine wp_ite (fun c321 => ?_) (fun c321 => ?_)
                    · exact wp_some ⟨(fun a i q0 => ((congrFun (congrFun eM_10 a) i).trans ((mset_ne (fun h9 => q0 (Or.inl h9))).trans ((hg_M_9 a i (fun z8 => q0 ((fun z9 => Or.elim z9 (fun h9 => Or.inr (Or.inl h9)) (fun z9 => Or.elim z9 (fun h9 => Or.inr (Or.inr (Or.inr (Or.inl h9)))) (fun z9 => Or.elim z9 (fun h9 => Or.inr (Or.inr (Or.inr (Or.inr (Or.inl h9))))) (fun z9 => Or.elim z9 (fun h9 => Or.inr (Or.inr (Or.inr (Or.inr (Or.inr (Or.inr (Or.inr (Or.inl h9)))))))) (fun z9 => Or.elim z9 (fun h9 => Or.inr (Or.inr (Or.inr (Or.inr (Or.inr (Or.inr (Or.inr (Or.inr (Or.inl h9))))))))) (fun z9 => Or.elim z9 (fun h9 => Or.inr (Or.inr (Or.inr (Or.inr (Or.inr (Or.inr (Or.inr (Or.inr (Or.inr (Or.inl h9)))))))))) (fun z9 => Or.elim z9 (fun h9 => Or.inr (Or.inr (Or.inr (Or.inr (Or.inr (Or.inr (Or.inr (Or.inr (Or.inr (Or.inr (Or.inl h9))))))))))) (fun z9 => Or.elim z9 (fun h9 => Or.inr (Or.inr (Or.inr (Or.inr (Or.inr (Or.inr (Or.inr (Or.inr (Or.inr (Or.inr (Or.inr (Or.inl h9)))))))))))) (fun h9 => Or.inr (Or.inr (Or.inr (Or.inr (Or.inr (Or.inr (Or.inr (Or.inr (Or.inr (Or.inr (Or.inr (Or.inr (h9))))))))))))))))))))) z8))).trans ((congrFun (congrFun eM_7 a) i).trans ((mset_ne (fun h9 => q0 (Or.inr (Or.inr (Or.inr (Or.inr (Or.inr (Or.inr (Or.inr (Or.inr (Or.inl h9))))))))))).trans ((congrFun (congrFun eM_6 a) i).trans ((mset_ne (fun h9 => q0 (Or.inr (Or.inr (Or.inr (Or.inr (Or.inr (Or.inr (Or.inr (Or.inl h9)))))))))).trans ((hg_M_5 a i (fun z8 => q0 ((fun z9 => Or.elim z9 (fun h9 => Or.inr (Or.inl h9)) (fun z9 => Or.elim z9 (fun h9 => Or.inr (Or.inr (Or.inl h9))) (fun z9 => Or.elim z9 (fun h9 => Or.inr (Or.inr (Or.inr (Or.inr (Or.inr (Or.inl h9)))))) (fun h9 => Or.inr (Or.inr (Or.inr (Or.inr (Or.inr (Or.inr (Or.inl h9)))))))))) z8))).trans rfl))))))))), (by show 0 ≤ (M_10 0 6).toInt ∧ (M_10 0 6).toInt ≤ 260; have f0 := congrArg Int32.toInt ((congrFun (congrFun eM_10 0) 6).trans mset_eq); have f1 := t_lit 0; omega), (by show (M_10 0 6).toInt = _; rw [if_pos (by omega), show M_10 0 6 = M_10 0 6 from rfl, eM_10, mset_eq]; exact nI0)⟩
                    · refine wp_ite (fun c333 => ?_) (fun c333 => ?_)
                      · exact wp_some ⟨(fun a i q0 => ((congrFun (congrFun eM_10 a) i).trans ((mset_ne (fun h9 => q0 (Or.inl h9))).trans ((hg_M_9 a i (fun z8 => q0 ((fun z9 => Or.elim z9 (fun h9 => Or.inr (Or.inl h9)) (fun z9 => Or.elim z9 (fun h9 => Or.inr (Or.inr (Or.inr (Or.inl h9)))) (fun z9 => Or.elim z9 (fun h9 => Or.inr (Or.inr (Or.inr (Or.inr (Or.inl h9))))) (fun z9 => Or.elim z9 (fun h9 => Or.inr (Or.inr (Or.inr (Or.inr (Or.inr (Or.inr (Or.inr (Or.inl h9)))))))) (fun z9 => Or.elim z9 (fun h9 => Or.inr (Or.inr (Or.inr (Or.inr (Or.inr (Or.inr (Or.inr (Or.inr (Or.inl h9))))))))) (fun z9 => Or.elim z9 (fun h9 => Or.inr (Or.inr (Or.inr (Or.inr (Or.inr (Or.inr (Or.inr (Or.inr (Or.inr (Or.inl h9)))))))))) (fun z9 => Or.elim z9 (fun h9 => Or.inr (Or.inr (Or.inr (Or.inr (Or.inr (Or.inr (Or.inr (Or.inr (Or.inr (Or.inr (Or.inl h9))))))))))) (fun z9 => Or.elim z9 (fun h9 => Or.inr (Or.inr (Or.inr (Or.inr (Or.inr (Or.inr (Or.inr (Or.inr (Or.inr (Or.inr (Or.inr (Or.inl h9)))))))))))) (fun h9 => Or.inr (Or.inr (Or.inr (Or.inr (Or.inr (Or.inr (Or.inr (Or.inr (Or.inr (Or.inr (Or.inr (Or.inr (h9))))))))))))))))))))) z8))).trans ((congrFun (congrFun eM_7 a) i).trans ((mset_ne (fun h9 => q0 (Or.inr (Or.inr (Or.inr (Or.inr (Or.inr (Or.inr (Or.inr (Or.inr (Or.inl h9))))))))))).trans ((congrFun (congrFun eM_6 a) i).trans ((mset_ne (fun h9 => q0 (Or.inr (Or.inr (Or.inr (Or.inr (Or.inr (Or.inr (Or.inr (Or.inl h9)))))))))).trans ((hg_M_5 a i (fun z8 => q0 ((fun z9 => Or.elim z9 (fun h9 => Or.inr (Or.inl h9)) (fun z9 => Or.elim z9 (fun h9 => Or.inr (Or.inr (Or.inl h9))) (fun z9 => Or.elim z9 (fun h9 => Or.inr (Or.inr (Or.inr (Or.inr (Or.inr (Or.inl h9)))))) (fun h9 => Or.inr (Or.inr (Or.inr (Or.inr (Or.inr (Or.inr (Or.inl h9)))))))))) z8))).trans rfl))))))))), (by show 0 ≤ (M_10 0 6).toInt ∧ (M_10 0 6).toInt ≤ 260; have f0 := congrArg Int32.toInt ((congrFun (congrFun eM_10 0) 6).trans mset_eq); have f1 := t_lit 0; have f2 := t_lit 1; omega), (by show (M_10 0 6).toInt = _; rw [if_pos (by omega), show M_10 0 6 = M_10 0 6 from rfl, eM_10, mset_eq]; exact nI0)⟩
                      · exact wp_some ⟨(fun a i q0 => ((congrFun (congrFun eM_10 a) i).trans ((mset_ne (fun h9 => q0 (Or.inl h9))).trans ((hg_M_9 a i (fun z8 => q0 ((fun z9 => Or.elim z9 (fun h9 => Or.inr (Or.inl h9)) (fun z9 => Or.elim z9 (fun h9 => Or.inr (Or.inr (Or.inr (Or.inl h9)))) (fun z9 => Or.elim z9 (fun h9 => Or.inr (Or.inr (Or.inr (Or.inr (Or.inl h9))))) (fun z9 => Or.elim z9 (fun h9 => Or.inr (Or.inr (Or.inr (Or.inr (Or.inr (Or.inr (Or.inr (Or.inl h9)))))))) (fun z9 => Or.elim z9 (fun h9 => Or.inr (Or.inr (Or.inr (Or.inr (Or.inr (Or.inr (Or.inr (Or.inr (Or.inl h9))))))))) (fun z9 => Or.elim z9 (fun h9 => Or.inr (Or.inr (Or.inr (Or.inr (Or.inr (Or.inr (Or.inr (Or.inr (Or.inr (Or.inl h9)))))))))) (fun z9 => Or.elim z9 (fun h9 => Or.inr (Or.inr (Or.inr (Or.inr (Or.inr (Or.inr (Or.inr (Or.inr (Or.inr (Or.inr (Or.inl h9))))))))))) (fun z9 => Or.elim z9 (fun h9 => Or.inr (Or.inr (Or.inr (Or.inr (Or.inr (Or.inr (Or.inr (Or.inr (Or.inr (Or.inr (Or.inr (Or.inl h9)))))))))))) (fun h9 => Or.inr (Or.inr (Or.inr (Or.inr (Or.inr (Or.inr (Or.inr (Or.inr (Or.inr (Or.inr (Or.inr (Or.inr (h9))))))))))))))))))))) z8))).trans ((congrFun (congrFun eM_7 a) i).trans ((mset_ne (fun h9 => q0 (Or.inr (Or.inr (Or.inr (Or.inr (Or.inr (Or.inr (Or.inr (Or.inr (Or.inl h9))))))))))).trans ((congrFun (congrFun eM_6 a) i).trans ((mset_ne (fun h9 => q0 (Or.inr (Or.inr (Or.inr (Or.inr (Or.inr (Or.inr (Or.inr (Or.inl h9)))))))))).trans ((hg_M_5 a i (fun z8 => q0 ((fun z9 => Or.elim z9 (fun h9 => Or.inr (Or.inl h9)) (fun z9 => Or.elim z9 (fun h9 => Or.inr (Or.inr (Or.inl h9))) (fun z9 => Or.elim z9 (fun h9 => Or.inr (Or.inr (Or.inr (Or.inr (Or.inr (Or.inl h9)))))) (fun h9 => Or.inr (Or.inr (Or.inr (Or.inr (Or.inr (Or.inr (Or.inl h9)))))))))) z8))).trans rfl))))))))), (by show 0 ≤ (M_10 0 6).toInt ∧ (M_10 0 6).toInt ≤ 260; have f0 := congrArg Int32.toInt ((congrFun (congrFun eM_10 0) 6).trans mset_eq); have f1 := t_lit 0; omega), (by show (M_10 0 6).toInt = _; rw [if_pos (by omega), show M_10 0 6 = M_10 0 6 from rfl, eM_10, mset_eq]; exact nI0)⟩
              refine wp_ite (fun c105 => ?_) (fun c105 => ?_)
              · exact j297
              · refine wp_ite (fun c110 => ?_) (fun c110 => ?_)
                · exact j297
                · refine wp_ite (fun c117 => ?_) (fun c117 => ?_)
                  · exact j297
                  · refine wp_gd (by have f0 := congrArg Int32.toInt ((congrFun (congrFun eM_10 0) 49).trans (mset_ne (by first | exact nz1 (by decide) | exact nz2 (by decide) | exact nz1 (nzA hc0 (by decide)) | exact nz1 (nzE (by decide)) | exact nz1 (nzB hc0 (by decide)) | exact nz1 (nzC hc0 (by decide)) | exact nz1 (nzD hc0 (by decide)) | exact nz1 (nzF (by decide)) | exact nz1 (nzG (by decide)) | omega))); omega) ?_
                    refine wp_bnd (fun x_11 ex_11 => ?_)
                    refine wp_gd (by have f0 := congrArg Int32.toInt ((congrFun (congrFun eM_10 0) 49).trans (mset_ne (by first | exact nz1 (by decide) | exact nz2 (by decide) | exact nz1 (nzA hc0 (by decide)) | exact nz1 (nzE (by decide)) | exact nz1 (nzB hc0 (by decide)) | exact nz1 (nzC hc0 (by decide)) | exact nz1 (nzD hc0 (by decide)) | exact nz1 (nzF (by decide)) | exact nz1 (nzG (by decide)) | omega))); omega) ?_
                    refine wp_bind2 (o_X10_bounded M_10 (y8_99 + (M_10 33 (ix y10_99))) (nI 0) (nI 21)) (fun r_12 he145 hq145 => ?_)
                    have hr_145 := hq145
                    replace hr_145 : r_12.toInt = max (nI 0).toInt (min (nI 21).toInt (y8_99 + (M_10 33 (ix y10_99))).toInt) := hr_145
                    have := t_lit 0
                    have := t_lit 21
                    refine wp_gd (by have f0 := congrArg Int32.toInt ((congrFun (congrFun eM_10 0) 49).trans (mset_ne (by first | exact nz1 (by decide) | exact nz2 (by decide) | exact nz1 (nzA hc0 (by decide)) | exact nz1 (nzE (by decide)) | exact nz1 (nzB hc0 (by decide)) | exact nz1 (nzC hc0 (by decide)) | exact nz1 (nzD hc0 (by decide)) | exact nz1 (nzF (by decide)) | exact nz1 (nzG (by decide)) | omega))); omega) ?_
                    refine wp_gd (by have f0 := congrArg Int32.toInt ((congrFun (congrFun eM_10 0) 49).trans (mset_ne (by first | exact nz1 (by decide) | exact nz2 (by decide) | exact nz1 (nzA hc0 (by decide)) | exact nz1 (nzE (by decide)) | exact nz1 (nzB hc0 (by decide)) | exact nz1 (nzC hc0 (by decide)) | exact nz1 (nzD hc0 (by decide)) | exact nz1 (nzF (by decide)) | exact nz1 (nzG (by decide)) | omega))); omega) ?_
                    refine wp_gd (by have f0 := congrArg Int32.toInt ((congrFun (congrFun eM_10 0) 49).trans (mset_ne (by first | exact nz1 (by decide) | exact nz2 (by decide) | exact nz1 (nzA hc0 (by decide)) | exact nz1 (nzE (by decide)) | exact nz1 (nzB hc0 (by decide)) | exact nz1 (nzC hc0 (by decide)) | exact nz1 (nzD hc0 (by decide)) | exact nz1 (nzF (by decide)) | exact nz1 (nzG (by decide)) | omega))); omega) ?_
                    refine wp_gd (by have f0 := congrArg Int32.toInt ((congrFun (congrFun eM_10 0) 49).trans (mset_ne (by first | exact nz1 (by decide) | exact nz2 (by decide) | exact nz1 (nzA hc0 (by decide)) | exact nz1 (nzE (by decide)) | exact nz1 (nzB hc0 (by decide)) | exact nz1 (nzC hc0 (by decide)) | exact nz1 (nzD hc0 (by decide)) | exact nz1 (nzF (by decide)) | exact nz1 (nzG (by decide)) | omega))); omega) ?_
                    refine wp_bnd (fun x_13 ex_13 => ?_)
                    refine wp_bind2 (o2_X10_in M_10 r_12 (nI 1) (nI 20)) (fun r_14 he188 hq188 => ?_)
                    obtain ⟨hz_r_14, hr_188, hi_188⟩ := hq188
                    replace hr_188 : ¬ r_14.toInt = 0 → (nI 1).toInt ≤ r_12.toInt ∧ r_12.toInt ≤ (nI 20).toInt := hr_188
                    have := t_lit 1
                    have := t_lit 20
                    replace hi_188 : ¬ r_14.toInt = 0 ↔ (nI 1).toInt ≤ r_12.toInt ∧ r_12.toInt ≤ (nI 20).toInt := hi_188
                    have := t_lit 1
                    have := t_lit 20
                    have j237 : ∀ (t0_237 : Int32), Wp (f_X10_walk_L237 v1 M_10 ag99 y6_99 y7_99 y8_99 y10_99 x_11 r_12 x_13 t0_237) (fun q => (∀ a i, ¬ ((a = 0 ∧ i = 6) ∨ (a = 0 ∧ i = 7) ∨ (a = 0 ∧ i = 8) ∨ (a = 0 ∧ i = 9) ∨ (a = 0 ∧ i = 10) ∨ (a = 0 ∧ i = 12) ∨ (a = 0 ∧ i = 14) ∨ (a = 0 ∧ i = 49) ∨ (a = 0 ∧ i = 50) ∨ a = 32 ∨ a = 33 ∨ a = 34 ∨ a = 35) → q.2 a i = M a i) ∧ (0 ≤ (q.2 0 6).toInt ∧ (q.2 0 6).toInt ≤ 260) ∧ ((q.2 0 6).toInt = (if ((0 ≤ v1.toInt ∧ v1.toInt < 8) ∧ ((shr (M 0 4) v1) &&& (nI 1)).toInt = 1) ∧ (0 ≤ v2.toInt ∧ v2.toInt ≤ 39) ∧ (0 ≤ v4.toInt ∧ v4.toInt ≤ 3) ∧ 1 ≤ v3.toInt ∧ v3.toInt ≤ 60 ∧ v3.toInt ≤ (M 0 6).toInt then 0 else (M 0 6).toInt))) := by
                      intro t0_237
                      unfold f_X10_walk_L237
                      refine wp_gd (by omega) ?_
                      refine wp_gd (by omega) ?_
                      have j267 : ∀ (t0_267 : Int32), (t0_267 = 0 ∨ t0_267 = 1) → Wp (f_X10_walk_L267 ag99 y6_99 y7_99 y8_99 y10_99 x_11 r_12 t0_267) (fun q => (∀ a i, ¬ ((a = 0 ∧ i = 6) ∨ (a = 0 ∧ i = 7) ∨ (a = 0 ∧ i = 8) ∨ (a = 0 ∧ i = 9) ∨ (a = 0 ∧ i = 10) ∨ (a = 0 ∧ i = 12) ∨ (a = 0 ∧ i = 14) ∨ (a = 0 ∧ i = 49) ∨ (a = 0 ∧ i = 50) ∨ a = 32 ∨ a = 33 ∨ a = 34 ∨ a = 35) → q.2 a i = M a i) ∧ (0 ≤ (q.2 0 6).toInt ∧ (q.2 0 6).toInt ≤ 260) ∧ ((q.2 0 6).toInt = (if ((0 ≤ v1.toInt ∧ v1.toInt < 8) ∧ ((shr (M 0 4) v1) &&& (nI 1)).toInt = 1) ∧ (0 ≤ v2.toInt ∧ v2.toInt ≤ 39) ∧ (0 ≤ v4.toInt ∧ v4.toInt ≤ 3) ∧ 1 ≤ v3.toInt ∧ v3.toInt ≤ 60 ∧ v3.toInt ≤ (M 0 6).toInt then 0 else (M 0 6).toInt))) := by
                        intro t0_267 hb_t0_267
                        unfold f_X10_walk_L267
                        refine wp_ite (fun c271 => ?_) (fun c271 => ?_)
                        · exact ih99 y6_99 y7_99 y8_99 t0_267 (y10_99 + (nI 1)) (by have f0 := t_lit 1; have f1 := t_add y10_99 (nI 1); have f2 := congrArg Int32.toInt ((congrFun (congrFun eM_10 0) 49).trans (mset_ne (by first | exact nz1 (by decide) | exact nz2 (by decide) | exact nz1 (nzA hc0 (by decide)) | exact nz1 (nzE (by decide)) | exact nz1 (nzB hc0 (by decide)) | exact nz1 (nzC hc0 (by decide)) | exact nz1 (nzD hc0 (by decide)) | exact nz1 (nzF (by decide)) | exact nz1 (nzG (by decide)) | omega))); omega) (by have f0 := congrArg Int32.toInt ((congrFun (congrFun eM_10 0) 49).trans (mset_ne (by first | exact nz1 (by decide) | exact nz2 (by decide) | exact nz1 (nzA hc0 (by decide)) | exact nz1 (nzE (by decide)) | exact nz1 (nzB hc0 (by decide)) | exact nz1 (nzC hc0 (by decide)) | exact nz1 (nzD hc0 (by decide)) | exact nz1 (nzF (by decide)) | exact nz1 (nzG (by decide)) | omega))); have f1 := t_lit 1; have f2 := t_add y10_99 (nI 1); omega)
                        · exact ih99 (y6_99 + (nI 1)) x_11 r_12 t0_267 (y10_99 + (nI 1)) (by have f0 := t_lit 1; have f1 := t_add y10_99 (nI 1); have f2 := congrArg Int32.toInt ((congrFun (congrFun eM_10 0) 49).trans (mset_ne (by first | exact nz1 (by decide) | exact nz2 (by decide) | exact nz1 (nzA hc0 (by decide)) | exact nz1 (nzE (by decide)) | exact nz1 (nzB hc0 (by decide)) | exact nz1 (nzC hc0 (by decide)) | exact nz1 (nzD hc0 (by decide)) | exact nz1 (nzF (by decide)) | exact nz1 (nzG (by decide)) | omega))); omega) (by have f0 := congrArg Int32.toInt ((congrFun (congrFun eM_10 0) 49).trans (mset_ne (by first | exact nz1 (by decide) | exact nz2 (by decide) | exact nz1 (nzA hc0 (by decide)) | exact nz1 (nzE (by decide)) | exact nz1 (nzB hc0 (by decide)) | exact nz1 (nzC hc0 (by decide)) | exact nz1 (nzD hc0 (by decide)) | exact nz1 (nzF (by decide)) | exact nz1 (nzG (by decide)) | omega))); have f1 := t_lit 1; have f2 := t_add y6_99 (nI 1); have f3 := t_add y7_99 (M_10 32 (ix y10_99)); have f4 := congrArg Int32.toInt ((congrFun (congrFun eM_10 32) (ix y10_99)).trans (mset_ne (by first | exact nz1 (by decide) | exact nz2 (by decide) | exact nz1 (nzA hc0 (by decide)) | exact nz1 (nzE (by decide)) | exact nz1 (nzB hc0 (by decide)) | exact nz1 (nzC hc0 (by decide)) | exact nz1 (nzD hc0 (by decide)) | exact nz1 (nzF (by decide)) | exact nz1 (nzG (by decide)) | omega))); have f5 := congrArg Int32.toInt ex_11; have f6 := t_add y10_99 (nI 1); omega)
                      have j266 : Wp (f_X10_walk_L266 ag99 y6_99 y7_99 y8_99 y10_99 x_11 r_12) (fun q => (∀ a i, ¬ ((a = 0 ∧ i = 6) ∨ (a = 0 ∧ i = 7) ∨ (a = 0 ∧ i = 8) ∨ (a = 0 ∧ i = 9) ∨ (a = 0 ∧ i = 10) ∨ (a = 0 ∧ i = 12) ∨ (a = 0 ∧ i = 14) ∨ (a = 0 ∧ i = 49) ∨ (a = 0 ∧ i = 50) ∨ a = 32 ∨ a = 33 ∨ a = 34 ∨ a = 35) → q.2 a i = M a i) ∧ (0 ≤ (q.2 0 6).toInt ∧ (q.2 0 6).toInt ≤ 260) ∧ ((q.2 0 6).toInt = (if ((0 ≤ v1.toInt ∧ v1.toInt < 8) ∧ ((shr (M 0 4) v1) &&& (nI 1)).toInt = 1) ∧ (0 ≤ v2.toInt ∧ v2.toInt ≤ 39) ∧ (0 ≤ v4.toInt ∧ v4.toInt ≤ 3) ∧ 1 ≤ v3.toInt ∧ v3.toInt ≤ 60 ∧ v3.toInt ≤ (M 0 6).toInt then 0 else (M 0 6).toInt))) := by
                        unfold f_X10_walk_L266
                        exact j267 (nI 0) b01_0
                      refine wp_ite (fun c254 => ?_) (fun c254 => ?_)
                      · exact j266
                      · refine wp_ite (fun c259 => ?_) (fun c259 => ?_)
                        · exact j266
                        · exact j267 (nI 1) b01_1
                    refine wp_ite (fun c191 => ?_) (fun c191 => ?_)
                    · refine wp_bind2 (o2_X10_in M_10 x_11 (nI 0) (nI 39)) (fun r_15 he234 hq234 => ?_)
                      obtain ⟨hz_r_15, hr_234, hi_234⟩ := hq234
                      replace hr_234 : ¬ r_15.toInt = 0 → (nI 0).toInt ≤ x_11.toInt ∧ x_11.toInt ≤ (nI 39).toInt := hr_234
                      have := t_lit 0
                      have := t_lit 39
                      replace hi_234 : ¬ r_15.toInt = 0 ↔ (nI 0).toInt ≤ x_11.toInt ∧ x_11.toInt ≤ (nI 39).toInt := hi_234
                      have := t_lit 0
                      have := t_lit 39
                      exact j237 r_15
                    · refine wp_bind2 (o_X10_stoneAt M_10 x_11 r_12) (fun r_16 he199 hq199 => ?_)
                      have hr_199 := hq199
                      replace hr_199 : r_16.toInt = -1 ∨ ((0 ≤ r_16.toInt ∧ r_16.toInt < 40) ∧ (M_10 1 (ix r_16)).toInt = 1 ∧ (M_10 1 (ix (nI 40 + r_16))).toInt = x_11.toInt ∧ (M_10 1 (ix (nI 80 + r_16))).toInt = r_12.toInt) := hr_199
                      have j225 : Wp (f_X10_walk_L225 v1 M_10 ag99 y6_99 y7_99 y8_99 y10_99 x_11 r_12 x_13) (fun q => (∀ a i, ¬ ((a = 0 ∧ i = 6) ∨ (a = 0 ∧ i = 7) ∨ (a = 0 ∧ i = 8) ∨ (a = 0 ∧ i = 9) ∨ (a = 0 ∧ i = 10) ∨ (a = 0 ∧ i = 12) ∨ (a = 0 ∧ i = 14) ∨ (a = 0 ∧ i = 49) ∨ (a = 0 ∧ i = 50) ∨ a = 32 ∨ a = 33 ∨ a = 34 ∨ a = 35) → q.2 a i = M a i) ∧ (0 ≤ (q.2 0 6).toInt ∧ (q.2 0 6).toInt ≤ 260) ∧ ((q.2 0 6).toInt = (if ((0 ≤ v1.toInt ∧ v1.toInt < 8) ∧ ((shr (M 0 4) v1) &&& (nI 1)).toInt = 1) ∧ (0 ≤ v2.toInt ∧ v2.toInt ≤ 39) ∧ (0 ≤ v4.toInt ∧ v4.toInt ≤ 3) ∧ 1 ≤ v3.toInt ∧ v3.toInt ≤ 60 ∧ v3.toInt ≤ (M 0 6).toInt then 0 else (M 0 6).toInt))) := by
                        unfold f_X10_walk_L225
                        exact j237 (nI 0)
                      refine wp_ite (fun c203 => ?_) (fun c203 => ?_)
                      · exact j225
                      · refine wp_bind2 (o_X10_stoneAt M_10 x_11 r_12) (fun r_17 he212 hq212 => ?_)
                        have hr_212 := hq212
                        replace hr_212 : r_17.toInt = -1 ∨ ((0 ≤ r_17.toInt ∧ r_17.toInt < 40) ∧ (M_10 1 (ix r_17)).toInt = 1 ∧ (M_10 1 (ix (nI 40 + r_17))).toInt = x_11.toInt ∧ (M_10 1 (ix (nI 80 + r_17))).toInt = r_12.toInt) := hr_212
                        have hr17 : r_17 = r_16 := by rw [he199] at he212; cases he212; rfl
                        have hne : ¬ r_17.toInt = -1 := by rw [hr17]; exact c203
                        refine wp_bind2 (o_X10_isDry M_10 r_17 (by omega)) (fun r_18 he215 hq215 => ?_)
                        obtain ⟨hz_r_18, hr_215⟩ := hq215
                        replace hr_215 : ¬ r_18.toInt = 0 → (M_10 1 (ix r_17)).toInt = 1 := hr_215
                        refine wp_ite (fun c218 => ?_) (fun c218 => ?_)
                        · exact j225
                        · exact j237 (nI 1)
          · exact wp_some ⟨(fun _ _ _ => rfl), (by show 0 ≤ (M 0 6).toInt ∧ (M 0 6).toInt ≤ 260; have f0 := (by decide : ((-1 : Int32)).toInt = -1); omega), (by show (M 0 6).toInt = _; rw [if_neg (by omega)])⟩
theorem o3_X10_feed (M : Mem) (v1 : Int32) (v2 : Int32) (v3 : Int32) (v4 : Int32) (v5 : Int32) (ht : 0 ≤ (M 0 6).toInt ∧ (M 0 6).toInt ≤ 260) : Wp (f_X10_feed M v1 v2 v3 v4 v5) (fun q => (∀ a i, ¬ ((a = 0 ∧ i = 6) ∨ a = 5) → q.2 a i = M a i) ∧ (0 ≤ (q.2 0 6).toInt ∧ (q.2 0 6).toInt ≤ 260) ∧ ((q.2 0 6).toInt = (if (M 0 6).toInt + 20 ≤ 260 then (M 0 6).toInt + 20 else (M 0 6).toInt)) ∧ (q.1.toInt = (if (M 0 6).toInt + 20 ≤ 260 then (M 0 6).toInt + 20 else -1))) := by
  have hf0 := t_add (M 0 6) (nI 20)
  have hf1 := t_lit 20
  refine wp_ite (fun c10 => ?_) (fun c10 => ?_)
  · refine wp_bind2 (o_X10_types M v1 (by have f0 := t_lit 20; have f1 := t_add (M 0 6) (nI 20); omega)) (fun M_1 he17 hq17 => ?_)
    obtain ⟨hg_M_1, ht_17⟩ := hq17
    replace ht_17 : (M_1 0 6).toInt = (M 0 6).toInt + 4 := ht_17
    replace hg_M_1 : ∀ a i, ¬ ((a = 0 ∧ i = 6) ∨ a = 5) → M_1 a i = M a i := hg_M_1
    refine wp_bind2 (o_X10_types M_1 v2 (by omega)) (fun M_2 he22 hq22 => ?_)
    obtain ⟨hg_M_2, ht_22⟩ := hq22
    replace ht_22 : (M_2 0 6).toInt = (M_1 0 6).toInt + 4 := ht_22
    replace hg_M_2 : ∀ a i, ¬ ((a = 0 ∧ i = 6) ∨ a = 5) → M_2 a i = M_1 a i := hg_M_2
    refine wp_bind2 (o_X10_types M_2 v3 (by omega)) (fun M_3 he27 hq27 => ?_)
    obtain ⟨hg_M_3, ht_27⟩ := hq27
    replace ht_27 : (M_3 0 6).toInt = (M_2 0 6).toInt + 4 := ht_27
    replace hg_M_3 : ∀ a i, ¬ ((a = 0 ∧ i = 6) ∨ a = 5) → M_3 a i = M_2 a i := hg_M_3
    refine wp_bind2 (o_X10_types M_3 v4 (by omega)) (fun M_4 he33 hq33 => ?_)
    obtain ⟨hg_M_4, ht_33⟩ := hq33
    replace ht_33 : (M_4 0 6).toInt = (M_3 0 6).toInt + 4 := ht_33
    replace hg_M_4 : ∀ a i, ¬ ((a = 0 ∧ i = 6) ∨ a = 5) → M_4 a i = M_3 a i := hg_M_4
    refine wp_bind2 (o_X10_types M_4 v5 (by omega)) (fun M_5 he39 hq39 => ?_)
    obtain ⟨hg_M_5, ht_39⟩ := hq39
    replace ht_39 : (M_5 0 6).toInt = (M_4 0 6).toInt + 4 := ht_39
    replace hg_M_5 : ∀ a i, ¬ ((a = 0 ∧ i = 6) ∨ a = 5) → M_5 a i = M_4 a i := hg_M_5
    exact wp_some ⟨(fun a i q0 => ((hg_M_5 a i (fun z8 => q0 ((fun z9 => Or.elim z9 (fun h9 => Or.inl h9) (fun h9 => Or.inr (h9))) z8))).trans ((hg_M_4 a i (fun z8 => q0 ((fun z9 => Or.elim z9 (fun h9 => Or.inl h9) (fun h9 => Or.inr (h9))) z8))).trans ((hg_M_3 a i (fun z8 => q0 ((fun z9 => Or.elim z9 (fun h9 => Or.inl h9) (fun h9 => Or.inr (h9))) z8))).trans ((hg_M_2 a i (fun z8 => q0 ((fun z9 => Or.elim z9 (fun h9 => Or.inl h9) (fun h9 => Or.inr (h9))) z8))).trans ((hg_M_1 a i (fun z8 => q0 ((fun z9 => Or.elim z9 (fun h9 => Or.inl h9) (fun h9 => Or.inr (h9))) z8))).trans rfl)))))), (by show 0 ≤ (M_5 0 6).toInt ∧ (M_5 0 6).toInt ≤ 260; omega), (by show (M_5 0 6).toInt = _; rw [if_pos (by omega)]; omega), (by show (M_5 0 6).toInt = _; rw [if_pos (by omega)]; omega)⟩
  · exact wp_some ⟨(fun _ _ _ => rfl), (by show 0 ≤ (M 0 6).toInt ∧ (M 0 6).toInt ≤ 260; have f0 := (by decide : ((-1 : Int32)).toInt = -1); have f1 := t_lit 20; have f2 := t_add (M 0 6) (nI 20); omega), (by show (M 0 6).toInt = _; rw [if_neg (by omega)]), (by show (-1 : Int32).toInt = _; rw [if_neg (by omega)]; decide)⟩
theorem o3_X9_person (M : Mem) (v1 : Int32) (v2 : Int32) : Wp (f_X9_person M v1 v2) (fun q => (q.1 = 0 ∨ q.1 = 1) ∧ (∀ a i, ¬ (a = 43) → q.2 a i = M a i) ∧ (q.2 43 = (if (0 ≤ v1.toInt ∧ v1.toInt < 8) ∧ 1 ≤ v2.toInt ∧ v2.toInt ≤ 30 then upd (M 43) (ix v1) v2 else M 43))) := by
  refine wp_ite (fun c1 => ?_) (fun c1 => ?_)
  · exact wp_some ⟨b01_0, (fun _ _ _ => rfl), (if_neg (by omega)).symm⟩
  · refine wp_ite (fun c7 => ?_) (fun c7 => ?_)
    · exact wp_some ⟨b01_0, (fun _ _ _ => rfl), (if_neg (by omega)).symm⟩
    · refine wp_bind2 (o2_X9_isStride M v2) (fun r_1 he11 hq11 => ?_)
      obtain ⟨hz_r_1, hr_11⟩ := hq11
      replace hr_11 : ¬ r_1.toInt = 0 ↔ 1 ≤ v2.toInt ∧ v2.toInt ≤ 30 := hr_11
      refine wp_ite (fun c14 => ?_) (fun c14 => ?_)
      · exact wp_some ⟨b01_0, (fun _ _ _ => rfl), (if_neg (by omega)).symm⟩
      · refine wp_gd (by omega) ?_
        refine wp_bnd (fun M_2 eM_2 => ?_)
        exact wp_some ⟨b01_1, (fun a i q0 => ((congrFun (congrFun eM_2 a) i).trans ((mset_ne (fun h9 => q0 ((h9).1))).trans rfl))), (by show M_2 43 = _; rw [if_pos (by omega), eM_2, mset_s])⟩
theorem o3_X10_person (M : Mem) (v1 : Int32) (v2 : Int32) : Wp (f_X10_person M v1 v2) (fun q => (q.1 = 0 ∨ q.1 = 1) ∧ (∀ a i, ¬ ((a = 0 ∧ i = 4) ∨ a = 4) → q.2 a i = M a i) ∧ (q.2 0 4 = (if (0 ≤ v1.toInt ∧ v1.toInt < 8) ∧ 1 ≤ v2.toInt ∧ v2.toInt ≤ 30 then (M 0 4) ||| (shl (nI 1) v1) else M 0 4))) := by
  refine wp_bind2 (o2_X10_in M v1 (nI 0) (nI 7)) (fun r_1 he4 hq4 => ?_)
  obtain ⟨hz_r_1, hr_4, hi_4⟩ := hq4
  replace hr_4 : ¬ r_1.toInt = 0 → (nI 0).toInt ≤ v1.toInt ∧ v1.toInt ≤ (nI 7).toInt := hr_4
  have := t_lit 0
  have := t_lit 7
  replace hi_4 : ¬ r_1.toInt = 0 ↔ (nI 0).toInt ≤ v1.toInt ∧ v1.toInt ≤ (nI 7).toInt := hi_4
  have := t_lit 0
  have := t_lit 7
  refine wp_ite (fun c7 => ?_) (fun c7 => ?_)
  · exact wp_some ⟨b01_0, (fun _ _ _ => rfl), (if_neg (by omega)).symm⟩
  · refine wp_bind2 (o2_X10_in M v2 (nI 1) (nI 30)) (fun r_2 he14 hq14 => ?_)
    obtain ⟨hz_r_2, hr_14, hi_14⟩ := hq14
    replace hr_14 : ¬ r_2.toInt = 0 → (nI 1).toInt ≤ v2.toInt ∧ v2.toInt ≤ (nI 30).toInt := hr_14
    have := t_lit 1
    have := t_lit 30
    replace hi_14 : ¬ r_2.toInt = 0 ↔ (nI 1).toInt ≤ v2.toInt ∧ v2.toInt ≤ (nI 30).toInt := hi_14
    have := t_lit 1
    have := t_lit 30
    refine wp_ite (fun c17 => ?_) (fun c17 => ?_)
    · exact wp_some ⟨b01_0, (fun _ _ _ => rfl), (if_neg (by omega)).symm⟩
    · refine wp_bnd (fun M_3 eM_3 => ?_)
      refine wp_gd (by omega) ?_
      refine wp_bnd (fun M_4 eM_4 => ?_)
      exact wp_some ⟨b01_1, (fun a i q0 => ((congrFun (congrFun eM_4 a) i).trans ((mset_ne (fun h9 => q0 (Or.inr ((h9).1)))).trans ((congrFun (congrFun eM_3 a) i).trans ((mset_ne (fun h9 => q0 (Or.inl h9))).trans rfl))))), (by show M_4 0 4 = _; rw [if_pos (by omega), eM_4, mset_ne (by first | exact nz1 (by decide) | exact nz2 (by decide) | exact nz1 (nzA hc0 (by decide)) | exact nz1 (nzE (by decide)) | exact nz1 (nzB hc0 (by decide)) | exact nz1 (nzC hc0 (by decide)) | exact nz1 (nzD hc0 (by decide)) | exact nz1 (nzF (by decide)) | exact nz1 (nzG (by decide)) | omega), eM_3, mset_eq])⟩
/-! the tape's bytes -/
def by8 (v : Int32) (k : Nat) : Int32 := (shr v (nI (24 - 8 * k))) &&& (nI 255)
def tpn (f : Nat → Int32) (s : Nat) (v : Int32) (k : Nat) : Nat → Int32 := fun j => if s ≤ j ∧ j < s + k then by8 v (j - s) else f j
theorem tpn_0 (f : Nat → Int32) (s : Nat) (v : Int32) : tpn f s v 0 = f := funext (fun j => by
  unfold tpn
  rw [if_neg (by omega)])
theorem tpn_s {f g : Nat → Int32} {s k : Nat} {v x : Int32} (h : g = tpn f s v k) (hx : x = by8 v k) : upd g (s + k) x = tpn f s v (k + 1) := funext (fun j => by
  unfold upd
  by_cases e : j = s + k
  · rw [if_pos e, hx]
    unfold tpn
    rw [if_pos (by omega), show j - s = k from by omega]
  · rw [if_neg e, h]
    unfold tpn
    by_cases c : s ≤ j ∧ j < s + k
    · rw [if_pos c, if_pos (by omega)]
    · rw [if_neg c, if_neg (by omega)])
def tp5 (f : Nat → Int32) (s : Nat) (a b c d e : Int32) : Nat → Int32 := tpn (tpn (tpn (tpn (tpn f s a 4) (s + 4) b 4) (s + 8) c 4) (s + 12) d 4) (s + 16) e 4
theorem tpn_T {f g : Nat → Int32} {s : Nat} {v : Int32} (h : ∀ j, j < s → f j = g j) : ∀ j, j < s + 4 → tpn f s v 4 j = tpn g s v 4 j := fun j hj => by
  unfold tpn
  by_cases c : s ≤ j ∧ j < s + 4
  · rw [if_pos c, if_pos c]
  · rw [if_neg c, if_neg c]
    exact h j (by omega)
theorem tp5_T {f g : Nat → Int32} {s : Nat} {a b c d e : Int32} (h : ∀ j, j < s → f j = g j) : ∀ j, j < s + 20 → tp5 f s a b c d e j = tp5 g s a b c d e j := by
  have h1 := tpn_T (v := a) h
  have h2 := tpn_T (v := b) h1
  have h3 := tpn_T (v := c) h2
  have h4 := tpn_T (v := d) h3
  exact tpn_T (v := e) h4
/-- a byte that is laid down is read as its last eight bits -/
theorem by_255 : ∀ i, i < 32 → (255#32).getLsbD i = decide (i < 8) := by decide
theorem nar_255 (x : Int32) : (vp_nar .byte (i2b x)) &&& (nI 255) = x &&& (nI 255) := by
  have e : (nI 255).toBitVec = (255#32) := by decide +kernel
  have hb : ∀ y : Int32, (y.toInt8.toInt32).toBitVec = (y.toBitVec.signExtend 8).signExtend 32 := fun _ => rfl
  have hk : ∀ y : Int32, (y.toInt8.toInt32 &&& nI 255) = y &&& nI 255 := fun y => by
    apply Int32.toBitVec_inj.mp
    rw [Int32.toBitVec_and, Int32.toBitVec_and, hb, e]
    apply BitVec.eq_of_getLsbD_eq
    intro i hi
    rw [BitVec.getLsbD_and, BitVec.getLsbD_and, by_255 i hi]
    by_cases c : i < 8
    · rw [BitVec.getLsbD_signExtend, BitVec.getLsbD_signExtend]
      simp [c, hi]
    · simp [c]
  show (x.toInt8.toInt32).toInt8.toInt32 &&& nI 255 = x &&& nI 255
  rw [hk, hk]
theorem t_dec8 (x : Int32) (h1 : -2147483600 ≤ x.toInt) : (x + (-8)).toInt = x.toInt - 8 := by
  have f0 := t_add x (-8)
  have f1 : ((-8 : Int32)).toInt = -8 := by decide
  omega
/-! letters in two bags -/
def bg (t : Nat → Int) (m : Int32) : Nat → Int
  | 0 => 0
  | n + 1 => bg t m n + (if ((shr m (nI n)) &&& (nI 1)).toInt = 0 then -(t n) else t n)
theorem bg_s (t : Nat → Int) (m : Int32) (n : Nat) : bg t m (n + 1) = bg t m n + (if ((shr m (nI n)) &&& (nI 1)).toInt = 0 then -(t n) else t n) := rfl
theorem bg_bd {t : Nat → Int} {m : Int32} : ∀ {n : Nat}, (∀ j, j < n → 0 ≤ t j ∧ t j ≤ 255) → -255 * (n : Int) ≤ bg t m n ∧ bg t m n ≤ 255 * (n : Int)
  | 0, _ => by simp [bg]
  | n + 1, h => by
    have h1 := bg_bd (m := m) (n := n) (fun j hj => h j (by omega))
    have h2 := h n (by omega)
    rw [bg_s]
    by_cases c : ((shr m (nI n)) &&& (nI 1)).toInt = 0
    · rw [if_pos c]; omega
    · rw [if_neg c]; omega
theorem and1 (x : Int32) : (x &&& nI 1).toInt = 0 ∨ (x &&& nI 1).toInt = 1 := by
  have e : (nI 1).toBitVec = (1 : BitVec 32) := by decide +kernel
  have hl : (x.toBitVec &&& (1 : BitVec 32)).toNat ≤ 1 := by
    rw [BitVec.toNat_and]
    exact Nat.and_le_right
  have h : (x &&& nI 1).toInt = ((x.toBitVec &&& (1 : BitVec 32)).toNat : Int) := by
    show (x.toBitVec &&& (nI 1).toBitVec).toInt = _
    rw [e, BitVec.toInt_eq_toNat_cond, if_pos (by omega)]
  rw [h]
  omega
def zz (t : Nat → Int) : Nat → Bool
  | 0 => false
  | n + 1 => zz t n || decide (t n = 0)
def mk1 (i : Nat) : Int32 := nI (2 * i + 1)
def iab (x : Int) : Int := if 0 ≤ x then x else -x
theorem iab_bd (x : Int) : 0 ≤ iab x ∧ x ≤ iab x ∧ -x ≤ iab x ∧ (iab x = x ∨ iab x = -x) := by
  unfold iab
  by_cases c : 0 ≤ x
  · rw [if_pos c]; omega
  · rw [if_neg c]; omega
def bi (t : Nat → Int) (n : Nat) : Nat → Nat
  | 0 => 0
  | k + 1 => if iab (bg t (mk1 k) n) < iab (bg t (mk1 (bi t n k)) n) then k else bi t n k
theorem bi_s (t : Nat → Int) (n k : Nat) : bi t n (k + 1) = if iab (bg t (mk1 k) n) < iab (bg t (mk1 (bi t n k)) n) then k else bi t n k := rfl
theorem bi_le (t : Nat → Int) (n : Nat) : ∀ k, bi t n k ≤ k
  | 0 => Nat.le_refl _
  | k + 1 => by
    have h := bi_le t n k
    rw [bi_s]
    by_cases c : iab (bg t (mk1 k) n) < iab (bg t (mk1 (bi t n k)) n)
    · rw [if_pos c]; omega
    · rw [if_neg c]; omega
theorem bi_1 (t : Nat → Int) (n : Nat) : bi t n 1 = 0 := by
  have := bi_s t n 0
  rw [this]
  show (if iab (bg t (mk1 0) n) < iab (bg t (mk1 0) n) then 0 else 0) = 0
  rw [if_neg (by omega)]
def lett (t : Nat → Int) (n : Nat) (w : Int) : Int := if zz t n = true then -2 else if w = 0 then iab (bg t (mk1 (bi t n (2 ^ (n - 1)))) n) else (mk1 (bi t n (2 ^ (n - 1)))).toInt
theorem zz_ext {t u : Nat → Int} : ∀ n, (∀ j, j < n → t j = u j) → zz t n = zz u n
  | 0, _ => rfl
  | n + 1, h => by
    show (zz t n || decide (t n = 0)) = (zz u n || decide (u n = 0))
    rw [zz_ext n (fun j hj => h j (by omega)), h n (by omega)]
theorem bg_ext {t u : Nat → Int} {m : Int32} : ∀ n, (∀ j, j < n → t j = u j) → bg t m n = bg u m n
  | 0, _ => rfl
  | n + 1, h => by rw [bg_s, bg_s, bg_ext n (fun j hj => h j (by omega)), h n (by omega)]
theorem bi_ext {t u : Nat → Int} {n : Nat} (h : ∀ j, j < n → t j = u j) : ∀ k, bi t n k = bi u n k
  | 0 => rfl
  | k + 1 => by rw [bi_s, bi_s, bi_ext h k, bg_ext n h, bg_ext n h]
theorem lett_ext {t u : Nat → Int} {n : Nat} {w : Int} (h : ∀ j, j < n → t j = u j) : lett t n w = lett u n w := by
  unfold lett
  rw [zz_ext n h, bi_ext h, bg_ext n h]
theorem mk1_is {i : Nat} (h : i < 128) : (mk1 i).toInt = 2 * (i : Int) + 1 := by
  have := t_lit (2 * i + 1) (by omega)
  unfold mk1
  omega
theorem shl_pow : ∀ n, n < 9 → (shl (nI 1) (nI n)).toInt = ((2 ^ n : Nat) : Int) := by decide +kernel
theorem pow_half : ∀ n, n < 9 → 1 ≤ n → 2 ^ n = 2 * 2 ^ (n - 1) ∧ 1 ≤ 2 ^ (n - 1) ∧ 2 ^ (n - 1) ≤ 128 := by decide +kernel
theorem ab_is {x : Int32} (h : -100000 ≤ x.toInt ∧ x.toInt ≤ 100000) : (ab x).toInt = iab x.toInt := by
  have z : (0 : Int32).toInt = 0 := rfl
  unfold ab iab
  by_cases c : 0 ≤ x.toInt
  · rw [if_pos c, if_pos (by rw [Int32.le_iff_toInt_le, z]; exact c)]
  · rw [if_neg c, if_neg (by rw [Int32.le_iff_toInt_le, z]; exact c)]
    have h1 := t_sub 0 x
    omega
theorem zz_hit {t : Nat → Int} {j : Nat} (h : t j = 0) : ∀ n, j < n → zz t n = true
  | 0, hj => absurd hj (Nat.not_lt_zero _)
  | n + 1, hj => by
    show (zz t n || decide (t n = 0)) = true
    by_cases e : j = n
    · rw [← e, decide_eq_true h, Bool.or_true]
    · rw [zz_hit h n (by omega), Bool.true_or]
theorem zz_no {t : Nat → Int} {n : Nat} (h : zz t n = false) (hn : ¬ t n = 0) : zz t (n + 1) = false := by
  show (zz t n || decide (t n = 0)) = false
  rw [h, decide_eq_false hn]
  rfl
theorem shl_half {v : Int32} (h : 1 ≤ v.toInt ∧ v.toInt ≤ 8) : (shl (nI 1) v).toInt = 2 * ((2 ^ (ix v - 1) : Nat) : Int) ∧ 1 ≤ 2 ^ (ix v - 1) ∧ 2 ^ (ix v - 1) ≤ 128 := by
  have e := t_ixn v (by omega)
  have h1 := shl_pow (ix v) (by omega)
  have h2 := pow_half (ix v) (by omega) (by omega)
  rw [nI_ix (by omega)] at h1
  rw [h1, h2.1]
  exact ⟨by simp, h2.2.1, h2.2.2⟩
theorem lett_2 {t : Nat → Int} {n : Nat} {w : Int} (h : zz t n = true) : lett t n w = -2 := by
  unfold lett
  rw [if_pos h]
theorem lett_0 {t : Nat → Int} {n : Nat} {w : Int} (h : zz t n = false) (hw : w = 0) : lett t n w = iab (bg t (mk1 (bi t n (2 ^ (n - 1)))) n) := by
  unfold lett
  rw [if_neg (by rw [h]; decide), if_pos hw]
theorem lett_1 {t : Nat → Int} {n : Nat} {w : Int} (h : zz t n = false) (hw : ¬ w = 0) : lett t n w = (mk1 (bi t n (2 ^ (n - 1)))).toInt := by
  unfold lett
  rw [if_neg (by rw [h]; decide), if_neg hw]
theorem row_and {M M1 : Mem} {i : Nat} {x : Int32} (e : M1 = mset M 5 i x) : (fun j => (M1 5 j) &&& (nI 255)) = upd (fun j => (M 5 j) &&& (nI 255)) i (x &&& (nI 255)) := funext (fun j => by
  rw [e, mset_get]
  unfold upd
  by_cases c : j = i
  · rw [if_pos c, if_pos ⟨rfl, c⟩]
  · rw [if_neg c, if_neg (fun z => c z.2)])
def TT (MC MM : Mem) : Prop := ∀ j : Nat, (j : Int) < (MM 0 6).toInt → MC 20 j = (MM 5 j) &&& (nI 255)
theorem tt_fr {MC MM MC1 MM1 : Mem} (h : TT MC MM) (hl : (MM1 0 6).toInt ≤ (MM 0 6).toInt) (e20 : ∀ j, MC1 20 j = MC 20 j) (e5 : ∀ j, MM1 5 j = MM 5 j) : TT MC1 MM1 := fun j hj => by
  rw [e20, e5]
  exact h j (by omega)
theorem tt_b {MC MM : Mem} (h : TT MC MM) (e : MC 19 1 = MM 0 6) : ∀ j : Nat, (j : Int) < (MC 19 1).toInt → 0 ≤ (MC 20 j).toInt ∧ (MC 20 j).toInt ≤ 255 := fun j hj => by
  rw [e] at hj
  rw [h j hj]
  exact and255 _
theorem sz_le {a x : Int32} {C : Prop} {dC : Decidable C} (h0 : 0 ≤ x.toInt) (h : a.toInt = @ite _ C dC 0 x.toInt) : a.toInt ≤ x.toInt := by
  rw [h]
  by_cases c : C
  · rw [if_pos c]; exact h0
  · rw [if_neg c]; exact Int.le_refl _
theorem tt_feed {MC MM MC1 MM1 : Mem} {a b c d e : Int32} (h : TT MC MM) (es : MC 19 1 = MM 0 6) (h0 : 0 ≤ (MM 0 6).toInt) (h1 : MC1 20 = (if (MC 19 1).toInt + 20 ≤ 260 then tp5 (MC 20) (ix (MC 19 1)) a b c d e else MC 20)) (h2 : (fun j => (MM1 5 j) &&& (nI 255)) = (if (MM 0 6).toInt + 20 ≤ 260 then tp5 (fun j => (MM 5 j) &&& (nI 255)) (ix (MM 0 6)) a b c d e else (fun j => (MM 5 j) &&& (nI 255)))) (h3 : (MM1 0 6).toInt = (if (MM 0 6).toInt + 20 ≤ 260 then (MM 0 6).toInt + 20 else (MM 0 6).toInt)) : TT MC1 MM1 := fun j hj => by
  have e9 := congrFun h2 j
  have e8 := t_ixn (MM 0 6) h0
  show MC1 20 j = (MM1 5 j) &&& (nI 255)
  rw [e9, h1, es]
  by_cases q : (MM 0 6).toInt + 20 ≤ 260
  · rw [if_pos q, if_pos q]
    rw [if_pos q] at h3
    exact tp5_T (fun k hk => h k (by omega)) j (by omega)
  · rw [if_neg q, if_neg q]
    rw [if_neg q] at h3
    exact h j (by omega)
theorem lt_eq {r1 r2 : Int32} {t u : Nat → Int} {v1 v2 : Int32} {C D : Prop} {dC : Decidable C} {dD : Decidable D} (h : C ↔ D) (ht : D → ∀ j, j < ix v1 → t j = u j) (h1 : r1.toInt = @ite _ C dC (lett t (ix v1) v2.toInt) (-1)) (h2 : r2.toInt = @ite _ D dD (lett u (ix v1) v2.toInt) (-1)) : r1 = r2 := t_of (by
  rw [h1, h2]
  by_cases c : C
  · rw [if_pos c, if_pos (h.mp c)]
    exact lett_ext (ht (h.mp c))
  · rw [if_neg c, if_neg (fun z => c (h.mpr z))])

theorem bi_new {t : Nat → Int} {n k : Nat} {y3 y4 y5 r4 r5 : Int32} (h : (k = 0 ∧ y4.toInt = 1000000) ∨ (1 ≤ k ∧ y3 = mk1 (bi t n k) ∧ y4.toInt = iab (bg t (mk1 (bi t n k)) n))) (e5 : y5 = mk1 k) (h4 : r4.toInt = iab (bg t (mk1 k) n)) (h5 : r5.toInt = iab (bg t (mk1 k) n)) (c : r4.toInt < y4.toInt) : 1 ≤ k + 1 ∧ y5 = mk1 (bi t n (k + 1)) ∧ r5.toInt = iab (bg t (mk1 (bi t n (k + 1))) n) := by
  have e : bi t n (k + 1) = k := by
    rcases h with q | q
    · rw [q.1]; exact bi_1 t n
    · rw [bi_s, if_pos (by rw [← q.2.2, ← h4]; exact c)]
  rw [e]
  exact ⟨by omega, e5, h5⟩
theorem bi_old {t : Nat → Int} {n k : Nat} {y3 y4 r4 : Int32} (h : (k = 0 ∧ y4.toInt = 1000000) ∨ (1 ≤ k ∧ y3 = mk1 (bi t n k) ∧ y4.toInt = iab (bg t (mk1 (bi t n k)) n))) (h4 : r4.toInt = iab (bg t (mk1 k) n)) (c : ¬ r4.toInt < y4.toInt) (hb : iab (bg t (mk1 k) n) < 1000000) : 1 ≤ k + 1 ∧ y3 = mk1 (bi t n (k + 1)) ∧ y4.toInt = iab (bg t (mk1 (bi t n (k + 1))) n) := by
  rcases h with q | q
  · omega
  · have e : bi t n (k + 1) = bi t n k := by rw [bi_s, if_neg (by rw [← q.2.2, ← h4]; exact c)]
    rw [e]
    exact ⟨by omega, q.2.1, q.2.2⟩
theorem o4_X7_byteAt (M : Mem) (v1 : Int32) : Wp (f_X7_byteAt M v1) (fun q => (0 ≤ v1.toInt → v1.toInt < (M 19 2).toInt → v1.toInt < 260 → q = M 20 (ix v1))) := by
  refine wp_ite (fun c1 => ?_) (fun c1 => ?_)
  · exact wp_some (fun h1 h2 h3 => by omega)
  · refine wp_ite (fun c9 => ?_) (fun c9 => ?_)
    · exact wp_some (fun h1 h2 h3 => by omega)
    · refine wp_ite (fun c16 => ?_) (fun c16 => ?_)
      · exact wp_some (fun h1 h2 h3 => by omega)
      · refine wp_gd (by omega) ?_
        exact wp_some (fun _ _ _ => rfl)
theorem o4_X7_open (M : Mem) (v1 : Int32) : Wp (f_X7_open M v1) (fun q => (∀ a i, ¬ ((a = 19 ∧ i = 1) ∨ (a = 19 ∧ i = 2) ∨ (a = 19 ∧ i = 3) ∨ (a = 19 ∧ i = 4)) → q a i = M a i) ∧ (q 19 1 = nI 0) ∧ (q 19 2 = v1)) := by
  refine wp_bnd (fun M_1 eM_1 => ?_)
  refine wp_bnd (fun M_2 eM_2 => ?_)
  refine wp_bnd (fun M_3 eM_3 => ?_)
  refine wp_bnd (fun M_4 eM_4 => ?_)
  exact wp_some ⟨(fun a i q0 => ((congrFun (congrFun eM_4 a) i).trans ((mset_ne (fun h9 => q0 (Or.inl h9))).trans ((congrFun (congrFun eM_3 a) i).trans ((mset_ne (fun h9 => q0 (Or.inr (Or.inr (Or.inr (h9)))))).trans ((congrFun (congrFun eM_2 a) i).trans ((mset_ne (fun h9 => q0 (Or.inr (Or.inr (Or.inl h9))))).trans ((congrFun (congrFun eM_1 a) i).trans ((mset_ne (fun h9 => q0 (Or.inr (Or.inl h9)))).trans rfl))))))))), (by rw [eM_4, mset_eq]), (by rw [eM_4, mset_ne (by first | exact nz1 (by decide) | exact nz2 (by decide) | exact nz1 (nzA hc0 (by decide)) | exact nz1 (nzE (by decide)) | exact nz1 (nzB hc0 (by decide)) | exact nz1 (nzC hc0 (by decide)) | exact nz1 (nzD hc0 (by decide)) | exact nz1 (nzF (by decide)) | exact nz1 (nzG (by decide)) | omega), eM_3, mset_ne (by first | exact nz1 (by decide) | exact nz2 (by decide) | exact nz1 (nzA hc0 (by decide)) | exact nz1 (nzE (by decide)) | exact nz1 (nzB hc0 (by decide)) | exact nz1 (nzC hc0 (by decide)) | exact nz1 (nzD hc0 (by decide)) | exact nz1 (nzF (by decide)) | exact nz1 (nzG (by decide)) | omega), eM_2, mset_ne (by first | exact nz1 (by decide) | exact nz2 (by decide) | exact nz1 (nzA hc0 (by decide)) | exact nz1 (nzE (by decide)) | exact nz1 (nzB hc0 (by decide)) | exact nz1 (nzC hc0 (by decide)) | exact nz1 (nzD hc0 (by decide)) | exact nz1 (nzF (by decide)) | exact nz1 (nzG (by decide)) | omega), eM_1, mset_eq])⟩
theorem o4_X9_unlike (M : Mem) (v1 : Int32) (v2 : Int32) (hn : 0 ≤ v2.toInt ∧ v2.toInt ≤ 8 ∧ v2.toInt ≤ (M 19 2).toInt) (hB : ∀ j : Nat, (j : Int) < v2.toInt → 0 ≤ (M 20 j).toInt ∧ (M 20 j).toInt ≤ 255) : Wp (f_X9_unlike M v1 v2) (fun q => (q.toInt = iab (bg (fun j => (M 20 j).toInt) v1 (ix v2)))) := by
  have ft1 := t_rng v2
  refine wp_lp2 (fun y3_5 y4_5 => (0 ≤ y4_5.toInt) ∧ (y4_5.toInt ≤ v2.toInt ∧ y3_5.toInt = bg (fun j => (M 20 j).toInt) v1 (ix y4_5))) (fun y3_5 y4_5 => (v2.toInt - y4_5.toInt).toNat) (fun ag5 y3_5 y4_5 hI5 ih5 => ?_) FU (nI 0) (nI 0) ⟨(by have f0 := t_lit 0; omega), ⟨by have := t_lit 0; omega, by rw [show ix (nI 0) = 0 from (by decide)]; exact nI0⟩⟩ (fu_lt (by have f0 := t_lit 0; omega))
  obtain ⟨hi5, h5⟩ := hI5
  have fy := t_ixn y4_5 (by omega)
  have hbb := bg_bd (t := (fun j => (M 20 j).toInt)) (m := v1) (n := ix y4_5) (fun j hj => hB j (by omega))
  have j51 : (v2.toInt ≤ y4_5.toInt) → Wp (f_X9_unlike_L51 y3_5) (fun q => (q.toInt = iab (bg (fun j => (M 20 j).toInt) v1 (ix v2)))) := by
    intro h51
    unfold f_X9_unlike_L51
    exact wp_some (by show (ab y3_5).toInt = iab (bg (fun j => (M 20 j).toInt) v1 (ix v2)); rw [ab_is (by omega), h5.2, t_of (show y4_5.toInt = v2.toInt by omega)])
  refine wp_ite (fun c8 => ?_) (fun c8 => ?_)
  · exact j51 (by omega)
  · have hi := i_up (x := y4_5) (by omega)
    have hby := hB (ix y4_5) (by omega)
    have ej : nI (ix y4_5) = y4_5 := nI_ix (by omega)
    refine wp_ite (fun c18 => ?_) (fun c18 => ?_)
    · refine wp_bind2 (o4_X7_byteAt M y4_5) (fun r_1 he39 hq39 => ?_)
      have hb_39 := hq39
      replace hb_39 : 0 ≤ y4_5.toInt → y4_5.toInt < (M 19 2).toInt → y4_5.toInt < 260 → r_1 = M 20 (ix y4_5) := hb_39
      refine wp_bnd (fun x_2 ex_2 => ?_)
      have hr1 := hb_39 (by omega) (by omega) (by omega)
      have hx2 : x_2.toInt = y3_5.toInt - (M 20 (ix y4_5)).toInt := by
        have f1 := t_neg r_1
        have f2 := t_add y3_5 (-r_1)
        rw [ex_2]
        rw [hr1] at f1 f2 ⊢
        omega
      exact ih5 x_2 (y4_5 + (nI 1)) ⟨(by have f0 := t_lit 1; have f1 := t_add y4_5 (nI 1); omega), ⟨by omega, by rw [hi.1, bg_s, ej, if_pos c18, ← h5.2, hx2]; omega⟩⟩ (by have f0 := t_lit 1; have f1 := t_add y4_5 (nI 1); omega)
    · refine wp_bind2 (o4_X7_byteAt M y4_5) (fun r_3 he27 hq27 => ?_)
      have hb_27 := hq27
      replace hb_27 : 0 ≤ y4_5.toInt → y4_5.toInt < (M 19 2).toInt → y4_5.toInt < 260 → r_3 = M 20 (ix y4_5) := hb_27
      refine wp_bnd (fun x_4 ex_4 => ?_)
      have hr1 := hb_27 (by omega) (by omega) (by omega)
      have hx4 : x_4.toInt = y3_5.toInt + (M 20 (ix y4_5)).toInt := by
        have f2 := t_add y3_5 r_3
        rw [ex_4]
        rw [hr1] at f2 ⊢
        omega
      exact ih5 x_4 (y4_5 + (nI 1)) ⟨(by have f0 := t_lit 1; have f1 := t_add y4_5 (nI 1); omega), ⟨by omega, by rw [hi.1, bg_s, ej, if_neg c18, ← h5.2, hx4]⟩⟩ (by have f0 := t_lit 1; have f1 := t_add y4_5 (nI 1); omega)
set_option maxHeartbeats 2000000 in
theorem o4_X9_evenBag (M : Mem) (v1 : Int32) (hn : 1 ≤ v1.toInt ∧ v1.toInt ≤ 8 ∧ v1.toInt ≤ (M 19 2).toInt) (hB : ∀ j : Nat, (j : Int) < v1.toInt → 0 ≤ (M 20 j).toInt ∧ (M 20 j).toInt ≤ 255) : Wp (f_X9_evenBag M v1) (fun q => (q = mk1 (bi (fun j => (M 20 j).toInt) (ix v1) (2 ^ (ix v1 - 1))))) := by
  have hsh := shl_half (v := v1) (by omega)
  obtain ⟨P, hP⟩ : ∃ P : Nat, 2 ^ (ix v1 - 1) = P := ⟨_, rfl⟩
  rw [hP] at hsh
  refine wp_lp2 (fun y2_4 y3_4 => (∃ k : Nat, k ≤ P ∧ y3_4.toInt = 2 * (k : Int) + 1 ∧ y2_4 = mk1 (bi (fun j => (M 20 j).toInt) (ix v1) k))) (fun y2_4 y3_4 => (300 - y3_4.toInt).toNat) (fun ag4 y2_4 y3_4 hI4 ih4 => ?_) FU (nI 1) (nI 1) ⟨0, by omega, by decide, rfl⟩ (fu_lt ((by have := t_lit 1; omega)))
  have h4 := hI4
  obtain ⟨k, hk1, hk2, hk3⟩ := h4
  refine wp_ite (fun c8 => ?_) (fun c8 => ?_)
  · exact wp_some (by show y2_4 = mk1 (bi (fun j => (M 20 j).toInt) (ix v1) (2 ^ (ix v1 - 1))); rw [hP, hk3, show k = P from (by omega)])
  · have ey3 : y3_4 = mk1 k := t_of (by rw [mk1_is (by omega)]; omega)
    have hi := t_inc y3_4 2 (by omega)
    refine wp_bind2 (o4_X9_unlike M y3_4 v1 (by omega) hB) (fun r_1 he14 hq14 => ?_)
    have hu_14 := hq14
    replace hu_14 : r_1.toInt = iab (bg (fun j => (M 20 j).toInt) y3_4 (ix v1)) := hu_14
    refine wp_bind2 (o4_X9_unlike M y2_4 v1 (by omega) hB) (fun r_2 he20 hq20 => ?_)
    have hu_20 := hq20
    replace hu_20 : r_2.toInt = iab (bg (fun j => (M 20 j).toInt) y2_4 (ix v1)) := hu_20
    refine wp_ite (fun c23 => ?_) (fun c23 => ?_)
    · exact ih4 y2_4 (y3_4 + (nI 2)) ⟨k + 1, by omega, by omega, by rw [bi_s, if_neg (by rw [← ey3, ← hk3, ← hu_14, ← hu_20]; omega)]; exact hk3⟩ (by omega)
    · exact ih4 y3_4 (y3_4 + (nI 2)) ⟨k + 1, by omega, by omega, by rw [bi_s, if_pos (by rw [← ey3, ← hk3, ← hu_14, ← hu_20]; omega)]; exact ey3⟩ (by omega)
set_option maxHeartbeats 4000000 in
theorem o4_X9_letters (M : Mem) (v1 : Int32) (v2 : Int32) (hB : ∀ j : Nat, (j : Int) < (M 19 1).toInt → 0 ≤ (M 20 j).toInt ∧ (M 20 j).toInt ≤ 255) : Wp (f_X9_letters M v1 v2) (fun q => (∀ a i, ¬ ((a = 19 ∧ i = 1) ∨ (a = 19 ∧ i = 2) ∨ (a = 19 ∧ i = 3) ∨ (a = 19 ∧ i = 4)) → q.2 a i = M a i) ∧ ((q.2 19 1).toInt = (if (0 ≤ v2.toInt ∧ v2.toInt ≤ 1) ∧ 1 ≤ v1.toInt ∧ v1.toInt ≤ 8 ∧ v1.toInt ≤ (M 19 1).toInt then 0 else (M 19 1).toInt)) ∧ (q.1.toInt = (if (0 ≤ v2.toInt ∧ v2.toInt ≤ 1) ∧ 1 ≤ v1.toInt ∧ v1.toInt ≤ 8 ∧ v1.toInt ≤ (M 19 1).toInt then lett (fun j => (M 20 j).toInt) (ix v1) v2.toInt else -1))) := by
  refine wp_bind2 (o3_X9_isEither M v2) (fun r_1 he1 hq1 => ?_)
  obtain ⟨hz_r_1, hr_1⟩ := hq1
  replace hr_1 : ¬ r_1.toInt = 0 ↔ 0 ≤ v2.toInt ∧ v2.toInt ≤ 1 := hr_1
  refine wp_ite (fun c4 => ?_) (fun c4 => ?_)
  · exact wp_some ⟨(fun _ _ _ => rfl), (by show (M 19 1).toInt = _; rw [if_neg (by omega)]), (by show (-1 : Int32).toInt = _; rw [if_neg (by omega)]; decide)⟩
  · refine wp_bind2 (o3_X7_holds M v1 (nI 1) (nI 8)) (fun r_2 he15 hq15 => ?_)
    obtain ⟨hz_r_2, hr_15⟩ := hq15
    replace hr_15 : ¬ r_2.toInt = 0 ↔ (nI 1).toInt ≤ v1.toInt ∧ v1.toInt ≤ (nI 8).toInt ∧ v1.toInt ≤ (M 19 1).toInt := hr_15
    have := t_lit 1
    have := t_lit 8
    refine wp_ite (fun c18 => ?_) (fun c18 => ?_)
    · exact wp_some ⟨(fun _ _ _ => rfl), (by show (M 19 1).toInt = _; rw [if_neg (by omega)]), (by show (-1 : Int32).toInt = _; rw [if_neg (by omega)]; decide)⟩
    · refine wp_bind2 (o4_X7_open M v1) (fun M_3 he28 hq28 => ?_)
      obtain ⟨hg_M_3, hS_28, hE_28⟩ := hq28
      replace hS_28 : M_3 19 1 = nI 0 := hS_28
      replace hE_28 : M_3 19 2 = v1 := hE_28
      replace hg_M_3 : ∀ a i, ¬ ((a = 19 ∧ i = 1) ∨ (a = 19 ∧ i = 2) ∨ (a = 19 ∧ i = 3) ∨ (a = 19 ∧ i = 4)) → M_3 a i = M a i := hg_M_3
      have e20 : M_3 20 = M 20 := funext (fun i => hg_M_3 20 i (by first | decide | (rcases hc0 with h | h <;> rw [h] <;> simp; done) | (rcases hb0 with h | h | h <;> rw [h] <;> simp; done) | (simp; done) | omega))
      have hend := congrArg Int32.toInt hE_28
      have hB3 : ∀ j : Nat, (j : Int) < v1.toInt → 0 ≤ (M_3 20 j).toInt ∧ (M_3 20 j).toInt ≤ 255 := fun j hj => by rw [e20]; exact hB j (by omega)
      have ft1 := t_rng v1
      refine wp_lp1 (fun y3_33 => (0 ≤ y3_33.toInt) ∧ (y3_33.toInt ≤ v1.toInt ∧ zz (fun j => (M 20 j).toInt) (ix y3_33) = false)) (fun y3_33 => (v1.toInt - y3_33.toInt).toNat) (fun ag33 y3_33 hI33 ih33 => ?_) FU (nI 0) ⟨(by have f0 := t_lit 0; omega), ⟨by have := t_lit 0; omega, by rw [show ix (nI 0) = 0 from (by decide)]; rfl⟩⟩ (fu_lt (by have f0 := t_lit 0; omega))
      obtain ⟨hi33, h33⟩ := hI33
      have j58 : (zz (fun j => (M 20 j).toInt) (ix v1) = false) → Wp (f_X9_letters_L58 v1 v2 M_3) (fun q => (∀ a i, ¬ ((a = 19 ∧ i = 1) ∨ (a = 19 ∧ i = 2) ∨ (a = 19 ∧ i = 3) ∨ (a = 19 ∧ i = 4)) → q.2 a i = M a i) ∧ ((q.2 19 1).toInt = (if (0 ≤ v2.toInt ∧ v2.toInt ≤ 1) ∧ 1 ≤ v1.toInt ∧ v1.toInt ≤ 8 ∧ v1.toInt ≤ (M 19 1).toInt then 0 else (M 19 1).toInt)) ∧ (q.1.toInt = (if (0 ≤ v2.toInt ∧ v2.toInt ≤ 1) ∧ 1 ≤ v1.toInt ∧ v1.toInt ≤ 8 ∧ v1.toInt ≤ (M 19 1).toInt then lett (fun j => (M 20 j).toInt) (ix v1) v2.toInt else -1))) := by
        intro h58
        unfold f_X9_letters_L58
        refine wp_bind2 (o4_X9_evenBag M_3 v1 (by omega) hB3) (fun r_4 he60 hq60 => ?_)
        have hm_60 := hq60
        replace hm_60 : r_4 = mk1 (bi (fun j => (M_3 20 j).toInt) (ix v1) (2 ^ (ix v1 - 1))) := hm_60
        rw [e20] at hm_60
        refine wp_ite (fun c65 => ?_) (fun c65 => ?_)
        · refine wp_bind2 (o4_X9_unlike M_3 r_4 v1 (by omega) hB3) (fun r_5 he71 hq71 => ?_)
          have hu_71 := hq71
          replace hu_71 : r_5.toInt = iab (bg (fun j => (M_3 20 j).toInt) r_4 (ix v1)) := hu_71
          rw [e20] at hu_71
          exact wp_some ⟨(fun a i q0 => ((hg_M_3 a i (fun z8 => q0 ((fun z9 => Or.elim z9 (fun h9 => Or.inl h9) (fun z9 => Or.elim z9 (fun h9 => Or.inr (Or.inl h9)) (fun z9 => Or.elim z9 (fun h9 => Or.inr (Or.inr (Or.inl h9))) (fun h9 => Or.inr (Or.inr (Or.inr (h9))))))) z8))).trans rfl)), (by show (M_3 19 1).toInt = _; rw [if_pos (by omega), show M_3 19 1 = M_3 19 1 from rfl, hS_28]; exact nI0), (by show r_5.toInt = _; rw [if_pos (by omega), lett_0 h58 c65, hu_71, hm_60])⟩
        · exact wp_some ⟨(fun a i q0 => ((hg_M_3 a i (fun z8 => q0 ((fun z9 => Or.elim z9 (fun h9 => Or.inl h9) (fun z9 => Or.elim z9 (fun h9 => Or.inr (Or.inl h9)) (fun z9 => Or.elim z9 (fun h9 => Or.inr (Or.inr (Or.inl h9))) (fun h9 => Or.inr (Or.inr (Or.inr (h9))))))) z8))).trans rfl)), (by show (M_3 19 1).toInt = _; rw [if_pos (by omega), show M_3 19 1 = M_3 19 1 from rfl, hS_28]; exact nI0), (by show r_4.toInt = _; rw [if_pos (by omega), lett_1 h58 c65, hm_60])⟩
      refine wp_ite (fun c35 => ?_) (fun c35 => ?_)
      · exact j58 (by rw [← t_of (show y3_33.toInt = v1.toInt by omega)]; exact h33.2)
      · have fy := t_ixn y3_33 (by omega)
        have hi := i_up (x := y3_33) (by omega)
        refine wp_bind2 (o4_X7_byteAt M_3 y3_33) (fun r_6 he43 hq43 => ?_)
        have hb_43 := hq43
        replace hb_43 : 0 ≤ y3_33.toInt → y3_33.toInt < (M_3 19 2).toInt → y3_33.toInt < 260 → r_6 = M_3 20 (ix y3_33) := hb_43
        have hr6 := hb_43 (by omega) (by omega) (by omega)
        rw [e20] at hr6
        refine wp_ite (fun c46 => ?_) (fun c46 => ?_)
        · exact wp_some ⟨(fun a i q0 => ((hg_M_3 a i (fun z8 => q0 ((fun z9 => Or.elim z9 (fun h9 => Or.inl h9) (fun z9 => Or.elim z9 (fun h9 => Or.inr (Or.inl h9)) (fun z9 => Or.elim z9 (fun h9 => Or.inr (Or.inr (Or.inl h9))) (fun h9 => Or.inr (Or.inr (Or.inr (h9))))))) z8))).trans rfl)), (by show (M_3 19 1).toInt = _; rw [if_pos (by omega), show M_3 19 1 = M_3 19 1 from rfl, hS_28]; exact nI0), (by show (-2 : Int32).toInt = _; rw [if_pos (by omega), lett_2 (zz_hit (j := ix y3_33) (by show (M 20 (ix y3_33)).toInt = 0; rw [← hr6]; exact c46) _ (by have := t_ixn v1 (by omega); omega))]; decide)⟩
        · exact ih33 (y3_33 + (nI 1)) ⟨(by have f0 := t_lit 1; have f1 := t_add y3_33 (nI 1); omega), ⟨by omega, by rw [hi.1]; exact zz_no h33.2 (by show ¬ (M 20 (ix y3_33)).toInt = 0; rw [← hr6]; exact c46)⟩⟩ (by have f0 := t_lit 1; have f1 := t_add y3_33 (nI 1); omega)
theorem o4_X7_append (M : Mem) (v1 : Int32) (hs0 : 0 ≤ (M 19 1).toInt ∧ (M 19 1).toInt ≤ 256) : Wp (f_X7_append M v1) (fun q => (∀ a i, ¬ ((a = 19 ∧ i = 1) ∨ a = 20) → q a i = M a i) ∧ ((q 19 1).toInt = (M 19 1).toInt + 4) ∧ (q 20 = tpn (M 20) (ix (M 19 1)) v1 4)) := by
  refine wp_lp2 (fun M3 y2_3 => (y2_3.toInt ≤ 24) ∧ (∀ a i, ¬ ((a = 19 ∧ i = 1) ∨ a = 20) → M3 a i = M a i) ∧ ((y2_3.toInt = 24 ∨ y2_3.toInt = 16 ∨ y2_3.toInt = 8 ∨ y2_3.toInt = 0 ∨ y2_3.toInt = -8) ∧ 8 * (M3 19 1).toInt = 8 * (M 19 1).toInt + 24 - y2_3.toInt) ∧ (M3 20 = tpn (M 20) (ix (M 19 1)) v1 (ix (M3 19 1) - ix (M 19 1)))) (fun M3 y2_3 => (y2_3.toInt - 0 + 1).toNat) (fun ag3 M3 y2_3 hI3 ih3 => ?_) FU M (nI 24) ⟨(by have f0 := t_lit 24; omega), (fun _ _ _ => rfl), (by have := t_lit 24; omega), (by rw [Nat.sub_self, tpn_0])⟩ (fu_lt (by have f0 := t_lit 24; omega))
  obtain ⟨hi3, hf_M3, h3, hb3⟩ := hI3
  refine wp_ite (fun c4 => ?_) (fun c4 => ?_)
  · exact wp_some ⟨(fun a i q0 => ((hf_M3 a i (fun z8 => q0 ((fun z9 => Or.elim z9 (fun h9 => Or.inl h9) (fun h9 => Or.inr (h9))) z8))).trans rfl)), (by omega), (by have fs := t_ixn (M 19 1) (by omega); have f3 := t_ixn (M3 19 1) (by omega); rw [hb3, show ix (M3 19 1) - ix (M 19 1) = 4 from (by omega)])⟩
  · have t8 := t_dec8 y2_3 (by omega)
    refine wp_ite (fun c11 => ?_) (fun c11 => ?_)
    · exact ih3 M3 (y2_3 + (-8)) ⟨(by rw [t8]; omega), (fun a i q0 => ((hf_M3 a i (fun z8 => q0 ((fun z9 => Or.elim z9 (fun h9 => Or.inl h9) (fun h9 => Or.inr (h9))) z8))).trans rfl)), (by rw [t8]; omega), (False.elim (by omega))⟩ (by rw [t8]; omega)
    · refine wp_ite (fun c21 => ?_) (fun c21 => ?_)
      · exact ih3 M3 (y2_3 + (-8)) ⟨(by rw [t8]; omega), (fun a i q0 => ((hf_M3 a i (fun z8 => q0 ((fun z9 => Or.elim z9 (fun h9 => Or.inl h9) (fun h9 => Or.inr (h9))) z8))).trans rfl)), (by rw [t8]; omega), (False.elim (by omega))⟩ (by rw [t8]; omega)
      · refine wp_gd (by omega) ?_
        refine wp_bnd (fun M_1 eM_1 => ?_)
        refine wp_bnd (fun M_2 eM_2 => ?_)
        have fs := t_ixn (M 19 1) (by omega)
        have f3 := t_ixn (M3 19 1) (by omega)
        obtain ⟨k, hk⟩ : ∃ k : Nat, ix (M3 19 1) = ix (M 19 1) + k := ⟨ix (M3 19 1) - ix (M 19 1), by omega⟩
        have hb4 : M3 20 = tpn (M 20) (ix (M 19 1)) v1 k := by rw [hb3, show ix (M3 19 1) - ix (M 19 1) = k from (by omega)]
        have ey : y2_3 = nI (24 - 8 * k) := t_nI (by omega) (by omega)
        have hb5 : M_2 20 = tpn (M 20) (ix (M 19 1)) v1 (k + 1) := by
          rw [eM_2, mset_n (by omega), eM_1, mset_s, hk]
          exact tpn_s hb4 (by rw [ey]; rfl)
        have hm1 : M_2 19 1 = M3 19 1 + nI 1 := by rw [eM_2, mset_eq, eM_1, mset_ne (by first | exact nz1 (by decide) | exact nz2 (by decide) | exact nz1 (nzA hc0 (by decide)) | exact nz1 (nzE (by decide)) | exact nz1 (nzB hc0 (by decide)) | exact nz1 (nzC hc0 (by decide)) | exact nz1 (nzD hc0 (by decide)) | exact nz1 (nzF (by decide)) | exact nz1 (nzG (by decide)) | omega)]
        have hup := i_up (x := M3 19 1) (by omega)
        rw [← hm1] at hup
        exact ih3 M_2 (y2_3 + (-8)) ⟨(by rw [t8]; omega), (fun a i q0 => ((congrFun (congrFun eM_2 a) i).trans ((mset_ne (fun h9 => q0 (Or.inl h9))).trans ((congrFun (congrFun eM_1 a) i).trans ((mset_ne (fun h9 => q0 (Or.inr ((h9).1)))).trans ((hf_M3 a i (fun z8 => q0 ((fun z9 => Or.elim z9 (fun h9 => Or.inl h9) (fun h9 => Or.inr (h9))) z8))).trans rfl)))))), (by rw [t8, hup.2]; omega), (by rw [hb5, hup.1, show ix (M3 19 1) + 1 - ix (M 19 1) = k + 1 from (by omega)])⟩ (by rw [t8]; omega)
theorem o4_X9_feed (M : Mem) (v1 : Int32) (v2 : Int32) (v3 : Int32) (v4 : Int32) (v5 : Int32) (hs0 : 0 ≤ (M 19 1).toInt ∧ (M 19 1).toInt ≤ 260) : Wp (f_X9_feed M v1 v2 v3 v4 v5) (fun q => (∀ a i, ¬ ((a = 19 ∧ i = 1) ∨ a = 20) → q.2 a i = M a i) ∧ ((q.2 19 1).toInt = (if (M 19 1).toInt + 20 ≤ 260 then (M 19 1).toInt + 20 else (M 19 1).toInt)) ∧ (q.1.toInt = (if (M 19 1).toInt + 20 ≤ 260 then (M 19 1).toInt + 20 else -1)) ∧ (q.2 20 = (if (M 19 1).toInt + 20 ≤ 260 then tp5 (M 20) (ix (M 19 1)) v1 v2 v3 v4 v5 else M 20))) := by
  have ff := t_inc (M 19 1) 20 (by omega)
  refine wp_ite (fun c13 => ?_) (fun c13 => ?_)
  · refine wp_bind2 (o4_X7_append M v1 (by omega)) (fun M_1 he23 hq23 => ?_)
    obtain ⟨hg_M_1, hS_23, hB_23⟩ := hq23
    replace hS_23 : (M_1 19 1).toInt = (M 19 1).toInt + 4 := hS_23
    replace hB_23 : M_1 20 = tpn (M 20) (ix (M 19 1)) v1 4 := hB_23
    replace hg_M_1 : ∀ a i, ¬ ((a = 19 ∧ i = 1) ∨ a = 20) → M_1 a i = M a i := hg_M_1
    have i1 : ix (M_1 19 1) = ix (M 19 1) + 4 := by (have := t_ixn (M_1 19 1) (by omega)); (have := t_ixn (M 19 1) (by omega)); omega
    refine wp_bind2 (o4_X7_append M_1 v2 (by omega)) (fun M_2 he31 hq31 => ?_)
    obtain ⟨hg_M_2, hS_31, hB_31⟩ := hq31
    replace hS_31 : (M_2 19 1).toInt = (M_1 19 1).toInt + 4 := hS_31
    replace hB_31 : M_2 20 = tpn (M_1 20) (ix (M_1 19 1)) v2 4 := hB_31
    replace hg_M_2 : ∀ a i, ¬ ((a = 19 ∧ i = 1) ∨ a = 20) → M_2 a i = M_1 a i := hg_M_2
    have i2 : ix (M_2 19 1) = ix (M 19 1) + 8 := by (have := t_ixn (M_2 19 1) (by omega)); (have := t_ixn (M 19 1) (by omega)); omega
    refine wp_bind2 (o4_X7_append M_2 v3 (by omega)) (fun M_3 he39 hq39 => ?_)
    obtain ⟨hg_M_3, hS_39, hB_39⟩ := hq39
    replace hS_39 : (M_3 19 1).toInt = (M_2 19 1).toInt + 4 := hS_39
    replace hB_39 : M_3 20 = tpn (M_2 20) (ix (M_2 19 1)) v3 4 := hB_39
    replace hg_M_3 : ∀ a i, ¬ ((a = 19 ∧ i = 1) ∨ a = 20) → M_3 a i = M_2 a i := hg_M_3
    have i3 : ix (M_3 19 1) = ix (M 19 1) + 12 := by (have := t_ixn (M_3 19 1) (by omega)); (have := t_ixn (M 19 1) (by omega)); omega
    refine wp_bind2 (o4_X7_append M_3 v4 (by omega)) (fun M_4 he48 hq48 => ?_)
    obtain ⟨hg_M_4, hS_48, hB_48⟩ := hq48
    replace hS_48 : (M_4 19 1).toInt = (M_3 19 1).toInt + 4 := hS_48
    replace hB_48 : M_4 20 = tpn (M_3 20) (ix (M_3 19 1)) v4 4 := hB_48
    replace hg_M_4 : ∀ a i, ¬ ((a = 19 ∧ i = 1) ∨ a = 20) → M_4 a i = M_3 a i := hg_M_4
    have i4 : ix (M_4 19 1) = ix (M 19 1) + 16 := by (have := t_ixn (M_4 19 1) (by omega)); (have := t_ixn (M 19 1) (by omega)); omega
    refine wp_bind2 (o4_X7_append M_4 v5 (by omega)) (fun M_5 he57 hq57 => ?_)
    obtain ⟨hg_M_5, hS_57, hB_57⟩ := hq57
    replace hS_57 : (M_5 19 1).toInt = (M_4 19 1).toInt + 4 := hS_57
    replace hB_57 : M_5 20 = tpn (M_4 20) (ix (M_4 19 1)) v5 4 := hB_57
    replace hg_M_5 : ∀ a i, ¬ ((a = 19 ∧ i = 1) ∨ a = 20) → M_5 a i = M_4 a i := hg_M_5
    exact wp_some ⟨(fun a i q0 => ((hg_M_5 a i (fun z8 => q0 ((fun z9 => Or.elim z9 (fun h9 => Or.inl h9) (fun h9 => Or.inr (h9))) z8))).trans ((hg_M_4 a i (fun z8 => q0 ((fun z9 => Or.elim z9 (fun h9 => Or.inl h9) (fun h9 => Or.inr (h9))) z8))).trans ((hg_M_3 a i (fun z8 => q0 ((fun z9 => Or.elim z9 (fun h9 => Or.inl h9) (fun h9 => Or.inr (h9))) z8))).trans ((hg_M_2 a i (fun z8 => q0 ((fun z9 => Or.elim z9 (fun h9 => Or.inl h9) (fun h9 => Or.inr (h9))) z8))).trans ((hg_M_1 a i (fun z8 => q0 ((fun z9 => Or.elim z9 (fun h9 => Or.inl h9) (fun h9 => Or.inr (h9))) z8))).trans rfl)))))), (by show (M_5 19 1).toInt = _; rw [if_pos (by omega)]; omega), (by show (M_5 19 1).toInt = _; rw [if_pos (by omega)]; omega), (by show M_5 20 = _; rw [if_pos (by omega), hB_57, hB_48, hB_39, hB_31, hB_23, i4, i3, i2, i1]; rfl)⟩
  · exact wp_some ⟨(fun _ _ _ => rfl), (by show (M 19 1).toInt = _; rw [if_neg (by omega)]), (by show (-1 : Int32).toInt = _; rw [if_neg (by omega)]; decide), (if_neg (by omega)).symm⟩
theorem o4_X10_octet (M : Mem) (v1 : Int32) (hv : 0 ≤ v1.toInt ∧ v1.toInt < 260) : Wp (f_X10_octet M v1) (fun q => (q = (M 5 (ix v1)) &&& (nI 255))) := by
  refine wp_gd (by omega) ?_
  exact wp_some rfl
theorem o4_X10_size (M : Mem) (v0 : Int32) : Wp (f_X10_size v0) (fun q => (-1000000 ≤ v0.toInt → q.toInt = iab v0.toInt)) := by
  refine wp_ite (fun c1 => ?_) (fun c1 => ?_)
  · exact wp_some (fun _ => (by show v0.toInt = iab v0.toInt; unfold iab; rw [if_pos c1]))
  · exact wp_some (fun z => (by show (-v0).toInt = iab v0.toInt; have f1 := t_neg v0; unfold iab; rw [if_neg c1]; omega))
set_option maxHeartbeats 8000000 in
theorem o4_X10_letters (M : Mem) (v1 : Int32) (v2 : Int32) (ht : 0 ≤ (M 0 6).toInt ∧ (M 0 6).toInt ≤ 260) : Wp (f_X10_letters M v1 v2) (fun q => (∀ a i, ¬ ((a = 0 ∧ i = 6)) → q.2 a i = M a i) ∧ (0 ≤ (q.2 0 6).toInt ∧ (q.2 0 6).toInt ≤ 260) ∧ ((q.2 0 6).toInt = (if (0 ≤ v2.toInt ∧ v2.toInt ≤ 1) ∧ 1 ≤ v1.toInt ∧ v1.toInt ≤ 8 ∧ v1.toInt ≤ (M 0 6).toInt then 0 else (M 0 6).toInt)) ∧ (q.1.toInt = (if (0 ≤ v2.toInt ∧ v2.toInt ≤ 1) ∧ 1 ≤ v1.toInt ∧ v1.toInt ≤ 8 ∧ v1.toInt ≤ (M 0 6).toInt then lett (fun j => ((M 5 j) &&& (nI 255)).toInt) (ix v1) v2.toInt else -1))) := by
  refine wp_bind2 (o2_X10_in M v1 (nI 1) (nI 8)) (fun r_1 he4 hq4 => ?_)
  obtain ⟨hz_r_1, hr_4, hi_4⟩ := hq4
  replace hr_4 : ¬ r_1.toInt = 0 → (nI 1).toInt ≤ v1.toInt ∧ v1.toInt ≤ (nI 8).toInt := hr_4
  have := t_lit 1
  have := t_lit 8
  replace hi_4 : ¬ r_1.toInt = 0 ↔ (nI 1).toInt ≤ v1.toInt ∧ v1.toInt ≤ (nI 8).toInt := hi_4
  have := t_lit 1
  have := t_lit 8
  refine wp_ite (fun c7 => ?_) (fun c7 => ?_)
  · exact wp_some ⟨(fun _ _ _ => rfl), ht, (by show (M 0 6).toInt = _; rw [if_neg (by omega)]), (by show (-1 : Int32).toInt = _; rw [if_neg (by omega)]; decide)⟩
  · refine wp_bind2 (o2_X10_in M v2 (nI 0) (nI 1)) (fun r_2 he13 hq13 => ?_)
    obtain ⟨hz_r_2, hr_13, hi_13⟩ := hq13
    replace hr_13 : ¬ r_2.toInt = 0 → (nI 0).toInt ≤ v2.toInt ∧ v2.toInt ≤ (nI 1).toInt := hr_13
    have := t_lit 0
    have := t_lit 1
    replace hi_13 : ¬ r_2.toInt = 0 ↔ (nI 0).toInt ≤ v2.toInt ∧ v2.toInt ≤ (nI 1).toInt := hi_13
    have := t_lit 0
    have := t_lit 1
    refine wp_ite (fun c16 => ?_) (fun c16 => ?_)
    · exact wp_some ⟨(fun _ _ _ => rfl), ht, (by show (M 0 6).toInt = _; rw [if_neg (by omega)]), (by show (-1 : Int32).toInt = _; rw [if_neg (by omega)]; decide)⟩
    · refine wp_ite (fun c24 => ?_) (fun c24 => ?_)
      · refine wp_bnd (fun M_3 eM_3 => ?_)
        have e5 : M_3 5 = M 5 := by rw [eM_3, mset_n (by omega)]
        have hsh := shl_half (v := v1) (by omega)
        obtain ⟨P, hP⟩ : ∃ P : Nat, 2 ^ (ix v1 - 1) = P := ⟨_, rfl⟩
        rw [hP] at hsh
        have fv1 := t_ixn v1 (by omega)
        have ft1 := t_rng v1
        refine wp_lp1 (fun y3_36 => (0 ≤ y3_36.toInt) ∧ (y3_36.toInt ≤ v1.toInt ∧ zz (fun j => ((M 5 j) &&& (nI 255)).toInt) (ix y3_36) = false)) (fun y3_36 => (v1.toInt - y3_36.toInt).toNat) (fun ag36 y3_36 hI36 ih36 => ?_) FU (nI 0) ⟨(by have f0 := t_lit 0; omega), ⟨by have := t_lit 0; omega, by rw [show ix (nI 0) = 0 from (by decide)]; rfl⟩⟩ (fu_lt (by have f0 := t_lit 0; omega))
        obtain ⟨hi36, h36⟩ := hI36
        have j58 : (zz (fun j => ((M 5 j) &&& (nI 255)).toInt) (ix v1) = false) → Wp (f_X10_letters_L58 v1 v2 M_3) (fun q => (∀ a i, ¬ ((a = 0 ∧ i = 6)) → q.2 a i = M a i) ∧ (0 ≤ (q.2 0 6).toInt ∧ (q.2 0 6).toInt ≤ 260) ∧ ((q.2 0 6).toInt = (if (0 ≤ v2.toInt ∧ v2.toInt ≤ 1) ∧ 1 ≤ v1.toInt ∧ v1.toInt ≤ 8 ∧ v1.toInt ≤ (M 0 6).toInt then 0 else (M 0 6).toInt)) ∧ (q.1.toInt = (if (0 ≤ v2.toInt ∧ v2.toInt ≤ 1) ∧ 1 ≤ v1.toInt ∧ v1.toInt ≤ 8 ∧ v1.toInt ≤ (M 0 6).toInt then lett (fun j => ((M 5 j) &&& (nI 255)).toInt) (ix v1) v2.toInt else -1))) := by
          intro h58
          unfold f_X10_letters_L58
          refine wp_lp3 (fun y3_68 y4_68 y5_68 => (∃ k : Nat, k ≤ P ∧ y5_68.toInt = 2 * (k : Int) + 1 ∧ ((k = 0 ∧ y4_68.toInt = 1000000) ∨ (1 ≤ k ∧ y3_68 = mk1 (bi (fun j => ((M 5 j) &&& (nI 255)).toInt) (ix v1) k) ∧ y4_68.toInt = iab (bg (fun j => ((M 5 j) &&& (nI 255)).toInt) (mk1 (bi (fun j => ((M 5 j) &&& (nI 255)).toInt) (ix v1) k)) (ix v1)))))) (fun y3_68 y4_68 y5_68 => (300 - y5_68.toInt).toNat) (fun ag68 y3_68 y4_68 y5_68 hI68 ih68 => ?_) FU (nI 0) (nI 1000000) (nI 1) ⟨0, by omega, by decide, Or.inl ⟨rfl, t_lit 1000000⟩⟩ (fu_lt ((by have := t_lit 1; omega)))
          have h68 := hI68
          obtain ⟨k, hk1, hk2, hk3⟩ := h68
          have j157 : (2 * (P : Int) ≤ y5_68.toInt) → Wp (f_X10_letters_L157 v2 M_3 y3_68 y4_68) (fun q => (∀ a i, ¬ ((a = 0 ∧ i = 6)) → q.2 a i = M a i) ∧ (0 ≤ (q.2 0 6).toInt ∧ (q.2 0 6).toInt ≤ 260) ∧ ((q.2 0 6).toInt = (if (0 ≤ v2.toInt ∧ v2.toInt ≤ 1) ∧ 1 ≤ v1.toInt ∧ v1.toInt ≤ 8 ∧ v1.toInt ≤ (M 0 6).toInt then 0 else (M 0 6).toInt)) ∧ (q.1.toInt = (if (0 ≤ v2.toInt ∧ v2.toInt ≤ 1) ∧ 1 ≤ v1.toInt ∧ v1.toInt ≤ 8 ∧ v1.toInt ≤ (M 0 6).toInt then lett (fun j => ((M 5 j) &&& (nI 255)).toInt) (ix v1) v2.toInt else -1))) := by
            intro h157
            unfold f_X10_letters_L157
            refine wp_ite (fun c158 => ?_) (fun c158 => ?_)
            · exact wp_some ⟨(fun a i q0 => ((congrFun (congrFun eM_3 a) i).trans ((mset_ne (fun h9 => q0 (h9))).trans rfl))), (by show 0 ≤ (M_3 0 6).toInt ∧ (M_3 0 6).toInt ≤ 260; rw [eM_3, mset_eq]; decide), (by show (M_3 0 6).toInt = _; rw [if_pos (by omega), show M_3 0 6 = M_3 0 6 from rfl, eM_3, mset_eq]; exact nI0), (by show y4_68.toInt = _; rw [if_pos (by omega), lett_0 h58 c158, hP]; have h9 := hk3.resolve_left (by omega); rw [show P = k from (by omega)]; exact h9.2.2)⟩
            · exact wp_some ⟨(fun a i q0 => ((congrFun (congrFun eM_3 a) i).trans ((mset_ne (fun h9 => q0 (h9))).trans rfl))), (by show 0 ≤ (M_3 0 6).toInt ∧ (M_3 0 6).toInt ≤ 260; rw [eM_3, mset_eq]; decide), (by show (M_3 0 6).toInt = _; rw [if_pos (by omega), show M_3 0 6 = M_3 0 6 from rfl, eM_3, mset_eq]; exact nI0), (by show y3_68.toInt = _; rw [if_pos (by omega), lett_1 h58 c158, hP]; have h9 := hk3.resolve_left (by omega); rw [show P = k from (by omega), h9.2.1])⟩
          refine wp_ite (fun c73 => ?_) (fun c73 => ?_)
          · exact j157 (by omega)
          · refine wp_lp2 (fun y6_82 y7_82 => (0 ≤ y7_82.toInt) ∧ (y7_82.toInt ≤ v1.toInt ∧ y6_82.toInt = bg (fun j => ((M 5 j) &&& (nI 255)).toInt) y5_68 (ix y7_82))) (fun y6_82 y7_82 => (v1.toInt - y7_82.toInt).toNat) (fun ag82 y6_82 y7_82 hI82 ih82 => ?_) FU (nI 0) (nI 0) ⟨(by have f0 := t_lit 0; omega), ⟨by have := t_lit 0; omega, by rw [show ix (nI 0) = 0 from (by decide)]; exact nI0⟩⟩ (fu_lt (by have f0 := t_lit 0; omega))
            obtain ⟨hi82, h82⟩ := hI82
            have fy7 := t_ixn y7_82 (by omega)
            have hbb := bg_bd (t := (fun j => ((M 5 j) &&& (nI 255)).toInt)) (m := y5_68) (n := ix y7_82) (fun j _ => and255 (M 5 j))
            have j125 : (v1.toInt ≤ y7_82.toInt) → Wp (f_X10_letters_L125 ag68 y3_68 y4_68 y5_68 y6_82) (fun q => (∀ a i, ¬ ((a = 0 ∧ i = 6)) → q.2 a i = M a i) ∧ (0 ≤ (q.2 0 6).toInt ∧ (q.2 0 6).toInt ≤ 260) ∧ ((q.2 0 6).toInt = (if (0 ≤ v2.toInt ∧ v2.toInt ≤ 1) ∧ 1 ≤ v1.toInt ∧ v1.toInt ≤ 8 ∧ v1.toInt ≤ (M 0 6).toInt then 0 else (M 0 6).toInt)) ∧ (q.1.toInt = (if (0 ≤ v2.toInt ∧ v2.toInt ≤ 1) ∧ 1 ≤ v1.toInt ∧ v1.toInt ≤ 8 ∧ v1.toInt ≤ (M 0 6).toInt then lett (fun j => ((M 5 j) &&& (nI 255)).toInt) (ix v1) v2.toInt else -1))) := by
              intro h125
              unfold f_X10_letters_L125
              have ey5 : y5_68 = mk1 k := t_of (by rw [mk1_is (by omega)]; omega)
              have ey7 : ix y7_82 = ix v1 := by rw [t_of (show y7_82.toInt = v1.toInt by omega)]
              have h6 : y6_82.toInt = bg (fun j => ((M 5 j) &&& (nI 255)).toInt) (mk1 k) (ix v1) := by rw [h82.2, ey5, ey7]
              have hi5 := t_inc y5_68 2 (by omega)
              have hab := iab_bd (bg (fun j => ((M 5 j) &&& (nI 255)).toInt) (mk1 k) (ix v1))
              refine wp_bind2 (o4_X10_size M_3 y6_82) (fun r_4 he127 hq127 => ?_)
              have hz0_127 := hq127
              replace hz0_127 : -1000000 ≤ y6_82.toInt → r_4.toInt = iab y6_82.toInt := hz0_127
              have hz4 := hz0_127 (by omega)
              rw [h6] at hz4
              refine wp_ite (fun c132 => ?_) (fun c132 => ?_)
              · refine wp_bind2 (o4_X10_size M_3 y6_82) (fun r_5 he140 hq140 => ?_)
                have hz0_140 := hq140
                replace hz0_140 : -1000000 ≤ y6_82.toInt → r_5.toInt = iab y6_82.toInt := hz0_140
                have hz5 := hz0_140 (by omega)
                rw [h6] at hz5
                exact ih68 y5_68 r_5 (y5_68 + (nI 2)) ⟨k + 1, by omega, by omega, Or.inr (bi_new hk3 ey5 hz4 hz5 c132)⟩ (by omega)
              · exact ih68 y3_68 y4_68 (y5_68 + (nI 2)) ⟨k + 1, by omega, by omega, Or.inr (bi_old hk3 hz4 c132 (by omega))⟩ (by omega)
            refine wp_ite (fun c85 => ?_) (fun c85 => ?_)
            · exact j125 (by omega)
            · have hi7 := i_up (x := y7_82) (by omega)
              have ej : nI (ix y7_82) = y7_82 := nI_ix (by omega)
              have ha := and255 (M 5 (ix y7_82))
              have h1 := and1 (shr y5_68 y7_82)
              refine wp_bind2 (o3_X10_has M_3 y5_68 y7_82) (fun r_6 he94 hq94 => ?_)
              obtain ⟨hz_r_6, hi_94⟩ := hq94
              replace hi_94 : ¬ r_6.toInt = 0 ↔ ((shr y5_68 y7_82) &&& (nI 1)).toInt = 1 := hi_94
              refine wp_ite (fun c97 => ?_) (fun c97 => ?_)
              · refine wp_bind2 (o4_X10_octet M_3 y7_82 (by omega)) (fun r_7 he112 hq112 => ?_)
                have hb_112 := hq112
                replace hb_112 : r_7 = (M_3 5 (ix y7_82)) &&& (nI 255) := hb_112
                refine wp_bnd (fun x_8 ex_8 => ?_)
                rw [e5] at hb_112
                have hx8 : x_8.toInt = y6_82.toInt - ((M 5 (ix y7_82)) &&& (nI 255)).toInt := by
                  have f1 := t_neg r_7
                  have f2 := t_add y6_82 (-r_7)
                  rw [ex_8]
                  rw [hb_112] at f1 f2 ⊢
                  omega
                exact ih82 x_8 (y7_82 + (nI 1)) ⟨(by have f0 := t_lit 1; have f1 := t_add y7_82 (nI 1); omega), ⟨by omega, by rw [hi7.1, bg_s, ej, if_pos (by omega), ← h82.2, hx8]; omega⟩⟩ (by have f0 := t_lit 1; have f1 := t_add y7_82 (nI 1); omega)
              · refine wp_bind2 (o4_X10_octet M_3 y7_82 (by omega)) (fun r_9 he103 hq103 => ?_)
                have hb_103 := hq103
                replace hb_103 : r_9 = (M_3 5 (ix y7_82)) &&& (nI 255) := hb_103
                refine wp_bnd (fun x_10 ex_10 => ?_)
                rw [e5] at hb_103
                have hx10 : x_10.toInt = y6_82.toInt + ((M 5 (ix y7_82)) &&& (nI 255)).toInt := by
                  have f2 := t_add y6_82 r_9
                  rw [ex_10]
                  rw [hb_103] at f2 ⊢
                  omega
                exact ih82 x_10 (y7_82 + (nI 1)) ⟨(by have f0 := t_lit 1; have f1 := t_add y7_82 (nI 1); omega), ⟨by omega, by rw [hi7.1, bg_s, ej, if_neg (by omega), ← h82.2, hx10]⟩⟩ (by have f0 := t_lit 1; have f1 := t_add y7_82 (nI 1); omega)
        refine wp_ite (fun c38 => ?_) (fun c38 => ?_)
        · exact j58 (by rw [← t_of (show y3_36.toInt = v1.toInt by omega)]; exact h36.2)
        · have fy := t_ixn y3_36 (by omega)
          have hi := i_up (x := y3_36) (by omega)
          refine wp_bind2 (o4_X10_octet M_3 y3_36 (by omega)) (fun r_11 he43 hq43 => ?_)
          have hb_43 := hq43
          replace hb_43 : r_11 = (M_3 5 (ix y3_36)) &&& (nI 255) := hb_43
          rw [e5] at hb_43
          refine wp_ite (fun c46 => ?_) (fun c46 => ?_)
          · exact wp_some ⟨(fun a i q0 => ((congrFun (congrFun eM_3 a) i).trans ((mset_ne (fun h9 => q0 (h9))).trans rfl))), (by show 0 ≤ (M_3 0 6).toInt ∧ (M_3 0 6).toInt ≤ 260; rw [eM_3, mset_eq]; decide), (by show (M_3 0 6).toInt = _; rw [if_pos (by omega), show M_3 0 6 = M_3 0 6 from rfl, eM_3, mset_eq]; exact nI0), (by show (-2 : Int32).toInt = _; rw [if_pos (by omega), lett_2 (zz_hit (j := ix y3_36) (by show ((M 5 (ix y3_36)) &&& (nI 255)).toInt = 0; rw [← hb_43]; exact c46) _ (by omega))]; decide)⟩
          · exact ih36 (y3_36 + (nI 1)) ⟨(by have f0 := t_lit 1; have f1 := t_add y3_36 (nI 1); omega), ⟨by omega, by rw [hi.1]; exact zz_no h36.2 (by show ¬ ((M 5 (ix y3_36)) &&& (nI 255)).toInt = 0; rw [← hb_43]; exact c46)⟩⟩ (by have f0 := t_lit 1; have f1 := t_add y3_36 (nI 1); omega)
      · exact wp_some ⟨(fun _ _ _ => rfl), ht, (by show (M 0 6).toInt = _; rw [if_neg (by omega)]), (by show (-1 : Int32).toInt = _; rw [if_neg (by omega)]; decide)⟩
theorem o4_X10_types (M : Mem) (v1 : Int32) (ht : 0 ≤ (M 0 6).toInt ∧ (M 0 6).toInt ≤ 256) : Wp (f_X10_types M v1) (fun q => (∀ a i, ¬ ((a = 0 ∧ i = 6) ∨ a = 5) → q a i = M a i) ∧ ((q 0 6).toInt = (M 0 6).toInt + 4) ∧ ((fun j => (q 5 j) &&& (nI 255)) = tpn (fun j => (M 5 j) &&& (nI 255)) (ix (M 0 6)) v1 4)) := by
  refine wp_lp2 (fun M2 y2_2 => (y2_2.toInt ≤ 3) ∧ (∀ a i, ¬ ((a = 0 ∧ i = 6) ∨ a = 5) → M2 a i = M a i) ∧ ((M2 0 6).toInt + y2_2.toInt = (M 0 6).toInt + 3 ∧ -1 ≤ y2_2.toInt) ∧ ((fun j => (M2 5 j) &&& (nI 255)) = tpn (fun j => (M 5 j) &&& (nI 255)) (ix (M 0 6)) v1 (ix (M2 0 6) - ix (M 0 6)))) (fun M2 y2_2 => (y2_2.toInt - 0 + 1).toNat) (fun ag2 M2 y2_2 hI2 ih2 => ?_) FU M (nI 3) ⟨(by have f0 := t_lit 3; omega), (fun _ _ _ => rfl), (by have f0 := t_lit 3; omega), (by rw [Nat.sub_self, tpn_0])⟩ (fu_lt (by have f0 := t_lit 3; omega))
  obtain ⟨hi2, hf_M2, ht2, hb2⟩ := hI2
  refine wp_ite (fun c3 => ?_) (fun c3 => ?_)
  · exact wp_some ⟨(fun a i q0 => ((hf_M2 a i (fun z8 => q0 ((fun z9 => Or.elim z9 (fun h9 => Or.inl h9) (fun h9 => Or.inr (h9))) z8))).trans rfl)), (by show (M2 0 6).toInt = (M 0 6).toInt + 4; omega), (by have fs := t_ixn (M 0 6) (by omega); have f3 := t_ixn (M2 0 6) (by omega); rw [hb2, show ix (M2 0 6) - ix (M 0 6) = 4 from (by omega)])⟩
  · have t1 := t_dec y2_2 (by omega)
    refine wp_gd (by omega) ?_
    refine wp_bnd (fun M_1 eM_1 => ?_)
    refine wp_bnd (fun M_2 eM_2 => ?_)
    have fs := t_ixn (M 0 6) (by omega)
    have f3 := t_ixn (M2 0 6) (by omega)
    obtain ⟨k, hk⟩ : ∃ k : Nat, ix (M2 0 6) = ix (M 0 6) + k := ⟨ix (M2 0 6) - ix (M 0 6), by omega⟩
    have hb4 : (fun j => (M2 5 j) &&& (nI 255)) = tpn (fun j => (M 5 j) &&& (nI 255)) (ix (M 0 6)) v1 k := by rw [hb2, show ix (M2 0 6) - ix (M 0 6) = k from (by omega)]
    have fm := t_mulL y2_2 8 (by omega) (by omega)
    have ey : (nI 8) * y2_2 = nI (24 - 8 * k) := t_nI (by omega) (by omega)
    have hr5 : M_2 5 = M_1 5 := by rw [eM_2, mset_n (by omega)]
    have hb5 : (fun j => (M_2 5 j) &&& (nI 255)) = tpn (fun j => (M 5 j) &&& (nI 255)) (ix (M 0 6)) v1 (k + 1) := by
      rw [hr5, row_and eM_1, hk]
      exact tpn_s hb4 (by rw [nar_255, ey]; rfl)
    have hm1 : M_2 0 6 = M2 0 6 + nI 1 := by rw [eM_2, mset_eq, eM_1, mset_ne (by first | exact nz1 (by decide) | exact nz2 (by decide) | exact nz1 (nzA hc0 (by decide)) | exact nz1 (nzE (by decide)) | exact nz1 (nzB hc0 (by decide)) | exact nz1 (nzC hc0 (by decide)) | exact nz1 (nzD hc0 (by decide)) | exact nz1 (nzF (by decide)) | exact nz1 (nzG (by decide)) | omega)]
    have hup := i_up (x := M2 0 6) (by omega)
    rw [← hm1] at hup
    exact ih2 M_2 (y2_2 + (-1)) ⟨(by rw [t1]; omega), (fun a i q0 => ((congrFun (congrFun eM_2 a) i).trans ((mset_ne (fun h9 => q0 (Or.inl h9))).trans ((congrFun (congrFun eM_1 a) i).trans ((mset_ne (fun h9 => q0 (Or.inr ((h9).1)))).trans ((hf_M2 a i (fun z8 => q0 ((fun z9 => Or.elim z9 (fun h9 => Or.inl h9) (fun h9 => Or.inr (h9))) z8))).trans rfl)))))), (by rw [t1, hup.2]; omega), (by rw [hb5, hup.1, show ix (M2 0 6) + 1 - ix (M 0 6) = k + 1 from (by omega)])⟩ (by rw [t1]; omega)
theorem o4_X10_feed (M : Mem) (v1 : Int32) (v2 : Int32) (v3 : Int32) (v4 : Int32) (v5 : Int32) (ht : 0 ≤ (M 0 6).toInt ∧ (M 0 6).toInt ≤ 260) : Wp (f_X10_feed M v1 v2 v3 v4 v5) (fun q => (∀ a i, ¬ ((a = 0 ∧ i = 6) ∨ a = 5) → q.2 a i = M a i) ∧ (0 ≤ (q.2 0 6).toInt ∧ (q.2 0 6).toInt ≤ 260) ∧ ((q.2 0 6).toInt = (if (M 0 6).toInt + 20 ≤ 260 then (M 0 6).toInt + 20 else (M 0 6).toInt)) ∧ (q.1.toInt = (if (M 0 6).toInt + 20 ≤ 260 then (M 0 6).toInt + 20 else -1)) ∧ ((fun j => (q.2 5 j) &&& (nI 255)) = (if (M 0 6).toInt + 20 ≤ 260 then tp5 (fun j => (M 5 j) &&& (nI 255)) (ix (M 0 6)) v1 v2 v3 v4 v5 else (fun j => (M 5 j) &&& (nI 255))))) := by
  have hf0 := t_add (M 0 6) (nI 20)
  have hf1 := t_lit 20
  refine wp_ite (fun c10 => ?_) (fun c10 => ?_)
  · refine wp_bind2 (o4_X10_types M v1 (by have f0 := t_lit 20; have f1 := t_add (M 0 6) (nI 20); omega)) (fun M_1 he17 hq17 => ?_)
    obtain ⟨hg_M_1, ht_17, hB_17⟩ := hq17
    replace ht_17 : (M_1 0 6).toInt = (M 0 6).toInt + 4 := ht_17
    replace hB_17 : (fun j => (M_1 5 j) &&& (nI 255)) = tpn (fun j => (M 5 j) &&& (nI 255)) (ix (M 0 6)) v1 4 := hB_17
    replace hg_M_1 : ∀ a i, ¬ ((a = 0 ∧ i = 6) ∨ a = 5) → M_1 a i = M a i := hg_M_1
    have i1 : ix (M_1 0 6) = ix (M 0 6) + 4 := by (have := t_ixn (M_1 0 6) (by omega)); (have := t_ixn (M 0 6) (by omega)); omega
    refine wp_bind2 (o4_X10_types M_1 v2 (by omega)) (fun M_2 he22 hq22 => ?_)
    obtain ⟨hg_M_2, ht_22, hB_22⟩ := hq22
    replace ht_22 : (M_2 0 6).toInt = (M_1 0 6).toInt + 4 := ht_22
    replace hB_22 : (fun j => (M_2 5 j) &&& (nI 255)) = tpn (fun j => (M_1 5 j) &&& (nI 255)) (ix (M_1 0 6)) v2 4 := hB_22
    replace hg_M_2 : ∀ a i, ¬ ((a = 0 ∧ i = 6) ∨ a = 5) → M_2 a i = M_1 a i := hg_M_2
    have i2 : ix (M_2 0 6) = ix (M 0 6) + 8 := by (have := t_ixn (M_2 0 6) (by omega)); (have := t_ixn (M 0 6) (by omega)); omega
    refine wp_bind2 (o4_X10_types M_2 v3 (by omega)) (fun M_3 he27 hq27 => ?_)
    obtain ⟨hg_M_3, ht_27, hB_27⟩ := hq27
    replace ht_27 : (M_3 0 6).toInt = (M_2 0 6).toInt + 4 := ht_27
    replace hB_27 : (fun j => (M_3 5 j) &&& (nI 255)) = tpn (fun j => (M_2 5 j) &&& (nI 255)) (ix (M_2 0 6)) v3 4 := hB_27
    replace hg_M_3 : ∀ a i, ¬ ((a = 0 ∧ i = 6) ∨ a = 5) → M_3 a i = M_2 a i := hg_M_3
    have i3 : ix (M_3 0 6) = ix (M 0 6) + 12 := by (have := t_ixn (M_3 0 6) (by omega)); (have := t_ixn (M 0 6) (by omega)); omega
    refine wp_bind2 (o4_X10_types M_3 v4 (by omega)) (fun M_4 he33 hq33 => ?_)
    obtain ⟨hg_M_4, ht_33, hB_33⟩ := hq33
    replace ht_33 : (M_4 0 6).toInt = (M_3 0 6).toInt + 4 := ht_33
    replace hB_33 : (fun j => (M_4 5 j) &&& (nI 255)) = tpn (fun j => (M_3 5 j) &&& (nI 255)) (ix (M_3 0 6)) v4 4 := hB_33
    replace hg_M_4 : ∀ a i, ¬ ((a = 0 ∧ i = 6) ∨ a = 5) → M_4 a i = M_3 a i := hg_M_4
    have i4 : ix (M_4 0 6) = ix (M 0 6) + 16 := by (have := t_ixn (M_4 0 6) (by omega)); (have := t_ixn (M 0 6) (by omega)); omega
    refine wp_bind2 (o4_X10_types M_4 v5 (by omega)) (fun M_5 he39 hq39 => ?_)
    obtain ⟨hg_M_5, ht_39, hB_39⟩ := hq39
    replace ht_39 : (M_5 0 6).toInt = (M_4 0 6).toInt + 4 := ht_39
    replace hB_39 : (fun j => (M_5 5 j) &&& (nI 255)) = tpn (fun j => (M_4 5 j) &&& (nI 255)) (ix (M_4 0 6)) v5 4 := hB_39
    replace hg_M_5 : ∀ a i, ¬ ((a = 0 ∧ i = 6) ∨ a = 5) → M_5 a i = M_4 a i := hg_M_5
    exact wp_some ⟨(fun a i q0 => ((hg_M_5 a i (fun z8 => q0 ((fun z9 => Or.elim z9 (fun h9 => Or.inl h9) (fun h9 => Or.inr (h9))) z8))).trans ((hg_M_4 a i (fun z8 => q0 ((fun z9 => Or.elim z9 (fun h9 => Or.inl h9) (fun h9 => Or.inr (h9))) z8))).trans ((hg_M_3 a i (fun z8 => q0 ((fun z9 => Or.elim z9 (fun h9 => Or.inl h9) (fun h9 => Or.inr (h9))) z8))).trans ((hg_M_2 a i (fun z8 => q0 ((fun z9 => Or.elim z9 (fun h9 => Or.inl h9) (fun h9 => Or.inr (h9))) z8))).trans ((hg_M_1 a i (fun z8 => q0 ((fun z9 => Or.elim z9 (fun h9 => Or.inl h9) (fun h9 => Or.inr (h9))) z8))).trans rfl)))))), (by show 0 ≤ (M_5 0 6).toInt ∧ (M_5 0 6).toInt ≤ 260; omega), (by show (M_5 0 6).toInt = _; rw [if_pos (by omega)]; omega), (by show (M_5 0 6).toInt = _; rw [if_pos (by omega)]; omega), (by show (fun j => (M_5 5 j) &&& (nI 255)) = _; rw [if_pos (by omega), hB_39, hB_33, hB_27, hB_22, hB_17, i4, i3, i2, i1]; rfl)⟩
  · exact wp_some ⟨(fun _ _ _ => rfl), (by show 0 ≤ (M 0 6).toInt ∧ (M 0 6).toInt ≤ 260; have f0 := (by decide : ((-1 : Int32)).toInt = -1); have f1 := t_lit 20; have f2 := t_add (M 0 6) (nI 20); omega), (by show (M 0 6).toInt = _; rw [if_neg (by omega)]), (by show (-1 : Int32).toInt = _; rw [if_neg (by omega)]; decide), (if_neg (by omega)).symm⟩
theorem sz_iff {a b x y : Int32} {C D : Prop} {dC : Decidable C} {dD : Decidable D} (e : x = y) (h : C ↔ D) (h1 : a.toInt = @ite _ C dC 0 x.toInt) (h2 : b.toInt = @ite _ D dD 0 y.toInt) : a = b := t_of (by
  rw [h1, h2, e]
  by_cases c : C
  · rw [if_pos c, if_pos (h.mp c)]
  · rw [if_neg c, if_neg (fun z => c (h.mpr z))])
theorem fd_eq {a b x y : Int32} (e : x = y) (h1 : a.toInt = (if x.toInt + 20 ≤ 260 then x.toInt + 20 else x.toInt)) (h2 : b.toInt = (if y.toInt + 20 ≤ 260 then y.toInt + 20 else y.toInt)) : a = b := t_of (by rw [h1, h2, e])
theorem fd_eq2 {a b x y : Int32} (e : x = y) (h1 : a.toInt = (if x.toInt + 20 ≤ 260 then x.toInt + 20 else -1)) (h2 : b.toInt = (if y.toInt + 20 ≤ 260 then y.toInt + 20 else -1)) : a = b := t_of (by rw [h1, h2, e])
def PP (MC MM : Mem) : Prop := ∃ n : Nat, n < 256 ∧ MM 0 4 = nI n ∧ ∀ p : Nat, p < 8 → (¬ (MC 43 p).toInt = 0 ↔ n.testBit p = true)
theorem pp_t1 : ∀ n, n < 256 → ∀ p, p < 8 → ((((shr (nI n) (nI p)) &&& (nI 1)).toInt = 1) ↔ n.testBit p = true) := by decide +kernel
theorem pp_t2 : ∀ n, n < 256 → ∀ v, v < 8 → (nI n ||| shl (nI 1) (nI v)) = nI (n ||| 2 ^ v) := by decide +kernel
theorem pp_t3 : ∀ n, n < 256 → ∀ v, v < 8 → n ||| 2 ^ v < 256 := by decide +kernel
theorem pp_fr {MC MM MC1 MM1 : Mem} (h : PP MC MM) (e4 : MM1 0 4 = MM 0 4) (e43 : ∀ p, MC1 43 p = MC 43 p) : PP MC1 MM1 := by
  obtain ⟨n, h1, h2, h3⟩ := h
  exact ⟨n, h1, e4.trans h2, fun p hp => by rw [e43]; exact h3 p hp⟩
theorem pp_bit {MC MM : Mem} {v : Int32} (h : PP MC MM) (hv : 0 ≤ v.toInt ∧ v.toInt < 8) : ¬ (MC 43 (ix v)).toInt = 0 ↔ ((shr (MM 0 4) v) &&& (nI 1)).toInt = 1 := by
  obtain ⟨n, h1, h2, h3⟩ := h
  obtain ⟨j, hj, rfl⟩ := ixi (x := v) (n := 8) hv.1 hv.2
  have hx := t_ixn (nI j) hv.1
  have hy := t_lit j (by omega)
  rw [h2, show ix (nI j) = j from by omega]
  exact (h3 j hj).trans (pp_t1 n h1 j hj).symm
theorem pp_pers {MC MM MC1 MM1 : Mem} {v1 v2 : Int32} (h : PP MC MM) (h1 : MC1 43 = (if (0 ≤ v1.toInt ∧ v1.toInt < 8) ∧ 1 ≤ v2.toInt ∧ v2.toInt ≤ 30 then upd (MC 43) (ix v1) v2 else MC 43)) (h2 : MM1 0 4 = (if (0 ≤ v1.toInt ∧ v1.toInt < 8) ∧ 1 ≤ v2.toInt ∧ v2.toInt ≤ 30 then (MM 0 4) ||| (shl (nI 1) v1) else MM 0 4)) : PP MC1 MM1 := by
  by_cases c : (0 ≤ v1.toInt ∧ v1.toInt < 8) ∧ 1 ≤ v2.toInt ∧ v2.toInt ≤ 30
  · rw [if_pos c] at h1 h2
    obtain ⟨n, g1, g2, g3⟩ := h
    obtain ⟨j, hj, rfl⟩ := ixi (x := v1) (n := 8) c.1.1 c.1.2
    have hx := t_ixn (nI j) c.1.1
    have hy := t_lit j (by omega)
    have hij : ix (nI j) = j := by omega
    refine ⟨n ||| 2 ^ j, pp_t3 n g1 j hj, by rw [h2, g2]; exact pp_t2 n g1 j hj, fun p hp => ?_⟩
    rw [h1, hij, Nat.testBit_or, Nat.testBit_two_pow]
    by_cases e : p = j
    · rw [e, upd, if_pos rfl]
      simp
      omega
    · rw [upd, if_neg e, g3 p hp]
      simp [show ¬ j = p from fun z => e z.symm]
  · rw [if_neg c] at h1 h2
    exact pp_fr h h2 (fun p => by rw [h1])
