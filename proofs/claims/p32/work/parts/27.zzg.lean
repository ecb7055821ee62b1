theorem oa_X7_byteAt (M : Mem) (v1 : Int32) : Wp (f_X7_byteAt M v1) (fun q => (0 ≤ v1.toInt → v1.toInt < (M 19 2).toInt → v1.toInt < 260 → q = M 20 (ix v1))) := by
  refine wp_ite (fun c1 => ?_) (fun c1 => ?_)
  · exact wp_some (fun z1 z2 z3 => by omega)
  · refine wp_ite (fun c9 => ?_) (fun c9 => ?_)
    · exact wp_some (fun z1 z2 z3 => by omega)
    · refine wp_ite (fun c16 => ?_) (fun c16 => ?_)
      · exact wp_some (fun z1 z2 z3 => by omega)
      · refine wp_gd (by omega) ?_
        exact wp_some (fun _ _ _ => rfl)
theorem oa_X9_check (M : Mem) (v1 : Int32) : Wp (f_X9_check M v1) (fun q => (∀ a i, ¬ ((a = 19 ∧ i = 1) ∨ (a = 19 ∧ i = 2) ∨ (a = 19 ∧ i = 3) ∨ (a = 19 ∧ i = 4)) → q.2 a i = M a i) ∧ ((q.2 19 1).toInt = (if 0 ≤ v1.toInt ∧ v1.toInt ≤ 40 ∧ v1.toInt ≤ (M 19 1).toInt then 0 else (M 19 1).toInt)) ∧ ((0 ≤ v1.toInt ∧ v1.toInt ≤ 40 ∧ v1.toInt ≤ (M 19 1).toInt → q.1 = ckF (FdC M 1) (fun j => (M 20 j).toInt) (ix v1) 0) ∧ (¬ (0 ≤ v1.toInt ∧ v1.toInt ≤ 40 ∧ v1.toInt ≤ (M 19 1).toInt) → q.1 = -2))) := by
  refine wp_bind2 (o3_X7_holds M v1 (nI 0) (nI 40)) (fun r_1 he8 hq8 => ?_)
  obtain ⟨hz_r_1, hr_8⟩ := hq8
  replace hr_8 : ¬ r_1.toInt = 0 ↔ (nI 0).toInt ≤ v1.toInt ∧ v1.toInt ≤ (nI 40).toInt ∧ v1.toInt ≤ (M 19 1).toInt := hr_8
  have := t_lit 0
  have := t_lit 40
  refine wp_ite (fun c11 => ?_) (fun c11 => ?_)
  · exact wp_some ⟨(fun _ _ _ => rfl), (by show (M 19 1).toInt = _; rw [if_neg (by omega)]), ⟨fun z => absurd z (by omega), fun _ => rfl⟩⟩
  · have CC : 0 ≤ v1.toInt ∧ v1.toInt ≤ 40 ∧ v1.toInt ≤ (M 19 1).toInt := by have q := hr_8.mp c11; have f0 := t_lit 0; have f40 := t_lit 40; omega
    refine wp_bind2 (o6_X7_open M v1) (fun M_2 he22 hq22 => ?_)
    obtain ⟨hg_M_2, hS_22, hE_22, hPl_22⟩ := hq22
    replace hS_22 : M_2 19 1 = nI 0 := hS_22
    replace hE_22 : M_2 19 2 = v1 := hE_22
    replace hPl_22 : M_2 19 3 = nI 0 := hPl_22
    replace hg_M_2 : ∀ a i, ¬ ((a = 19 ∧ i = 1) ∨ (a = 19 ∧ i = 2) ∨ (a = 19 ∧ i = 3) ∨ (a = 19 ∧ i = 4)) → M_2 a i = M a i := hg_M_2
    have f2 : FdC M_2 1 = (FdC M 1) := fdc_fr (fun a i h1 h2 => hg_M_2 a i (by first | decide | (rcases hc0 with h | h <;> rw [h] <;> simp; done) | (rcases hb0 with h | h | h <;> rw [h] <;> simp; done) | (simp; done) | omega))
    have ft1 := t_rng v1
    refine wp_lp1 (fun y2_27 => (0 ≤ y2_27.toInt) ∧ (ckF (FdC M 1) (fun j => (M 20 j).toInt) (ix v1) 0 = ckF (FdC M 1) (fun j => (M 20 j).toInt) (ix v1 - ix y2_27) (ix y2_27))) (fun y2_27 => (v1.toInt - y2_27.toInt).toNat) (fun ag27 y2_27 hI27 ih27 => ?_) FU (nI 0) ⟨(by have f0 := t_lit 0; omega), (by rw [show ix (nI 0) = 0 from (by decide)]; rfl)⟩ (fu_lt (by have f0 := t_lit 0; omega))
    obtain ⟨hi27, hk27⟩ := hI27
    refine wp_ite (fun c29 => ?_) (fun c29 => ?_)
    · exact wp_some ⟨(fun a i q0 => ((hg_M_2 a i (fun z8 => q0 ((fun z9 => Or.elim z9 (fun h9 => Or.inl h9) (fun z9 => Or.elim z9 (fun h9 => Or.inr (Or.inl h9)) (fun z9 => Or.elim z9 (fun h9 => Or.inr (Or.inr (Or.inl h9))) (fun h9 => Or.inr (Or.inr (Or.inr (h9))))))) z8))).trans rfl)), (by show (M_2 19 1).toInt = _; rw [if_pos (by omega), show M_2 19 1 = M_2 19 1 from rfl, hS_22]; exact nI0), ⟨fun _ => by show -1 = ckF (FdC M 1) (fun j => (M 20 j).toInt) (ix v1) 0; rw [hk27, ck_0 (by have z1 := t_ixn y2_27 (by omega); have z2 := t_ixn v1 (by omega); omega)], fun z => absurd CC z⟩⟩
    · have i27 := t_ixn y2_27 (by omega)
      have i1 := t_ixn v1 (by omega)
      have iy := i_up (x := y2_27) (by omega)
      refine wp_bind2 (o8_X2_isTold (Or.inl rfl) M_2 y2_27) (fun r_3 he37 hq37 => ?_)
      obtain ⟨hz_r_3, hr_37, htd_37⟩ := hq37
      replace hr_37 : ¬ r_3.toInt = 0 → 0 ≤ y2_27.toInt ∧ y2_27.toInt < 40 := hr_37
      replace htd_37 : TdP r_3.toInt (FdC M_2 1) y2_27 := htd_37
      rw [f2] at htd_37
      have j58 : ∀ (t0_58 : Int32), (t0_58.toInt = dueF (FdC M 1) (ix y2_27)) → Wp (f_X9_check_L58 M_2 ag27 y2_27 t0_58) (fun q => (∀ a i, ¬ ((a = 19 ∧ i = 1) ∨ (a = 19 ∧ i = 2) ∨ (a = 19 ∧ i = 3) ∨ (a = 19 ∧ i = 4)) → q.2 a i = M a i) ∧ ((q.2 19 1).toInt = (if 0 ≤ v1.toInt ∧ v1.toInt ≤ 40 ∧ v1.toInt ≤ (M 19 1).toInt then 0 else (M 19 1).toInt)) ∧ ((0 ≤ v1.toInt ∧ v1.toInt ≤ 40 ∧ v1.toInt ≤ (M 19 1).toInt → q.1 = ckF (FdC M 1) (fun j => (M 20 j).toInt) (ix v1) 0) ∧ (¬ (0 ≤ v1.toInt ∧ v1.toInt ≤ 40 ∧ v1.toInt ≤ (M 19 1).toInt) → q.1 = -2))) := by
        intro t0_58 h58
        unfold f_X9_check_L58
        refine wp_bind2 (oa_X7_byteAt M_2 y2_27) (fun r_4 he64 hq64 => ?_)
        have hby_64 := hq64
        replace hby_64 : 0 ≤ y2_27.toInt → y2_27.toInt < (M_2 19 2).toInt → y2_27.toInt < 260 → r_4 = M_2 20 (ix y2_27) := hby_64
        have hbv : r_4.toInt = (M 20 (ix y2_27)).toInt := by
          rw [hby_64 (by omega) (by rw [hE_22]; omega) (by omega), hg_M_2 20 _ (by first | decide | (rcases hc0 with h | h <;> rw [h] <;> simp; done) | (rcases hb0 with h | h | h <;> rw [h] <;> simp; done) | (simp; done) | omega)]
        refine wp_ite (fun c68 => ?_) (fun c68 => ?_)
        · exact ih27 (y2_27 + (nI 1)) ⟨(by have f0 := t_lit 1; have f1 := t_add y2_27 (nI 1); omega), (by rw [hk27, ck_y (by omega) (by rw [← hbv, ← h58]; exact c68), iy.1])⟩ (by have f0 := t_lit 1; have f1 := t_add y2_27 (nI 1); omega)
        · exact wp_some ⟨(fun a i q0 => ((hg_M_2 a i (fun z8 => q0 ((fun z9 => Or.elim z9 (fun h9 => Or.inl h9) (fun z9 => Or.elim z9 (fun h9 => Or.inr (Or.inl h9)) (fun z9 => Or.elim z9 (fun h9 => Or.inr (Or.inr (Or.inl h9))) (fun h9 => Or.inr (Or.inr (Or.inr (h9))))))) z8))).trans rfl)), (by show (M_2 19 1).toInt = _; rw [if_pos (by omega), show M_2 19 1 = M_2 19 1 from rfl, hS_22]; exact nI0), ⟨fun _ => by show y2_27 = ckF (FdC M 1) (fun j => (M 20 j).toInt) (ix v1) 0; rw [hk27, ck_n (by omega) (by rw [← hbv, ← h58]; exact c68), nI_ixx (by omega)], fun z => absurd CC z⟩⟩
      refine wp_ite (fun c40 => ?_) (fun c40 => ?_)
      · exact j58 (nI 255) (by rw [t_lit 255]; exact (if_pos (Classical.byContradiction (fun q => td_n htd_37 c40 ⟨⟨by omega, by omega⟩, q⟩))).symm)
      · refine wp_gd (by omega) ?_
        exact j58 (M_2 2 (ix y2_27)) (by have z := td_y htd_37 c40; rw [show M_2 2 (ix y2_27) = (FdC M 1) 1 (ix y2_27) from (hg_M_2 2 _ (by first | decide | (rcases hc0 with h | h <;> rw [h] <;> simp; done) | (rcases hb0 with h | h | h <;> rw [h] <;> simp; done) | (simp; done) | omega)).trans (fdc_at (a := 1) (ix40 z.1.1 z.1.2) (by omega) z.2).symm]; exact (if_neg z.2).symm)
theorem oa_X10_octet (M : Mem) (v1 : Int32) (hv : 0 ≤ v1.toInt ∧ v1.toInt < 260) : Wp (f_X10_octet M v1) (fun q => (q = (M 5 (ix v1)) &&& (nI 255))) := by
  refine wp_gd (by omega) ?_
  exact wp_some rfl
theorem oa_X10_check (M : Mem) (v1 : Int32) (ht : 0 ≤ (M 0 6).toInt ∧ (M 0 6).toInt ≤ 260) (hGd : GdF (FdR M 1)) : Wp (f_X10_check M v1) (fun q => (∀ a i, ¬ ((a = 0 ∧ i = 6)) → q.2 a i = M a i) ∧ (0 ≤ (q.2 0 6).toInt ∧ (q.2 0 6).toInt ≤ 260) ∧ ((q.2 0 6).toInt = (if 0 ≤ v1.toInt ∧ v1.toInt ≤ 40 ∧ v1.toInt ≤ (M 0 6).toInt then 0 else (M 0 6).toInt)) ∧ ((0 ≤ v1.toInt ∧ v1.toInt ≤ 40 ∧ v1.toInt ≤ (M 0 6).toInt → q.1 = ckF (FdR M 1) (fun j => ((M 5 j) &&& (nI 255)).toInt) (ix v1) 0) ∧ (¬ (0 ≤ v1.toInt ∧ v1.toInt ≤ 40 ∧ v1.toInt ≤ (M 0 6).toInt) → q.1 = -2))) := by
  refine wp_bind2 (o2_X10_in M v1 (nI 0) (nI 40)) (fun r_1 he4 hq4 => ?_)
  obtain ⟨hz_r_1, hr_4, hi_4⟩ := hq4
  replace hr_4 : ¬ r_1.toInt = 0 → (nI 0).toInt ≤ v1.toInt ∧ v1.toInt ≤ (nI 40).toInt := hr_4
  have := t_lit 0
  have := t_lit 40
  replace hi_4 : ¬ r_1.toInt = 0 ↔ (nI 0).toInt ≤ v1.toInt ∧ v1.toInt ≤ (nI 40).toInt := hi_4
  have := t_lit 0
  have := t_lit 40
  refine wp_ite (fun c7 => ?_) (fun c7 => ?_)
  · exact wp_some ⟨(fun _ _ _ => rfl), ht, (by show (M 0 6).toInt = _; rw [if_neg (by omega)]), ⟨fun z => absurd z (by have q := hi_4; have f0 := t_lit 0; have f40 := t_lit 40; omega), fun _ => rfl⟩⟩
  · refine wp_ite (fun c15 => ?_) (fun c15 => ?_)
    · have CC : 0 ≤ v1.toInt ∧ v1.toInt ≤ 40 ∧ v1.toInt ≤ (M 0 6).toInt := by have q := hi_4.mp c7; have f0 := t_lit 0; have f40 := t_lit 40; omega
      refine wp_bnd (fun M_2 eM_2 => ?_)
      have f2 : FdR M_2 1 = (FdR M 1) := fdr_same (fun j hj => by rw [eM_2, mset_ne (by first | exact nz1 (by decide) | exact nz2 (by decide) | exact nz1 (nzA hc0 (by decide)) | exact nz1 (nzE (by decide)) | exact nz1 (nzB hc0 (by decide)) | exact nz1 (nzC hc0 (by decide)) | exact nz1 (nzD hc0 (by decide)) | exact nz1 (nzF (by decide)) | exact nz1 (nzG (by decide)) | omega)])
      have ft1 := t_rng v1
      refine wp_lp1 (fun y2_28 => (0 ≤ y2_28.toInt) ∧ (ckF (FdR M 1) (fun j => ((M 5 j) &&& (nI 255)).toInt) (ix v1) 0 = ckF (FdR M 1) (fun j => ((M 5 j) &&& (nI 255)).toInt) (ix v1 - ix y2_28) (ix y2_28))) (fun y2_28 => (v1.toInt - y2_28.toInt).toNat) (fun ag28 y2_28 hI28 ih28 => ?_) FU (nI 0) ⟨(by have f0 := t_lit 0; omega), (by rw [show ix (nI 0) = 0 from (by decide)]; rfl)⟩ (fu_lt (by have f0 := t_lit 0; omega))
      obtain ⟨hi28, hk28⟩ := hI28
      refine wp_ite (fun c30 => ?_) (fun c30 => ?_)
      · exact wp_some ⟨(fun a i q0 => ((congrFun (congrFun eM_2 a) i).trans ((mset_ne (fun h9 => q0 (h9))).trans rfl))), (by show 0 ≤ (M_2 0 6).toInt ∧ (M_2 0 6).toInt ≤ 260; rw [eM_2, mset_eq]; decide), (by show (M_2 0 6).toInt = _; rw [if_pos (by omega), show M_2 0 6 = M_2 0 6 from rfl, eM_2, mset_eq]; exact nI0), ⟨fun _ => by show -1 = ckF (FdR M 1) (fun j => ((M 5 j) &&& (nI 255)).toInt) (ix v1) 0; rw [hk28, ck_0 (by have z1 := t_ixn y2_28 (by omega); have z2 := t_ixn v1 (by omega); omega)], fun z => absurd CC z⟩⟩
      · have i27 := t_ixn y2_28 (by omega)
        have i1 := t_ixn v1 (by omega)
        have iy := i_up (x := y2_28) (by omega)
        refine wp_bind2 (oa_X10_octet M_2 y2_28 (by omega)) (fun r_3 he35 hq35 => ?_)
        have hoc_35 := hq35
        replace hoc_35 : r_3 = (M_2 5 (ix y2_28)) &&& (nI 255) := hoc_35
        have hbv : r_3.toInt = ((M 5 (ix y2_28)) &&& (nI 255)).toInt := by rw [hoc_35, eM_2, mset_ne (by first | exact nz1 (by decide) | exact nz2 (by decide) | exact nz1 (nzA hc0 (by decide)) | exact nz1 (nzE (by decide)) | exact nz1 (nzB hc0 (by decide)) | exact nz1 (nzC hc0 (by decide)) | exact nz1 (nzD hc0 (by decide)) | exact nz1 (nzF (by decide)) | exact nz1 (nzG (by decide)) | omega)]
        refine wp_bind2 (o8_X10_isStone M_2 y2_28 (by rw [f2]; exact hGd.1.1)) (fun r_4 he40 hq40 => ?_)
        obtain ⟨hz_r_4, hr_40, htd_40⟩ := hq40
        replace hr_40 : ¬ r_4.toInt = 0 → (0 ≤ y2_28.toInt ∧ y2_28.toInt < 40) ∧ (M_2 1 (ix y2_28)).toInt = 1 := hr_40
        replace htd_40 : TdP r_4.toInt (FdR M_2 1) y2_28 := htd_40
        rw [f2] at htd_40
        have j61 : ∀ (t0_61 : Int32), (t0_61.toInt = dueF (FdR M 1) (ix y2_28)) → Wp (f_X10_check_L61 M_2 ag28 y2_28 r_3 t0_61) (fun q => (∀ a i, ¬ ((a = 0 ∧ i = 6)) → q.2 a i = M a i) ∧ (0 ≤ (q.2 0 6).toInt ∧ (q.2 0 6).toInt ≤ 260) ∧ ((q.2 0 6).toInt = (if 0 ≤ v1.toInt ∧ v1.toInt ≤ 40 ∧ v1.toInt ≤ (M 0 6).toInt then 0 else (M 0 6).toInt)) ∧ ((0 ≤ v1.toInt ∧ v1.toInt ≤ 40 ∧ v1.toInt ≤ (M 0 6).toInt → q.1 = ckF (FdR M 1) (fun j => ((M 5 j) &&& (nI 255)).toInt) (ix v1) 0) ∧ (¬ (0 ≤ v1.toInt ∧ v1.toInt ≤ 40 ∧ v1.toInt ≤ (M 0 6).toInt) → q.1 = -2))) := by
          intro t0_61 h61
          unfold f_X10_check_L61
          refine wp_ite (fun c61 => ?_) (fun c61 => ?_)
          · exact ih28 (y2_28 + (nI 1)) ⟨(by have f0 := t_lit 1; have f1 := t_add y2_28 (nI 1); omega), (by rw [hk28, ck_y (by omega) (by rw [← hbv, ← h61]; exact c61), iy.1])⟩ (by have f0 := t_lit 1; have f1 := t_add y2_28 (nI 1); omega)
          · exact wp_some ⟨(fun a i q0 => ((congrFun (congrFun eM_2 a) i).trans ((mset_ne (fun h9 => q0 (h9))).trans rfl))), (by show 0 ≤ (M_2 0 6).toInt ∧ (M_2 0 6).toInt ≤ 260; rw [eM_2, mset_eq]; decide), (by show (M_2 0 6).toInt = _; rw [if_pos (by omega), show M_2 0 6 = M_2 0 6 from rfl, eM_2, mset_eq]; exact nI0), ⟨fun _ => by show y2_28 = ckF (FdR M 1) (fun j => ((M 5 j) &&& (nI 255)).toInt) (ix v1) 0; rw [hk28, ck_n (by omega) (by rw [← hbv, ← h61]; exact c61), nI_ixx (by omega)], fun z => absurd CC z⟩⟩
        refine wp_ite (fun c43 => ?_) (fun c43 => ?_)
        · exact j61 (nI 255) (by rw [t_lit 255]; exact (if_pos (Classical.byContradiction (fun q => td_n htd_40 c43 ⟨⟨by omega, by omega⟩, q⟩))).symm)
        · refine wp_gd (by have f0 := t_lit 40; have f1 := t_add (nI 40) y2_28; omega) ?_
          exact j61 (M_2 1 (ix ((nI 40) + y2_28))) (by have z := td_y htd_40 c43; rw [fdr_x (M := M_2) z.1.1 z.1.2 (by rw [f2]; exact z.2), f2]; exact (if_neg z.2).symm)
    · exact wp_some ⟨(fun _ _ _ => rfl), ht, (by show (M 0 6).toInt = _; rw [if_neg (by omega)]), ⟨fun z => absurd z (by have q := hi_4; have f0 := t_lit 0; have f40 := t_lit 40; omega), fun _ => rfl⟩⟩
