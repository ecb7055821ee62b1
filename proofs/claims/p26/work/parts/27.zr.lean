theorem o9_X10_laysStone (M : Mem) (v1 : Int32) (v2 : Int32) (v3 : Int32) (v4 : Int32) (v5 : Int32) (hv1 : 0 ≤ v1.toInt ∧ v1.toInt < 40) : Wp (f_X10_laysStone M v1 v2 v3 v4 v5) (fun q => (∀ a i, ¬ (a = 1) → q a i = M a i) ∧ ((q 1 (ix v1)).toInt = 1 ∧ q 1 (80 + ix v1) = v3 ∧ q 1 (120 + ix v1) = v4 ∧ ∀ j : Nat, ¬ j = ix v1 → ¬ j = 40 + ix v1 → ¬ j = 80 + ix v1 → ¬ j = 120 + ix v1 → ¬ j = 160 + ix v1 → q 1 j = M 1 j) ∧ (FdR q 1 = lyF (FdR M 1) (ix v1) v2 v3 v4 v5)) := by
  have fx := t_ixn v1 (by omega)
  have g40 : ix ((nI 40) + v1) = 40 + ix v1 := ix_add (by omega) (by omega)
  have g80 : ix ((nI 80) + v1) = 80 + ix v1 := ix_add (by omega) (by omega)
  have g120 : ix ((nI 120) + v1) = 120 + ix v1 := ix_add (by omega) (by omega)
  have g160 : ix ((nI 160) + v1) = 160 + ix v1 := ix_add (by omega) (by omega)
  refine wp_gd (by omega) ?_
  refine wp_bnd (fun M_1 eM_1 => ?_)
  refine wp_gd (by have f0 := t_lit 40; have f1 := t_add (nI 40) v1; omega) ?_
  refine wp_bnd (fun M_2 eM_2 => ?_)
  refine wp_gd (by have f0 := t_lit 80; have f1 := t_add (nI 80) v1; omega) ?_
  refine wp_bnd (fun M_3 eM_3 => ?_)
  refine wp_gd (by have f0 := t_lit 120; have f1 := t_add (nI 120) v1; omega) ?_
  refine wp_bnd (fun M_4 eM_4 => ?_)
  refine wp_gd (by have f0 := t_lit 160; have f1 := t_add (nI 160) v1; omega) ?_
  refine wp_bnd (fun M_5 eM_5 => ?_)
  exact wp_some ⟨(fun a i q0 => ((congrFun (congrFun eM_5 a) i).trans ((mset_ne (fun h9 => q0 ((h9).1))).trans ((congrFun (congrFun eM_4 a) i).trans ((mset_ne (fun h9 => q0 ((h9).1))).trans ((congrFun (congrFun eM_3 a) i).trans ((mset_ne (fun h9 => q0 ((h9).1))).trans ((congrFun (congrFun eM_2 a) i).trans ((mset_ne (fun h9 => q0 ((h9).1))).trans ((congrFun (congrFun eM_1 a) i).trans ((mset_ne (fun h9 => q0 ((h9).1))).trans rfl))))))))))), (by rw [g40] at eM_2; rw [g80] at eM_3; rw [g120] at eM_4; rw [g160] at eM_5; exact ⟨by rw [eM_5, mset_ne (by first | exact nz1 (by decide) | exact nz2 (by decide) | exact nz1 (nzA hc0 (by decide)) | exact nz1 (nzE (by decide)) | exact nz1 (nzB hc0 (by decide)) | exact nz1 (nzC hc0 (by decide)) | exact nz1 (nzD hc0 (by decide)) | exact nz1 (nzF (by decide)) | exact nz1 (nzG (by decide)) | omega), eM_4, mset_ne (by first | exact nz1 (by decide) | exact nz2 (by decide) | exact nz1 (nzA hc0 (by decide)) | exact nz1 (nzE (by decide)) | exact nz1 (nzB hc0 (by decide)) | exact nz1 (nzC hc0 (by decide)) | exact nz1 (nzD hc0 (by decide)) | exact nz1 (nzF (by decide)) | exact nz1 (nzG (by decide)) | omega), eM_3, mset_ne (by first | exact nz1 (by decide) | exact nz2 (by decide) | exact nz1 (nzA hc0 (by decide)) | exact nz1 (nzE (by decide)) | exact nz1 (nzB hc0 (by decide)) | exact nz1 (nzC hc0 (by decide)) | exact nz1 (nzD hc0 (by decide)) | exact nz1 (nzF (by decide)) | exact nz1 (nzG (by decide)) | omega), eM_2, mset_ne (by first | exact nz1 (by decide) | exact nz2 (by decide) | exact nz1 (nzA hc0 (by decide)) | exact nz1 (nzE (by decide)) | exact nz1 (nzB hc0 (by decide)) | exact nz1 (nzC hc0 (by decide)) | exact nz1 (nzD hc0 (by decide)) | exact nz1 (nzF (by decide)) | exact nz1 (nzG (by decide)) | omega), eM_1, mset_eq]; exact nI1, by rw [eM_5, mset_ne (by first | exact nz1 (by decide) | exact nz2 (by decide) | exact nz1 (nzA hc0 (by decide)) | exact nz1 (nzE (by decide)) | exact nz1 (nzB hc0 (by decide)) | exact nz1 (nzC hc0 (by decide)) | exact nz1 (nzD hc0 (by decide)) | exact nz1 (nzF (by decide)) | exact nz1 (nzG (by decide)) | omega), eM_4, mset_ne (by first | exact nz1 (by decide) | exact nz2 (by decide) | exact nz1 (nzA hc0 (by decide)) | exact nz1 (nzE (by decide)) | exact nz1 (nzB hc0 (by decide)) | exact nz1 (nzC hc0 (by decide)) | exact nz1 (nzD hc0 (by decide)) | exact nz1 (nzF (by decide)) | exact nz1 (nzG (by decide)) | omega), eM_3, mset_eq], by rw [eM_5, mset_ne (by first | exact nz1 (by decide) | exact nz2 (by decide) | exact nz1 (nzA hc0 (by decide)) | exact nz1 (nzE (by decide)) | exact nz1 (nzB hc0 (by decide)) | exact nz1 (nzC hc0 (by decide)) | exact nz1 (nzD hc0 (by decide)) | exact nz1 (nzF (by decide)) | exact nz1 (nzG (by decide)) | omega), eM_4, mset_eq], fun j h1 h2 h3 h4 h5 => by rw [eM_5, mset_ne (by first | exact nz1 (by decide) | exact nz2 (by decide) | exact nz1 (nzA hc0 (by decide)) | exact nz1 (nzE (by decide)) | exact nz1 (nzB hc0 (by decide)) | exact nz1 (nzC hc0 (by decide)) | exact nz1 (nzD hc0 (by decide)) | exact nz1 (nzF (by decide)) | exact nz1 (nzG (by decide)) | omega), eM_4, mset_ne (by first | exact nz1 (by decide) | exact nz2 (by decide) | exact nz1 (nzA hc0 (by decide)) | exact nz1 (nzE (by decide)) | exact nz1 (nzB hc0 (by decide)) | exact nz1 (nzC hc0 (by decide)) | exact nz1 (nzD hc0 (by decide)) | exact nz1 (nzF (by decide)) | exact nz1 (nzG (by decide)) | omega), eM_3, mset_ne (by first | exact nz1 (by decide) | exact nz2 (by decide) | exact nz1 (nzA hc0 (by decide)) | exact nz1 (nzE (by decide)) | exact nz1 (nzB hc0 (by decide)) | exact nz1 (nzC hc0 (by decide)) | exact nz1 (nzD hc0 (by decide)) | exact nz1 (nzF (by decide)) | exact nz1 (nzG (by decide)) | omega), eM_2, mset_ne (by first | exact nz1 (by decide) | exact nz2 (by decide) | exact nz1 (nzA hc0 (by decide)) | exact nz1 (nzE (by decide)) | exact nz1 (nzB hc0 (by decide)) | exact nz1 (nzC hc0 (by decide)) | exact nz1 (nzD hc0 (by decide)) | exact nz1 (nzF (by decide)) | exact nz1 (nzG (by decide)) | omega), eM_1, mset_ne (by first | exact nz1 (by decide) | exact nz2 (by decide) | exact nz1 (nzA hc0 (by decide)) | exact nz1 (nzE (by decide)) | exact nz1 (nzB hc0 (by decide)) | exact nz1 (nzC hc0 (by decide)) | exact nz1 (nzD hc0 (by decide)) | exact nz1 (nzF (by decide)) | exact nz1 (nzG (by decide)) | omega)]⟩), (by have x40 := ixc (n := 40) hv1.1 hv1.2 (by omega); have x80 := ixc (n := 80) hv1.1 hv1.2 (by omega); have x120 := ixc (n := 120) hv1.1 hv1.2 (by omega); have x160 := ixc (n := 160) hv1.1 hv1.2 (by omega); exact fdr_ly (ix40 hv1.1 hv1.2) (by rw [eM_5, mset_s, eM_4, mset_s, eM_3, mset_s, eM_2, mset_s, eM_1, mset_s, x40, x80, x120, x160]))⟩
theorem o9_X10_stone (M : Mem) (v1 : Int32) (v2 : Int32) (v3 : Int32) (v4 : Int32) (hGd : GdF (FdR M 1)) : Wp (f_X10_stone M v1 v2 v3 v4) (fun q => (q.1 = 0 ∨ q.1 = 1) ∧ (∀ a i, ¬ (a = 1) → q.2 a i = M a i) ∧ (ST (q.2 1)) ∧ (StP (FdR M 1) (FdR q.2 1) q.1 v1 v2 v3 v4)) := by
  refine wp_bind2 (o2_X10_in M v1 (nI 0) (nI 39)) (fun r_1 he4 hq4 => ?_)
  obtain ⟨hz_r_1, hr_4, hi_4⟩ := hq4
  replace hr_4 : ¬ r_1.toInt = 0 → (nI 0).toInt ≤ v1.toInt ∧ v1.toInt ≤ (nI 39).toInt := hr_4
  have := t_lit 0
  have := t_lit 39
  replace hi_4 : ¬ r_1.toInt = 0 ↔ (nI 0).toInt ≤ v1.toInt ∧ v1.toInt ≤ (nI 39).toInt := hi_4
  have := t_lit 0
  have := t_lit 39
  refine wp_ite (fun c7 => ?_) (fun c7 => ?_)
  · exact wp_some ⟨b01_0, (fun _ _ _ => rfl), (st_gd (gd_st (show StP (FdR M 1) (FdR M 1) (nI 0) v1 v2 v3 v4 from (op_n (fun z => hi_4.mpr (by have f0 := t_lit 0; have f1 := t_lit 1; have f9 := t_lit 9; have f20 := t_lit 20; have f39 := t_lit 39; have q := z.1; omega) c7) rfl rfl)) hGd)), (op_n (fun z => hi_4.mpr (by have f0 := t_lit 0; have f1 := t_lit 1; have f9 := t_lit 9; have f20 := t_lit 20; have f39 := t_lit 39; have q := z.1; omega) c7) rfl rfl)⟩
  · refine wp_bind2 (o2_X10_in M v2 (nI 0) (nI 39)) (fun r_2 he14 hq14 => ?_)
    obtain ⟨hz_r_2, hr_14, hi_14⟩ := hq14
    replace hr_14 : ¬ r_2.toInt = 0 → (nI 0).toInt ≤ v2.toInt ∧ v2.toInt ≤ (nI 39).toInt := hr_14
    have := t_lit 0
    have := t_lit 39
    replace hi_14 : ¬ r_2.toInt = 0 ↔ (nI 0).toInt ≤ v2.toInt ∧ v2.toInt ≤ (nI 39).toInt := hi_14
    have := t_lit 0
    have := t_lit 39
    refine wp_ite (fun c17 => ?_) (fun c17 => ?_)
    · exact wp_some ⟨b01_0, (fun _ _ _ => rfl), (st_gd (gd_st (show StP (FdR M 1) (FdR M 1) (nI 0) v1 v2 v3 v4 from (op_n (fun z => hi_14.mpr (by have f0 := t_lit 0; have f1 := t_lit 1; have f9 := t_lit 9; have f20 := t_lit 20; have f39 := t_lit 39; have q := z.2.1; omega) c17) rfl rfl)) hGd)), (op_n (fun z => hi_14.mpr (by have f0 := t_lit 0; have f1 := t_lit 1; have f9 := t_lit 9; have f20 := t_lit 20; have f39 := t_lit 39; have q := z.2.1; omega) c17) rfl rfl)⟩
    · refine wp_bind2 (o2_X10_in M v3 (nI 1) (nI 20)) (fun r_3 he24 hq24 => ?_)
      obtain ⟨hz_r_3, hr_24, hi_24⟩ := hq24
      replace hr_24 : ¬ r_3.toInt = 0 → (nI 1).toInt ≤ v3.toInt ∧ v3.toInt ≤ (nI 20).toInt := hr_24
      have := t_lit 1
      have := t_lit 20
      replace hi_24 : ¬ r_3.toInt = 0 ↔ (nI 1).toInt ≤ v3.toInt ∧ v3.toInt ≤ (nI 20).toInt := hi_24
      have := t_lit 1
      have := t_lit 20
      refine wp_ite (fun c27 => ?_) (fun c27 => ?_)
      · exact wp_some ⟨b01_0, (fun _ _ _ => rfl), (st_gd (gd_st (show StP (FdR M 1) (FdR M 1) (nI 0) v1 v2 v3 v4 from (op_n (fun z => hi_24.mpr (by have f0 := t_lit 0; have f1 := t_lit 1; have f9 := t_lit 9; have f20 := t_lit 20; have f39 := t_lit 39; have q := z.2.2.1; omega) c27) rfl rfl)) hGd)), (op_n (fun z => hi_24.mpr (by have f0 := t_lit 0; have f1 := t_lit 1; have f9 := t_lit 9; have f20 := t_lit 20; have f39 := t_lit 39; have q := z.2.2.1; omega) c27) rfl rfl)⟩
      · refine wp_bind2 (o2_X10_in M v4 (nI 0) (nI 9)) (fun r_4 he35 hq35 => ?_)
        obtain ⟨hz_r_4, hr_35, hi_35⟩ := hq35
        replace hr_35 : ¬ r_4.toInt = 0 → (nI 0).toInt ≤ v4.toInt ∧ v4.toInt ≤ (nI 9).toInt := hr_35
        have := t_lit 0
        have := t_lit 9
        replace hi_35 : ¬ r_4.toInt = 0 ↔ (nI 0).toInt ≤ v4.toInt ∧ v4.toInt ≤ (nI 9).toInt := hi_35
        have := t_lit 0
        have := t_lit 9
        refine wp_ite (fun c38 => ?_) (fun c38 => ?_)
        · exact wp_some ⟨b01_0, (fun _ _ _ => rfl), (st_gd (gd_st (show StP (FdR M 1) (FdR M 1) (nI 0) v1 v2 v3 v4 from (op_n (fun z => hi_35.mpr (by have f0 := t_lit 0; have f1 := t_lit 1; have f9 := t_lit 9; have f20 := t_lit 20; have f39 := t_lit 39; have q := z.2.2.2.1; omega) c38) rfl rfl)) hGd)), (op_n (fun z => hi_35.mpr (by have f0 := t_lit 0; have f1 := t_lit 1; have f9 := t_lit 9; have f20 := t_lit 20; have f39 := t_lit 39; have q := z.2.2.2.1; omega) c38) rfl rfl)⟩
        · refine wp_bind2 (o8_X10_stoneAt M v2 v3 hGd.1.1) (fun r_5 he46 hq46 => ?_)
          obtain ⟨hr_46, hsa_46⟩ := hq46
          replace hr_46 : r_5.toInt = -1 ∨ ((0 ≤ r_5.toInt ∧ r_5.toInt < 40) ∧ (M 1 (ix r_5)).toInt = 1 ∧ (M 1 (ix (nI 40 + r_5))).toInt = v2.toInt ∧ (M 1 (ix (nI 80 + r_5))).toInt = v3.toInt) := hr_46
          replace hsa_46 : r_5 = stA (FdR M 1) v2.toInt v3.toInt 40 0 := hsa_46
          have j65 : ((stA (FdR M 1) v2.toInt v3.toInt 40 0).toInt = -1 ∨ (stA (FdR M 1) v2.toInt v3.toInt 40 0).toInt = v1.toInt) → Wp (f_X10_stone_L65 M v1 v2 v3 v4) (fun q => (q.1 = 0 ∨ q.1 = 1) ∧ (∀ a i, ¬ (a = 1) → q.2 a i = M a i) ∧ (ST (q.2 1)) ∧ (StP (FdR M 1) (FdR q.2 1) q.1 v1 v2 v3 v4)) := by
            intro h65
            unfold f_X10_stone_L65
            refine wp_bind2 (o9_X10_laysStone M v1 v2 v3 v4 (nI 0) (by have f0 := t_lit 0; have f1 := t_lit 1; have f9 := t_lit 9; have f20 := t_lit 20; have f39 := t_lit 39; have q := hi_4.mp c7; omega)) (fun M_6 he72 hq72 => ?_)
            obtain ⟨hg_M_6, hl_72, hF_72⟩ := hq72
            replace hl_72 : (M_6 1 (ix v1)).toInt = 1 ∧ M_6 1 (80 + ix v1) = v3 ∧ M_6 1 (120 + ix v1) = v4 ∧ ∀ j : Nat, ¬ j = ix v1 → ¬ j = 40 + ix v1 → ¬ j = 80 + ix v1 → ¬ j = 120 + ix v1 → ¬ j = 160 + ix v1 → M_6 1 j = M 1 j := hl_72
            have := t_lit 0
            replace hF_72 : FdR M_6 1 = lyF (FdR M 1) (ix v1) v2 v3 v4 (nI 0) := hF_72
            have := t_lit 0
            replace hg_M_6 : ∀ a i, ¬ (a = 1) → M_6 a i = M a i := hg_M_6
            exact wp_some ⟨b01_1, (fun a i q0 => ((hg_M_6 a i (fun h9 => q0 (h9))).trans rfl)), (st_gd (gd_st (show StP (FdR M 1) (FdR M_6 1) (nI 1) v1 v2 v3 v4 from (op_y ⟨(by have f0 := t_lit 0; have f1 := t_lit 1; have f9 := t_lit 9; have f20 := t_lit 20; have f39 := t_lit 39; have q := hi_4.mp c7; omega), (by have f0 := t_lit 0; have f1 := t_lit 1; have f9 := t_lit 9; have f20 := t_lit 20; have f39 := t_lit 39; have q := hi_14.mp c17; omega), (by have f0 := t_lit 0; have f1 := t_lit 1; have f9 := t_lit 9; have f20 := t_lit 20; have f39 := t_lit 39; have q := hi_24.mp c27; omega), (by have f0 := t_lit 0; have f1 := t_lit 1; have f9 := t_lit 9; have f20 := t_lit 20; have f39 := t_lit 39; have q := hi_35.mp c38; omega), h65⟩ (by show FdR M_6 1 = _; rw [hF_72, show nI 0 = 0 from (by decide)]) rfl)) hGd)), (op_y ⟨(by have f0 := t_lit 0; have f1 := t_lit 1; have f9 := t_lit 9; have f20 := t_lit 20; have f39 := t_lit 39; have q := hi_4.mp c7; omega), (by have f0 := t_lit 0; have f1 := t_lit 1; have f9 := t_lit 9; have f20 := t_lit 20; have f39 := t_lit 39; have q := hi_14.mp c17; omega), (by have f0 := t_lit 0; have f1 := t_lit 1; have f9 := t_lit 9; have f20 := t_lit 20; have f39 := t_lit 39; have q := hi_24.mp c27; omega), (by have f0 := t_lit 0; have f1 := t_lit 1; have f9 := t_lit 9; have f20 := t_lit 20; have f39 := t_lit 39; have q := hi_35.mp c38; omega), h65⟩ (by show FdR M_6 1 = _; rw [hF_72, show nI 0 = 0 from (by decide)]) rfl)⟩
          refine wp_ite (fun c54 => ?_) (fun c54 => ?_)
          · exact j65 (Or.inl (by rw [← hsa_46]; exact c54))
          · refine wp_ite (fun c60 => ?_) (fun c60 => ?_)
            · exact j65 (Or.inr (by rw [← hsa_46]; exact c60))
            · exact wp_some ⟨b01_0, (fun _ _ _ => rfl), (st_gd (gd_st (show StP (FdR M 1) (FdR M 1) (nI 0) v1 v2 v3 v4 from (op_n (fun z => z.2.2.2.2.elim (fun q => c54 (by rw [hsa_46]; exact q)) (fun q => c60 (by rw [hsa_46]; exact q))) rfl rfl)) hGd)), (op_n (fun z => z.2.2.2.2.elim (fun q => c54 (by rw [hsa_46]; exact q)) (fun q => c60 (by rw [hsa_46]; exact q))) rfl rfl)⟩
theorem o9_X10_take (M : Mem) (v1 : Int32) (hGd : GdF (FdR M 1)) : Wp (f_X10_take M v1) (fun q => (q.1 = 0 ∨ q.1 = 1) ∧ (∀ a i, ¬ (a = 1) → q.2 a i = M a i) ∧ (ST (q.2 1)) ∧ (TkP (FdR M 1) (FdR q.2 1) q.1 v1)) := by
  refine wp_bind2 (o8_X10_isStone M v1 hGd.1.1) (fun r_1 he2 hq2 => ?_)
  obtain ⟨hz_r_1, hr_2, htd_2⟩ := hq2
  replace hr_2 : ¬ r_1.toInt = 0 → (0 ≤ v1.toInt ∧ v1.toInt < 40) ∧ (M 1 (ix v1)).toInt = 1 := hr_2
  replace htd_2 : TdP r_1.toInt (FdR M 1) v1 := htd_2
  refine wp_ite (fun c5 => ?_) (fun c5 => ?_)
  · exact wp_some ⟨b01_0, (fun _ _ _ => rfl), (st_gd (gd_take (show TkP (FdR M 1) (FdR M 1) (nI 0) v1 from (op_n (td_n htd_2 c5) rfl rfl)) hGd)), (op_n (td_n htd_2 c5) rfl rfl)⟩
  · refine wp_gd (by omega) ?_
    refine wp_bnd (fun M_2 eM_2 => ?_)
    exact wp_some ⟨b01_1, (fun a i q0 => ((congrFun (congrFun eM_2 a) i).trans ((mset_ne (fun h9 => q0 ((h9).1))).trans rfl))), (st_gd (gd_take (show TkP (FdR M 1) (FdR M_2 1) (nI 1) v1 from (op_y (td_y htd_2 c5) (fdr_tk (ix40 (td_y htd_2 c5).1.1 (td_y htd_2 c5).1.2) (by show M_2 1 = _; rw [eM_2, mset_s])) rfl)) hGd)), (op_y (td_y htd_2 c5) (fdr_tk (ix40 (td_y htd_2 c5).1.1 (td_y htd_2 c5).1.2) (by show M_2 1 = _; rw [eM_2, mset_s])) rfl)⟩
theorem o9_X10_under (M : Mem) (v1 : Int32) (v2 : Int32) (hGd : GdF (FdR M 1)) (hb2 : v2 = 0 ∨ v2 = 1) : Wp (f_X10_under M v1 v2) (fun q => (q.1 = 0 ∨ q.1 = 1) ∧ (∀ a i, ¬ (a = 1) → q.2 a i = M a i) ∧ (ST (q.2 1)) ∧ (UnP (FdR M 1) (FdR q.2 1) q.1 v1 v2)) := by
  refine wp_bind2 (o8_X10_isStone M v1 hGd.1.1) (fun r_1 he2 hq2 => ?_)
  obtain ⟨hz_r_1, hr_2, htd_2⟩ := hq2
  replace hr_2 : ¬ r_1.toInt = 0 → (0 ≤ v1.toInt ∧ v1.toInt < 40) ∧ (M 1 (ix v1)).toInt = 1 := hr_2
  replace htd_2 : TdP r_1.toInt (FdR M 1) v1 := htd_2
  refine wp_ite (fun c5 => ?_) (fun c5 => ?_)
  · exact wp_some ⟨b01_0, (fun _ _ _ => rfl), (st_gd hGd), (op_n (td_n htd_2 c5) rfl rfl)⟩
  · have j28 : ∀ (t0_28 : Int32), (t0_28 = 0 ∨ t0_28 = 1) → (t0_28 = v2) → Wp (f_X10_under_L28 M v1 t0_28) (fun q => (q.1 = 0 ∨ q.1 = 1) ∧ (∀ a i, ¬ (a = 1) → q.2 a i = M a i) ∧ (ST (q.2 1)) ∧ (UnP (FdR M 1) (FdR q.2 1) q.1 v1 v2)) := by
      intro t0_28 hb_t0_28 h28
      unfold f_X10_under_L28
      refine wp_gd (by have f0 := t_lit 160; have f1 := t_add (nI 160) v1; omega) ?_
      refine wp_bnd (fun M_2 eM_2 => ?_)
      have hFF : UnP (FdR M 1) (FdR M_2 1) (nI 1) v1 v2 := op_y (td_y htd_2 c5) (fdr_set (a := 5) (ix40 (td_y htd_2 c5).1.1 (td_y htd_2 c5).1.2) (by omega) (by omega) (td_y htd_2 c5).2 (by rw [eM_2, mset_s, ixc (td_y htd_2 c5).1.1 (td_y htd_2 c5).1.2 (by omega), h28]; rfl)) rfl
      exact wp_some ⟨b01_1, (fun a i q0 => ((congrFun (congrFun eM_2 a) i).trans ((mset_ne (fun h9 => q0 ((h9).1))).trans rfl))), (st_gd (gd_und hFF hb2 hGd)), hFF⟩
    refine wp_ite (fun c20 => ?_) (fun c20 => ?_)
    · exact j28 (nI 0) b01_0 (b01n c20)
    · exact j28 (nI 1) b01_1 (b01y (b01_to hb2) c20)
theorem o9_X10_seed (M : Mem) (v1 : Int32) (hGd : GdF (FdR M 1)) : Wp (f_X10_seed M v1) (fun q => (q.1 = 0 ∨ q.1 = 1) ∧ (∀ a i, ¬ (a = 1) → q.2 a i = M a i) ∧ (ST (q.2 1)) ∧ (SdP (FdR M 1) (FdR q.2 1) q.1 v1)) := by
  refine wp_bind2 (o2_X10_in M v1 (nI 0) (nI 65535)) (fun r_1 he5 hq5 => ?_)
  obtain ⟨hz_r_1, hr_5, hi_5⟩ := hq5
  replace hr_5 : ¬ r_1.toInt = 0 → (nI 0).toInt ≤ v1.toInt ∧ v1.toInt ≤ (nI 65535).toInt := hr_5
  have := t_lit 0
  have := t_lit 65535
  replace hi_5 : ¬ r_1.toInt = 0 ↔ (nI 0).toInt ≤ v1.toInt ∧ v1.toInt ≤ (nI 65535).toInt := hi_5
  have := t_lit 0
  have := t_lit 65535
  refine wp_ite (fun c8 => ?_) (fun c8 => ?_)
  · exact wp_some ⟨b01_0, (fun _ _ _ => rfl), (st_gd (gd_sd (show SdP (FdR M 1) (FdR M 1) (nI 0) v1 from (op_n (fun z => hi_5.mpr (by have f0 := t_lit 0; have f1 := t_lit 65535; omega) c8) rfl rfl)) hGd)), (op_n (fun z => hi_5.mpr (by have f0 := t_lit 0; have f1 := t_lit 65535; omega) c8) rfl rfl)⟩
  · refine wp_bnd (fun M_2 eM_2 => ?_)
    exact wp_some ⟨b01_1, (fun a i q0 => ((congrFun (congrFun eM_2 a) i).trans ((mset_ne (fun h9 => q0 ((h9).1))).trans rfl))), (st_gd (gd_sd (show SdP (FdR M 1) (FdR M_2 1) (nI 1) v1 from (op_y (by have f0 := t_lit 0; have f1 := t_lit 65535; have q := hi_5.mp c8; omega) (fdr_sd (by show M_2 1 = _; rw [eM_2, mset_s])) rfl)) hGd)), (op_y (by have f0 := t_lit 0; have f1 := t_lit 65535; have q := hi_5.mp c8; omega) (fdr_sd (by show M_2 1 = _; rw [eM_2, mset_s])) rfl)⟩
theorem o9_X10_nights (M : Mem) (v1 : Int32) (R : Nat) (F : Nat → Int × Int) (tb : Tbl) (hL : LwR M R F tb) (hQ : LwQ R F tb) (hGd : GdF (FdR M 1)) : Wp (f_X10_nights M v1) (fun q => (∀ a i, ¬ ((a = 0 ∧ i = 34) ∨ (a = 0 ∧ i = 35) ∨ a = 1 ∨ a = 17 ∨ a = 18) → q.2 a i = M a i) ∧ (ST (q.2 1)) ∧ (NgP R F tb (FdR M 1) (FdR q.2 1) q.1 v1)) := by
  refine wp_bind2 (o2_X10_in M v1 (nI 1) (nI 60)) (fun r_1 he4 hq4 => ?_)
  obtain ⟨hz_r_1, hr_4, hi_4⟩ := hq4
  replace hr_4 : ¬ r_1.toInt = 0 → (nI 1).toInt ≤ v1.toInt ∧ v1.toInt ≤ (nI 60).toInt := hr_4
  have := t_lit 1
  have := t_lit 60
  replace hi_4 : ¬ r_1.toInt = 0 ↔ (nI 1).toInt ≤ v1.toInt ∧ v1.toInt ≤ (nI 60).toInt := hi_4
  have := t_lit 1
  have := t_lit 60
  refine wp_ite (fun c7 => ?_) (fun c7 => ?_)
  · exact wp_some ⟨(fun _ _ _ => rfl), (st_gd hGd), (op_n (fun z => hi_4.mpr (by have f0 := t_lit 1; have f1 := t_lit 60; omega) c7) rfl rfl)⟩
  · refine wp_bind2 (o8_X10_nightsGo M v1 R F tb hL hQ hGd) (fun M_2 he14 hq14 => ?_)
    obtain ⟨hg_M_2, hst_14, hps_14⟩ := hq14
    replace hst_14 : ST (M_2 1) := hst_14
    replace hps_14 : ngs R F tb v1.toInt.toNat (FdR M 1, nI 0, nI 0) = (FdR M_2 1, M_2 0 34, M_2 0 35) := hps_14
    replace hg_M_2 : ∀ a i, ¬ ((a = 0 ∧ i = 34) ∨ (a = 0 ∧ i = 35) ∨ a = 1 ∨ a = 17 ∨ a = 18) → M_2 a i = M a i := hg_M_2
    exact wp_some ⟨(fun a i q0 => ((hg_M_2 a i (fun z8 => q0 ((fun z9 => Or.elim z9 (fun h9 => Or.inl h9) (fun z9 => Or.elim z9 (fun h9 => Or.inr (Or.inl h9)) (fun z9 => Or.elim z9 (fun h9 => Or.inr (Or.inr (Or.inl h9))) (fun z9 => Or.elim z9 (fun h9 => Or.inr (Or.inr (Or.inr (Or.inl h9)))) (fun h9 => Or.inr (Or.inr (Or.inr (Or.inr (h9))))))))) z8))).trans rfl)), hst_14, (op_y (by have f0 := t_lit 1; have f1 := t_lit 60; have q := hi_4.mp c7; omega) (congrArg (fun t : Mem × Int32 × Int32 => t.1) hps_14).symm (congrArg (fun t : Mem × Int32 × Int32 => t.2.1) hps_14).symm)⟩
theorem o9_X10_keep (M : Mem) (hst : ST (M 1)) : Wp (f_X10_keep M) (fun q => (∀ a i, ¬ ((a = 0 ∧ i = 54) ∨ a = 3) → q.2 a i = M a i) ∧ (ST (q.2 1)) ∧ (ST (q.2 3)) ∧ (q.2 0 54 = 1) ∧ (FdR q.2 3 = FdR M 1 ∧ FdR q.2 1 = FdR M 1)) := by
  refine wp_bnd (fun M_1 eM_1 => ?_)
  refine wp_bind2 (o_X10_copies (by decide) (by decide) M_1 (by omega) (by omega)) (fun M_2 he13 hq13 => ?_)
  obtain ⟨hg_M_2, hc_13⟩ := hq13
  replace hc_13 : ∀ j : Nat, j < 202 → M_2 3 j = M_1 1 j := hc_13
  replace hg_M_2 : ∀ a i, ¬ (a = 3) → M_2 a i = M_1 a i := by exact fun a i q0 => hg_M_2 a i (by first | decide | (rcases hc0 with h | h <;> rw [h] <;> simp; done) | (rcases hb0 with h | h | h <;> rw [h] <;> simp; done) | (simp; done) | omega)
  exact wp_some ⟨(fun a i q0 => ((hg_M_2 a i (fun h9 => q0 (Or.inr (h9)))).trans ((congrFun (congrFun eM_1 a) i).trans ((mset_ne (fun h9 => q0 (Or.inl h9))).trans rfl)))), (by have e9 : M_2 1 = M 1 := funext (fun i => ((hg_M_2 1 i (by first | decide | (rcases hc0 with h | h <;> rw [h] <;> simp; done) | (rcases hb0 with h | h | h <;> rw [h] <;> simp; done) | (simp; done) | omega)).trans ((congrFun (congrFun eM_1 1) i).trans ((mset_ne (by first | exact nz1 (by decide) | exact nz2 (by decide) | exact nz1 (nzA hc0 (by decide)) | exact nz1 (nzE (by decide)) | exact nz1 (nzB hc0 (by decide)) | exact nz1 (nzC hc0 (by decide)) | exact nz1 (nzD hc0 (by decide)) | exact nz1 (nzF (by decide)) | exact nz1 (nzG (by decide)) | omega)).trans rfl)))); show ST (M_2 1); rw [e9]; exact hst), (st_copy hst (fun j hj => by show M_2 3 j = M 1 j; rw [hc_13 j hj, eM_1, mset_ne (by first | exact nz1 (by decide) | exact nz2 (by decide) | exact nz1 (nzA hc0 (by decide)) | exact nz1 (nzE (by decide)) | exact nz1 (nzB hc0 (by decide)) | exact nz1 (nzC hc0 (by decide)) | exact nz1 (nzD hc0 (by decide)) | exact nz1 (nzF (by decide)) | exact nz1 (nzG (by decide)) | omega)])), (by show M_2 0 54 = 1; rw [hg_M_2 0 54 (by first | decide | (rcases hc0 with h | h <;> rw [h] <;> simp; done) | (rcases hb0 with h | h | h <;> rw [h] <;> simp; done) | (simp; done) | omega), eM_1, mset_eq]; decide), ⟨fdr_cp (fun j hj => by show M_2 3 j = M 1 j; rw [hc_13 j hj, eM_1, mset_ne (by first | exact nz1 (by decide) | exact nz2 (by decide) | exact nz1 (nzA hc0 (by decide)) | exact nz1 (nzE (by decide)) | exact nz1 (nzB hc0 (by decide)) | exact nz1 (nzC hc0 (by decide)) | exact nz1 (nzD hc0 (by decide)) | exact nz1 (nzF (by decide)) | exact nz1 (nzG (by decide)) | omega)]), fdr_same (fun j hj => by show M_2 1 j = M 1 j; rw [hg_M_2 1 j (by first | decide | (rcases hc0 with h | h <;> rw [h] <;> simp; done) | (rcases hb0 with h | h | h <;> rw [h] <;> simp; done) | (simp; done) | omega), eM_1, mset_ne (by first | exact nz1 (by decide) | exact nz2 (by decide) | exact nz1 (nzA hc0 (by decide)) | exact nz1 (nzE (by decide)) | exact nz1 (nzB hc0 (by decide)) | exact nz1 (nzC hc0 (by decide)) | exact nz1 (nzD hc0 (by decide)) | exact nz1 (nzF (by decide)) | exact nz1 (nzG (by decide)) | omega)])⟩⟩
theorem o9_X10_undo (M : Mem) (hst : ST (M 1)) (hsk : ST (M 3)) : Wp (f_X10_undo M) (fun q => (q.1 = 0 ∨ q.1 = 1) ∧ (∀ a i, ¬ (a = 1) → q.2 a i = M a i) ∧ (ST (q.2 1)) ∧ (q.1 = (if (M 0 54).toInt = 0 then nI 0 else nI 1)) ∧ (FdR q.2 3 = FdR M 3 ∧ ((M 0 54).toInt = 0 → FdR q.2 1 = FdR M 1) ∧ (¬ (M 0 54).toInt = 0 → FdR q.2 1 = FdR M 3))) := by
  refine wp_ite (fun c4 => ?_) (fun c4 => ?_)
  · exact wp_some ⟨b01_0, (fun _ _ _ => rfl), hst, (if_pos c4).symm, ⟨rfl, fun _ => rfl, fun z => absurd c4 z⟩⟩
  · refine wp_bind2 (o_X10_copies (by decide) (by decide) M (by omega) (by omega)) (fun M_1 he17 hq17 => ?_)
    obtain ⟨hg_M_1, hc_17⟩ := hq17
    replace hc_17 : ∀ j : Nat, j < 202 → M_1 1 j = M 3 j := hc_17
    replace hg_M_1 : ∀ a i, ¬ (a = 1) → M_1 a i = M a i := by exact fun a i q0 => hg_M_1 a i (by first | decide | (rcases hc0 with h | h <;> rw [h] <;> simp; done) | (rcases hb0 with h | h | h <;> rw [h] <;> simp; done) | (simp; done) | omega)
    exact wp_some ⟨b01_1, (fun a i q0 => ((hg_M_1 a i (fun h9 => q0 (h9))).trans rfl)), (st_copy hsk (fun j hj => hc_17 j hj)), (if_neg c4).symm, ⟨fdr_cp (fun j hj => hg_M_1 3 j (by first | decide | (rcases hc0 with h | h <;> rw [h] <;> simp; done) | (rcases hb0 with h | h | h <;> rw [h] <;> simp; done) | (simp; done) | omega)), fun z => absurd z c4, fun _ => fdr_cp (fun j hj => hc_17 j hj)⟩⟩
theorem o9_X10_at (M : Mem) (v1 : Int32) (v2 : Int32) (hGd : GdF (FdR M 1)) : Wp (f_X10_at M v1 v2) (fun q => (AtP (FdR M 1) q v1 v2)) := by
  refine wp_bind2 (o2_X10_in M v1 (nI 0) (nI 39)) (fun r_1 he4 hq4 => ?_)
  obtain ⟨hz_r_1, hr_4, hi_4⟩ := hq4
  replace hr_4 : ¬ r_1.toInt = 0 → (nI 0).toInt ≤ v1.toInt ∧ v1.toInt ≤ (nI 39).toInt := hr_4
  have := t_lit 0
  have := t_lit 39
  replace hi_4 : ¬ r_1.toInt = 0 ↔ (nI 0).toInt ≤ v1.toInt ∧ v1.toInt ≤ (nI 39).toInt := hi_4
  have := t_lit 0
  have := t_lit 39
  refine wp_ite (fun c7 => ?_) (fun c7 => ?_)
  · exact wp_some (op_n (fun z => hi_4.mpr (by have f0 := t_lit 0; have f1 := t_lit 39; have q := z.1; omega) c7) rfl rfl)
  · refine wp_bind2 (o2_X10_in M v2 (nI 1) (nI 20)) (fun r_2 he14 hq14 => ?_)
    obtain ⟨hz_r_2, hr_14, hi_14⟩ := hq14
    replace hr_14 : ¬ r_2.toInt = 0 → (nI 1).toInt ≤ v2.toInt ∧ v2.toInt ≤ (nI 20).toInt := hr_14
    have := t_lit 1
    have := t_lit 20
    replace hi_14 : ¬ r_2.toInt = 0 ↔ (nI 1).toInt ≤ v2.toInt ∧ v2.toInt ≤ (nI 20).toInt := hi_14
    have := t_lit 1
    have := t_lit 20
    refine wp_ite (fun c17 => ?_) (fun c17 => ?_)
    · exact wp_some (op_n (fun z => hi_14.mpr (by have f0 := t_lit 1; have f1 := t_lit 20; have q := z.2; omega) c17) rfl rfl)
    · refine wp_bind2 (o8_X10_stoneAt M v1 v2 hGd.1.1) (fun r_3 he25 hq25 => ?_)
      obtain ⟨hr_25, hsa_25⟩ := hq25
      replace hr_25 : r_3.toInt = -1 ∨ ((0 ≤ r_3.toInt ∧ r_3.toInt < 40) ∧ (M 1 (ix r_3)).toInt = 1 ∧ (M 1 (ix (nI 40 + r_3))).toInt = v1.toInt ∧ (M 1 (ix (nI 80 + r_3))).toInt = v2.toInt) := hr_25
      replace hsa_25 : r_3 = stA (FdR M 1) v1.toInt v2.toInt 40 0 := hsa_25
      refine wp_ite (fun c31 => ?_) (fun c31 => ?_)
      · exact wp_some (op_y ⟨(by have f0 := t_lit 0; have f1 := t_lit 39; have q := hi_4.mp c7; omega), (by have f0 := t_lit 1; have f1 := t_lit 20; have q := hi_14.mp c17; omega)⟩ rfl (by rw [if_pos (by rw [← hsa_25]; exact c31)]))
      · exact wp_some (op_y ⟨(by have f0 := t_lit 0; have f1 := t_lit 39; have q := hi_4.mp c7; omega), (by have f0 := t_lit 1; have f1 := t_lit 20; have q := hi_14.mp c17; omega)⟩ rfl (by rw [if_neg (by rw [← hsa_25]; exact c31)]; exact hsa_25))
theorem o9_X10_stoneIs (M : Mem) (v1 : Int32) (v2 : Int32) (hGd : GdF (FdR M 1)) : Wp (f_X10_stoneIs M v1 v2) (fun q => (SiP (FdR M 1) q v1 v2)) := by
  refine wp_bind2 (o8_X10_isStone M v1 hGd.1.1) (fun r_1 he2 hq2 => ?_)
  obtain ⟨hz_r_1, hr_2, htd_2⟩ := hq2
  replace hr_2 : ¬ r_1.toInt = 0 → (0 ≤ v1.toInt ∧ v1.toInt < 40) ∧ (M 1 (ix v1)).toInt = 1 := hr_2
  replace htd_2 : TdP r_1.toInt (FdR M 1) v1 := htd_2
  refine wp_ite (fun c5 => ?_) (fun c5 => ?_)
  · exact wp_some (op_n (td_n htd_2 c5) rfl rfl)
  · refine wp_ite (fun c11 => ?_) (fun c11 => ?_)
    · refine wp_gd (by have f0 := t_lit 40; have f1 := t_add (nI 40) v1; omega) ?_
      exact wp_some (op_y (td_y htd_2 c5) rfl (by rw [si_0 (by omega)]; exact (fdr_x (td_y htd_2 c5).1.1 (td_y htd_2 c5).1.2 (td_y htd_2 c5).2)))
    · refine wp_ite (fun c1 => ?_) (fun c1 => ?_)
      · refine wp_gd (by have f0 := t_lit 80; have f1 := t_add (nI 80) v1; omega) ?_
        exact wp_some (op_y (td_y htd_2 c5) rfl (by rw [si_1 (by omega)]; exact (fdr_y (td_y htd_2 c5).1.1 (td_y htd_2 c5).1.2 (td_y htd_2 c5).2)))
      · refine wp_ite (fun c2 => ?_) (fun c2 => ?_)
        · refine wp_gd (by have f0 := t_lit 120; have f1 := t_add (nI 120) v1; omega) ?_
          exact wp_some (op_y (td_y htd_2 c5) rfl (by rw [si_2 (by omega)]; exact (fdr_s (td_y htd_2 c5).1.1 (td_y htd_2 c5).1.2 (td_y htd_2 c5).2)))
        · refine wp_ite (fun c3 => ?_) (fun c3 => ?_)
          · refine wp_gd (by have f0 := t_lit 160; have f1 := t_add (nI 160) v1; omega) ?_
            exact wp_some (op_y (td_y htd_2 c5) rfl (by rw [si_3 (by omega)]; exact (fdr_u (td_y htd_2 c5).1.1 (td_y htd_2 c5).1.2 (td_y htd_2 c5).2)))
          · refine wp_ite (fun c4 => ?_) (fun c4 => ?_)
            · refine wp_bind2 (o8_X10_nearTo M v1 (td_y htd_2 c5).1 hGd.1.1 (td_y htd_2 c5).2) (fun r_2 he87 hq87 => ?_)
              have hcl_87 := hq87
              replace hcl_87 : r_2 = clF (FdR M 1) (ix v1) 40 := hcl_87
              exact wp_some (op_y (td_y htd_2 c5) rfl (by rw [si_4 (by omega)]; exact hcl_87))
            · exact wp_some (op_y (td_y htd_2 c5) rfl (by rw [si_5 (by omega)]))
theorem o9_X10_sumOf (M : Mem) (v1 : Int32) (hv : 0 ≤ v1.toInt ∧ v1.toInt ≤ 160) (sa : Nat) (ha : (sa = 4 ∧ v1 = nI 0) ∨ (sa = 1 ∧ v1 = nI 40) ∨ (sa = 5 ∧ v1 = nI 160)) (hGd : GdF (FdR M 1)) : Wp (f_X10_sumOf M v1) (fun q => (q = smT sa (FdR M 1) 40)) := by
  refine wp_lp2 (fun y2_4 y3_4 => (0 ≤ y3_4.toInt) ∧ (y2_4 = smT sa (FdR M 1) (ix y3_4)) ∧ (y3_4.toInt ≤ 40)) (fun y2_4 y3_4 => (40 - y3_4.toInt).toNat) (fun ag4 y2_4 y3_4 hI4 ih4 => ?_) FU (nI 0) (nI 0) ⟨(by have f0 := t_lit 0; omega), (by rw [show ix (nI 0) = 0 from (by decide)]; rfl), (by decide)⟩ (fu_lt (by have f0 := t_lit 0; omega))
  obtain ⟨hi4, h4, h40⟩ := hI4
  refine wp_ite (fun c7 => ?_) (fun c7 => ?_)
  · exact wp_some (by show y2_4 = _; rw [h4, e40 hi4 c7 h40])
  · have u := up40 hi4 c7
    refine wp_bind2 (o8_X10_isStone M y3_4 hGd.1.1) (fun r_1 he13 hq13 => ?_)
    obtain ⟨hz_r_1, hr_13, htd_13⟩ := hq13
    replace hr_13 : ¬ r_1.toInt = 0 → (0 ≤ y3_4.toInt ∧ y3_4.toInt < 40) ∧ (M 1 (ix y3_4)).toInt = 1 := hr_13
    replace htd_13 : TdP r_1.toInt (FdR M 1) y3_4 := htd_13
    refine wp_ite (fun c16 => ?_) (fun c16 => ?_)
    · exact ih4 (y2_4 + (nI 0)) (y3_4 + (nI 1)) ⟨(by have f0 := t_lit 1; have f1 := t_add y3_4 (nI 1); omega), (by rw [u.1]; exact sm_n (Classical.byContradiction (fun q => td_n htd_13 c16 ⟨⟨hi4, u.2.2⟩, q⟩)) h4), (le40 hi4 c7)⟩ (by have f0 := t_lit 1; have f1 := t_add y3_4 (nI 1); omega)
    · have ht := td_y htd_13 c16
      refine wp_gd (by have f0 := t_add v1 y3_4; omega) ?_
      refine wp_bnd (fun x_2 ex_2 => ?_)
      exact ih4 x_2 (y3_4 + (nI 1)) ⟨(by have f0 := t_lit 1; have f1 := t_add y3_4 (nI 1); omega), (by rw [u.1, ex_2]; exact sm_y ht.2 h4 (fdr_v u.2.1 rfl ⟨hi4, u.2.2⟩ ha ht.2)), (le40 hi4 c7)⟩ (by have f0 := t_lit 1; have f1 := t_add y3_4 (nI 1); omega)
