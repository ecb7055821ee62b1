theorem o8_X2_isTold {b : Nat} (hb : isF b) (M : Mem) (v1 : Int32) : Wp (f_X2_isTold b M v1) (fun q => (q = 0 ∨ q = 1) ∧ (¬ q.toInt = 0 → 0 ≤ v1.toInt ∧ v1.toInt < 40) ∧ (TdP q.toInt (FdC M b) v1)) := by
  have hb0 : b = 1 ∨ b = 7 ∨ b = 13 := hb
  refine wp_ite (fun c1 => ?_) (fun c1 => ?_)
  · exact wp_some ⟨b01_0, (by show ¬ (nI 0).toInt = 0 → 0 ≤ v1.toInt ∧ v1.toInt < 40; have f0 := t_lit 0; omega), ⟨fun z => absurd nI0 z, fun z => absurd z.1 (by omega)⟩⟩
  · refine wp_ite (fun c7 => ?_) (fun c7 => ?_)
    · exact wp_some ⟨b01_0, (by show ¬ (nI 0).toInt = 0 → 0 ≤ v1.toInt ∧ v1.toInt < 40; have f0 := t_lit 0; omega), ⟨fun z => absurd nI0 z, fun z => absurd z.1 (by omega)⟩⟩
    · refine wp_gd (by omega) ?_
      refine wp_ite (fun c16 => ?_) (fun c16 => ?_)
      · exact wp_some ⟨b01_0, (by show ¬ (nI 0).toInt = 0 → 0 ≤ v1.toInt ∧ v1.toInt < 40; have f0 := t_lit 0; omega), ⟨fun z => absurd nI0 z, fun z => absurd c16 (by have z2 := z.2; unfold tld at z2; rw [fdc_4 (ix40 (by omega) (by omega))] at z2; exact z2)⟩⟩
      · exact wp_some ⟨b01_1, (by show ¬ (nI 1).toInt = 0 → 0 ≤ v1.toInt ∧ v1.toInt < 40; have f0 := t_lit 1; omega), ⟨fun _ => ⟨⟨by omega, by omega⟩, by show ¬ (FdC M b 4 (ix v1)).toInt = 0; rw [fdc_4 (ix40 (by omega) (by omega))]; exact c16⟩, fun _ => ne1⟩⟩
theorem o8_X2_stoneAt {b : Nat} (hb : isF b) (M : Mem) (v1 : Int32) (v2 : Int32) : Wp (f_X2_stoneAt b M v1 v2) (fun q => (q = stA (FdC M b) v1.toInt v2.toInt 40 0)) := by
  have hb0 : b = 1 ∨ b = 7 ∨ b = 13 := hb
  refine wp_lp1 (fun y3_2 => (0 ≤ y3_2.toInt) ∧ (stA (FdC M b) v1.toInt v2.toInt 40 0 = stA (FdC M b) v1.toInt v2.toInt (40 - ix y3_2) (ix y3_2))) (fun y3_2 => (40 - y3_2.toInt).toNat) (fun ag2 y3_2 hI2 ih2 => ?_) FU (nI 0) ⟨(by have f0 := t_lit 0; omega), (by rw [show ix (nI 0) = 0 from (by decide)])⟩ (fu_lt (by have f0 := t_lit 0; omega))
  obtain ⟨hi2, hA2⟩ := hI2
  refine wp_ite (fun c5 => ?_) (fun c5 => ?_)
  · exact wp_some (by show -1 = stA (FdC M b) v1.toInt v2.toInt 40 0; rw [hA2, stA_0 (ge40 hi2 c5)])
  · have u := up40 hi2 c5
    refine wp_gd (by omega) ?_
    refine wp_ite (fun c14 => ?_) (fun c14 => ?_)
    · exact ih2 (y3_2 + (nI 1)) ⟨(by have f0 := t_lit 1; have f1 := t_add y3_2 (nI 1); omega), (by rw [hA2, stA_n u.2.1 (fun z => z.1 (by rw [fdc_4 u.2.1]; exact c14)), u.1])⟩ (by have f0 := t_lit 1; have f1 := t_add y3_2 (nI 1); omega)
    · have ht : tld (FdC M b) (ix y3_2) := by
        unfold tld
        rw [fdc_4 u.2.1]
        exact c14
      have ex := fdc_at (a := 1) u.2.1 (by omega) ht
      have ey := fdc_at (a := 2) u.2.1 (by omega) ht
      refine wp_gd (by omega) ?_
      refine wp_ite (fun c24 => ?_) (fun c24 => ?_)
      · refine wp_gd (by omega) ?_
        refine wp_ite (fun c34 => ?_) (fun c34 => ?_)
        · exact wp_some (by show y3_2 = stA (FdC M b) v1.toInt v2.toInt 40 0; rw [hA2, stA_y u.2.1 ⟨ht, by rw [ex]; exact c24, by rw [ey]; exact c34⟩, nI_ixx hi2])
        · exact ih2 (y3_2 + (nI 1)) ⟨(by have f0 := t_lit 1; have f1 := t_add y3_2 (nI 1); omega), (by rw [hA2, stA_n u.2.1 (fun z => c34 (by rw [← ey]; exact z.2.2)), u.1])⟩ (by have f0 := t_lit 1; have f1 := t_add y3_2 (nI 1); omega)
      · exact ih2 (y3_2 + (nI 1)) ⟨(by have f0 := t_lit 1; have f1 := t_add y3_2 (nI 1); omega), (by rw [hA2, stA_n u.2.1 (fun z => c24 (by rw [← ex]; exact z.2.1)), u.1])⟩ (by have f0 := t_lit 1; have f1 := t_add y3_2 (nI 1); omega)
theorem o8_X2_squares {b : Nat} (hb : isF b) (M : Mem) (v1 : Int32) (v2 : Int32) : Wp (f_X2_squares b M v1 v2) (fun q => (tld (FdC M b) (ix v1) → tld (FdC M b) (ix v2) → 0 ≤ v1.toInt → v1.toInt < 40 → 0 ≤ v2.toInt → v2.toInt < 40 → q = sqF (FdC M b) (ix v1) (ix v2))) := by
  have hb0 : b = 1 ∨ b = 7 ∨ b = 13 := hb
  refine wp_bind2 (o8_X2_isTold hb M v1) (fun r_1 he2 hq2 => ?_)
  obtain ⟨hz_r_1, hr_2, htd_2⟩ := hq2
  replace hr_2 : ¬ r_1.toInt = 0 → 0 ≤ v1.toInt ∧ v1.toInt < 40 := hr_2
  replace htd_2 : TdP r_1.toInt (FdC M b) v1 := htd_2
  refine wp_ite (fun c5 => ?_) (fun c5 => ?_)
  · exact wp_some (fun t1 t2 a1 a2 b1 b2 => absurd ⟨⟨a1, a2⟩, t1⟩ (td_n htd_2 c5))
  · refine wp_bind2 (o8_X2_isTold hb M v2) (fun r_2 he10 hq10 => ?_)
    obtain ⟨hz_r_2, hr_10, htd_10⟩ := hq10
    replace hr_10 : ¬ r_2.toInt = 0 → 0 ≤ v2.toInt ∧ v2.toInt < 40 := hr_10
    replace htd_10 : TdP r_2.toInt (FdC M b) v2 := htd_10
    refine wp_ite (fun c13 => ?_) (fun c13 => ?_)
    · exact wp_some (fun t1 t2 a1 a2 b1 b2 => absurd ⟨⟨b1, b2⟩, t2⟩ (td_n htd_10 c13))
    · refine wp_gd (by omega) ?_
      refine wp_gd (by omega) ?_
      refine wp_bnd (fun x_3 ex_3 => ?_)
      refine wp_gd (by omega) ?_
      refine wp_gd (by omega) ?_
      refine wp_bnd (fun x_4 ex_4 => ?_)
      exact wp_some (fun t1 t2 a1 a2 b1 b2 => by show (x_3 * x_3) + (x_4 * x_4) = _; unfold sqF; rw [ex_3, ex_4, fdc_at (a := 1) (ix40 a1 a2) (by omega) t1, fdc_at (a := 2) (ix40 a1 a2) (by omega) t1, fdc_at (a := 1) (ix40 b1 b2) (by omega) t2, fdc_at (a := 2) (ix40 b1 b2) (by omega) t2])
theorem o8_X2_countClose {b : Nat} (hb : isF b) (M : Mem) (v1 : Int32) (hv1 : 0 ≤ v1.toInt ∧ v1.toInt < 40) (htl : tld (FdC M b) (ix v1)) : Wp (f_X2_countClose b M v1) (fun q => (q = clF (FdC M b) (ix v1) 40)) := by
  have hb0 : b = 1 ∨ b = 7 ∨ b = 13 := hb
  refine wp_lp2 (fun y2_4 y3_4 => (0 ≤ y3_4.toInt) ∧ (y2_4 = clF (FdC M b) (ix v1) (ix y3_4)) ∧ (y3_4.toInt ≤ 40)) (fun y2_4 y3_4 => (40 - y3_4.toInt).toNat) (fun ag4 y2_4 y3_4 hI4 ih4 => ?_) FU (nI 0) (nI 0) ⟨(by have f0 := t_lit 0; omega), (by rw [show ix (nI 0) = 0 from (by decide)]; rfl), (by decide)⟩ (fu_lt (by have f0 := t_lit 0; omega))
  obtain ⟨hi4, hA4, h40⟩ := hI4
  refine wp_ite (fun c7 => ?_) (fun c7 => ?_)
  · exact wp_some (by show y2_4 = _; rw [hA4, e40 hi4 c7 h40])
  · have u := up40 hi4 c7
    refine wp_ite (fun c12 => ?_) (fun c12 => ?_)
    · exact ih4 y2_4 (y3_4 + (nI 1)) ⟨(by have f0 := t_lit 1; have f1 := t_add y3_4 (nI 1); omega), (by rw [u.1, clF_n (fun z => z.1 (ixx_of c12)), ← hA4]), (le40 hi4 c7)⟩ (by have f0 := t_lit 1; have f1 := t_add y3_4 (nI 1); omega)
    · refine wp_gd (by omega) ?_
      refine wp_ite (fun c21 => ?_) (fun c21 => ?_)
      · exact ih4 y2_4 (y3_4 + (nI 1)) ⟨(by have f0 := t_lit 1; have f1 := t_add y3_4 (nI 1); omega), (by rw [u.1, clF_n (fun z => z.2.1 (by rw [fdc_4 u.2.1]; exact c21)), ← hA4]), (le40 hi4 c7)⟩ (by have f0 := t_lit 1; have f1 := t_add y3_4 (nI 1); omega)
      · have ht : tld (FdC M b) (ix y3_4) := by
          unfold tld
          rw [fdc_4 u.2.1]
          exact c21
        refine wp_bind2 (o8_X2_squares hb M v1 y3_4) (fun r_1 he27 hq27 => ?_)
        have hsq_27 := hq27
        replace hsq_27 : tld (FdC M b) (ix v1) → tld (FdC M b) (ix y3_4) → 0 ≤ v1.toInt → v1.toInt < 40 → 0 ≤ y3_4.toInt → y3_4.toInt < 40 → r_1 = sqF (FdC M b) (ix v1) (ix y3_4) := hsq_27
        have hsq := hsq_27 htl ht hv1.1 hv1.2 hi4 u.2.2
        refine wp_ite (fun c31 => ?_) (fun c31 => ?_)
        · exact ih4 y2_4 (y3_4 + (nI 1)) ⟨(by have f0 := t_lit 1; have f1 := t_add y3_4 (nI 1); omega), (by rw [u.1, clF_n (fun z => absurd z.2.2 (by rw [← hsq]; omega)), ← hA4]), (le40 hi4 c7)⟩ (by have f0 := t_lit 1; have f1 := t_add y3_4 (nI 1); omega)
        · exact ih4 (y2_4 + (nI 1)) (y3_4 + (nI 1)) ⟨(by have f0 := t_lit 1; have f1 := t_add y3_4 (nI 1); omega), (by rw [u.1, clF_y ⟨ix_ne hi4 hv1.1 c12, ht, by rw [← hsq]; omega⟩, ← hA4]), (le40 hi4 c7)⟩ (by have f0 := t_lit 1; have f1 := t_add y3_4 (nI 1); omega)
theorem o8_X2_draw {b : Nat} (hb : isF b) (M : Mem) : Wp (f_X2_draw b M) (fun q => (∀ a i, ¬ ((a = b ∧ i = 6)) → q.2 a i = M a i) ∧ (FdC q.2 b = mset (FdC M b) 0 6 (drw ((FdC M b) 0 6)) ∧ q.1 = rm (drw ((FdC M b) 0 6)) (nI 10))) := by
  have hb0 : b = 1 ∨ b = 7 ∨ b = 13 := hb
  refine wp_bnd (fun M_1 eM_1 => ?_)
  have e6 : (FdC M b) 0 6 = M b 6 := by
    unfold FdC
    rw [mk_0 (by omega)]
    rfl
  exact wp_some ⟨(fun a i q0 => ((congrFun (congrFun eM_1 a) i).trans ((mset_ne (fun h9 => q0 (h9))).trans rfl))), (by show FdC M_1 b = mset (FdC M b) 0 6 (drw ((FdC M b) 0 6)) ∧ rm (M_1 b 6) (nI 10) = rm (drw ((FdC M b) 0 6)) (nI 10); rw [e6]; refine ⟨?_, by rw [eM_1, mset_eq]; rfl⟩; unfold FdC; rw [eM_1, rwC_set0, mk_set0 (by omega)]; rfl)⟩
theorem o8_X2_lay {b : Nat} (hb : isF b) (M : Mem) (v1 : Int32) (v2 : Int32) (v3 : Int32) (v4 : Int32) (v5 : Int32) : Wp (f_X2_lay b M v1 v2 v3 v4 v5) (fun q => (∀ a i, ¬ (a = (b + 1) ∨ a = (b + 2) ∨ a = (b + 3) ∨ a = (b + 4) ∨ a = (b + 5)) → q a i = M a i) ∧ (0 ≤ v1.toInt → v1.toInt < 40 → FdC q b = lyF (FdC M b) (ix v1) v2 v3 v4 (vp_nar .boolean v5))) := by
  have hb0 : b = 1 ∨ b = 7 ∨ b = 13 := hb
  refine wp_ite (fun c1 => ?_) (fun c1 => ?_)
  · exact wp_some ⟨(fun _ _ _ => rfl), (fun z1 z2 => by omega)⟩
  · refine wp_ite (fun c7 => ?_) (fun c7 => ?_)
    · refine wp_gd (by omega) ?_
      refine wp_bnd (fun M_1 eM_1 => ?_)
      refine wp_gd (by omega) ?_
      refine wp_bnd (fun M_2 eM_2 => ?_)
      refine wp_gd (by omega) ?_
      refine wp_bnd (fun M_3 eM_3 => ?_)
      refine wp_gd (by omega) ?_
      refine wp_bnd (fun M_4 eM_4 => ?_)
      refine wp_gd (by omega) ?_
      refine wp_bnd (fun M_5 eM_5 => ?_)
      exact wp_some ⟨(fun a i q0 => ((congrFun (congrFun eM_5 a) i).trans ((mset_ne (fun h9 => q0 (Or.inr (Or.inr (Or.inr (Or.inl (h9).1)))))).trans ((congrFun (congrFun eM_4 a) i).trans ((mset_ne (fun h9 => q0 (Or.inr (Or.inr (Or.inr (Or.inr ((h9).1))))))).trans ((congrFun (congrFun eM_3 a) i).trans ((mset_ne (fun h9 => q0 (Or.inr (Or.inr (Or.inl (h9).1))))).trans ((congrFun (congrFun eM_2 a) i).trans ((mset_ne (fun h9 => q0 (Or.inr (Or.inl (h9).1)))).trans ((congrFun (congrFun eM_1 a) i).trans ((mset_ne (fun h9 => q0 (Or.inl (h9).1))).trans rfl))))))))))), (fun z1 z2 => by show FdC M_5 b = _; unfold FdC; rw [eM_5, rwC_set (by omega), eM_4, rwC_set (by omega), eM_3, rwC_set (by omega), eM_2, rwC_set (by omega), eM_1, rwC_set (by omega), ← mk_lay (ix40 z1 z2)]; exact congrArg mskF (ly_perm (by decide)))⟩
    · exact wp_some ⟨(fun _ _ _ => rfl), (fun z1 z2 => by omega)⟩
theorem o8_X10_isStone (M : Mem) (v1 : Int32) (hB : TdB (FdR M 1)) : Wp (f_X10_isStone M v1) (fun q => (q = 0 ∨ q = 1) ∧ (¬ q.toInt = 0 → (0 ≤ v1.toInt ∧ v1.toInt < 40) ∧ (M 1 (ix v1)).toInt = 1) ∧ (TdP q.toInt (FdR M 1) v1)) := by
  refine wp_bind2 (o2_X10_in M v1 (nI 0) (nI 39)) (fun r_1 he4 hq4 => ?_)
  obtain ⟨hz_r_1, hr_4, hi_4⟩ := hq4
  replace hr_4 : ¬ r_1.toInt = 0 → (nI 0).toInt ≤ v1.toInt ∧ v1.toInt ≤ (nI 39).toInt := hr_4
  have := t_lit 0
  have := t_lit 39
  replace hi_4 : ¬ r_1.toInt = 0 ↔ (nI 0).toInt ≤ v1.toInt ∧ v1.toInt ≤ (nI 39).toInt := hi_4
  have := t_lit 0
  have := t_lit 39
  refine wp_ite (fun c7 => ?_) (fun c7 => ?_)
  · exact wp_some ⟨b01_0, (by show ¬ (nI 0).toInt = 0 → (0 ≤ v1.toInt ∧ v1.toInt < 40) ∧ (M 1 (ix v1)).toInt = 1; have f0 := t_lit 0; omega), ⟨fun z => absurd nI0 z, fun z => absurd c7 (hi_4.mpr ⟨by have := t_lit 0; have := z.1; omega, by have := t_lit 39; have := z.1; omega⟩)⟩⟩
  · refine wp_gd (by omega) ?_
    refine wp_ite (fun c19 => ?_) (fun c19 => ?_)
    · exact wp_some ⟨b01_1, (by show ¬ (nI 1).toInt = 0 → (0 ≤ v1.toInt ∧ v1.toInt < 40) ∧ (M 1 (ix v1)).toInt = 1; have f0 := t_lit 1; omega), ⟨fun _ => ⟨⟨by have := t_lit 0; omega, by have := t_lit 39; omega⟩, (tdr_1 hB (ix40 (by have := t_lit 0; omega) (by have := t_lit 39; omega))).mp c19⟩, fun _ => ne1⟩⟩
    · exact wp_some ⟨b01_0, (by show ¬ (nI 0).toInt = 0 → (0 ≤ v1.toInt ∧ v1.toInt < 40) ∧ (M 1 (ix v1)).toInt = 1; have f0 := t_lit 0; omega), ⟨fun z => absurd nI0 z, fun z => absurd ((tdr_1 hB (ix40 z.1.1 z.1.2)).mpr z.2) c19⟩⟩
theorem o8_X10_stoneAt (M : Mem) (v1 : Int32) (v2 : Int32) (hB : TdB (FdR M 1)) : Wp (f_X10_stoneAt M v1 v2) (fun q => (q.toInt = -1 ∨ ((0 ≤ q.toInt ∧ q.toInt < 40) ∧ (M 1 (ix q)).toInt = 1 ∧ (M 1 (ix (nI 40 + q))).toInt = v1.toInt ∧ (M 1 (ix (nI 80 + q))).toInt = v2.toInt)) ∧ (q = stA (FdR M 1) v1.toInt v2.toInt 40 0)) := by
  refine wp_lp1 (fun y3_2 => (0 ≤ y3_2.toInt) ∧ (stA (FdR M 1) v1.toInt v2.toInt 40 0 = stA (FdR M 1) v1.toInt v2.toInt (40 - ix y3_2) (ix y3_2))) (fun y3_2 => (40 - y3_2.toInt).toNat) (fun ag2 y3_2 hI2 ih2 => ?_) FU (nI 0) ⟨(by have f0 := t_lit 0; omega), (by rw [show ix (nI 0) = 0 from (by decide)])⟩ (fu_lt (by have f0 := t_lit 0; omega))
  obtain ⟨hi2, hA2⟩ := hI2
  refine wp_ite (fun c5 => ?_) (fun c5 => ?_)
  · exact wp_some ⟨(by show (-1 : Int32).toInt = -1 ∨ ((0 ≤ (-1 : Int32).toInt ∧ (-1 : Int32).toInt < 40) ∧ (M 1 (ix (-1 : Int32))).toInt = 1 ∧ (M 1 (ix (nI 40 + (-1 : Int32)))).toInt = v1.toInt ∧ (M 1 (ix (nI 80 + (-1 : Int32)))).toInt = v2.toInt); have f0 := (by decide : ((-1 : Int32)).toInt = -1); have f1 := (by decide : ((-1 : Int32)).toInt = -1); omega), (by show -1 = stA (FdR M 1) v1.toInt v2.toInt 40 0; rw [hA2, stA_0 (ge40 hi2 c5)])⟩
  · have u := up40 hi2 c5
    refine wp_gd (by omega) ?_
    refine wp_ite (fun c17 => ?_) (fun c17 => ?_)
    · have ht := (tdr_1 hB u.2.1).mp c17
      have ex := fdr_x hi2 u.2.2 ht
      have ey := fdr_y hi2 u.2.2 ht
      refine wp_gd (by have f0 := t_lit 40; have f1 := t_add (nI 40) y3_2; omega) ?_
      refine wp_ite (fun c30 => ?_) (fun c30 => ?_)
      · refine wp_gd (by have f0 := t_lit 80; have f1 := t_add (nI 80) y3_2; have f2 := t_lit 40; have f3 := t_add (nI 40) y3_2; omega) ?_
        refine wp_ite (fun c43 => ?_) (fun c43 => ?_)
        · exact wp_some ⟨(by show y3_2.toInt = -1 ∨ ((0 ≤ y3_2.toInt ∧ y3_2.toInt < 40) ∧ (M 1 (ix y3_2)).toInt = 1 ∧ (M 1 (ix (nI 40 + y3_2))).toInt = v1.toInt ∧ (M 1 (ix (nI 80 + y3_2))).toInt = v2.toInt); have f0 := t_lit 40; have f1 := t_add (nI 40) y3_2; have f2 := t_lit 80; have f3 := t_add (nI 80) y3_2; omega), (by show y3_2 = stA (FdR M 1) v1.toInt v2.toInt 40 0; rw [hA2, stA_y u.2.1 ⟨ht, by rw [← ex]; exact c30, by rw [← ey]; exact c43⟩, nI_ixx hi2])⟩
        · exact ih2 (y3_2 + (nI 1)) ⟨(by have f0 := t_lit 1; have f1 := t_add y3_2 (nI 1); have f2 := t_lit 40; have f3 := t_add (nI 40) y3_2; have f4 := t_lit 80; have f5 := t_add (nI 80) y3_2; omega), (by rw [hA2, stA_n u.2.1 (fun z => c43 (by rw [ey]; exact z.2.2)), u.1])⟩ (by have f0 := t_lit 1; have f1 := t_add y3_2 (nI 1); have f2 := t_lit 40; have f3 := t_add (nI 40) y3_2; have f4 := t_lit 80; have f5 := t_add (nI 80) y3_2; omega)
      · exact ih2 (y3_2 + (nI 1)) ⟨(by have f0 := t_lit 1; have f1 := t_add y3_2 (nI 1); have f2 := t_lit 40; have f3 := t_add (nI 40) y3_2; omega), (by rw [hA2, stA_n u.2.1 (fun z => c30 (by rw [ex]; exact z.2.1)), u.1])⟩ (by have f0 := t_lit 1; have f1 := t_add y3_2 (nI 1); have f2 := t_lit 40; have f3 := t_add (nI 40) y3_2; omega)
    · exact ih2 (y3_2 + (nI 1)) ⟨(by have f0 := t_lit 1; have f1 := t_add y3_2 (nI 1); omega), (by rw [hA2, stA_n u.2.1 (fun z => c17 ((tdr_1 hB u.2.1).mpr z.1)), u.1])⟩ (by have f0 := t_lit 1; have f1 := t_add y3_2 (nI 1); omega)
theorem o8_X10_apart (M : Mem) (v1 : Int32) (v2 : Int32) (hv1 : 0 ≤ v1.toInt ∧ v1.toInt < 40) (hv2 : 0 ≤ v2.toInt ∧ v2.toInt < 40) : Wp (f_X10_apart M v1 v2) (fun q => (tld (FdR M 1) (ix v1) → tld (FdR M 1) (ix v2) → q = sqF (FdR M 1) (ix v1) (ix v2))) := by
  refine wp_gd (by have f0 := t_lit 40; have f1 := t_add (nI 40) v1; omega) ?_
  refine wp_gd (by have f0 := t_lit 40; have f1 := t_add (nI 40) v2; omega) ?_
  refine wp_bnd (fun x_1 ex_1 => ?_)
  refine wp_gd (by have f0 := t_lit 80; have f1 := t_add (nI 80) v1; omega) ?_
  refine wp_gd (by have f0 := t_lit 80; have f1 := t_add (nI 80) v2; omega) ?_
  refine wp_bnd (fun x_2 ex_2 => ?_)
  exact wp_some (fun t1 t2 => by show (x_1 * x_1) + (x_2 * x_2) = _; unfold sqF; rw [ex_1, ex_2, fdr_x hv1.1 hv1.2 t1, fdr_y hv1.1 hv1.2 t1, fdr_x hv2.1 hv2.2 t2, fdr_y hv2.1 hv2.2 t2])
theorem o8_X10_nearTo (M : Mem) (v1 : Int32) (hv1 : 0 ≤ v1.toInt ∧ v1.toInt < 40) (hB : TdB (FdR M 1)) (htl : tld (FdR M 1) (ix v1)) : Wp (f_X10_nearTo M v1) (fun q => (q = clF (FdR M 1) (ix v1) 40)) := by
  refine wp_lp2 (fun y2_4 y3_4 => (0 ≤ y3_4.toInt) ∧ (y2_4 = clF (FdR M 1) (ix v1) (ix y3_4)) ∧ (y3_4.toInt ≤ 40)) (fun y2_4 y3_4 => (40 - y3_4.toInt).toNat) (fun ag4 y2_4 y3_4 hI4 ih4 => ?_) FU (nI 0) (nI 0) ⟨(by have f0 := t_lit 0; omega), (by rw [show ix (nI 0) = 0 from (by decide)]; rfl), (by decide)⟩ (fu_lt (by have f0 := t_lit 0; omega))
  obtain ⟨hi4, hA4, h40⟩ := hI4
  refine wp_ite (fun c7 => ?_) (fun c7 => ?_)
  · exact wp_some (by show y2_4 = _; rw [hA4, e40 hi4 c7 h40])
  · have u := up40 hi4 c7
    refine wp_ite (fun c12 => ?_) (fun c12 => ?_)
    · exact ih4 y2_4 (y3_4 + (nI 1)) ⟨(by have f0 := t_lit 1; have f1 := t_add y3_4 (nI 1); omega), (by rw [u.1, clF_n (fun z => z.1 (ixx_of c12)), ← hA4]), (le40 hi4 c7)⟩ (by have f0 := t_lit 1; have f1 := t_add y3_4 (nI 1); omega)
    · refine wp_gd (by omega) ?_
      refine wp_ite (fun c24 => ?_) (fun c24 => ?_)
      · have ht := (tdr_1 hB u.2.1).mp c24
        refine wp_bind2 (o8_X10_apart M v1 y3_4 (by omega) (by omega)) (fun r_1 he30 hq30 => ?_)
        have hsq_30 := hq30
        replace hsq_30 : tld (FdR M 1) (ix v1) → tld (FdR M 1) (ix y3_4) → r_1 = sqF (FdR M 1) (ix v1) (ix y3_4) := hsq_30
        have hsq := hsq_30 htl ht
        refine wp_ite (fun c34 => ?_) (fun c34 => ?_)
        · exact ih4 y2_4 (y3_4 + (nI 1)) ⟨(by have f0 := t_lit 1; have f1 := t_add y3_4 (nI 1); omega), (by rw [u.1, clF_n (fun z => absurd z.2.2 (by rw [← hsq]; omega)), ← hA4]), (le40 hi4 c7)⟩ (by have f0 := t_lit 1; have f1 := t_add y3_4 (nI 1); omega)
        · exact ih4 (y2_4 + (nI 1)) (y3_4 + (nI 1)) ⟨(by have f0 := t_lit 1; have f1 := t_add y3_4 (nI 1); omega), (by rw [u.1, clF_y ⟨ix_ne hi4 hv1.1 c12, ht, by rw [← hsq]; omega⟩, ← hA4]), (le40 hi4 c7)⟩ (by have f0 := t_lit 1; have f1 := t_add y3_4 (nI 1); omega)
      · exact ih4 y2_4 (y3_4 + (nI 1)) ⟨(by have f0 := t_lit 1; have f1 := t_add y3_4 (nI 1); omega), (by rw [u.1, clF_n (fun z => c24 ((tdr_1 hB u.2.1).mpr z.2.1)), ← hA4]), (le40 hi4 c7)⟩ (by have f0 := t_lit 1; have f1 := t_add y3_4 (nI 1); omega)
