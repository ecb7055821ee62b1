set_option maxHeartbeats 4000000 in
theorem oc_X10_laysRows (M : Mem) (v1 : Int32) (hs : 0 ≤ v1.toInt ∧ v1.toInt ≤ 30) (hGd : GdF (FdR M 1)) (hS : Bend 40 (farG (FdR M 1) v1.toInt) (adjG (FdR M 1) v1.toInt) (fun j => (M 24 j).toInt)) : Wp (f_X10_laysRows M v1) (fun q => (∀ a i, ¬ (a = 26) → q a i = M a i) ∧ (∀ i k : Nat, i < 40 → (M 24 i).toInt = (k : Int) + 1 → k ≤ 39 → (q 26 i).toInt = ((sat (Wf (FdR M 1) v1.toInt 40 k i) : Nat) : Int))) := by
  refine wp_lp2 (fun M2 y2_2 => (0 ≤ y2_2.toInt) ∧ (∀ a i, ¬ (a = 26) → M2 a i = M a i) ∧ (LrA (fun j => (M 24 j).toInt) (M2 26) (ix y2_2)) ∧ (y2_2.toInt ≤ 40)) (fun M2 y2_2 => (40 - y2_2.toInt).toNat) (fun ag2 M2 y2_2 hI2 ih2 => ?_) FU M (nI 0) ⟨(by have f0 := t_lit 0; omega), (fun _ _ _ => rfl), (by rw [show ix (nI 0) = 0 from (by decide)]; exact fun j hj => absurd hj (Nat.not_lt_zero _)), (by decide)⟩ (fu_lt (by have f0 := t_lit 0; omega))
  obtain ⟨hi2, hf_M2, ha, h40⟩ := hI2
  have r2 : ∀ j, M2 24 j = M 24 j := fun j => hf_M2 24 j (by omega)
  have j35 : (LrA (fun j => (M 24 j).toInt) (M2 26) 40) → Wp (f_X10_laysRows_L35 v1 M2) (fun q => (∀ a i, ¬ (a = 26) → q a i = M a i) ∧ (∀ i k : Nat, i < 40 → (M 24 i).toInt = (k : Int) + 1 → k ≤ 39 → (q 26 i).toInt = ((sat (Wf (FdR M 1) v1.toInt 40 k i) : Nat) : Int))) := by
    intro h35
    unfold f_X10_laysRows_L35
    refine wp_lp2 (fun M37 y2_37 => (∀ a i, ¬ (a = 26) → M37 a i = M2 a i) ∧ (2 ≤ y2_37.toInt ∧ y2_37.toInt ≤ 41) ∧ (LvI (FdR M 1) v1.toInt (fun j => (M 24 j).toInt) (M37 26) (y2_37.toInt - 2).toNat 0)) (fun M37 y2_37 => (41 - y2_37.toInt).toNat) (fun ag37 M37 y2_37 hI37 ih37 => ?_) FU M2 (nI 2) ⟨(fun _ _ _ => rfl), (by decide), (by rw [show ((nI 2).toInt - 2).toNat = 0 from (by decide)]; exact lv_0 h35 hS)⟩ (fu_lt ((by have := t_lit 2; omega)))
    obtain ⟨hf_M37, hd, hI⟩ := hI37
    have e37 : (((y2_37.toInt - 2).toNat : Nat) : Int) = y2_37.toInt - 2 := by omega
    have ud := t_inc y2_37 1 (by omega)
    have r37 : ∀ j, M37 24 j = M 24 j := fun j => (hf_M37 24 j (by omega)).trans (r2 j)
    refine wp_ite (fun c40 => ?_) (fun c40 => ?_)
    · exact wp_some ⟨(fun a i q0 => ((hf_M37 a i (fun h9 => q0 (h9))).trans ((hf_M2 a i (fun h9 => q0 (h9))).trans rfl))), (by rw [show (y2_37.toInt - 2).toNat = 39 from (by omega)] at hI; exact lv_e hI)⟩
    · refine wp_lp2 (fun M45 y3_45 => (0 ≤ y3_45.toInt) ∧ (∀ a i, ¬ (a = 26) → M45 a i = M37 a i) ∧ (LvI (FdR M 1) v1.toInt (fun j => (M 24 j).toInt) (M45 26) (y2_37.toInt - 2).toNat (ix y3_45)) ∧ (y3_45.toInt ≤ 40)) (fun M45 y3_45 => (40 - y3_45.toInt).toNat) (fun ag45 M45 y3_45 hI45 ih45 => ?_) FU M37 (nI 0) ⟨(by have f0 := t_lit 0; omega), (fun _ _ _ => rfl), (by rw [show ix (nI 0) = 0 from (by decide)]; exact hI), (by decide)⟩ (fu_lt (by have f0 := t_lit 0; omega))
      obtain ⟨hi45, hf_M45, hJ, y45⟩ := hI45
      have r45 : ∀ j, M45 24 j = M 24 j := fun j => (hf_M45 24 j (by omega)).trans (r37 j)
      refine wp_ite (fun c48 => ?_) (fun c48 => ?_)
      · exact ih37 M45 (y2_37 + (nI 1)) ⟨(fun a i q0 => ((hf_M45 a i (fun h9 => q0 (h9))).trans ((hf_M37 a i (fun h9 => q0 (h9))).trans rfl))), (by rw [ud]; omega), (by rw [e40 hi45 c48 y45] at hJ; rw [show ((y2_37 + nI 1).toInt - 2).toNat = (y2_37.toInt - 2).toNat + 1 from (by rw [ud]; omega)]; exact lv_d hJ)⟩ (by rw [ud]; omega)
      · have u45 := up40 hi45 c48
        refine wp_gd (by omega) ?_
        refine wp_ite (fun c58 => ?_) (fun c58 => ?_)
        · have e58 : (M 24 (ix y3_45)).toInt = (((y2_37.toInt - 2).toNat : Nat) : Int) + 2 := by
            rw [r45] at c58
            omega
          refine wp_lp2 (fun M67 y4_67 => (0 ≤ y4_67.toInt) ∧ (∀ a i, ¬ (a = 26) → M67 a i = M45 a i) ∧ (LvJ (FdR M 1) v1.toInt (fun j => (M 24 j).toInt) (M45 26) (M67 26) (y2_37.toInt - 2).toNat (ix y3_45) (ix y4_67)) ∧ (y4_67.toInt ≤ 40)) (fun M67 y4_67 => (40 - y4_67.toInt).toNat) (fun ag67 M67 y4_67 hI67 ih67 => ?_) FU M45 (nI 0) ⟨(by have f0 := t_lit 0; omega), (fun _ _ _ => rfl), (by rw [show ix (nI 0) = 0 from (by decide)]; exact lj_0 hJ u45.2.1 e58), (by decide)⟩ (fu_lt (by have f0 := t_lit 0; omega))
          obtain ⟨hi67, hf_M67, hK, y67⟩ := hI67
          have r67 : ∀ j, M67 24 j = M 24 j := fun j => (hf_M67 24 j (by omega)).trans (r45 j)
          have f67 : FdR M67 1 = (FdR M 1) := fdr_same (fun j hj => by rw [hf_M67 1 j (by omega), hf_M45 1 j (by omega), hf_M37 1 j (by omega), hf_M2 1 j (by omega)])
          refine wp_ite (fun c71 => ?_) (fun c71 => ?_)
          · exact ih45 M67 (y3_45 + (nI 1)) ⟨(by have f0 := t_lit 1; have f1 := t_add y3_45 (nI 1); have f2 := congrArg Int32.toInt (hf_M45 24 (ix y3_45) (by omega)); have f3 := congrArg Int32.toInt (hf_M37 24 (ix y3_45) (by omega)); have f4 := congrArg Int32.toInt (hf_M2 24 (ix y3_45) (by omega)); omega), (fun a i q0 => ((hf_M67 a i (fun h9 => q0 (h9))).trans ((hf_M45 a i (fun h9 => q0 (h9))).trans rfl))), (by rw [u45.1]; exact lj_e (by rw [e40 hi67 c71 y67] at hK; exact hK) hJ hS u45.2.1 e58), (le40 hi45 c48)⟩ (by have f0 := t_lit 1; have f1 := t_add y3_45 (nI 1); have f2 := congrArg Int32.toInt (hf_M45 24 (ix y3_45) (by omega)); have f3 := congrArg Int32.toInt (hf_M37 24 (ix y3_45) (by omega)); have f4 := congrArg Int32.toInt (hf_M2 24 (ix y3_45) (by omega)); omega)
          · have u67 := up40 hi67 c71
            have ed1 : (y2_37 - nI 1).toInt = y2_37.toInt - 1 := by
              have f1 := t_sub y2_37 (nI 1)
              have f3 := nI1
              omega
            refine wp_gd (by omega) ?_
            refine wp_ite (fun c84 => ?_) (fun c84 => ?_)
            · have e84 : (M 24 (ix y4_67)).toInt = (((y2_37.toInt - 2).toNat : Nat) : Int) + 1 := by
                rw [r67, ed1] at c84
                omega
              have nm : ¬ ix y4_67 = ix y3_45 := fun z => by
                rw [z] at e84
                omega
              refine wp_bind2 (ow_X10_canStep M67 y3_45 y4_67 v1 ⟨hi45, u45.2.2⟩ ⟨hi67, u67.2.2⟩ hs (by rw [f67]; exact hGd)) (fun r_1 he92 hq92 => ?_)
              obtain ⟨hz_r_1, hcs_92⟩ := hq92
              replace hcs_92 : ¬ r_1.toInt = 0 ↔ adjG (FdR M67 1) v1.toInt (ix y3_45) (ix y4_67) := hcs_92
              rw [f67] at hcs_92
              refine wp_ite (fun c95 => ?_) (fun c95 => ?_)
              · exact ih67 M67 (y4_67 + (nI 1)) ⟨(by have f0 := t_lit 1; have f1 := t_add y4_67 (nI 1); have f2 := congrArg Int32.toInt (hf_M67 24 (ix y4_67) (by omega)); have f3 := congrArg Int32.toInt (hf_M45 24 (ix y4_67) (by omega)); have f4 := congrArg Int32.toInt (hf_M37 24 (ix y4_67) (by omega)); have f5 := congrArg Int32.toInt (hf_M2 24 (ix y4_67) (by omega)); have f6 := t_sub y2_37 (nI 1); omega), (fun a i q0 => ((hf_M67 a i (fun h9 => q0 (h9))).trans rfl)), (by rw [u67.1]; exact lj_n hK (Or.inr (fun z => hcs_92.mpr z c95))), (le40 hi67 c71)⟩ (by have f0 := t_lit 1; have f1 := t_add y4_67 (nI 1); have f2 := congrArg Int32.toInt (hf_M67 24 (ix y4_67) (by omega)); have f3 := congrArg Int32.toInt (hf_M45 24 (ix y4_67) (by omega)); have f4 := congrArg Int32.toInt (hf_M37 24 (ix y4_67) (by omega)); have f5 := congrArg Int32.toInt (hf_M2 24 (ix y4_67) (by omega)); have f6 := t_sub y2_37 (nI 1); omega)
              · refine wp_gd (by have f0 := congrArg Int32.toInt (hf_M45 24 (ix y3_45) (by omega)); have f1 := congrArg Int32.toInt (hf_M37 24 (ix y3_45) (by omega)); have f2 := congrArg Int32.toInt (hf_M2 24 (ix y3_45) (by omega)); omega) ?_
                refine wp_gd (by have f0 := congrArg Int32.toInt (hf_M67 24 (ix y4_67) (by omega)); have f1 := congrArg Int32.toInt (hf_M45 24 (ix y4_67) (by omega)); have f2 := congrArg Int32.toInt (hf_M37 24 (ix y4_67) (by omega)); have f3 := congrArg Int32.toInt (hf_M2 24 (ix y4_67) (by omega)); have f4 := t_lit 1; have f5 := t_sub y2_37 (nI 1); omega) ?_
                refine wp_bind2 (o_X10_min M67 (nI 1000000000) ((M67 26 (ix y3_45)) + (M67 26 (ix y4_67)))) (fun r_2 he120 hq120 => ?_)
                have hr_120 := hq120
                replace hr_120 : r_2.toInt = min (nI 1000000000).toInt ((M67 26 (ix y3_45)) + (M67 26 (ix y4_67))).toInt := hr_120
                have := t_lit 1000000000
                have bb := lj_b hK hJ u67.2.1 e84 nm
                have mv := mn_s bb hr_120
                refine wp_gd (by have f0 := congrArg Int32.toInt (hf_M45 24 (ix y3_45) (by omega)); have f1 := congrArg Int32.toInt (hf_M37 24 (ix y3_45) (by omega)); have f2 := congrArg Int32.toInt (hf_M2 24 (ix y3_45) (by omega)); omega) ?_
                refine wp_bnd (fun M_3 eM_3 => ?_)
                exact ih67 M_3 (y4_67 + (nI 1)) ⟨(by have f0 := t_lit 1; have f1 := t_add y4_67 (nI 1); have f2 := congrArg Int32.toInt (hf_M67 24 (ix y4_67) (by omega)); have f3 := congrArg Int32.toInt (hf_M45 24 (ix y4_67) (by omega)); have f4 := congrArg Int32.toInt (hf_M37 24 (ix y4_67) (by omega)); have f5 := congrArg Int32.toInt (hf_M2 24 (ix y4_67) (by omega)); have f6 := t_sub y2_37 (nI 1); omega), (fun a i q0 => ((congrFun (congrFun eM_3 a) i).trans ((mset_ne (fun h9 => q0 ((h9).1))).trans ((hf_M67 a i (fun h9 => q0 (h9))).trans rfl)))), (by rw [u67.1]; exact lj_y hK hJ u67.2.1 e84 nm (hcs_92.mp c95) (by rw [eM_3, mset_s]) mv), (le40 hi67 c71)⟩ (by have f0 := t_lit 1; have f1 := t_add y4_67 (nI 1); have f2 := congrArg Int32.toInt (hf_M67 24 (ix y4_67) (by omega)); have f3 := congrArg Int32.toInt (hf_M45 24 (ix y4_67) (by omega)); have f4 := congrArg Int32.toInt (hf_M37 24 (ix y4_67) (by omega)); have f5 := congrArg Int32.toInt (hf_M2 24 (ix y4_67) (by omega)); have f6 := t_sub y2_37 (nI 1); omega)
            · exact ih67 M67 (y4_67 + (nI 1)) ⟨(by have f0 := t_lit 1; have f1 := t_add y4_67 (nI 1); have f2 := congrArg Int32.toInt (hf_M67 24 (ix y4_67) (by omega)); have f3 := congrArg Int32.toInt (hf_M45 24 (ix y4_67) (by omega)); have f4 := congrArg Int32.toInt (hf_M37 24 (ix y4_67) (by omega)); have f5 := congrArg Int32.toInt (hf_M2 24 (ix y4_67) (by omega)); have f6 := t_sub y2_37 (nI 1); omega), (fun a i q0 => ((hf_M67 a i (fun h9 => q0 (h9))).trans rfl)), (by rw [u67.1]; exact lj_n hK (Or.inl (fun z => c84 (by rw [r67, ed1]; omega)))), (le40 hi67 c71)⟩ (by have f0 := t_lit 1; have f1 := t_add y4_67 (nI 1); have f2 := congrArg Int32.toInt (hf_M67 24 (ix y4_67) (by omega)); have f3 := congrArg Int32.toInt (hf_M45 24 (ix y4_67) (by omega)); have f4 := congrArg Int32.toInt (hf_M37 24 (ix y4_67) (by omega)); have f5 := congrArg Int32.toInt (hf_M2 24 (ix y4_67) (by omega)); have f6 := t_sub y2_37 (nI 1); omega)
        · exact ih45 M45 (y3_45 + (nI 1)) ⟨(by have f0 := t_lit 1; have f1 := t_add y3_45 (nI 1); have f2 := congrArg Int32.toInt (hf_M45 24 (ix y3_45) (by omega)); have f3 := congrArg Int32.toInt (hf_M37 24 (ix y3_45) (by omega)); have f4 := congrArg Int32.toInt (hf_M2 24 (ix y3_45) (by omega)); omega), (fun a i q0 => ((hf_M45 a i (fun h9 => q0 (h9))).trans rfl)), (by rw [u45.1]; exact lv_n hJ (fun z => c58 (by rw [r45]; omega))), (le40 hi45 c48)⟩ (by have f0 := t_lit 1; have f1 := t_add y3_45 (nI 1); have f2 := congrArg Int32.toInt (hf_M45 24 (ix y3_45) (by omega)); have f3 := congrArg Int32.toInt (hf_M37 24 (ix y3_45) (by omega)); have f4 := congrArg Int32.toInt (hf_M2 24 (ix y3_45) (by omega)); omega)
  refine wp_ite (fun c5 => ?_) (fun c5 => ?_)
  · exact j35 (by rw [e40 hi2 c5 h40] at ha; exact ha)
  · have u := up40 hi2 c5
    refine wp_gd (by omega) ?_
    have j28 : ∀ (t0_28 : Int32), (t0_28 = 0 ∨ t0_28 = 1) → (((M 24 (ix y2_2)).toInt = 1 ∧ t0_28 = nI 1) ∨ (¬ (M 24 (ix y2_2)).toInt = 1 ∧ t0_28 = nI 0)) → Wp (f_X10_laysRows_L28 ag2 M2 y2_2 t0_28) (fun q => (∀ a i, ¬ (a = 26) → q a i = M a i) ∧ (∀ i k : Nat, i < 40 → (M 24 i).toInt = (k : Int) + 1 → k ≤ 39 → (q 26 i).toInt = ((sat (Wf (FdR M 1) v1.toInt 40 k i) : Nat) : Int))) := by
      intro t0_28 hb_t0_28 h28
      unfold f_X10_laysRows_L28
      refine wp_gd (by omega) ?_
      refine wp_bnd (fun M_4 eM_4 => ?_)
      exact ih2 M_4 (y2_2 + (nI 1)) ⟨(by have f0 := t_lit 1; have f1 := t_add y2_2 (nI 1); omega), (fun a i q0 => ((congrFun (congrFun eM_4 a) i).trans ((mset_ne (fun h9 => q0 ((h9).1))).trans ((hf_M2 a i (fun h9 => q0 (h9))).trans rfl)))), (by rw [u.1]; exact lra_s ha (by rw [eM_4, mset_s]) h28), (le40 hi2 c5)⟩ (by have f0 := t_lit 1; have f1 := t_add y2_2 (nI 1); omega)
    refine wp_ite (fun c20 => ?_) (fun c20 => ?_)
    · exact j28 (nI 1) b01_1 (Or.inl ⟨by rw [← r2]; exact c20, rfl⟩)
    · exact j28 (nI 0) b01_0 (Or.inr ⟨by rw [← r2]; exact c20, rfl⟩)
set_option maxHeartbeats 8000000 in
theorem oc_X10_cross (M : Mem) (v1 : Int32) (v2 : Int32) (hGd : GdF (FdR M 1)) (hSr : SrR M) : Wp (f_X10_cross M v1 v2) (fun q => (∀ a i, ¬ (a = 23 ∨ a = 24 ∨ a = 25 ∨ a = 26) → q.2 a i = M a i) ∧ (PqP (TpR M v1 ∧ CsW v2) (CsQ (FdR M 1) (M 4 (ix v1)).toInt v2.toInt q.1.toInt) q.1)) := by
  refine wp_bind2 (oq_X10_isPerson M v1) (fun r_1 he2 hq2 => ?_)
  obtain ⟨hz_r_1, hr_2, hi_2⟩ := hq2
  replace hr_2 : ¬ r_1.toInt = 0 → 0 ≤ v1.toInt ∧ v1.toInt < 8 := hr_2
  replace hi_2 : ¬ r_1.toInt = 0 ↔ TpR M v1 := hi_2
  refine wp_ite (fun c5 => ?_) (fun c5 => ?_)
  · exact wp_some ⟨(fun _ _ _ => rfl), (pq_n (fun z => hi_2.mpr z.1 c5) rfl)⟩
  · have ht := hi_2.mp c5
    have sr := hSr v1 ht
    refine wp_bind2 (o2_X10_in M v2 (nI 0) (nI 39)) (fun r_2 he12 hq12 => ?_)
    obtain ⟨hz_r_2, hr_12, hi_12⟩ := hq12
    replace hr_12 : ¬ r_2.toInt = 0 → (nI 0).toInt ≤ v2.toInt ∧ v2.toInt ≤ (nI 39).toInt := hr_12
    have := t_lit 0
    have := t_lit 39
    replace hi_12 : ¬ r_2.toInt = 0 ↔ (nI 0).toInt ≤ v2.toInt ∧ v2.toInt ≤ (nI 39).toInt := hi_12
    have := t_lit 0
    have := t_lit 39
    have j31 : (CsW v2) → Wp (f_X10_cross_L31 M v1 v2) (fun q => (∀ a i, ¬ (a = 23 ∨ a = 24 ∨ a = 25 ∨ a = 26) → q.2 a i = M a i) ∧ (PqP (TpR M v1 ∧ CsW v2) (CsQ (FdR M 1) (M 4 (ix v1)).toInt v2.toInt q.1.toInt) q.1)) := by
      intro h31
      unfold f_X10_cross_L31
      refine wp_gd (by omega) ?_
      refine wp_bnd (fun x_3 ex_3 => ?_)
      rw [← ex_3] at sr
      refine wp_cb2 (ow_X10_crossing M x_3 ⟨by omega, by omega⟩ hGd) (fun r_4 M_5 he40 hq40 => ?_)
      obtain ⟨hg_M_5, hcr_40, hst_40⟩ := hq40
      replace hcr_40 : CrK (FdR M 1) x_3.toInt r_4.toInt := hcr_40
      replace hst_40 : x_3.toInt < 21 → Bend 40 (nearG (FdR M 1) x_3.toInt) (adjG (FdR M 1) x_3.toInt) (fun j => (M_5 23 j).toInt) := hst_40
      replace hg_M_5 : ∀ a i, ¬ (a = 23 ∨ a = 25) → M_5 a i = M a i := hg_M_5
      have f5 : FdR M_5 1 = (FdR M 1) := fdr_same (fun j hj => hg_M_5 1 j (by omega))
      have hb4 := crk_b hcr_40
      refine wp_ite (fun c48 => ?_) (fun c48 => ?_)
      · exact wp_some ⟨(fun a i q0 => ((hg_M_5 a i (fun z8 => q0 ((fun z9 => Or.elim z9 (fun h9 => Or.inl h9) (fun h9 => Or.inr (Or.inr (Or.inl h9)))) z8))).trans rfl)), (by rw [← ex_3]; exact pq_y ⟨ht, h31⟩ ⟨_, hcr_40, Or.inl ⟨c48, (show (-2 : Int32).toInt = -2 by decide)⟩⟩)⟩
      · have h1 := hb4.resolve_left c48
        have e1 : (r_4 - nI 1).toInt = r_4.toInt - 1 := by
          have q1 := t_sub r_4 (nI 1)
          have q3 := nI1
          omega
        refine wp_ite (fun c57 => ?_) (fun c57 => ?_)
        · exact wp_some ⟨(fun a i q0 => ((hg_M_5 a i (fun z8 => q0 ((fun z9 => Or.elim z9 (fun h9 => Or.inl h9) (fun h9 => Or.inr (Or.inr (Or.inl h9)))) z8))).trans rfl)), (by rw [← ex_3]; exact pq_y ⟨ht, h31⟩ ⟨_, hcr_40, Or.inr ⟨c48, Or.inl ⟨c57, rfl⟩⟩⟩)⟩
        · have j80 : (v2.toInt = 101 ∨ v2.toInt < r_4.toInt - 1) → Wp (f_X10_cross_L80 v2 x_3 r_4 M_5) (fun q => (∀ a i, ¬ (a = 23 ∨ a = 24 ∨ a = 25 ∨ a = 26) → q.2 a i = M a i) ∧ (PqP (TpR M v1 ∧ CsW v2) (CsQ (FdR M 1) (M 4 (ix v1)).toInt v2.toInt q.1.toInt) q.1)) := by
            intro h80
            unfold f_X10_cross_L80
            refine wp_ite (fun c83 => ?_) (fun c83 => ?_)
            · exact wp_some ⟨(fun a i q0 => ((hg_M_5 a i (fun z8 => q0 ((fun z9 => Or.elim z9 (fun h9 => Or.inl h9) (fun h9 => Or.inr (Or.inr (Or.inl h9)))) z8))).trans rfl)), (by rw [← ex_3]; exact pq_y ⟨ht, h31⟩ ⟨_, hcr_40, Or.inr ⟨c48, Or.inr (Or.inl ⟨h80.resolve_right (by rcases h31 with z | z | z <;> omega), Or.inl ⟨c83, nI1⟩⟩)⟩⟩)⟩
            · have r2 : 2 ≤ r_4.toInt := by omega
              obtain ⟨n, en⟩ : ∃ n : Nat, r_4.toInt = (n : Int) + 2 := ⟨(r_4.toInt - 2).toNat, by omega⟩
              have enn : (r_4.toInt - 2).toNat = n := by omega
              have hcn := hcr_40
              rw [en] at hcn
              refine wp_bind2 (ow_X10_laysSteps (by decide) M_5 (nI 0) x_3 rfl (by omega) ⟨by omega, by omega⟩ (by rw [f5]; exact hGd)) (fun M_6 he95 hq95 => ?_)
              obtain ⟨hg_M_6, hNR_95, hFR_95⟩ := hq95
              replace hNR_95 : ¬ (nI 0).toInt = 0 → Bend 40 (nearG (FdR M_5 1) x_3.toInt) (adjG (FdR M_5 1) x_3.toInt) (fun j => (M_6 24 j).toInt) := hNR_95
              have := t_lit 0
              replace hFR_95 : (nI 0).toInt = 0 → Bend 40 (farG (FdR M_5 1) x_3.toInt) (adjG (FdR M_5 1) x_3.toInt) (fun j => (M_6 24 j).toInt) := hFR_95
              have := t_lit 0
              replace hg_M_6 : ∀ a i, ¬ (a = 24 ∨ a = 25) → M_6 a i = M_5 a i := by exact fun a i q0 => hg_M_6 a i (by omega)
              have hF := hFR_95 nI0
              rw [f5] at hF
              have f6 : FdR M_6 1 = (FdR M 1) := (fdr_same (fun j hj => hg_M_6 1 j (by omega))).trans f5
              refine wp_bind2 (oc_X10_laysRows M_6 x_3 ⟨by omega, by omega⟩ (by rw [f6]; exact hGd) (by rw [f6]; exact hF)) (fun M_7 he100 hq100 => ?_)
              obtain ⟨hg_M_7, hlr_100⟩ := hq100
              replace hlr_100 : ∀ i k : Nat, i < 40 → (M_6 24 i).toInt = (k : Int) + 1 → k ≤ 39 → (M_7 26 i).toInt = ((sat (Wf (FdR M_6 1) x_3.toInt 40 k i) : Nat) : Int) := hlr_100
              replace hg_M_7 : ∀ a i, ¬ (a = 26) → M_7 a i = M_6 a i := hg_M_7
              rw [f6] at hlr_100
              have f7 : FdR M_7 1 = (FdR M 1) := (fdr_same (fun j hj => hg_M_7 1 j (by omega))).trans f6
              have e24 : ∀ j, M_7 24 j = M_6 24 j := fun j => hg_M_7 24 j (by omega)
              refine wp_ite (fun c106 => ?_) (fun c106 => ?_)
              · refine wp_lp2 (fun y5_115 y6_115 => (0 ≤ y6_115.toInt) ∧ (y5_115.toInt = ((sat (NrS (FdR M 1) x_3.toInt (fun j => (M_6 24 j).toInt) n (ix y6_115)) : Nat) : Int)) ∧ (y6_115.toInt ≤ 40)) (fun y5_115 y6_115 => (40 - y6_115.toInt).toNat) (fun ag115 y5_115 y6_115 hI115 ih115 => ?_) FU (nI 0) (nI 0) ⟨(by have f0 := t_lit 0; omega), (by rw [show ix (nI 0) = 0 from (by decide)]; show (nI 0).toInt = ((sat 0 : Nat) : Int); decide), (by decide)⟩ (fu_lt (by have f0 := t_lit 0; omega))
                obtain ⟨hi115, h115, y115⟩ := hI115
                refine wp_ite (fun c119 => ?_) (fun c119 => ?_)
                · exact wp_some ⟨(fun a i q0 => ((hg_M_7 a i (fun h9 => q0 (Or.inr (Or.inr (Or.inr (h9)))))).trans ((hg_M_6 a i (fun z8 => q0 ((fun z9 => Or.elim z9 (fun h9 => Or.inr (Or.inl h9)) (fun h9 => Or.inr (Or.inr (Or.inl h9)))) z8))).trans ((hg_M_5 a i (fun z8 => q0 ((fun z9 => Or.elim z9 (fun h9 => Or.inl h9) (fun h9 => Or.inr (Or.inr (Or.inl h9)))) z8))).trans rfl)))), (by rw [← ex_3]; exact pq_y ⟨ht, h31⟩ ⟨_, hcr_40, Or.inr ⟨c48, Or.inr (Or.inl ⟨c106, Or.inr ⟨c83, by rw [h115, e40 hi115 c119 y115, enn, nr_e hF hcn]⟩⟩)⟩⟩)⟩
                · have u15 := up40 hi115 c119
                  refine wp_bind2 (ow_X10_isByBank M_7 y6_115 (nI 1) x_3 ⟨hi115, u15.2.2⟩ (by rw [f7]; exact hGd)) (fun r_10 he127 hq127 => ?_)
                  obtain ⟨hz_r_10, hnb_127⟩ := hq127
                  replace hnb_127 : (¬ (nI 1).toInt = 0 → (¬ r_10.toInt = 0 ↔ nearG (FdR M_7 1) x_3.toInt (ix y6_115))) ∧ ((nI 1).toInt = 0 → (¬ r_10.toInt = 0 ↔ farG (FdR M_7 1) x_3.toInt (ix y6_115))) := hnb_127
                  have := t_lit 1
                  rw [f7] at hnb_127
                  have hby := hnb_127.1 ne1
                  refine wp_ite (fun c130 => ?_) (fun c130 => ?_)
                  · exact ih115 y5_115 (y6_115 + (nI 1)) ⟨(by have f0 := t_lit 1; have f1 := t_add y6_115 (nI 1); omega), (by rw [u15.1]; exact nr_n h115 (Or.inr (fun z => hby.mpr z c130))), (le40 hi115 c119)⟩ (by have f0 := t_lit 1; have f1 := t_add y6_115 (nI 1); omega)
                  · refine wp_gd (by omega) ?_
                    refine wp_ite (fun c144 => ?_) (fun c144 => ?_)
                    · have e144 : (M_6 24 (ix y6_115)).toInt = (n : Int) + 1 := by
                        rw [e24, e1] at c144
                        omega
                      have n39 : n ≤ 39 := by
                        have z := (hF.1 (ix y6_115) u15.2.1).resolve_left (show ¬ (M_6 24 (ix y6_115)).toInt = -1 by omega)
                        have z2 : (M_6 24 (ix y6_115)).toInt ≤ 40 := z.2
                        omega
                      have hw := hlr_100 (ix y6_115) n u15.2.1 e144 n39
                      refine wp_gd (by have f0 := congrArg Int32.toInt (hg_M_7 24 (ix y6_115) (by omega)); have f1 := t_lit 1; have f2 := t_sub r_4 (nI 1); omega) ?_
                      refine wp_bind2 (o_X10_min M_7 (nI 1000000000) (y5_115 + (M_7 26 (ix y6_115)))) (fun r_11 he160 hq160 => ?_)
                      have hr_160 := hq160
                      replace hr_160 : r_11.toInt = min (nI 1000000000).toInt (y5_115 + (M_7 26 (ix y6_115))).toInt := hr_160
                      have := t_lit 1000000000
                      have mv := mn_s ⟨by rw [h115]; exact sat_r _, by rw [hw]; exact sat_r _⟩ hr_160
                      exact ih115 r_11 (y6_115 + (nI 1)) ⟨(by have f0 := t_lit 1; have f1 := t_add y6_115 (nI 1); have f2 := congrArg Int32.toInt (hg_M_7 24 (ix y6_115) (by omega)); have f3 := t_sub r_4 (nI 1); omega), (by rw [u15.1]; exact nr_y h115 e144 (hby.mp c130) hw mv), (le40 hi115 c119)⟩ (by have f0 := t_lit 1; have f1 := t_add y6_115 (nI 1); have f2 := congrArg Int32.toInt (hg_M_7 24 (ix y6_115) (by omega)); have f3 := t_sub r_4 (nI 1); omega)
                    · exact ih115 y5_115 (y6_115 + (nI 1)) ⟨(by have f0 := t_lit 1; have f1 := t_add y6_115 (nI 1); have f2 := congrArg Int32.toInt (hg_M_7 24 (ix y6_115) (by omega)); have f3 := t_sub r_4 (nI 1); omega), (by rw [u15.1]; exact nr_n h115 (Or.inl (fun z => c144 (by rw [e24, e1]; omega)))), (le40 hi115 c119)⟩ (by have f0 := t_lit 1; have f1 := t_add y6_115 (nI 1); have f2 := congrArg Int32.toInt (hg_M_7 24 (ix y6_115) (by omega)); have f3 := t_sub r_4 (nI 1); omega)
              · have w40 : v2.toInt < 40 := by
                  rcases h31 with z | z | z
                  · exact z.2
                  · exact absurd z c57
                  · exact absurd z c106
                have w41 : v2.toInt < r_4.toInt - 1 := h80.resolve_left c106
                have w39 : 0 ≤ v2.toInt := by
                  rcases h31 with z | z | z <;> omega
                refine wp_lp2 (fun y5_180 y6_180 => ((0 ≤ y6_180.toInt ∧ y6_180.toInt ≤ v2.toInt + 1) ∧ SlI (FdR M 1) x_3.toInt n (-1) y5_180 (ix y6_180))) (fun y5_180 y6_180 => (v2.toInt + 1 - y6_180.toInt).toNat) (fun ag180 y5_180 y6_180 hI180 ih180 => ?_) FU (-1) (nI 0) ⟨by rw [nI0]; rcases h31 with z | z | z <;> omega, Or.inl ⟨by decide, by decide⟩⟩ (fu_lt (by have f0 := t_lit 0; have f1 := (by decide : ((-1 : Int32)).toInt = -1); omega))
                have h180 := hI180
                refine wp_ite (fun c183 => ?_) (fun c183 => ?_)
                · exact wp_some ⟨(fun a i q0 => ((hg_M_7 a i (fun h9 => q0 (Or.inr (Or.inr (Or.inr (h9)))))).trans ((hg_M_6 a i (fun z8 => q0 ((fun z9 => Or.elim z9 (fun h9 => Or.inr (Or.inl h9)) (fun h9 => Or.inr (Or.inr (Or.inl h9)))) z8))).trans ((hg_M_5 a i (fun z8 => q0 ((fun z9 => Or.elim z9 (fun h9 => Or.inl h9) (fun h9 => Or.inr (Or.inr (Or.inl h9)))) z8))).trans rfl)))), (by rw [← ex_3]; exact pq_y ⟨ht, h31⟩ ⟨_, hcr_40, Or.inr ⟨c48, Or.inr (Or.inr (Or.inr ⟨⟨c57, c106⟩, h80.resolve_left c106, by rw [enn]; exact sl_end h180.2 (by have z := t_ixn y6_180 h180.1.1; omega)⟩))⟩⟩)⟩
                · have u := i_up (x := y6_180) (by omega)
                  have i6 := t_ixn y6_180 h180.1.1
                  have kn : ix y6_180 ≤ n := by omega
                  have htg : ((r_4 - nI 1) - y6_180).toInt = ((n - ix y6_180 : Nat) : Int) + 1 := by
                    have q2 := t_sub (r_4 - nI 1) y6_180
                    omega
                  have xeq : ∀ j, j < 40 → ((M_6 24 j).toInt = ((n - ix y6_180 : Nat) : Int) + 1 ↔ XF (FdR M 1) x_3.toInt (n - ix y6_180) j) := fun j hj => xf_r hF hj
                  obtain ⟨j9, hj9⟩ := nx_on hcn h180.2 kn
                  have j40 := nx_d hj9
                  have xz : ∀ {j : Nat}, NxP (FdR M 1) x_3.toInt n (ix y6_180) (ix y5_180) j → (M_6 24 j).toInt = ((n - ix y6_180 : Nat) : Int) + 1 := fun {j} z => (xeq j (nx_d z)).mpr z.1
                  refine wp_lp1 (fun y7_189 => (0 ≤ y7_189.toInt ∧ y7_189.toInt ≤ (j9 : Int) ∧ ∀ j, j < ix y7_189 → ¬ NxP (FdR M 1) x_3.toInt n (ix y6_180) (ix y5_180) j)) (fun y7_189 => (40 - y7_189.toInt).toNat) (fun ag189 y7_189 hI189 ih189 => ?_) FU (nI 0) ⟨by decide, by rw [nI0]; omega, fun j hj => absurd hj (by rw [show ix (nI 0) = 0 from (by decide)]; omega)⟩ (fu_lt ((by have := t_lit 0; omega)))
                  have h189 := hI189
                  have i7 := t_ixn y7_189 h189.1
                  have h40 : y7_189.toInt < 40 ∧ ix y7_189 < 40 := by
                    have z := h189.2.1
                    omega
                  refine wp_gd (by omega) ?_
                  refine wp_ite (fun c203 => ?_) (fun c203 => ?_)
                  · refine wp_ite (fun c208 => ?_) (fun c208 => ?_)
                    · have k0 : ix y6_180 = 0 := by omega
                      refine wp_bind2 (ow_X10_isByBank M_7 y7_189 (nI 1) x_3 ⟨h189.1, h40.1⟩ (by rw [f7]; exact hGd)) (fun r_9 he216 hq216 => ?_)
                      obtain ⟨hz_r_9, hnb_216⟩ := hq216
                      replace hnb_216 : (¬ (nI 1).toInt = 0 → (¬ r_9.toInt = 0 ↔ nearG (FdR M_7 1) x_3.toInt (ix y7_189))) ∧ ((nI 1).toInt = 0 → (¬ r_9.toInt = 0 ↔ farG (FdR M_7 1) x_3.toInt (ix y7_189))) := hnb_216
                      have := t_lit 1
                      rw [f7] at hnb_216
                      have hby := hnb_216.1 ne1
                      refine wp_ite (fun c219 => ?_) (fun c219 => ?_)
                      · exact ih189 (y7_189 + (nI 1)) (nx_up h189 hj9 (fun z => hby.mpr (z.2.1 k0) c219)) (by rw [t_inc y7_189 1 (by have z := h189.2.1; omega)]; omega)
                      · exact ih180 y7_189 (y6_180 + (nI 1)) ⟨by rw [u.2]; omega, by rw [u.1]; exact sl_up h180.2 ⟨h189.1, h40.1⟩ ⟨(xeq _ h40.2).mp (by rw [← e24, ← htg]; exact c203), fun _ => hby.mp c219, fun z => absurd k0 z⟩ h189.2.2⟩ (by rw [u.2]; omega)
                    · have k0 : ¬ ix y6_180 = 0 := by omega
                      have pk := sl_p h180.2 k0
                      refine wp_bind2 (ow_X10_canStep M_7 y5_180 y7_189 x_3 pk ⟨h189.1, h40.1⟩ ⟨by omega, by omega⟩ (by rw [f7]; exact hGd)) (fun r_8 he231 hq231 => ?_)
                      obtain ⟨hz_r_8, hcs_231⟩ := hq231
                      replace hcs_231 : ¬ r_8.toInt = 0 ↔ adjG (FdR M_7 1) x_3.toInt (ix y5_180) (ix y7_189) := hcs_231
                      rw [f7] at hcs_231
                      refine wp_ite (fun c234 => ?_) (fun c234 => ?_)
                      · exact ih189 (y7_189 + (nI 1)) (nx_up h189 hj9 (fun z => hcs_231.mpr (z.2.2 k0) c234)) (by rw [t_inc y7_189 1 (by have z := h189.2.1; omega)]; omega)
                      · exact ih180 y7_189 (y6_180 + (nI 1)) ⟨by rw [u.2]; omega, by rw [u.1]; exact sl_up h180.2 ⟨h189.1, h40.1⟩ ⟨(xeq _ h40.2).mp (by rw [← e24, ← htg]; exact c203), fun z => absurd z k0, fun _ => hcs_231.mp c234⟩ h189.2.2⟩ (by rw [u.2]; omega)
                  · exact ih189 (y7_189 + (nI 1)) (nx_up h189 hj9 (fun z => c203 (by rw [htg, e24]; exact xz z))) (by rw [t_inc y7_189 1 (by have z := h189.2.1; omega)]; omega)
          refine wp_ite (fun c66 => ?_) (fun c66 => ?_)
          · exact j80 (Or.inl (by rcases h31 with z | z | z; omega; exact absurd z c57; exact z))
          · refine wp_ite (fun c74 => ?_) (fun c74 => ?_)
            · rw [e1] at c74
              exact j80 (Or.inr c74)
            · rw [e1] at c74
              exact wp_some ⟨(fun a i q0 => ((hg_M_5 a i (fun z8 => q0 ((fun z9 => Or.elim z9 (fun h9 => Or.inl h9) (fun h9 => Or.inr (Or.inr (Or.inl h9)))) z8))).trans rfl)), (by rw [← ex_3]; exact pq_y ⟨ht, h31⟩ ⟨_, hcr_40, Or.inr ⟨c48, Or.inr (Or.inr (Or.inl ⟨⟨c57, by omega⟩, by omega, (show (-4 : Int32).toInt = -4 by decide)⟩))⟩⟩)⟩
    refine wp_ite (fun c15 => ?_) (fun c15 => ?_)
    · refine wp_bind2 (o2_X10_in M v2 (nI 100) (nI 101)) (fun r_12 he23 hq23 => ?_)
      obtain ⟨hz_r_12, hr_23, hi_23⟩ := hq23
      replace hr_23 : ¬ r_12.toInt = 0 → (nI 100).toInt ≤ v2.toInt ∧ v2.toInt ≤ (nI 101).toInt := hr_23
      have := t_lit 100
      have := t_lit 101
      replace hi_23 : ¬ r_12.toInt = 0 ↔ (nI 100).toInt ≤ v2.toInt ∧ v2.toInt ≤ (nI 101).toInt := hi_23
      have := t_lit 100
      have := t_lit 101
      refine wp_ite (fun c26 => ?_) (fun c26 => ?_)
      · exact wp_some ⟨(fun _ _ _ => rfl), (pq_n (fun z => z.2.elim (fun q => hi_12.mpr (by have f0 := t_lit 0; have f1 := t_lit 39; omega) c15) (fun q => hi_23.mpr (by have f0 := t_lit 100; have f1 := t_lit 101; omega) c26)) rfl)⟩
      · exact j31 (Or.inr (by have f0 := t_lit 100; have f1 := t_lit 101; have q := hi_23.mp c26; omega))
    · exact j31 (Or.inl (by have f0 := t_lit 0; have f1 := t_lit 39; have q := hi_12.mp c15; omega))
