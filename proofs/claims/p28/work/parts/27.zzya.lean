set_option maxHeartbeats 4000000 in
theorem ot_X10_nextRow (M : Mem) (v1 : Int32) (v2 : Int32) (hv : 1 ≤ v1.toInt ∧ v1.toInt ≤ 7) (hv2 : 0 ≤ v2.toInt) (hr : PermN (M 37) v1.toInt.toNat) : Wp (f_X10_nextRow M v1 v2) (fun q => (q.1 = 0 ∨ q.1 = 1) ∧ (∀ a i, ¬ (a = 37) → q.2 a i = M a i) ∧ (PermN (q.2 37) v1.toInt.toNat) ∧ (¬ q.1.toInt = 0 → rowNum (M 37) v1.toInt.toNat < rowNum (q.2 37) v1.toInt.toNat) ∧ ((¬ q.1.toInt = 0 → NxR (RwN (M 37)) (RwN (q.2 37)) v1.toInt.toNat (ix v2)) ∧ (q.1.toInt = 0 → DsR (RwN (M 37)) v1.toInt.toNat (ix v2) ∧ q.2 37 = M 37))) := by
  refine wp_lp1 (fun y3_4 => (-1 ≤ y3_4.toInt ∧ y3_4.toInt ≤ v1.toInt - 2) ∧ (DsR (RwN (M 37)) v1.toInt.toNat (ix (y3_4 + nI 1)))) (fun y3_4 => (y3_4.toInt + 2).toNat) (fun ag4 y3_4 hI4 ih4 => ?_) FU (v1 - (nI 2)) ⟨(by have f0 := t_lit 2; have f1 := t_sub v1 (nI 2); omega), (nr_1 hv)⟩ (fu_lt (by have f0 := t_lit 2; have f1 := t_sub v1 (nI 2); omega))
  obtain ⟨h3, hds⟩ := hI4
  have j33 : (y3_4.toInt < v2.toInt ∨ (M 37 (ix y3_4)).toInt ≤ (M 37 (ix (y3_4 + (nI 1)))).toInt) → Wp (f_X10_nextRow_L33 M v1 v2 y3_4) (fun q => (q.1 = 0 ∨ q.1 = 1) ∧ (∀ a i, ¬ (a = 37) → q.2 a i = M a i) ∧ (PermN (q.2 37) v1.toInt.toNat) ∧ (¬ q.1.toInt = 0 → rowNum (M 37) v1.toInt.toNat < rowNum (q.2 37) v1.toInt.toNat) ∧ ((¬ q.1.toInt = 0 → NxR (RwN (M 37)) (RwN (q.2 37)) v1.toInt.toNat (ix v2)) ∧ (q.1.toInt = 0 → DsR (RwN (M 37)) v1.toInt.toNat (ix v2) ∧ q.2 37 = M 37))) := by
    intro h33
    unfold f_X10_nextRow_L33
    refine wp_ite (fun c35 => ?_) (fun c35 => ?_)
    · refine wp_lp1 (fun y4_45 => (y3_4.toInt + 1 ≤ y4_45.toInt ∧ y4_45.toInt ≤ v1.toInt - 1) ∧ (∀ m, ix y4_45 < m → m < v1.toInt.toNat → (RwN (M 37)) m < (RwN (M 37)) (ix y3_4))) (fun y4_45 => (y4_45.toInt + 2).toNat) (fun ag45 y4_45 hI45 ih45 => ?_) FU (v1 - (nI 1)) ⟨(by have f0 := t_lit 1; have f1 := t_sub v1 (nI 1); omega), (nr_4 hv)⟩ (fu_lt (by have f0 := t_lit 1; have f1 := t_sub v1 (nI 1); omega))
      obtain ⟨h4, h45⟩ := hI45
      refine wp_gd (by omega) ?_
      refine wp_gd (by omega) ?_
      have j70 : ((M 37 (ix y3_4)).toInt ≤ (M 37 (ix y4_45)).toInt) → Wp (f_X10_nextRow_L70 M v1 y3_4 y4_45) (fun q => (q.1 = 0 ∨ q.1 = 1) ∧ (∀ a i, ¬ (a = 37) → q.2 a i = M a i) ∧ (PermN (q.2 37) v1.toInt.toNat) ∧ (¬ q.1.toInt = 0 → rowNum (M 37) v1.toInt.toNat < rowNum (q.2 37) v1.toInt.toNat) ∧ ((¬ q.1.toInt = 0 → NxR (RwN (M 37)) (RwN (q.2 37)) v1.toInt.toNat (ix v2)) ∧ (q.1.toInt = 0 → DsR (RwN (M 37)) v1.toInt.toNat (ix v2) ∧ q.2 37 = M 37))) := by
        intro h70
        unfold f_X10_nextRow_L70
        have fi3 := t_ixn y3_4 (by omega)
        have fi4 := t_ixn y4_45 (by omega)
        have h30 : 0 ≤ y3_4.toInt := Int.le_trans hv2 c35
        have h31 : y3_4.toInt + 1 < v1.toInt := Int.lt_of_le_of_lt h4.1 (by omega)
        refine wp_bind2 (o_X10_changes M y3_4 y4_45 (by omega) (by omega)) (fun M_1 he74 hq74 => ?_)
        obtain ⟨hg_M_1, hc_74⟩ := hq74
        replace hc_74 : M_1 37 = swp (M 37) (ix y3_4) (ix y4_45) := hc_74
        replace hg_M_1 : ∀ a i, ¬ (a = 37) → M_1 a i = M a i := hg_M_1
        refine wp_lp3 (fun M87 y5_87 y6_87 => (∀ a i, ¬ (a = 37) → M87 a i = M_1 a i) ∧ (y3_4.toInt + 1 ≤ y5_87.toInt ∧ y6_87.toInt ≤ v1.toInt - 1 ∧ -1 ≤ y6_87.toInt) ∧ (PermN (M87 37) v1.toInt.toNat ∧ ∀ j : Nat, (j : Int) ≤ y3_4.toInt → M87 37 j = M_1 37 j) ∧ (RvI (RwN (M_1 37)) (RwN (M87 37)) (ix y3_4) v1.toInt.toNat (ix y5_87) (ix y6_87))) (fun M87 y5_87 y6_87 => (y6_87.toInt + 2).toNat) (fun ag87 M87 y5_87 y6_87 hI87 ih87 => ?_) FU M_1 (y3_4 + (nI 1)) (v1 - (nI 1)) ⟨(fun _ _ _ => rfl), (by have f0 := t_lit 1; have f1 := t_add y3_4 (nI 1); have f2 := t_sub v1 (nI 1); omega), ⟨by rw [hc_74]; exact perm_swp hr (by omega) (by omega), fun _ _ => rfl⟩, (nr_6 hv h30 h31)⟩ (fu_lt (by have f0 := t_lit 1; have f1 := t_add y3_4 (nI 1); have f2 := t_sub v1 (nI 1); omega))
        obtain ⟨hf_M87, h5, hp87, hrv⟩ := hI87
        refine wp_ite (fun c91 => ?_) (fun c91 => ?_)
        · exact wp_some ⟨b01_1, (fun a i q0 => ((hf_M87 a i (fun h9 => q0 (h9))).trans ((hg_M_1 a i (fun h9 => q0 (h9))).trans rfl))), hp87.1, (fun _ => row_next hr (by omega) (y3 := ix y3_4) (y4 := ix y4_45) (by omega) (by omega) h70 hc_74 (fun j hj => hp87.2 j (by omega))), ⟨fun _ => nr_8 hr hp87.1 hv hds h45 h70 hc_74 hrv ⟨hv2, c35⟩ h4 h5.1 c91, fun z => absurd z ne1⟩⟩
        · have fi5 := t_ixn y5_87 (by omega)
          have fi6 := t_ixn y6_87 (by omega)
          refine wp_bind2 (o_X10_changes M87 y5_87 y6_87 (by omega) (by omega)) (fun M_2 he99 hq99 => ?_)
          obtain ⟨hg_M_2, hc_99⟩ := hq99
          replace hc_99 : M_2 37 = swp (M87 37) (ix y5_87) (ix y6_87) := hc_99
          replace hg_M_2 : ∀ a i, ¬ (a = 37) → M_2 a i = M87 a i := hg_M_2
          exact ih87 M_2 (y5_87 + (nI 1)) (y6_87 + (-1)) ⟨(fun a i q0 => ((hg_M_2 a i (fun h9 => q0 (h9))).trans ((hf_M87 a i (fun h9 => q0 (h9))).trans rfl))), (by rw [t_inc y5_87 1 (by omega), t_dec y6_87 (by omega)]; omega), ⟨by rw [hc_99]; exact perm_swp hp87.1 (by omega) (by omega), fun j hj => by rw [hc_99, swp_get, if_neg (by omega), if_neg (by omega)]; exact hp87.2 j hj⟩, (nr_7 hrv hv h30 h5.1 (Int.not_le.mp c91) h5.2.1 hc_99)⟩ (by rw [t_dec y6_87 (by omega)]; omega)
      refine wp_ite (fun c58 => ?_) (fun c58 => ?_)
      · exact j70 (by omega)
      · exact ih45 (y4_45 - (nI 1)) ⟨(by have f0 := t_lit 1; have f1 := t_sub y4_45 (nI 1); have hne : ¬ y4_45.toInt = y3_4.toInt + 1 := fun z => c58 (by have f2 := t_add y3_4 (nI 1); rw [show y4_45 = y3_4 + nI 1 from t_of (by omega)]; exact h33.resolve_left (by omega)); omega), (nr_5 hr (by omega) (Int.le_trans hv2 c35) h4.1 (by omega) h45 c58)⟩ (by have f0 := t_lit 1; have f1 := t_sub y4_45 (nI 1); omega)
    · exact wp_some ⟨b01_0, (fun _ _ _ => rfl), hr, (fun h => absurd nI0 h), ⟨fun z => absurd nI0 z, fun _ => ⟨nr_3 hds ⟨h3.1, by omega⟩ (Int.not_le.mp c35), rfl⟩⟩⟩
  refine wp_ite (fun c6 => ?_) (fun c6 => ?_)
  · exact j33 (by omega)
  · refine wp_gd (by omega) ?_
    refine wp_gd (by have f0 := t_lit 1; have f1 := t_add y3_4 (nI 1); omega) ?_
    refine wp_ite (fun c23 => ?_) (fun c23 => ?_)
    · exact j33 (by omega)
    · exact ih4 (y3_4 - (nI 1)) ⟨(by have f0 := t_lit 1; have f1 := t_sub y3_4 (nI 1); have f2 := t_add y3_4 (nI 1); omega), (nr_2 hr (Int.le_trans hv2 (Int.not_lt.mp c6)) (by omega) (by omega) hds c23)⟩ (by have f0 := t_lit 1; have f1 := t_sub y3_4 (nI 1); have f2 := t_add y3_4 (nI 1); omega)
