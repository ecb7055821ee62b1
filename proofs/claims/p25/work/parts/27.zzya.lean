set_option maxHeartbeats 4000000 in
theorem ot_X10_nextRow (M : Mem) (v1 : Int32) (v2 : Int32) (hv : 1 ≤ v1.toInt ∧ v1.toInt ≤ 7) (hv2 : 0 ≤ v2.toInt) (hr : PermN (M 37) v1.toInt.toNat) : Wp (f_X10_nextRow M v1 v2) (fun q => (q.1 = 0 ∨ q.1 = 1) ∧ (∀ a i, ¬ (a = 37) → q.2 a i = M a i) ∧ (PermN (q.2 37) v1.toInt.toNat) ∧ (¬ q.1.toInt = 0 → rowNum (M 37) v1.toInt.toNat < rowNum (q.2 37) v1.toInt.toNat) ∧ ((¬ q.1.toInt = 0 → NxR (RwN (M 37)) (RwN (q.2 37)) v1.toInt.toNat (ix v2)) ∧ (q.1.toInt = 0 → DsR (RwN (M 37)) v1.toInt.toNat (ix v2) ∧ q.2 37 = M 37))) := by
  refine wp_lp1 (fun y3_4 => (-1 ≤ y3_4.toInt ∧ y3_4.toInt ≤ v1.toInt - 2) ∧ (DsR (RwN (M 37)) v1.toInt.toNat (ix (y3_4 + nI 1)))) (fun y3_4 => (y3_4.toInt + 2).toNat) (fun ag4 y3_4 hI4 ih4 => ?_) FU (v1 - (nI 2)) ⟨(by have f0 := t_lit 2; have f1 := t_sub v1 (nI 2); omega), (nr_1 hv)⟩ (fu_lt (by have f0 := t_lit 2; have f1 := t_sub v1 (nI 2); omega))
  obtain ⟨h3, hds⟩ := hI4
  have j33 : (y3_4.toInt < v2.toInt ∨ (M 37 (ix y3_4)).toInt ≤ (M 37 (ix (y3_4 + (nI 1)))).toInt) → Wp (f_X10_nextRow_L33 M v1 v2 y3_4) (fun q => (q.1 = 0 ∨ q.1 = 1) ∧ (∀ a i, ¬ (a = 37) → q.2 a i = M a i) ∧ (PermN (q.2 37) v1.toInt.toNat) ∧ (¬ q.1.toInt = 0 → rowNum (M 37) v1.toInt.toNat < rowNum (q.2 37) v1.toInt.toNat) ∧ ((¬ q.1.toInt = 0 → NxR (RwN (M 37)) (RwN (q.2 37)) v1.toInt.toNat (ix v2)) ∧ (q.1.toInt = 0 → DsR (RwN (M 37)) v1.toInt.toNat (ix v2) ∧ q.2 37 = M 37))) := by
    intro h33
    unfold f_X10_nextRow_L33
    refine wp_ite (fun c35 => ?_) (fun c35 => ?_)
    · refine wp_lp1 (fun y4_45 => (y3_4.toInt + 1 ≤ y4_45.toInt ∧ y4_45.toInt ≤ v1.toInt - 1) ∧ (∀ m, ix y4_45 < m → m < v1.toInt.toNat → (RwN (M 37)) m < (RwN (M 37)) (ix y3_4))) (fun y4_45 => (y4_45.toInt + 2).toNat) (fun ag45 y4_45 hI45 ih45 => ?_) FU (v1 - (nI 1)) ⟨(by have f0 := t_lit 1; have f1 := t_sub v1 (nI 1); omega), (nr_4 hv)⟩ (fu_lt (by have f0 := t_lit 1; have f1 := t_sub v1 (nI 1); omega))
      obtain ⟨h4, h45⟩ := hI45
      refine wp_gd (by omega) ?_
      refine wp_gd (by omega) ?_
      have j70 : ((M 37 (ix y3_4)).toInt ≤ (M 37 (ix y4_45)).toInt) → Wp (f_X10_nextRow_L70 M v1 y3_4 y4_45) (fun q => (q.1 = 0 ∨ q.1 = 1) ∧ (∀ a i, ¬ (a = 37) → q.2 a i = M a i) ∧ (PermN (q.2 37) v1.toInt.toNat) ∧ (¬ q.1.toInt = 0 → rowNum (M 37) v1.toInt.toNat < rowNum (q.2 37) v1.toInt.toNat) ∧ ((¬ q.1.toInt = 0 → NxR (RwN (M 37)) (RwN (q.2 37)) v1.toInt.toNat (ix v2)) ∧ (q.1.toInt = 0 → DsR (RwN (M 37)) v1.toInt.toNat (ix v2) ∧ q.2 37 = M 37))) := by
        intro h70
        unfold f_X10_nextRow_L70
        have fi3 := t_ixn y3_4 (by omega)
        have fi4 := t_ixn y4_45 (by omega)
        have h30 : 0 ≤ y3_4.toInt := Int.le_trans hv2 c35
        have h31 : y3_4.toInt + 1 < v1.toInt := Int.lt_of_le_of_lt h4.1 (by omega)
        refine wp_bind2 (o_X10_changes M y3_4 y4_45 (by omega) (by omega)) (fun M_1 he74 hq74 => ?_)
        obtain ⟨hg_M_1, hc_74⟩ := hq74
        replace hc_74 : M_1 37 = swp (M 37) (ix y3_4) (ix y4_45) := hc_74
        replace hg_M_1 : ∀ a i, ¬ (a = 37) → M_1 a i = M a i := hg_M_1
        refine wp_lp3 (fun M87 y5_87 y6_87 => (∀ a i, ¬ (a = 37) → M87 a i = M_1 a i) ∧ (y3_4.toInt + 1 ≤ y5_87.toInt ∧ y6_87.toInt ≤ v1.toInt - 1 ∧ -1 ≤ y6_87.toInt) ∧ (PermN (M87 37) v1.toInt.toNat ∧ ∀ j : Nat, (j : Int) ≤ y3_4.toInt → M87 37 j = M_1 37 j) ∧ (RvI (RwN (M_1 37)) (RwN (M87 37)) (ix y3_4) v1.toInt.toNat (ix y5_87) (ix y6_87))) (fun M87 y5_87 y6_87 => (y6_87.toInt + 2).toNat) (fun ag87 M87 y5_87 y6_87 hI87 ih87 => ?_) FU M_1 (y3_4 + (nI 1)) (v1 - (nI 1)) ⟨(fun _ _ _ => rfl), (by have f0 := t_lit 1; have f1 := t_add y3_4 (nI 1); have f2 := t_sub v1 (nI 1); omega), ⟨by rw [hc_74]; exact perm_swp hr (by omega) (by omega), fun _ _ => rfl⟩, (nr_6 hv h30 h31)⟩ (fu_lt (by have f0 := t_lit 1; have f1 := t_add y3_4 (nI 1); have f2 := t_sub v1 (nI 1); omega))
        obtain ⟨hf_M87, h5, hp87, hrv⟩ := hI87
        refine wp_ite (fun c91 => ?_) (fun c91 => ?_)
        · exact wp_some ⟨b01_1, (fun a i q0 => ((hf_M87 a i (fun h9 => q0 (h9))).trans ((hg_M_1 a i (fun h9 => q0 (h9))).trans rfl))), hp87.1, (fun _ => row_next hr (by omega) (y3 := ix y3_4) (y4 := ix y4_45) (by omega) (by omega) h70 hc_74 (fun j hj => hp87.2 j (by omega))), ⟨fun _ => nr_8 hr hp87.1 hv hds h45 h70 hc_74 hrv ⟨hv2, c35⟩ h4 h5.1 c91, fun z => absurd z ne1⟩⟩
        · have fi5 := t_ixn y5_87 (by omega)
          have fi6 := t_ixn y6_87 (by omega)
          refine wp_bind2 (o_X10_changes M87 y5_87 y6_87 (by omega) (by omega)) (fun M_2 he99 hq99 => ?_)
          obtain ⟨hg_M_2, hc_99⟩ := hq99
          replace hc_99 : M_2 37 = swp (M87 37) (ix y5_87) (ix y6_87) := hc_99
          replace hg_M_2 : ∀ a i, ¬ (a = 37) → M_2 a i = M87 a i := hg_M_2
          exact ih87 M_2 (y5_87 + (nI 1)) (y6_87 + (-1)) ⟨(fun a i q0 => ((hg_M_2 a i (fun h9 => q0 (h9))).trans ((hf_M87 a i (fun h9 => q0 (h9))).trans rfl))), (by rw [t_inc y5_87 1 (by omega), t_dec y6_87 (by omega)]; omega), ⟨by rw [hc_99]; exact perm_swp hp87.1 (by omega) (by omega), fun j hj => by rw [hc_99, swp_get, if_neg (by omega), if_neg (by omega)]; exact hp87.2 j hj⟩, (nr_7 hrv hv h30 h5.1 (Int.not_le.mp c91) h5.2.1 hc_99)⟩ (by rw [t_dec y6_87 (by omega)]; omega)
      refine wp_ite (fun c58 => ?_) (fun c58 => ?_)
      · exact j70 (by omega)
      · exact ih45 (y4_45 - (nI 1)) ⟨(by have f0 := t_lit 1; have f1 := t_sub y4_45 (nI 1); have hne : ¬ y4_45.toInt = y3_4.toInt + 1 := fun z => c58 (by have f2 := t_add y3_4 (nI 1); rw [show y4_45 = y3_4 + nI 1 from t_of (by omega)]; exact h33.resolve_left (by omega)); omega), (nr_5 hr (by omega) (Int.le_trans hv2 c35) h4.1 (by omega) h45 c58)⟩ (by have f0 := t_lit 1; have f1 := t_sub y4_45 (nI 1); omega)
    · exact wp_some ⟨b01_0, (fun _ _ _ => rfl), hr, (fun h => absurd nI0 h), ⟨fun z => absurd nI0 z, fun _ => ⟨nr_3 hds ⟨h3.1, by omega⟩ (Int.not_le.mp c35), rfl⟩⟩⟩
  refine wp_ite (fun c6 => ?_) (fun c6 => ?_)
  · exact j33 (by omega)
  · refine wp_gd (by omega) ?_
    refine wp_gd (by have f0 := t_lit 1; have f1 := t_add y3_4 (nI 1); omega) ?_
    refine wp_ite (fun c23 => ?_) (fun c23 => ?_)
    · exact j33 (by omega)
    · exact ih4 (y3_4 - (nI 1)) ⟨(by have f0 := t_lit 1; have f1 := t_sub y3_4 (nI 1); have f2 := t_add y3_4 (nI 1); omega), (nr_2 hr (Int.le_trans hv2 (Int.not_lt.mp c6)) (by omega) (by omega) hds c23)⟩ (by have f0 := t_lit 1; have f1 := t_sub y3_4 (nI 1); have f2 := t_add y3_4 (nI 1); omega)
set_option maxHeartbeats 4000000 in
theorem ot_X10_listsStones (M : Mem) (v1 : Int32) (v2 : Int32) (hv : v1.toInt ≤ 7) (hGd : GdF (FdR M 1)) : Wp (f_X10_listsStones M v1 v2) (fun q => (q.1 = 0 ∨ q.1 = 1) ∧ (∀ a i, ¬ (a = 36) → q.2 a i = M a i) ∧ (¬ q.1.toInt = 0 → ∀ j : Nat, (j : Int) < v1.toInt → 0 ≤ (q.2 36 j).toInt ∧ (q.2 36 j).toInt < 40) ∧ (0 ≤ v1.toInt → (¬ q.1.toInt = 0 → ∃ i, i ≤ 40 ∧ LsI (fun i => (i < 40 ∧ tld (FdR M 1) i) ∧ (¬ v2.toInt = 0 → ((FdR M 1) 5 i).toInt = 0)) v1.toInt.toNat i (RwN (q.2 36))) ∧ (q.1.toInt = 0 → ∃ m w, m < v1.toInt.toNat ∧ LsI (fun i => (i < 40 ∧ tld (FdR M 1) i) ∧ (¬ v2.toInt = 0 → ((FdR M 1) 5 i).toInt = 0)) m 40 w))) := by
  refine wp_lp3 (fun M5 y3_5 y4_5 => (0 ≤ y4_5.toInt) ∧ (∀ a i, ¬ (a = 36) → M5 a i = M a i) ∧ (0 ≤ y3_5.toInt) ∧ (∀ j : Nat, (j : Int) < y3_5.toInt → 0 ≤ (M5 36 j).toInt ∧ (M5 36 j).toInt < 40) ∧ (LsI (fun i => (i < 40 ∧ tld (FdR M 1) i) ∧ (¬ v2.toInt = 0 → ((FdR M 1) 5 i).toInt = 0)) (ix y3_5) (ix y4_5) (RwN (M5 36))) ∧ (0 ≤ v1.toInt → y3_5.toInt ≤ v1.toInt) ∧ (y4_5.toInt ≤ 40)) (fun M5 y3_5 y4_5 => (40 - y4_5.toInt).toNat) (fun ag5 M5 y3_5 y4_5 hI5 ih5 => ?_) FU M (nI 0) (nI 0) ⟨(by have f0 := t_lit 0; omega), (fun _ _ _ => rfl), (by decide), (fun j hj => absurd hj (by have := t_lit 0; omega)), (by rw [show ix (nI 0) = 0 from (by decide)]; exact ls_0), (fun z => by rw [nI0]; exact z), (by decide)⟩ (fu_lt (by have f0 := t_lit 0; omega))
  obtain ⟨hi5, hf_M5, h3, hw, hls, n3, y40⟩ := hI5
  have f5 : FdR M5 1 = (FdR M 1) := fdr_same (fun j hj => hf_M5 1 j (by first | decide | (rcases hc0 with h | h <;> rw [h] <;> simp; done) | (rcases hb0 with h | h | h <;> rw [h] <;> simp; done) | (simp; done) | omega))
  have j60 : (40 ≤ y4_5.toInt ∨ v1.toInt ≤ y3_5.toInt) → Wp (f_X10_listsStones_L60 v1 M5 y3_5) (fun q => (q.1 = 0 ∨ q.1 = 1) ∧ (∀ a i, ¬ (a = 36) → q.2 a i = M a i) ∧ (¬ q.1.toInt = 0 → ∀ j : Nat, (j : Int) < v1.toInt → 0 ≤ (q.2 36 j).toInt ∧ (q.2 36 j).toInt < 40) ∧ (0 ≤ v1.toInt → (¬ q.1.toInt = 0 → ∃ i, i ≤ 40 ∧ LsI (fun i => (i < 40 ∧ tld (FdR M 1) i) ∧ (¬ v2.toInt = 0 → ((FdR M 1) 5 i).toInt = 0)) v1.toInt.toNat i (RwN (q.2 36))) ∧ (q.1.toInt = 0 → ∃ m w, m < v1.toInt.toNat ∧ LsI (fun i => (i < 40 ∧ tld (FdR M 1) i) ∧ (¬ v2.toInt = 0 → ((FdR M 1) 5 i).toInt = 0)) m 40 w))) := by
    intro h60
    unfold f_X10_listsStones_L60
    refine wp_ite (fun c62 => ?_) (fun c62 => ?_)
    · exact wp_some ⟨b01_1, (fun a i q0 => ((hf_M5 a i (fun h9 => q0 (h9))).trans rfl)), (fun _ j hj => hw j (by omega)), (fun z0 => ⟨fun _ => ⟨ix y4_5, by have z := t_ixn y4_5 (by omega); omega, by rw [show v1.toInt.toNat = ix y3_5 from (by have z := t_ixn y3_5 (by omega); omega)]; exact hls⟩, fun z => absurd z ne1⟩)⟩
    · exact wp_some ⟨b01_0, (fun a i q0 => ((hf_M5 a i (fun h9 => q0 (h9))).trans rfl)), (fun h => absurd nI0 h), (fun z0 => ⟨fun z => absurd nI0 z, fun _ => ⟨ix y3_5, RwN (M5 36), by have z := t_ixn y3_5 (by omega); have z2 := n3 z0; omega, by have z2 := n3 z0; rw [show ix y4_5 = 40 from (ix_eq (by omega) (by decide)).mpr (by omega)] at hls; exact hls⟩⟩)⟩
  refine wp_ite (fun c9 => ?_) (fun c9 => ?_)
  · exact j60 (Or.inl c9)
  · refine wp_ite (fun c14 => ?_) (fun c14 => ?_)
    · exact j60 (Or.inr c14)
    · have u4 := i_up (x := y4_5) (by omega)
      have i4 := t_ixn y4_5 (by omega)
      have u3 := i_up (x := y3_5) (by omega)
      refine wp_bind2 (o8_X10_isStone M5 y4_5 (by rw [f5]; exact hGd.1.1)) (fun r_1 he20 hq20 => ?_)
      obtain ⟨hz_r_1, hr_20, htd_20⟩ := hq20
      replace hr_20 : ¬ r_1.toInt = 0 → (0 ≤ y4_5.toInt ∧ y4_5.toInt < 40) ∧ (M5 1 (ix y4_5)).toInt = 1 := hr_20
      replace htd_20 : TdP r_1.toInt (FdR M5 1) y4_5 := htd_20
      rw [f5] at htd_20
      refine wp_ite (fun c23 => ?_) (fun c23 => ?_)
      · exact ih5 M5 y3_5 (y4_5 + (nI 1)) ⟨(by have f0 := t_lit 1; have f1 := t_add y4_5 (nI 1); omega), (fun a i q0 => ((hf_M5 a i (fun h9 => q0 (h9))).trans rfl)), (by omega), hw, (by rw [u4.1]; exact ls_n hls (fun z => td_n htd_20 c23 ⟨⟨by omega, by omega⟩, z.1.2⟩)), (by omega), (by rw [u4.2]; omega)⟩ (by have f0 := t_lit 1; have f1 := t_add y4_5 (nI 1); omega)
      · have j42 : ((fun i => (i < 40 ∧ tld (FdR M 1) i) ∧ (¬ v2.toInt = 0 → ((FdR M 1) 5 i).toInt = 0)) (ix y4_5)) → Wp (f_X10_listsStones_L42 ag5 M5 y3_5 y4_5) (fun q => (q.1 = 0 ∨ q.1 = 1) ∧ (∀ a i, ¬ (a = 36) → q.2 a i = M a i) ∧ (¬ q.1.toInt = 0 → ∀ j : Nat, (j : Int) < v1.toInt → 0 ≤ (q.2 36 j).toInt ∧ (q.2 36 j).toInt < 40) ∧ (0 ≤ v1.toInt → (¬ q.1.toInt = 0 → ∃ i, i ≤ 40 ∧ LsI (fun i => (i < 40 ∧ tld (FdR M 1) i) ∧ (¬ v2.toInt = 0 → ((FdR M 1) 5 i).toInt = 0)) v1.toInt.toNat i (RwN (q.2 36))) ∧ (q.1.toInt = 0 → ∃ m w, m < v1.toInt.toNat ∧ LsI (fun i => (i < 40 ∧ tld (FdR M 1) i) ∧ (¬ v2.toInt = 0 → ((FdR M 1) 5 i).toInt = 0)) m 40 w))) := by
          intro h42
          unfold f_X10_listsStones_L42
          refine wp_gd (by omega) ?_
          refine wp_bnd (fun M_2 eM_2 => ?_)
          exact ih5 M_2 (y3_5 + (nI 1)) (y4_5 + (nI 1)) ⟨(by have f0 := t_lit 1; have f1 := t_add y4_5 (nI 1); omega), (fun a i q0 => ((congrFun (congrFun eM_2 a) i).trans ((mset_ne (fun h9 => q0 ((h9).1))).trans ((hf_M5 a i (fun h9 => q0 (h9))).trans rfl)))), (by have f0 := t_lit 1; have f1 := t_add y3_5 (nI 1); omega), (set_ext (P := fun _ x => 0 ≤ x.toInt ∧ x.toInt < 40) eM_2 (by omega) (by omega) hw (by omega)), (by rw [u4.1, u3.1]; exact ls_y hls h42 (fun k hk => by show ix (M_2 36 k) = ix (M5 36 k); rw [eM_2, mset_ne (by first | exact nz1 (by decide) | exact nz2 (by decide) | exact nz1 (nzA hc0 (by decide)) | exact nz1 (nzE (by decide)) | exact nz1 (nzB hc0 (by decide)) | exact nz1 (nzC hc0 (by decide)) | exact nz1 (nzD hc0 (by decide)) | exact nz1 (nzF (by decide)) | exact nz1 (nzG (by decide)) | omega)]) (by show ix (M_2 36 (ix y3_5)) = ix y4_5; rw [eM_2, mset_eq])), (by rw [u3.2]; omega), (by rw [u4.2]; omega)⟩ (by have f0 := t_lit 1; have f1 := t_add y4_5 (nI 1); omega)
        refine wp_ite (fun c27 => ?_) (fun c27 => ?_)
        · exact j42 ⟨⟨by omega, (td_y htd_20 c23).2⟩, fun z => absurd c27 z⟩
        · refine wp_bind2 (ow_X10_isDry M5 y4_5 ⟨by omega, by omega⟩ (by rw [f5]; exact hGd)) (fun r_3 he33 hq33 => ?_)
          obtain ⟨hz_r_3, hr_33, hd_33⟩ := hq33
          replace hr_33 : ¬ r_3.toInt = 0 → (M5 1 (ix y4_5)).toInt = 1 := hr_33
          replace hd_33 : ¬ r_3.toInt = 0 ↔ dryG (FdR M5 1) (ix y4_5) := hd_33
          rw [f5] at hd_33
          refine wp_ite (fun c36 => ?_) (fun c36 => ?_)
          · exact ih5 M5 y3_5 (y4_5 + (nI 1)) ⟨(by have f0 := t_lit 1; have f1 := t_add y4_5 (nI 1); omega), (fun a i q0 => ((hf_M5 a i (fun h9 => q0 (h9))).trans rfl)), (by omega), hw, (by rw [u4.1]; exact ls_n hls (fun z => hd_33.mpr ⟨z.1, z.2 c27⟩ c36)), (by omega), (by rw [u4.2]; omega)⟩ (by have f0 := t_lit 1; have f1 := t_add y4_5 (nI 1); omega)
          · exact j42 ⟨(hd_33.mp c36).1, fun _ => (hd_33.mp c36).2⟩
