theorem o9_X9_isStone (M : Mem) (v0 : Int32) : Wp (f_X9_isStone v0) (fun q => (q = 0 ∨ q = 1) ∧ (¬ q.toInt = 0 ↔ 0 ≤ v0.toInt ∧ v0.toInt < 40)) := by
  refine wp_ite (fun c1 => ?_) (fun c1 => ?_)
  · exact wp_some ⟨b01_0, ⟨fun z => absurd nI0 z, fun z => absurd z (by omega)⟩⟩
  · refine wp_ite (fun c7 => ?_) (fun c7 => ?_)
    · exact wp_some ⟨b01_0, ⟨fun z => absurd nI0 z, fun z => absurd z (by omega)⟩⟩
    · exact wp_some ⟨b01_1, ⟨fun _ => by omega, fun _ => by decide⟩⟩
theorem o9_X9_isPlace (M : Mem) (v0 : Int32) (v1 : Int32) : Wp (f_X9_isPlace v0 v1) (fun q => (q = 0 ∨ q = 1) ∧ (¬ q.toInt = 0 ↔ (0 ≤ v0.toInt ∧ v0.toInt ≤ 39) ∧ 1 ≤ v1.toInt ∧ v1.toInt ≤ 20)) := by
  refine wp_ite (fun c1 => ?_) (fun c1 => ?_)
  · exact wp_some ⟨b01_0, ⟨fun z => absurd nI0 z, fun z => absurd z (by omega)⟩⟩
  · refine wp_ite (fun c7 => ?_) (fun c7 => ?_)
    · exact wp_some ⟨b01_0, ⟨fun z => absurd nI0 z, fun z => absurd z (by omega)⟩⟩
    · refine wp_ite (fun c12 => ?_) (fun c12 => ?_)
      · exact wp_some ⟨b01_0, ⟨fun z => absurd nI0 z, fun z => absurd z (by omega)⟩⟩
      · refine wp_ite (fun c18 => ?_) (fun c18 => ?_)
        · exact wp_some ⟨b01_0, ⟨fun z => absurd nI0 z, fun z => absurd z (by omega)⟩⟩
        · exact wp_some ⟨b01_1, ⟨fun _ => by omega, fun _ => by decide⟩⟩
theorem o9_X9_isNights (M : Mem) (v0 : Int32) : Wp (f_X9_isNights v0) (fun q => (q = 0 ∨ q = 1) ∧ (¬ q.toInt = 0 ↔ 1 ≤ v0.toInt ∧ v0.toInt ≤ 60)) := by
  refine wp_ite (fun c2 => ?_) (fun c2 => ?_)
  · exact wp_some ⟨b01_0, ⟨fun z => absurd nI0 z, fun z => absurd z (by omega)⟩⟩
  · refine wp_ite (fun c8 => ?_) (fun c8 => ?_)
    · exact wp_some ⟨b01_0, ⟨fun z => absurd nI0 z, fun z => absurd z (by omega)⟩⟩
    · exact wp_some ⟨b01_1, ⟨fun _ => by omega, fun _ => by decide⟩⟩
theorem o9_X9_stone (M : Mem) (v1 : Int32) (v2 : Int32) (v3 : Int32) (v4 : Int32) : Wp (f_X9_stone M v1 v2 v3 v4) (fun q => (q.1 = 0 ∨ q.1 = 1) ∧ (∀ a i, ¬ (a = 2 ∨ a = 3 ∨ a = 4 ∨ a = 5 ∨ a = 6) → q.2 a i = M a i) ∧ (StP (FdC M 1) (FdC q.2 1) q.1 v1 v2 v3 v4)) := by
  refine wp_bind2 (o9_X9_isStone M v1) (fun r_1 he1 hq1 => ?_)
  obtain ⟨hz_r_1, hr_1⟩ := hq1
  replace hr_1 : ¬ r_1.toInt = 0 ↔ 0 ≤ v1.toInt ∧ v1.toInt < 40 := hr_1
  refine wp_ite (fun c4 => ?_) (fun c4 => ?_)
  · exact wp_some ⟨b01_0, (fun _ _ _ => rfl), (op_n (fun z => hr_1.mpr z.1 c4) rfl rfl)⟩
  · refine wp_bind2 (o9_X9_isPlace M v2 v3) (fun r_2 he9 hq9 => ?_)
    obtain ⟨hz_r_2, hr_9⟩ := hq9
    replace hr_9 : ¬ r_2.toInt = 0 ↔ (0 ≤ v2.toInt ∧ v2.toInt ≤ 39) ∧ 1 ≤ v3.toInt ∧ v3.toInt ≤ 20 := hr_9
    refine wp_ite (fun c12 => ?_) (fun c12 => ?_)
    · exact wp_some ⟨b01_0, (fun _ _ _ => rfl), (op_n (fun z => hr_9.mpr ⟨z.2.1, z.2.2.1⟩ c12) rfl rfl)⟩
    · refine wp_ite (fun c17 => ?_) (fun c17 => ?_)
      · exact wp_some ⟨b01_0, (fun _ _ _ => rfl), (op_n (fun z => absurd z.2.2.2.1 (by omega)) rfl rfl)⟩
      · refine wp_ite (fun c24 => ?_) (fun c24 => ?_)
        · refine wp_bind2 (o8_X2_stoneAt (Or.inl rfl) M v2 v3) (fun r_3 he35 hq35 => ?_)
          have hsa_35 := hq35
          replace hsa_35 : r_3 = stA (FdC M 1) v2.toInt v3.toInt 40 0 := hsa_35
          have j54 : ((stA (FdC M 1) v2.toInt v3.toInt 40 0).toInt = -1 ∨ (stA (FdC M 1) v2.toInt v3.toInt 40 0).toInt = v1.toInt) → Wp (f_X9_stone_L54 M v1 v2 v3 v4) (fun q => (q.1 = 0 ∨ q.1 = 1) ∧ (∀ a i, ¬ (a = 2 ∨ a = 3 ∨ a = 4 ∨ a = 5 ∨ a = 6) → q.2 a i = M a i) ∧ (StP (FdC M 1) (FdC q.2 1) q.1 v1 v2 v3 v4)) := by
            intro h54
            unfold f_X9_stone_L54
            refine wp_bind2 (o8_X2_lay (Or.inl rfl) M v1 v2 v3 v4 (nI 0)) (fun M_4 he64 hq64 => ?_)
            obtain ⟨hg_M_4, hly_64⟩ := hq64
            replace hly_64 : 0 ≤ v1.toInt → v1.toInt < 40 → FdC M_4 1 = lyF (FdC M 1) (ix v1) v2 v3 v4 (vp_nar .boolean (nI 0)) := hly_64
            have := t_lit 0
            replace hg_M_4 : ∀ a i, ¬ (a = 2 ∨ a = 3 ∨ a = 4 ∨ a = 5 ∨ a = 6) → M_4 a i = M a i := by exact fun a i q0 => hg_M_4 a i (by first | decide | (rcases hc0 with h | h <;> rw [h] <;> simp; done) | (rcases hb0 with h | h | h <;> rw [h] <;> simp; done) | (simp; done) | omega)
            exact wp_some ⟨b01_1, (fun a i q0 => ((hg_M_4 a i (fun z8 => q0 ((fun z9 => Or.elim z9 (fun h9 => Or.inl h9) (fun z9 => Or.elim z9 (fun h9 => Or.inr (Or.inl h9)) (fun z9 => Or.elim z9 (fun h9 => Or.inr (Or.inr (Or.inl h9))) (fun z9 => Or.elim z9 (fun h9 => Or.inr (Or.inr (Or.inr (Or.inl h9)))) (fun h9 => Or.inr (Or.inr (Or.inr (Or.inr (h9))))))))) z8))).trans rfl)), (op_y ⟨hr_1.mp c4, (hr_9.mp c12).1, (hr_9.mp c12).2, ⟨by omega, by omega⟩, h54⟩ (by show FdC M_4 1 = _; rw [hly_64 (hr_1.mp c4).1 (hr_1.mp c4).2, show vp_nar .boolean (nI 0) = 0 from (by decide)]) rfl)⟩
          refine wp_ite (fun c43 => ?_) (fun c43 => ?_)
          · exact j54 (Or.inl (by rw [← hsa_35]; exact c43))
          · refine wp_ite (fun c49 => ?_) (fun c49 => ?_)
            · exact j54 (Or.inr (by rw [← hsa_35]; exact c49))
            · exact wp_some ⟨b01_0, (fun _ _ _ => rfl), (op_n (fun z => z.2.2.2.2.elim (fun q => c43 (by rw [hsa_35]; exact q)) (fun q => c49 (by rw [hsa_35]; exact q))) rfl rfl)⟩
        · exact wp_some ⟨b01_0, (fun _ _ _ => rfl), (op_n (fun z => absurd z.2.2.2.1 (by omega)) rfl rfl)⟩
theorem o9_X9_take (M : Mem) (v1 : Int32) : Wp (f_X9_take M v1) (fun q => (q.1 = 0 ∨ q.1 = 1) ∧ (∀ a i, ¬ (a = 5) → q.2 a i = M a i) ∧ (TkP (FdC M 1) (FdC q.2 1) q.1 v1)) := by
  refine wp_bind2 (o8_X2_isTold (Or.inl rfl) M v1) (fun r_1 he5 hq5 => ?_)
  obtain ⟨hz_r_1, hr_5, htd_5⟩ := hq5
  replace hr_5 : ¬ r_1.toInt = 0 → 0 ≤ v1.toInt ∧ v1.toInt < 40 := hr_5
  replace htd_5 : TdP r_1.toInt (FdC M 1) v1 := htd_5
  refine wp_ite (fun c8 => ?_) (fun c8 => ?_)
  · exact wp_some ⟨b01_0, (fun _ _ _ => rfl), (op_n (td_n htd_5 c8) rfl rfl)⟩
  · refine wp_gd (by omega) ?_
    refine wp_bnd (fun M_2 eM_2 => ?_)
    exact wp_some ⟨b01_1, (fun a i q0 => ((congrFun (congrFun eM_2 a) i).trans ((mset_ne (fun h9 => q0 ((h9).1))).trans rfl))), (op_y (td_y htd_5 c8) (fdc_tk (ix40 (td_y htd_5 c8).1.1 (td_y htd_5 c8).1.2) eM_2) rfl)⟩
theorem o9_X9_under (M : Mem) (v1 : Int32) (v2 : Int32) (hb2 : v2 = 0 ∨ v2 = 1) : Wp (f_X9_under M v1 v2) (fun q => (q.1 = 0 ∨ q.1 = 1) ∧ (∀ a i, ¬ (a = 6) → q.2 a i = M a i) ∧ (UnP (FdC M 1) (FdC q.2 1) q.1 v1 v2)) := by
  refine wp_bind2 (o8_X2_isTold (Or.inl rfl) M v1) (fun r_1 he5 hq5 => ?_)
  obtain ⟨hz_r_1, hr_5, htd_5⟩ := hq5
  replace hr_5 : ¬ r_1.toInt = 0 → 0 ≤ v1.toInt ∧ v1.toInt < 40 := hr_5
  replace htd_5 : TdP r_1.toInt (FdC M 1) v1 := htd_5
  refine wp_ite (fun c8 => ?_) (fun c8 => ?_)
  · exact wp_some ⟨b01_0, (fun _ _ _ => rfl), (op_n (td_n htd_5 c8) rfl rfl)⟩
  · refine wp_gd (by omega) ?_
    refine wp_bnd (fun M_2 eM_2 => ?_)
    exact wp_some ⟨b01_1, (fun a i q0 => ((congrFun (congrFun eM_2 a) i).trans ((mset_ne (fun h9 => q0 ((h9).1))).trans rfl))), (op_y (td_y htd_5 c8) (fdc_un (ix40 (td_y htd_5 c8).1.1 (td_y htd_5 c8).1.2) (td_y htd_5 c8).2 hb2 eM_2) rfl)⟩
theorem o9_X9_seed (M : Mem) (v1 : Int32) : Wp (f_X9_seed M v1) (fun q => (q.1 = 0 ∨ q.1 = 1) ∧ (∀ a i, ¬ ((a = 1 ∧ i = 6)) → q.2 a i = M a i) ∧ (SdP (FdC M 1) (FdC q.2 1) q.1 v1)) := by
  refine wp_ite (fun c1 => ?_) (fun c1 => ?_)
  · exact wp_some ⟨b01_0, (fun _ _ _ => rfl), (op_n (by omega) rfl rfl)⟩
  · refine wp_ite (fun c8 => ?_) (fun c8 => ?_)
    · refine wp_bnd (fun M_1 eM_1 => ?_)
      exact wp_some ⟨b01_1, (fun a i q0 => ((congrFun (congrFun eM_1 a) i).trans ((mset_ne (fun h9 => q0 (h9))).trans rfl))), (op_y (by omega) (fdc_sd eM_1) rfl)⟩
    · exact wp_some ⟨b01_0, (fun _ _ _ => rfl), (op_n (by omega) rfl rfl)⟩
set_option maxHeartbeats 2000000 in
theorem o9_X2_copyStones {b : Nat} (hb : isF b) {b2 : Nat} (hb2 : isF b2) (M : Mem) (hbb : b2 + 6 ≤ b ∨ b + 6 ≤ b2) : Wp (f_X2_copyStones b b2 M) (fun q => (∀ a i, ¬ (a = (b + 1) ∨ a = (b + 2) ∨ a = (b + 3) ∨ a = (b + 4) ∨ a = (b + 5)) → q a i = M a i) ∧ (CpR q M b b2 40)) := by
  have hb0 : b = 1 ∨ b = 7 ∨ b = 13 := hb
  have hb20 : b2 = 1 ∨ b2 = 7 ∨ b2 = 13 := hb2
  refine wp_lp2 (fun M2 y2_2 => (0 ≤ y2_2.toInt) ∧ (∀ a i, ¬ (a = (b + 1) ∨ a = (b + 2) ∨ a = (b + 3) ∨ a = (b + 4) ∨ a = (b + 5)) → M2 a i = M a i) ∧ (CpR M2 M b b2 (ix y2_2))) (fun M2 y2_2 => (40 - y2_2.toInt).toNat) (fun ag2 M2 y2_2 hI2 ih2 => ?_) FU M (nI 0) ⟨(by have f0 := t_lit 0; omega), (fun _ _ _ => rfl), cpr_0⟩ (fu_lt (by have f0 := t_lit 0; omega))
  obtain ⟨hi2, hf_M2, h2⟩ := hI2
  refine wp_ite (fun c5 => ?_) (fun c5 => ?_)
  · exact wp_some ⟨(fun a i q0 => ((hf_M2 a i (fun z8 => q0 ((fun z9 => Or.elim z9 (fun h9 => Or.inl h9) (fun z9 => Or.elim z9 (fun h9 => Or.inr (Or.inl h9)) (fun z9 => Or.elim z9 (fun h9 => Or.inr (Or.inr (Or.inl h9))) (fun z9 => Or.elim z9 (fun h9 => Or.inr (Or.inr (Or.inr (Or.inl h9)))) (fun h9 => Or.inr (Or.inr (Or.inr (Or.inr (h9))))))))) z8))).trans rfl)), (fun j hj => h2 j (by have := ge40 hi2 c5; omega))⟩
  · have u := up40 hi2 c5
    refine wp_gd (by omega) ?_
    refine wp_gd (by omega) ?_
    refine wp_bnd (fun M_1 eM_1 => ?_)
    refine wp_gd (by omega) ?_
    refine wp_gd (by omega) ?_
    refine wp_bnd (fun M_2 eM_2 => ?_)
    refine wp_gd (by omega) ?_
    refine wp_gd (by omega) ?_
    refine wp_bnd (fun M_3 eM_3 => ?_)
    refine wp_gd (by omega) ?_
    refine wp_gd (by omega) ?_
    refine wp_bnd (fun M_4 eM_4 => ?_)
    refine wp_gd (by omega) ?_
    refine wp_gd (by omega) ?_
    refine wp_bnd (fun M_5 eM_5 => ?_)
    exact ih2 M_5 (y2_2 + (nI 1)) ⟨(by have f0 := t_lit 1; have f1 := t_add y2_2 (nI 1); omega), (fun a i q0 => ((congrFun (congrFun eM_5 a) i).trans ((mset_ne (fun h9 => q0 (Or.inr (Or.inr (Or.inr (Or.inr ((h9).1))))))).trans ((congrFun (congrFun eM_4 a) i).trans ((mset_ne (fun h9 => q0 (Or.inr (Or.inr (Or.inr (Or.inl (h9).1)))))).trans ((congrFun (congrFun eM_3 a) i).trans ((mset_ne (fun h9 => q0 (Or.inr (Or.inr (Or.inl (h9).1))))).trans ((congrFun (congrFun eM_2 a) i).trans ((mset_ne (fun h9 => q0 (Or.inr (Or.inl (h9).1)))).trans ((congrFun (congrFun eM_1 a) i).trans ((mset_ne (fun h9 => q0 (Or.inl (h9).1))).trans ((hf_M2 a i (fun z8 => q0 ((fun z9 => Or.elim z9 (fun h9 => Or.inl h9) (fun z9 => Or.elim z9 (fun h9 => Or.inr (Or.inl h9)) (fun z9 => Or.elim z9 (fun h9 => Or.inr (Or.inr (Or.inl h9))) (fun z9 => Or.elim z9 (fun h9 => Or.inr (Or.inr (Or.inr (Or.inl h9)))) (fun h9 => Or.inr (Or.inr (Or.inr (Or.inr (h9))))))))) z8))).trans rfl)))))))))))), (by rw [u.1]; exact cpr_1 h2 hbb (fun a a1 a2 => hf_M2 (b2 + a) _ (by first | decide | (rcases hc0 with h | h <;> rw [h] <;> simp; done) | (rcases hb0 with h | h | h <;> rw [h] <;> simp; done) | (simp; done) | omega)) eM_1 eM_2 eM_3 eM_4 eM_5)⟩ (by have f0 := t_lit 1; have f1 := t_add y2_2 (nI 1); omega)
theorem o9_X2_copyAll {b : Nat} (hb : isF b) {b2 : Nat} (hb2 : isF b2) (M : Mem) (hbb : b2 + 6 ≤ b ∨ b + 6 ≤ b2) : Wp (f_X2_copyAll b b2 M) (fun q => (∀ a i, ¬ (a = (b + 1) ∨ a = (b + 2) ∨ a = (b + 3) ∨ a = (b + 4) ∨ a = (b + 5) ∨ (a = b ∧ i = 5) ∨ (a = b ∧ i = 6)) → q a i = M a i) ∧ (TdB (FdC M b2) → UdB (FdC M b2) → FdC q b = FdC M b2)) := by
  have hb0 : b = 1 ∨ b = 7 ∨ b = 13 := hb
  have hb20 : b2 = 1 ∨ b2 = 7 ∨ b2 = 13 := hb2
  refine wp_bind2 (o9_X2_copyStones hb hb2 M hbb) (fun M_1 he2 hq2 => ?_)
  obtain ⟨hg_M_1, hcr_2⟩ := hq2
  replace hcr_2 : CpR M_1 M b b2 40 := hcr_2
  replace hg_M_1 : ∀ a i, ¬ (a = (b + 1) ∨ a = (b + 2) ∨ a = (b + 3) ∨ a = (b + 4) ∨ a = (b + 5)) → M_1 a i = M a i := by exact fun a i q0 => hg_M_1 a i (by first | decide | (rcases hc0 with h | h <;> rw [h] <;> simp; done) | (rcases hb0 with h | h | h <;> rw [h] <;> simp; done) | (simp; done) | omega)
  refine wp_bnd (fun M_2 eM_2 => ?_)
  refine wp_bnd (fun M_3 eM_3 => ?_)
  exact wp_some ⟨(fun a i q0 => ((congrFun (congrFun eM_3 a) i).trans ((mset_ne (fun h9 => q0 (Or.inr (Or.inr (Or.inr (Or.inr (Or.inr (Or.inr (h9))))))))).trans ((congrFun (congrFun eM_2 a) i).trans ((mset_ne (fun h9 => q0 (Or.inr (Or.inr (Or.inr (Or.inr (Or.inr (Or.inl h9)))))))).trans ((hg_M_1 a i (fun z8 => q0 ((fun z9 => Or.elim z9 (fun h9 => Or.inl h9) (fun z9 => Or.elim z9 (fun h9 => Or.inr (Or.inl h9)) (fun z9 => Or.elim z9 (fun h9 => Or.inr (Or.inr (Or.inl h9))) (fun z9 => Or.elim z9 (fun h9 => Or.inr (Or.inr (Or.inr (Or.inl h9)))) (fun h9 => Or.inr (Or.inr (Or.inr (Or.inr (Or.inl h9))))))))) z8))).trans rfl)))))), (fun hB hU => by show FdC M_3 b = _; have z := fdc_cp (N := M_1) hcr_2 hB hU (hg_M_1 b 5 (by first | decide | (rcases hc0 with h | h <;> rw [h] <;> simp; done) | (rcases hb0 with h | h | h <;> rw [h] <;> simp; done) | (simp; done) | omega)) (hg_M_1 b 6 (by first | decide | (rcases hc0 with h | h <;> rw [h] <;> simp; done) | (rcases hb0 with h | h | h <;> rw [h] <;> simp; done) | (simp; done) | omega)); have z2 : FdC M_2 b = mset (FdC M_1 b) 0 5 (M_1 b2 5) := (by rw [eM_2, fdc_nite]); have z3 : FdC M_3 b = mset (FdC M_2 b) 0 6 (M_2 b2 6) := (by rw [eM_3, fdc_dr]); rw [z3, z2, z]; exact cp_all (fun i h5 h6 => (fdc_0o h5 h6).trans (fdc_0o h5 h6).symm) (by rw [fdc_n]; exact hg_M_1 b2 5 (by first | decide | (rcases hc0 with h | h <;> rw [h] <;> simp; done) | (rcases hb0 with h | h | h <;> rw [h] <;> simp; done) | (simp; done) | omega)) (by rw [fdc_6, eM_2, mset_ne (by first | exact nz1 (by decide) | exact nz2 (by decide) | exact nz1 (nzA hc0 (by decide)) | exact nz1 (nzE (by decide)) | exact nz1 (nzB hc0 (by decide)) | exact nz1 (nzC hc0 (by decide)) | exact nz1 (nzD hc0 (by decide)) | exact nz1 (nzF (by decide)) | exact nz1 (nzG (by decide)) | omega)]; exact hg_M_1 b2 6 (by first | decide | (rcases hc0 with h | h <;> rw [h] <;> simp; done) | (rcases hb0 with h | h | h <;> rw [h] <;> simp; done) | (simp; done) | omega)))⟩
theorem o9_X9_keep (M : Mem) (hGd : GdF (FdC M 1)) : Wp (f_X9_keep M) (fun q => (∀ a i, ¬ ((a = 0 ∧ i = 12) ∨ (a = 7 ∧ i = 5) ∨ (a = 7 ∧ i = 6) ∨ a = 8 ∨ a = 9 ∨ a = 10 ∨ a = 11 ∨ a = 12) → q.2 a i = M a i) ∧ (q.2 0 12 = 1) ∧ (FdC q.2 7 = FdC M 1 ∧ FdC q.2 1 = FdC M 1)) := by
  refine wp_bind2 (o9_X2_copyAll (Or.inr (Or.inl rfl)) (Or.inl rfl) M (by omega)) (fun M_1 he8 hq8 => ?_)
  obtain ⟨hg_M_1, hcp_8⟩ := hq8
  replace hcp_8 : TdB (FdC M 1) → UdB (FdC M 1) → FdC M_1 7 = FdC M 1 := hcp_8
  replace hg_M_1 : ∀ a i, ¬ ((a = 7 ∧ i = 5) ∨ (a = 7 ∧ i = 6) ∨ a = 8 ∨ a = 9 ∨ a = 10 ∨ a = 11 ∨ a = 12) → M_1 a i = M a i := by exact fun a i q0 => hg_M_1 a i (by first | decide | (rcases hc0 with h | h <;> rw [h] <;> simp; done) | (rcases hb0 with h | h | h <;> rw [h] <;> simp; done) | (simp; done) | omega)
  refine wp_bnd (fun M_2 eM_2 => ?_)
  exact wp_some ⟨(fun a i q0 => ((congrFun (congrFun eM_2 a) i).trans ((mset_ne (fun h9 => q0 (Or.inl h9))).trans ((hg_M_1 a i (fun z8 => q0 ((fun z9 => Or.elim z9 (fun h9 => Or.inr (Or.inl h9)) (fun z9 => Or.elim z9 (fun h9 => Or.inr (Or.inr (Or.inl h9))) (fun z9 => Or.elim z9 (fun h9 => Or.inr (Or.inr (Or.inr (Or.inl h9)))) (fun z9 => Or.elim z9 (fun h9 => Or.inr (Or.inr (Or.inr (Or.inr (Or.inl h9))))) (fun z9 => Or.elim z9 (fun h9 => Or.inr (Or.inr (Or.inr (Or.inr (Or.inr (Or.inl h9)))))) (fun z9 => Or.elim z9 (fun h9 => Or.inr (Or.inr (Or.inr (Or.inr (Or.inr (Or.inr (Or.inl h9))))))) (fun h9 => Or.inr (Or.inr (Or.inr (Or.inr (Or.inr (Or.inr (Or.inr (h9)))))))))))))) z8))).trans rfl)))), (by show M_2 0 12 = 1; rw [eM_2, mset_eq]; decide), ⟨(fdc_fr (fun a i h1 h2 => by show M_2 a i = M_1 a i; rw [eM_2, mset_ne (by first | exact nz1 (by decide) | exact nz2 (by decide) | exact nz1 (nzA hc0 (by decide)) | exact nz1 (nzE (by decide)) | exact nz1 (nzB hc0 (by decide)) | exact nz1 (nzC hc0 (by decide)) | exact nz1 (nzD hc0 (by decide)) | exact nz1 (nzF (by decide)) | exact nz1 (nzG (by decide)) | omega)])).trans (hcp_8 hGd.1.1 hGd.1.2.1), fdc_fr (fun a i h1 h2 => by show M_2 a i = M a i; rw [eM_2, mset_ne (by first | exact nz1 (by decide) | exact nz2 (by decide) | exact nz1 (nzA hc0 (by decide)) | exact nz1 (nzE (by decide)) | exact nz1 (nzB hc0 (by decide)) | exact nz1 (nzC hc0 (by decide)) | exact nz1 (nzD hc0 (by decide)) | exact nz1 (nzF (by decide)) | exact nz1 (nzG (by decide)) | omega)]; exact hg_M_1 a i (by first | decide | (rcases hc0 with h | h <;> rw [h] <;> simp; done) | (rcases hb0 with h | h | h <;> rw [h] <;> simp; done) | (simp; done) | omega))⟩⟩
theorem o9_X9_undo (M : Mem) (hK : M 0 12 = 0 ∨ M 0 12 = 1) (hGk : ¬ (M 0 12).toInt = 0 → GdF (FdC M 7)) : Wp (f_X9_undo M) (fun q => (q.1 = 0 ∨ q.1 = 1) ∧ (∀ a i, ¬ ((a = 1 ∧ i = 5) ∨ (a = 1 ∧ i = 6) ∨ a = 2 ∨ a = 3 ∨ a = 4 ∨ a = 5 ∨ a = 6) → q.2 a i = M a i) ∧ (q.1 = M 0 12) ∧ (FdC q.2 7 = FdC M 7 ∧ ((M 0 12).toInt = 0 → FdC q.2 1 = FdC M 1) ∧ (¬ (M 0 12).toInt = 0 → FdC q.2 1 = FdC M 7))) := by
  refine wp_ite (fun c4 => ?_) (fun c4 => ?_)
  · refine wp_gb hK ?_
    exact wp_some ⟨hK, (fun _ _ _ => rfl), rfl, ⟨rfl, fun _ => rfl, fun z => absurd c4 z⟩⟩
  · refine wp_bind2 (o9_X2_copyAll (Or.inl rfl) (Or.inr (Or.inl rfl)) M (by omega)) (fun M_1 he15 hq15 => ?_)
    obtain ⟨hg_M_1, hcp_15⟩ := hq15
    replace hcp_15 : TdB (FdC M 7) → UdB (FdC M 7) → FdC M_1 1 = FdC M 7 := hcp_15
    replace hg_M_1 : ∀ a i, ¬ ((a = 1 ∧ i = 5) ∨ (a = 1 ∧ i = 6) ∨ a = 2 ∨ a = 3 ∨ a = 4 ∨ a = 5 ∨ a = 6) → M_1 a i = M a i := by exact fun a i q0 => hg_M_1 a i (by first | decide | (rcases hc0 with h | h <;> rw [h] <;> simp; done) | (rcases hb0 with h | h | h <;> rw [h] <;> simp; done) | (simp; done) | omega)
    refine wp_gb (by rw [hg_M_1 0 12 (by first | decide | (rcases hc0 with h | h <;> rw [h] <;> simp; done) | (rcases hb0 with h | h | h <;> rw [h] <;> simp; done) | (simp; done) | omega)]; exact hK) ?_
    exact wp_some ⟨(by rw [hg_M_1 0 12 (by first | decide | (rcases hc0 with h | h <;> rw [h] <;> simp; done) | (rcases hb0 with h | h | h <;> rw [h] <;> simp; done) | (simp; done) | omega)]; exact hK), (fun a i q0 => ((hg_M_1 a i (fun z8 => q0 ((fun z9 => Or.elim z9 (fun h9 => Or.inl h9) (fun z9 => Or.elim z9 (fun h9 => Or.inr (Or.inl h9)) (fun z9 => Or.elim z9 (fun h9 => Or.inr (Or.inr (Or.inl h9))) (fun z9 => Or.elim z9 (fun h9 => Or.inr (Or.inr (Or.inr (Or.inl h9)))) (fun z9 => Or.elim z9 (fun h9 => Or.inr (Or.inr (Or.inr (Or.inr (Or.inl h9))))) (fun z9 => Or.elim z9 (fun h9 => Or.inr (Or.inr (Or.inr (Or.inr (Or.inr (Or.inl h9)))))) (fun h9 => Or.inr (Or.inr (Or.inr (Or.inr (Or.inr (Or.inr (h9))))))))))))) z8))).trans rfl)), (hg_M_1 0 12 (by first | decide | (rcases hc0 with h | h <;> rw [h] <;> simp; done) | (rcases hb0 with h | h | h <;> rw [h] <;> simp; done) | (simp; done) | omega)), ⟨fdc_fr (fun a i h1 h2 => hg_M_1 a i (by first | decide | (rcases hc0 with h | h <;> rw [h] <;> simp; done) | (rcases hb0 with h | h | h <;> rw [h] <;> simp; done) | (simp; done) | omega)), fun z => absurd z c4, fun z => hcp_15 (hGk z).1.1 (hGk z).1.2.1⟩⟩
theorem o9_X9_nights (M : Mem) (v1 : Int32) (hL10 : (M 0 10).toInt = 44 ∨ (M 0 10).toInt = 52) (R : Nat) (F : Nat → Int × Int) (tb : Tbl) (hLc : ∀ c : Nat, (M 0 10).toInt = (c : Int) → LwC M c R F tb ∧ N5P M c F) (hQ : LwQ R F tb) (hGd : GdF (FdC M 1)) : Wp (f_X9_nights M v1) (fun q => (∀ a i, ¬ ((a = 1 ∧ i = 5) ∨ (a = 1 ∧ i = 6) ∨ a = 2 ∨ a = 3 ∨ a = 6 ∨ (a = 21 ∧ i = 1) ∨ (a = 21 ∧ i = 2) ∨ a = 22 ∨ a = 47 ∨ a = 55) → q.2 a i = M a i) ∧ (NgP R F tb (FdC M 1) (FdC q.2 1) q.1 v1)) := by
  refine wp_bind2 (o9_X9_isNights M v1) (fun r_1 he1 hq1 => ?_)
  obtain ⟨hz_r_1, hr_1⟩ := hq1
  replace hr_1 : ¬ r_1.toInt = 0 ↔ 1 ≤ v1.toInt ∧ v1.toInt ≤ 60 := hr_1
  refine wp_ite (fun c4 => ?_) (fun c4 => ?_)
  · exact wp_some ⟨(fun _ _ _ => rfl), (op_n (fun z => hr_1.mpr z c4) rfl rfl)⟩
  · refine wp_rl hL10 (fun c_2 hc_2 ecc_2 => ?_)
    have hc_20 : c_2 = 44 ∨ c_2 = 52 := hc_2
    refine wp_bind2 (o8_X5_pass (Or.inl rfl) hc_2 M v1 R F tb (hLc c_2 ecc_2).1 hQ (hLc c_2 ecc_2).2 hGd) (fun M_3 he22 hq22 => ?_)
    obtain ⟨hg_M_3, hps_22⟩ := hq22
    replace hps_22 : ngs R F tb v1.toInt.toNat (FdC M 1, nI 0, nI 0) = (FdC M_3 1, M_3 21 1, M_3 21 2) := hps_22
    replace hg_M_3 : ∀ a i, ¬ ((a = 1 ∧ i = 5) ∨ (a = 1 ∧ i = 6) ∨ a = 2 ∨ a = 3 ∨ a = 6 ∨ (a = 21 ∧ i = 1) ∨ (a = 21 ∧ i = 2) ∨ a = 22 ∨ a = 47 ∨ a = 55) → M_3 a i = M a i := by rcases hc_20 with e9 | e9 <;> subst e9 <;> exact fun a i q0 => hg_M_3 a i (by first | decide | (rcases hc0 with h | h <;> rw [h] <;> simp; done) | (rcases hb0 with h | h | h <;> rw [h] <;> simp; done) | (simp; done) | omega)
    exact wp_some ⟨(fun a i q0 => ((hg_M_3 a i (fun z8 => q0 ((fun z9 => Or.elim z9 (fun h9 => Or.inl h9) (fun z9 => Or.elim z9 (fun h9 => Or.inr (Or.inl h9)) (fun z9 => Or.elim z9 (fun h9 => Or.inr (Or.inr (Or.inl h9))) (fun z9 => Or.elim z9 (fun h9 => Or.inr (Or.inr (Or.inr (Or.inl h9)))) (fun z9 => Or.elim z9 (fun h9 => Or.inr (Or.inr (Or.inr (Or.inr (Or.inl h9))))) (fun z9 => Or.elim z9 (fun h9 => Or.inr (Or.inr (Or.inr (Or.inr (Or.inr (Or.inl h9)))))) (fun z9 => Or.elim z9 (fun h9 => Or.inr (Or.inr (Or.inr (Or.inr (Or.inr (Or.inr (Or.inl h9))))))) (fun z9 => Or.elim z9 (fun h9 => Or.inr (Or.inr (Or.inr (Or.inr (Or.inr (Or.inr (Or.inr (Or.inl h9)))))))) (fun z9 => Or.elim z9 (fun h9 => Or.inr (Or.inr (Or.inr (Or.inr (Or.inr (Or.inr (Or.inr (Or.inr (Or.inl h9))))))))) (fun h9 => Or.inr (Or.inr (Or.inr (Or.inr (Or.inr (Or.inr (Or.inr (Or.inr (Or.inr (h9))))))))))))))))))) z8))).trans rfl)), (op_y (hr_1.mp c4) (congrArg (fun t : Mem × Int32 × Int32 => t.1) hps_22).symm (congrArg (fun t : Mem × Int32 × Int32 => t.2.1) hps_22).symm)⟩
theorem o9_X9_at (M : Mem) (v1 : Int32) (v2 : Int32) : Wp (f_X9_at M v1 v2) (fun q => (AtP (FdC M 1) q v1 v2)) := by
  refine wp_bind2 (o9_X9_isPlace M v1 v2) (fun r_1 he2 hq2 => ?_)
  obtain ⟨hz_r_1, hr_2⟩ := hq2
  replace hr_2 : ¬ r_1.toInt = 0 ↔ (0 ≤ v1.toInt ∧ v1.toInt ≤ 39) ∧ 1 ≤ v2.toInt ∧ v2.toInt ≤ 20 := hr_2
  refine wp_ite (fun c5 => ?_) (fun c5 => ?_)
  · exact wp_some (op_n (fun z => hr_2.mpr z c5) rfl rfl)
  · refine wp_bind2 (o8_X2_stoneAt (Or.inl rfl) M v1 v2) (fun r_2 he16 hq16 => ?_)
    have hsa_16 := hq16
    replace hsa_16 : r_2 = stA (FdC M 1) v1.toInt v2.toInt 40 0 := hsa_16
    refine wp_ite (fun c22 => ?_) (fun c22 => ?_)
    · exact wp_some (op_y (hr_2.mp c5) rfl (by rw [if_pos (by rw [← hsa_16]; exact c22)]))
    · exact wp_some (op_y (hr_2.mp c5) rfl (by rw [if_neg (by rw [← hsa_16]; exact c22)]; exact hsa_16))
theorem o9_X9_stoneIs (M : Mem) (v1 : Int32) (v2 : Int32) (hGd : GdF (FdC M 1)) : Wp (f_X9_stoneIs M v1 v2) (fun q => (SiP (FdC M 1) q v1 v2)) := by
  refine wp_bind2 (o8_X2_isTold (Or.inl rfl) M v1) (fun r_1 he5 hq5 => ?_)
  obtain ⟨hz_r_1, hr_5, htd_5⟩ := hq5
  replace hr_5 : ¬ r_1.toInt = 0 → 0 ≤ v1.toInt ∧ v1.toInt < 40 := hr_5
  replace htd_5 : TdP r_1.toInt (FdC M 1) v1 := htd_5
  refine wp_ite (fun c8 => ?_) (fun c8 => ?_)
  · exact wp_some (op_n (td_n htd_5 c8) rfl rfl)
  · refine wp_ite (fun c14 => ?_) (fun c14 => ?_)
    · refine wp_gd (by omega) ?_
      exact wp_some (op_y (td_y htd_5 c8) rfl (by rw [si_0 (by omega)]; exact (fdc_at (a := 1) (ix40 (td_y htd_5 c8).1.1 (td_y htd_5 c8).1.2) (by omega) (td_y htd_5 c8).2).symm))
    · refine wp_ite (fun c1 => ?_) (fun c1 => ?_)
      · refine wp_gd (by omega) ?_
        exact wp_some (op_y (td_y htd_5 c8) rfl (by rw [si_1 (by omega)]; exact (fdc_at (a := 2) (ix40 (td_y htd_5 c8).1.1 (td_y htd_5 c8).1.2) (by omega) (td_y htd_5 c8).2).symm))
      · refine wp_ite (fun c2 => ?_) (fun c2 => ?_)
        · refine wp_gd (by omega) ?_
          exact wp_some (op_y (td_y htd_5 c8) rfl (by rw [si_2 (by omega)]; exact (fdc_at (a := 3) (ix40 (td_y htd_5 c8).1.1 (td_y htd_5 c8).1.2) (by omega) (td_y htd_5 c8).2).symm))
        · refine wp_ite (fun c3 => ?_) (fun c3 => ?_)
          · refine wp_gd (by omega) ?_
            refine wp_ite (fun c87 => ?_) (fun c87 => ?_)
            · exact wp_some (op_y (td_y htd_5 c8) rfl (by rw [si_3 (by omega), (fdc_at (a := 5) (ix40 (td_y htd_5 c8).1.1 (td_y htd_5 c8).1.2) (by omega) (td_y htd_5 c8).2)]; exact b01n c87))
            · exact wp_some (op_y (td_y htd_5 c8) rfl (by have z := hGd.1.2.1 (ix v1) (ix40 (td_y htd_5 c8).1.1 (td_y htd_5 c8).1.2); rw [(fdc_at (a := 5) (ix40 (td_y htd_5 c8).1.1 (td_y htd_5 c8).1.2) (by omega) (td_y htd_5 c8).2)] at z; rw [si_3 (by omega), (fdc_at (a := 5) (ix40 (td_y htd_5 c8).1.1 (td_y htd_5 c8).1.2) (by omega) (td_y htd_5 c8).2)]; exact b01y z c87))
          · refine wp_ite (fun c4 => ?_) (fun c4 => ?_)
            · refine wp_bind2 (o8_X2_countClose (Or.inl rfl) M v1 (td_y htd_5 c8).1 (td_y htd_5 c8).2) (fun r_2 he101 hq101 => ?_)
              have hcl_101 := hq101
              replace hcl_101 : r_2 = clF (FdC M 1) (ix v1) 40 := hcl_101
              exact wp_some (op_y (td_y htd_5 c8) rfl (by rw [si_4 (by omega)]; exact hcl_101))
            · exact wp_some (op_y (td_y htd_5 c8) rfl (by rw [si_5 (by omega)]))
theorem o9_X2_countTold {b : Nat} (hb : isF b) (M : Mem) (hB : TdB (FdC M b)) : Wp (f_X2_countTold b M) (fun q => (q = smT 4 (FdC M b) 40)) := by
  have hb0 : b = 1 ∨ b = 7 ∨ b = 13 := hb
  refine wp_lp2 (fun y1_4 y2_4 => (0 ≤ y2_4.toInt) ∧ (y1_4 = smT 4 (FdC M b) (ix y2_4)) ∧ (y2_4.toInt ≤ 40)) (fun y1_4 y2_4 => (40 - y2_4.toInt).toNat) (fun ag4 y1_4 y2_4 hI4 ih4 => ?_) FU (nI 0) (nI 0) ⟨(by have f0 := t_lit 0; omega), (by rw [show ix (nI 0) = 0 from (by decide)]; rfl), (by decide)⟩ (fu_lt (by have f0 := t_lit 0; omega))
  obtain ⟨hi4, h4, h40⟩ := hI4
  refine wp_ite (fun c7 => ?_) (fun c7 => ?_)
  · exact wp_some (by show y1_4 = _; rw [h4, e40 hi4 c7 h40])
  · have u := up40 hi4 c7
    refine wp_gd (by omega) ?_
    refine wp_ite (fun c17 => ?_) (fun c17 => ?_)
    · exact ih4 (y1_4 + (nI 0)) (y2_4 + (nI 1)) ⟨(by have f0 := t_lit 1; have f1 := t_add y2_4 (nI 1); omega), (by rw [u.1]; exact sm_n (by rw [fdc_4 u.2.1]; exact c17) h4), (le40 hi4 c7)⟩ (by have f0 := t_lit 1; have f1 := t_add y2_4 (nI 1); omega)
    · have ht : ¬ (FdC M b 4 (ix y2_4)).toInt = 0 := by
        rw [fdc_4 u.2.1]
        exact c17
      exact ih4 (y1_4 + (nI 1)) (y2_4 + (nI 1)) ⟨(by have f0 := t_lit 1; have f1 := t_add y2_4 (nI 1); omega), (by rw [u.1]; exact sm_y ht h4 (b01y (hB _ u.2.1) ht)), (le40 hi4 c7)⟩ (by have f0 := t_lit 1; have f1 := t_add y2_4 (nI 1); omega)
theorem o9_X2_countSunk {b : Nat} (hb : isF b) (M : Mem) (hU : UdB (FdC M b)) : Wp (f_X2_countSunk b M) (fun q => (q = smT 5 (FdC M b) 40)) := by
  have hb0 : b = 1 ∨ b = 7 ∨ b = 13 := hb
  refine wp_lp2 (fun y1_4 y2_4 => (0 ≤ y2_4.toInt) ∧ (y1_4 = smT 5 (FdC M b) (ix y2_4)) ∧ (y2_4.toInt ≤ 40)) (fun y1_4 y2_4 => (40 - y2_4.toInt).toNat) (fun ag4 y1_4 y2_4 hI4 ih4 => ?_) FU (nI 0) (nI 0) ⟨(by have f0 := t_lit 0; omega), (by rw [show ix (nI 0) = 0 from (by decide)]; rfl), (by decide)⟩ (fu_lt (by have f0 := t_lit 0; omega))
  obtain ⟨hi4, h4, h40⟩ := hI4
  refine wp_ite (fun c7 => ?_) (fun c7 => ?_)
  · exact wp_some (by show y1_4 = _; rw [h4, e40 hi4 c7 h40])
  · have u := up40 hi4 c7
    refine wp_gd (by omega) ?_
    refine wp_ite (fun c17 => ?_) (fun c17 => ?_)
    · exact ih4 (y1_4 + (nI 0)) (y2_4 + (nI 1)) ⟨(by have f0 := t_lit 1; have f1 := t_add y2_4 (nI 1); omega), (by rw [u.1]; exact sm_n (by rw [fdc_4 u.2.1]; exact c17) h4), (le40 hi4 c7)⟩ (by have f0 := t_lit 1; have f1 := t_add y2_4 (nI 1); omega)
    · have ht : ¬ (FdC M b 4 (ix y2_4)).toInt = 0 := by
        rw [fdc_4 u.2.1]
        exact c17
      refine wp_gd (by omega) ?_
      refine wp_ite (fun c26 => ?_) (fun c26 => ?_)
      · exact ih4 (y1_4 + (nI 0)) (y2_4 + (nI 1)) ⟨(by have f0 := t_lit 1; have f1 := t_add y2_4 (nI 1); omega), (by rw [u.1]; exact sm_y ht h4 (b01n (by rw [fdc_at (a := 5) u.2.1 (by omega) ht]; exact c26))), (le40 hi4 c7)⟩ (by have f0 := t_lit 1; have f1 := t_add y2_4 (nI 1); omega)
      · exact ih4 (y1_4 + (nI 1)) (y2_4 + (nI 1)) ⟨(by have f0 := t_lit 1; have f1 := t_add y2_4 (nI 1); omega), (by rw [u.1]; exact sm_y ht h4 (b01y (hU _ u.2.1) (by rw [fdc_at (a := 5) u.2.1 (by omega) ht]; exact c26))), (le40 hi4 c7)⟩ (by have f0 := t_lit 1; have f1 := t_add y2_4 (nI 1); omega)
theorem o9_X2_sumOfX {b : Nat} (hb : isF b) (M : Mem) : Wp (f_X2_sumOfX b M) (fun q => (q = smT 1 (FdC M b) 40)) := by
  have hb0 : b = 1 ∨ b = 7 ∨ b = 13 := hb
  refine wp_lp2 (fun y1_4 y2_4 => (0 ≤ y2_4.toInt) ∧ (y1_4 = smT 1 (FdC M b) (ix y2_4)) ∧ (y2_4.toInt ≤ 40)) (fun y1_4 y2_4 => (40 - y2_4.toInt).toNat) (fun ag4 y1_4 y2_4 hI4 ih4 => ?_) FU (nI 0) (nI 0) ⟨(by have f0 := t_lit 0; omega), (by rw [show ix (nI 0) = 0 from (by decide)]; rfl), (by decide)⟩ (fu_lt (by have f0 := t_lit 0; omega))
  obtain ⟨hi4, h4, h40⟩ := hI4
  refine wp_ite (fun c7 => ?_) (fun c7 => ?_)
  · exact wp_some (by show y1_4 = _; rw [h4, e40 hi4 c7 h40])
  · have u := up40 hi4 c7
    refine wp_gd (by omega) ?_
    refine wp_ite (fun c17 => ?_) (fun c17 => ?_)
    · exact ih4 (y1_4 + (nI 0)) (y2_4 + (nI 1)) ⟨(by have f0 := t_lit 1; have f1 := t_add y2_4 (nI 1); omega), (by rw [u.1]; exact sm_n (by rw [fdc_4 u.2.1]; exact c17) h4), (le40 hi4 c7)⟩ (by have f0 := t_lit 1; have f1 := t_add y2_4 (nI 1); omega)
    · have ht : ¬ (FdC M b 4 (ix y2_4)).toInt = 0 := by
        rw [fdc_4 u.2.1]
        exact c17
      refine wp_gd (by omega) ?_
      refine wp_bnd (fun x_1 ex_1 => ?_)
      exact ih4 x_1 (y2_4 + (nI 1)) ⟨(by have f0 := t_lit 1; have f1 := t_add y2_4 (nI 1); omega), (by rw [u.1]; exact (by rw [ex_1]; exact sm_y ht h4 (fdc_at (a := 1) u.2.1 (by omega) ht).symm)), (le40 hi4 c7)⟩ (by have f0 := t_lit 1; have f1 := t_add y2_4 (nI 1); omega)
