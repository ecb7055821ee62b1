set_option maxHeartbeats 4000000 in
theorem oa_X9_tried (M : Mem) (v1 : Int32) (v2 : Int32) (hL10 : (M 0 10).toInt = 44 ∨ (M 0 10).toInt = 52) (R : Nat) (F : Nat → Int × Int) (tb : Tbl) (hLc : ∀ c : Nat, (M 0 10).toInt = (c : Int) → LwC M c R F tb ∧ N5P M c F) (hQ : LwQ R F tb) (hGd : GdF (FdC M 1)) : Wp (f_X9_tried M v1 v2) (fun q => (∀ a i, ¬ ((a = 13 ∧ i = 5) ∨ (a = 13 ∧ i = 6) ∨ a = 14 ∨ a = 15 ∨ a = 16 ∨ a = 17 ∨ a = 18 ∨ (a = 21 ∧ i = 1) ∨ (a = 21 ∧ i = 2) ∨ a = 22 ∨ a = 47 ∨ a = 55) → q.2 a i = M a i) ∧ (TrP R F tb (FdC M 1) q.1 v1 v2)) := by
  have j25 : ∀ (t0_25 : Int32), (t0_25 = 0 ∨ t0_25 = 1) → (¬ t0_25.toInt = 0 ↔ TlC (FdC M 1) (v2 - nI 100)) → Wp (f_X9_tried_L25 M v1 v2 t0_25) (fun q => (∀ a i, ¬ ((a = 13 ∧ i = 5) ∨ (a = 13 ∧ i = 6) ∨ a = 14 ∨ a = 15 ∨ a = 16 ∨ a = 17 ∨ a = 18 ∨ (a = 21 ∧ i = 1) ∨ (a = 21 ∧ i = 2) ∨ a = 22 ∨ a = 47 ∨ a = 55) → q.2 a i = M a i) ∧ (TrP R F tb (FdC M 1) q.1 v1 v2)) := by
    intro t0_25 hb_t0_25 h25
    unfold f_X9_tried_L25
    have j53 : ∀ (t0_53 : Int32), (t0_53 = 0 ∨ t0_53 = 1) → (¬ t0_53.toInt = 0 ↔ TlC (FdC M 1) (v2 - nI 200)) → Wp (f_X9_tried_L53 M v1 v2 t0_25 t0_53) (fun q => (∀ a i, ¬ ((a = 13 ∧ i = 5) ∨ (a = 13 ∧ i = 6) ∨ a = 14 ∨ a = 15 ∨ a = 16 ∨ a = 17 ∨ a = 18 ∨ (a = 21 ∧ i = 1) ∨ (a = 21 ∧ i = 2) ∨ a = 22 ∨ a = 47 ∨ a = 55) → q.2 a i = M a i) ∧ (TrP R F tb (FdC M 1) q.1 v1 v2)) := by
      intro t0_53 hb_t0_53 h53
      unfold f_X9_tried_L53
      refine wp_bind2 (o9_X9_isNights M v1) (fun r_1 he56 hq56 => ?_)
      obtain ⟨hz_r_1, hr_56⟩ := hq56
      replace hr_56 : ¬ r_1.toInt = 0 ↔ 1 ≤ v1.toInt ∧ v1.toInt ≤ 60 := hr_56
      refine wp_ite (fun c59 => ?_) (fun c59 => ?_)
      · exact wp_some ⟨(fun _ _ _ => rfl), (op_n (fun z => hr_56.mpr z.1 c59) rfl rfl)⟩
      · have j83 : ((0 ≤ v2.toInt ∧ v2.toInt ≤ 3) ∨ TlC (FdC M 1) (v2 - nI 100) ∨ TlC (FdC M 1) (v2 - nI 200)) → Wp (f_X9_tried_L83 M v1 v2 t0_25 t0_53) (fun q => (∀ a i, ¬ ((a = 13 ∧ i = 5) ∨ (a = 13 ∧ i = 6) ∨ a = 14 ∨ a = 15 ∨ a = 16 ∨ a = 17 ∨ a = 18 ∨ (a = 21 ∧ i = 1) ∨ (a = 21 ∧ i = 2) ∨ a = 22 ∨ a = 47 ∨ a = 55) → q.2 a i = M a i) ∧ (TrP R F tb (FdC M 1) q.1 v1 v2)) := by
          intro h83
          unfold f_X9_tried_L83
          refine wp_bind2 (o9_X2_copyAll (Or.inr (Or.inr rfl)) (Or.inl rfl) M (by omega)) (fun M_2 he91 hq91 => ?_)
          obtain ⟨hg_M_2, hcp_91⟩ := hq91
          replace hcp_91 : TdB (FdC M 1) → UdB (FdC M 1) → FdC M_2 13 = FdC M 1 := hcp_91
          replace hg_M_2 : ∀ a i, ¬ ((a = 13 ∧ i = 5) ∨ (a = 13 ∧ i = 6) ∨ a = 14 ∨ a = 15 ∨ a = 16 ∨ a = 17 ∨ a = 18) → M_2 a i = M a i := by exact fun a i q0 => hg_M_2 a i (by omega)
          have g2 : FdC M_2 13 = (FdC M 1) := hcp_91 hGd.1.1 hGd.1.2.1
          have l2 : M_2 0 10 = M 0 10 := hg_M_2 0 10 (by omega)
          refine wp_rl (by rw [l2]; exact hL10) (fun c_3 hc_3 ecc_3 => ?_)
          have hc_30 : c_3 = 44 ∨ c_3 = 52 := hc_3
          have q3 := hLc c_3 (by rw [← l2]; exact ecc_3)
          refine wp_bind2 (o8_X5_pass (Or.inr (Or.inr rfl)) hc_3 M_2 v1 R F tb (lwc_fr q3.1 (fun a i q => hg_M_2 a i (by omega))) hQ (n5_fr q3.2 (hg_M_2 c_3 9 (by omega)) (hg_M_2 c_3 7 (by omega))) (by rw [g2]; exact hGd)) (fun M_4 he107 hq107 => ?_)
          obtain ⟨hg_M_4, hps_107⟩ := hq107
          replace hps_107 : ngs R F tb v1.toInt.toNat (FdC M_2 13, nI 0, nI 0) = (FdC M_4 13, M_4 21 1, M_4 21 2) := hps_107
          replace hg_M_4 : ∀ a i, ¬ ((a = 13 ∧ i = 5) ∨ (a = 13 ∧ i = 6) ∨ a = 14 ∨ a = 15 ∨ a = 18 ∨ (a = 21 ∧ i = 1) ∨ (a = 21 ∧ i = 2) ∨ a = 22 ∨ a = 47 ∨ a = 55) → M_4 a i = M_2 a i := by rcases hc_30 with e9 | e9 <;> subst e9 <;> exact fun a i q0 => hg_M_4 a i (by omega)
          have E107 := hps_107
          rw [g2] at E107
          have g4 : GdF (FdC M_4 13) := by
            have z := gd_ngs (R := R) (F := F) (tb := tb) v1.toInt.toNat ((FdC M 1), nI 0, nI 0) hGd
            rw [E107] at z
            exact z
          have t4 : ∀ j, FdC M_4 13 4 j = (FdC M 1) 4 j := fun j => by
            have z := ngs_4 (R := R) (F := F) (tb := tb) (j := j) v1.toInt.toNat ((FdC M 1), nI 0, nI 0)
            rw [E107] at z
            exact z
          have f41 : FdC M_4 1 = (FdC M 1) := fdc_fr (fun a i h1 h2 => by rw [hg_M_4 a i (by omega), hg_M_2 a i (by omega)])
          refine wp_ite (fun c111 => ?_) (fun c111 => ?_)
          · refine wp_ite (fun c129 => ?_) (fun c129 => ?_)
            · refine wp_ite (fun c147 => ?_) (fun c147 => ?_)
              · exact wp_some ⟨(fun a i q0 => ((hg_M_4 a i (fun z8 => q0 ((fun z9 => Or.elim z9 (fun h9 => Or.inl h9) (fun z9 => Or.elim z9 (fun h9 => Or.inr (Or.inl h9)) (fun z9 => Or.elim z9 (fun h9 => Or.inr (Or.inr (Or.inl h9))) (fun z9 => Or.elim z9 (fun h9 => Or.inr (Or.inr (Or.inr (Or.inl h9)))) (fun z9 => Or.elim z9 (fun h9 => Or.inr (Or.inr (Or.inr (Or.inr (Or.inr (Or.inr (Or.inl h9))))))) (fun z9 => Or.elim z9 (fun h9 => Or.inr (Or.inr (Or.inr (Or.inr (Or.inr (Or.inr (Or.inr (Or.inl h9)))))))) (fun z9 => Or.elim z9 (fun h9 => Or.inr (Or.inr (Or.inr (Or.inr (Or.inr (Or.inr (Or.inr (Or.inr (Or.inl h9))))))))) (fun z9 => Or.elim z9 (fun h9 => Or.inr (Or.inr (Or.inr (Or.inr (Or.inr (Or.inr (Or.inr (Or.inr (Or.inr (Or.inl h9)))))))))) (fun z9 => Or.elim z9 (fun h9 => Or.inr (Or.inr (Or.inr (Or.inr (Or.inr (Or.inr (Or.inr (Or.inr (Or.inr (Or.inr (Or.inl h9))))))))))) (fun h9 => Or.inr (Or.inr (Or.inr (Or.inr (Or.inr (Or.inr (Or.inr (Or.inr (Or.inr (Or.inr (Or.inr (h9))))))))))))))))))))) z8))).trans ((hg_M_2 a i (fun z8 => q0 ((fun z9 => Or.elim z9 (fun h9 => Or.inl h9) (fun z9 => Or.elim z9 (fun h9 => Or.inr (Or.inl h9)) (fun z9 => Or.elim z9 (fun h9 => Or.inr (Or.inr (Or.inl h9))) (fun z9 => Or.elim z9 (fun h9 => Or.inr (Or.inr (Or.inr (Or.inl h9)))) (fun z9 => Or.elim z9 (fun h9 => Or.inr (Or.inr (Or.inr (Or.inr (Or.inl h9))))) (fun z9 => Or.elim z9 (fun h9 => Or.inr (Or.inr (Or.inr (Or.inr (Or.inr (Or.inl h9)))))) (fun h9 => Or.inr (Or.inr (Or.inr (Or.inr (Or.inr (Or.inr (Or.inl h9))))))))))))) z8))).trans rfl))), (op_y ⟨hr_56.mp c59, h83⟩ rfl (by rw [trv_0 (by omega), E107]))⟩
              · refine wp_ite (fun c1 => ?_) (fun c1 => ?_)
                · exact wp_some ⟨(fun a i q0 => ((hg_M_4 a i (fun z8 => q0 ((fun z9 => Or.elim z9 (fun h9 => Or.inl h9) (fun z9 => Or.elim z9 (fun h9 => Or.inr (Or.inl h9)) (fun z9 => Or.elim z9 (fun h9 => Or.inr (Or.inr (Or.inl h9))) (fun z9 => Or.elim z9 (fun h9 => Or.inr (Or.inr (Or.inr (Or.inl h9)))) (fun z9 => Or.elim z9 (fun h9 => Or.inr (Or.inr (Or.inr (Or.inr (Or.inr (Or.inr (Or.inl h9))))))) (fun z9 => Or.elim z9 (fun h9 => Or.inr (Or.inr (Or.inr (Or.inr (Or.inr (Or.inr (Or.inr (Or.inl h9)))))))) (fun z9 => Or.elim z9 (fun h9 => Or.inr (Or.inr (Or.inr (Or.inr (Or.inr (Or.inr (Or.inr (Or.inr (Or.inl h9))))))))) (fun z9 => Or.elim z9 (fun h9 => Or.inr (Or.inr (Or.inr (Or.inr (Or.inr (Or.inr (Or.inr (Or.inr (Or.inr (Or.inl h9)))))))))) (fun z9 => Or.elim z9 (fun h9 => Or.inr (Or.inr (Or.inr (Or.inr (Or.inr (Or.inr (Or.inr (Or.inr (Or.inr (Or.inr (Or.inl h9))))))))))) (fun h9 => Or.inr (Or.inr (Or.inr (Or.inr (Or.inr (Or.inr (Or.inr (Or.inr (Or.inr (Or.inr (Or.inr (h9))))))))))))))))))))) z8))).trans ((hg_M_2 a i (fun z8 => q0 ((fun z9 => Or.elim z9 (fun h9 => Or.inl h9) (fun z9 => Or.elim z9 (fun h9 => Or.inr (Or.inl h9)) (fun z9 => Or.elim z9 (fun h9 => Or.inr (Or.inr (Or.inl h9))) (fun z9 => Or.elim z9 (fun h9 => Or.inr (Or.inr (Or.inr (Or.inl h9)))) (fun z9 => Or.elim z9 (fun h9 => Or.inr (Or.inr (Or.inr (Or.inr (Or.inl h9))))) (fun z9 => Or.elim z9 (fun h9 => Or.inr (Or.inr (Or.inr (Or.inr (Or.inr (Or.inl h9)))))) (fun h9 => Or.inr (Or.inr (Or.inr (Or.inr (Or.inr (Or.inr (Or.inl h9))))))))))))) z8))).trans rfl))), (op_y ⟨hr_56.mp c59, h83⟩ rfl (by rw [trv_1 (by omega), E107]))⟩
                · refine wp_ite (fun c2 => ?_) (fun c2 => ?_)
                  · refine wp_bind2 (o9_X2_countSunk (Or.inr (Or.inr rfl)) M_4 g4.1.2.1) (fun r_5 he192 hq192 => ?_)
                    have hsm_192 := hq192
                    replace hsm_192 : r_5 = smT 5 (FdC M_4 13) 40 := hsm_192
                    exact wp_some ⟨(fun a i q0 => ((hg_M_4 a i (fun z8 => q0 ((fun z9 => Or.elim z9 (fun h9 => Or.inl h9) (fun z9 => Or.elim z9 (fun h9 => Or.inr (Or.inl h9)) (fun z9 => Or.elim z9 (fun h9 => Or.inr (Or.inr (Or.inl h9))) (fun z9 => Or.elim z9 (fun h9 => Or.inr (Or.inr (Or.inr (Or.inl h9)))) (fun z9 => Or.elim z9 (fun h9 => Or.inr (Or.inr (Or.inr (Or.inr (Or.inr (Or.inr (Or.inl h9))))))) (fun z9 => Or.elim z9 (fun h9 => Or.inr (Or.inr (Or.inr (Or.inr (Or.inr (Or.inr (Or.inr (Or.inl h9)))))))) (fun z9 => Or.elim z9 (fun h9 => Or.inr (Or.inr (Or.inr (Or.inr (Or.inr (Or.inr (Or.inr (Or.inr (Or.inl h9))))))))) (fun z9 => Or.elim z9 (fun h9 => Or.inr (Or.inr (Or.inr (Or.inr (Or.inr (Or.inr (Or.inr (Or.inr (Or.inr (Or.inl h9)))))))))) (fun z9 => Or.elim z9 (fun h9 => Or.inr (Or.inr (Or.inr (Or.inr (Or.inr (Or.inr (Or.inr (Or.inr (Or.inr (Or.inr (Or.inl h9))))))))))) (fun h9 => Or.inr (Or.inr (Or.inr (Or.inr (Or.inr (Or.inr (Or.inr (Or.inr (Or.inr (Or.inr (Or.inr (h9))))))))))))))))))))) z8))).trans ((hg_M_2 a i (fun z8 => q0 ((fun z9 => Or.elim z9 (fun h9 => Or.inl h9) (fun z9 => Or.elim z9 (fun h9 => Or.inr (Or.inl h9)) (fun z9 => Or.elim z9 (fun h9 => Or.inr (Or.inr (Or.inl h9))) (fun z9 => Or.elim z9 (fun h9 => Or.inr (Or.inr (Or.inr (Or.inl h9)))) (fun z9 => Or.elim z9 (fun h9 => Or.inr (Or.inr (Or.inr (Or.inr (Or.inl h9))))) (fun z9 => Or.elim z9 (fun h9 => Or.inr (Or.inr (Or.inr (Or.inr (Or.inr (Or.inl h9)))))) (fun h9 => Or.inr (Or.inr (Or.inr (Or.inr (Or.inr (Or.inr (Or.inl h9))))))))))))) z8))).trans rfl))), (op_y ⟨hr_56.mp c59, h83⟩ rfl (by rw [trv_2 (by omega), E107]; exact hsm_192))⟩
                  · refine wp_bind2 (o9_X2_sumOfX (Or.inr (Or.inr rfl)) M_4) (fun r_6 he200 hq200 => ?_)
                    have hsm_200 := hq200
                    replace hsm_200 : r_6 = smT 1 (FdC M_4 13) 40 := hsm_200
                    refine wp_bind2 (o9_X2_sumOfX (Or.inl rfl) M_4) (fun r_7 he207 hq207 => ?_)
                    have hsm_207 := hq207
                    replace hsm_207 : r_7 = smT 1 (FdC M_4 1) 40 := hsm_207
                    exact wp_some ⟨(fun a i q0 => ((hg_M_4 a i (fun z8 => q0 ((fun z9 => Or.elim z9 (fun h9 => Or.inl h9) (fun z9 => Or.elim z9 (fun h9 => Or.inr (Or.inl h9)) (fun z9 => Or.elim z9 (fun h9 => Or.inr (Or.inr (Or.inl h9))) (fun z9 => Or.elim z9 (fun h9 => Or.inr (Or.inr (Or.inr (Or.inl h9)))) (fun z9 => Or.elim z9 (fun h9 => Or.inr (Or.inr (Or.inr (Or.inr (Or.inr (Or.inr (Or.inl h9))))))) (fun z9 => Or.elim z9 (fun h9 => Or.inr (Or.inr (Or.inr (Or.inr (Or.inr (Or.inr (Or.inr (Or.inl h9)))))))) (fun z9 => Or.elim z9 (fun h9 => Or.inr (Or.inr (Or.inr (Or.inr (Or.inr (Or.inr (Or.inr (Or.inr (Or.inl h9))))))))) (fun z9 => Or.elim z9 (fun h9 => Or.inr (Or.inr (Or.inr (Or.inr (Or.inr (Or.inr (Or.inr (Or.inr (Or.inr (Or.inl h9)))))))))) (fun z9 => Or.elim z9 (fun h9 => Or.inr (Or.inr (Or.inr (Or.inr (Or.inr (Or.inr (Or.inr (Or.inr (Or.inr (Or.inr (Or.inl h9))))))))))) (fun h9 => Or.inr (Or.inr (Or.inr (Or.inr (Or.inr (Or.inr (Or.inr (Or.inr (Or.inr (Or.inr (Or.inr (h9))))))))))))))))))))) z8))).trans ((hg_M_2 a i (fun z8 => q0 ((fun z9 => Or.elim z9 (fun h9 => Or.inl h9) (fun z9 => Or.elim z9 (fun h9 => Or.inr (Or.inl h9)) (fun z9 => Or.elim z9 (fun h9 => Or.inr (Or.inr (Or.inl h9))) (fun z9 => Or.elim z9 (fun h9 => Or.inr (Or.inr (Or.inr (Or.inl h9)))) (fun z9 => Or.elim z9 (fun h9 => Or.inr (Or.inr (Or.inr (Or.inr (Or.inl h9))))) (fun z9 => Or.elim z9 (fun h9 => Or.inr (Or.inr (Or.inr (Or.inr (Or.inr (Or.inl h9)))))) (fun h9 => Or.inr (Or.inr (Or.inr (Or.inr (Or.inr (Or.inr (Or.inl h9))))))))))))) z8))).trans rfl))), (op_y ⟨hr_56.mp c59, h83⟩ rfl (by rw [trv_3 (by have z := (h83.resolve_right (fun q => q.elim (fun y => h25.mpr y c111) (fun y => h53.mpr y c129))); omega), E107, ← f41, ← hsm_200, ← hsm_207]))⟩
            · refine wp_gd (h53.mp c129).1 ?_
              exact wp_some ⟨(fun a i q0 => ((hg_M_4 a i (fun z8 => q0 ((fun z9 => Or.elim z9 (fun h9 => Or.inl h9) (fun z9 => Or.elim z9 (fun h9 => Or.inr (Or.inl h9)) (fun z9 => Or.elim z9 (fun h9 => Or.inr (Or.inr (Or.inl h9))) (fun z9 => Or.elim z9 (fun h9 => Or.inr (Or.inr (Or.inr (Or.inl h9)))) (fun z9 => Or.elim z9 (fun h9 => Or.inr (Or.inr (Or.inr (Or.inr (Or.inr (Or.inr (Or.inl h9))))))) (fun z9 => Or.elim z9 (fun h9 => Or.inr (Or.inr (Or.inr (Or.inr (Or.inr (Or.inr (Or.inr (Or.inl h9)))))))) (fun z9 => Or.elim z9 (fun h9 => Or.inr (Or.inr (Or.inr (Or.inr (Or.inr (Or.inr (Or.inr (Or.inr (Or.inl h9))))))))) (fun z9 => Or.elim z9 (fun h9 => Or.inr (Or.inr (Or.inr (Or.inr (Or.inr (Or.inr (Or.inr (Or.inr (Or.inr (Or.inl h9)))))))))) (fun z9 => Or.elim z9 (fun h9 => Or.inr (Or.inr (Or.inr (Or.inr (Or.inr (Or.inr (Or.inr (Or.inr (Or.inr (Or.inr (Or.inl h9))))))))))) (fun h9 => Or.inr (Or.inr (Or.inr (Or.inr (Or.inr (Or.inr (Or.inr (Or.inr (Or.inr (Or.inr (Or.inr (h9))))))))))))))))))))) z8))).trans ((hg_M_2 a i (fun z8 => q0 ((fun z9 => Or.elim z9 (fun h9 => Or.inl h9) (fun z9 => Or.elim z9 (fun h9 => Or.inr (Or.inl h9)) (fun z9 => Or.elim z9 (fun h9 => Or.inr (Or.inr (Or.inl h9))) (fun z9 => Or.elim z9 (fun h9 => Or.inr (Or.inr (Or.inr (Or.inl h9)))) (fun z9 => Or.elim z9 (fun h9 => Or.inr (Or.inr (Or.inr (Or.inr (Or.inl h9))))) (fun z9 => Or.elim z9 (fun h9 => Or.inr (Or.inr (Or.inr (Or.inr (Or.inr (Or.inl h9)))))) (fun h9 => Or.inr (Or.inr (Or.inr (Or.inr (Or.inr (Or.inr (Or.inl h9))))))))))))) z8))).trans rfl))), (op_y ⟨hr_56.mp c59, h83⟩ rfl (by have z := h53.mp c129; rw [trv_y (tl_200 z).1, E107]; exact (fdc_at (a := 2) (ix40 z.1.1 z.1.2) (by omega) (by unfold tld; rw [t4]; exact z.2)).symm))⟩
          · refine wp_gd (h25.mp c111).1 ?_
            exact wp_some ⟨(fun a i q0 => ((hg_M_4 a i (fun z8 => q0 ((fun z9 => Or.elim z9 (fun h9 => Or.inl h9) (fun z9 => Or.elim z9 (fun h9 => Or.inr (Or.inl h9)) (fun z9 => Or.elim z9 (fun h9 => Or.inr (Or.inr (Or.inl h9))) (fun z9 => Or.elim z9 (fun h9 => Or.inr (Or.inr (Or.inr (Or.inl h9)))) (fun z9 => Or.elim z9 (fun h9 => Or.inr (Or.inr (Or.inr (Or.inr (Or.inr (Or.inr (Or.inl h9))))))) (fun z9 => Or.elim z9 (fun h9 => Or.inr (Or.inr (Or.inr (Or.inr (Or.inr (Or.inr (Or.inr (Or.inl h9)))))))) (fun z9 => Or.elim z9 (fun h9 => Or.inr (Or.inr (Or.inr (Or.inr (Or.inr (Or.inr (Or.inr (Or.inr (Or.inl h9))))))))) (fun z9 => Or.elim z9 (fun h9 => Or.inr (Or.inr (Or.inr (Or.inr (Or.inr (Or.inr (Or.inr (Or.inr (Or.inr (Or.inl h9)))))))))) (fun z9 => Or.elim z9 (fun h9 => Or.inr (Or.inr (Or.inr (Or.inr (Or.inr (Or.inr (Or.inr (Or.inr (Or.inr (Or.inr (Or.inl h9))))))))))) (fun h9 => Or.inr (Or.inr (Or.inr (Or.inr (Or.inr (Or.inr (Or.inr (Or.inr (Or.inr (Or.inr (Or.inr (h9))))))))))))))))))))) z8))).trans ((hg_M_2 a i (fun z8 => q0 ((fun z9 => Or.elim z9 (fun h9 => Or.inl h9) (fun z9 => Or.elim z9 (fun h9 => Or.inr (Or.inl h9)) (fun z9 => Or.elim z9 (fun h9 => Or.inr (Or.inr (Or.inl h9))) (fun z9 => Or.elim z9 (fun h9 => Or.inr (Or.inr (Or.inr (Or.inl h9)))) (fun z9 => Or.elim z9 (fun h9 => Or.inr (Or.inr (Or.inr (Or.inr (Or.inl h9))))) (fun z9 => Or.elim z9 (fun h9 => Or.inr (Or.inr (Or.inr (Or.inr (Or.inr (Or.inl h9)))))) (fun h9 => Or.inr (Or.inr (Or.inr (Or.inr (Or.inr (Or.inr (Or.inl h9))))))))))))) z8))).trans rfl))), (op_y ⟨hr_56.mp c59, h83⟩ rfl (by have z := h25.mp c111; have y := tl_100 z; rw [trv_x ⟨y.1, by omega⟩, E107]; exact (fdc_at (a := 1) (ix40 z.1.1 z.1.2) (by omega) (by unfold tld; rw [t4]; exact z.2)).symm))⟩
        have j71 : (¬ (0 ≤ v2.toInt ∧ v2.toInt ≤ 3)) → Wp (f_X9_tried_L71 M v1 v2 t0_25 t0_53) (fun q => (∀ a i, ¬ ((a = 13 ∧ i = 5) ∨ (a = 13 ∧ i = 6) ∨ a = 14 ∨ a = 15 ∨ a = 16 ∨ a = 17 ∨ a = 18 ∨ (a = 21 ∧ i = 1) ∨ (a = 21 ∧ i = 2) ∨ a = 22 ∨ a = 47 ∨ a = 55) → q.2 a i = M a i) ∧ (TrP R F tb (FdC M 1) q.1 v1 v2)) := by
          intro h71
          unfold f_X9_tried_L71
          refine wp_ite (fun c72 => ?_) (fun c72 => ?_)
          · refine wp_ite (fun c77 => ?_) (fun c77 => ?_)
            · exact wp_some ⟨(fun _ _ _ => rfl), (op_n (fun z => z.2.elim h71 (fun q => q.elim (fun y => h25.mpr y c72) (fun y => h53.mpr y c77))) rfl rfl)⟩
            · exact j83 (Or.inr (Or.inr (h53.mp c77)))
          · exact j83 (Or.inr (Or.inl (h25.mp c72)))
        refine wp_ite (fun c63 => ?_) (fun c63 => ?_)
        · exact j71 (by omega)
        · refine wp_ite (fun c68 => ?_) (fun c68 => ?_)
          · exact j83 (Or.inl ⟨by omega, by omega⟩)
          · exact j71 (by omega)
    have j52 : (¬ TlC (FdC M 1) (v2 - nI 200)) → Wp (f_X9_tried_L52 M v1 v2 t0_25) (fun q => (∀ a i, ¬ ((a = 13 ∧ i = 5) ∨ (a = 13 ∧ i = 6) ∨ a = 14 ∨ a = 15 ∨ a = 16 ∨ a = 17 ∨ a = 18 ∨ (a = 21 ∧ i = 1) ∨ (a = 21 ∧ i = 2) ∨ a = 22 ∨ a = 47 ∨ a = 55) → q.2 a i = M a i) ∧ (TrP R F tb (FdC M 1) q.1 v1 v2)) := by
      intro h52
      unfold f_X9_tried_L52
      exact j53 (nI 0) b01_0 ⟨fun z => absurd nI0 z, fun z => absurd z h52⟩
    refine wp_ite (fun c30 => ?_) (fun c30 => ?_)
    · exact j52 (fun z => by have := tl_200 z; omega)
    · refine wp_bind2 (o8_X2_isTold (Or.inl rfl) M (v2 - (nI 200))) (fun r_8 he42 hq42 => ?_)
      obtain ⟨hz_r_8, hr_42, htd_42⟩ := hq42
      replace hr_42 : ¬ r_8.toInt = 0 → 0 ≤ (v2 - (nI 200)).toInt ∧ (v2 - (nI 200)).toInt < 40 := hr_42
      replace htd_42 : TdP r_8.toInt (FdC M 1) (v2 - (nI 200)) := htd_42
      refine wp_ite (fun c45 => ?_) (fun c45 => ?_)
      · exact j52 (td_n htd_42 c45)
      · exact j53 (nI 1) b01_1 ⟨fun _ => td_y htd_42 c45, fun _ => ne1⟩
  have j24 : (¬ TlC (FdC M 1) (v2 - nI 100)) → Wp (f_X9_tried_L24 M v1 v2) (fun q => (∀ a i, ¬ ((a = 13 ∧ i = 5) ∨ (a = 13 ∧ i = 6) ∨ a = 14 ∨ a = 15 ∨ a = 16 ∨ a = 17 ∨ a = 18 ∨ (a = 21 ∧ i = 1) ∨ (a = 21 ∧ i = 2) ∨ a = 22 ∨ a = 47 ∨ a = 55) → q.2 a i = M a i) ∧ (TrP R F tb (FdC M 1) q.1 v1 v2)) := by
    intro h24
    unfold f_X9_tried_L24
    exact j25 (nI 0) b01_0 ⟨fun z => absurd nI0 z, fun z => absurd z h24⟩
  refine wp_ite (fun c3 => ?_) (fun c3 => ?_)
  · exact j24 (fun z => by have := tl_100 z; omega)
  · refine wp_bind2 (o8_X2_isTold (Or.inl rfl) M (v2 - (nI 100))) (fun r_9 he14 hq14 => ?_)
    obtain ⟨hz_r_9, hr_14, htd_14⟩ := hq14
    replace hr_14 : ¬ r_9.toInt = 0 → 0 ≤ (v2 - (nI 100)).toInt ∧ (v2 - (nI 100)).toInt < 40 := hr_14
    replace htd_14 : TdP r_9.toInt (FdC M 1) (v2 - (nI 100)) := htd_14
    refine wp_ite (fun c17 => ?_) (fun c17 => ?_)
    · exact j24 (td_n htd_14 c17)
    · exact j25 (nI 1) b01_1 ⟨fun _ => td_y htd_14 c17, fun _ => ne1⟩
set_option maxHeartbeats 4000000 in
theorem oa_X10_tried (M : Mem) (v1 : Int32) (v2 : Int32) (R : Nat) (F : Nat → Int × Int) (tb : Tbl) (hL : LwR M R F tb) (hQ : LwQ R F tb) (hGd : GdF (FdR M 1)) : Wp (f_X10_tried M v1 v2) (fun q => (∀ a i, ¬ ((a = 0 ∧ i = 34) ∨ (a = 0 ∧ i = 35) ∨ a = 1 ∨ a = 2 ∨ a = 17 ∨ a = 18) → q.2 a i = M a i) ∧ (ST (q.2 1)) ∧ (FdR q.2 1 = (FdR M 1)) ∧ (TrP R F tb (FdR M 1) q.1 v1 v2)) := by
  refine wp_bind2 (o2_X10_in M v1 (nI 1) (nI 60)) (fun r_1 he4 hq4 => ?_)
  obtain ⟨hz_r_1, hr_4, hi_4⟩ := hq4
  replace hr_4 : ¬ r_1.toInt = 0 → (nI 1).toInt ≤ v1.toInt ∧ v1.toInt ≤ (nI 60).toInt := hr_4
  have := t_lit 1
  have := t_lit 60
  replace hi_4 : ¬ r_1.toInt = 0 ↔ (nI 1).toInt ≤ v1.toInt ∧ v1.toInt ≤ (nI 60).toInt := hi_4
  have := t_lit 1
  have := t_lit 60
  refine wp_ite (fun c7 => ?_) (fun c7 => ?_)
  · exact wp_some ⟨(fun _ _ _ => rfl), (st_gd hGd), rfl, (op_n (fun z => hi_4.mpr (by have f0 := t_lit 0; have f1 := t_lit 1; have f3 := t_lit 3; have f60 := t_lit 60; have q := z.1; omega) c7) rfl rfl)⟩
  · refine wp_bind2 (o2_X10_in M v2 (nI 0) (nI 3)) (fun r_2 he13 hq13 => ?_)
    obtain ⟨hz_r_2, hr_13, hi_13⟩ := hq13
    replace hr_13 : ¬ r_2.toInt = 0 → (nI 0).toInt ≤ v2.toInt ∧ v2.toInt ≤ (nI 3).toInt := hr_13
    have := t_lit 0
    have := t_lit 3
    replace hi_13 : ¬ r_2.toInt = 0 ↔ (nI 0).toInt ≤ v2.toInt ∧ v2.toInt ≤ (nI 3).toInt := hi_13
    have := t_lit 0
    have := t_lit 3
    have j46 : ((0 ≤ v2.toInt ∧ v2.toInt ≤ 3) ∨ TlC (FdR M 1) (v2 - nI 100) ∨ TlC (FdR M 1) (v2 - nI 200)) → Wp (f_X10_tried_L46 M v1 v2) (fun q => (∀ a i, ¬ ((a = 0 ∧ i = 34) ∨ (a = 0 ∧ i = 35) ∨ a = 1 ∨ a = 2 ∨ a = 17 ∨ a = 18) → q.2 a i = M a i) ∧ (ST (q.2 1)) ∧ (FdR q.2 1 = (FdR M 1)) ∧ (TrP R F tb (FdR M 1) q.1 v1 v2)) := by
      intro h46
      unfold f_X10_tried_L46
      refine wp_bind2 (o9_X10_sumOf M (nI 40) (by decide) 1 (Or.inr (Or.inl ⟨rfl, rfl⟩)) hGd) (fun r_3 he49 hq49 => ?_)
      have hsm_49 := hq49
      replace hsm_49 : r_3 = smT 1 (FdR M 1) 40 := hsm_49
      have := t_lit 40
      refine wp_bind2 (o_X10_copies (by decide) (by decide) M (by omega) (by omega)) (fun M_4 he61 hq61 => ?_)
      obtain ⟨hg_M_4, hc_61⟩ := hq61
      replace hc_61 : ∀ j : Nat, j < 202 → M_4 2 j = M 1 j := hc_61
      replace hg_M_4 : ∀ a i, ¬ (a = 2) → M_4 a i = M a i := by exact fun a i q0 => hg_M_4 a i (by omega)
      have f4 : FdR M_4 1 = (FdR M 1) := fdr_same (fun j hj => hg_M_4 1 j (by omega))
      have hL4 : LwR M_4 R F tb := lwr_fr hL (fun a i q => hg_M_4 a i (by omega))
      refine wp_bind2 (o8_X10_nightsGo M_4 v1 R F tb hL4 hQ (by rw [f4]; exact hGd)) (fun M_5 he66 hq66 => ?_)
      obtain ⟨hg_M_5, hst_66, hps_66⟩ := hq66
      replace hst_66 : ST (M_5 1) := hst_66
      replace hps_66 : ngs R F tb v1.toInt.toNat (FdR M_4 1, nI 0, nI 0) = (FdR M_5 1, M_5 0 34, M_5 0 35) := hps_66
      replace hg_M_5 : ∀ a i, ¬ ((a = 0 ∧ i = 34) ∨ (a = 0 ∧ i = 35) ∨ a = 1 ∨ a = 17 ∨ a = 18) → M_5 a i = M_4 a i := hg_M_5
      have E66 := hps_66
      rw [f4] at E66
      have g5 : GdF (FdR M_5 1) := by
        have z := gd_ngs (R := R) (F := F) (tb := tb) v1.toInt.toNat ((FdR M 1), nI 0, nI 0) hGd
        rw [E66] at z
        exact z
      have t5 : ∀ j, FdR M_5 1 4 j = (FdR M 1) 4 j := fun j => by
        have z := ngs_4 (R := R) (F := F) (tb := tb) (j := j) v1.toInt.toNat ((FdR M 1), nI 0, nI 0)
        rw [E66] at z
        exact z
      have j180 : ∀ (z4_180 : Int32), (z4_180 = trV (ngs R F tb v1.toInt.toNat ((FdR M 1), nI 0, nI 0)) (FdR M 1) v2) → Wp (f_X10_tried_L180 M_5 z4_180) (fun q => (∀ a i, ¬ ((a = 0 ∧ i = 34) ∨ (a = 0 ∧ i = 35) ∨ a = 1 ∨ a = 2 ∨ a = 17 ∨ a = 18) → q.2 a i = M a i) ∧ (ST (q.2 1)) ∧ (FdR q.2 1 = (FdR M 1)) ∧ (TrP R F tb (FdR M 1) q.1 v1 v2)) := by
        intro z4_180 h180
        unfold f_X10_tried_L180
        refine wp_bind2 (o_X10_copies (by decide) (by decide) M_5 (by omega) (by omega)) (fun M_6 he188 hq188 => ?_)
        obtain ⟨hg_M_6, hc_188⟩ := hq188
        replace hc_188 : ∀ j : Nat, j < 202 → M_6 1 j = M_5 2 j := hc_188
        replace hg_M_6 : ∀ a i, ¬ (a = 1) → M_6 a i = M_5 a i := by exact fun a i q0 => hg_M_6 a i (by omega)
        have hF6 : FdR M_6 1 = (FdR M 1) := fdr_same (fun j hj => by rw [hc_188 j (by omega), hg_M_5 2 j (by omega)]; exact hc_61 j (by omega))
        exact wp_some ⟨(fun a i q0 => ((hg_M_6 a i (fun h9 => q0 (Or.inr (Or.inr (Or.inl h9))))).trans ((hg_M_5 a i (fun z8 => q0 ((fun z9 => Or.elim z9 (fun h9 => Or.inl h9) (fun z9 => Or.elim z9 (fun h9 => Or.inr (Or.inl h9)) (fun z9 => Or.elim z9 (fun h9 => Or.inr (Or.inr (Or.inl h9))) (fun z9 => Or.elim z9 (fun h9 => Or.inr (Or.inr (Or.inr (Or.inr (Or.inl h9))))) (fun h9 => Or.inr (Or.inr (Or.inr (Or.inr (Or.inr (h9)))))))))) z8))).trans ((hg_M_4 a i (fun h9 => q0 (Or.inr (Or.inr (Or.inr (Or.inl h9)))))).trans rfl)))), (st_gd (by show GdF (FdR M_6 1); rw [hF6]; exact hGd)), hF6, (op_y ⟨by have f0 := t_lit 0; have f1 := t_lit 1; have f3 := t_lit 3; have f60 := t_lit 60; have q := hi_4.mp c7; omega, h46⟩ rfl h180)⟩
      refine wp_ite (fun c70 => ?_) (fun c70 => ?_)
      · refine wp_bnd (fun x_7 ex_7 => ?_)
        have hv_x_7 := congrArg Int32.toInt ex_7
        exact j180 x_7 (by rw [ex_7, trv_0 (by omega), E66])
      · refine wp_ite (fun c1 => ?_) (fun c1 => ?_)
        · refine wp_bnd (fun x_8 ex_8 => ?_)
          have hv_x_8 := congrArg Int32.toInt ex_8
          exact j180 x_8 (by rw [ex_8, trv_1 (by omega), E66])
        · refine wp_ite (fun c2 => ?_) (fun c2 => ?_)
          · refine wp_bind2 (o9_X10_sumOf M_5 (nI 160) (by decide) 5 (Or.inr (Or.inr ⟨rfl, rfl⟩)) g5) (fun r_9 he122 hq122 => ?_)
            have hsm_122 := hq122
            replace hsm_122 : r_9 = smT 5 (FdR M_5 1) 40 := hsm_122
            have := t_lit 160
            exact j180 r_9 (by rw [trv_2 (by omega), E66]; exact hsm_122)
          · refine wp_ite (fun c3 => ?_) (fun c3 => ?_)
            · refine wp_bind2 (o9_X10_sumOf M_5 (nI 40) (by decide) 1 (Or.inr (Or.inl ⟨rfl, rfl⟩)) g5) (fun r_10 he133 hq133 => ?_)
              have hsm_133 := hq133
              replace hsm_133 : r_10 = smT 1 (FdR M_5 1) 40 := hsm_133
              have := t_lit 40
              refine wp_bnd (fun x_11 ex_11 => ?_)
              exact j180 x_11 (by rw [ex_11, trv_3 (by omega), E66, hsm_133, hsm_49])
            · have j178 : ∀ (t0_178 : Int32), (t0_178 = trV (ngs R F tb v1.toInt.toNat ((FdR M 1), nI 0, nI 0)) (FdR M 1) v2) → Wp (f_X10_tried_L178 M_5 t0_178) (fun q => (∀ a i, ¬ ((a = 0 ∧ i = 34) ∨ (a = 0 ∧ i = 35) ∨ a = 1 ∨ a = 2 ∨ a = 17 ∨ a = 18) → q.2 a i = M a i) ∧ (ST (q.2 1)) ∧ (FdR q.2 1 = (FdR M 1)) ∧ (TrP R F tb (FdR M 1) q.1 v1 v2)) := by
                intro t0_178 h178
                unfold f_X10_tried_L178
                exact j180 t0_178 h178
              refine wp_ite (fun c147 => ?_) (fun c147 => ?_)
              · have t200 : TlC (FdR M 1) (v2 - nI 200) := h46.elim (fun z => by omega) (fun q => q.elim (fun z => by have := tl_100 z; omega) id)
                have y2 := t200.1
                have e80 : ((nI 80) + v2) - (nI 200) = nI 80 + (v2 - nI 200) := asub rfl
                have ea := t_add (nI 80) (v2 - nI 200)
                have el := t_lit 80
                refine wp_gd (by rw [e80]; omega) ?_
                exact j178 (M_5 1 (ix (((nI 80) + v2) - (nI 200)))) (by rw [trv_y c147, E66]; exact (congrArg (M_5 1) (congrArg ix (asub (d := nI 80) rfl))).trans (fdr_y t200.1.1 t200.1.2 (by unfold tld; rw [t5]; exact t200.2)))
              · have t100 : TlC (FdR M 1) (v2 - nI 100) := h46.elim (fun z => by omega) (fun q => q.elim id (fun z => by have := tl_200 z; omega))
                have y1 := t100.1
                have e40x : ((nI 40) + v2) - (nI 100) = nI 40 + (v2 - nI 100) := asub rfl
                have ea := t_add (nI 40) (v2 - nI 100)
                have el := t_lit 40
                refine wp_gd (by rw [e40x]; omega) ?_
                exact j178 (M_5 1 (ix (((nI 40) + v2) - (nI 100)))) (by rw [trv_x ⟨(tl_100 t100).1, by omega⟩, E66]; exact (congrArg (M_5 1) (congrArg ix (asub (d := nI 40) rfl))).trans (fdr_x t100.1.1 t100.1.2 (by unfold tld; rw [t5]; exact t100.2)))
    refine wp_ite (fun c16 => ?_) (fun c16 => ?_)
    · refine wp_bind2 (o8_X10_isStone M (v2 - (nI 100)) hGd.1.1) (fun r_12 he24 hq24 => ?_)
      obtain ⟨hz_r_12, hr_24, htd_24⟩ := hq24
      replace hr_24 : ¬ r_12.toInt = 0 → (0 ≤ (v2 - (nI 100)).toInt ∧ (v2 - (nI 100)).toInt < 40) ∧ (M 1 (ix (v2 - (nI 100)))).toInt = 1 := hr_24
      replace htd_24 : TdP r_12.toInt (FdR M 1) (v2 - (nI 100)) := htd_24
      refine wp_ite (fun c27 => ?_) (fun c27 => ?_)
      · refine wp_bind2 (o8_X10_isStone M (v2 - (nI 200)) hGd.1.1) (fun r_13 he36 hq36 => ?_)
        obtain ⟨hz_r_13, hr_36, htd_36⟩ := hq36
        replace hr_36 : ¬ r_13.toInt = 0 → (0 ≤ (v2 - (nI 200)).toInt ∧ (v2 - (nI 200)).toInt < 40) ∧ (M 1 (ix (v2 - (nI 200)))).toInt = 1 := hr_36
        replace htd_36 : TdP r_13.toInt (FdR M 1) (v2 - (nI 200)) := htd_36
        refine wp_ite (fun c39 => ?_) (fun c39 => ?_)
        · exact wp_some ⟨(fun _ _ _ => rfl), (st_gd hGd), rfl, (op_n (fun z => z.2.elim (fun q => hi_13.mpr (by have f0 := t_lit 0; have f1 := t_lit 1; have f3 := t_lit 3; have f60 := t_lit 60; omega) c16) (fun q => q.elim (td_n htd_24 c27) (td_n htd_36 c39))) rfl rfl)⟩
        · exact j46 (Or.inr (Or.inr (td_y htd_36 c39)))
      · exact j46 (Or.inr (Or.inl (td_y htd_24 c27)))
    · exact j46 (Or.inl (by have f0 := t_lit 0; have f1 := t_lit 1; have f3 := t_lit 3; have f60 := t_lit 60; have q := hi_13.mp c16; omega))
