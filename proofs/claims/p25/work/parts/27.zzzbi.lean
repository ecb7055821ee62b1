theorem oq5_X9_chalk (M : Mem) (v1 : Int32) (v2 : Int32) (hGd : GdF (FdC M 1)) (hBt : ∀ j : Nat, (j : Int) < (M 19 1).toInt → 0 ≤ (M 20 j).toInt ∧ (M 20 j).toInt ≤ 255) : Wp (f_X9_chalk M v1 v2) (fun q => (∀ a i, ¬ ((a = 19 ∧ i = 1) ∨ (a = 19 ∧ i = 2) ∨ (a = 19 ∧ i = 3) ∨ (a = 19 ∧ i = 4) ∨ a = 38 ∨ a = 39 ∨ a = 40 ∨ a = 41 ∨ a = 42) → q.2 a i = M a i) ∧ ((q.2 19 1).toInt = (if (1 ≤ v1.toInt ∧ v1.toInt ≤ 7) ∧ (v2.toInt = 100 ∨ (0 ≤ v2.toInt ∧ v2.toInt < v1.toInt)) ∧ 2 * v1.toInt ≤ (M 19 1).toInt then 0 else (M 19 1).toInt)) ∧ (CkQ (FdC M 1) (fun j => (M 20 j).toInt) v1.toInt v2.toInt (M 19 1).toInt q.1.toInt)) := by
  have tm : (1 ≤ v1.toInt ∧ v1.toInt ≤ 7) → ((nI 2) * v1).toInt = 2 * v1.toInt := fun z => t_mulL v1 2 (by omega) (by omega)
  refine wp_ite (fun c2 => ?_) (fun c2 => ?_)
  · exact wp_some ⟨(fun _ _ _ => rfl), (by show (M 19 1).toInt = _; rw [if_neg (by omega)]), (Or.inl ⟨fun z => (by have q := z.1; omega), (show (-1 : Int32).toInt = -1 by decide)⟩)⟩
  · refine wp_ite (fun c8 => ?_) (fun c8 => ?_)
    · exact wp_some ⟨(fun _ _ _ => rfl), (by show (M 19 1).toInt = _; rw [if_neg (by omega)]), (Or.inl ⟨fun z => (by have q := z.1; omega), (show (-1 : Int32).toInt = -1 by decide)⟩)⟩
    · have m2 := t_mulL v1 2 (by omega) (by omega)
      have ft2 := t_lit 2
      have ft14 := t_lit 14
      refine wp_bind2 (o3_X7_holds M ((nI 2) * v1) (nI 2) (nI 14)) (fun r_1 he21 hq21 => ?_)
      obtain ⟨hz_r_1, hr_21⟩ := hq21
      replace hr_21 : ¬ r_1.toInt = 0 ↔ (nI 2).toInt ≤ ((nI 2) * v1).toInt ∧ ((nI 2) * v1).toInt ≤ (nI 14).toInt ∧ ((nI 2) * v1).toInt ≤ (M 19 1).toInt := hr_21
      have := t_lit 2
      have := t_lit 14
      refine wp_ite (fun c24 => ?_) (fun c24 => ?_)
      · exact wp_some ⟨(fun _ _ _ => rfl), (by show (M 19 1).toInt = _; rw [if_neg (by omega)]), (Or.inl ⟨fun z => (hr_21.mpr ⟨by omega, by omega, by have q2 := z.2.2; omega⟩ c24), (show (-1 : Int32).toInt = -1 by decide)⟩)⟩
      · have j46 : (v2.toInt = 100 ∨ (0 ≤ v2.toInt ∧ v2.toInt < v1.toInt)) → Wp (f_X9_chalk_L46 M v1 v2) (fun q => (∀ a i, ¬ ((a = 19 ∧ i = 1) ∨ (a = 19 ∧ i = 2) ∨ (a = 19 ∧ i = 3) ∨ (a = 19 ∧ i = 4) ∨ a = 38 ∨ a = 39 ∨ a = 40 ∨ a = 41 ∨ a = 42) → q.2 a i = M a i) ∧ ((q.2 19 1).toInt = (if (1 ≤ v1.toInt ∧ v1.toInt ≤ 7) ∧ (v2.toInt = 100 ∨ (0 ≤ v2.toInt ∧ v2.toInt < v1.toInt)) ∧ 2 * v1.toInt ≤ (M 19 1).toInt then 0 else (M 19 1).toInt)) ∧ (CkQ (FdC M 1) (fun j => (M 20 j).toInt) v1.toInt v2.toInt (M 19 1).toInt q.1.toInt)) := by
          intro h46
          unfold f_X9_chalk_L46
          have m2 := t_mulL v1 2 (by omega) (by omega)
          have hr9 := hr_21.mp c24
          have hW : CkW v1.toInt v2.toInt (M 19 1).toInt := ⟨by omega, h46, by have q := hr9.2.2; omega⟩
          refine wp_bind2 (o6_X7_open M ((nI 2) * v1)) (fun M_2 he53 hq53 => ?_)
          obtain ⟨hg_M_2, hS_53, hE_53, hPl_53⟩ := hq53
          replace hS_53 : M_2 19 1 = nI 0 := hS_53
          replace hE_53 : M_2 19 2 = ((nI 2) * v1) := hE_53
          replace hPl_53 : M_2 19 3 = nI 0 := hPl_53
          replace hg_M_2 : ∀ a i, ¬ ((a = 19 ∧ i = 1) ∨ (a = 19 ∧ i = 2) ∨ (a = 19 ∧ i = 3) ∨ (a = 19 ∧ i = 4)) → M_2 a i = M a i := hg_M_2
          have F2 : FdC M_2 1 = (FdC M 1) := fdc_fr (fun a i z1 z2 => hg_M_2 a i (by first | decide | (rcases hc0 with h | h <;> rw [h] <;> simp; done) | (rcases hb0 with h | h | h <;> rw [h] <;> simp; done) | (simp; done) | omega))
          refine wp_bind2 (o9_X2_countTold (Or.inl rfl) M_2 (by rw [F2]; exact hGd.1.1)) (fun r_3 he60 hq60 => ?_)
          have hsm_60 := hq60
          replace hsm_60 : r_3 = smT 4 (FdC M_2 1) 40 := hsm_60
          rw [F2] at hsm_60
          have hTd := hGd.1.1
          refine wp_ite (fun c64 => ?_) (fun c64 => ?_)
          · obtain ⟨i9, w9, h9⟩ := cnt_y hTd hsm_60 (n := v1.toInt.toNat) (by omega) (by omega)
            have e20 : M_2 20 = M 20 := funext (fun j => hg_M_2 20 j (by first | decide | (rcases hc0 with h | h <;> rw [h] <;> simp; done) | (rcases hb0 with h | h | h <;> rw [h] <;> simp; done) | (simp; done) | omega))
            refine wp_cb2 (oq5_X0_read M_2 v1 (by omega) (by rw [hE_53]; omega)) (fun r_4 M_5 he79 hq79 => ?_)
            obtain ⟨hz_r_4, hg_M_5, hrd_79⟩ := hq79
            replace hrd_79 : (¬ r_4.toInt = 0 → RdI (M_2 20) (M_5 38) (M_5 39) v1.toInt.toNat) ∧ (r_4.toInt = 0 → ¬ MbN (fun j => (M_2 20 j).toInt) v1.toInt.toNat) := hrd_79
            replace hg_M_5 : ∀ a i, ¬ (a = 38 ∨ a = 39) → M_5 a i = M_2 a i := hg_M_5
            rw [e20] at hrd_79
            refine wp_ite (fun c82 => ?_) (fun c82 => ?_)
            · exact wp_some ⟨(fun a i q0 => ((hg_M_5 a i (fun z8 => q0 ((fun z9 => Or.elim z9 (fun h9 => Or.inr (Or.inr (Or.inr (Or.inr (Or.inl h9))))) (fun h9 => Or.inr (Or.inr (Or.inr (Or.inr (Or.inr (Or.inl h9))))))) z8))).trans ((hg_M_2 a i (fun z8 => q0 ((fun z9 => Or.elim z9 (fun h9 => Or.inl h9) (fun z9 => Or.elim z9 (fun h9 => Or.inr (Or.inl h9)) (fun z9 => Or.elim z9 (fun h9 => Or.inr (Or.inr (Or.inl h9))) (fun h9 => Or.inr (Or.inr (Or.inr (Or.inl h9))))))) z8))).trans rfl))), (by show (M_5 19 1).toInt = _; rw [if_pos (by omega), show M_5 19 1 = M_2 19 1 from ((hg_M_5 19 1 (by first | decide | (rcases hc0 with h | h <;> rw [h] <;> simp; done) | (rcases hb0 with h | h | h <;> rw [h] <;> simp; done) | (simp; done) | omega)).trans rfl), hS_53]; exact nI0), (Or.inr ⟨hW, Or.inr ⟨i9, w9, h9, Or.inl ⟨hrd_79.2 c82, (show (-3 : Int32).toInt = -3 by decide)⟩⟩⟩)⟩
            · have F5 : FdC M_5 1 = (FdC M 1) := (fdc_fr (fun a i z1 z2 => hg_M_5 a i (by first | decide | (rcases hc0 with h | h <;> rw [h] <;> simp; done) | (rcases hb0 with h | h | h <;> rw [h] <;> simp; done) | (simp; done) | omega))).trans F2
              have rd := hrd_79.1 c82
              have rk := rd_k rd (fun j hj => hBt j (by have q := hr9.2.2; omega))
              refine wp_bind2 (oq5_X0_match (Or.inl rfl) M_5 v1 (by omega) (by rw [F5]; exact hGd) w9 i9 (by rw [F5]; exact h9) rk.2) (fun M_6 he97 hq97 => ?_)
              obtain ⟨hg_M_6, hma_97⟩ := hq97
              replace hma_97 : (∃ i, i ≤ 40 ∧ LsI (tldP (FdC M_5 1)) v1.toInt.toNat i (RwN (M_6 40))) ∧ (∀ k, k < v1.toInt.toNat → 0 ≤ (M_6 40 k).toInt) ∧ (∀ j k, j < v1.toInt.toNat → k < v1.toInt.toNat → (M_6 41 (j * 7 + k)).toInt = (ckM (FdC M_5 1) (M_5 38) (M_5 39) (RwN (M_6 40))) j k) ∧ ∀ s, s < 2 ^ v1.toInt.toNat → LeS (ckM (FdC M_5 1) (M_5 38) (M_5 39) (RwN (M_6 40))) v1.toInt.toNat s (bcN s) (M_6 42 s).toInt := hma_97
              replace hg_M_6 : ∀ a i, ¬ (a = 40 ∨ a = 41 ∨ a = 42) → M_6 a i = M_5 a i := by exact fun a i q0 => hg_M_6 a i (by first | decide | (rcases hc0 with h | h <;> rw [h] <;> simp; done) | (rcases hb0 with h | h | h <;> rw [h] <;> simp; done) | (simp; done) | omega)
              rw [F5] at hma_97
              have rg := rd_g (G := (FdC M 1)) (w := RwN (M_6 40)) rd
              refine wp_ite (fun c103 => ?_) (fun c103 => ?_)
              · refine wp_bind2 (oq5_X0_wayInAll M_6) (fun r_8 he110 hq110 => ?_)
                have hwa_110 := hq110
                replace hwa_110 : r_8 = M_6 42 0 := hwa_110
                exact wp_some ⟨(fun a i q0 => ((hg_M_6 a i (fun z8 => q0 ((fun z9 => Or.elim z9 (fun h9 => Or.inr (Or.inr (Or.inr (Or.inr (Or.inr (Or.inr (Or.inl h9))))))) (fun z9 => Or.elim z9 (fun h9 => Or.inr (Or.inr (Or.inr (Or.inr (Or.inr (Or.inr (Or.inr (Or.inl h9)))))))) (fun h9 => Or.inr (Or.inr (Or.inr (Or.inr (Or.inr (Or.inr (Or.inr (Or.inr (h9))))))))))) z8))).trans ((hg_M_5 a i (fun z8 => q0 ((fun z9 => Or.elim z9 (fun h9 => Or.inr (Or.inr (Or.inr (Or.inr (Or.inl h9))))) (fun h9 => Or.inr (Or.inr (Or.inr (Or.inr (Or.inr (Or.inl h9))))))) z8))).trans ((hg_M_2 a i (fun z8 => q0 ((fun z9 => Or.elim z9 (fun h9 => Or.inl h9) (fun z9 => Or.elim z9 (fun h9 => Or.inr (Or.inl h9)) (fun z9 => Or.elim z9 (fun h9 => Or.inr (Or.inr (Or.inl h9))) (fun h9 => Or.inr (Or.inr (Or.inr (Or.inl h9))))))) z8))).trans rfl)))), (by show (M_6 19 1).toInt = _; rw [if_pos (by omega), show M_6 19 1 = M_2 19 1 from ((hg_M_6 19 1 (by first | decide | (rcases hc0 with h | h <;> rw [h] <;> simp; done) | (rcases hb0 with h | h | h <;> rw [h] <;> simp; done) | (simp; done) | omega)).trans ((hg_M_5 19 1 (by first | decide | (rcases hc0 with h | h <;> rw [h] <;> simp; done) | (rcases hb0 with h | h | h <;> rw [h] <;> simp; done) | (simp; done) | omega)).trans rfl)), hS_53]; exact nI0), (Or.inr ⟨hW, Or.inr ⟨_, _, hma_97.1.choose_spec, Or.inr ⟨rk.1, Or.inl ⟨c103, by have z := hma_97.2.2.2 0 (by have z := ck_p v1.toInt.toNat (by omega); omega); rw [ck_b0] at z; rw [hwa_110]; exact les_g z rg⟩⟩⟩⟩)⟩
              · refine wp_bind2 (oq5_X0_stoneOf M_6 v1 v2 (ckM (FdC M 1) (M_5 38) (M_5 39) (RwN (M_6 40))) (by omega) (h46.resolve_left c103) (fun j k hj hk => ⟨hma_97.2.2.1 j k hj hk, ckm_b hGd hma_97.1.choose_spec.2 rk.2 j k hj hk⟩) hma_97.2.2.2) (fun r_7 he122 hq122 => ?_)
                have hso_122 := hq122
                replace hso_122 : ∃ s, SoI (ckM (FdC M 1) (M_5 38) (M_5 39) (RwN (M_6 40))) v1.toInt.toNat s (ix v2 + 1) (M_6 40) r_7 := hso_122
                exact wp_some ⟨(fun a i q0 => ((hg_M_6 a i (fun z8 => q0 ((fun z9 => Or.elim z9 (fun h9 => Or.inr (Or.inr (Or.inr (Or.inr (Or.inr (Or.inr (Or.inl h9))))))) (fun z9 => Or.elim z9 (fun h9 => Or.inr (Or.inr (Or.inr (Or.inr (Or.inr (Or.inr (Or.inr (Or.inl h9)))))))) (fun h9 => Or.inr (Or.inr (Or.inr (Or.inr (Or.inr (Or.inr (Or.inr (Or.inr (h9))))))))))) z8))).trans ((hg_M_5 a i (fun z8 => q0 ((fun z9 => Or.elim z9 (fun h9 => Or.inr (Or.inr (Or.inr (Or.inr (Or.inl h9))))) (fun h9 => Or.inr (Or.inr (Or.inr (Or.inr (Or.inr (Or.inl h9))))))) z8))).trans ((hg_M_2 a i (fun z8 => q0 ((fun z9 => Or.elim z9 (fun h9 => Or.inl h9) (fun z9 => Or.elim z9 (fun h9 => Or.inr (Or.inl h9)) (fun z9 => Or.elim z9 (fun h9 => Or.inr (Or.inr (Or.inl h9))) (fun h9 => Or.inr (Or.inr (Or.inr (Or.inl h9))))))) z8))).trans rfl)))), (by show (M_6 19 1).toInt = _; rw [if_pos (by omega), show M_6 19 1 = M_2 19 1 from ((hg_M_6 19 1 (by first | decide | (rcases hc0 with h | h <;> rw [h] <;> simp; done) | (rcases hb0 with h | h | h <;> rw [h] <;> simp; done) | (simp; done) | omega)).trans ((hg_M_5 19 1 (by first | decide | (rcases hc0 with h | h <;> rw [h] <;> simp; done) | (rcases hb0 with h | h | h <;> rw [h] <;> simp; done) | (simp; done) | omega)).trans rfl)), hS_53]; exact nI0), (Or.inr ⟨hW, Or.inr ⟨_, _, hma_97.1.choose_spec, Or.inr ⟨rk.1, by obtain ⟨s, hs⟩ := hso_122; exact so_e hs (by rfl) c103 hma_97.2.1 rg⟩⟩⟩)⟩
          · exact wp_some ⟨(fun a i q0 => ((hg_M_2 a i (fun z8 => q0 ((fun z9 => Or.elim z9 (fun h9 => Or.inl h9) (fun z9 => Or.elim z9 (fun h9 => Or.inr (Or.inl h9)) (fun z9 => Or.elim z9 (fun h9 => Or.inr (Or.inr (Or.inl h9))) (fun h9 => Or.inr (Or.inr (Or.inr (Or.inl h9))))))) z8))).trans rfl)), (by show (M_2 19 1).toInt = _; rw [if_pos (by omega), show M_2 19 1 = M_2 19 1 from rfl, hS_53]; exact nI0), (Or.inr ⟨hW, Or.inl ⟨by have z := cnt_n hTd hsm_60 (n := v1.toInt.toNat) (by omega); exact z, (show (-2 : Int32).toInt = -2 by decide)⟩⟩)⟩
        refine wp_ite (fun c32 => ?_) (fun c32 => ?_)
        · exact j46 (by omega)
        · refine wp_ite (fun c36 => ?_) (fun c36 => ?_)
          · exact wp_some ⟨(fun _ _ _ => rfl), (by show (M 19 1).toInt = _; rw [if_neg (by omega)]), (Or.inl ⟨fun z => (by rcases z.2.1 with q | q; omega; omega), (show (-1 : Int32).toInt = -1 by decide)⟩)⟩
          · refine wp_ite (fun c41 => ?_) (fun c41 => ?_)
            · exact j46 (by omega)
            · exact wp_some ⟨(fun _ _ _ => rfl), (by show (M 19 1).toInt = _; rw [if_neg (by omega)]), (Or.inl ⟨fun z => (by rcases z.2.1 with q | q; omega; omega), (show (-1 : Int32).toInt = -1 by decide)⟩)⟩
