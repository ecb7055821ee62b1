theorem o_X9_hold (M : Mem) (v1 : Int32) : Wp (f_X9_hold M v1) (fun q => (∀ a i, ¬ ((a = 30 ∧ i = 3) ∨ a = 31 ∨ a = 32 ∨ a = 33) → q.2 a i = M a i)) := by
  refine wp_bind2 (o_X9_strideOf M v1) (fun r_1 he2 hq2 => ?_)
  refine wp_ite (fun c7 => ?_) (fun c7 => ?_)
  · exact wp_some (fun _ _ _ => rfl)
  · refine wp_ite (fun c15 => ?_) (fun c15 => ?_)
    · refine wp_cb2 (o_X1_fewest (Or.inl rfl) M r_1) (fun r_2 M_3 he32 hq32 => ?_)
      have hg_M_3 := hq32
      replace hg_M_3 : ∀ a i, ¬ ((a = 30 ∧ i = 3) ∨ a = 31 ∨ a = 32 ∨ a = 33) → M_3 a i = M a i := by exact fun a i q0 => hg_M_3 a i (by first | decide | (rcases hc0 with h | h <;> rw [h] <;> simp; done) | (rcases hb0 with h | h | h <;> rw [h] <;> simp; done) | (simp; done) | omega)
      exact wp_some (fun a i q0 => ((hg_M_3 a i (fun z8 => q0 ((fun z9 => Or.elim z9 (fun h9 => Or.inl h9) (fun z9 => Or.elim z9 (fun h9 => Or.inr (Or.inl h9)) (fun z9 => Or.elim z9 (fun h9 => Or.inr (Or.inr (Or.inl h9))) (fun h9 => Or.inr (Or.inr (Or.inr (h9))))))) z8))).trans rfl))
    · exact wp_some (fun _ _ _ => rfl)
theorem o_X9_howFar (M : Mem) (v1 : Int32) : Wp (f_X9_howFar M v1) (fun q => (∀ a i, ¬ (a = 24 ∨ a = 26) → q.2 a i = M a i)) := by
  refine wp_bind2 (o_X9_strideOf M v1) (fun r_1 he2 hq2 => ?_)
  refine wp_ite (fun c7 => ?_) (fun c7 => ?_)
  · exact wp_some (fun _ _ _ => rfl)
  · refine wp_cb2 (o_X8_farthest (Or.inl rfl) M r_1) (fun r_2 M_3 he23 hq23 => ?_)
    have hg_M_3 := hq23
    replace hg_M_3 : ∀ a i, ¬ (a = 24 ∨ a = 26) → M_3 a i = M a i := by exact fun a i q0 => hg_M_3 a i (by first | decide | (rcases hc0 with h | h <;> rw [h] <;> simp; done) | (rcases hb0 with h | h | h <;> rw [h] <;> simp; done) | (simp; done) | omega)
    exact wp_some (fun a i q0 => ((hg_M_3 a i (fun z8 => q0 ((fun z9 => Or.elim z9 (fun h9 => Or.inl h9) (fun h9 => Or.inr (h9))) z8))).trans rfl))
theorem o_X9_isNights (M : Mem) (v0 : Int32) : Wp (f_X9_isNights v0) (fun q => (q = 0 ∨ q = 1)) := by
  refine wp_ite (fun c2 => ?_) (fun c2 => ?_)
  · exact wp_some b01_0
  · refine wp_ite (fun c8 => ?_) (fun c8 => ?_)
    · exact wp_some b01_0
    · exact wp_some b01_1
theorem o_X9_isStride (M : Mem) (v0 : Int32) : Wp (f_X9_isStride v0) (fun q => (q = 0 ∨ q = 1)) := by
  refine wp_ite (fun c2 => ?_) (fun c2 => ?_)
  · exact wp_some b01_0
  · refine wp_ite (fun c8 => ?_) (fun c8 => ?_)
    · exact wp_some b01_0
    · exact wp_some b01_1
theorem o_X9_islands (M : Mem) (v1 : Int32) (v2 : Int32) : Wp (f_X9_islands M v1 v2) (fun q => (∀ a i, ¬ (a = 24 ∨ a = 26) → q.2 a i = M a i)) := by
  refine wp_bind2 (o_X9_isStride M v1) (fun r_1 he1 hq1 => ?_)
  have hz_r_1 := hq1
  refine wp_ite (fun c4 => ?_) (fun c4 => ?_)
  · exact wp_some (fun _ _ _ => rfl)
  · refine wp_ite (fun c12 => ?_) (fun c12 => ?_)
    · refine wp_cb2 (o_X8_countIslands (Or.inl rfl) M v1) (fun r_5 M_6 he24 hq24 => ?_)
      have hg_M_6 := hq24
      replace hg_M_6 : ∀ a i, ¬ (a = 24 ∨ a = 26) → M_6 a i = M a i := by exact fun a i q0 => hg_M_6 a i (by first | decide | (rcases hc0 with h | h <;> rw [h] <;> simp; done) | (rcases hb0 with h | h | h <;> rw [h] <;> simp; done) | (simp; done) | omega)
      exact wp_some (fun a i q0 => ((hg_M_6 a i (fun z8 => q0 ((fun z9 => Or.elim z9 (fun h9 => Or.inl h9) (fun h9 => Or.inr (h9))) z8))).trans rfl))
    · refine wp_bind2 (o_X2_isTold (Or.inl rfl) M v2) (fun r_2 he33 hq33 => ?_)
      obtain ⟨hz_r_2, hr_33⟩ := hq33
      replace hr_33 : ¬ r_2.toInt = 0 → 0 ≤ v2.toInt ∧ v2.toInt < 40 := hr_33
      refine wp_ite (fun c36 => ?_) (fun c36 => ?_)
      · exact wp_some (fun _ _ _ => rfl)
      · refine wp_cb2 (o_X8_islandSize (Or.inl rfl) M v1 v2) (fun r_3 M_4 he49 hq49 => ?_)
        have hg_M_4 := hq49
        replace hg_M_4 : ∀ a i, ¬ (a = 24 ∨ a = 26) → M_4 a i = M a i := by exact fun a i q0 => hg_M_4 a i (by first | decide | (rcases hc0 with h | h <;> rw [h] <;> simp; done) | (rcases hb0 with h | h | h <;> rw [h] <;> simp; done) | (simp; done) | omega)
        exact wp_some (fun a i q0 => ((hg_M_4 a i (fun z8 => q0 ((fun z9 => Or.elim z9 (fun h9 => Or.inl h9) (fun h9 => Or.inr (h9))) z8))).trans rfl))
theorem o_X9_keep (M : Mem) : Wp (f_X9_keep M) (fun q => (∀ a i, ¬ ((a = 0 ∧ i = 12) ∨ (a = 7 ∧ i = 5) ∨ (a = 7 ∧ i = 6) ∨ a = 8 ∨ a = 9 ∨ a = 10 ∨ a = 11 ∨ a = 12) → q.2 a i = M a i)) := by
  refine wp_bind2 (o_X2_copyAll (Or.inr (Or.inl rfl)) (Or.inl rfl) M) (fun M_1 he8 hq8 => ?_)
  have hg_M_1 := hq8
  replace hg_M_1 : ∀ a i, ¬ ((a = 7 ∧ i = 5) ∨ (a = 7 ∧ i = 6) ∨ a = 8 ∨ a = 9 ∨ a = 10 ∨ a = 11 ∨ a = 12) → M_1 a i = M a i := by exact fun a i q0 => hg_M_1 a i (by first | decide | (rcases hc0 with h | h <;> rw [h] <;> simp; done) | (rcases hb0 with h | h | h <;> rw [h] <;> simp; done) | (simp; done) | omega)
  refine wp_bnd (fun M_2 eM_2 => ?_)
  exact wp_some (fun a i q0 => ((congrFun (congrFun eM_2 a) i).trans ((mset_ne (fun h9 => q0 (Or.inl h9))).trans ((hg_M_1 a i (fun z8 => q0 ((fun z9 => Or.elim z9 (fun h9 => Or.inr (Or.inl h9)) (fun z9 => Or.elim z9 (fun h9 => Or.inr (Or.inr (Or.inl h9))) (fun z9 => Or.elim z9 (fun h9 => Or.inr (Or.inr (Or.inr (Or.inl h9)))) (fun z9 => Or.elim z9 (fun h9 => Or.inr (Or.inr (Or.inr (Or.inr (Or.inl h9))))) (fun z9 => Or.elim z9 (fun h9 => Or.inr (Or.inr (Or.inr (Or.inr (Or.inr (Or.inl h9)))))) (fun z9 => Or.elim z9 (fun h9 => Or.inr (Or.inr (Or.inr (Or.inr (Or.inr (Or.inr (Or.inl h9))))))) (fun h9 => Or.inr (Or.inr (Or.inr (Or.inr (Or.inr (Or.inr (Or.inr (h9)))))))))))))) z8))).trans rfl))))
theorem o_X9_key (M : Mem) (v1 : Int32) (v2 : Int32) : Wp (f_X9_key M v1 v2) (fun q => (∀ a i, ¬ ((a = 13 ∧ i = 5) ∨ (a = 13 ∧ i = 6) ∨ a = 14 ∨ a = 15 ∨ a = 16 ∨ a = 17 ∨ a = 18 ∨ a = 24 ∨ a = 26) → q.2 a i = M a i)) := by
  refine wp_bind2 (o_X9_strideOf M v1) (fun r_1 he2 hq2 => ?_)
  refine wp_ite (fun c7 => ?_) (fun c7 => ?_)
  · exact wp_some (fun _ _ _ => rfl)
  · refine wp_bind2 (o_X9_isEither M v2) (fun r_2 he11 hq11 => ?_)
    have hz_r_2 := hq11
    refine wp_ite (fun c14 => ?_) (fun c14 => ?_)
    · exact wp_some (fun _ _ _ => rfl)
    · refine wp_cb2 (o_X8_canCross (Or.inl rfl) M r_1) (fun r_3 M_4 he28 hq28 => ?_)
      obtain ⟨hz_r_3, hg_M_4⟩ := hq28
      replace hg_M_4 : ∀ a i, ¬ (a = 24 ∨ a = 26) → M_4 a i = M a i := by exact fun a i q0 => hg_M_4 a i (by first | decide | (rcases hc0 with h | h <;> rw [h] <;> simp; done) | (rcases hb0 with h | h | h <;> rw [h] <;> simp; done) | (simp; done) | omega)
      refine wp_ite (fun c31 => ?_) (fun c31 => ?_)
      · exact wp_some (fun a i q0 => ((hg_M_4 a i (fun z8 => q0 ((fun z9 => Or.elim z9 (fun h9 => Or.inr (Or.inr (Or.inr (Or.inr (Or.inr (Or.inr (Or.inr (Or.inl h9)))))))) (fun h9 => Or.inr (Or.inr (Or.inr (Or.inr (Or.inr (Or.inr (Or.inr (Or.inr (h9)))))))))) z8))).trans rfl))
      · refine wp_bind2 (o_X2_copyAll (Or.inr (Or.inr rfl)) (Or.inl rfl) M_4) (fun M_5 he45 hq45 => ?_)
        have hg_M_5 := hq45
        replace hg_M_5 : ∀ a i, ¬ ((a = 13 ∧ i = 5) ∨ (a = 13 ∧ i = 6) ∨ a = 14 ∨ a = 15 ∨ a = 16 ∨ a = 17 ∨ a = 18) → M_5 a i = M_4 a i := by exact fun a i q0 => hg_M_5 a i (by first | decide | (rcases hc0 with h | h <;> rw [h] <;> simp; done) | (rcases hb0 with h | h | h <;> rw [h] <;> simp; done) | (simp; done) | omega)
        refine wp_lp4 (fun M59 y4_59 y5_59 y6_59 => (y6_59.toInt ≤ 39) ∧ (∀ a i, ¬ (a = 18 ∨ a = 24 ∨ a = 26) → M59 a i = M_5 a i)) (fun M59 y4_59 y5_59 y6_59 => (y6_59.toInt - 0 + 1).toNat) (fun ag59 M59 y4_59 y5_59 y6_59 hI59 ih59 => ?_) FU M_5 (nI 0) (-2) (nI 39) ⟨(by have f0 := t_lit 39; omega), (fun _ _ _ => rfl)⟩ (fu_lt (by have f0 := t_lit 39; omega))
        obtain ⟨hi59, hf_M59⟩ := hI59
        have j94 : Wp (f_X9_key_L94 v2 M59 y4_59 y5_59) (fun q => (∀ a i, ¬ ((a = 13 ∧ i = 5) ∨ (a = 13 ∧ i = 6) ∨ a = 14 ∨ a = 15 ∨ a = 16 ∨ a = 17 ∨ a = 18 ∨ a = 24 ∨ a = 26) → q.2 a i = M a i)) := by
          unfold f_X9_key_L94
          refine wp_ite (fun c95 => ?_) (fun c95 => ?_)
          · exact wp_some (fun a i q0 => ((hf_M59 a i (fun z8 => q0 ((fun z9 => Or.elim z9 (fun h9 => Or.inr (Or.inr (Or.inr (Or.inr (Or.inr (Or.inr (Or.inl h9))))))) (fun z9 => Or.elim z9 (fun h9 => Or.inr (Or.inr (Or.inr (Or.inr (Or.inr (Or.inr (Or.inr (Or.inl h9)))))))) (fun h9 => Or.inr (Or.inr (Or.inr (Or.inr (Or.inr (Or.inr (Or.inr (Or.inr (h9))))))))))) z8))).trans ((hg_M_5 a i (fun z8 => q0 ((fun z9 => Or.elim z9 (fun h9 => Or.inl h9) (fun z9 => Or.elim z9 (fun h9 => Or.inr (Or.inl h9)) (fun z9 => Or.elim z9 (fun h9 => Or.inr (Or.inr (Or.inl h9))) (fun z9 => Or.elim z9 (fun h9 => Or.inr (Or.inr (Or.inr (Or.inl h9)))) (fun z9 => Or.elim z9 (fun h9 => Or.inr (Or.inr (Or.inr (Or.inr (Or.inl h9))))) (fun z9 => Or.elim z9 (fun h9 => Or.inr (Or.inr (Or.inr (Or.inr (Or.inr (Or.inl h9)))))) (fun h9 => Or.inr (Or.inr (Or.inr (Or.inr (Or.inr (Or.inr (Or.inl h9))))))))))))) z8))).trans ((hg_M_4 a i (fun z8 => q0 ((fun z9 => Or.elim z9 (fun h9 => Or.inr (Or.inr (Or.inr (Or.inr (Or.inr (Or.inr (Or.inr (Or.inl h9)))))))) (fun h9 => Or.inr (Or.inr (Or.inr (Or.inr (Or.inr (Or.inr (Or.inr (Or.inr (h9)))))))))) z8))).trans rfl))))
          · exact wp_some (fun a i q0 => ((hf_M59 a i (fun z8 => q0 ((fun z9 => Or.elim z9 (fun h9 => Or.inr (Or.inr (Or.inr (Or.inr (Or.inr (Or.inr (Or.inl h9))))))) (fun z9 => Or.elim z9 (fun h9 => Or.inr (Or.inr (Or.inr (Or.inr (Or.inr (Or.inr (Or.inr (Or.inl h9)))))))) (fun h9 => Or.inr (Or.inr (Or.inr (Or.inr (Or.inr (Or.inr (Or.inr (Or.inr (h9))))))))))) z8))).trans ((hg_M_5 a i (fun z8 => q0 ((fun z9 => Or.elim z9 (fun h9 => Or.inl h9) (fun z9 => Or.elim z9 (fun h9 => Or.inr (Or.inl h9)) (fun z9 => Or.elim z9 (fun h9 => Or.inr (Or.inr (Or.inl h9))) (fun z9 => Or.elim z9 (fun h9 => Or.inr (Or.inr (Or.inr (Or.inl h9)))) (fun z9 => Or.elim z9 (fun h9 => Or.inr (Or.inr (Or.inr (Or.inr (Or.inl h9))))) (fun z9 => Or.elim z9 (fun h9 => Or.inr (Or.inr (Or.inr (Or.inr (Or.inr (Or.inl h9)))))) (fun h9 => Or.inr (Or.inr (Or.inr (Or.inr (Or.inr (Or.inr (Or.inl h9))))))))))))) z8))).trans ((hg_M_4 a i (fun z8 => q0 ((fun z9 => Or.elim z9 (fun h9 => Or.inr (Or.inr (Or.inr (Or.inr (Or.inr (Or.inr (Or.inr (Or.inl h9)))))))) (fun h9 => Or.inr (Or.inr (Or.inr (Or.inr (Or.inr (Or.inr (Or.inr (Or.inr (h9)))))))))) z8))).trans rfl))))
        refine wp_ite (fun c61 => ?_) (fun c61 => ?_)
        · exact j94
        · refine wp_cb2 (o_X8_needs (Or.inr (Or.inr rfl)) M59 r_1 y6_59) (fun r_6 M_7 he75 hq75 => ?_)
          obtain ⟨hz_r_6, hg_M_7⟩ := hq75
          replace hg_M_7 : ∀ a i, ¬ (a = 18 ∨ a = 24 ∨ a = 26) → M_7 a i = M59 a i := by exact fun a i q0 => hg_M_7 a i (by first | decide | (rcases hc0 with h | h <;> rw [h] <;> simp; done) | (rcases hb0 with h | h | h <;> rw [h] <;> simp; done) | (simp; done) | omega)
          refine wp_ite (fun c78 => ?_) (fun c78 => ?_)
          · exact ih59 M_7 y4_59 y5_59 (y6_59 + (-1)) ⟨(by have f0 := (by decide : ((-1 : Int32)).toInt = -1); have f1 := t_add y6_59 (-1); omega), (fun a i q0 => ((hg_M_7 a i (fun z8 => q0 ((fun z9 => Or.elim z9 (fun h9 => Or.inl h9) (fun z9 => Or.elim z9 (fun h9 => Or.inr (Or.inl h9)) (fun h9 => Or.inr (Or.inr (h9))))) z8))).trans ((hf_M59 a i (fun z8 => q0 ((fun z9 => Or.elim z9 (fun h9 => Or.inl h9) (fun z9 => Or.elim z9 (fun h9 => Or.inr (Or.inl h9)) (fun h9 => Or.inr (Or.inr (h9))))) z8))).trans rfl)))⟩ (by have f0 := (by decide : ((-1 : Int32)).toInt = -1); have f1 := t_add y6_59 (-1); omega)
          · exact ih59 M_7 (y4_59 + (nI 1)) y6_59 (y6_59 + (-1)) ⟨(by have f0 := (by decide : ((-1 : Int32)).toInt = -1); have f1 := t_add y6_59 (-1); omega), (fun a i q0 => ((hg_M_7 a i (fun z8 => q0 ((fun z9 => Or.elim z9 (fun h9 => Or.inl h9) (fun z9 => Or.elim z9 (fun h9 => Or.inr (Or.inl h9)) (fun h9 => Or.inr (Or.inr (h9))))) z8))).trans ((hf_M59 a i (fun z8 => q0 ((fun z9 => Or.elim z9 (fun h9 => Or.inl h9) (fun z9 => Or.elim z9 (fun h9 => Or.inr (Or.inl h9)) (fun h9 => Or.inr (Or.inr (h9))))) z8))).trans rfl)))⟩ (by have f0 := (by decide : ((-1 : Int32)).toInt = -1); have f1 := t_add y6_59 (-1); omega)
theorem o_X9_law (M : Mem) (v1 : Int32) (hL10 : (M 0 10).toInt = 44 ∨ (M 0 10).toInt = 52) (hL11 : (M 0 11).toInt = 44 ∨ (M 0 11).toInt = 52) : Wp (f_X9_law M v1) (fun q => (∀ a i, ¬ ((a = 0 ∧ i = 10) ∨ (a = 0 ∧ i = 11) ∨ (a = 19 ∧ i = 1) ∨ (a = 19 ∧ i = 2) ∨ (a = 19 ∧ i = 3) ∨ (a = 19 ∧ i = 4) ∨ (a = 44 ∧ i = 7) ∨ (a = 44 ∧ i = 8) ∨ (a = 44 ∧ i = 9) ∨ a = 45 ∨ a = 46 ∨ a = 48 ∨ a = 49 ∨ a = 50 ∨ a = 51 ∨ (a = 52 ∧ i = 7) ∨ (a = 52 ∧ i = 8) ∨ (a = 52 ∧ i = 9) ∨ a = 53 ∨ a = 54 ∨ a = 56 ∨ a = 57 ∨ a = 58 ∨ a = 59) → q.2 a i = M a i) ∧ ((q.2 0 10).toInt = 44 ∨ (q.2 0 10).toInt = 52) ∧ ((q.2 0 11).toInt = 44 ∨ (q.2 0 11).toInt = 52)) := by
  refine wp_bind2 (o_X7_holds M v1 (nI 1) (nI 240)) (fun r_1 he9 hq9 => ?_)
  obtain ⟨hz_r_1, hr_9⟩ := hq9
  replace hr_9 : ¬ r_1.toInt = 0 → (nI 1).toInt ≤ v1.toInt ∧ v1.toInt ≤ (nI 240).toInt ∧ v1.toInt ≤ (M 19 1).toInt := hr_9
  have := t_lit 1
  have := t_lit 240
  refine wp_ite (fun c12 => ?_) (fun c12 => ?_)
  · exact wp_some ⟨(fun _ _ _ => rfl), (by show (M 0 10).toInt = 44 ∨ (M 0 10).toInt = 52; have f0 := (by decide : ((-1 : Int32)).toInt = -1); omega), (by show (M 0 11).toInt = 44 ∨ (M 0 11).toInt = 52; have f0 := (by decide : ((-1 : Int32)).toInt = -1); omega)⟩
  · refine wp_bind2 (o_X7_open M v1) (fun M_2 he22 hq22 => ?_)
    have hg_M_2 := hq22
    replace hg_M_2 : ∀ a i, ¬ ((a = 19 ∧ i = 1) ∨ (a = 19 ∧ i = 2) ∨ (a = 19 ∧ i = 3) ∨ (a = 19 ∧ i = 4)) → M_2 a i = M a i := hg_M_2
    refine wp_rl (by have f0 := congrArg Int32.toInt (hg_M_2 0 11 (by first | decide | (rcases hc0 with h | h <;> rw [h] <;> simp; done) | (rcases hb0 with h | h | h <;> rw [h] <;> simp; done) | (simp; done) | omega)); omega) (fun c_3 hc_3 ecc_3 => ?_)
    have hc_30 : c_3 = 44 ∨ c_3 = 52 := hc_3
    refine wp_cb2 (o_X3_compile hc_3 M_2) (fun r_4 M_5 he33 hq33 => ?_)
    have hg_M_5 := hq33
    replace hg_M_5 : ∀ a i, ¬ ((a = 19 ∧ i = 3) ∨ (a = 19 ∧ i = 4) ∨ (a = 44 ∧ i = 7) ∨ (a = 44 ∧ i = 8) ∨ (a = 44 ∧ i = 9) ∨ a = 45 ∨ a = 46 ∨ a = 48 ∨ a = 49 ∨ a = 50 ∨ a = 51 ∨ (a = 52 ∧ i = 7) ∨ (a = 52 ∧ i = 8) ∨ (a = 52 ∧ i = 9) ∨ a = 53 ∨ a = 54 ∨ a = 56 ∨ a = 57 ∨ a = 58 ∨ a = 59) → M_5 a i = M_2 a i := by rcases hc_30 with e9 | e9 <;> subst e9 <;> exact fun a i q0 => hg_M_5 a i (by first | decide | (rcases hc0 with h | h <;> rw [h] <;> simp; done) | (rcases hb0 with h | h | h <;> rw [h] <;> simp; done) | (simp; done) | omega)
    refine wp_ite (fun c38 => ?_) (fun c38 => ?_)
    · exact wp_some ⟨(fun a i q0 => ((hg_M_5 a i (fun z8 => q0 ((fun z9 => Or.elim z9 (fun h9 => Or.inr (Or.inr (Or.inr (Or.inr (Or.inl h9))))) (fun z9 => Or.elim z9 (fun h9 => Or.inr (Or.inr (Or.inr (Or.inr (Or.inr (Or.inl h9)))))) (fun z9 => Or.elim z9 (fun h9 => Or.inr (Or.inr (Or.inr (Or.inr (Or.inr (Or.inr (Or.inl h9))))))) (fun z9 => Or.elim z9 (fun h9 => Or.inr (Or.inr (Or.inr (Or.inr (Or.inr (Or.inr (Or.inr (Or.inl h9)))))))) (fun z9 => Or.elim z9 (fun h9 => Or.inr (Or.inr (Or.inr (Or.inr (Or.inr (Or.inr (Or.inr (Or.inr (Or.inl h9))))))))) (fun z9 => Or.elim z9 (fun h9 => Or.inr (Or.inr (Or.inr (Or.inr (Or.inr (Or.inr (Or.inr (Or.inr (Or.inr (Or.inl h9)))))))))) (fun z9 => Or.elim z9 (fun h9 => Or.inr (Or.inr (Or.inr (Or.inr (Or.inr (Or.inr (Or.inr (Or.inr (Or.inr (Or.inr (Or.inl h9))))))))))) (fun z9 => Or.elim z9 (fun h9 => Or.inr (Or.inr (Or.inr (Or.inr (Or.inr (Or.inr (Or.inr (Or.inr (Or.inr (Or.inr (Or.inr (Or.inl h9)))))))))))) (fun z9 => Or.elim z9 (fun h9 => Or.inr (Or.inr (Or.inr (Or.inr (Or.inr (Or.inr (Or.inr (Or.inr (Or.inr (Or.inr (Or.inr (Or.inr (Or.inl h9))))))))))))) (fun z9 => Or.elim z9 (fun h9 => Or.inr (Or.inr (Or.inr (Or.inr (Or.inr (Or.inr (Or.inr (Or.inr (Or.inr (Or.inr (Or.inr (Or.inr (Or.inr (Or.inl h9)))))))))))))) (fun z9 => Or.elim z9 (fun h9 => Or.inr (Or.inr (Or.inr (Or.inr (Or.inr (Or.inr (Or.inr (Or.inr (Or.inr (Or.inr (Or.inr (Or.inr (Or.inr (Or.inr (Or.inl h9))))))))))))))) (fun z9 => Or.elim z9 (fun h9 => Or.inr (Or.inr (Or.inr (Or.inr (Or.inr (Or.inr (Or.inr (Or.inr (Or.inr (Or.inr (Or.inr (Or.inr (Or.inr (Or.inr (Or.inr (Or.inl h9)))))))))))))))) (fun z9 => Or.elim z9 (fun h9 => Or.inr (Or.inr (Or.inr (Or.inr (Or.inr (Or.inr (Or.inr (Or.inr (Or.inr (Or.inr (Or.inr (Or.inr (Or.inr (Or.inr (Or.inr (Or.inr (Or.inl h9))))))))))))))))) (fun z9 => Or.elim z9 (fun h9 => Or.inr (Or.inr (Or.inr (Or.inr (Or.inr (Or.inr (Or.inr (Or.inr (Or.inr (Or.inr (Or.inr (Or.inr (Or.inr (Or.inr (Or.inr (Or.inr (Or.inr (Or.inl h9)))))))))))))))))) (fun z9 => Or.elim z9 (fun h9 => Or.inr (Or.inr (Or.inr (Or.inr (Or.inr (Or.inr (Or.inr (Or.inr (Or.inr (Or.inr (Or.inr (Or.inr (Or.inr (Or.inr (Or.inr (Or.inr (Or.inr (Or.inr (Or.inl h9))))))))))))))))))) (fun z9 => Or.elim z9 (fun h9 => Or.inr (Or.inr (Or.inr (Or.inr (Or.inr (Or.inr (Or.inr (Or.inr (Or.inr (Or.inr (Or.inr (Or.inr (Or.inr (Or.inr (Or.inr (Or.inr (Or.inr (Or.inr (Or.inr (Or.inl h9)))))))))))))))))))) (fun z9 => Or.elim z9 (fun h9 => Or.inr (Or.inr (Or.inr (Or.inr (Or.inr (Or.inr (Or.inr (Or.inr (Or.inr (Or.inr (Or.inr (Or.inr (Or.inr (Or.inr (Or.inr (Or.inr (Or.inr (Or.inr (Or.inr (Or.inr (Or.inl h9))))))))))))))))))))) (fun z9 => Or.elim z9 (fun h9 => Or.inr (Or.inr (Or.inr (Or.inr (Or.inr (Or.inr (Or.inr (Or.inr (Or.inr (Or.inr (Or.inr (Or.inr (Or.inr (Or.inr (Or.inr (Or.inr (Or.inr (Or.inr (Or.inr (Or.inr (Or.inr (Or.inl h9)))))))))))))))))))))) (fun z9 => Or.elim z9 (fun h9 => Or.inr (Or.inr (Or.inr (Or.inr (Or.inr (Or.inr (Or.inr (Or.inr (Or.inr (Or.inr (Or.inr (Or.inr (Or.inr (Or.inr (Or.inr (Or.inr (Or.inr (Or.inr (Or.inr (Or.inr (Or.inr (Or.inr (Or.inl h9))))))))))))))))))))))) (fun h9 => Or.inr (Or.inr (Or.inr (Or.inr (Or.inr (Or.inr (Or.inr (Or.inr (Or.inr (Or.inr (Or.inr (Or.inr (Or.inr (Or.inr (Or.inr (Or.inr (Or.inr (Or.inr (Or.inr (Or.inr (Or.inr (Or.inr (Or.inr (h9))))))))))))))))))))))))))))))))))))))))))) z8))).trans ((hg_M_2 a i (fun z8 => q0 ((fun z9 => Or.elim z9 (fun h9 => Or.inr (Or.inr (Or.inl h9))) (fun z9 => Or.elim z9 (fun h9 => Or.inr (Or.inr (Or.inr (Or.inl h9)))) (fun z9 => Or.elim z9 (fun h9 => Or.inr (Or.inr (Or.inr (Or.inr (Or.inl h9))))) (fun h9 => Or.inr (Or.inr (Or.inr (Or.inr (Or.inr (Or.inl h9))))))))) z8))).trans rfl))), (by show (M_5 0 10).toInt = 44 ∨ (M_5 0 10).toInt = 52; have f0 := congrArg Int32.toInt (hg_M_5 0 10 (by first | decide | (rcases hc0 with h | h <;> rw [h] <;> simp; done) | (rcases hb0 with h | h | h <;> rw [h] <;> simp; done) | (simp; done) | omega)); have f1 := congrArg Int32.toInt (hg_M_2 0 10 (by first | decide | (rcases hc0 with h | h <;> rw [h] <;> simp; done) | (rcases hb0 with h | h | h <;> rw [h] <;> simp; done) | (simp; done) | omega)); omega), (by show (M_5 0 11).toInt = 44 ∨ (M_5 0 11).toInt = 52; have f0 := congrArg Int32.toInt (hg_M_5 0 11 (by first | decide | (rcases hc0 with h | h <;> rw [h] <;> simp; done) | (rcases hb0 with h | h | h <;> rw [h] <;> simp; done) | (simp; done) | omega)); have f1 := congrArg Int32.toInt (hg_M_2 0 11 (by first | decide | (rcases hc0 with h | h <;> rw [h] <;> simp; done) | (rcases hb0 with h | h | h <;> rw [h] <;> simp; done) | (simp; done) | omega)); omega)⟩
    · refine wp_rl (by have f0 := congrArg Int32.toInt (hg_M_5 0 10 (by first | decide | (rcases hc0 with h | h <;> rw [h] <;> simp; done) | (rcases hb0 with h | h | h <;> rw [h] <;> simp; done) | (simp; done) | omega)); have f1 := congrArg Int32.toInt (hg_M_2 0 10 (by first | decide | (rcases hc0 with h | h <;> rw [h] <;> simp; done) | (rcases hb0 with h | h | h <;> rw [h] <;> simp; done) | (simp; done) | omega)); omega) (fun c_6 hc_6 ecc_6 => ?_)
      have hc_60 : c_6 = 44 ∨ c_6 = 52 := hc_6
      refine wp_rl (by have f0 := congrArg Int32.toInt (hg_M_5 0 11 (by first | decide | (rcases hc0 with h | h <;> rw [h] <;> simp; done) | (rcases hb0 with h | h | h <;> rw [h] <;> simp; done) | (simp; done) | omega)); have f1 := congrArg Int32.toInt (hg_M_2 0 11 (by first | decide | (rcases hc0 with h | h <;> rw [h] <;> simp; done) | (rcases hb0 with h | h | h <;> rw [h] <;> simp; done) | (simp; done) | omega)); omega) (fun c_7 hc_7 ecc_7 => ?_)
      have hc_70 : c_7 = 44 ∨ c_7 = 52 := hc_7
      refine wp_bnd (fun M_8 eM_8 => ?_)
      refine wp_bnd (fun M_9 eM_9 => ?_)
      exact wp_some ⟨(fun a i q0 => ((congrFun (congrFun eM_9 a) i).trans ((mset_ne (fun h9 => q0 (Or.inr (Or.inl h9)))).trans ((congrFun (congrFun eM_8 a) i).trans ((mset_ne (fun h9 => q0 (Or.inl h9))).trans ((hg_M_5 a i (fun z8 => q0 ((fun z9 => Or.elim z9 (fun h9 => Or.inr (Or.inr (Or.inr (Or.inr (Or.inl h9))))) (fun z9 => Or.elim z9 (fun h9 => Or.inr (Or.inr (Or.inr (Or.inr (Or.inr (Or.inl h9)))))) (fun z9 => Or.elim z9 (fun h9 => Or.inr (Or.inr (Or.inr (Or.inr (Or.inr (Or.inr (Or.inl h9))))))) (fun z9 => Or.elim z9 (fun h9 => Or.inr (Or.inr (Or.inr (Or.inr (Or.inr (Or.inr (Or.inr (Or.inl h9)))))))) (fun z9 => Or.elim z9 (fun h9 => Or.inr (Or.inr (Or.inr (Or.inr (Or.inr (Or.inr (Or.inr (Or.inr (Or.inl h9))))))))) (fun z9 => Or.elim z9 (fun h9 => Or.inr (Or.inr (Or.inr (Or.inr (Or.inr (Or.inr (Or.inr (Or.inr (Or.inr (Or.inl h9)))))))))) (fun z9 => Or.elim z9 (fun h9 => Or.inr (Or.inr (Or.inr (Or.inr (Or.inr (Or.inr (Or.inr (Or.inr (Or.inr (Or.inr (Or.inl h9))))))))))) (fun z9 => Or.elim z9 (fun h9 => Or.inr (Or.inr (Or.inr (Or.inr (Or.inr (Or.inr (Or.inr (Or.inr (Or.inr (Or.inr (Or.inr (Or.inl h9)))))))))))) (fun z9 => Or.elim z9 (fun h9 => Or.inr (Or.inr (Or.inr (Or.inr (Or.inr (Or.inr (Or.inr (Or.inr (Or.inr (Or.inr (Or.inr (Or.inr (Or.inl h9))))))))))))) (fun z9 => Or.elim z9 (fun h9 => Or.inr (Or.inr (Or.inr (Or.inr (Or.inr (Or.inr (Or.inr (Or.inr (Or.inr (Or.inr (Or.inr (Or.inr (Or.inr (Or.inl h9)))))))))))))) (fun z9 => Or.elim z9 (fun h9 => Or.inr (Or.inr (Or.inr (Or.inr (Or.inr (Or.inr (Or.inr (Or.inr (Or.inr (Or.inr (Or.inr (Or.inr (Or.inr (Or.inr (Or.inl h9))))))))))))))) (fun z9 => Or.elim z9 (fun h9 => Or.inr (Or.inr (Or.inr (Or.inr (Or.inr (Or.inr (Or.inr (Or.inr (Or.inr (Or.inr (Or.inr (Or.inr (Or.inr (Or.inr (Or.inr (Or.inl h9)))))))))))))))) (fun z9 => Or.elim z9 (fun h9 => Or.inr (Or.inr (Or.inr (Or.inr (Or.inr (Or.inr (Or.inr (Or.inr (Or.inr (Or.inr (Or.inr (Or.inr (Or.inr (Or.inr (Or.inr (Or.inr (Or.inl h9))))))))))))))))) (fun z9 => Or.elim z9 (fun h9 => Or.inr (Or.inr (Or.inr (Or.inr (Or.inr (Or.inr (Or.inr (Or.inr (Or.inr (Or.inr (Or.inr (Or.inr (Or.inr (Or.inr (Or.inr (Or.inr (Or.inr (Or.inl h9)))))))))))))))))) (fun z9 => Or.elim z9 (fun h9 => Or.inr (Or.inr (Or.inr (Or.inr (Or.inr (Or.inr (Or.inr (Or.inr (Or.inr (Or.inr (Or.inr (Or.inr (Or.inr (Or.inr (Or.inr (Or.inr (Or.inr (Or.inr (Or.inl h9))))))))))))))))))) (fun z9 => Or.elim z9 (fun h9 => Or.inr (Or.inr (Or.inr (Or.inr (Or.inr (Or.inr (Or.inr (Or.inr (Or.inr (Or.inr (Or.inr (Or.inr (Or.inr (Or.inr (Or.inr (Or.inr (Or.inr (Or.inr (Or.inr (Or.inl h9)))))))))))))))))))) (fun z9 => Or.elim z9 (fun h9 => Or.inr (Or.inr (Or.inr (Or.inr (Or.inr (Or.inr (Or.inr (Or.inr (Or.inr (Or.inr (Or.inr (Or.inr (Or.inr (Or.inr (Or.inr (Or.inr (Or.inr (Or.inr (Or.inr (Or.inr (Or.inl h9))))))))))))))))))))) (fun z9 => Or.elim z9 (fun h9 => Or.inr (Or.inr (Or.inr (Or.inr (Or.inr (Or.inr (Or.inr (Or.inr (Or.inr (Or.inr (Or.inr (Or.inr (Or.inr (Or.inr (Or.inr (Or.inr (Or.inr (Or.inr (Or.inr (Or.inr (Or.inr (Or.inl h9)))))))))))))))))))))) (fun z9 => Or.elim z9 (fun h9 => Or.inr (Or.inr (Or.inr (Or.inr (Or.inr (Or.inr (Or.inr (Or.inr (Or.inr (Or.inr (Or.inr (Or.inr (Or.inr (Or.inr (Or.inr (Or.inr (Or.inr (Or.inr (Or.inr (Or.inr (Or.inr (Or.inr (Or.inl h9))))))))))))))))))))))) (fun h9 => Or.inr (Or.inr (Or.inr (Or.inr (Or.inr (Or.inr (Or.inr (Or.inr (Or.inr (Or.inr (Or.inr (Or.inr (Or.inr (Or.inr (Or.inr (Or.inr (Or.inr (Or.inr (Or.inr (Or.inr (Or.inr (Or.inr (Or.inr (h9))))))))))))))))))))))))))))))))))))))))))) z8))).trans ((hg_M_2 a i (fun z8 => q0 ((fun z9 => Or.elim z9 (fun h9 => Or.inr (Or.inr (Or.inl h9))) (fun z9 => Or.elim z9 (fun h9 => Or.inr (Or.inr (Or.inr (Or.inl h9)))) (fun z9 => Or.elim z9 (fun h9 => Or.inr (Or.inr (Or.inr (Or.inr (Or.inl h9))))) (fun h9 => Or.inr (Or.inr (Or.inr (Or.inr (Or.inr (Or.inl h9))))))))) z8))).trans rfl))))))), (by show (M_9 0 10).toInt = 44 ∨ (M_9 0 10).toInt = 52; have f0 := congrArg Int32.toInt ((congrFun (congrFun eM_9 0) 10).trans (mset_ne (by first | exact nz1 (by decide) | exact nz2 (by decide) | exact nz1 (nzA hc0 (by decide)) | exact nz1 (nzE (by decide)) | exact nz1 (nzB hc0 (by decide)) | exact nz1 (nzC hc0 (by decide)) | exact nz1 (nzD hc0 (by decide)) | exact nz1 (nzF (by decide)) | exact nz1 (nzG (by decide)) | omega))); have f1 := congrArg Int32.toInt ((congrFun (congrFun eM_8 0) 10).trans mset_eq); have f2 := t_lit c_7 (by omega); omega), (by show (M_9 0 11).toInt = 44 ∨ (M_9 0 11).toInt = 52; have f0 := congrArg Int32.toInt ((congrFun (congrFun eM_9 0) 11).trans mset_eq); have f1 := t_lit c_6 (by omega); omega)⟩
theorem o_X9_leastStride (M : Mem) : Wp (f_X9_leastStride M) (fun q => (∀ a i, ¬ (a = 24 ∨ a = 26) → q.2 a i = M a i)) := by
  refine wp_lp2 (fun M2 y1_2 => (1 ≤ y1_2.toInt) ∧ (∀ a i, ¬ (a = 24 ∨ a = 26) → M2 a i = M a i)) (fun M2 y1_2 => (30 + 1 - y1_2.toInt).toNat) (fun ag2 M2 y1_2 hI2 ih2 => ?_) FU M (nI 1) ⟨(by have f0 := t_lit 1; omega), (fun _ _ _ => rfl)⟩ (fu_lt (by have f0 := t_lit 1; omega))
  obtain ⟨hi2, hf_M2⟩ := hI2
  refine wp_ite (fun c5 => ?_) (fun c5 => ?_)
  · exact wp_some (fun a i q0 => ((hf_M2 a i (fun z8 => q0 ((fun z9 => Or.elim z9 (fun h9 => Or.inl h9) (fun h9 => Or.inr (h9))) z8))).trans rfl))
  · refine wp_cb2 (o_X8_canCross (Or.inl rfl) M2 y1_2) (fun r_1 M_2 he17 hq17 => ?_)
    obtain ⟨hz_r_1, hg_M_2⟩ := hq17
    replace hg_M_2 : ∀ a i, ¬ (a = 24 ∨ a = 26) → M_2 a i = M2 a i := by exact fun a i q0 => hg_M_2 a i (by first | decide | (rcases hc0 with h | h <;> rw [h] <;> simp; done) | (rcases hb0 with h | h | h <;> rw [h] <;> simp; done) | (simp; done) | omega)
    refine wp_ite (fun c20 => ?_) (fun c20 => ?_)
    · exact ih2 M_2 (y1_2 + (nI 1)) ⟨(by have f0 := t_lit 1; have f1 := t_add y1_2 (nI 1); omega), (fun a i q0 => ((hg_M_2 a i (fun z8 => q0 ((fun z9 => Or.elim z9 (fun h9 => Or.inl h9) (fun h9 => Or.inr (h9))) z8))).trans ((hf_M2 a i (fun z8 => q0 ((fun z9 => Or.elim z9 (fun h9 => Or.inl h9) (fun h9 => Or.inr (h9))) z8))).trans rfl)))⟩ (by have f0 := t_lit 1; have f1 := t_add y1_2 (nI 1); omega)
    · exact wp_some (fun a i q0 => ((hg_M_2 a i (fun z8 => q0 ((fun z9 => Or.elim z9 (fun h9 => Or.inl h9) (fun h9 => Or.inr (h9))) z8))).trans ((hf_M2 a i (fun z8 => q0 ((fun z9 => Or.elim z9 (fun h9 => Or.inl h9) (fun h9 => Or.inr (h9))) z8))).trans rfl)))
theorem o_X9_letters (M : Mem) (v1 : Int32) (v2 : Int32) : Wp (f_X9_letters M v1 v2) (fun q => (∀ a i, ¬ ((a = 19 ∧ i = 1) ∨ (a = 19 ∧ i = 2) ∨ (a = 19 ∧ i = 3) ∨ (a = 19 ∧ i = 4)) → q.2 a i = M a i)) := by
  refine wp_bind2 (o_X9_isEither M v2) (fun r_1 he1 hq1 => ?_)
  have hz_r_1 := hq1
  refine wp_ite (fun c4 => ?_) (fun c4 => ?_)
  · exact wp_some (fun _ _ _ => rfl)
  · refine wp_bind2 (o_X7_holds M v1 (nI 1) (nI 8)) (fun r_2 he15 hq15 => ?_)
    obtain ⟨hz_r_2, hr_15⟩ := hq15
    replace hr_15 : ¬ r_2.toInt = 0 → (nI 1).toInt ≤ v1.toInt ∧ v1.toInt ≤ (nI 8).toInt ∧ v1.toInt ≤ (M 19 1).toInt := hr_15
    have := t_lit 1
    have := t_lit 8
    refine wp_ite (fun c18 => ?_) (fun c18 => ?_)
    · exact wp_some (fun _ _ _ => rfl)
    · refine wp_bind2 (o_X7_open M v1) (fun M_3 he28 hq28 => ?_)
      have hg_M_3 := hq28
      replace hg_M_3 : ∀ a i, ¬ ((a = 19 ∧ i = 1) ∨ (a = 19 ∧ i = 2) ∨ (a = 19 ∧ i = 3) ∨ (a = 19 ∧ i = 4)) → M_3 a i = M a i := hg_M_3
      have ft1 := t_rng v1
      refine wp_lp1 (fun y3_33 => (0 ≤ y3_33.toInt)) (fun y3_33 => (v1.toInt - y3_33.toInt).toNat) (fun ag33 y3_33 hI33 ih33 => ?_) FU (nI 0) (by have f0 := t_lit 0; omega) (fu_lt (by have f0 := t_lit 0; omega))
      have hi33 := hI33
      have j58 : Wp (f_X9_letters_L58 v1 v2 M_3) (fun q => (∀ a i, ¬ ((a = 19 ∧ i = 1) ∨ (a = 19 ∧ i = 2) ∨ (a = 19 ∧ i = 3) ∨ (a = 19 ∧ i = 4)) → q.2 a i = M a i)) := by
        unfold f_X9_letters_L58
        refine wp_bind2 (o_X9_evenBag M_3 v1 (by omega)) (fun r_4 he60 hq60 => ?_)
        refine wp_ite (fun c65 => ?_) (fun c65 => ?_)
        · refine wp_bind2 (o_X9_unlike M_3 r_4 v1) (fun r_5 he71 hq71 => ?_)
          exact wp_some (fun a i q0 => ((hg_M_3 a i (fun z8 => q0 ((fun z9 => Or.elim z9 (fun h9 => Or.inl h9) (fun z9 => Or.elim z9 (fun h9 => Or.inr (Or.inl h9)) (fun z9 => Or.elim z9 (fun h9 => Or.inr (Or.inr (Or.inl h9))) (fun h9 => Or.inr (Or.inr (Or.inr (h9))))))) z8))).trans rfl))
        · exact wp_some (fun a i q0 => ((hg_M_3 a i (fun z8 => q0 ((fun z9 => Or.elim z9 (fun h9 => Or.inl h9) (fun z9 => Or.elim z9 (fun h9 => Or.inr (Or.inl h9)) (fun z9 => Or.elim z9 (fun h9 => Or.inr (Or.inr (Or.inl h9))) (fun h9 => Or.inr (Or.inr (Or.inr (h9))))))) z8))).trans rfl))
      refine wp_ite (fun c35 => ?_) (fun c35 => ?_)
      · exact j58
      · refine wp_bind2 (o_X7_byteAt M_3 y3_33) (fun r_6 he43 hq43 => ?_)
        refine wp_ite (fun c46 => ?_) (fun c46 => ?_)
        · exact wp_some (fun a i q0 => ((hg_M_3 a i (fun z8 => q0 ((fun z9 => Or.elim z9 (fun h9 => Or.inl h9) (fun z9 => Or.elim z9 (fun h9 => Or.inr (Or.inl h9)) (fun z9 => Or.elim z9 (fun h9 => Or.inr (Or.inr (Or.inl h9))) (fun h9 => Or.inr (Or.inr (Or.inr (h9))))))) z8))).trans rfl))
        · exact ih33 (y3_33 + (nI 1)) (by have f0 := t_lit 1; have f1 := t_add y3_33 (nI 1); omega) (by have f0 := t_lit 1; have f1 := t_add y3_33 (nI 1); omega)
theorem o_X9_market (M : Mem) : Wp (f_X9_market M) (fun q => (∀ a i, ¬ (a = 24 ∨ a = 26) → q.2 a i = M a i)) := by
  refine wp_lp3 (fun M4 y1_4 y2_4 => (0 ≤ y2_4.toInt) ∧ (∀ a i, ¬ (a = 24 ∨ a = 26) → M4 a i = M a i)) (fun M4 y1_4 y2_4 => (8 - y2_4.toInt).toNat) (fun ag4 M4 y1_4 y2_4 hI4 ih4 => ?_) FU M (nI 0) (nI 0) ⟨(by have f0 := t_lit 0; omega), (fun _ _ _ => rfl)⟩ (fu_lt (by have f0 := t_lit 0; omega))
  obtain ⟨hi4, hf_M4⟩ := hI4
  refine wp_ite (fun c7 => ?_) (fun c7 => ?_)
  · exact wp_some (fun a i q0 => ((hf_M4 a i (fun z8 => q0 ((fun z9 => Or.elim z9 (fun h9 => Or.inl h9) (fun h9 => Or.inr (h9))) z8))).trans rfl))
  · refine wp_gd (by omega) ?_
    refine wp_ite (fun c16 => ?_) (fun c16 => ?_)
    · exact ih4 M4 y1_4 (y2_4 + (nI 1)) ⟨(by have f0 := t_lit 1; have f1 := t_add y2_4 (nI 1); have f2 := congrArg Int32.toInt (hf_M4 43 (ix y2_4) (by first | decide | (rcases hc0 with h | h <;> rw [h] <;> simp; done) | (rcases hb0 with h | h | h <;> rw [h] <;> simp; done) | (simp; done) | omega)); omega), (fun a i q0 => ((hf_M4 a i (fun z8 => q0 ((fun z9 => Or.elim z9 (fun h9 => Or.inl h9) (fun h9 => Or.inr (h9))) z8))).trans rfl))⟩ (by have f0 := t_lit 1; have f1 := t_add y2_4 (nI 1); have f2 := congrArg Int32.toInt (hf_M4 43 (ix y2_4) (by first | decide | (rcases hc0 with h | h <;> rw [h] <;> simp; done) | (rcases hb0 with h | h | h <;> rw [h] <;> simp; done) | (simp; done) | omega)); omega)
    · refine wp_gd (by have f0 := congrArg Int32.toInt (hf_M4 43 (ix y2_4) (by first | decide | (rcases hc0 with h | h <;> rw [h] <;> simp; done) | (rcases hb0 with h | h | h <;> rw [h] <;> simp; done) | (simp; done) | omega)); omega) ?_
      refine wp_cb2 (o_X8_canCross (Or.inl rfl) M4 (M4 43 (ix y2_4))) (fun r_1 M_2 he33 hq33 => ?_)
      obtain ⟨hz_r_1, hg_M_2⟩ := hq33
      replace hg_M_2 : ∀ a i, ¬ (a = 24 ∨ a = 26) → M_2 a i = M4 a i := by exact fun a i q0 => hg_M_2 a i (by first | decide | (rcases hc0 with h | h <;> rw [h] <;> simp; done) | (rcases hb0 with h | h | h <;> rw [h] <;> simp; done) | (simp; done) | omega)
      refine wp_ite (fun c36 => ?_) (fun c36 => ?_)
      · exact ih4 M_2 y1_4 (y2_4 + (nI 1)) ⟨(by have f0 := t_lit 1; have f1 := t_add y2_4 (nI 1); have f2 := congrArg Int32.toInt (hf_M4 43 (ix y2_4) (by first | decide | (rcases hc0 with h | h <;> rw [h] <;> simp; done) | (rcases hb0 with h | h | h <;> rw [h] <;> simp; done) | (simp; done) | omega)); omega), (fun a i q0 => ((hg_M_2 a i (fun z8 => q0 ((fun z9 => Or.elim z9 (fun h9 => Or.inl h9) (fun h9 => Or.inr (h9))) z8))).trans ((hf_M4 a i (fun z8 => q0 ((fun z9 => Or.elim z9 (fun h9 => Or.inl h9) (fun h9 => Or.inr (h9))) z8))).trans rfl)))⟩ (by have f0 := t_lit 1; have f1 := t_add y2_4 (nI 1); have f2 := congrArg Int32.toInt (hf_M4 43 (ix y2_4) (by first | decide | (rcases hc0 with h | h <;> rw [h] <;> simp; done) | (rcases hb0 with h | h | h <;> rw [h] <;> simp; done) | (simp; done) | omega)); omega)
      · refine wp_bnd (fun x_3 ex_3 => ?_)
        exact ih4 M_2 x_3 (y2_4 + (nI 1)) ⟨(by have f0 := t_lit 1; have f1 := t_add y2_4 (nI 1); have f2 := congrArg Int32.toInt (hf_M4 43 (ix y2_4) (by first | decide | (rcases hc0 with h | h <;> rw [h] <;> simp; done) | (rcases hb0 with h | h | h <;> rw [h] <;> simp; done) | (simp; done) | omega)); omega), (fun a i q0 => ((hg_M_2 a i (fun z8 => q0 ((fun z9 => Or.elim z9 (fun h9 => Or.inl h9) (fun h9 => Or.inr (h9))) z8))).trans ((hf_M4 a i (fun z8 => q0 ((fun z9 => Or.elim z9 (fun h9 => Or.inl h9) (fun h9 => Or.inr (h9))) z8))).trans rfl)))⟩ (by have f0 := t_lit 1; have f1 := t_add y2_4 (nI 1); have f2 := congrArg Int32.toInt (hf_M4 43 (ix y2_4) (by first | decide | (rcases hc0 with h | h <;> rw [h] <;> simp; done) | (rcases hb0 with h | h | h <;> rw [h] <;> simp; done) | (simp; done) | omega)); omega)
theorem o_X9_meet (M : Mem) (v1 : Int32) (v2 : Int32) (v3 : Int32) : Wp (f_X9_meet M v1 v2 v3) (fun q => (∀ a i, ¬ (a = 24 ∨ a = 25 ∨ a = 26) → q.2 a i = M a i)) := by
  refine wp_bind2 (o_X9_strideOf M v1) (fun r_1 he2 hq2 => ?_)
  refine wp_bind2 (o_X9_strideOf M v2) (fun r_2 he9 hq9 => ?_)
  refine wp_ite (fun c16 => ?_) (fun c16 => ?_)
  · exact wp_some (fun _ _ _ => rfl)
  · refine wp_ite (fun c21 => ?_) (fun c21 => ?_)
    · exact wp_some (fun _ _ _ => rfl)
    · refine wp_bind2 (o_X9_isEither M v3) (fun r_3 he25 hq25 => ?_)
      have hz_r_3 := hq25
      refine wp_ite (fun c28 => ?_) (fun c28 => ?_)
      · exact wp_some (fun _ _ _ => rfl)
      · refine wp_cb2 (o_X8_meeting (Or.inl rfl) M r_1 r_2 v3) (fun r_4 M_5 he46 hq46 => ?_)
        have hg_M_5 := hq46
        replace hg_M_5 : ∀ a i, ¬ (a = 24 ∨ a = 25 ∨ a = 26) → M_5 a i = M a i := by exact fun a i q0 => hg_M_5 a i (by first | decide | (rcases hc0 with h | h <;> rw [h] <;> simp; done) | (rcases hb0 with h | h | h <;> rw [h] <;> simp; done) | (simp; done) | omega)
        exact wp_some (fun a i q0 => ((hg_M_5 a i (fun z8 => q0 ((fun z9 => Or.elim z9 (fun h9 => Or.inl h9) (fun z9 => Or.elim z9 (fun h9 => Or.inr (Or.inl h9)) (fun h9 => Or.inr (Or.inr (h9))))) z8))).trans rfl))
theorem o_X9_nights (M : Mem) (v1 : Int32) (hL10 : (M 0 10).toInt = 44 ∨ (M 0 10).toInt = 52) : Wp (f_X9_nights M v1) (fun q => (∀ a i, ¬ ((a = 1 ∧ i = 5) ∨ (a = 1 ∧ i = 6) ∨ a = 2 ∨ a = 3 ∨ a = 6 ∨ (a = 21 ∧ i = 1) ∨ (a = 21 ∧ i = 2) ∨ a = 22 ∨ a = 47 ∨ a = 55) → q.2 a i = M a i)) := by
  refine wp_bind2 (o_X9_isNights M v1) (fun r_1 he1 hq1 => ?_)
  have hz_r_1 := hq1
  refine wp_ite (fun c4 => ?_) (fun c4 => ?_)
  · exact wp_some (fun _ _ _ => rfl)
  · refine wp_rl hL10 (fun c_2 hc_2 ecc_2 => ?_)
    have hc_20 : c_2 = 44 ∨ c_2 = 52 := hc_2
    refine wp_bind2 (o_X5_pass (Or.inl rfl) hc_2 M v1) (fun M_3 he22 hq22 => ?_)
    have hg_M_3 := hq22
    replace hg_M_3 : ∀ a i, ¬ ((a = 1 ∧ i = 5) ∨ (a = 1 ∧ i = 6) ∨ a = 2 ∨ a = 3 ∨ a = 6 ∨ (a = 21 ∧ i = 1) ∨ (a = 21 ∧ i = 2) ∨ a = 22 ∨ a = 47 ∨ a = 55) → M_3 a i = M a i := by rcases hc_20 with e9 | e9 <;> subst e9 <;> exact fun a i q0 => hg_M_3 a i (by first | decide | (rcases hc0 with h | h <;> rw [h] <;> simp; done) | (rcases hb0 with h | h | h <;> rw [h] <;> simp; done) | (simp; done) | omega)
    exact wp_some (fun a i q0 => ((hg_M_3 a i (fun z8 => q0 ((fun z9 => Or.elim z9 (fun h9 => Or.inl h9) (fun z9 => Or.elim z9 (fun h9 => Or.inr (Or.inl h9)) (fun z9 => Or.elim z9 (fun h9 => Or.inr (Or.inr (Or.inl h9))) (fun z9 => Or.elim z9 (fun h9 => Or.inr (Or.inr (Or.inr (Or.inl h9)))) (fun z9 => Or.elim z9 (fun h9 => Or.inr (Or.inr (Or.inr (Or.inr (Or.inl h9))))) (fun z9 => Or.elim z9 (fun h9 => Or.inr (Or.inr (Or.inr (Or.inr (Or.inr (Or.inl h9)))))) (fun z9 => Or.elim z9 (fun h9 => Or.inr (Or.inr (Or.inr (Or.inr (Or.inr (Or.inr (Or.inl h9))))))) (fun z9 => Or.elim z9 (fun h9 => Or.inr (Or.inr (Or.inr (Or.inr (Or.inr (Or.inr (Or.inr (Or.inl h9)))))))) (fun z9 => Or.elim z9 (fun h9 => Or.inr (Or.inr (Or.inr (Or.inr (Or.inr (Or.inr (Or.inr (Or.inr (Or.inl h9))))))))) (fun h9 => Or.inr (Or.inr (Or.inr (Or.inr (Or.inr (Or.inr (Or.inr (Or.inr (Or.inr (h9))))))))))))))))))) z8))).trans rfl))
theorem o_X9_readLine {b : Nat} (hb : isF b) (M : Mem) (v2 : Int32) : Wp (f_X9_readLine b M v2) (fun q => (q.1 = 0 ∨ q.1 = 1) ∧ (∀ a i, ¬ ((a = 19 ∧ i = 3) ∨ (a = 19 ∧ i = 4) ∨ a = (b + 1) ∨ a = (b + 2) ∨ a = (b + 3) ∨ a = (b + 4) ∨ a = (b + 5)) → q.2 a i = M a i)) := by
  have hb0 : b = 1 ∨ b = 7 ∨ b = 13 := hb
  refine wp_bnd (fun x_1 ex_1 => ?_)
  refine wp_cb2 (o_X7_number M (nI 2)) (fun r_2 M_3 he7 hq7 => ?_)
  have hg_M_3 := hq7
  replace hg_M_3 : ∀ a i, ¬ ((a = 19 ∧ i = 3) ∨ (a = 19 ∧ i = 4)) → M_3 a i = M a i := hg_M_3
  refine wp_ite (fun c15 => ?_) (fun c15 => ?_)
  · exact wp_some ⟨b01_0, (fun a i q0 => ((hg_M_3 a i (fun z8 => q0 ((fun z9 => Or.elim z9 (fun h9 => Or.inl h9) (fun h9 => Or.inr (Or.inl h9))) z8))).trans rfl))⟩
  · refine wp_ite (fun c24 => ?_) (fun c24 => ?_)
    · refine wp_cb2 (o_X7_skip M_3 (nI 44)) (fun r_4 M_5 he37 hq37 => ?_)
      obtain ⟨hz_r_4, hg_M_5⟩ := hq37
      replace hg_M_5 : ∀ a i, ¬ ((a = 19 ∧ i = 3) ∨ (a = 19 ∧ i = 4)) → M_5 a i = M_3 a i := hg_M_5
      refine wp_ite (fun c40 => ?_) (fun c40 => ?_)
      · exact wp_some ⟨b01_0, (fun a i q0 => ((hg_M_5 a i (fun z8 => q0 ((fun z9 => Or.elim z9 (fun h9 => Or.inl h9) (fun h9 => Or.inr (Or.inl h9))) z8))).trans ((hg_M_3 a i (fun z8 => q0 ((fun z9 => Or.elim z9 (fun h9 => Or.inl h9) (fun h9 => Or.inr (Or.inl h9))) z8))).trans rfl)))⟩
      · refine wp_bnd (fun x_6 ex_6 => ?_)
        refine wp_cb2 (o_X7_number M_5 (nI 2)) (fun r_7 M_8 he53 hq53 => ?_)
        have hg_M_8 := hq53
        replace hg_M_8 : ∀ a i, ¬ ((a = 19 ∧ i = 3) ∨ (a = 19 ∧ i = 4)) → M_8 a i = M_5 a i := hg_M_8
        refine wp_ite (fun c61 => ?_) (fun c61 => ?_)
        · exact wp_some ⟨b01_0, (fun a i q0 => ((hg_M_8 a i (fun z8 => q0 ((fun z9 => Or.elim z9 (fun h9 => Or.inl h9) (fun h9 => Or.inr (Or.inl h9))) z8))).trans ((hg_M_5 a i (fun z8 => q0 ((fun z9 => Or.elim z9 (fun h9 => Or.inl h9) (fun h9 => Or.inr (Or.inl h9))) z8))).trans ((hg_M_3 a i (fun z8 => q0 ((fun z9 => Or.elim z9 (fun h9 => Or.inl h9) (fun h9 => Or.inr (Or.inl h9))) z8))).trans rfl))))⟩
        · have j79 : Wp (f_X9_readLine_L79 x_6 M_8) (fun q => (q.1 = 0 ∨ q.1 = 1) ∧ (∀ a i, ¬ ((a = 19 ∧ i = 3) ∨ (a = 19 ∧ i = 4) ∨ a = (b + 1) ∨ a = (b + 2) ∨ a = (b + 3) ∨ a = (b + 4) ∨ a = (b + 5)) → q.2 a i = M a i)) := by
            unfold f_X9_readLine_L79
            refine wp_cb2 (o_X7_refuse M_8 (nI 3) x_6) (fun r_9 M_10 he83 hq83 => ?_)
            obtain ⟨hz_r_9, hg_M_10⟩ := hq83
            replace hg_M_10 : ∀ a i, ¬ ((a = 19 ∧ i = 4)) → M_10 a i = M_8 a i := hg_M_10
            refine wp_gb hz_r_9 ?_
            exact wp_some ⟨hz_r_9, (fun a i q0 => ((hg_M_10 a i (fun h9 => q0 (Or.inr (Or.inl h9)))).trans ((hg_M_8 a i (fun z8 => q0 ((fun z9 => Or.elim z9 (fun h9 => Or.inl h9) (fun h9 => Or.inr (Or.inl h9))) z8))).trans ((hg_M_5 a i (fun z8 => q0 ((fun z9 => Or.elim z9 (fun h9 => Or.inl h9) (fun h9 => Or.inr (Or.inl h9))) z8))).trans ((hg_M_3 a i (fun z8 => q0 ((fun z9 => Or.elim z9 (fun h9 => Or.inl h9) (fun h9 => Or.inr (Or.inl h9))) z8))).trans rfl)))))⟩
          refine wp_ite (fun c69 => ?_) (fun c69 => ?_)
          · exact j79
          · refine wp_ite (fun c76 => ?_) (fun c76 => ?_)
            · refine wp_bind2 (o_X2_stoneAt hb M_8 r_2 r_7) (fun r_11 he92 hq92 => ?_)
              refine wp_ite (fun c96 => ?_) (fun c96 => ?_)
              · refine wp_bind2 (o_X7_here M_8) (fun r_12 he111 hq111 => ?_)
                have j168 : ∀ (N168 : Mem), ∀ (z7_168 : Int32), (∀ a i, ¬ ((a = 19 ∧ i = 3)) → N168 a i = M_8 a i) → Wp (f_X9_readLine_L168 b v2 r_2 r_7 N168 z7_168) (fun q => (q.1 = 0 ∨ q.1 = 1) ∧ (∀ a i, ¬ ((a = 19 ∧ i = 3) ∨ (a = 19 ∧ i = 4) ∨ a = (b + 1) ∨ a = (b + 2) ∨ a = (b + 3) ∨ a = (b + 4) ∨ a = (b + 5)) → q.2 a i = M a i)) := by
                  intro N168 z7_168 hf_N168
                  unfold f_X9_readLine_L168
                  refine wp_bind2 (o_X7_here N168) (fun r_13 he169 hq169 => ?_)
                  have j182 : ∀ (t0_182 : Int32), (t0_182 = 0 ∨ t0_182 = 1) → Wp (f_X9_readLine_L182 b v2 r_2 r_7 N168 z7_168 t0_182) (fun q => (q.1 = 0 ∨ q.1 = 1) ∧ (∀ a i, ¬ ((a = 19 ∧ i = 3) ∨ (a = 19 ∧ i = 4) ∨ a = (b + 1) ∨ a = (b + 2) ∨ a = (b + 3) ∨ a = (b + 4) ∨ a = (b + 5)) → q.2 a i = M a i)) := by
                    intro t0_182 hb_t0_182
                    unfold f_X9_readLine_L182
                    have j199 : ∀ (N199 : Mem), (∀ a i, ¬ ((a = 19 ∧ i = 3)) → N199 a i = N168 a i) → Wp (f_X9_readLine_L199 b v2 r_2 r_7 z7_168 t0_182 N199) (fun q => (q.1 = 0 ∨ q.1 = 1) ∧ (∀ a i, ¬ ((a = 19 ∧ i = 3) ∨ (a = 19 ∧ i = 4) ∨ a = (b + 1) ∨ a = (b + 2) ∨ a = (b + 3) ∨ a = (b + 4) ∨ a = (b + 5)) → q.2 a i = M a i)) := by
                      intro N199 hf_N199
                      unfold f_X9_readLine_L199
                      refine wp_bind2 (o_X2_lay hb N199 v2 r_2 r_7 z7_168 t0_182) (fun M_14 he209 hq209 => ?_)
                      have hg_M_14 := hq209
                      replace hg_M_14 : ∀ a i, ¬ (a = (b + 1) ∨ a = (b + 2) ∨ a = (b + 3) ∨ a = (b + 4) ∨ a = (b + 5)) → M_14 a i = N199 a i := by exact fun a i q0 => hg_M_14 a i (by first | decide | (rcases hc0 with h | h <;> rw [h] <;> simp; done) | (rcases hb0 with h | h | h <;> rw [h] <;> simp; done) | (simp; done) | omega)
                      exact wp_some ⟨b01_1, (fun a i q0 => ((hg_M_14 a i (fun z8 => q0 ((fun z9 => Or.elim z9 (fun h9 => Or.inr (Or.inr (Or.inl h9))) (fun z9 => Or.elim z9 (fun h9 => Or.inr (Or.inr (Or.inr (Or.inl h9)))) (fun z9 => Or.elim z9 (fun h9 => Or.inr (Or.inr (Or.inr (Or.inr (Or.inl h9))))) (fun z9 => Or.elim z9 (fun h9 => Or.inr (Or.inr (Or.inr (Or.inr (Or.inr (Or.inl h9)))))) (fun h9 => Or.inr (Or.inr (Or.inr (Or.inr (Or.inr (Or.inr (h9))))))))))) z8))).trans ((hf_N199 a i (fun h9 => q0 (Or.inl h9))).trans ((hf_N168 a i (fun h9 => q0 (Or.inl h9))).trans ((hg_M_8 a i (fun z8 => q0 ((fun z9 => Or.elim z9 (fun h9 => Or.inl h9) (fun h9 => Or.inr (Or.inl h9))) z8))).trans ((hg_M_5 a i (fun z8 => q0 ((fun z9 => Or.elim z9 (fun h9 => Or.inl h9) (fun h9 => Or.inr (Or.inl h9))) z8))).trans ((hg_M_3 a i (fun z8 => q0 ((fun z9 => Or.elim z9 (fun h9 => Or.inl h9) (fun h9 => Or.inr (Or.inl h9))) z8))).trans rfl)))))))⟩
                    refine wp_ite (fun c186 => ?_) (fun c186 => ?_)
                    · exact j199 N168 (fun _ _ _ => rfl)
                    · refine wp_bnd (fun M_15 eM_15 => ?_)
                      exact j199 M_15 (fun a i q0 => ((congrFun (congrFun eM_15 a) i).trans ((mset_ne (fun h9 => q0 (h9))).trans rfl)))
                  refine wp_ite (fun c174 => ?_) (fun c174 => ?_)
                  · exact j182 (nI 1) b01_1
                  · exact j182 (nI 0) b01_0
                refine wp_ite (fun c116 => ?_) (fun c116 => ?_)
                · refine wp_bnd (fun M_16 eM_16 => ?_)
                  refine wp_bind2 (o_X7_here M_16) (fun r_17 he130 hq130 => ?_)
                  refine wp_bind2 (o_X7_isDigit M_16 r_17) (fun r_18 he133 hq133 => ?_)
                  have hz_r_18 := hq133
                  refine wp_ite (fun c136 => ?_) (fun c136 => ?_)
                  · refine wp_cb2 (o_X7_refuse M_16 (nI 1) (M_16 19 3)) (fun r_21 M_22 he145 hq145 => ?_)
                    obtain ⟨hz_r_21, hg_M_22⟩ := hq145
                    replace hg_M_22 : ∀ a i, ¬ ((a = 19 ∧ i = 4)) → M_22 a i = M_16 a i := hg_M_22
                    refine wp_gb hz_r_21 ?_
                    exact wp_some ⟨hz_r_21, (fun a i q0 => ((hg_M_22 a i (fun h9 => q0 (Or.inr (Or.inl h9)))).trans ((congrFun (congrFun eM_16 a) i).trans ((mset_ne (fun h9 => q0 (Or.inl h9))).trans ((hg_M_8 a i (fun z8 => q0 ((fun z9 => Or.elim z9 (fun h9 => Or.inl h9) (fun h9 => Or.inr (Or.inl h9))) z8))).trans ((hg_M_5 a i (fun z8 => q0 ((fun z9 => Or.elim z9 (fun h9 => Or.inl h9) (fun h9 => Or.inr (Or.inl h9))) z8))).trans ((hg_M_3 a i (fun z8 => q0 ((fun z9 => Or.elim z9 (fun h9 => Or.inl h9) (fun h9 => Or.inr (Or.inl h9))) z8))).trans rfl)))))))⟩
                  · refine wp_bind2 (o_X7_here M_16) (fun r_19 he150 hq150 => ?_)
                    refine wp_bnd (fun M_20 eM_20 => ?_)
                    exact j168 M_20 (r_19 - (nI 48)) (fun a i q0 => ((congrFun (congrFun eM_20 a) i).trans ((mset_ne (fun h9 => q0 (h9))).trans ((congrFun (congrFun eM_16 a) i).trans ((mset_ne (fun h9 => q0 (h9))).trans rfl)))))
                · exact j168 M_8 (nI 0) (fun _ _ _ => rfl)
              · refine wp_cb2 (o_X7_refuse M_8 (nI 6) x_1) (fun r_23 M_24 he103 hq103 => ?_)
                obtain ⟨hz_r_23, hg_M_24⟩ := hq103
                replace hg_M_24 : ∀ a i, ¬ ((a = 19 ∧ i = 4)) → M_24 a i = M_8 a i := hg_M_24
                refine wp_gb hz_r_23 ?_
                exact wp_some ⟨hz_r_23, (fun a i q0 => ((hg_M_24 a i (fun h9 => q0 (Or.inr (Or.inl h9)))).trans ((hg_M_8 a i (fun z8 => q0 ((fun z9 => Or.elim z9 (fun h9 => Or.inl h9) (fun h9 => Or.inr (Or.inl h9))) z8))).trans ((hg_M_5 a i (fun z8 => q0 ((fun z9 => Or.elim z9 (fun h9 => Or.inl h9) (fun h9 => Or.inr (Or.inl h9))) z8))).trans ((hg_M_3 a i (fun z8 => q0 ((fun z9 => Or.elim z9 (fun h9 => Or.inl h9) (fun h9 => Or.inr (Or.inl h9))) z8))).trans rfl)))))⟩
            · exact j79
    · refine wp_cb2 (o_X7_refuse M_3 (nI 3) x_1) (fun r_25 M_26 he30 hq30 => ?_)
      obtain ⟨hz_r_25, hg_M_26⟩ := hq30
      replace hg_M_26 : ∀ a i, ¬ ((a = 19 ∧ i = 4)) → M_26 a i = M_3 a i := hg_M_26
      refine wp_gb hz_r_25 ?_
      exact wp_some ⟨hz_r_25, (fun a i q0 => ((hg_M_26 a i (fun h9 => q0 (Or.inr (Or.inl h9)))).trans ((hg_M_3 a i (fun z8 => q0 ((fun z9 => Or.elim z9 (fun h9 => Or.inl h9) (fun h9 => Or.inr (Or.inl h9))) z8))).trans rfl)))⟩
theorem o_X9_readNotebook {b : Nat} (hb : isF b) (M : Mem) : Wp (f_X9_readNotebook b M) (fun q => (∀ a i, ¬ ((a = 19 ∧ i = 3) ∨ (a = 19 ∧ i = 4) ∨ a = (b + 1) ∨ a = (b + 2) ∨ a = (b + 3) ∨ a = (b + 4) ∨ a = (b + 5)) → q.2 a i = M a i)) := by
  have hb0 : b = 1 ∨ b = 7 ∨ b = 13 := hb
  refine wp_bind2 (o_X2_clearStones hb M) (fun M_1 he1 hq1 => ?_)
  have hg_M_1 := hq1
  replace hg_M_1 : ∀ a i, ¬ (a = (b + 4)) → M_1 a i = M a i := by exact fun a i q0 => hg_M_1 a i (by first | decide | (rcases hc0 with h | h <;> rw [h] <;> simp; done) | (rcases hb0 with h | h | h <;> rw [h] <;> simp; done) | (simp; done) | omega)
  refine wp_lp2 (fun M6 y2_6 => (0 ≤ y2_6.toInt) ∧ (∀ a i, ¬ ((a = 19 ∧ i = 3) ∨ (a = 19 ∧ i = 4) ∨ a = (b + 1) ∨ a = (b + 2) ∨ a = (b + 3) ∨ a = (b + 4) ∨ a = (b + 5)) → M6 a i = M_1 a i)) (fun M6 y2_6 => (40 - y2_6.toInt).toNat) (fun ag6 M6 y2_6 hI6 ih6 => ?_) FU M_1 (nI 0) ⟨(by have f0 := t_lit 0; omega), (fun _ _ _ => rfl)⟩ (fu_lt (by have f0 := t_lit 0; omega))
  obtain ⟨hi6, hf_M6⟩ := hI6
  have j58 : Wp (f_X9_readNotebook_L58 M6) (fun q => (∀ a i, ¬ ((a = 19 ∧ i = 3) ∨ (a = 19 ∧ i = 4) ∨ a = (b + 1) ∨ a = (b + 2) ∨ a = (b + 3) ∨ a = (b + 4) ∨ a = (b + 5)) → q.2 a i = M a i)) := by
    unfold f_X9_readNotebook_L58
    refine wp_bind2 (o_X7_here M6) (fun r_2 he60 hq60 => ?_)
    refine wp_bind2 (o_X7_isDigit M6 r_2) (fun r_3 he63 hq63 => ?_)
    have hz_r_3 := hq63
    have j74 : ∀ (t0_74 : Int32), Wp (f_X9_readNotebook_L74 M6 t0_74) (fun q => (∀ a i, ¬ ((a = 19 ∧ i = 3) ∨ (a = 19 ∧ i = 4) ∨ a = (b + 1) ∨ a = (b + 2) ∨ a = (b + 3) ∨ a = (b + 4) ∨ a = (b + 5)) → q.2 a i = M a i)) := by
      intro t0_74
      unfold f_X9_readNotebook_L74
      refine wp_cb2 (o_X7_refuse M6 t0_74 (M6 19 3)) (fun r_4 M_5 he78 hq78 => ?_)
      obtain ⟨hz_r_4, hg_M_5⟩ := hq78
      replace hg_M_5 : ∀ a i, ¬ ((a = 19 ∧ i = 4)) → M_5 a i = M6 a i := hg_M_5
      exact wp_some (fun a i q0 => ((hg_M_5 a i (fun h9 => q0 (Or.inr (Or.inl h9)))).trans ((hf_M6 a i (fun z8 => q0 ((fun z9 => Or.elim z9 (fun h9 => Or.inl h9) (fun z9 => Or.elim z9 (fun h9 => Or.inr (Or.inl h9)) (fun z9 => Or.elim z9 (fun h9 => Or.inr (Or.inr (Or.inl h9))) (fun z9 => Or.elim z9 (fun h9 => Or.inr (Or.inr (Or.inr (Or.inl h9)))) (fun z9 => Or.elim z9 (fun h9 => Or.inr (Or.inr (Or.inr (Or.inr (Or.inl h9))))) (fun z9 => Or.elim z9 (fun h9 => Or.inr (Or.inr (Or.inr (Or.inr (Or.inr (Or.inl h9)))))) (fun h9 => Or.inr (Or.inr (Or.inr (Or.inr (Or.inr (Or.inr (h9))))))))))))) z8))).trans ((hg_M_1 a i (fun h9 => q0 (Or.inr (Or.inr (Or.inr (Or.inr (Or.inr (Or.inl h9)))))))).trans rfl))))
    refine wp_ite (fun c66 => ?_) (fun c66 => ?_)
    · exact j74 (nI 1)
    · exact j74 (nI 4)
  refine wp_ite (fun c9 => ?_) (fun c9 => ?_)
  · exact j58
  · refine wp_cb2 (o_X9_readLine hb M6 y2_6) (fun r_6 M_7 he15 hq15 => ?_)
    obtain ⟨hz_r_6, hg_M_7⟩ := hq15
    replace hg_M_7 : ∀ a i, ¬ ((a = 19 ∧ i = 3) ∨ (a = 19 ∧ i = 4) ∨ a = (b + 1) ∨ a = (b + 2) ∨ a = (b + 3) ∨ a = (b + 4) ∨ a = (b + 5)) → M_7 a i = M6 a i := by exact fun a i q0 => hg_M_7 a i (by first | decide | (rcases hc0 with h | h <;> rw [h] <;> simp; done) | (rcases hb0 with h | h | h <;> rw [h] <;> simp; done) | (simp; done) | omega)
    refine wp_ite (fun c18 => ?_) (fun c18 => ?_)
    · exact wp_some (fun a i q0 => ((hg_M_7 a i (fun z8 => q0 ((fun z9 => Or.elim z9 (fun h9 => Or.inl h9) (fun z9 => Or.elim z9 (fun h9 => Or.inr (Or.inl h9)) (fun z9 => Or.elim z9 (fun h9 => Or.inr (Or.inr (Or.inl h9))) (fun z9 => Or.elim z9 (fun h9 => Or.inr (Or.inr (Or.inr (Or.inl h9)))) (fun z9 => Or.elim z9 (fun h9 => Or.inr (Or.inr (Or.inr (Or.inr (Or.inl h9))))) (fun z9 => Or.elim z9 (fun h9 => Or.inr (Or.inr (Or.inr (Or.inr (Or.inr (Or.inl h9)))))) (fun h9 => Or.inr (Or.inr (Or.inr (Or.inr (Or.inr (Or.inr (h9))))))))))))) z8))).trans ((hf_M6 a i (fun z8 => q0 ((fun z9 => Or.elim z9 (fun h9 => Or.inl h9) (fun z9 => Or.elim z9 (fun h9 => Or.inr (Or.inl h9)) (fun z9 => Or.elim z9 (fun h9 => Or.inr (Or.inr (Or.inl h9))) (fun z9 => Or.elim z9 (fun h9 => Or.inr (Or.inr (Or.inr (Or.inl h9)))) (fun z9 => Or.elim z9 (fun h9 => Or.inr (Or.inr (Or.inr (Or.inr (Or.inl h9))))) (fun z9 => Or.elim z9 (fun h9 => Or.inr (Or.inr (Or.inr (Or.inr (Or.inr (Or.inl h9)))))) (fun h9 => Or.inr (Or.inr (Or.inr (Or.inr (Or.inr (Or.inr (h9))))))))))))) z8))).trans ((hg_M_1 a i (fun h9 => q0 (Or.inr (Or.inr (Or.inr (Or.inr (Or.inr (Or.inl h9)))))))).trans rfl))))
    · refine wp_bind2 (o_X7_here M_7) (fun r_8 he27 hq27 => ?_)
      refine wp_ite (fun c31 => ?_) (fun c31 => ?_)
      · exact wp_some (fun a i q0 => ((hg_M_7 a i (fun z8 => q0 ((fun z9 => Or.elim z9 (fun h9 => Or.inl h9) (fun z9 => Or.elim z9 (fun h9 => Or.inr (Or.inl h9)) (fun z9 => Or.elim z9 (fun h9 => Or.inr (Or.inr (Or.inl h9))) (fun z9 => Or.elim z9 (fun h9 => Or.inr (Or.inr (Or.inr (Or.inl h9)))) (fun z9 => Or.elim z9 (fun h9 => Or.inr (Or.inr (Or.inr (Or.inr (Or.inl h9))))) (fun z9 => Or.elim z9 (fun h9 => Or.inr (Or.inr (Or.inr (Or.inr (Or.inr (Or.inl h9)))))) (fun h9 => Or.inr (Or.inr (Or.inr (Or.inr (Or.inr (Or.inr (h9))))))))))))) z8))).trans ((hf_M6 a i (fun z8 => q0 ((fun z9 => Or.elim z9 (fun h9 => Or.inl h9) (fun z9 => Or.elim z9 (fun h9 => Or.inr (Or.inl h9)) (fun z9 => Or.elim z9 (fun h9 => Or.inr (Or.inr (Or.inl h9))) (fun z9 => Or.elim z9 (fun h9 => Or.inr (Or.inr (Or.inr (Or.inl h9)))) (fun z9 => Or.elim z9 (fun h9 => Or.inr (Or.inr (Or.inr (Or.inr (Or.inl h9))))) (fun z9 => Or.elim z9 (fun h9 => Or.inr (Or.inr (Or.inr (Or.inr (Or.inr (Or.inl h9)))))) (fun h9 => Or.inr (Or.inr (Or.inr (Or.inr (Or.inr (Or.inr (h9))))))))))))) z8))).trans ((hg_M_1 a i (fun h9 => q0 (Or.inr (Or.inr (Or.inr (Or.inr (Or.inr (Or.inl h9)))))))).trans rfl))))
      · refine wp_cb2 (o_X7_skip M_7 (nI 59)) (fun r_9 M_10 he41 hq41 => ?_)
        obtain ⟨hz_r_9, hg_M_10⟩ := hq41
        replace hg_M_10 : ∀ a i, ¬ ((a = 19 ∧ i = 3) ∨ (a = 19 ∧ i = 4)) → M_10 a i = M_7 a i := hg_M_10
        refine wp_ite (fun c44 => ?_) (fun c44 => ?_)
        · exact wp_some (fun a i q0 => ((hg_M_10 a i (fun z8 => q0 ((fun z9 => Or.elim z9 (fun h9 => Or.inl h9) (fun h9 => Or.inr (Or.inl h9))) z8))).trans ((hg_M_7 a i (fun z8 => q0 ((fun z9 => Or.elim z9 (fun h9 => Or.inl h9) (fun z9 => Or.elim z9 (fun h9 => Or.inr (Or.inl h9)) (fun z9 => Or.elim z9 (fun h9 => Or.inr (Or.inr (Or.inl h9))) (fun z9 => Or.elim z9 (fun h9 => Or.inr (Or.inr (Or.inr (Or.inl h9)))) (fun z9 => Or.elim z9 (fun h9 => Or.inr (Or.inr (Or.inr (Or.inr (Or.inl h9))))) (fun z9 => Or.elim z9 (fun h9 => Or.inr (Or.inr (Or.inr (Or.inr (Or.inr (Or.inl h9)))))) (fun h9 => Or.inr (Or.inr (Or.inr (Or.inr (Or.inr (Or.inr (h9))))))))))))) z8))).trans ((hf_M6 a i (fun z8 => q0 ((fun z9 => Or.elim z9 (fun h9 => Or.inl h9) (fun z9 => Or.elim z9 (fun h9 => Or.inr (Or.inl h9)) (fun z9 => Or.elim z9 (fun h9 => Or.inr (Or.inr (Or.inl h9))) (fun z9 => Or.elim z9 (fun h9 => Or.inr (Or.inr (Or.inr (Or.inl h9)))) (fun z9 => Or.elim z9 (fun h9 => Or.inr (Or.inr (Or.inr (Or.inr (Or.inl h9))))) (fun z9 => Or.elim z9 (fun h9 => Or.inr (Or.inr (Or.inr (Or.inr (Or.inr (Or.inl h9)))))) (fun h9 => Or.inr (Or.inr (Or.inr (Or.inr (Or.inr (Or.inr (h9))))))))))))) z8))).trans ((hg_M_1 a i (fun h9 => q0 (Or.inr (Or.inr (Or.inr (Or.inr (Or.inr (Or.inl h9)))))))).trans rfl)))))
        · exact ih6 M_10 (y2_6 + (nI 1)) ⟨(by have f0 := t_lit 1; have f1 := t_add y2_6 (nI 1); omega), (fun a i q0 => ((hg_M_10 a i (fun z8 => q0 ((fun z9 => Or.elim z9 (fun h9 => Or.inl h9) (fun h9 => Or.inr (Or.inl h9))) z8))).trans ((hg_M_7 a i (fun z8 => q0 ((fun z9 => Or.elim z9 (fun h9 => Or.inl h9) (fun z9 => Or.elim z9 (fun h9 => Or.inr (Or.inl h9)) (fun z9 => Or.elim z9 (fun h9 => Or.inr (Or.inr (Or.inl h9))) (fun z9 => Or.elim z9 (fun h9 => Or.inr (Or.inr (Or.inr (Or.inl h9)))) (fun z9 => Or.elim z9 (fun h9 => Or.inr (Or.inr (Or.inr (Or.inr (Or.inl h9))))) (fun z9 => Or.elim z9 (fun h9 => Or.inr (Or.inr (Or.inr (Or.inr (Or.inr (Or.inl h9)))))) (fun h9 => Or.inr (Or.inr (Or.inr (Or.inr (Or.inr (Or.inr (h9))))))))))))) z8))).trans ((hf_M6 a i (fun z8 => q0 ((fun z9 => Or.elim z9 (fun h9 => Or.inl h9) (fun z9 => Or.elim z9 (fun h9 => Or.inr (Or.inl h9)) (fun z9 => Or.elim z9 (fun h9 => Or.inr (Or.inr (Or.inl h9))) (fun z9 => Or.elim z9 (fun h9 => Or.inr (Or.inr (Or.inr (Or.inl h9)))) (fun z9 => Or.elim z9 (fun h9 => Or.inr (Or.inr (Or.inr (Or.inr (Or.inl h9))))) (fun z9 => Or.elim z9 (fun h9 => Or.inr (Or.inr (Or.inr (Or.inr (Or.inr (Or.inl h9)))))) (fun h9 => Or.inr (Or.inr (Or.inr (Or.inr (Or.inr (Or.inr (h9))))))))))))) z8))).trans rfl))))⟩ (by have f0 := t_lit 1; have f1 := t_add y2_6 (nI 1); omega)
theorem o_X9_notebook (M : Mem) (v1 : Int32) : Wp (f_X9_notebook M v1) (fun q => (∀ a i, ¬ (a = 2 ∨ a = 3 ∨ a = 4 ∨ a = 5 ∨ a = 6 ∨ a = 14 ∨ a = 15 ∨ a = 16 ∨ a = 17 ∨ a = 18 ∨ (a = 19 ∧ i = 1) ∨ (a = 19 ∧ i = 2) ∨ (a = 19 ∧ i = 3) ∨ (a = 19 ∧ i = 4)) → q.2 a i = M a i)) := by
  refine wp_bind2 (o_X7_holds M v1 (nI 1) (nI 200)) (fun r_1 he9 hq9 => ?_)
  obtain ⟨hz_r_1, hr_9⟩ := hq9
  replace hr_9 : ¬ r_1.toInt = 0 → (nI 1).toInt ≤ v1.toInt ∧ v1.toInt ≤ (nI 200).toInt ∧ v1.toInt ≤ (M 19 1).toInt := hr_9
  have := t_lit 1
  have := t_lit 200
  refine wp_ite (fun c12 => ?_) (fun c12 => ?_)
  · exact wp_some (fun _ _ _ => rfl)
  · refine wp_bind2 (o_X7_open M v1) (fun M_2 he22 hq22 => ?_)
    have hg_M_2 := hq22
    replace hg_M_2 : ∀ a i, ¬ ((a = 19 ∧ i = 1) ∨ (a = 19 ∧ i = 2) ∨ (a = 19 ∧ i = 3) ∨ (a = 19 ∧ i = 4)) → M_2 a i = M a i := hg_M_2
    refine wp_cb2 (o_X9_readNotebook (Or.inr (Or.inr rfl)) M_2) (fun r_3 M_4 he33 hq33 => ?_)
    have hg_M_4 := hq33
    replace hg_M_4 : ∀ a i, ¬ (a = 14 ∨ a = 15 ∨ a = 16 ∨ a = 17 ∨ a = 18 ∨ (a = 19 ∧ i = 3) ∨ (a = 19 ∧ i = 4)) → M_4 a i = M_2 a i := by exact fun a i q0 => hg_M_4 a i (by first | decide | (rcases hc0 with h | h <;> rw [h] <;> simp; done) | (rcases hb0 with h | h | h <;> rw [h] <;> simp; done) | (simp; done) | omega)
    refine wp_ite (fun c38 => ?_) (fun c38 => ?_)
    · exact wp_some (fun a i q0 => ((hg_M_4 a i (fun z8 => q0 ((fun z9 => Or.elim z9 (fun h9 => Or.inr (Or.inr (Or.inr (Or.inr (Or.inr (Or.inl h9)))))) (fun z9 => Or.elim z9 (fun h9 => Or.inr (Or.inr (Or.inr (Or.inr (Or.inr (Or.inr (Or.inl h9))))))) (fun z9 => Or.elim z9 (fun h9 => Or.inr (Or.inr (Or.inr (Or.inr (Or.inr (Or.inr (Or.inr (Or.inl h9)))))))) (fun z9 => Or.elim z9 (fun h9 => Or.inr (Or.inr (Or.inr (Or.inr (Or.inr (Or.inr (Or.inr (Or.inr (Or.inl h9))))))))) (fun z9 => Or.elim z9 (fun h9 => Or.inr (Or.inr (Or.inr (Or.inr (Or.inr (Or.inr (Or.inr (Or.inr (Or.inr (Or.inl h9)))))))))) (fun z9 => Or.elim z9 (fun h9 => Or.inr (Or.inr (Or.inr (Or.inr (Or.inr (Or.inr (Or.inr (Or.inr (Or.inr (Or.inr (Or.inr (Or.inr (Or.inl h9))))))))))))) (fun h9 => Or.inr (Or.inr (Or.inr (Or.inr (Or.inr (Or.inr (Or.inr (Or.inr (Or.inr (Or.inr (Or.inr (Or.inr (Or.inr (h9)))))))))))))))))))) z8))).trans ((hg_M_2 a i (fun z8 => q0 ((fun z9 => Or.elim z9 (fun h9 => Or.inr (Or.inr (Or.inr (Or.inr (Or.inr (Or.inr (Or.inr (Or.inr (Or.inr (Or.inr (Or.inl h9))))))))))) (fun z9 => Or.elim z9 (fun h9 => Or.inr (Or.inr (Or.inr (Or.inr (Or.inr (Or.inr (Or.inr (Or.inr (Or.inr (Or.inr (Or.inr (Or.inl h9)))))))))))) (fun z9 => Or.elim z9 (fun h9 => Or.inr (Or.inr (Or.inr (Or.inr (Or.inr (Or.inr (Or.inr (Or.inr (Or.inr (Or.inr (Or.inr (Or.inr (Or.inl h9))))))))))))) (fun h9 => Or.inr (Or.inr (Or.inr (Or.inr (Or.inr (Or.inr (Or.inr (Or.inr (Or.inr (Or.inr (Or.inr (Or.inr (Or.inr (h9))))))))))))))))) z8))).trans rfl)))
    · refine wp_bind2 (o_X2_copyStones (Or.inl rfl) (Or.inr (Or.inr rfl)) M_4) (fun M_5 he49 hq49 => ?_)
      have hg_M_5 := hq49
      replace hg_M_5 : ∀ a i, ¬ (a = 2 ∨ a = 3 ∨ a = 4 ∨ a = 5 ∨ a = 6) → M_5 a i = M_4 a i := by exact fun a i q0 => hg_M_5 a i (by first | decide | (rcases hc0 with h | h <;> rw [h] <;> simp; done) | (rcases hb0 with h | h | h <;> rw [h] <;> simp; done) | (simp; done) | omega)
      exact wp_some (fun a i q0 => ((hg_M_5 a i (fun z8 => q0 ((fun z9 => Or.elim z9 (fun h9 => Or.inl h9) (fun z9 => Or.elim z9 (fun h9 => Or.inr (Or.inl h9)) (fun z9 => Or.elim z9 (fun h9 => Or.inr (Or.inr (Or.inl h9))) (fun z9 => Or.elim z9 (fun h9 => Or.inr (Or.inr (Or.inr (Or.inl h9)))) (fun h9 => Or.inr (Or.inr (Or.inr (Or.inr (Or.inl h9))))))))) z8))).trans ((hg_M_4 a i (fun z8 => q0 ((fun z9 => Or.elim z9 (fun h9 => Or.inr (Or.inr (Or.inr (Or.inr (Or.inr (Or.inl h9)))))) (fun z9 => Or.elim z9 (fun h9 => Or.inr (Or.inr (Or.inr (Or.inr (Or.inr (Or.inr (Or.inl h9))))))) (fun z9 => Or.elim z9 (fun h9 => Or.inr (Or.inr (Or.inr (Or.inr (Or.inr (Or.inr (Or.inr (Or.inl h9)))))))) (fun z9 => Or.elim z9 (fun h9 => Or.inr (Or.inr (Or.inr (Or.inr (Or.inr (Or.inr (Or.inr (Or.inr (Or.inl h9))))))))) (fun z9 => Or.elim z9 (fun h9 => Or.inr (Or.inr (Or.inr (Or.inr (Or.inr (Or.inr (Or.inr (Or.inr (Or.inr (Or.inl h9)))))))))) (fun z9 => Or.elim z9 (fun h9 => Or.inr (Or.inr (Or.inr (Or.inr (Or.inr (Or.inr (Or.inr (Or.inr (Or.inr (Or.inr (Or.inr (Or.inr (Or.inl h9))))))))))))) (fun h9 => Or.inr (Or.inr (Or.inr (Or.inr (Or.inr (Or.inr (Or.inr (Or.inr (Or.inr (Or.inr (Or.inr (Or.inr (Or.inr (h9)))))))))))))))))))) z8))).trans ((hg_M_2 a i (fun z8 => q0 ((fun z9 => Or.elim z9 (fun h9 => Or.inr (Or.inr (Or.inr (Or.inr (Or.inr (Or.inr (Or.inr (Or.inr (Or.inr (Or.inr (Or.inl h9))))))))))) (fun z9 => Or.elim z9 (fun h9 => Or.inr (Or.inr (Or.inr (Or.inr (Or.inr (Or.inr (Or.inr (Or.inr (Or.inr (Or.inr (Or.inr (Or.inl h9)))))))))))) (fun z9 => Or.elim z9 (fun h9 => Or.inr (Or.inr (Or.inr (Or.inr (Or.inr (Or.inr (Or.inr (Or.inr (Or.inr (Or.inr (Or.inr (Or.inr (Or.inl h9))))))))))))) (fun h9 => Or.inr (Or.inr (Or.inr (Or.inr (Or.inr (Or.inr (Or.inr (Or.inr (Or.inr (Or.inr (Or.inr (Or.inr (Or.inr (h9))))))))))))))))) z8))).trans rfl))))
theorem o_X9_oneMore (M : Mem) (v1 : Int32) (v2 : Int32) : Wp (f_X9_oneMore M v1 v2) (fun q => (∀ a i, ¬ (a = 24 ∨ a = 25 ∨ a = 26) → q.2 a i = M a i)) := by
  refine wp_bind2 (o_X9_strideOf M v1) (fun r_1 he2 hq2 => ?_)
  refine wp_ite (fun c7 => ?_) (fun c7 => ?_)
  · exact wp_some (fun _ _ _ => rfl)
  · refine wp_bind2 (o_X9_isEither M v2) (fun r_2 he11 hq11 => ?_)
    have hz_r_2 := hq11
    refine wp_ite (fun c14 => ?_) (fun c14 => ?_)
    · exact wp_some (fun _ _ _ => rfl)
    · refine wp_cb2 (o_X8_helpfulPlace (Or.inl rfl) M r_1 v2) (fun r_3 M_4 he29 hq29 => ?_)
      have hg_M_4 := hq29
      replace hg_M_4 : ∀ a i, ¬ (a = 24 ∨ a = 25 ∨ a = 26) → M_4 a i = M a i := by exact fun a i q0 => hg_M_4 a i (by first | decide | (rcases hc0 with h | h <;> rw [h] <;> simp; done) | (rcases hb0 with h | h | h <;> rw [h] <;> simp; done) | (simp; done) | omega)
      exact wp_some (fun a i q0 => ((hg_M_4 a i (fun z8 => q0 ((fun z9 => Or.elim z9 (fun h9 => Or.inl h9) (fun z9 => Or.elim z9 (fun h9 => Or.inr (Or.inl h9)) (fun h9 => Or.inr (Or.inr (h9))))) z8))).trans rfl))
theorem o_X9_person (M : Mem) (v1 : Int32) (v2 : Int32) : Wp (f_X9_person M v1 v2) (fun q => (q.1 = 0 ∨ q.1 = 1) ∧ (∀ a i, ¬ (a = 43) → q.2 a i = M a i)) := by
  refine wp_ite (fun c1 => ?_) (fun c1 => ?_)
  · exact wp_some ⟨b01_0, (fun _ _ _ => rfl)⟩
  · refine wp_ite (fun c7 => ?_) (fun c7 => ?_)
    · exact wp_some ⟨b01_0, (fun _ _ _ => rfl)⟩
    · refine wp_bind2 (o_X9_isStride M v2) (fun r_1 he11 hq11 => ?_)
      have hz_r_1 := hq11
      refine wp_ite (fun c14 => ?_) (fun c14 => ?_)
      · exact wp_some ⟨b01_0, (fun _ _ _ => rfl)⟩
      · refine wp_gd (by omega) ?_
        refine wp_bnd (fun M_2 eM_2 => ?_)
        exact wp_some ⟨b01_1, (fun a i q0 => ((congrFun (congrFun eM_2 a) i).trans ((mset_ne (fun h9 => q0 ((h9).1))).trans rfl)))⟩
theorem o_X9_seed (M : Mem) (v1 : Int32) : Wp (f_X9_seed M v1) (fun q => (q.1 = 0 ∨ q.1 = 1) ∧ (∀ a i, ¬ ((a = 1 ∧ i = 6)) → q.2 a i = M a i)) := by
  refine wp_ite (fun c1 => ?_) (fun c1 => ?_)
  · exact wp_some ⟨b01_0, (fun _ _ _ => rfl)⟩
  · refine wp_ite (fun c8 => ?_) (fun c8 => ?_)
    · refine wp_bnd (fun M_1 eM_1 => ?_)
      exact wp_some ⟨b01_1, (fun a i q0 => ((congrFun (congrFun eM_1 a) i).trans ((mset_ne (fun h9 => q0 (h9))).trans rfl)))⟩
    · exact wp_some ⟨b01_0, (fun _ _ _ => rfl)⟩
theorem o_X9_shape (M : Mem) (v1 : Int32) : Wp (f_X9_shape M v1) (fun q => True) := by
  refine wp_ite (fun c1 => ?_) (fun c1 => ?_)
  · refine wp_bind2 (o_X6_line (Or.inl rfl) M) (fun r_1 he36 hq36 => ?_)
    exact wp_some trivial
  · refine wp_ite (fun c1 => ?_) (fun c1 => ?_)
    · refine wp_bind2 (o_X6_yardApart (Or.inl rfl) M) (fun r_2 he44 hq44 => ?_)
      exact wp_some trivial
    · refine wp_ite (fun c2 => ?_) (fun c2 => ?_)
      · refine wp_bind2 (o_X6_pairs (Or.inl rfl) M) (fun r_3 he52 hq52 => ?_)
        exact wp_some trivial
      · refine wp_ite (fun c3 => ?_) (fun c3 => ?_)
        · refine wp_bind2 (o_X6_closest (Or.inl rfl) M) (fun r_4 he60 hq60 => ?_)
          exact wp_some trivial
        · exact wp_some trivial
theorem o_X9_stone (M : Mem) (v1 : Int32) (v2 : Int32) (v3 : Int32) (v4 : Int32) : Wp (f_X9_stone M v1 v2 v3 v4) (fun q => (q.1 = 0 ∨ q.1 = 1) ∧ (∀ a i, ¬ (a = 2 ∨ a = 3 ∨ a = 4 ∨ a = 5 ∨ a = 6) → q.2 a i = M a i)) := by
  refine wp_bind2 (o_X9_isStone M v1) (fun r_1 he1 hq1 => ?_)
  have hz_r_1 := hq1
  refine wp_ite (fun c4 => ?_) (fun c4 => ?_)
  · exact wp_some ⟨b01_0, (fun _ _ _ => rfl)⟩
  · refine wp_bind2 (o_X9_isPlace M v2 v3) (fun r_2 he9 hq9 => ?_)
    have hz_r_2 := hq9
    refine wp_ite (fun c12 => ?_) (fun c12 => ?_)
    · exact wp_some ⟨b01_0, (fun _ _ _ => rfl)⟩
    · refine wp_ite (fun c17 => ?_) (fun c17 => ?_)
      · exact wp_some ⟨b01_0, (fun _ _ _ => rfl)⟩
      · refine wp_ite (fun c24 => ?_) (fun c24 => ?_)
        · refine wp_bind2 (o_X2_stoneAt (Or.inl rfl) M v2 v3) (fun r_3 he35 hq35 => ?_)
          have j54 : Wp (f_X9_stone_L54 M v1 v2 v3 v4) (fun q => (q.1 = 0 ∨ q.1 = 1) ∧ (∀ a i, ¬ (a = 2 ∨ a = 3 ∨ a = 4 ∨ a = 5 ∨ a = 6) → q.2 a i = M a i)) := by
            unfold f_X9_stone_L54
            refine wp_bind2 (o_X2_lay (Or.inl rfl) M v1 v2 v3 v4 (nI 0)) (fun M_4 he64 hq64 => ?_)
            have hg_M_4 := hq64
            replace hg_M_4 : ∀ a i, ¬ (a = 2 ∨ a = 3 ∨ a = 4 ∨ a = 5 ∨ a = 6) → M_4 a i = M a i := by exact fun a i q0 => hg_M_4 a i (by first | decide | (rcases hc0 with h | h <;> rw [h] <;> simp; done) | (rcases hb0 with h | h | h <;> rw [h] <;> simp; done) | (simp; done) | omega)
            exact wp_some ⟨b01_1, (fun a i q0 => ((hg_M_4 a i (fun z8 => q0 ((fun z9 => Or.elim z9 (fun h9 => Or.inl h9) (fun z9 => Or.elim z9 (fun h9 => Or.inr (Or.inl h9)) (fun z9 => Or.elim z9 (fun h9 => Or.inr (Or.inr (Or.inl h9))) (fun z9 => Or.elim z9 (fun h9 => Or.inr (Or.inr (Or.inr (Or.inl h9)))) (fun h9 => Or.inr (Or.inr (Or.inr (Or.inr (h9))))))))) z8))).trans rfl))⟩
          refine wp_ite (fun c43 => ?_) (fun c43 => ?_)
          · exact j54
          · refine wp_ite (fun c49 => ?_) (fun c49 => ?_)
            · exact j54
            · exact wp_some ⟨b01_0, (fun _ _ _ => rfl)⟩
        · exact wp_some ⟨b01_0, (fun _ _ _ => rfl)⟩
theorem o_X9_stoneIs (M : Mem) (v1 : Int32) (v2 : Int32) : Wp (f_X9_stoneIs M v1 v2) (fun q => True) := by
  refine wp_bind2 (o_X2_isTold (Or.inl rfl) M v1) (fun r_1 he5 hq5 => ?_)
  obtain ⟨hz_r_1, hr_5⟩ := hq5
  replace hr_5 : ¬ r_1.toInt = 0 → 0 ≤ v1.toInt ∧ v1.toInt < 40 := hr_5
  refine wp_ite (fun c8 => ?_) (fun c8 => ?_)
  · exact wp_some trivial
  · refine wp_ite (fun c14 => ?_) (fun c14 => ?_)
    · refine wp_gd (by omega) ?_
      exact wp_some trivial
    · refine wp_ite (fun c1 => ?_) (fun c1 => ?_)
      · refine wp_gd (by omega) ?_
        exact wp_some trivial
      · refine wp_ite (fun c2 => ?_) (fun c2 => ?_)
        · refine wp_gd (by omega) ?_
          exact wp_some trivial
        · refine wp_ite (fun c3 => ?_) (fun c3 => ?_)
          · refine wp_gd (by omega) ?_
            refine wp_ite (fun c87 => ?_) (fun c87 => ?_)
            · exact wp_some trivial
            · exact wp_some trivial
          · refine wp_ite (fun c4 => ?_) (fun c4 => ?_)
            · refine wp_bind2 (o_X2_countClose (Or.inl rfl) M v1) (fun r_2 he101 hq101 => ?_)
              exact wp_some trivial
            · exact wp_some trivial
theorem o_X9_take (M : Mem) (v1 : Int32) : Wp (f_X9_take M v1) (fun q => (q.1 = 0 ∨ q.1 = 1) ∧ (∀ a i, ¬ (a = 5) → q.2 a i = M a i)) := by
  refine wp_bind2 (o_X2_isTold (Or.inl rfl) M v1) (fun r_1 he5 hq5 => ?_)
  obtain ⟨hz_r_1, hr_5⟩ := hq5
  replace hr_5 : ¬ r_1.toInt = 0 → 0 ≤ v1.toInt ∧ v1.toInt < 40 := hr_5
  refine wp_ite (fun c8 => ?_) (fun c8 => ?_)
  · exact wp_some ⟨b01_0, (fun _ _ _ => rfl)⟩
  · refine wp_gd (by omega) ?_
    refine wp_bnd (fun M_2 eM_2 => ?_)
    exact wp_some ⟨b01_1, (fun a i q0 => ((congrFun (congrFun eM_2 a) i).trans ((mset_ne (fun h9 => q0 ((h9).1))).trans rfl)))⟩
theorem o_X9_fewestThrows {b : Nat} (hb : isF b) {KS : Int} {S_X9_fewestThrows : Mem → Int32 → Int64 → Int32 → Int32 → Option Int32} (hS_X9_fewestThrows : ∀ (M : Mem) (v1 : Int32) (v2 : Int64) (v4 : Int32) (v5 : Int32) (ho : 0 ≤ v5.toInt ∧ v5.toInt ≤ KS), Wp (S_X9_fewestThrows M v1 v2 v4 v5) (fun q => True)) (M : Mem) (v1 : Int32) (v2 : Int64) (v4 : Int32) (v5 : Int32) (ho : v5.toInt ≤ KS + 1) : Wp (f_X9_fewestThrows S_X9_fewestThrows b M v1 v2 v4 v5) (fun q => True) := by
  have hb0 : b = 1 ∨ b = 7 ∨ b = 13 := hb
  refine wp_ite (fun c2 => ?_) (fun c2 => ?_)
  · refine wp_lp2 (fun y6_15 y7_15 => (0 ≤ y7_15.toInt)) (fun y6_15 y7_15 => (40 - y7_15.toInt).toNat) (fun ag15 y6_15 y7_15 hI15 ih15 => ?_) FU (nI 2147483647) (nI 0) (by have f0 := t_lit 0; omega) (fu_lt (by have f0 := t_lit 0; omega))
    have hi15 := hI15
    refine wp_ite (fun c19 => ?_) (fun c19 => ?_)
    · exact wp_some trivial
    · refine wp_ite (fun c26 => ?_) (fun c26 => ?_)
      · exact wp_some trivial
      · refine wp_bind2 (o_X2_isDry hb M y7_15) (fun r_1 he32 hq32 => ?_)
        obtain ⟨hz_r_1, hr_32⟩ := hq32
        replace hr_32 : ¬ r_1.toInt = 0 → 0 ≤ y7_15.toInt ∧ y7_15.toInt < 40 := hr_32
        refine wp_ite (fun c35 => ?_) (fun c35 => ?_)
        · exact ih15 y6_15 (y7_15 + (nI 1)) (by have f0 := t_lit 1; have f1 := t_add y7_15 (nI 1); omega) (by have f0 := t_lit 1; have f1 := t_add y7_15 (nI 1); omega)
        · refine wp_ite (fun c46 => ?_) (fun c46 => ?_)
          · refine wp_bind2 (o_X2_squares hb M v1 y7_15) (fun r_2 he53 hq53 => ?_)
            refine wp_bind2 (hS_X9_fewestThrows M y7_15 (v2 ||| (lshl 1 y7_15)) v4 (v5 - (nI 1)) (by have f0 := t_lit 1; have f1 := t_sub v5 (nI 1); omega)) (fun r_3 he71 hq71 => ?_)
            refine wp_bnd (fun x_4 ex_4 => ?_)
            refine wp_bnd (fun x_5 ex_5 => ?_)
            exact ih15 x_5 (y7_15 + (nI 1)) (by have f0 := t_lit 1; have f1 := t_add y7_15 (nI 1); omega) (by have f0 := t_lit 1; have f1 := t_add y7_15 (nI 1); omega)
          · exact ih15 y6_15 (y7_15 + (nI 1)) (by have f0 := t_lit 1; have f1 := t_add y7_15 (nI 1); omega) (by have f0 := t_lit 1; have f1 := t_add y7_15 (nI 1); omega)
  · exact wp_some trivial
theorem og_throws {b : Nat} (hb : isF b) : ∀ (n : Nat) (M : Mem) (v1 : Int32) (v2 : Int64) (v4 v5 : Int32), 0 ≤ v5.toInt ∧ v5.toInt ≤ (n : Int) - 1 → Wp (g_throws b n M v1 v2 v4 v5) (fun q => True)
  | 0 => fun M v1 v2 v4 v5 h => absurd h (by omega)
  | n + 1 => fun M v1 v2 v4 v5 h => o_X9_fewestThrows hb (KS := (n : Int) - 1) (fun M v1 v2 v4 v5 h3 => og_throws hb n M v1 v2 v4 v5 h3) M v1 v2 v4 v5 (by omega)
theorem og_throws7 {b : Nat} (hb : isF b) (M : Mem) (v1 : Int32) (v2 : Int64) (v4 v5 : Int32) (ho : 0 ≤ v5.toInt ∧ v5.toInt ≤ 5) : Wp (g_throws b 7 M v1 v2 v4 v5) (fun q => True) := og_throws hb 7 M v1 v2 v4 v5 (by omega)
theorem o_X9_thrown (M : Mem) (v1 : Int32) : Wp (f_X9_thrown M v1) (fun q => True) := by
  refine wp_ite (fun c2 => ?_) (fun c2 => ?_)
  · exact wp_some trivial
  · refine wp_ite (fun c8 => ?_) (fun c8 => ?_)
    · refine wp_bind2 (o_X2_nextDry (Or.inl rfl) M (nI 0)) (fun r_1 he18 hq18 => ?_)
      have ft1 := t_rng v1
      refine wp_lp2 (fun y3_27 y4_27 => (1 ≤ y4_27.toInt)) (fun y3_27 y4_27 => (v1.toInt - y4_27.toInt).toNat) (fun ag27 y3_27 y4_27 hI27 ih27 => ?_) FU r_1 (nI 1) (by have f0 := t_lit 1; omega) (fu_lt (by have f0 := t_lit 1; omega))
      have hi27 := hI27
      have j55 : Wp (f_X9_thrown_L55 M v1 r_1 y3_27) (fun q => True) := by
        unfold f_X9_thrown_L55
        refine wp_ite (fun c57 => ?_) (fun c57 => ?_)
        · exact wp_some trivial
        · refine wp_bind2 (og_throws7 (Or.inl rfl) M r_1 (lshl 1 r_1) y3_27 (v1 - (nI 1)) (by have f0 := t_lit 1; have f1 := t_sub v1 (nI 1); omega)) (fun r_2 he75 hq75 => ?_)
          exact wp_some trivial
      refine wp_ite (fun c30 => ?_) (fun c30 => ?_)
      · exact j55
      · refine wp_ite (fun c35 => ?_) (fun c35 => ?_)
        · exact j55
        · refine wp_bind2 (o_X2_nextDry (Or.inl rfl) M (y3_27 + (nI 1))) (fun r_3 he45 hq45 => ?_)
          exact ih27 r_3 (y4_27 + (nI 1)) (by have f0 := t_lit 1; have f1 := t_add y4_27 (nI 1); omega) (by have f0 := t_lit 1; have f1 := t_add y4_27 (nI 1); omega)
    · exact wp_some trivial
theorem o_X9_tried (M : Mem) (v1 : Int32) (v2 : Int32) (hL10 : (M 0 10).toInt = 44 ∨ (M 0 10).toInt = 52) : Wp (f_X9_tried M v1 v2) (fun q => (∀ a i, ¬ ((a = 13 ∧ i = 5) ∨ (a = 13 ∧ i = 6) ∨ a = 14 ∨ a = 15 ∨ a = 16 ∨ a = 17 ∨ a = 18 ∨ (a = 21 ∧ i = 1) ∨ (a = 21 ∧ i = 2) ∨ a = 22 ∨ a = 47 ∨ a = 55) → q.2 a i = M a i)) := by
  have j25 : ∀ (t0_25 : Int32), (t0_25 = 0 ∨ t0_25 = 1) → (¬ t0_25.toInt = 0 → 0 ≤ (v2 - nI 100).toInt ∧ (v2 - nI 100).toInt < 40) → Wp (f_X9_tried_L25 M v1 v2 t0_25) (fun q => (∀ a i, ¬ ((a = 13 ∧ i = 5) ∨ (a = 13 ∧ i = 6) ∨ a = 14 ∨ a = 15 ∨ a = 16 ∨ a = 17 ∨ a = 18 ∨ (a = 21 ∧ i = 1) ∨ (a = 21 ∧ i = 2) ∨ a = 22 ∨ a = 47 ∨ a = 55) → q.2 a i = M a i)) := by
    intro t0_25 hb_t0_25 hx
    unfold f_X9_tried_L25
    have j53 : ∀ (t0_53 : Int32), (t0_53 = 0 ∨ t0_53 = 1) → (¬ t0_53.toInt = 0 → 0 ≤ (v2 - nI 200).toInt ∧ (v2 - nI 200).toInt < 40) → Wp (f_X9_tried_L53 M v1 v2 t0_25 t0_53) (fun q => (∀ a i, ¬ ((a = 13 ∧ i = 5) ∨ (a = 13 ∧ i = 6) ∨ a = 14 ∨ a = 15 ∨ a = 16 ∨ a = 17 ∨ a = 18 ∨ (a = 21 ∧ i = 1) ∨ (a = 21 ∧ i = 2) ∨ a = 22 ∨ a = 47 ∨ a = 55) → q.2 a i = M a i)) := by
      intro t0_53 hb_t0_53 hy
      unfold f_X9_tried_L53
      refine wp_bind2 (o_X9_isNights M v1) (fun r_1 he56 hq56 => ?_)
      have hz_r_1 := hq56
      refine wp_ite (fun c59 => ?_) (fun c59 => ?_)
      · exact wp_some (fun _ _ _ => rfl)
      · have j83 : Wp (f_X9_tried_L83 M v1 v2 t0_25 t0_53) (fun q => (∀ a i, ¬ ((a = 13 ∧ i = 5) ∨ (a = 13 ∧ i = 6) ∨ a = 14 ∨ a = 15 ∨ a = 16 ∨ a = 17 ∨ a = 18 ∨ (a = 21 ∧ i = 1) ∨ (a = 21 ∧ i = 2) ∨ a = 22 ∨ a = 47 ∨ a = 55) → q.2 a i = M a i)) := by
          unfold f_X9_tried_L83
          refine wp_bind2 (o_X2_copyAll (Or.inr (Or.inr rfl)) (Or.inl rfl) M) (fun M_2 he91 hq91 => ?_)
          have hg_M_2 := hq91
          replace hg_M_2 : ∀ a i, ¬ ((a = 13 ∧ i = 5) ∨ (a = 13 ∧ i = 6) ∨ a = 14 ∨ a = 15 ∨ a = 16 ∨ a = 17 ∨ a = 18) → M_2 a i = M a i := by exact fun a i q0 => hg_M_2 a i (by first | decide | (rcases hc0 with h | h <;> rw [h] <;> simp; done) | (rcases hb0 with h | h | h <;> rw [h] <;> simp; done) | (simp; done) | omega)
          refine wp_rl (by have f0 := congrArg Int32.toInt (hg_M_2 0 10 (by first | decide | (rcases hc0 with h | h <;> rw [h] <;> simp; done) | (rcases hb0 with h | h | h <;> rw [h] <;> simp; done) | (simp; done) | omega)); omega) (fun c_3 hc_3 ecc_3 => ?_)
          have hc_30 : c_3 = 44 ∨ c_3 = 52 := hc_3
          refine wp_bind2 (o_X5_pass (Or.inr (Or.inr rfl)) hc_3 M_2 v1) (fun M_4 he107 hq107 => ?_)
          have hg_M_4 := hq107
          replace hg_M_4 : ∀ a i, ¬ ((a = 13 ∧ i = 5) ∨ (a = 13 ∧ i = 6) ∨ a = 14 ∨ a = 15 ∨ a = 18 ∨ (a = 21 ∧ i = 1) ∨ (a = 21 ∧ i = 2) ∨ a = 22 ∨ a = 47 ∨ a = 55) → M_4 a i = M_2 a i := by rcases hc_30 with e9 | e9 <;> subst e9 <;> exact fun a i q0 => hg_M_4 a i (by first | decide | (rcases hc0 with h | h <;> rw [h] <;> simp; done) | (rcases hb0 with h | h | h <;> rw [h] <;> simp; done) | (simp; done) | omega)
          refine wp_ite (fun c111 => ?_) (fun c111 => ?_)
          · refine wp_ite (fun c129 => ?_) (fun c129 => ?_)
            · refine wp_ite (fun c147 => ?_) (fun c147 => ?_)
              · exact wp_some (fun a i q0 => ((hg_M_4 a i (fun z8 => q0 ((fun z9 => Or.elim z9 (fun h9 => Or.inl h9) (fun z9 => Or.elim z9 (fun h9 => Or.inr (Or.inl h9)) (fun z9 => Or.elim z9 (fun h9 => Or.inr (Or.inr (Or.inl h9))) (fun z9 => Or.elim z9 (fun h9 => Or.inr (Or.inr (Or.inr (Or.inl h9)))) (fun z9 => Or.elim z9 (fun h9 => Or.inr (Or.inr (Or.inr (Or.inr (Or.inr (Or.inr (Or.inl h9))))))) (fun z9 => Or.elim z9 (fun h9 => Or.inr (Or.inr (Or.inr (Or.inr (Or.inr (Or.inr (Or.inr (Or.inl h9)))))))) (fun z9 => Or.elim z9 (fun h9 => Or.inr (Or.inr (Or.inr (Or.inr (Or.inr (Or.inr (Or.inr (Or.inr (Or.inl h9))))))))) (fun z9 => Or.elim z9 (fun h9 => Or.inr (Or.inr (Or.inr (Or.inr (Or.inr (Or.inr (Or.inr (Or.inr (Or.inr (Or.inl h9)))))))))) (fun z9 => Or.elim z9 (fun h9 => Or.inr (Or.inr (Or.inr (Or.inr (Or.inr (Or.inr (Or.inr (Or.inr (Or.inr (Or.inr (Or.inl h9))))))))))) (fun h9 => Or.inr (Or.inr (Or.inr (Or.inr (Or.inr (Or.inr (Or.inr (Or.inr (Or.inr (Or.inr (Or.inr (h9))))))))))))))))))))) z8))).trans ((hg_M_2 a i (fun z8 => q0 ((fun z9 => Or.elim z9 (fun h9 => Or.inl h9) (fun z9 => Or.elim z9 (fun h9 => Or.inr (Or.inl h9)) (fun z9 => Or.elim z9 (fun h9 => Or.inr (Or.inr (Or.inl h9))) (fun z9 => Or.elim z9 (fun h9 => Or.inr (Or.inr (Or.inr (Or.inl h9)))) (fun z9 => Or.elim z9 (fun h9 => Or.inr (Or.inr (Or.inr (Or.inr (Or.inl h9))))) (fun z9 => Or.elim z9 (fun h9 => Or.inr (Or.inr (Or.inr (Or.inr (Or.inr (Or.inl h9)))))) (fun h9 => Or.inr (Or.inr (Or.inr (Or.inr (Or.inr (Or.inr (Or.inl h9))))))))))))) z8))).trans rfl)))
              · refine wp_ite (fun c1 => ?_) (fun c1 => ?_)
                · exact wp_some (fun a i q0 => ((hg_M_4 a i (fun z8 => q0 ((fun z9 => Or.elim z9 (fun h9 => Or.inl h9) (fun z9 => Or.elim z9 (fun h9 => Or.inr (Or.inl h9)) (fun z9 => Or.elim z9 (fun h9 => Or.inr (Or.inr (Or.inl h9))) (fun z9 => Or.elim z9 (fun h9 => Or.inr (Or.inr (Or.inr (Or.inl h9)))) (fun z9 => Or.elim z9 (fun h9 => Or.inr (Or.inr (Or.inr (Or.inr (Or.inr (Or.inr (Or.inl h9))))))) (fun z9 => Or.elim z9 (fun h9 => Or.inr (Or.inr (Or.inr (Or.inr (Or.inr (Or.inr (Or.inr (Or.inl h9)))))))) (fun z9 => Or.elim z9 (fun h9 => Or.inr (Or.inr (Or.inr (Or.inr (Or.inr (Or.inr (Or.inr (Or.inr (Or.inl h9))))))))) (fun z9 => Or.elim z9 (fun h9 => Or.inr (Or.inr (Or.inr (Or.inr (Or.inr (Or.inr (Or.inr (Or.inr (Or.inr (Or.inl h9)))))))))) (fun z9 => Or.elim z9 (fun h9 => Or.inr (Or.inr (Or.inr (Or.inr (Or.inr (Or.inr (Or.inr (Or.inr (Or.inr (Or.inr (Or.inl h9))))))))))) (fun h9 => Or.inr (Or.inr (Or.inr (Or.inr (Or.inr (Or.inr (Or.inr (Or.inr (Or.inr (Or.inr (Or.inr (h9))))))))))))))))))))) z8))).trans ((hg_M_2 a i (fun z8 => q0 ((fun z9 => Or.elim z9 (fun h9 => Or.inl h9) (fun z9 => Or.elim z9 (fun h9 => Or.inr (Or.inl h9)) (fun z9 => Or.elim z9 (fun h9 => Or.inr (Or.inr (Or.inl h9))) (fun z9 => Or.elim z9 (fun h9 => Or.inr (Or.inr (Or.inr (Or.inl h9)))) (fun z9 => Or.elim z9 (fun h9 => Or.inr (Or.inr (Or.inr (Or.inr (Or.inl h9))))) (fun z9 => Or.elim z9 (fun h9 => Or.inr (Or.inr (Or.inr (Or.inr (Or.inr (Or.inl h9)))))) (fun h9 => Or.inr (Or.inr (Or.inr (Or.inr (Or.inr (Or.inr (Or.inl h9))))))))))))) z8))).trans rfl)))
                · refine wp_ite (fun c2 => ?_) (fun c2 => ?_)
                  · refine wp_bind2 (o_X2_countSunk (Or.inr (Or.inr rfl)) M_4) (fun r_5 he192 hq192 => ?_)
                    exact wp_some (fun a i q0 => ((hg_M_4 a i (fun z8 => q0 ((fun z9 => Or.elim z9 (fun h9 => Or.inl h9) (fun z9 => Or.elim z9 (fun h9 => Or.inr (Or.inl h9)) (fun z9 => Or.elim z9 (fun h9 => Or.inr (Or.inr (Or.inl h9))) (fun z9 => Or.elim z9 (fun h9 => Or.inr (Or.inr (Or.inr (Or.inl h9)))) (fun z9 => Or.elim z9 (fun h9 => Or.inr (Or.inr (Or.inr (Or.inr (Or.inr (Or.inr (Or.inl h9))))))) (fun z9 => Or.elim z9 (fun h9 => Or.inr (Or.inr (Or.inr (Or.inr (Or.inr (Or.inr (Or.inr (Or.inl h9)))))))) (fun z9 => Or.elim z9 (fun h9 => Or.inr (Or.inr (Or.inr (Or.inr (Or.inr (Or.inr (Or.inr (Or.inr (Or.inl h9))))))))) (fun z9 => Or.elim z9 (fun h9 => Or.inr (Or.inr (Or.inr (Or.inr (Or.inr (Or.inr (Or.inr (Or.inr (Or.inr (Or.inl h9)))))))))) (fun z9 => Or.elim z9 (fun h9 => Or.inr (Or.inr (Or.inr (Or.inr (Or.inr (Or.inr (Or.inr (Or.inr (Or.inr (Or.inr (Or.inl h9))))))))))) (fun h9 => Or.inr (Or.inr (Or.inr (Or.inr (Or.inr (Or.inr (Or.inr (Or.inr (Or.inr (Or.inr (Or.inr (h9))))))))))))))))))))) z8))).trans ((hg_M_2 a i (fun z8 => q0 ((fun z9 => Or.elim z9 (fun h9 => Or.inl h9) (fun z9 => Or.elim z9 (fun h9 => Or.inr (Or.inl h9)) (fun z9 => Or.elim z9 (fun h9 => Or.inr (Or.inr (Or.inl h9))) (fun z9 => Or.elim z9 (fun h9 => Or.inr (Or.inr (Or.inr (Or.inl h9)))) (fun z9 => Or.elim z9 (fun h9 => Or.inr (Or.inr (Or.inr (Or.inr (Or.inl h9))))) (fun z9 => Or.elim z9 (fun h9 => Or.inr (Or.inr (Or.inr (Or.inr (Or.inr (Or.inl h9)))))) (fun h9 => Or.inr (Or.inr (Or.inr (Or.inr (Or.inr (Or.inr (Or.inl h9))))))))))))) z8))).trans rfl)))
                  · refine wp_bind2 (o_X2_sumOfX (Or.inr (Or.inr rfl)) M_4) (fun r_6 he200 hq200 => ?_)
                    refine wp_bind2 (o_X2_sumOfX (Or.inl rfl) M_4) (fun r_7 he207 hq207 => ?_)
                    exact wp_some (fun a i q0 => ((hg_M_4 a i (fun z8 => q0 ((fun z9 => Or.elim z9 (fun h9 => Or.inl h9) (fun z9 => Or.elim z9 (fun h9 => Or.inr (Or.inl h9)) (fun z9 => Or.elim z9 (fun h9 => Or.inr (Or.inr (Or.inl h9))) (fun z9 => Or.elim z9 (fun h9 => Or.inr (Or.inr (Or.inr (Or.inl h9)))) (fun z9 => Or.elim z9 (fun h9 => Or.inr (Or.inr (Or.inr (Or.inr (Or.inr (Or.inr (Or.inl h9))))))) (fun z9 => Or.elim z9 (fun h9 => Or.inr (Or.inr (Or.inr (Or.inr (Or.inr (Or.inr (Or.inr (Or.inl h9)))))))) (fun z9 => Or.elim z9 (fun h9 => Or.inr (Or.inr (Or.inr (Or.inr (Or.inr (Or.inr (Or.inr (Or.inr (Or.inl h9))))))))) (fun z9 => Or.elim z9 (fun h9 => Or.inr (Or.inr (Or.inr (Or.inr (Or.inr (Or.inr (Or.inr (Or.inr (Or.inr (Or.inl h9)))))))))) (fun z9 => Or.elim z9 (fun h9 => Or.inr (Or.inr (Or.inr (Or.inr (Or.inr (Or.inr (Or.inr (Or.inr (Or.inr (Or.inr (Or.inl h9))))))))))) (fun h9 => Or.inr (Or.inr (Or.inr (Or.inr (Or.inr (Or.inr (Or.inr (Or.inr (Or.inr (Or.inr (Or.inr (h9))))))))))))))))))))) z8))).trans ((hg_M_2 a i (fun z8 => q0 ((fun z9 => Or.elim z9 (fun h9 => Or.inl h9) (fun z9 => Or.elim z9 (fun h9 => Or.inr (Or.inl h9)) (fun z9 => Or.elim z9 (fun h9 => Or.inr (Or.inr (Or.inl h9))) (fun z9 => Or.elim z9 (fun h9 => Or.inr (Or.inr (Or.inr (Or.inl h9)))) (fun z9 => Or.elim z9 (fun h9 => Or.inr (Or.inr (Or.inr (Or.inr (Or.inl h9))))) (fun z9 => Or.elim z9 (fun h9 => Or.inr (Or.inr (Or.inr (Or.inr (Or.inr (Or.inl h9)))))) (fun h9 => Or.inr (Or.inr (Or.inr (Or.inr (Or.inr (Or.inr (Or.inl h9))))))))))))) z8))).trans rfl)))
            · refine wp_gd (by have f0 := t_lit 200; have f1 := t_sub v2 (nI 200); omega) ?_
              exact wp_some (fun a i q0 => ((hg_M_4 a i (fun z8 => q0 ((fun z9 => Or.elim z9 (fun h9 => Or.inl h9) (fun z9 => Or.elim z9 (fun h9 => Or.inr (Or.inl h9)) (fun z9 => Or.elim z9 (fun h9 => Or.inr (Or.inr (Or.inl h9))) (fun z9 => Or.elim z9 (fun h9 => Or.inr (Or.inr (Or.inr (Or.inl h9)))) (fun z9 => Or.elim z9 (fun h9 => Or.inr (Or.inr (Or.inr (Or.inr (Or.inr (Or.inr (Or.inl h9))))))) (fun z9 => Or.elim z9 (fun h9 => Or.inr (Or.inr (Or.inr (Or.inr (Or.inr (Or.inr (Or.inr (Or.inl h9)))))))) (fun z9 => Or.elim z9 (fun h9 => Or.inr (Or.inr (Or.inr (Or.inr (Or.inr (Or.inr (Or.inr (Or.inr (Or.inl h9))))))))) (fun z9 => Or.elim z9 (fun h9 => Or.inr (Or.inr (Or.inr (Or.inr (Or.inr (Or.inr (Or.inr (Or.inr (Or.inr (Or.inl h9)))))))))) (fun z9 => Or.elim z9 (fun h9 => Or.inr (Or.inr (Or.inr (Or.inr (Or.inr (Or.inr (Or.inr (Or.inr (Or.inr (Or.inr (Or.inl h9))))))))))) (fun h9 => Or.inr (Or.inr (Or.inr (Or.inr (Or.inr (Or.inr (Or.inr (Or.inr (Or.inr (Or.inr (Or.inr (h9))))))))))))))))))))) z8))).trans ((hg_M_2 a i (fun z8 => q0 ((fun z9 => Or.elim z9 (fun h9 => Or.inl h9) (fun z9 => Or.elim z9 (fun h9 => Or.inr (Or.inl h9)) (fun z9 => Or.elim z9 (fun h9 => Or.inr (Or.inr (Or.inl h9))) (fun z9 => Or.elim z9 (fun h9 => Or.inr (Or.inr (Or.inr (Or.inl h9)))) (fun z9 => Or.elim z9 (fun h9 => Or.inr (Or.inr (Or.inr (Or.inr (Or.inl h9))))) (fun z9 => Or.elim z9 (fun h9 => Or.inr (Or.inr (Or.inr (Or.inr (Or.inr (Or.inl h9)))))) (fun h9 => Or.inr (Or.inr (Or.inr (Or.inr (Or.inr (Or.inr (Or.inl h9))))))))))))) z8))).trans rfl)))
          · refine wp_gd (by have f0 := t_lit 100; have f1 := t_sub v2 (nI 100); omega) ?_
            exact wp_some (fun a i q0 => ((hg_M_4 a i (fun z8 => q0 ((fun z9 => Or.elim z9 (fun h9 => Or.inl h9) (fun z9 => Or.elim z9 (fun h9 => Or.inr (Or.inl h9)) (fun z9 => Or.elim z9 (fun h9 => Or.inr (Or.inr (Or.inl h9))) (fun z9 => Or.elim z9 (fun h9 => Or.inr (Or.inr (Or.inr (Or.inl h9)))) (fun z9 => Or.elim z9 (fun h9 => Or.inr (Or.inr (Or.inr (Or.inr (Or.inr (Or.inr (Or.inl h9))))))) (fun z9 => Or.elim z9 (fun h9 => Or.inr (Or.inr (Or.inr (Or.inr (Or.inr (Or.inr (Or.inr (Or.inl h9)))))))) (fun z9 => Or.elim z9 (fun h9 => Or.inr (Or.inr (Or.inr (Or.inr (Or.inr (Or.inr (Or.inr (Or.inr (Or.inl h9))))))))) (fun z9 => Or.elim z9 (fun h9 => Or.inr (Or.inr (Or.inr (Or.inr (Or.inr (Or.inr (Or.inr (Or.inr (Or.inr (Or.inl h9)))))))))) (fun z9 => Or.elim z9 (fun h9 => Or.inr (Or.inr (Or.inr (Or.inr (Or.inr (Or.inr (Or.inr (Or.inr (Or.inr (Or.inr (Or.inl h9))))))))))) (fun h9 => Or.inr (Or.inr (Or.inr (Or.inr (Or.inr (Or.inr (Or.inr (Or.inr (Or.inr (Or.inr (Or.inr (h9))))))))))))))))))))) z8))).trans ((hg_M_2 a i (fun z8 => q0 ((fun z9 => Or.elim z9 (fun h9 => Or.inl h9) (fun z9 => Or.elim z9 (fun h9 => Or.inr (Or.inl h9)) (fun z9 => Or.elim z9 (fun h9 => Or.inr (Or.inr (Or.inl h9))) (fun z9 => Or.elim z9 (fun h9 => Or.inr (Or.inr (Or.inr (Or.inl h9)))) (fun z9 => Or.elim z9 (fun h9 => Or.inr (Or.inr (Or.inr (Or.inr (Or.inl h9))))) (fun z9 => Or.elim z9 (fun h9 => Or.inr (Or.inr (Or.inr (Or.inr (Or.inr (Or.inl h9)))))) (fun h9 => Or.inr (Or.inr (Or.inr (Or.inr (Or.inr (Or.inr (Or.inl h9))))))))))))) z8))).trans rfl)))
        have j71 : Wp (f_X9_tried_L71 M v1 v2 t0_25 t0_53) (fun q => (∀ a i, ¬ ((a = 13 ∧ i = 5) ∨ (a = 13 ∧ i = 6) ∨ a = 14 ∨ a = 15 ∨ a = 16 ∨ a = 17 ∨ a = 18 ∨ (a = 21 ∧ i = 1) ∨ (a = 21 ∧ i = 2) ∨ a = 22 ∨ a = 47 ∨ a = 55) → q.2 a i = M a i)) := by
          unfold f_X9_tried_L71
          refine wp_ite (fun c72 => ?_) (fun c72 => ?_)
          · refine wp_ite (fun c77 => ?_) (fun c77 => ?_)
            · exact wp_some (fun _ _ _ => rfl)
            · exact j83
          · exact j83
        refine wp_ite (fun c63 => ?_) (fun c63 => ?_)
        · exact j71
        · refine wp_ite (fun c68 => ?_) (fun c68 => ?_)
          · exact j83
          · exact j71
    have j52 : Wp (f_X9_tried_L52 M v1 v2 t0_25) (fun q => (∀ a i, ¬ ((a = 13 ∧ i = 5) ∨ (a = 13 ∧ i = 6) ∨ a = 14 ∨ a = 15 ∨ a = 16 ∨ a = 17 ∨ a = 18 ∨ (a = 21 ∧ i = 1) ∨ (a = 21 ∧ i = 2) ∨ a = 22 ∨ a = 47 ∨ a = 55) → q.2 a i = M a i)) := by
      unfold f_X9_tried_L52
      exact j53 (nI 0) b01_0 (by have f0 := t_lit 0; omega)
    refine wp_ite (fun c30 => ?_) (fun c30 => ?_)
    · exact j52
    · refine wp_bind2 (o_X2_isTold (Or.inl rfl) M (v2 - (nI 200))) (fun r_8 he42 hq42 => ?_)
      obtain ⟨hz_r_8, hr_42⟩ := hq42
      replace hr_42 : ¬ r_8.toInt = 0 → 0 ≤ (v2 - (nI 200)).toInt ∧ (v2 - (nI 200)).toInt < 40 := hr_42
      refine wp_ite (fun c45 => ?_) (fun c45 => ?_)
      · exact j52
      · exact j53 (nI 1) b01_1 (by have f0 := t_lit 1; omega)
  have j24 : Wp (f_X9_tried_L24 M v1 v2) (fun q => (∀ a i, ¬ ((a = 13 ∧ i = 5) ∨ (a = 13 ∧ i = 6) ∨ a = 14 ∨ a = 15 ∨ a = 16 ∨ a = 17 ∨ a = 18 ∨ (a = 21 ∧ i = 1) ∨ (a = 21 ∧ i = 2) ∨ a = 22 ∨ a = 47 ∨ a = 55) → q.2 a i = M a i)) := by
    unfold f_X9_tried_L24
    exact j25 (nI 0) b01_0 (by have f0 := t_lit 0; omega)
  refine wp_ite (fun c3 => ?_) (fun c3 => ?_)
  · exact j24
  · refine wp_bind2 (o_X2_isTold (Or.inl rfl) M (v2 - (nI 100))) (fun r_9 he14 hq14 => ?_)
    obtain ⟨hz_r_9, hr_14⟩ := hq14
    replace hr_14 : ¬ r_9.toInt = 0 → 0 ≤ (v2 - (nI 100)).toInt ∧ (v2 - (nI 100)).toInt < 40 := hr_14
    refine wp_ite (fun c17 => ?_) (fun c17 => ?_)
    · exact j24
    · exact j25 (nI 1) b01_1 (by have f0 := t_lit 1; omega)
theorem o_X9_under (M : Mem) (v1 : Int32) (v2 : Int32) : Wp (f_X9_under M v1 v2) (fun q => (q.1 = 0 ∨ q.1 = 1) ∧ (∀ a i, ¬ (a = 6) → q.2 a i = M a i)) := by
  refine wp_bind2 (o_X2_isTold (Or.inl rfl) M v1) (fun r_1 he5 hq5 => ?_)
  obtain ⟨hz_r_1, hr_5⟩ := hq5
  replace hr_5 : ¬ r_1.toInt = 0 → 0 ≤ v1.toInt ∧ v1.toInt < 40 := hr_5
  refine wp_ite (fun c8 => ?_) (fun c8 => ?_)
  · exact wp_some ⟨b01_0, (fun _ _ _ => rfl)⟩
  · refine wp_gd (by omega) ?_
    refine wp_bnd (fun M_2 eM_2 => ?_)
    exact wp_some ⟨b01_1, (fun a i q0 => ((congrFun (congrFun eM_2 a) i).trans ((mset_ne (fun h9 => q0 ((h9).1))).trans rfl)))⟩
theorem o_X9_undo (M : Mem) (hK : M 0 12 = 0 ∨ M 0 12 = 1) : Wp (f_X9_undo M) (fun q => (q.1 = 0 ∨ q.1 = 1) ∧ (∀ a i, ¬ ((a = 1 ∧ i = 5) ∨ (a = 1 ∧ i = 6) ∨ a = 2 ∨ a = 3 ∨ a = 4 ∨ a = 5 ∨ a = 6) → q.2 a i = M a i)) := by
  refine wp_ite (fun c4 => ?_) (fun c4 => ?_)
  · refine wp_gb hK ?_
    exact wp_some ⟨hK, (fun _ _ _ => rfl)⟩
  · refine wp_bind2 (o_X2_copyAll (Or.inl rfl) (Or.inr (Or.inl rfl)) M) (fun M_1 he15 hq15 => ?_)
    have hg_M_1 := hq15
    replace hg_M_1 : ∀ a i, ¬ ((a = 1 ∧ i = 5) ∨ (a = 1 ∧ i = 6) ∨ a = 2 ∨ a = 3 ∨ a = 4 ∨ a = 5 ∨ a = 6) → M_1 a i = M a i := by exact fun a i q0 => hg_M_1 a i (by first | decide | (rcases hc0 with h | h <;> rw [h] <;> simp; done) | (rcases hb0 with h | h | h <;> rw [h] <;> simp; done) | (simp; done) | omega)
    refine wp_gb (by rw [hg_M_1 0 12 (by first | decide | (rcases hc0 with h | h <;> rw [h] <;> simp; done) | (rcases hb0 with h | h | h <;> rw [h] <;> simp; done) | (simp; done) | omega)]; exact hK) ?_
    exact wp_some ⟨(by rw [hg_M_1 0 12 (by first | decide | (rcases hc0 with h | h <;> rw [h] <;> simp; done) | (rcases hb0 with h | h | h <;> rw [h] <;> simp; done) | (simp; done) | omega)]; exact hK), (fun a i q0 => ((hg_M_1 a i (fun z8 => q0 ((fun z9 => Or.elim z9 (fun h9 => Or.inl h9) (fun z9 => Or.elim z9 (fun h9 => Or.inr (Or.inl h9)) (fun z9 => Or.elim z9 (fun h9 => Or.inr (Or.inr (Or.inl h9))) (fun z9 => Or.elim z9 (fun h9 => Or.inr (Or.inr (Or.inr (Or.inl h9)))) (fun z9 => Or.elim z9 (fun h9 => Or.inr (Or.inr (Or.inr (Or.inr (Or.inl h9))))) (fun z9 => Or.elim z9 (fun h9 => Or.inr (Or.inr (Or.inr (Or.inr (Or.inr (Or.inl h9)))))) (fun h9 => Or.inr (Or.inr (Or.inr (Or.inr (Or.inr (Or.inr (h9))))))))))))) z8))).trans rfl))⟩
theorem o_X9_walk (M : Mem) (v1 : Int32) (v2 : Int32) (v3 : Int32) (v4 : Int32) : Wp (f_X9_walk M v1 v2 v3 v4) (fun q => (∀ a i, ¬ ((a = 19 ∧ i = 1) ∨ (a = 19 ∧ i = 2) ∨ (a = 19 ∧ i = 3) ∨ (a = 19 ∧ i = 4) ∨ (a = 34 ∧ i = 2) ∨ (a = 34 ∧ i = 3) ∨ (a = 34 ∧ i = 4) ∨ (a = 34 ∧ i = 5) ∨ a = 35 ∨ a = 36) → q.2 a i = M a i)) := by
  refine wp_bind2 (o_X9_strideOf M v1) (fun r_1 he2 hq2 => ?_)
  refine wp_ite (fun c9 => ?_) (fun c9 => ?_)
  · exact wp_some (fun _ _ _ => rfl)
  · refine wp_ite (fun c13 => ?_) (fun c13 => ?_)
    · exact wp_some (fun _ _ _ => rfl)
    · refine wp_ite (fun c19 => ?_) (fun c19 => ?_)
      · exact wp_some (fun _ _ _ => rfl)
      · refine wp_ite (fun c24 => ?_) (fun c24 => ?_)
        · exact wp_some (fun _ _ _ => rfl)
        · refine wp_ite (fun c30 => ?_) (fun c30 => ?_)
          · exact wp_some (fun _ _ _ => rfl)
          · refine wp_bind2 (o_X7_holds M v3 (nI 1) (nI 60)) (fun r_2 he41 hq41 => ?_)
            obtain ⟨hz_r_2, hr_41⟩ := hq41
            replace hr_41 : ¬ r_2.toInt = 0 → (nI 1).toInt ≤ v3.toInt ∧ v3.toInt ≤ (nI 60).toInt ∧ v3.toInt ≤ (M 19 1).toInt := hr_41
            have := t_lit 1
            have := t_lit 60
            refine wp_ite (fun c44 => ?_) (fun c44 => ?_)
            · exact wp_some (fun _ _ _ => rfl)
            · refine wp_bind2 (o_X7_open M v3) (fun M_3 he54 hq54 => ?_)
              have hg_M_3 := hq54
              replace hg_M_3 : ∀ a i, ¬ ((a = 19 ∧ i = 1) ∨ (a = 19 ∧ i = 2) ∨ (a = 19 ∧ i = 3) ∨ (a = 19 ∧ i = 4)) → M_3 a i = M a i := hg_M_3
              refine wp_cb2 (o_X4_read M_3) (fun r_4 M_5 he65 hq65 => ?_)
              obtain ⟨hz_r_4, hg_M_5⟩ := hq65
              replace hg_M_5 : ∀ a i, ¬ ((a = 19 ∧ i = 3) ∨ (a = 19 ∧ i = 4) ∨ (a = 34 ∧ i = 2) ∨ a = 35 ∨ a = 36) → M_5 a i = M_3 a i := hg_M_5
              refine wp_ite (fun c68 => ?_) (fun c68 => ?_)
              · exact wp_some (fun a i q0 => ((hg_M_5 a i (fun z8 => q0 ((fun z9 => Or.elim z9 (fun h9 => Or.inr (Or.inr (Or.inl h9))) (fun z9 => Or.elim z9 (fun h9 => Or.inr (Or.inr (Or.inr (Or.inl h9)))) (fun z9 => Or.elim z9 (fun h9 => Or.inr (Or.inr (Or.inr (Or.inr (Or.inl h9))))) (fun z9 => Or.elim z9 (fun h9 => Or.inr (Or.inr (Or.inr (Or.inr (Or.inr (Or.inr (Or.inr (Or.inr (Or.inl h9))))))))) (fun h9 => Or.inr (Or.inr (Or.inr (Or.inr (Or.inr (Or.inr (Or.inr (Or.inr (Or.inr (h9)))))))))))))) z8))).trans ((hg_M_3 a i (fun z8 => q0 ((fun z9 => Or.elim z9 (fun h9 => Or.inl h9) (fun z9 => Or.elim z9 (fun h9 => Or.inr (Or.inl h9)) (fun z9 => Or.elim z9 (fun h9 => Or.inr (Or.inr (Or.inl h9))) (fun h9 => Or.inr (Or.inr (Or.inr (Or.inl h9))))))) z8))).trans rfl)))
              · refine wp_bind2 (o_X4_go (Or.inl rfl) M_5 r_1 v2) (fun M_6 he90 hq90 => ?_)
                have hg_M_6 := hq90
                replace hg_M_6 : ∀ a i, ¬ ((a = 34 ∧ i = 3) ∨ (a = 34 ∧ i = 4) ∨ (a = 34 ∧ i = 5)) → M_6 a i = M_5 a i := by exact fun a i q0 => hg_M_6 a i (by first | decide | (rcases hc0 with h | h <;> rw [h] <;> simp; done) | (rcases hb0 with h | h | h <;> rw [h] <;> simp; done) | (simp; done) | omega)
                refine wp_ite (fun c95 => ?_) (fun c95 => ?_)
                · exact wp_some (fun a i q0 => ((hg_M_6 a i (fun z8 => q0 ((fun z9 => Or.elim z9 (fun h9 => Or.inr (Or.inr (Or.inr (Or.inr (Or.inr (Or.inl h9)))))) (fun z9 => Or.elim z9 (fun h9 => Or.inr (Or.inr (Or.inr (Or.inr (Or.inr (Or.inr (Or.inl h9))))))) (fun h9 => Or.inr (Or.inr (Or.inr (Or.inr (Or.inr (Or.inr (Or.inr (Or.inl h9)))))))))) z8))).trans ((hg_M_5 a i (fun z8 => q0 ((fun z9 => Or.elim z9 (fun h9 => Or.inr (Or.inr (Or.inl h9))) (fun z9 => Or.elim z9 (fun h9 => Or.inr (Or.inr (Or.inr (Or.inl h9)))) (fun z9 => Or.elim z9 (fun h9 => Or.inr (Or.inr (Or.inr (Or.inr (Or.inl h9))))) (fun z9 => Or.elim z9 (fun h9 => Or.inr (Or.inr (Or.inr (Or.inr (Or.inr (Or.inr (Or.inr (Or.inr (Or.inl h9))))))))) (fun h9 => Or.inr (Or.inr (Or.inr (Or.inr (Or.inr (Or.inr (Or.inr (Or.inr (Or.inr (h9)))))))))))))) z8))).trans ((hg_M_3 a i (fun z8 => q0 ((fun z9 => Or.elim z9 (fun h9 => Or.inl h9) (fun z9 => Or.elim z9 (fun h9 => Or.inr (Or.inl h9)) (fun z9 => Or.elim z9 (fun h9 => Or.inr (Or.inr (Or.inl h9))) (fun h9 => Or.inr (Or.inr (Or.inr (Or.inl h9))))))) z8))).trans rfl))))
                · refine wp_ite (fun c1 => ?_) (fun c1 => ?_)
                  · exact wp_some (fun a i q0 => ((hg_M_6 a i (fun z8 => q0 ((fun z9 => Or.elim z9 (fun h9 => Or.inr (Or.inr (Or.inr (Or.inr (Or.inr (Or.inl h9)))))) (fun z9 => Or.elim z9 (fun h9 => Or.inr (Or.inr (Or.inr (Or.inr (Or.inr (Or.inr (Or.inl h9))))))) (fun h9 => Or.inr (Or.inr (Or.inr (Or.inr (Or.inr (Or.inr (Or.inr (Or.inl h9)))))))))) z8))).trans ((hg_M_5 a i (fun z8 => q0 ((fun z9 => Or.elim z9 (fun h9 => Or.inr (Or.inr (Or.inl h9))) (fun z9 => Or.elim z9 (fun h9 => Or.inr (Or.inr (Or.inr (Or.inl h9)))) (fun z9 => Or.elim z9 (fun h9 => Or.inr (Or.inr (Or.inr (Or.inr (Or.inl h9))))) (fun z9 => Or.elim z9 (fun h9 => Or.inr (Or.inr (Or.inr (Or.inr (Or.inr (Or.inr (Or.inr (Or.inr (Or.inl h9))))))))) (fun h9 => Or.inr (Or.inr (Or.inr (Or.inr (Or.inr (Or.inr (Or.inr (Or.inr (Or.inr (h9)))))))))))))) z8))).trans ((hg_M_3 a i (fun z8 => q0 ((fun z9 => Or.elim z9 (fun h9 => Or.inl h9) (fun z9 => Or.elim z9 (fun h9 => Or.inr (Or.inl h9)) (fun z9 => Or.elim z9 (fun h9 => Or.inr (Or.inr (Or.inl h9))) (fun h9 => Or.inr (Or.inr (Or.inr (Or.inl h9))))))) z8))).trans rfl))))
                  · refine wp_ite (fun c2 => ?_) (fun c2 => ?_)
                    · exact wp_some (fun a i q0 => ((hg_M_6 a i (fun z8 => q0 ((fun z9 => Or.elim z9 (fun h9 => Or.inr (Or.inr (Or.inr (Or.inr (Or.inr (Or.inl h9)))))) (fun z9 => Or.elim z9 (fun h9 => Or.inr (Or.inr (Or.inr (Or.inr (Or.inr (Or.inr (Or.inl h9))))))) (fun h9 => Or.inr (Or.inr (Or.inr (Or.inr (Or.inr (Or.inr (Or.inr (Or.inl h9)))))))))) z8))).trans ((hg_M_5 a i (fun z8 => q0 ((fun z9 => Or.elim z9 (fun h9 => Or.inr (Or.inr (Or.inl h9))) (fun z9 => Or.elim z9 (fun h9 => Or.inr (Or.inr (Or.inr (Or.inl h9)))) (fun z9 => Or.elim z9 (fun h9 => Or.inr (Or.inr (Or.inr (Or.inr (Or.inl h9))))) (fun z9 => Or.elim z9 (fun h9 => Or.inr (Or.inr (Or.inr (Or.inr (Or.inr (Or.inr (Or.inr (Or.inr (Or.inl h9))))))))) (fun h9 => Or.inr (Or.inr (Or.inr (Or.inr (Or.inr (Or.inr (Or.inr (Or.inr (Or.inr (h9)))))))))))))) z8))).trans ((hg_M_3 a i (fun z8 => q0 ((fun z9 => Or.elim z9 (fun h9 => Or.inl h9) (fun z9 => Or.elim z9 (fun h9 => Or.inr (Or.inl h9)) (fun z9 => Or.elim z9 (fun h9 => Or.inr (Or.inr (Or.inl h9))) (fun h9 => Or.inr (Or.inr (Or.inr (Or.inl h9))))))) z8))).trans rfl))))
                    · refine wp_ite (fun c153 => ?_) (fun c153 => ?_)
                      · exact wp_some (fun a i q0 => ((hg_M_6 a i (fun z8 => q0 ((fun z9 => Or.elim z9 (fun h9 => Or.inr (Or.inr (Or.inr (Or.inr (Or.inr (Or.inl h9)))))) (fun z9 => Or.elim z9 (fun h9 => Or.inr (Or.inr (Or.inr (Or.inr (Or.inr (Or.inr (Or.inl h9))))))) (fun h9 => Or.inr (Or.inr (Or.inr (Or.inr (Or.inr (Or.inr (Or.inr (Or.inl h9)))))))))) z8))).trans ((hg_M_5 a i (fun z8 => q0 ((fun z9 => Or.elim z9 (fun h9 => Or.inr (Or.inr (Or.inl h9))) (fun z9 => Or.elim z9 (fun h9 => Or.inr (Or.inr (Or.inr (Or.inl h9)))) (fun z9 => Or.elim z9 (fun h9 => Or.inr (Or.inr (Or.inr (Or.inr (Or.inl h9))))) (fun z9 => Or.elim z9 (fun h9 => Or.inr (Or.inr (Or.inr (Or.inr (Or.inr (Or.inr (Or.inr (Or.inr (Or.inl h9))))))))) (fun h9 => Or.inr (Or.inr (Or.inr (Or.inr (Or.inr (Or.inr (Or.inr (Or.inr (Or.inr (h9)))))))))))))) z8))).trans ((hg_M_3 a i (fun z8 => q0 ((fun z9 => Or.elim z9 (fun h9 => Or.inl h9) (fun z9 => Or.elim z9 (fun h9 => Or.inr (Or.inl h9)) (fun z9 => Or.elim z9 (fun h9 => Or.inr (Or.inr (Or.inl h9))) (fun h9 => Or.inr (Or.inr (Or.inr (Or.inl h9))))))) z8))).trans rfl))))
                      · exact wp_some (fun a i q0 => ((hg_M_6 a i (fun z8 => q0 ((fun z9 => Or.elim z9 (fun h9 => Or.inr (Or.inr (Or.inr (Or.inr (Or.inr (Or.inl h9)))))) (fun z9 => Or.elim z9 (fun h9 => Or.inr (Or.inr (Or.inr (Or.inr (Or.inr (Or.inr (Or.inl h9))))))) (fun h9 => Or.inr (Or.inr (Or.inr (Or.inr (Or.inr (Or.inr (Or.inr (Or.inl h9)))))))))) z8))).trans ((hg_M_5 a i (fun z8 => q0 ((fun z9 => Or.elim z9 (fun h9 => Or.inr (Or.inr (Or.inl h9))) (fun z9 => Or.elim z9 (fun h9 => Or.inr (Or.inr (Or.inr (Or.inl h9)))) (fun z9 => Or.elim z9 (fun h9 => Or.inr (Or.inr (Or.inr (Or.inr (Or.inl h9))))) (fun z9 => Or.elim z9 (fun h9 => Or.inr (Or.inr (Or.inr (Or.inr (Or.inr (Or.inr (Or.inr (Or.inr (Or.inl h9))))))))) (fun h9 => Or.inr (Or.inr (Or.inr (Or.inr (Or.inr (Or.inr (Or.inr (Or.inr (Or.inr (h9)))))))))))))) z8))).trans ((hg_M_3 a i (fun z8 => q0 ((fun z9 => Or.elim z9 (fun h9 => Or.inl h9) (fun z9 => Or.elim z9 (fun h9 => Or.inr (Or.inl h9)) (fun z9 => Or.elim z9 (fun h9 => Or.inr (Or.inr (Or.inl h9))) (fun h9 => Or.inr (Or.inr (Or.inr (Or.inl h9))))))) z8))).trans rfl))))
