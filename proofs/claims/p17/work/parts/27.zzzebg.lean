theorem oh_X1_fewest {b : Nat} (hb : isF b) (M : Mem) (v2 : Int32) (hGd : GdF (FdC M b)) (hs : 1 ≤ v2.toInt ∧ v2.toInt ≤ 30) : Wp (f_X1_fewest b M v2) (fun q => (∀ a i, ¬ ((a = 30 ∧ i = 3) ∨ a = 31 ∨ a = 32 ∨ a = 33) → q.2 a i = M a i) ∧ (McP (cpG (FdC M b) v2.toInt) q.1.toInt)) := by
  have hb0 : b = 1 ∨ b = 7 ∨ b = 13 := hb
  refine wp_bind2 (ow_J7_fill_53178 (by decide) M (-1) (by decide)) (fun M_1 he5 hq5 => ?_)
  obtain ⟨hg_M_1, hfl_5⟩ := hq5
  replace hfl_5 : ∀ j, j < 40 → M_1 31 j = (-1) := hfl_5
  replace hg_M_1 : ∀ a i, ¬ (a = 31) → M_1 a i = M a i := by exact fun a i q0 => hg_M_1 a i (by first | decide | (rcases hc0 with h | h <;> rw [h] <;> simp; done) | (rcases hb0 with h | h | h <;> rw [h] <;> simp; done) | (simp; done) | omega)
  refine wp_lp2 (fun M10 y3_10 => (0 ≤ y3_10.toInt) ∧ (∀ a i, ¬ ((a = 30 ∧ i = 3) ∨ a = 31 ∨ a = 32 ∨ a = 33) → M10 a i = M_1 a i) ∧ (PkI (FdC M b) v2.toInt M10 y3_10.toInt) ∧ (y3_10.toInt ≤ 40)) (fun M10 y3_10 => (40 - y3_10.toInt).toNat) (fun ag10 M10 y3_10 hI10 ih10 => ?_) FU M_1 (nI 0) ⟨(by have f0 := t_lit 0; omega), (fun _ _ _ => rfl), (by rw [nI0]; exact pi_0 (fun i hi => hfl_5 i hi)), (by decide)⟩ (fu_lt (by have f0 := t_lit 0; omega))
  obtain ⟨hi10, hf_M10, hpk, y40⟩ := hI10
  have F10 : FdC M10 b = (FdC M b) := fdc_fr (fun a i z1 z2 => (hf_M10 a i (by unfold isF at hb; omega)).trans (hg_M_1 a i (by unfold isF at hb; omega)))
  refine wp_ite (fun c13 => ?_) (fun c13 => ?_)
  · exact wp_some ⟨(fun a i q0 => ((hf_M10 a i (fun z8 => q0 ((fun z9 => Or.elim z9 (fun h9 => Or.inl h9) (fun z9 => Or.elim z9 (fun h9 => Or.inr (Or.inl h9)) (fun z9 => Or.elim z9 (fun h9 => Or.inr (Or.inr (Or.inl h9))) (fun h9 => Or.inr (Or.inr (Or.inr (h9))))))) z8))).trans ((hg_M_1 a i (fun h9 => q0 (Or.inr (Or.inl h9)))).trans rfl))), (by rw [show (nI 40).toInt = 40 from t_lit 40]; exact pi_4 hpk (by omega))⟩
  · have u := i_up (x := y3_10) (by omega)
    refine wp_cb2 (oh_X1_search hb M10 v2 (by rw [F10]; exact hGd) hs (pi_b hpk)) (fun r_2 M_3 he19 hq19 => ?_)
    obtain ⟨hg_M_3, hsr_19⟩ := hq19
    replace hsr_19 : SrP (FdC M10 b) v2.toInt M_3 r_2 := hsr_19
    replace hg_M_3 : ∀ a i, ¬ ((a = 30 ∧ i = 3) ∨ a = 32 ∨ a = 33) → M_3 a i = M10 a i := by exact fun a i q0 => hg_M_3 a i (by first | decide | (rcases hc0 with h | h <;> rw [h] <;> simp; done) | (rcases hb0 with h | h | h <;> rw [h] <;> simp; done) | (simp; done) | omega)
    rw [F10] at hsr_19
    have e31 : ∀ i, M_3 31 i = M10 31 i := fun i => hg_M_3 31 i (by first | decide | (rcases hc0 with h | h <;> rw [h] <;> simp; done) | (rcases hb0 with h | h | h <;> rw [h] <;> simp; done) | (simp; done) | omega)
    refine wp_ite (fun c27 => ?_) (fun c27 => ?_)
    · exact wp_some ⟨(fun a i q0 => ((hg_M_3 a i (fun z8 => q0 ((fun z9 => Or.elim z9 (fun h9 => Or.inl h9) (fun z9 => Or.elim z9 (fun h9 => Or.inr (Or.inr (Or.inl h9))) (fun h9 => Or.inr (Or.inr (Or.inr (h9)))))) z8))).trans ((hf_M10 a i (fun z8 => q0 ((fun z9 => Or.elim z9 (fun h9 => Or.inl h9) (fun z9 => Or.elim z9 (fun h9 => Or.inr (Or.inl h9)) (fun z9 => Or.elim z9 (fun h9 => Or.inr (Or.inr (Or.inl h9))) (fun h9 => Or.inr (Or.inr (Or.inr (h9))))))) z8))).trans ((hg_M_1 a i (fun h9 => q0 (Or.inr (Or.inl h9)))).trans rfl)))), (pi_e hpk e31 hsr_19 c27)⟩
    · obtain ⟨hr9, n9, p9, hp9, hp0⟩ := pi_p hsr_19 c27
      refine wp_bind2 (oh_X1_weave M_3 r_2 (FdC M b) v2.toInt n9 p9 hp9 hp0) (fun M_4 he35 hq35 => ?_)
      obtain ⟨hg_M_4, hnw_35⟩ := hq35
      replace hnw_35 : NwP (bfM M_3) (bfM M_4) n9 p9 := hnw_35
      replace hg_M_4 : ∀ a i, ¬ (a = 31) → M_4 a i = M_3 a i := hg_M_4
      exact ih10 M_4 (y3_10 + (nI 1)) ⟨(by have f0 := t_lit 1; have f1 := t_add y3_10 (nI 1); omega), (fun a i q0 => ((hg_M_4 a i (fun h9 => q0 (Or.inr (Or.inl h9)))).trans ((hg_M_3 a i (fun z8 => q0 ((fun z9 => Or.elim z9 (fun h9 => Or.inl h9) (fun z9 => Or.elim z9 (fun h9 => Or.inr (Or.inr (Or.inl h9))) (fun h9 => Or.inr (Or.inr (Or.inr (h9)))))) z8))).trans ((hf_M10 a i (fun z8 => q0 ((fun z9 => Or.elim z9 (fun h9 => Or.inl h9) (fun z9 => Or.elim z9 (fun h9 => Or.inr (Or.inl h9)) (fun z9 => Or.elim z9 (fun h9 => Or.inr (Or.inr (Or.inl h9))) (fun h9 => Or.inr (Or.inr (Or.inr (h9))))))) z8))).trans rfl)))), (by rw [u.2]; exact pi_s hpk e31 hr9 hp9 hp0 hnw_35), (by rw [u.2]; omega)⟩ (by have f0 := t_lit 1; have f1 := t_add y3_10 (nI 1); omega)
