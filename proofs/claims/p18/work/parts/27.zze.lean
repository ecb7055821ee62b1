theorem oq_X9_leastStride (M : Mem) (hGd : GdF (FdC M 1)) : Wp (f_X9_leastStride M) (fun q => (∀ a i, ¬ (a = 24 ∨ a = 26) → q.2 a i = M a i) ∧ (LsP (FdC M 1) q.1.toInt)) := by
  refine wp_lp2 (fun M2 y1_2 => (1 ≤ y1_2.toInt) ∧ (∀ a i, ¬ (a = 24 ∨ a = 26) → M2 a i = M a i) ∧ ((∀ s : Int, 1 ≤ s → s < y1_2.toInt → NCr (FdC M 1) s) ∧ 1 ≤ y1_2.toInt)) (fun M2 y1_2 => (30 + 1 - y1_2.toInt).toNat) (fun ag2 M2 y1_2 hI2 ih2 => ?_) FU M (nI 1) ⟨(by have f0 := t_lit 1; omega), (fun _ _ _ => rfl), ⟨fun s h1 h2 => absurd h2 (by have := t_lit 1; omega), by decide⟩⟩ (fu_lt (by have f0 := t_lit 1; omega))
  obtain ⟨hi2, hf_M2, h2⟩ := hI2
  have f2 : FdC M2 1 = (FdC M 1) := fdc_fr (fun a i h1 h2 => hf_M2 a i (by first | decide | (rcases hc0 with h | h <;> rw [h] <;> simp; done) | (rcases hb0 with h | h | h <;> rw [h] <;> simp; done) | (simp; done) | omega))
  refine wp_ite (fun c5 => ?_) (fun c5 => ?_)
  · exact wp_some ⟨(fun a i q0 => ((hf_M2 a i (fun z8 => q0 ((fun z9 => Or.elim z9 (fun h9 => Or.inl h9) (fun h9 => Or.inr (h9))) z8))).trans rfl)), (Or.inl ⟨(show (-2 : Int32).toInt = -2 by decide), fun s h1 h2b => h2.1 s h1 (by omega)⟩)⟩
  · refine wp_cb2 (ow_X8_canCross (Or.inl rfl) M2 y1_2 ⟨h2.2, by omega⟩ (by rw [f2]; exact hGd)) (fun r_1 M_2 he17 hq17 => ?_)
    obtain ⟨hz_r_1, hg_M_2, hcc_17⟩ := hq17
    replace hcc_17 : ∃ r : Int, CrK (FdC M2 1) y1_2.toInt r ∧ (r_1.toInt = 0 ↔ r = -1) := hcc_17
    replace hg_M_2 : ∀ a i, ¬ (a = 24 ∨ a = 26) → M_2 a i = M2 a i := by exact fun a i q0 => hg_M_2 a i (by first | decide | (rcases hc0 with h | h <;> rw [h] <;> simp; done) | (rcases hb0 with h | h | h <;> rw [h] <;> simp; done) | (simp; done) | omega)
    rw [f2] at hcc_17
    refine wp_ite (fun c20 => ?_) (fun c20 => ?_)
    · exact ih2 M_2 (y1_2 + (nI 1)) ⟨(by have f0 := t_lit 1; have f1 := t_add y1_2 (nI 1); omega), (fun a i q0 => ((hg_M_2 a i (fun z8 => q0 ((fun z9 => Or.elim z9 (fun h9 => Or.inl h9) (fun h9 => Or.inr (h9))) z8))).trans ((hf_M2 a i (fun z8 => q0 ((fun z9 => Or.elim z9 (fun h9 => Or.inl h9) (fun h9 => Or.inr (h9))) z8))).trans rfl))), ⟨ls_nx h2.1 (cc_n hcc_17 c20) (t_inc y1_2 1 (by omega)), by rw [t_inc y1_2 1 (by omega)]; omega⟩⟩ (by have f0 := t_lit 1; have f1 := t_add y1_2 (nI 1); omega)
    · exact wp_some ⟨(fun a i q0 => ((hg_M_2 a i (fun z8 => q0 ((fun z9 => Or.elim z9 (fun h9 => Or.inl h9) (fun h9 => Or.inr (h9))) z8))).trans ((hf_M2 a i (fun z8 => q0 ((fun z9 => Or.elim z9 (fun h9 => Or.inl h9) (fun h9 => Or.inr (h9))) z8))).trans rfl))), (Or.inr ⟨(show 1 ≤ y1_2.toInt ∧ y1_2.toInt ≤ 30 from ⟨h2.2, by omega⟩), cc_y hcc_17 c20, h2.1⟩)⟩
theorem oq_X8_farthest {b : Nat} (hb : isF b) (M : Mem) (v2 : Int32) (hs : 1 ≤ v2.toInt ∧ v2.toInt ≤ 30) (hGd : GdF (FdC M b)) : Wp (f_X8_farthest b M v2) (fun q => (∀ a i, ¬ (a = 24 ∨ a = 26) → q.2 a i = M a i) ∧ (HfP (FdC M b) v2.toInt q.1.toInt)) := by
  have hb0 : b = 1 ∨ b = 7 ∨ b = 13 := hb
  refine wp_cb2 (ow_X8_spread hb (by decide) M v2 (nI 40) (nI 42) rfl (Or.inl rfl) 42 ⟨by omega, t_lit 42⟩ (by decide) hs hGd) (fun r_1 M_2 he11 hq11 => ?_)
  obtain ⟨hg_M_2, hB_11⟩ := hq11
  replace hB_11 : Bfs 42 (fun j => j = ix (nI 40)) (stC (FdC M b) v2.toInt) (SPm M_2 24) (QUm M_2) (ix r_1) (ix r_1) ∧ VLm M_2 24 := hB_11
  have := t_lit 40
  have := t_lit 42
  replace hg_M_2 : ∀ a i, ¬ (a = 24 ∨ a = 26) → M_2 a i = M a i := by exact fun a i q0 => hg_M_2 a i (by first | decide | (rcases hc0 with h | h <;> rw [h] <;> simp; done) | (rcases hb0 with h | h | h <;> rw [h] <;> simp; done) | (simp; done) | omega)
  have hE := bfs_end hB_11.1 (Nat.le_refl _)
  rw [show ix (nI 40) = 40 from (by decide)] at hE
  have f2 : FdC M_2 b = (FdC M b) := fdc_fr (fun a i h1 h2 => hg_M_2 a i (by first | decide | (rcases hc0 with h | h <;> rw [h] <;> simp; done) | (rcases hb0 with h | h | h <;> rw [h] <;> simp; done) | (simp; done) | omega))
  refine wp_lp2 (fun y3_20 y4_20 => (0 ≤ y4_20.toInt) ∧ (MxC (FdC M b) (SPm M_2 24) (ix y4_20) y3_20.toInt) ∧ (y4_20.toInt ≤ 42)) (fun y3_20 y4_20 => (42 - y4_20.toInt).toNat) (fun ag20 y3_20 y4_20 hI20 ih20 => ?_) FU (nI 0) (nI 0) ⟨(by have f0 := t_lit 0; omega), (by rw [show ix (nI 0) = 0 from (by decide), show (nI 0).toInt = 0 from nI0]; exact mxc_0), (by decide)⟩ (fu_lt (by have f0 := t_lit 0; omega))
  obtain ⟨hi20, hm, h42⟩ := hI20
  refine wp_ite (fun c24 => ?_) (fun c24 => ?_)
  · exact wp_some ⟨(fun a i q0 => ((hg_M_2 a i (fun z8 => q0 ((fun z9 => Or.elim z9 (fun h9 => Or.inl h9) (fun h9 => Or.inr (h9))) z8))).trans rfl)), (by rw [show ix y4_20 = 42 from (ix_eq (by omega) (by omega)).mpr (by omega)] at hm; exact hf_c hGd (by omega) hE (show SPm M_2 24 41 = sp (M_2 24 41).toInt from rfl) (hB_11.2 41 (by omega)).1 hm)⟩
  · have u := i_up (x := y4_20) (by omega)
    have i42 := ix42 (v := y4_20) (by omega) (by omega)
    have vb := (hB_11.2 (ix y4_20) i42).1
    refine wp_gd (by omega) ?_
    refine wp_ite (fun c35 => ?_) (fun c35 => ?_)
    · exact ih20 y3_20 (y4_20 + (nI 1)) ⟨(by have f0 := t_lit 1; have f1 := t_add y4_20 (nI 1); omega), (by rw [u.1]; exact mxc_n hm ((sp_1 vb).mpr c35)), (by rw [u.2]; omega)⟩ (by have f0 := t_lit 1; have f1 := t_add y4_20 (nI 1); omega)
    · have hn : ¬ SPm M_2 24 (ix y4_20) = -1 := fun z => c35 ((sp_1 vb).mp z)
      refine wp_bind2 (ow_X2_heightOf hb M_2 y4_20) (fun r_3 he42 hq42 => ?_)
      have hh_42 := hq42
      replace hh_42 : (y4_20.toInt = 40 ∨ y4_20.toInt = 41 ∨ ((0 ≤ y4_20.toInt ∧ y4_20.toInt < 40) ∧ dryG (FdC M_2 b) (ix y4_20))) → r_3.toInt = hgt (FdC M_2 b) (ix y4_20) := hh_42
      rw [f2] at hh_42
      have hh := hh_42 (by
        by_cases e40 : y4_20.toInt = 40
        · exact Or.inl e40
        · by_cases e41 : y4_20.toInt = 41
          · exact Or.inr (Or.inl e41)
          · refine Or.inr (Or.inr ⟨by omega, ?_⟩)
            have g := hE.1 (ix y4_20) i42
            have e1 : ¬ SPm M_2 24 (ix y4_20) = 1 := fun q => absurd ((hE.2.1 (ix y4_20) i42).mp q) (by have := t_ixn y4_20 (by omega); omega)
            obtain ⟨p, hp, ep, cp⟩ := hE.2.2.1 (ix y4_20) i42 (by omega)
            exact cp.2.2.elim (fun q => q.1) (fun q => absurd q.1 (by have := t_ixn y4_20 (by omega); omega)))
      refine wp_bnd (fun x_4 ex_4 => ?_)
      exact ih20 x_4 (y4_20 + (nI 1)) ⟨(by have f0 := t_lit 1; have f1 := t_add y4_20 (nI 1); omega), (by rw [u.1, ex_4, t_mx, hh]; exact mxc_y hm hn), (by rw [u.2]; omega)⟩ (by have f0 := t_lit 1; have f1 := t_add y4_20 (nI 1); omega)
theorem oq_X9_howFar (M : Mem) (v1 : Int32) (hGd : GdF (FdC M 1)) (hSr : SrC M) : Wp (f_X9_howFar M v1) (fun q => (∀ a i, ¬ (a = 24 ∨ a = 26) → q.2 a i = M a i) ∧ (PqP (TpC M v1) (HfP (FdC M 1) (M 43 (ix v1)).toInt q.1.toInt) q.1)) := by
  refine wp_bind2 (oq_X9_strideOf M v1) (fun r_1 he2 hq2 => ?_)
  obtain ⟨hi_2, hv_2⟩ := hq2
  replace hi_2 : ¬ r_1.toInt = 0 ↔ TpC M v1 := hi_2
  replace hv_2 : ¬ r_1.toInt = 0 → r_1 = M 43 (ix v1) := hv_2
  refine wp_ite (fun c7 => ?_) (fun c7 => ?_)
  · exact wp_some ⟨(fun _ _ _ => rfl), (pq_n (fun z => hi_2.mpr z c7) rfl)⟩
  · have ht := hi_2.mp c7
    have es := hv_2 c7
    have sr := hSr (ix v1) (ix8 ht.1) ht.2
    refine wp_cb2 (oq_X8_farthest (Or.inl rfl) M r_1 (by rw [es]; exact sr) hGd) (fun r_2 M_3 he23 hq23 => ?_)
    obtain ⟨hg_M_3, hq_23⟩ := hq23
    replace hq_23 : HfP (FdC M 1) r_1.toInt r_2.toInt := hq_23
    replace hg_M_3 : ∀ a i, ¬ (a = 24 ∨ a = 26) → M_3 a i = M a i := by exact fun a i q0 => hg_M_3 a i (by first | decide | (rcases hc0 with h | h <;> rw [h] <;> simp; done) | (rcases hb0 with h | h | h <;> rw [h] <;> simp; done) | (simp; done) | omega)
    exact wp_some ⟨(fun a i q0 => ((hg_M_3 a i (fun z8 => q0 ((fun z9 => Or.elim z9 (fun h9 => Or.inl h9) (fun h9 => Or.inr (h9))) z8))).trans rfl)), (pq_y ht (by rw [← es]; exact hq_23))⟩
theorem oq_X9_market (M : Mem) (hGd : GdF (FdC M 1)) (hSr : SrC M) : Wp (f_X9_market M) (fun q => (∀ a i, ¬ (a = 24 ∨ a = 26) → q.2 a i = M a i) ∧ (MkB (fun p => ¬ (M 43 p).toInt = 0 ∧ CAn (FdC M 1) (M 43 p).toInt) 8 q.1)) := by
  refine wp_lp3 (fun M4 y1_4 y2_4 => (0 ≤ y2_4.toInt) ∧ (∀ a i, ¬ (a = 24 ∨ a = 26) → M4 a i = M a i) ∧ (MkB (fun p => ¬ (M 43 p).toInt = 0 ∧ CAn (FdC M 1) (M 43 p).toInt) (ix y2_4) y1_4) ∧ (y2_4.toInt ≤ 8)) (fun M4 y1_4 y2_4 => (8 - y2_4.toInt).toNat) (fun ag4 M4 y1_4 y2_4 hI4 ih4 => ?_) FU M (nI 0) (nI 0) ⟨(by have f0 := t_lit 0; omega), (fun _ _ _ => rfl), (by rw [show ix (nI 0) = 0 from (by decide)]; exact mk_b0), (by decide)⟩ (fu_lt (by have f0 := t_lit 0; omega))
  obtain ⟨hi4, hf_M4, h4, h8⟩ := hI4
  have f4 : FdC M4 1 = (FdC M 1) := fdc_fr (fun a i h1 h2 => hf_M4 a i (by first | decide | (rcases hc0 with h | h <;> rw [h] <;> simp; done) | (rcases hb0 with h | h | h <;> rw [h] <;> simp; done) | (simp; done) | omega))
  have r43 : ∀ p, M4 43 p = M 43 p := fun p => hf_M4 43 p (by first | decide | (rcases hc0 with h | h <;> rw [h] <;> simp; done) | (rcases hb0 with h | h | h <;> rw [h] <;> simp; done) | (simp; done) | omega)
  refine wp_ite (fun c7 => ?_) (fun c7 => ?_)
  · exact wp_some ⟨(fun a i q0 => ((hf_M4 a i (fun z8 => q0 ((fun z9 => Or.elim z9 (fun h9 => Or.inl h9) (fun h9 => Or.inr (h9))) z8))).trans rfl)), (by rw [show ix y2_4 = 8 from (ix_eq (by omega) (by omega)).mpr (by omega)] at h4; exact h4)⟩
  · have u := i_up (x := y2_4) (by omega)
    have i8 := ix8 (v := y2_4) (by omega)
    refine wp_gd (by omega) ?_
    refine wp_ite (fun c16 => ?_) (fun c16 => ?_)
    · exact ih4 M4 y1_4 (y2_4 + (nI 1)) ⟨(by have f0 := t_lit 1; have f1 := t_add y2_4 (nI 1); have f2 := congrArg Int32.toInt (hf_M4 43 (ix y2_4) (by first | decide | (rcases hc0 with h | h <;> rw [h] <;> simp; done) | (rcases hb0 with h | h | h <;> rw [h] <;> simp; done) | (simp; done) | omega)); omega), (fun a i q0 => ((hf_M4 a i (fun z8 => q0 ((fun z9 => Or.elim z9 (fun h9 => Or.inl h9) (fun h9 => Or.inr (h9))) z8))).trans rfl)), (by rw [u.1]; exact mk_bn h4 (fun z => z.1 (by rw [← r43]; exact c16))), (by rw [u.2]; omega)⟩ (by have f0 := t_lit 1; have f1 := t_add y2_4 (nI 1); have f2 := congrArg Int32.toInt (hf_M4 43 (ix y2_4) (by first | decide | (rcases hc0 with h | h <;> rw [h] <;> simp; done) | (rcases hb0 with h | h | h <;> rw [h] <;> simp; done) | (simp; done) | omega)); omega)
    · have c16b := c16
      rw [r43] at c16b
      have sr := hSr (ix y2_4) i8 c16b
      refine wp_gd (by have f0 := congrArg Int32.toInt (hf_M4 43 (ix y2_4) (by first | decide | (rcases hc0 with h | h <;> rw [h] <;> simp; done) | (rcases hb0 with h | h | h <;> rw [h] <;> simp; done) | (simp; done) | omega)); omega) ?_
      refine wp_cb2 (ow_X8_canCross (Or.inl rfl) M4 (M4 43 (ix y2_4)) (by rw [r43]; exact sr) (by rw [f4]; exact hGd)) (fun r_1 M_2 he33 hq33 => ?_)
      obtain ⟨hz_r_1, hg_M_2, hcc_33⟩ := hq33
      replace hcc_33 : ∃ r : Int, CrK (FdC M4 1) (M4 43 (ix y2_4)).toInt r ∧ (r_1.toInt = 0 ↔ r = -1) := hcc_33
      replace hg_M_2 : ∀ a i, ¬ (a = 24 ∨ a = 26) → M_2 a i = M4 a i := by exact fun a i q0 => hg_M_2 a i (by first | decide | (rcases hc0 with h | h <;> rw [h] <;> simp; done) | (rcases hb0 with h | h | h <;> rw [h] <;> simp; done) | (simp; done) | omega)
      rw [f4, r43] at hcc_33
      refine wp_ite (fun c36 => ?_) (fun c36 => ?_)
      · exact ih4 M_2 y1_4 (y2_4 + (nI 1)) ⟨(by have f0 := t_lit 1; have f1 := t_add y2_4 (nI 1); have f2 := congrArg Int32.toInt (hf_M4 43 (ix y2_4) (by first | decide | (rcases hc0 with h | h <;> rw [h] <;> simp; done) | (rcases hb0 with h | h | h <;> rw [h] <;> simp; done) | (simp; done) | omega)); omega), (fun a i q0 => ((hg_M_2 a i (fun z8 => q0 ((fun z9 => Or.elim z9 (fun h9 => Or.inl h9) (fun h9 => Or.inr (h9))) z8))).trans ((hf_M4 a i (fun z8 => q0 ((fun z9 => Or.elim z9 (fun h9 => Or.inl h9) (fun h9 => Or.inr (h9))) z8))).trans rfl))), (by rw [u.1]; exact mk_bn h4 (fun z => (can_no z.2 (cc_n hcc_33 c36)).elim)), (by rw [u.2]; omega)⟩ (by have f0 := t_lit 1; have f1 := t_add y2_4 (nI 1); have f2 := congrArg Int32.toInt (hf_M4 43 (ix y2_4) (by first | decide | (rcases hc0 with h | h <;> rw [h] <;> simp; done) | (rcases hb0 with h | h | h <;> rw [h] <;> simp; done) | (simp; done) | omega)); omega)
      · refine wp_bnd (fun x_3 ex_3 => ?_)
        exact ih4 M_2 x_3 (y2_4 + (nI 1)) ⟨(by have f0 := t_lit 1; have f1 := t_add y2_4 (nI 1); have f2 := congrArg Int32.toInt (hf_M4 43 (ix y2_4) (by first | decide | (rcases hc0 with h | h <;> rw [h] <;> simp; done) | (rcases hb0 with h | h | h <;> rw [h] <;> simp; done) | (simp; done) | omega)); omega), (fun a i q0 => ((hg_M_2 a i (fun z8 => q0 ((fun z9 => Or.elim z9 (fun h9 => Or.inl h9) (fun h9 => Or.inr (h9))) z8))).trans ((hf_M4 a i (fun z8 => q0 ((fun z9 => Or.elim z9 (fun h9 => Or.inl h9) (fun h9 => Or.inr (h9))) z8))).trans rfl))), (by rw [u.1, ex_3]; exact mk_by h4 ⟨c16b, cc_y hcc_33 c36⟩ i8 (nI_ixx (by omega)).symm), (by rw [u.2]; omega)⟩ (by have f0 := t_lit 1; have f1 := t_add y2_4 (nI 1); have f2 := congrArg Int32.toInt (hf_M4 43 (ix y2_4) (by first | decide | (rcases hc0 with h | h <;> rw [h] <;> simp; done) | (rcases hb0 with h | h | h <;> rw [h] <;> simp; done) | (simp; done) | omega)); omega)
theorem oq_X10_leastStride (M : Mem) (hGd : GdF (FdR M 1)) : Wp (f_X10_leastStride M) (fun q => (∀ a i, ¬ (a = 23 ∨ a = 25) → q.2 a i = M a i) ∧ (LsP (FdR M 1) q.1.toInt)) := by
  refine wp_lp2 (fun M2 y1_2 => (1 ≤ y1_2.toInt) ∧ (∀ a i, ¬ (a = 23 ∨ a = 25) → M2 a i = M a i) ∧ ((∀ s : Int, 1 ≤ s → s < y1_2.toInt → NCr (FdR M 1) s) ∧ 1 ≤ y1_2.toInt)) (fun M2 y1_2 => (30 + 1 - y1_2.toInt).toNat) (fun ag2 M2 y1_2 hI2 ih2 => ?_) FU M (nI 1) ⟨(by have f0 := t_lit 1; omega), (fun _ _ _ => rfl), ⟨fun s h1 h2 => absurd h2 (by have := t_lit 1; omega), by decide⟩⟩ (fu_lt (by have f0 := t_lit 1; omega))
  obtain ⟨hi2, hf_M2, h2⟩ := hI2
  have f2 : FdR M2 1 = (FdR M 1) := fdr_same (fun j hj => hf_M2 1 j (by first | decide | (rcases hc0 with h | h <;> rw [h] <;> simp; done) | (rcases hb0 with h | h | h <;> rw [h] <;> simp; done) | (simp; done) | omega))
  refine wp_ite (fun c5 => ?_) (fun c5 => ?_)
  · exact wp_some ⟨(fun a i q0 => ((hf_M2 a i (fun z8 => q0 ((fun z9 => Or.elim z9 (fun h9 => Or.inl h9) (fun h9 => Or.inr (h9))) z8))).trans rfl)), (Or.inl ⟨(show (-2 : Int32).toInt = -2 by decide), fun s h1 h2b => h2.1 s h1 (by omega)⟩)⟩
  · refine wp_cb2 (ow_X10_crossing M2 y1_2 ⟨by omega, by omega⟩ (by rw [f2]; exact hGd)) (fun r_1 M_2 he10 hq10 => ?_)
    obtain ⟨hg_M_2, hcr_10, hst_10⟩ := hq10
    replace hcr_10 : CrK (FdR M2 1) y1_2.toInt r_1.toInt := hcr_10
    replace hst_10 : y1_2.toInt < 21 → Bend 40 (nearG (FdR M2 1) y1_2.toInt) (adjG (FdR M2 1) y1_2.toInt) (fun j => (M_2 23 j).toInt) := hst_10
    replace hg_M_2 : ∀ a i, ¬ (a = 23 ∨ a = 25) → M_2 a i = M2 a i := hg_M_2
    rw [f2] at hcr_10
    refine wp_ite (fun c14 => ?_) (fun c14 => ?_)
    · exact ih2 M_2 (y1_2 + (nI 1)) ⟨(by have f0 := t_lit 1; have f1 := t_add y1_2 (nI 1); omega), (fun a i q0 => ((hg_M_2 a i (fun z8 => q0 ((fun z9 => Or.elim z9 (fun h9 => Or.inl h9) (fun h9 => Or.inr (h9))) z8))).trans ((hf_M2 a i (fun z8 => q0 ((fun z9 => Or.elim z9 (fun h9 => Or.inl h9) (fun h9 => Or.inr (h9))) z8))).trans rfl))), ⟨ls_nx h2.1 (cr_n hcr_10 c14) (t_inc y1_2 1 (by omega)), by rw [t_inc y1_2 1 (by omega)]; omega⟩⟩ (by have f0 := t_lit 1; have f1 := t_add y1_2 (nI 1); omega)
    · exact wp_some ⟨(fun a i q0 => ((hg_M_2 a i (fun z8 => q0 ((fun z9 => Or.elim z9 (fun h9 => Or.inl h9) (fun h9 => Or.inr (h9))) z8))).trans ((hf_M2 a i (fun z8 => q0 ((fun z9 => Or.elim z9 (fun h9 => Or.inl h9) (fun h9 => Or.inr (h9))) z8))).trans rfl))), (Or.inr ⟨(show 1 ≤ y1_2.toInt ∧ y1_2.toInt ≤ 30 from ⟨h2.2, by omega⟩), cr_y hcr_10 c14, h2.1⟩)⟩
theorem oq_X10_howFar (M : Mem) (v1 : Int32) (hGd : GdF (FdR M 1)) (hSr : SrR M) : Wp (f_X10_howFar M v1) (fun q => (∀ a i, ¬ (a = 23 ∨ a = 25) → q.2 a i = M a i) ∧ (PqP (TpR M v1) (HfP (FdR M 1) (M 4 (ix v1)).toInt q.1.toInt) q.1)) := by
  refine wp_bind2 (oq_X10_isPerson M v1) (fun r_1 he2 hq2 => ?_)
  obtain ⟨hz_r_1, hr_2, hi_2⟩ := hq2
  replace hr_2 : ¬ r_1.toInt = 0 → 0 ≤ v1.toInt ∧ v1.toInt < 8 := hr_2
  replace hi_2 : ¬ r_1.toInt = 0 ↔ TpR M v1 := hi_2
  refine wp_ite (fun c5 => ?_) (fun c5 => ?_)
  · exact wp_some ⟨(fun _ _ _ => rfl), (pq_n (fun z => hi_2.mpr z c5) rfl)⟩
  · have ht := hi_2.mp c5
    have sr := hSr v1 ht
    refine wp_gd (by omega) ?_
    refine wp_cb2 (ow_X10_crossing M (M 4 (ix v1)) ⟨by omega, by omega⟩ hGd) (fun r_2 M_3 he17 hq17 => ?_)
    obtain ⟨hg_M_3, hcr_17, hst_17⟩ := hq17
    replace hcr_17 : CrK (FdR M 1) (M 4 (ix v1)).toInt r_2.toInt := hcr_17
    replace hst_17 : (M 4 (ix v1)).toInt < 21 → Bend 40 (nearG (FdR M 1) (M 4 (ix v1)).toInt) (adjG (FdR M 1) (M 4 (ix v1)).toInt) (fun j => (M_3 23 j).toInt) := hst_17
    replace hg_M_3 : ∀ a i, ¬ (a = 23 ∨ a = 25) → M_3 a i = M a i := hg_M_3
    have fr3 : FdR M_3 1 = (FdR M 1) := fdr_same (fun j hj => hg_M_3 1 j (by first | decide | (rcases hc0 with h | h <;> rw [h] <;> simp; done) | (rcases hb0 with h | h | h <;> rw [h] <;> simp; done) | (simp; done) | omega))
    refine wp_ite (fun c21 => ?_) (fun c21 => ?_)
    · have hnc := cr_n hcr_17 c21
      have s21 : (M 4 (ix v1)).toInt < 21 := by
        rcases hnc with z | z
        · exact absurd z.2 (by omega)
        · exact Int.not_le.mp z.1
      have hE := hst_17 s21
      have hk := rk_r hE
      refine wp_lp2 (fun y2_31 y3_31 => (0 ≤ y3_31.toInt) ∧ (MxS (FdR M 1) (M 4 (ix v1)).toInt (ix y3_31) y2_31.toInt) ∧ (y3_31.toInt ≤ 40)) (fun y2_31 y3_31 => (40 - y3_31.toInt).toNat) (fun ag31 y2_31 y3_31 hI31 ih31 => ?_) FU (nI 0) (nI 0) ⟨(by have f0 := t_lit 0; omega), (by rw [show ix (nI 0) = 0 from (by decide), show (nI 0).toInt = 0 from nI0]; exact mx_0), (by decide)⟩ (fu_lt (by have f0 := t_lit 0; omega))
      obtain ⟨hi31, hm, h40⟩ := hI31
      refine wp_ite (fun c34 => ?_) (fun c34 => ?_)
      · exact wp_some ⟨(fun a i q0 => ((hg_M_3 a i (fun z8 => q0 ((fun z9 => Or.elim z9 (fun h9 => Or.inl h9) (fun h9 => Or.inr (h9))) z8))).trans rfl)), (pq_y ht (Or.inr ⟨hnc, by rw [e40 hi31 c34 h40] at hm; exact hm⟩))⟩
      · have u := up40 hi31 c34
        have sb : (M_3 23 (ix y3_31)).toInt = -1 ∨ (1 ≤ (M_3 23 (ix y3_31)).toInt ∧ (M_3 23 (ix y3_31)).toInt ≤ 40) := hE.1 (ix y3_31) u.2.1
        refine wp_gd (by omega) ?_
        refine wp_ite (fun c44 => ?_) (fun c44 => ?_)
        · exact ih31 y2_31 (y3_31 + (nI 1)) ⟨(by have f0 := t_lit 1; have f1 := t_add y3_31 (nI 1); omega), (by rw [u.1]; exact mx_n hm (fun z => by obtain ⟨k, q⟩ := z; exact (hk.1 k _ q).1 c44)), (le40 hi31 c34)⟩ (by have f0 := t_lit 1; have f1 := t_add y3_31 (nI 1); omega)
        · have hrk : ∃ k, RK (FdR M 1) (M 4 (ix v1)).toInt k (ix y3_31) := ⟨((M_3 23 (ix y3_31)).toInt - 1).toNat, hk.2 _ _ u.2.1 (show (M_3 23 (ix y3_31)).toInt = _ by omega)⟩
          have hd : dryG (FdR M 1) (ix y3_31) := by
            obtain ⟨k, z⟩ := hrk
            exact rk_d z
          have ey := fdr_y (M := M_3) hi31 u.2.2 (by rw [fr3]; exact hd.1.2)
          rw [fr3] at ey
          refine wp_gd (by have f0 := t_lit 80; have f1 := t_add (nI 80) y3_31; omega) ?_
          refine wp_bind2 (o_X10_max M_3 y2_31 (M_3 1 (ix ((nI 80) + y3_31)))) (fun r_4 he57 hq57 => ?_)
          have hr_57 := hq57
          replace hr_57 : r_4.toInt = max y2_31.toInt (M_3 1 (ix ((nI 80) + y3_31))).toInt := hr_57
          exact ih31 r_4 (y3_31 + (nI 1)) ⟨(by have f0 := t_lit 1; have f1 := t_add y3_31 (nI 1); omega), (by rw [u.1, hr_57, ey]; exact mx_y hm hrk), (le40 hi31 c34)⟩ (by have f0 := t_lit 1; have f1 := t_add y3_31 (nI 1); omega)
    · exact wp_some ⟨(fun a i q0 => ((hg_M_3 a i (fun z8 => q0 ((fun z9 => Or.elim z9 (fun h9 => Or.inl h9) (fun h9 => Or.inr (h9))) z8))).trans rfl)), (pq_y ht (Or.inl ⟨cr_y hcr_17 c21, t_lit 21⟩))⟩
theorem oq_X10_market (M : Mem) (hGd : GdF (FdR M 1)) (hSr : SrR M) : Wp (f_X10_market M) (fun q => (∀ a i, ¬ (a = 23 ∨ a = 25) → q.2 a i = M a i) ∧ (MkB (fun p => TpR M (nI p) ∧ CAn (FdR M 1) (M 4 p).toInt) 8 q.1)) := by
  refine wp_lp3 (fun M4 y1_4 y2_4 => (0 ≤ y2_4.toInt) ∧ (∀ a i, ¬ (a = 23 ∨ a = 25) → M4 a i = M a i) ∧ (MkB (fun p => TpR M (nI p) ∧ CAn (FdR M 1) (M 4 p).toInt) (ix y2_4) y1_4) ∧ (y2_4.toInt ≤ 8)) (fun M4 y1_4 y2_4 => (8 - y2_4.toInt).toNat) (fun ag4 M4 y1_4 y2_4 hI4 ih4 => ?_) FU M (nI 0) (nI 0) ⟨(by have f0 := t_lit 0; omega), (fun _ _ _ => rfl), (by rw [show ix (nI 0) = 0 from (by decide)]; exact mk_b0), (by decide)⟩ (fu_lt (by have f0 := t_lit 0; omega))
  obtain ⟨hi4, hf_M4, h4, h8⟩ := hI4
  have f4 : FdR M4 1 = (FdR M 1) := fdr_same (fun j hj => hf_M4 1 j (by first | decide | (rcases hc0 with h | h <;> rw [h] <;> simp; done) | (rcases hb0 with h | h | h <;> rw [h] <;> simp; done) | (simp; done) | omega))
  have r4 : ∀ p, M4 4 p = M 4 p := fun p => hf_M4 4 p (by first | decide | (rcases hc0 with h | h <;> rw [h] <;> simp; done) | (rcases hb0 with h | h | h <;> rw [h] <;> simp; done) | (simp; done) | omega)
  have r04 : M4 0 4 = M 0 4 := hf_M4 0 4 (by first | decide | (rcases hc0 with h | h <;> rw [h] <;> simp; done) | (rcases hb0 with h | h | h <;> rw [h] <;> simp; done) | (simp; done) | omega)
  refine wp_ite (fun c7 => ?_) (fun c7 => ?_)
  · exact wp_some ⟨(fun a i q0 => ((hf_M4 a i (fun z8 => q0 ((fun z9 => Or.elim z9 (fun h9 => Or.inl h9) (fun h9 => Or.inr (h9))) z8))).trans rfl)), (by rw [show ix y2_4 = 8 from (ix_eq (by omega) (by omega)).mpr (by omega)] at h4; exact h4)⟩
  · have u := i_up (x := y2_4) (by omega)
    have i8 := ix8 (v := y2_4) (by omega)
    have ny : nI (ix y2_4) = y2_4 := nI_ixx (by omega)
    refine wp_bind2 (oq_X10_isPerson M4 y2_4) (fun r_1 he12 hq12 => ?_)
    obtain ⟨hz_r_1, hr_12, hi_12⟩ := hq12
    replace hr_12 : ¬ r_1.toInt = 0 → 0 ≤ y2_4.toInt ∧ y2_4.toInt < 8 := hr_12
    replace hi_12 : ¬ r_1.toInt = 0 ↔ TpR M4 y2_4 := hi_12
    have ti : TpR M4 y2_4 ↔ TpR M (nI (ix y2_4)) := by
      rw [ny]
      unfold TpR
      rw [r04]
    refine wp_ite (fun c15 => ?_) (fun c15 => ?_)
    · exact ih4 M4 y1_4 (y2_4 + (nI 1)) ⟨(by have f0 := t_lit 1; have f1 := t_add y2_4 (nI 1); omega), (fun a i q0 => ((hf_M4 a i (fun z8 => q0 ((fun z9 => Or.elim z9 (fun h9 => Or.inl h9) (fun h9 => Or.inr (h9))) z8))).trans rfl)), (by rw [u.1]; exact mk_bn h4 (fun z => hi_12.mpr (ti.mpr z.1) c15)), (by rw [u.2]; omega)⟩ (by have f0 := t_lit 1; have f1 := t_add y2_4 (nI 1); omega)
    · have ht := ti.mp (hi_12.mp c15)
      have sr := hSr _ ht
      rw [ny] at sr
      refine wp_gd (by omega) ?_
      refine wp_cb2 (ow_X10_crossing M4 (M4 4 (ix y2_4)) (by rw [r4]; omega) (by rw [f4]; exact hGd)) (fun r_2 M_3 he25 hq25 => ?_)
      obtain ⟨hg_M_3, hcr_25, hst_25⟩ := hq25
      replace hcr_25 : CrK (FdR M4 1) (M4 4 (ix y2_4)).toInt r_2.toInt := hcr_25
      replace hst_25 : (M4 4 (ix y2_4)).toInt < 21 → Bend 40 (nearG (FdR M4 1) (M4 4 (ix y2_4)).toInt) (adjG (FdR M4 1) (M4 4 (ix y2_4)).toInt) (fun j => (M_3 23 j).toInt) := hst_25
      replace hg_M_3 : ∀ a i, ¬ (a = 23 ∨ a = 25) → M_3 a i = M4 a i := hg_M_3
      rw [f4, r4] at hcr_25
      refine wp_ite (fun c29 => ?_) (fun c29 => ?_)
      · exact ih4 M_3 y1_4 (y2_4 + (nI 1)) ⟨(by have f0 := t_lit 1; have f1 := t_add y2_4 (nI 1); omega), (fun a i q0 => ((hg_M_3 a i (fun z8 => q0 ((fun z9 => Or.elim z9 (fun h9 => Or.inl h9) (fun h9 => Or.inr (h9))) z8))).trans ((hf_M4 a i (fun z8 => q0 ((fun z9 => Or.elim z9 (fun h9 => Or.inl h9) (fun h9 => Or.inr (h9))) z8))).trans rfl))), (by rw [u.1]; exact mk_bn h4 (fun z => (can_no z.2 (cr_n hcr_25 c29)).elim)), (by rw [u.2]; omega)⟩ (by have f0 := t_lit 1; have f1 := t_add y2_4 (nI 1); omega)
      · refine wp_bnd (fun x_4 ex_4 => ?_)
        exact ih4 M_3 x_4 (y2_4 + (nI 1)) ⟨(by have f0 := t_lit 1; have f1 := t_add y2_4 (nI 1); omega), (fun a i q0 => ((hg_M_3 a i (fun z8 => q0 ((fun z9 => Or.elim z9 (fun h9 => Or.inl h9) (fun h9 => Or.inr (h9))) z8))).trans ((hf_M4 a i (fun z8 => q0 ((fun z9 => Or.elim z9 (fun h9 => Or.inl h9) (fun h9 => Or.inr (h9))) z8))).trans rfl))), (by rw [u.1, ex_4]; exact mk_by h4 ⟨ht, cr_y hcr_25 c29⟩ i8 ny.symm), (by rw [u.2]; omega)⟩ (by have f0 := t_lit 1; have f1 := t_add y2_4 (nI 1); omega)
