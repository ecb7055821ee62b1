theorem st_mv {f g : Nat → Int32} {i : Nat} (h : ST f) (hi : i < 40) (hr : ∀ j : Nat, ¬ j = 40 + i → ¬ j = 80 + i → ¬ j = 160 + i → ¬ j = 201 → g j = f j) (hy : g (80 + i) = f (80 + i) ∨ (1 ≤ (g (80 + i)).toInt ∧ (g (80 + i)).toInt ≤ 20)) : ST g := by
  intro j hj hj1
  rw [hr j (by omega) (by omega) (by omega) (by omega)] at hj1
  obtain ⟨a1, a2, a3, a4⟩ := h j hj hj1
  rw [hr (120 + j) (by omega) (by omega) (by omega) (by omega)]
  by_cases e : j = i
  · rw [e] at a1 a2 a3 a4 ⊢
    rcases hy with q | q
    · rw [q]; exact ⟨a1, a2, a3, a4⟩
    · exact ⟨q.1, q.2, a3, a4⟩
  · rw [hr (80 + j) (by omega) (by omega) (by omega) (by omega)]
    exact ⟨a1, a2, a3, a4⟩
set_option maxHeartbeats 4000000 in
theorem o_X10_moves (M : Mem) (v1 : Int32) (hv1 : 0 ≤ v1.toInt ∧ v1.toInt < 40) (hst : ST (M 1)) (hG : Gl M) : Wp (f_X10_moves M v1) (fun q => (∀ a i, ¬ ((a = 0 ∧ i = 34) ∨ (a = 0 ∧ i = 35) ∨ a = 1 ∨ a = 17 ∨ a = 18) → q a i = M a i) ∧ (ST (q 1))) := by
  refine wp_bnd (fun M_1 eM_1 => ?_)
  have hG1 : Gl M_1 := (gl_ext hG (by rw [eM_1, mset_ne (by first | exact nz1 (by decide) | exact nz2 (by decide) | exact nz1 (nzA hc0 (by decide)) | exact nz1 (nzE (by decide)) | exact nz1 (nzB hc0 (by decide)) | exact nz1 (nzC hc0 (by decide)) | exact nz1 (nzD hc0 (by decide)) | exact nz1 (nzF (by decide)) | exact nz1 (nzG (by decide)) | omega)]) (fun i => by rw [eM_1, mset_ne (by first | exact nz1 (by decide) | exact nz2 (by decide) | exact nz1 (nzA hc0 (by decide)) | exact nz1 (nzE (by decide)) | exact nz1 (nzB hc0 (by decide)) | exact nz1 (nzC hc0 (by decide)) | exact nz1 (nzD hc0 (by decide)) | exact nz1 (nzF (by decide)) | exact nz1 (nzG (by decide)) | omega)]) (fun i => by rw [eM_1, mset_ne (by first | exact nz1 (by decide) | exact nz2 (by decide) | exact nz1 (nzA hc0 (by decide)) | exact nz1 (nzE (by decide)) | exact nz1 (nzB hc0 (by decide)) | exact nz1 (nzC hc0 (by decide)) | exact nz1 (nzD hc0 (by decide)) | exact nz1 (nzF (by decide)) | exact nz1 (nzG (by decide)) | omega)]) (fun i => by rw [eM_1, mset_ne (by first | exact nz1 (by decide) | exact nz2 (by decide) | exact nz1 (nzA hc0 (by decide)) | exact nz1 (nzE (by decide)) | exact nz1 (nzB hc0 (by decide)) | exact nz1 (nzC hc0 (by decide)) | exact nz1 (nzD hc0 (by decide)) | exact nz1 (nzF (by decide)) | exact nz1 (nzG (by decide)) | omega)]) (fun i => by rw [eM_1, mset_ne (by first | exact nz1 (by decide) | exact nz2 (by decide) | exact nz1 (nzA hc0 (by decide)) | exact nz1 (nzE (by decide)) | exact nz1 (nzB hc0 (by decide)) | exact nz1 (nzC hc0 (by decide)) | exact nz1 (nzD hc0 (by decide)) | exact nz1 (nzF (by decide)) | exact nz1 (nzG (by decide)) | omega)]))
  refine wp_bnd (fun x_2 ex_2 => ?_)
  refine wp_bind2 (o_X10_feels M_1 v1 x_2 hv1) (fun M_3 he43 hq43 => ?_)
  have hg_M_3 := hq43
  replace hg_M_3 : ∀ a i, ¬ (a = 18) → M_3 a i = M_1 a i := hg_M_3
  have hG3 : Gl M_3 := (gl_ext hG1 (hg_M_3 0 15 (by first | decide | (rcases hc0 with h | h <;> rw [h] <;> simp; done) | (rcases hb0 with h | h | h <;> rw [h] <;> simp; done) | (simp; done) | omega)) (fun i => hg_M_3 12 i (by first | decide | (rcases hc0 with h | h <;> rw [h] <;> simp; done) | (rcases hb0 with h | h | h <;> rw [h] <;> simp; done) | (simp; done) | omega)) (fun i => hg_M_3 14 i (by first | decide | (rcases hc0 with h | h <;> rw [h] <;> simp; done) | (rcases hb0 with h | h | h <;> rw [h] <;> simp; done) | (simp; done) | omega)) (fun i => hg_M_3 15 i (by first | decide | (rcases hc0 with h | h <;> rw [h] <;> simp; done) | (rcases hb0 with h | h | h <;> rw [h] <;> simp; done) | (simp; done) | omega)) (fun i => hg_M_3 16 i (by first | decide | (rcases hc0 with h | h <;> rw [h] <;> simp; done) | (rcases hb0 with h | h | h <;> rw [h] <;> simp; done) | (simp; done) | omega)))
  refine wp_gd (by have f0 := t_lit 40; have f1 := t_add (nI 40) v1; omega) ?_
  refine wp_cb2 (o_X10_byLaw M_3 (nI 117) (nI 9) hG3) (fun r_4 M_5 he60 hq60 => ?_)
  have hg_M_5 := hq60
  replace hg_M_5 : ∀ a i, ¬ (a = 17) → M_5 a i = M_3 a i := hg_M_5
  have hG5 : Gl M_5 := (gl_ext hG3 (hg_M_5 0 15 (by first | decide | (rcases hc0 with h | h <;> rw [h] <;> simp; done) | (rcases hb0 with h | h | h <;> rw [h] <;> simp; done) | (simp; done) | omega)) (fun i => hg_M_5 12 i (by first | decide | (rcases hc0 with h | h <;> rw [h] <;> simp; done) | (rcases hb0 with h | h | h <;> rw [h] <;> simp; done) | (simp; done) | omega)) (fun i => hg_M_5 14 i (by first | decide | (rcases hc0 with h | h <;> rw [h] <;> simp; done) | (rcases hb0 with h | h | h <;> rw [h] <;> simp; done) | (simp; done) | omega)) (fun i => hg_M_5 15 i (by first | decide | (rcases hc0 with h | h <;> rw [h] <;> simp; done) | (rcases hb0 with h | h | h <;> rw [h] <;> simp; done) | (simp; done) | omega)) (fun i => hg_M_5 16 i (by first | decide | (rcases hc0 with h | h <;> rw [h] <;> simp; done) | (rcases hb0 with h | h | h <;> rw [h] <;> simp; done) | (simp; done) | omega)))
  refine wp_cb2 (o_X10_byLaw M_5 (nI 100) (nI 9) hG5) (fun r_6 M_7 he69 hq69 => ?_)
  have hg_M_7 := hq69
  replace hg_M_7 : ∀ a i, ¬ (a = 17) → M_7 a i = M_5 a i := hg_M_7
  have hG7 : Gl M_7 := (gl_ext hG5 (hg_M_7 0 15 (by first | decide | (rcases hc0 with h | h <;> rw [h] <;> simp; done) | (rcases hb0 with h | h | h <;> rw [h] <;> simp; done) | (simp; done) | omega)) (fun i => hg_M_7 12 i (by first | decide | (rcases hc0 with h | h <;> rw [h] <;> simp; done) | (rcases hb0 with h | h | h <;> rw [h] <;> simp; done) | (simp; done) | omega)) (fun i => hg_M_7 14 i (by first | decide | (rcases hc0 with h | h <;> rw [h] <;> simp; done) | (rcases hb0 with h | h | h <;> rw [h] <;> simp; done) | (simp; done) | omega)) (fun i => hg_M_7 15 i (by first | decide | (rcases hc0 with h | h <;> rw [h] <;> simp; done) | (rcases hb0 with h | h | h <;> rw [h] <;> simp; done) | (simp; done) | omega)) (fun i => hg_M_7 16 i (by first | decide | (rcases hc0 with h | h <;> rw [h] <;> simp; done) | (rcases hb0 with h | h | h <;> rw [h] <;> simp; done) | (simp; done) | omega)))
  refine wp_bind2 (o_X10_bounded M_7 (((M_3 1 (ix ((nI 40) + v1))) + r_4) - r_6) (nI 0) (nI 39)) (fun r_8 he76 hq76 => ?_)
  have hr_76 := hq76
  replace hr_76 : r_8.toInt = max (nI 0).toInt (min (nI 39).toInt (((M_3 1 (ix ((nI 40) + v1))) + r_4) - r_6).toInt) := hr_76
  have := t_lit 0
  have := t_lit 39
  refine wp_gd (by have f0 := t_lit 80; have f1 := t_add (nI 80) v1; omega) ?_
  refine wp_cb2 (o_X10_byLaw M_7 (nI 111) (nI 9) hG7) (fun r_9 M_10 he94 hq94 => ?_)
  have hg_M_10 := hq94
  replace hg_M_10 : ∀ a i, ¬ (a = 17) → M_10 a i = M_7 a i := hg_M_10
  have hG10 : Gl M_10 := (gl_ext hG7 (hg_M_10 0 15 (by first | decide | (rcases hc0 with h | h <;> rw [h] <;> simp; done) | (rcases hb0 with h | h | h <;> rw [h] <;> simp; done) | (simp; done) | omega)) (fun i => hg_M_10 12 i (by first | decide | (rcases hc0 with h | h <;> rw [h] <;> simp; done) | (rcases hb0 with h | h | h <;> rw [h] <;> simp; done) | (simp; done) | omega)) (fun i => hg_M_10 14 i (by first | decide | (rcases hc0 with h | h <;> rw [h] <;> simp; done) | (rcases hb0 with h | h | h <;> rw [h] <;> simp; done) | (simp; done) | omega)) (fun i => hg_M_10 15 i (by first | decide | (rcases hc0 with h | h <;> rw [h] <;> simp; done) | (rcases hb0 with h | h | h <;> rw [h] <;> simp; done) | (simp; done) | omega)) (fun i => hg_M_10 16 i (by first | decide | (rcases hc0 with h | h <;> rw [h] <;> simp; done) | (rcases hb0 with h | h | h <;> rw [h] <;> simp; done) | (simp; done) | omega)))
  refine wp_cb2 (o_X10_byLaw M_10 (nI 98) (nI 9) hG10) (fun r_11 M_12 he103 hq103 => ?_)
  have hg_M_12 := hq103
  replace hg_M_12 : ∀ a i, ¬ (a = 17) → M_12 a i = M_10 a i := hg_M_12
  have hG12 : Gl M_12 := (gl_ext hG10 (hg_M_12 0 15 (by first | decide | (rcases hc0 with h | h <;> rw [h] <;> simp; done) | (rcases hb0 with h | h | h <;> rw [h] <;> simp; done) | (simp; done) | omega)) (fun i => hg_M_12 12 i (by first | decide | (rcases hc0 with h | h <;> rw [h] <;> simp; done) | (rcases hb0 with h | h | h <;> rw [h] <;> simp; done) | (simp; done) | omega)) (fun i => hg_M_12 14 i (by first | decide | (rcases hc0 with h | h <;> rw [h] <;> simp; done) | (rcases hb0 with h | h | h <;> rw [h] <;> simp; done) | (simp; done) | omega)) (fun i => hg_M_12 15 i (by first | decide | (rcases hc0 with h | h <;> rw [h] <;> simp; done) | (rcases hb0 with h | h | h <;> rw [h] <;> simp; done) | (simp; done) | omega)) (fun i => hg_M_12 16 i (by first | decide | (rcases hc0 with h | h <;> rw [h] <;> simp; done) | (rcases hb0 with h | h | h <;> rw [h] <;> simp; done) | (simp; done) | omega)))
  have e12 : ∀ j, M_12 1 j = M_1 1 j := fun j => by rw [hg_M_12 1 j (by first | decide | (rcases hc0 with h | h <;> rw [h] <;> simp; done) | (rcases hb0 with h | h | h <;> rw [h] <;> simp; done) | (simp; done) | omega), hg_M_10 1 j (by first | decide | (rcases hc0 with h | h <;> rw [h] <;> simp; done) | (rcases hb0 with h | h | h <;> rw [h] <;> simp; done) | (simp; done) | omega), hg_M_7 1 j (by first | decide | (rcases hc0 with h | h <;> rw [h] <;> simp; done) | (rcases hb0 with h | h | h <;> rw [h] <;> simp; done) | (simp; done) | omega), hg_M_5 1 j (by first | decide | (rcases hc0 with h | h <;> rw [h] <;> simp; done) | (rcases hb0 with h | h | h <;> rw [h] <;> simp; done) | (simp; done) | omega), hg_M_3 1 j (by first | decide | (rcases hc0 with h | h <;> rw [h] <;> simp; done) | (rcases hb0 with h | h | h <;> rw [h] <;> simp; done) | (simp; done) | omega)]
  have fv := t_ixn v1 hv1.1
  have x40 := ix_add (x := v1) (n := 40) (by omega) (by omega)
  have x80 := ix_add (x := v1) (n := 80) (by omega) (by omega)
  have x160 := ix_add (x := v1) (n := 160) (by omega) (by omega)
  refine wp_bind2 (o_X10_bounded M_12 (((M_7 1 (ix ((nI 80) + v1))) + r_9) - r_11) (nI 1) (nI 20)) (fun r_13 he110 hq110 => ?_)
  have hr_110 := hq110
  replace hr_110 : r_13.toInt = max (nI 1).toInt (min (nI 20).toInt (((M_7 1 (ix ((nI 80) + v1))) + r_9) - r_11).toInt) := hr_110
  have := t_lit 1
  have := t_lit 20
  refine wp_bind2 (o_X10_stoneAt M_12 r_8 r_13) (fun r_14 he119 hq119 => ?_)
  have hr_119 := hq119
  replace hr_119 : r_14.toInt = -1 ∨ ((0 ≤ r_14.toInt ∧ r_14.toInt < 40) ∧ (M_12 1 (ix r_14)).toInt = 1 ∧ (M_12 1 (ix (nI 40 + r_14))).toInt = r_8.toInt ∧ (M_12 1 (ix (nI 80 + r_14))).toInt = r_13.toInt) := hr_119
  have j180 : ∀ (N180 : Mem), (∀ a i, ¬ ((a = 0 ∧ i = 34) ∨ (a = 0 ∧ i = 35) ∨ a = 1) → N180 a i = M_12 a i) → ((∀ j : Nat, ¬ j = 40 + ix v1 → ¬ j = 80 + ix v1 → N180 1 j = M_12 1 j) ∧ (N180 1 (80 + ix v1) = M_12 1 (80 + ix v1) ∨ (1 ≤ (N180 1 (80 + ix v1)).toInt ∧ (N180 1 (80 + ix v1)).toInt ≤ 20))) → Wp (f_X10_moves_L180 v1 x_2 N180) (fun q => (∀ a i, ¬ ((a = 0 ∧ i = 34) ∨ (a = 0 ∧ i = 35) ∨ a = 1 ∨ a = 17 ∨ a = 18) → q a i = M a i) ∧ (ST (q 1))) := by
    intro N180 hf_N180 h180
    unfold f_X10_moves_L180
    have hG180 : Gl N180 := (gl_ext hG12 (hf_N180 0 15 (by first | decide | (rcases hc0 with h | h <;> rw [h] <;> simp; done) | (rcases hb0 with h | h | h <;> rw [h] <;> simp; done) | (simp; done) | omega)) (fun i => hf_N180 12 i (by first | decide | (rcases hc0 with h | h <;> rw [h] <;> simp; done) | (rcases hb0 with h | h | h <;> rw [h] <;> simp; done) | (simp; done) | omega)) (fun i => hf_N180 14 i (by first | decide | (rcases hc0 with h | h <;> rw [h] <;> simp; done) | (rcases hb0 with h | h | h <;> rw [h] <;> simp; done) | (simp; done) | omega)) (fun i => hf_N180 15 i (by first | decide | (rcases hc0 with h | h <;> rw [h] <;> simp; done) | (rcases hb0 with h | h | h <;> rw [h] <;> simp; done) | (simp; done) | omega)) (fun i => hf_N180 16 i (by first | decide | (rcases hc0 with h | h <;> rw [h] <;> simp; done) | (rcases hb0 with h | h | h <;> rw [h] <;> simp; done) | (simp; done) | omega)))
    refine wp_bind2 (o_X10_feels N180 v1 x_2 hv1) (fun M_15 he183 hq183 => ?_)
    have hg_M_15 := hq183
    replace hg_M_15 : ∀ a i, ¬ (a = 18) → M_15 a i = N180 a i := hg_M_15
    have hG15 : Gl M_15 := (gl_ext hG180 (hg_M_15 0 15 (by first | decide | (rcases hc0 with h | h <;> rw [h] <;> simp; done) | (rcases hb0 with h | h | h <;> rw [h] <;> simp; done) | (simp; done) | omega)) (fun i => hg_M_15 12 i (by first | decide | (rcases hc0 with h | h <;> rw [h] <;> simp; done) | (rcases hb0 with h | h | h <;> rw [h] <;> simp; done) | (simp; done) | omega)) (fun i => hg_M_15 14 i (by first | decide | (rcases hc0 with h | h <;> rw [h] <;> simp; done) | (rcases hb0 with h | h | h <;> rw [h] <;> simp; done) | (simp; done) | omega)) (fun i => hg_M_15 15 i (by first | decide | (rcases hc0 with h | h <;> rw [h] <;> simp; done) | (rcases hb0 with h | h | h <;> rw [h] <;> simp; done) | (simp; done) | omega)) (fun i => hg_M_15 16 i (by first | decide | (rcases hc0 with h | h <;> rw [h] <;> simp; done) | (rcases hb0 with h | h | h <;> rw [h] <;> simp; done) | (simp; done) | omega)))
    refine wp_cb2 (o_X10_holdsAny M_15 (nI 120) hG15) (fun r_16 M_17 he198 hq198 => ?_)
    obtain ⟨hz_r_16, hg_M_17⟩ := hq198
    replace hg_M_17 : ∀ a i, ¬ (a = 17) → M_17 a i = M_15 a i := hg_M_17
    have j209 : ∀ (t0_209 : Int32), (t0_209 = 0 ∨ t0_209 = 1) → Wp (f_X10_moves_L209 v1 M_17 t0_209) (fun q => (∀ a i, ¬ ((a = 0 ∧ i = 34) ∨ (a = 0 ∧ i = 35) ∨ a = 1 ∨ a = 17 ∨ a = 18) → q a i = M a i) ∧ (ST (q 1))) := by
      intro t0_209 hb_t0_209
      unfold f_X10_moves_L209
      refine wp_gd (by have f0 := t_lit 160; have f1 := t_add (nI 160) v1; omega) ?_
      refine wp_bnd (fun M_18 eM_18 => ?_)
      exact wp_some ⟨(fun a i q0 => ((congrFun (congrFun eM_18 a) i).trans ((mset_ne (fun h9 => q0 (Or.inr (Or.inr (Or.inl (h9).1))))).trans ((hg_M_17 a i (fun h9 => q0 (Or.inr (Or.inr (Or.inr (Or.inl h9)))))).trans ((hg_M_15 a i (fun h9 => q0 (Or.inr (Or.inr (Or.inr (Or.inr (h9))))))).trans ((hf_N180 a i (fun z8 => q0 ((fun z9 => Or.elim z9 (fun h9 => Or.inl h9) (fun z9 => Or.elim z9 (fun h9 => Or.inr (Or.inl h9)) (fun h9 => Or.inr (Or.inr (Or.inl h9))))) z8))).trans ((hg_M_12 a i (fun h9 => q0 (Or.inr (Or.inr (Or.inr (Or.inl h9)))))).trans ((hg_M_10 a i (fun h9 => q0 (Or.inr (Or.inr (Or.inr (Or.inl h9)))))).trans ((hg_M_7 a i (fun h9 => q0 (Or.inr (Or.inr (Or.inr (Or.inl h9)))))).trans ((hg_M_5 a i (fun h9 => q0 (Or.inr (Or.inr (Or.inr (Or.inl h9)))))).trans ((hg_M_3 a i (fun h9 => q0 (Or.inr (Or.inr (Or.inr (Or.inr (h9))))))).trans ((congrFun (congrFun eM_1 a) i).trans ((mset_ne (fun h9 => q0 (Or.inr (Or.inr (Or.inl (h9).1))))).trans rfl))))))))))))), (st_mv (i := ix v1) hst (by omega) (fun j z1 z2 z3 z4 => by rw [eM_18, mset_ne (by first | exact nz1 (by decide) | exact nz2 (by decide) | exact nz1 (nzA hc0 (by decide)) | exact nz1 (nzE (by decide)) | exact nz1 (nzB hc0 (by decide)) | exact nz1 (nzC hc0 (by decide)) | exact nz1 (nzD hc0 (by decide)) | exact nz1 (nzF (by decide)) | exact nz1 (nzG (by decide)) | omega), hg_M_17 1 j (by first | decide | (rcases hc0 with h | h <;> rw [h] <;> simp; done) | (rcases hb0 with h | h | h <;> rw [h] <;> simp; done) | (simp; done) | omega), hg_M_15 1 j (by first | decide | (rcases hc0 with h | h <;> rw [h] <;> simp; done) | (rcases hb0 with h | h | h <;> rw [h] <;> simp; done) | (simp; done) | omega), h180.1 j z1 z2, e12 j, eM_1, mset_ne (by first | exact nz1 (by decide) | exact nz2 (by decide) | exact nz1 (nzA hc0 (by decide)) | exact nz1 (nzE (by decide)) | exact nz1 (nzB hc0 (by decide)) | exact nz1 (nzC hc0 (by decide)) | exact nz1 (nzD hc0 (by decide)) | exact nz1 (nzF (by decide)) | exact nz1 (nzG (by decide)) | omega)]) (by rw [eM_18, mset_ne (by first | exact nz1 (by decide) | exact nz2 (by decide) | exact nz1 (nzA hc0 (by decide)) | exact nz1 (nzE (by decide)) | exact nz1 (nzB hc0 (by decide)) | exact nz1 (nzC hc0 (by decide)) | exact nz1 (nzD hc0 (by decide)) | exact nz1 (nzF (by decide)) | exact nz1 (nzG (by decide)) | omega), hg_M_17 1 _ (by first | decide | (rcases hc0 with h | h <;> rw [h] <;> simp; done) | (rcases hb0 with h | h | h <;> rw [h] <;> simp; done) | (simp; done) | omega), hg_M_15 1 _ (by first | decide | (rcases hc0 with h | h <;> rw [h] <;> simp; done) | (rcases hb0 with h | h | h <;> rw [h] <;> simp; done) | (simp; done) | omega)]; exact h180.2.elim (fun z => Or.inl (by rw [z, e12, eM_1, mset_ne (by first | exact nz1 (by decide) | exact nz2 (by decide) | exact nz1 (nzA hc0 (by decide)) | exact nz1 (nzE (by decide)) | exact nz1 (nzB hc0 (by decide)) | exact nz1 (nzC hc0 (by decide)) | exact nz1 (nzD hc0 (by decide)) | exact nz1 (nzF (by decide)) | exact nz1 (nzG (by decide)) | omega)])) Or.inr))⟩
    refine wp_ite (fun c201 => ?_) (fun c201 => ?_)
    · exact j209 (nI 0) b01_0
    · exact j209 (nI 1) b01_1
  refine wp_ite (fun c127 => ?_) (fun c127 => ?_)
  · refine wp_gd (by have f0 := t_lit 40; have f1 := t_add (nI 40) v1; omega) ?_
    refine wp_bnd (fun M_20 eM_20 => ?_)
    refine wp_gd (by have f0 := t_lit 80; have f1 := t_add (nI 80) v1; omega) ?_
    refine wp_bnd (fun M_21 eM_21 => ?_)
    refine wp_bnd (fun M_22 eM_22 => ?_)
    exact j180 M_22 (fun a i q0 => ((congrFun (congrFun eM_22 a) i).trans ((mset_ne (fun h9 => q0 (Or.inl h9))).trans ((congrFun (congrFun eM_21 a) i).trans ((mset_ne (fun h9 => q0 (Or.inr (Or.inr ((h9).1))))).trans ((congrFun (congrFun eM_20 a) i).trans ((mset_ne (fun h9 => q0 (Or.inr (Or.inr ((h9).1))))).trans rfl))))))) ⟨fun j z1 z2 => by rw [eM_22, mset_ne (by first | exact nz1 (by decide) | exact nz2 (by decide) | exact nz1 (nzA hc0 (by decide)) | exact nz1 (nzE (by decide)) | exact nz1 (nzB hc0 (by decide)) | exact nz1 (nzC hc0 (by decide)) | exact nz1 (nzD hc0 (by decide)) | exact nz1 (nzF (by decide)) | exact nz1 (nzG (by decide)) | omega), eM_21, mset_ne (by first | exact nz1 (by decide) | exact nz2 (by decide) | exact nz1 (nzA hc0 (by decide)) | exact nz1 (nzE (by decide)) | exact nz1 (nzB hc0 (by decide)) | exact nz1 (nzC hc0 (by decide)) | exact nz1 (nzD hc0 (by decide)) | exact nz1 (nzF (by decide)) | exact nz1 (nzG (by decide)) | omega), eM_20, mset_ne (by first | exact nz1 (by decide) | exact nz2 (by decide) | exact nz1 (nzA hc0 (by decide)) | exact nz1 (nzE (by decide)) | exact nz1 (nzB hc0 (by decide)) | exact nz1 (nzC hc0 (by decide)) | exact nz1 (nzD hc0 (by decide)) | exact nz1 (nzF (by decide)) | exact nz1 (nzG (by decide)) | omega)], Or.inr (by rw [eM_22, mset_ne (by first | exact nz1 (by decide) | exact nz2 (by decide) | exact nz1 (nzA hc0 (by decide)) | exact nz1 (nzE (by decide)) | exact nz1 (nzB hc0 (by decide)) | exact nz1 (nzC hc0 (by decide)) | exact nz1 (nzD hc0 (by decide)) | exact nz1 (nzF (by decide)) | exact nz1 (nzG (by decide)) | omega), eM_21, ← x80, mset_eq]; omega)⟩
  · refine wp_ite (fun c167 => ?_) (fun c167 => ?_)
    · exact j180 M_12 (fun _ _ _ => rfl) ⟨fun _ _ _ => rfl, Or.inl rfl⟩
    · refine wp_bnd (fun M_19 eM_19 => ?_)
      exact j180 M_19 (fun a i q0 => ((congrFun (congrFun eM_19 a) i).trans ((mset_ne (fun h9 => q0 (Or.inr (Or.inl h9)))).trans rfl))) ⟨fun j _ _ => by rw [eM_19, mset_ne (by first | exact nz1 (by decide) | exact nz2 (by decide) | exact nz1 (nzA hc0 (by decide)) | exact nz1 (nzE (by decide)) | exact nz1 (nzB hc0 (by decide)) | exact nz1 (nzC hc0 (by decide)) | exact nz1 (nzD hc0 (by decide)) | exact nz1 (nzF (by decide)) | exact nz1 (nzG (by decide)) | omega)], Or.inl (by rw [eM_19, mset_ne (by first | exact nz1 (by decide) | exact nz2 (by decide) | exact nz1 (nzA hc0 (by decide)) | exact nz1 (nzE (by decide)) | exact nz1 (nzB hc0 (by decide)) | exact nz1 (nzC hc0 (by decide)) | exact nz1 (nzD hc0 (by decide)) | exact nz1 (nzF (by decide)) | exact nz1 (nzG (by decide)) | omega)])⟩
theorem o_X10_nightGoes (M : Mem) (hst : ST (M 1)) (hG : Gl M) : Wp (f_X10_nightGoes M) (fun q => (∀ a i, ¬ ((a = 0 ∧ i = 34) ∨ (a = 0 ∧ i = 35) ∨ a = 1 ∨ a = 17 ∨ a = 18) → q a i = M a i) ∧ (ST (q 1))) := by
  refine wp_lp2 (fun M2 y1_2 => (0 ≤ y1_2.toInt) ∧ (∀ a i, ¬ ((a = 0 ∧ i = 34) ∨ (a = 0 ∧ i = 35) ∨ a = 1 ∨ a = 17 ∨ a = 18) → M2 a i = M a i) ∧ (ST (M2 1))) (fun M2 y1_2 => (40 - y1_2.toInt).toNat) (fun ag2 M2 y1_2 hI2 ih2 => ?_) FU M (nI 0) ⟨(by have f0 := t_lit 0; omega), (fun _ _ _ => rfl), hst⟩ (fu_lt (by have f0 := t_lit 0; omega))
  obtain ⟨hi2, hf_M2, hst2⟩ := hI2
  have hG2 : Gl M2 := (gl_ext hG (hf_M2 0 15 (by first | decide | (rcases hc0 with h | h <;> rw [h] <;> simp; done) | (rcases hb0 with h | h | h <;> rw [h] <;> simp; done) | (simp; done) | omega)) (fun i => hf_M2 12 i (by first | decide | (rcases hc0 with h | h <;> rw [h] <;> simp; done) | (rcases hb0 with h | h | h <;> rw [h] <;> simp; done) | (simp; done) | omega)) (fun i => hf_M2 14 i (by first | decide | (rcases hc0 with h | h <;> rw [h] <;> simp; done) | (rcases hb0 with h | h | h <;> rw [h] <;> simp; done) | (simp; done) | omega)) (fun i => hf_M2 15 i (by first | decide | (rcases hc0 with h | h <;> rw [h] <;> simp; done) | (rcases hb0 with h | h | h <;> rw [h] <;> simp; done) | (simp; done) | omega)) (fun i => hf_M2 16 i (by first | decide | (rcases hc0 with h | h <;> rw [h] <;> simp; done) | (rcases hb0 with h | h | h <;> rw [h] <;> simp; done) | (simp; done) | omega)))
  have j27 : Wp (f_X10_nightGoes_L27 M2) (fun q => (∀ a i, ¬ ((a = 0 ∧ i = 34) ∨ (a = 0 ∧ i = 35) ∨ a = 1 ∨ a = 17 ∨ a = 18) → q a i = M a i) ∧ (ST (q 1))) := by
    unfold f_X10_nightGoes_L27
    refine wp_bnd (fun M_1 eM_1 => ?_)
    exact wp_some ⟨(fun a i q0 => ((congrFun (congrFun eM_1 a) i).trans ((mset_ne (fun h9 => q0 (Or.inr (Or.inr (Or.inl (h9).1))))).trans ((hf_M2 a i (fun z8 => q0 ((fun z9 => Or.elim z9 (fun h9 => Or.inl h9) (fun z9 => Or.elim z9 (fun h9 => Or.inr (Or.inl h9)) (fun z9 => Or.elim z9 (fun h9 => Or.inr (Or.inr (Or.inl h9))) (fun z9 => Or.elim z9 (fun h9 => Or.inr (Or.inr (Or.inr (Or.inl h9)))) (fun h9 => Or.inr (Or.inr (Or.inr (Or.inr (h9))))))))) z8))).trans rfl)))), (st_hi (i := 40) hst2 (fun j hj => by rw [eM_1, mset_ne (by first | exact nz1 (by decide) | exact nz2 (by decide) | exact nz1 (nzA hc0 (by decide)) | exact nz1 (nzE (by decide)) | exact nz1 (nzB hc0 (by decide)) | exact nz1 (nzC hc0 (by decide)) | exact nz1 (nzD hc0 (by decide)) | exact nz1 (nzF (by decide)) | exact nz1 (nzG (by decide)) | omega)]))⟩
  refine wp_ite (fun c5 => ?_) (fun c5 => ?_)
  · exact j27
  · refine wp_bind2 (o_X10_isStone M2 y1_2) (fun r_2 he10 hq10 => ?_)
    obtain ⟨hz_r_2, hr_10⟩ := hq10
    replace hr_10 : ¬ r_2.toInt = 0 → (0 ≤ y1_2.toInt ∧ y1_2.toInt < 40) ∧ (M2 1 (ix y1_2)).toInt = 1 := hr_10
    refine wp_ite (fun c13 => ?_) (fun c13 => ?_)
    · exact ih2 M2 (y1_2 + (nI 1)) ⟨(by have f0 := t_lit 1; have f1 := t_add y1_2 (nI 1); omega), (fun a i q0 => ((hf_M2 a i (fun z8 => q0 ((fun z9 => Or.elim z9 (fun h9 => Or.inl h9) (fun z9 => Or.elim z9 (fun h9 => Or.inr (Or.inl h9)) (fun z9 => Or.elim z9 (fun h9 => Or.inr (Or.inr (Or.inl h9))) (fun z9 => Or.elim z9 (fun h9 => Or.inr (Or.inr (Or.inr (Or.inl h9)))) (fun h9 => Or.inr (Or.inr (Or.inr (Or.inr (h9))))))))) z8))).trans rfl)), hst2⟩ (by have f0 := t_lit 1; have f1 := t_add y1_2 (nI 1); omega)
    · refine wp_bind2 (o_X10_moves M2 y1_2 (by omega) hst2 hG2) (fun M_3 he18 hq18 => ?_)
      obtain ⟨hg_M_3, hst_18⟩ := hq18
      replace hst_18 : ST (M_3 1) := hst_18
      replace hg_M_3 : ∀ a i, ¬ ((a = 0 ∧ i = 34) ∨ (a = 0 ∧ i = 35) ∨ a = 1 ∨ a = 17 ∨ a = 18) → M_3 a i = M2 a i := hg_M_3
      exact ih2 M_3 (y1_2 + (nI 1)) ⟨(by have f0 := t_lit 1; have f1 := t_add y1_2 (nI 1); omega), (fun a i q0 => ((hg_M_3 a i (fun z8 => q0 ((fun z9 => Or.elim z9 (fun h9 => Or.inl h9) (fun z9 => Or.elim z9 (fun h9 => Or.inr (Or.inl h9)) (fun z9 => Or.elim z9 (fun h9 => Or.inr (Or.inr (Or.inl h9))) (fun z9 => Or.elim z9 (fun h9 => Or.inr (Or.inr (Or.inr (Or.inl h9)))) (fun h9 => Or.inr (Or.inr (Or.inr (Or.inr (h9))))))))) z8))).trans ((hf_M2 a i (fun z8 => q0 ((fun z9 => Or.elim z9 (fun h9 => Or.inl h9) (fun z9 => Or.elim z9 (fun h9 => Or.inr (Or.inl h9)) (fun z9 => Or.elim z9 (fun h9 => Or.inr (Or.inr (Or.inl h9))) (fun z9 => Or.elim z9 (fun h9 => Or.inr (Or.inr (Or.inr (Or.inl h9)))) (fun h9 => Or.inr (Or.inr (Or.inr (Or.inr (h9))))))))) z8))).trans rfl))), hst_18⟩ (by have f0 := t_lit 1; have f1 := t_add y1_2 (nI 1); omega)
theorem o_X10_nightsGo (M : Mem) (v1 : Int32) (hst : ST (M 1)) (hG : Gl M) : Wp (f_X10_nightsGo M v1) (fun q => (∀ a i, ¬ ((a = 0 ∧ i = 34) ∨ (a = 0 ∧ i = 35) ∨ a = 1 ∨ a = 17 ∨ a = 18) → q a i = M a i) ∧ (ST (q 1))) := by
  refine wp_bnd (fun M_1 eM_1 => ?_)
  refine wp_bnd (fun M_2 eM_2 => ?_)
  have hG1 : Gl M_1 := (gl_ext hG (by rw [eM_1, mset_ne (by first | exact nz1 (by decide) | exact nz2 (by decide) | exact nz1 (nzA hc0 (by decide)) | exact nz1 (nzE (by decide)) | exact nz1 (nzB hc0 (by decide)) | exact nz1 (nzC hc0 (by decide)) | exact nz1 (nzD hc0 (by decide)) | exact nz1 (nzF (by decide)) | exact nz1 (nzG (by decide)) | omega)]) (fun i => by rw [eM_1, mset_ne (by first | exact nz1 (by decide) | exact nz2 (by decide) | exact nz1 (nzA hc0 (by decide)) | exact nz1 (nzE (by decide)) | exact nz1 (nzB hc0 (by decide)) | exact nz1 (nzC hc0 (by decide)) | exact nz1 (nzD hc0 (by decide)) | exact nz1 (nzF (by decide)) | exact nz1 (nzG (by decide)) | omega)]) (fun i => by rw [eM_1, mset_ne (by first | exact nz1 (by decide) | exact nz2 (by decide) | exact nz1 (nzA hc0 (by decide)) | exact nz1 (nzE (by decide)) | exact nz1 (nzB hc0 (by decide)) | exact nz1 (nzC hc0 (by decide)) | exact nz1 (nzD hc0 (by decide)) | exact nz1 (nzF (by decide)) | exact nz1 (nzG (by decide)) | omega)]) (fun i => by rw [eM_1, mset_ne (by first | exact nz1 (by decide) | exact nz2 (by decide) | exact nz1 (nzA hc0 (by decide)) | exact nz1 (nzE (by decide)) | exact nz1 (nzB hc0 (by decide)) | exact nz1 (nzC hc0 (by decide)) | exact nz1 (nzD hc0 (by decide)) | exact nz1 (nzF (by decide)) | exact nz1 (nzG (by decide)) | omega)]) (fun i => by rw [eM_1, mset_ne (by first | exact nz1 (by decide) | exact nz2 (by decide) | exact nz1 (nzA hc0 (by decide)) | exact nz1 (nzE (by decide)) | exact nz1 (nzB hc0 (by decide)) | exact nz1 (nzC hc0 (by decide)) | exact nz1 (nzD hc0 (by decide)) | exact nz1 (nzF (by decide)) | exact nz1 (nzG (by decide)) | omega)]))
  have hG2 : Gl M_2 := (gl_ext hG1 (by rw [eM_2, mset_ne (by first | exact nz1 (by decide) | exact nz2 (by decide) | exact nz1 (nzA hc0 (by decide)) | exact nz1 (nzE (by decide)) | exact nz1 (nzB hc0 (by decide)) | exact nz1 (nzC hc0 (by decide)) | exact nz1 (nzD hc0 (by decide)) | exact nz1 (nzF (by decide)) | exact nz1 (nzG (by decide)) | omega)]) (fun i => by rw [eM_2, mset_ne (by first | exact nz1 (by decide) | exact nz2 (by decide) | exact nz1 (nzA hc0 (by decide)) | exact nz1 (nzE (by decide)) | exact nz1 (nzB hc0 (by decide)) | exact nz1 (nzC hc0 (by decide)) | exact nz1 (nzD hc0 (by decide)) | exact nz1 (nzF (by decide)) | exact nz1 (nzG (by decide)) | omega)]) (fun i => by rw [eM_2, mset_ne (by first | exact nz1 (by decide) | exact nz2 (by decide) | exact nz1 (nzA hc0 (by decide)) | exact nz1 (nzE (by decide)) | exact nz1 (nzB hc0 (by decide)) | exact nz1 (nzC hc0 (by decide)) | exact nz1 (nzD hc0 (by decide)) | exact nz1 (nzF (by decide)) | exact nz1 (nzG (by decide)) | omega)]) (fun i => by rw [eM_2, mset_ne (by first | exact nz1 (by decide) | exact nz2 (by decide) | exact nz1 (nzA hc0 (by decide)) | exact nz1 (nzE (by decide)) | exact nz1 (nzB hc0 (by decide)) | exact nz1 (nzC hc0 (by decide)) | exact nz1 (nzD hc0 (by decide)) | exact nz1 (nzF (by decide)) | exact nz1 (nzG (by decide)) | omega)]) (fun i => by rw [eM_2, mset_ne (by first | exact nz1 (by decide) | exact nz2 (by decide) | exact nz1 (nzA hc0 (by decide)) | exact nz1 (nzE (by decide)) | exact nz1 (nzB hc0 (by decide)) | exact nz1 (nzC hc0 (by decide)) | exact nz1 (nzD hc0 (by decide)) | exact nz1 (nzF (by decide)) | exact nz1 (nzG (by decide)) | omega)]))
  have ft1 := t_rng v1
  refine wp_lp2 (fun M12 y2_12 => (0 ≤ y2_12.toInt) ∧ (∀ a i, ¬ ((a = 0 ∧ i = 34) ∨ (a = 0 ∧ i = 35) ∨ a = 1 ∨ a = 17 ∨ a = 18) → M12 a i = M_2 a i) ∧ (ST (M12 1))) (fun M12 y2_12 => (v1.toInt - y2_12.toInt).toNat) (fun ag12 M12 y2_12 hI12 ih12 => ?_) FU M_2 (nI 0) ⟨(by have f0 := t_lit 0; omega), (fun _ _ _ => rfl), (by rw [eM_2, mset_n (by omega), eM_1, mset_n (by omega)]; exact hst)⟩ (fu_lt (by have f0 := t_lit 0; omega))
  obtain ⟨hi12, hf_M12, hst12⟩ := hI12
  have hG12 : Gl M12 := (gl_ext hG2 (hf_M12 0 15 (by first | decide | (rcases hc0 with h | h <;> rw [h] <;> simp; done) | (rcases hb0 with h | h | h <;> rw [h] <;> simp; done) | (simp; done) | omega)) (fun i => hf_M12 12 i (by first | decide | (rcases hc0 with h | h <;> rw [h] <;> simp; done) | (rcases hb0 with h | h | h <;> rw [h] <;> simp; done) | (simp; done) | omega)) (fun i => hf_M12 14 i (by first | decide | (rcases hc0 with h | h <;> rw [h] <;> simp; done) | (rcases hb0 with h | h | h <;> rw [h] <;> simp; done) | (simp; done) | omega)) (fun i => hf_M12 15 i (by first | decide | (rcases hc0 with h | h <;> rw [h] <;> simp; done) | (rcases hb0 with h | h | h <;> rw [h] <;> simp; done) | (simp; done) | omega)) (fun i => hf_M12 16 i (by first | decide | (rcases hc0 with h | h <;> rw [h] <;> simp; done) | (rcases hb0 with h | h | h <;> rw [h] <;> simp; done) | (simp; done) | omega)))
  refine wp_ite (fun c14 => ?_) (fun c14 => ?_)
  · exact wp_some ⟨(fun a i q0 => ((hf_M12 a i (fun z8 => q0 ((fun z9 => Or.elim z9 (fun h9 => Or.inl h9) (fun z9 => Or.elim z9 (fun h9 => Or.inr (Or.inl h9)) (fun z9 => Or.elim z9 (fun h9 => Or.inr (Or.inr (Or.inl h9))) (fun z9 => Or.elim z9 (fun h9 => Or.inr (Or.inr (Or.inr (Or.inl h9)))) (fun h9 => Or.inr (Or.inr (Or.inr (Or.inr (h9))))))))) z8))).trans ((congrFun (congrFun eM_2 a) i).trans ((mset_ne (fun h9 => q0 (Or.inr (Or.inl h9)))).trans ((congrFun (congrFun eM_1 a) i).trans ((mset_ne (fun h9 => q0 (Or.inl h9))).trans rfl)))))), hst12⟩
  · refine wp_ite (fun c28 => ?_) (fun c28 => ?_)
    · exact wp_some ⟨(fun a i q0 => ((hf_M12 a i (fun z8 => q0 ((fun z9 => Or.elim z9 (fun h9 => Or.inl h9) (fun z9 => Or.elim z9 (fun h9 => Or.inr (Or.inl h9)) (fun z9 => Or.elim z9 (fun h9 => Or.inr (Or.inr (Or.inl h9))) (fun z9 => Or.elim z9 (fun h9 => Or.inr (Or.inr (Or.inr (Or.inl h9)))) (fun h9 => Or.inr (Or.inr (Or.inr (Or.inr (h9))))))))) z8))).trans ((congrFun (congrFun eM_2 a) i).trans ((mset_ne (fun h9 => q0 (Or.inr (Or.inl h9)))).trans ((congrFun (congrFun eM_1 a) i).trans ((mset_ne (fun h9 => q0 (Or.inl h9))).trans rfl)))))), hst12⟩
    · refine wp_bind2 (o_X10_nightGoes M12 hst12 hG12) (fun M_3 he32 hq32 => ?_)
      obtain ⟨hg_M_3, hst_32⟩ := hq32
      replace hst_32 : ST (M_3 1) := hst_32
      replace hg_M_3 : ∀ a i, ¬ ((a = 0 ∧ i = 34) ∨ (a = 0 ∧ i = 35) ∨ a = 1 ∨ a = 17 ∨ a = 18) → M_3 a i = M12 a i := hg_M_3
      exact ih12 M_3 (y2_12 + (nI 1)) ⟨(by have f0 := t_lit 1; have f1 := t_add y2_12 (nI 1); omega), (fun a i q0 => ((hg_M_3 a i (fun z8 => q0 ((fun z9 => Or.elim z9 (fun h9 => Or.inl h9) (fun z9 => Or.elim z9 (fun h9 => Or.inr (Or.inl h9)) (fun z9 => Or.elim z9 (fun h9 => Or.inr (Or.inr (Or.inl h9))) (fun z9 => Or.elim z9 (fun h9 => Or.inr (Or.inr (Or.inr (Or.inl h9)))) (fun h9 => Or.inr (Or.inr (Or.inr (Or.inr (h9))))))))) z8))).trans ((hf_M12 a i (fun z8 => q0 ((fun z9 => Or.elim z9 (fun h9 => Or.inl h9) (fun z9 => Or.elim z9 (fun h9 => Or.inr (Or.inl h9)) (fun z9 => Or.elim z9 (fun h9 => Or.inr (Or.inr (Or.inl h9))) (fun z9 => Or.elim z9 (fun h9 => Or.inr (Or.inr (Or.inr (Or.inl h9)))) (fun h9 => Or.inr (Or.inr (Or.inr (Or.inr (h9))))))))) z8))).trans rfl))), hst_32⟩ (by have f0 := t_lit 1; have f1 := t_add y2_12 (nI 1); omega)
set_option maxHeartbeats 4000000 in
theorem o_X10_firstNight (M : Mem) (v1 : Int32) (hst : ST (M 1)) (hG : Gl M) : Wp (f_X10_firstNight M v1) (fun q => (∀ a i, ¬ ((a = 0 ∧ i = 34) ∨ (a = 0 ∧ i = 35) ∨ a = 1 ∨ a = 2 ∨ a = 17 ∨ a = 18 ∨ a = 23 ∨ a = 25) → q.2 a i = M a i) ∧ (ST (q.2 1))) := by
  refine wp_bind2 (o_X10_isPerson M v1) (fun r_1 he2 hq2 => ?_)
  obtain ⟨hz_r_1, hr_2⟩ := hq2
  replace hr_2 : ¬ r_1.toInt = 0 → 0 ≤ v1.toInt ∧ v1.toInt < 8 := hr_2
  refine wp_ite (fun c5 => ?_) (fun c5 => ?_)
  · exact wp_some ⟨(fun _ _ _ => rfl), hst⟩
  · refine wp_bind2 (o_X10_copies (by decide) (by decide) M (by omega) (by omega)) (fun M_2 he18 hq18 => ?_)
    obtain ⟨hg_M_2, hc_18⟩ := hq18
    replace hc_18 : ∀ j : Nat, j < 202 → M_2 2 j = M 1 j := hc_18
    replace hg_M_2 : ∀ a i, ¬ (a = 2) → M_2 a i = M a i := by exact fun a i q0 => hg_M_2 a i (by first | decide | (rcases hc0 with h | h <;> rw [h] <;> simp; done) | (rcases hb0 with h | h | h <;> rw [h] <;> simp; done) | (simp; done) | omega)
    have hG2 : Gl M_2 := (gl_ext hG (hg_M_2 0 15 (by first | decide | (rcases hc0 with h | h <;> rw [h] <;> simp; done) | (rcases hb0 with h | h | h <;> rw [h] <;> simp; done) | (simp; done) | omega)) (fun i => hg_M_2 12 i (by first | decide | (rcases hc0 with h | h <;> rw [h] <;> simp; done) | (rcases hb0 with h | h | h <;> rw [h] <;> simp; done) | (simp; done) | omega)) (fun i => hg_M_2 14 i (by first | decide | (rcases hc0 with h | h <;> rw [h] <;> simp; done) | (rcases hb0 with h | h | h <;> rw [h] <;> simp; done) | (simp; done) | omega)) (fun i => hg_M_2 15 i (by first | decide | (rcases hc0 with h | h <;> rw [h] <;> simp; done) | (rcases hb0 with h | h | h <;> rw [h] <;> simp; done) | (simp; done) | omega)) (fun i => hg_M_2 16 i (by first | decide | (rcases hc0 with h | h <;> rw [h] <;> simp; done) | (rcases hb0 with h | h | h <;> rw [h] <;> simp; done) | (simp; done) | omega)))
    refine wp_gd (by omega) ?_
    refine wp_cb2 (o_X10_crossing M_2 (M_2 4 (ix v1))) (fun r_3 M_4 he30 hq30 => ?_)
    obtain ⟨hg_M_4, hE_30⟩ := hq30
    replace hE_30 : (21 ≤ (M_2 4 (ix v1)).toInt → r_3.toInt = 1) ∧ ((M_2 4 (ix v1)).toInt < 21 → Bend 40 (byB M_2 (nI 1) (M_2 4 (ix v1))) (cst M_2 (M_2 4 (ix v1))) (fun j => (M_4 23 j).toInt) ∧ Best (fun i => ¬ (M_4 23 i).toInt = -1 ∧ byB M_2 (nI 0) (M_2 4 (ix v1)) i) (fun i => (M_4 23 i).toInt) r_3.toInt 40) := hE_30
    replace hg_M_4 : ∀ a i, ¬ (a = 23 ∨ a = 25) → M_4 a i = M_2 a i := hg_M_4
    have hG4 : Gl M_4 := (gl_ext hG2 (hg_M_4 0 15 (by first | decide | (rcases hc0 with h | h <;> rw [h] <;> simp; done) | (rcases hb0 with h | h | h <;> rw [h] <;> simp; done) | (simp; done) | omega)) (fun i => hg_M_4 12 i (by first | decide | (rcases hc0 with h | h <;> rw [h] <;> simp; done) | (rcases hb0 with h | h | h <;> rw [h] <;> simp; done) | (simp; done) | omega)) (fun i => hg_M_4 14 i (by first | decide | (rcases hc0 with h | h <;> rw [h] <;> simp; done) | (rcases hb0 with h | h | h <;> rw [h] <;> simp; done) | (simp; done) | omega)) (fun i => hg_M_4 15 i (by first | decide | (rcases hc0 with h | h <;> rw [h] <;> simp; done) | (rcases hb0 with h | h | h <;> rw [h] <;> simp; done) | (simp; done) | omega)) (fun i => hg_M_4 16 i (by first | decide | (rcases hc0 with h | h <;> rw [h] <;> simp; done) | (rcases hb0 with h | h | h <;> rw [h] <;> simp; done) | (simp; done) | omega)))
    have j42 : ∀ (t0_42 : Int32), (t0_42 = 0 ∨ t0_42 = 1) → Wp (f_X10_firstNight_L42 v1 M_4 t0_42) (fun q => (∀ a i, ¬ ((a = 0 ∧ i = 34) ∨ (a = 0 ∧ i = 35) ∨ a = 1 ∨ a = 2 ∨ a = 17 ∨ a = 18 ∨ a = 23 ∨ a = 25) → q.2 a i = M a i) ∧ (ST (q.2 1))) := by
      intro t0_42 hb_t0_42
      unfold f_X10_firstNight_L42
      refine wp_lp3 (fun M43 y2_43 y3_43 => (0 ≤ y2_43.toInt) ∧ (∀ a i, ¬ ((a = 0 ∧ i = 34) ∨ (a = 0 ∧ i = 35) ∨ a = 1 ∨ a = 17 ∨ a = 18 ∨ a = 23 ∨ a = 25) → M43 a i = M_4 a i) ∧ (ST (M43 1)) ∧ (∀ j : Nat, j < 202 → M43 2 j = M 1 j)) (fun M43 y2_43 y3_43 => (60 - y2_43.toInt).toNat) (fun ag43 M43 y2_43 y3_43 hI43 ih43 => ?_) FU M_4 (nI 0) t0_42 ⟨(by have f0 := t_lit 0; omega), (fun _ _ _ => rfl), (by rw [show M_4 1 = M 1 from funext (fun i => by rw [hg_M_4 1 i (by first | decide | (rcases hc0 with h | h <;> rw [h] <;> simp; done) | (rcases hb0 with h | h | h <;> rw [h] <;> simp; done) | (simp; done) | omega), hg_M_2 1 i (by first | decide | (rcases hc0 with h | h <;> rw [h] <;> simp; done) | (rcases hb0 with h | h | h <;> rw [h] <;> simp; done) | (simp; done) | omega)])]; exact hst), (fun j hj => by rw [hg_M_4 2 j (by first | decide | (rcases hc0 with h | h <;> rw [h] <;> simp; done) | (rcases hb0 with h | h | h <;> rw [h] <;> simp; done) | (simp; done) | omega)]; exact hc_18 j hj)⟩ (fu_lt (by have f0 := t_lit 0; omega))
      obtain ⟨hi43, hf_M43, hst43, h2⟩ := hI43
      have hG43 : Gl M43 := (gl_ext hG4 (hf_M43 0 15 (by first | decide | (rcases hc0 with h | h <;> rw [h] <;> simp; done) | (rcases hb0 with h | h | h <;> rw [h] <;> simp; done) | (simp; done) | omega)) (fun i => hf_M43 12 i (by first | decide | (rcases hc0 with h | h <;> rw [h] <;> simp; done) | (rcases hb0 with h | h | h <;> rw [h] <;> simp; done) | (simp; done) | omega)) (fun i => hf_M43 14 i (by first | decide | (rcases hc0 with h | h <;> rw [h] <;> simp; done) | (rcases hb0 with h | h | h <;> rw [h] <;> simp; done) | (simp; done) | omega)) (fun i => hf_M43 15 i (by first | decide | (rcases hc0 with h | h <;> rw [h] <;> simp; done) | (rcases hb0 with h | h | h <;> rw [h] <;> simp; done) | (simp; done) | omega)) (fun i => hf_M43 16 i (by first | decide | (rcases hc0 with h | h <;> rw [h] <;> simp; done) | (rcases hb0 with h | h | h <;> rw [h] <;> simp; done) | (simp; done) | omega)))
      have j85 : Wp (f_X10_firstNight_L85 M43 y2_43 y3_43) (fun q => (∀ a i, ¬ ((a = 0 ∧ i = 34) ∨ (a = 0 ∧ i = 35) ∨ a = 1 ∨ a = 2 ∨ a = 17 ∨ a = 18 ∨ a = 23 ∨ a = 25) → q.2 a i = M a i) ∧ (ST (q.2 1))) := by
        unfold f_X10_firstNight_L85
        refine wp_bind2 (o_X10_copies (by decide) (by decide) M43 (by omega) (by omega)) (fun M_5 he93 hq93 => ?_)
        obtain ⟨hg_M_5, hc_93⟩ := hq93
        replace hc_93 : ∀ j : Nat, j < 202 → M_5 1 j = M43 2 j := hc_93
        replace hg_M_5 : ∀ a i, ¬ (a = 1) → M_5 a i = M43 a i := by exact fun a i q0 => hg_M_5 a i (by first | decide | (rcases hc0 with h | h <;> rw [h] <;> simp; done) | (rcases hb0 with h | h | h <;> rw [h] <;> simp; done) | (simp; done) | omega)
        refine wp_ite (fun c97 => ?_) (fun c97 => ?_)
        · exact wp_some ⟨(fun a i q0 => ((hg_M_5 a i (fun h9 => q0 (Or.inr (Or.inr (Or.inl h9))))).trans ((hf_M43 a i (fun z8 => q0 ((fun z9 => Or.elim z9 (fun h9 => Or.inl h9) (fun z9 => Or.elim z9 (fun h9 => Or.inr (Or.inl h9)) (fun z9 => Or.elim z9 (fun h9 => Or.inr (Or.inr (Or.inl h9))) (fun z9 => Or.elim z9 (fun h9 => Or.inr (Or.inr (Or.inr (Or.inr (Or.inl h9))))) (fun z9 => Or.elim z9 (fun h9 => Or.inr (Or.inr (Or.inr (Or.inr (Or.inr (Or.inl h9)))))) (fun z9 => Or.elim z9 (fun h9 => Or.inr (Or.inr (Or.inr (Or.inr (Or.inr (Or.inr (Or.inl h9))))))) (fun h9 => Or.inr (Or.inr (Or.inr (Or.inr (Or.inr (Or.inr (Or.inr (h9)))))))))))))) z8))).trans ((hg_M_4 a i (fun z8 => q0 ((fun z9 => Or.elim z9 (fun h9 => Or.inr (Or.inr (Or.inr (Or.inr (Or.inr (Or.inr (Or.inl h9))))))) (fun h9 => Or.inr (Or.inr (Or.inr (Or.inr (Or.inr (Or.inr (Or.inr (h9))))))))) z8))).trans ((hg_M_2 a i (fun h9 => q0 (Or.inr (Or.inr (Or.inr (Or.inl h9)))))).trans rfl))))), (st_copy hst (fun j hj => by show M_5 1 j = M 1 j; rw [hc_93 j hj]; exact h2 j hj))⟩
        · exact wp_some ⟨(fun a i q0 => ((hg_M_5 a i (fun h9 => q0 (Or.inr (Or.inr (Or.inl h9))))).trans ((hf_M43 a i (fun z8 => q0 ((fun z9 => Or.elim z9 (fun h9 => Or.inl h9) (fun z9 => Or.elim z9 (fun h9 => Or.inr (Or.inl h9)) (fun z9 => Or.elim z9 (fun h9 => Or.inr (Or.inr (Or.inl h9))) (fun z9 => Or.elim z9 (fun h9 => Or.inr (Or.inr (Or.inr (Or.inr (Or.inl h9))))) (fun z9 => Or.elim z9 (fun h9 => Or.inr (Or.inr (Or.inr (Or.inr (Or.inr (Or.inl h9)))))) (fun z9 => Or.elim z9 (fun h9 => Or.inr (Or.inr (Or.inr (Or.inr (Or.inr (Or.inr (Or.inl h9))))))) (fun h9 => Or.inr (Or.inr (Or.inr (Or.inr (Or.inr (Or.inr (Or.inr (h9)))))))))))))) z8))).trans ((hg_M_4 a i (fun z8 => q0 ((fun z9 => Or.elim z9 (fun h9 => Or.inr (Or.inr (Or.inr (Or.inr (Or.inr (Or.inr (Or.inl h9))))))) (fun h9 => Or.inr (Or.inr (Or.inr (Or.inr (Or.inr (Or.inr (Or.inr (h9))))))))) z8))).trans ((hg_M_2 a i (fun h9 => q0 (Or.inr (Or.inr (Or.inr (Or.inl h9)))))).trans rfl))))), (st_copy hst (fun j hj => by show M_5 1 j = M 1 j; rw [hc_93 j hj]; exact h2 j hj))⟩
      refine wp_ite (fun c44 => ?_) (fun c44 => ?_)
      · refine wp_ite (fun c50 => ?_) (fun c50 => ?_)
        · exact j85
        · refine wp_bind2 (o_X10_nightsGo M43 (nI 1) hst43 hG43) (fun M_6 he55 hq55 => ?_)
          obtain ⟨hg_M_6, hst_55⟩ := hq55
          replace hst_55 : ST (M_6 1) := hst_55
          have := t_lit 1
          replace hg_M_6 : ∀ a i, ¬ ((a = 0 ∧ i = 34) ∨ (a = 0 ∧ i = 35) ∨ a = 1 ∨ a = 17 ∨ a = 18) → M_6 a i = M43 a i := hg_M_6
          refine wp_gd (by omega) ?_
          refine wp_cb2 (o_X10_crossing M_6 (M_6 4 (ix v1))) (fun r_7 M_8 he69 hq69 => ?_)
          obtain ⟨hg_M_8, hE_69⟩ := hq69
          replace hE_69 : (21 ≤ (M_6 4 (ix v1)).toInt → r_7.toInt = 1) ∧ ((M_6 4 (ix v1)).toInt < 21 → Bend 40 (byB M_6 (nI 1) (M_6 4 (ix v1))) (cst M_6 (M_6 4 (ix v1))) (fun j => (M_8 23 j).toInt) ∧ Best (fun i => ¬ (M_8 23 i).toInt = -1 ∧ byB M_6 (nI 0) (M_6 4 (ix v1)) i) (fun i => (M_8 23 i).toInt) r_7.toInt 40) := hE_69
          replace hg_M_8 : ∀ a i, ¬ (a = 23 ∨ a = 25) → M_8 a i = M_6 a i := hg_M_8
          refine wp_ite (fun c73 => ?_) (fun c73 => ?_)
          · exact ih43 M_8 (y2_43 + (nI 1)) (nI 0) ⟨(by have f0 := t_lit 1; have f1 := t_add y2_43 (nI 1); omega), (fun a i q0 => ((hg_M_8 a i (fun z8 => q0 ((fun z9 => Or.elim z9 (fun h9 => Or.inr (Or.inr (Or.inr (Or.inr (Or.inr (Or.inl h9)))))) (fun h9 => Or.inr (Or.inr (Or.inr (Or.inr (Or.inr (Or.inr (h9)))))))) z8))).trans ((hg_M_6 a i (fun z8 => q0 ((fun z9 => Or.elim z9 (fun h9 => Or.inl h9) (fun z9 => Or.elim z9 (fun h9 => Or.inr (Or.inl h9)) (fun z9 => Or.elim z9 (fun h9 => Or.inr (Or.inr (Or.inl h9))) (fun z9 => Or.elim z9 (fun h9 => Or.inr (Or.inr (Or.inr (Or.inl h9)))) (fun h9 => Or.inr (Or.inr (Or.inr (Or.inr (Or.inl h9))))))))) z8))).trans ((hf_M43 a i (fun z8 => q0 ((fun z9 => Or.elim z9 (fun h9 => Or.inl h9) (fun z9 => Or.elim z9 (fun h9 => Or.inr (Or.inl h9)) (fun z9 => Or.elim z9 (fun h9 => Or.inr (Or.inr (Or.inl h9))) (fun z9 => Or.elim z9 (fun h9 => Or.inr (Or.inr (Or.inr (Or.inl h9)))) (fun z9 => Or.elim z9 (fun h9 => Or.inr (Or.inr (Or.inr (Or.inr (Or.inl h9))))) (fun z9 => Or.elim z9 (fun h9 => Or.inr (Or.inr (Or.inr (Or.inr (Or.inr (Or.inl h9)))))) (fun h9 => Or.inr (Or.inr (Or.inr (Or.inr (Or.inr (Or.inr (h9))))))))))))) z8))).trans rfl)))), (by rw [show M_8 1 = M_6 1 from funext (fun i => hg_M_8 1 i (by first | decide | (rcases hc0 with h | h <;> rw [h] <;> simp; done) | (rcases hb0 with h | h | h <;> rw [h] <;> simp; done) | (simp; done) | omega))]; exact hst_55), (fun j hj => by rw [hg_M_8 2 j (by first | decide | (rcases hc0 with h | h <;> rw [h] <;> simp; done) | (rcases hb0 with h | h | h <;> rw [h] <;> simp; done) | (simp; done) | omega), hg_M_6 2 j (by first | decide | (rcases hc0 with h | h <;> rw [h] <;> simp; done) | (rcases hb0 with h | h | h <;> rw [h] <;> simp; done) | (simp; done) | omega)]; exact h2 j hj)⟩ (by have f0 := t_lit 1; have f1 := t_add y2_43 (nI 1); omega)
          · exact ih43 M_8 (y2_43 + (nI 1)) (nI 1) ⟨(by have f0 := t_lit 1; have f1 := t_add y2_43 (nI 1); omega), (fun a i q0 => ((hg_M_8 a i (fun z8 => q0 ((fun z9 => Or.elim z9 (fun h9 => Or.inr (Or.inr (Or.inr (Or.inr (Or.inr (Or.inl h9)))))) (fun h9 => Or.inr (Or.inr (Or.inr (Or.inr (Or.inr (Or.inr (h9)))))))) z8))).trans ((hg_M_6 a i (fun z8 => q0 ((fun z9 => Or.elim z9 (fun h9 => Or.inl h9) (fun z9 => Or.elim z9 (fun h9 => Or.inr (Or.inl h9)) (fun z9 => Or.elim z9 (fun h9 => Or.inr (Or.inr (Or.inl h9))) (fun z9 => Or.elim z9 (fun h9 => Or.inr (Or.inr (Or.inr (Or.inl h9)))) (fun h9 => Or.inr (Or.inr (Or.inr (Or.inr (Or.inl h9))))))))) z8))).trans ((hf_M43 a i (fun z8 => q0 ((fun z9 => Or.elim z9 (fun h9 => Or.inl h9) (fun z9 => Or.elim z9 (fun h9 => Or.inr (Or.inl h9)) (fun z9 => Or.elim z9 (fun h9 => Or.inr (Or.inr (Or.inl h9))) (fun z9 => Or.elim z9 (fun h9 => Or.inr (Or.inr (Or.inr (Or.inl h9)))) (fun z9 => Or.elim z9 (fun h9 => Or.inr (Or.inr (Or.inr (Or.inr (Or.inl h9))))) (fun z9 => Or.elim z9 (fun h9 => Or.inr (Or.inr (Or.inr (Or.inr (Or.inr (Or.inl h9)))))) (fun h9 => Or.inr (Or.inr (Or.inr (Or.inr (Or.inr (Or.inr (h9))))))))))))) z8))).trans rfl)))), (by rw [show M_8 1 = M_6 1 from funext (fun i => hg_M_8 1 i (by first | decide | (rcases hc0 with h | h <;> rw [h] <;> simp; done) | (rcases hb0 with h | h | h <;> rw [h] <;> simp; done) | (simp; done) | omega))]; exact hst_55), (fun j hj => by rw [hg_M_8 2 j (by first | decide | (rcases hc0 with h | h <;> rw [h] <;> simp; done) | (rcases hb0 with h | h | h <;> rw [h] <;> simp; done) | (simp; done) | omega), hg_M_6 2 j (by first | decide | (rcases hc0 with h | h <;> rw [h] <;> simp; done) | (rcases hb0 with h | h | h <;> rw [h] <;> simp; done) | (simp; done) | omega)]; exact h2 j hj)⟩ (by have f0 := t_lit 1; have f1 := t_add y2_43 (nI 1); omega)
      · exact j85
    refine wp_ite (fun c34 => ?_) (fun c34 => ?_)
    · exact j42 (nI 0) b01_0
    · exact j42 (nI 1) b01_1
theorem o2_X10_key (M : Mem) (v1 : Int32) (v2 : Int32) (hst : ST (M 1)) : Wp (f_X10_key M v1 v2) (fun q => (∀ a i, ¬ (a = 1 ∨ a = 23 ∨ a = 25) → q.2 a i = M a i) ∧ (ST (q.2 1))) := by
  refine wp_bind2 (o_X10_isPerson M v1) (fun r_1 he2 hq2 => ?_)
  obtain ⟨hz_r_1, hr_2⟩ := hq2
  replace hr_2 : ¬ r_1.toInt = 0 → 0 ≤ v1.toInt ∧ v1.toInt < 8 := hr_2
  refine wp_ite (fun c5 => ?_) (fun c5 => ?_)
  · exact wp_some ⟨(fun _ _ _ => rfl), hst⟩
  · refine wp_bind2 (o_X10_in M v2 (nI 0) (nI 1)) (fun r_2 he11 hq11 => ?_)
    obtain ⟨hz_r_2, hr_11⟩ := hq11
    replace hr_11 : ¬ r_2.toInt = 0 → (nI 0).toInt ≤ v2.toInt ∧ v2.toInt ≤ (nI 1).toInt := hr_11
    have := t_lit 0
    have := t_lit 1
    refine wp_ite (fun c14 => ?_) (fun c14 => ?_)
    · exact wp_some ⟨(fun _ _ _ => rfl), hst⟩
    · refine wp_gd (by omega) ?_
      refine wp_bnd (fun x_3 ex_3 => ?_)
      refine wp_cb2 (o_X10_crossing M x_3) (fun r_4 M_5 he28 hq28 => ?_)
      obtain ⟨hg_M_5, hE_28⟩ := hq28
      replace hE_28 : (21 ≤ x_3.toInt → r_4.toInt = 1) ∧ (x_3.toInt < 21 → Bend 40 (byB M (nI 1) x_3) (cst M x_3) (fun j => (M_5 23 j).toInt) ∧ Best (fun i => ¬ (M_5 23 i).toInt = -1 ∧ byB M (nI 0) x_3 i) (fun i => (M_5 23 i).toInt) r_4.toInt 40) := hE_28
      replace hg_M_5 : ∀ a i, ¬ (a = 23 ∨ a = 25) → M_5 a i = M a i := hg_M_5
      refine wp_ite (fun c32 => ?_) (fun c32 => ?_)
      · exact wp_some ⟨(fun a i q0 => ((hg_M_5 a i (fun z8 => q0 ((fun z9 => Or.elim z9 (fun h9 => Or.inr (Or.inl h9)) (fun h9 => Or.inr (Or.inr (h9)))) z8))).trans rfl)), (by rw [show ((-3 : Int32), M_5).2 1 = M 1 from funext (fun i => hg_M_5 1 i (by first | decide | (rcases hc0 with h | h <;> rw [h] <;> simp; done) | (rcases hb0 with h | h | h <;> rw [h] <;> simp; done) | (simp; done) | omega))]; exact hst)⟩
      · refine wp_lp4 (fun M49 y4_49 y5_49 y6_49 => (y6_49.toInt ≤ 39) ∧ (∀ a i, ¬ (a = 1 ∨ a = 23 ∨ a = 25) → M49 a i = M_5 a i) ∧ (ST (M49 1))) (fun M49 y4_49 y5_49 y6_49 => (y6_49.toInt - 0 + 1).toNat) (fun ag49 M49 y4_49 y5_49 y6_49 hI49 ih49 => ?_) FU M_5 (nI 0) (-2) (nI 39) ⟨(by have f0 := t_lit 39; omega), (fun _ _ _ => rfl), (by rw [show M_5 1 = M 1 from funext (fun i => hg_M_5 1 i (by first | decide | (rcases hc0 with h | h <;> rw [h] <;> simp; done) | (rcases hb0 with h | h | h <;> rw [h] <;> simp; done) | (simp; done) | omega))]; exact hst)⟩ (fu_lt (by have f0 := t_lit 39; omega))
        obtain ⟨hi49, hf_M49, hst49⟩ := hI49
        have j130 : Wp (f_X10_key_L130 v2 M49 y4_49 y5_49) (fun q => (∀ a i, ¬ (a = 1 ∨ a = 23 ∨ a = 25) → q.2 a i = M a i) ∧ (ST (q.2 1))) := by
          unfold f_X10_key_L130
          refine wp_ite (fun c131 => ?_) (fun c131 => ?_)
          · exact wp_some ⟨(fun a i q0 => ((hf_M49 a i (fun z8 => q0 ((fun z9 => Or.elim z9 (fun h9 => Or.inl h9) (fun z9 => Or.elim z9 (fun h9 => Or.inr (Or.inl h9)) (fun h9 => Or.inr (Or.inr (h9))))) z8))).trans ((hg_M_5 a i (fun z8 => q0 ((fun z9 => Or.elim z9 (fun h9 => Or.inr (Or.inl h9)) (fun h9 => Or.inr (Or.inr (h9)))) z8))).trans rfl))), hst49⟩
          · exact wp_some ⟨(fun a i q0 => ((hf_M49 a i (fun z8 => q0 ((fun z9 => Or.elim z9 (fun h9 => Or.inl h9) (fun z9 => Or.elim z9 (fun h9 => Or.inr (Or.inl h9)) (fun h9 => Or.inr (Or.inr (h9))))) z8))).trans ((hg_M_5 a i (fun z8 => q0 ((fun z9 => Or.elim z9 (fun h9 => Or.inr (Or.inl h9)) (fun h9 => Or.inr (Or.inr (h9)))) z8))).trans rfl))), hst49⟩
        refine wp_ite (fun c51 => ?_) (fun c51 => ?_)
        · exact j130
        · refine wp_bind2 (o_X10_isDry M49 y6_49 (by omega)) (fun r_6 he57 hq57 => ?_)
          obtain ⟨hz_r_6, hr_57⟩ := hq57
          replace hr_57 : ¬ r_6.toInt = 0 → (M49 1 (ix y6_49)).toInt = 1 := hr_57
          refine wp_ite (fun c60 => ?_) (fun c60 => ?_)
          · exact ih49 M49 y4_49 y5_49 (y6_49 + (-1)) ⟨(by have f0 := (by decide : ((-1 : Int32)).toInt = -1); have f1 := t_add y6_49 (-1); omega), (fun a i q0 => ((hf_M49 a i (fun z8 => q0 ((fun z9 => Or.elim z9 (fun h9 => Or.inl h9) (fun z9 => Or.elim z9 (fun h9 => Or.inr (Or.inl h9)) (fun h9 => Or.inr (Or.inr (h9))))) z8))).trans rfl)), hst49⟩ (by have f0 := (by decide : ((-1 : Int32)).toInt = -1); have f1 := t_add y6_49 (-1); omega)
          · refine wp_gd (by have f0 := t_lit 160; have f1 := t_add (nI 160) y6_49; omega) ?_
            refine wp_bnd (fun M_7 eM_7 => ?_)
            have fy := t_ixn y6_49 (by omega)
            have x160 := ix_add (x := y6_49) (n := 160) (by omega) (by omega)
            refine wp_cb2 (o_X10_crossing M_7 x_3) (fun r_8 M_9 he80 hq80 => ?_)
            obtain ⟨hg_M_9, hE_80⟩ := hq80
            replace hE_80 : (21 ≤ x_3.toInt → r_8.toInt = 1) ∧ (x_3.toInt < 21 → Bend 40 (byB M_7 (nI 1) x_3) (cst M_7 x_3) (fun j => (M_9 23 j).toInt) ∧ Best (fun i => ¬ (M_9 23 i).toInt = -1 ∧ byB M_7 (nI 0) x_3 i) (fun i => (M_9 23 i).toInt) r_8.toInt 40) := hE_80
            replace hg_M_9 : ∀ a i, ¬ (a = 23 ∨ a = 25) → M_9 a i = M_7 a i := hg_M_9
            have j92 : ∀ (t0_92 : Int32), (t0_92 = 0 ∨ t0_92 = 1) → Wp (f_X10_key_L92 ag49 y4_49 y5_49 y6_49 M_9 t0_92) (fun q => (∀ a i, ¬ (a = 1 ∨ a = 23 ∨ a = 25) → q.2 a i = M a i) ∧ (ST (q.2 1))) := by
              intro t0_92 hb_t0_92
              unfold f_X10_key_L92
              refine wp_gd (by have f0 := t_lit 160; have f1 := t_add (nI 160) y6_49; omega) ?_
              refine wp_bnd (fun M_10 eM_10 => ?_)
              refine wp_ite (fun c108 => ?_) (fun c108 => ?_)
              · exact ih49 M_10 y4_49 y5_49 (y6_49 + (-1)) ⟨(by have f0 := (by decide : ((-1 : Int32)).toInt = -1); have f1 := t_add y6_49 (-1); omega), (fun a i q0 => ((congrFun (congrFun eM_10 a) i).trans ((mset_ne (fun h9 => q0 (Or.inl (h9).1))).trans ((hg_M_9 a i (fun z8 => q0 ((fun z9 => Or.elim z9 (fun h9 => Or.inr (Or.inl h9)) (fun h9 => Or.inr (Or.inr (h9)))) z8))).trans ((congrFun (congrFun eM_7 a) i).trans ((mset_ne (fun h9 => q0 (Or.inl (h9).1))).trans ((hf_M49 a i (fun z8 => q0 ((fun z9 => Or.elim z9 (fun h9 => Or.inl h9) (fun z9 => Or.elim z9 (fun h9 => Or.inr (Or.inl h9)) (fun h9 => Or.inr (Or.inr (h9))))) z8))).trans rfl))))))), (st_hi (i := ix y6_49) hst49 (fun j hj => by rw [eM_10, mset_ne (by first | exact nz1 (by decide) | exact nz2 (by decide) | exact nz1 (nzA hc0 (by decide)) | exact nz1 (nzE (by decide)) | exact nz1 (nzB hc0 (by decide)) | exact nz1 (nzC hc0 (by decide)) | exact nz1 (nzD hc0 (by decide)) | exact nz1 (nzF (by decide)) | exact nz1 (nzG (by decide)) | omega), hg_M_9 1 j (by first | decide | (rcases hc0 with h | h <;> rw [h] <;> simp; done) | (rcases hb0 with h | h | h <;> rw [h] <;> simp; done) | (simp; done) | omega), eM_7, mset_ne (by first | exact nz1 (by decide) | exact nz2 (by decide) | exact nz1 (nzA hc0 (by decide)) | exact nz1 (nzE (by decide)) | exact nz1 (nzB hc0 (by decide)) | exact nz1 (nzC hc0 (by decide)) | exact nz1 (nzD hc0 (by decide)) | exact nz1 (nzF (by decide)) | exact nz1 (nzG (by decide)) | omega)]))⟩ (by have f0 := (by decide : ((-1 : Int32)).toInt = -1); have f1 := t_add y6_49 (-1); omega)
              · exact ih49 M_10 (y4_49 + (nI 1)) y6_49 (y6_49 + (-1)) ⟨(by have f0 := (by decide : ((-1 : Int32)).toInt = -1); have f1 := t_add y6_49 (-1); omega), (fun a i q0 => ((congrFun (congrFun eM_10 a) i).trans ((mset_ne (fun h9 => q0 (Or.inl (h9).1))).trans ((hg_M_9 a i (fun z8 => q0 ((fun z9 => Or.elim z9 (fun h9 => Or.inr (Or.inl h9)) (fun h9 => Or.inr (Or.inr (h9)))) z8))).trans ((congrFun (congrFun eM_7 a) i).trans ((mset_ne (fun h9 => q0 (Or.inl (h9).1))).trans ((hf_M49 a i (fun z8 => q0 ((fun z9 => Or.elim z9 (fun h9 => Or.inl h9) (fun z9 => Or.elim z9 (fun h9 => Or.inr (Or.inl h9)) (fun h9 => Or.inr (Or.inr (h9))))) z8))).trans rfl))))))), (st_hi (i := ix y6_49) hst49 (fun j hj => by rw [eM_10, mset_ne (by first | exact nz1 (by decide) | exact nz2 (by decide) | exact nz1 (nzA hc0 (by decide)) | exact nz1 (nzE (by decide)) | exact nz1 (nzB hc0 (by decide)) | exact nz1 (nzC hc0 (by decide)) | exact nz1 (nzD hc0 (by decide)) | exact nz1 (nzF (by decide)) | exact nz1 (nzG (by decide)) | omega), hg_M_9 1 j (by first | decide | (rcases hc0 with h | h <;> rw [h] <;> simp; done) | (rcases hb0 with h | h | h <;> rw [h] <;> simp; done) | (simp; done) | omega), eM_7, mset_ne (by first | exact nz1 (by decide) | exact nz2 (by decide) | exact nz1 (nzA hc0 (by decide)) | exact nz1 (nzE (by decide)) | exact nz1 (nzB hc0 (by decide)) | exact nz1 (nzC hc0 (by decide)) | exact nz1 (nzD hc0 (by decide)) | exact nz1 (nzF (by decide)) | exact nz1 (nzG (by decide)) | omega)]))⟩ (by have f0 := (by decide : ((-1 : Int32)).toInt = -1); have f1 := t_add y6_49 (-1); omega)
            refine wp_ite (fun c84 => ?_) (fun c84 => ?_)
            · exact j92 (nI 1) b01_1
            · exact j92 (nI 0) b01_0
theorem o_X10_nights (M : Mem) (v1 : Int32) (hst : ST (M 1)) (hG : Gl M) : Wp (f_X10_nights M v1) (fun q => (∀ a i, ¬ ((a = 0 ∧ i = 34) ∨ (a = 0 ∧ i = 35) ∨ a = 1 ∨ a = 17 ∨ a = 18) → q.2 a i = M a i) ∧ (ST (q.2 1))) := by
  refine wp_bind2 (o_X10_in M v1 (nI 1) (nI 60)) (fun r_1 he4 hq4 => ?_)
  obtain ⟨hz_r_1, hr_4⟩ := hq4
  replace hr_4 : ¬ r_1.toInt = 0 → (nI 1).toInt ≤ v1.toInt ∧ v1.toInt ≤ (nI 60).toInt := hr_4
  have := t_lit 1
  have := t_lit 60
  refine wp_ite (fun c7 => ?_) (fun c7 => ?_)
  · exact wp_some ⟨(fun _ _ _ => rfl), hst⟩
  · refine wp_bind2 (o_X10_nightsGo M v1 hst hG) (fun M_2 he14 hq14 => ?_)
    obtain ⟨hg_M_2, hst_14⟩ := hq14
    replace hst_14 : ST (M_2 1) := hst_14
    replace hg_M_2 : ∀ a i, ¬ ((a = 0 ∧ i = 34) ∨ (a = 0 ∧ i = 35) ∨ a = 1 ∨ a = 17 ∨ a = 18) → M_2 a i = M a i := hg_M_2
    exact wp_some ⟨(fun a i q0 => ((hg_M_2 a i (fun z8 => q0 ((fun z9 => Or.elim z9 (fun h9 => Or.inl h9) (fun z9 => Or.elim z9 (fun h9 => Or.inr (Or.inl h9)) (fun z9 => Or.elim z9 (fun h9 => Or.inr (Or.inr (Or.inl h9))) (fun z9 => Or.elim z9 (fun h9 => Or.inr (Or.inr (Or.inr (Or.inl h9)))) (fun h9 => Or.inr (Or.inr (Or.inr (Or.inr (h9))))))))) z8))).trans rfl)), hst_14⟩
set_option maxHeartbeats 4000000 in
theorem o_X10_tried (M : Mem) (v1 : Int32) (v2 : Int32) (hst : ST (M 1)) (hG : Gl M) : Wp (f_X10_tried M v1 v2) (fun q => (∀ a i, ¬ ((a = 0 ∧ i = 34) ∨ (a = 0 ∧ i = 35) ∨ a = 1 ∨ a = 2 ∨ a = 17 ∨ a = 18) → q.2 a i = M a i) ∧ (ST (q.2 1))) := by
  refine wp_bind2 (o_X10_in M v1 (nI 1) (nI 60)) (fun r_1 he4 hq4 => ?_)
  obtain ⟨hz_r_1, hr_4⟩ := hq4
  replace hr_4 : ¬ r_1.toInt = 0 → (nI 1).toInt ≤ v1.toInt ∧ v1.toInt ≤ (nI 60).toInt := hr_4
  have := t_lit 1
  have := t_lit 60
  refine wp_ite (fun c7 => ?_) (fun c7 => ?_)
  · exact wp_some ⟨(fun _ _ _ => rfl), hst⟩
  · refine wp_bind2 (o_X10_in M v2 (nI 0) (nI 3)) (fun r_2 he13 hq13 => ?_)
    obtain ⟨hz_r_2, hr_13⟩ := hq13
    replace hr_13 : ¬ r_2.toInt = 0 → (nI 0).toInt ≤ v2.toInt ∧ v2.toInt ≤ (nI 3).toInt := hr_13
    have := t_lit 0
    have := t_lit 3
    have j46 : ((0 ≤ v2.toInt ∧ v2.toInt ≤ 3) ∨ (100 ≤ v2.toInt ∧ v2.toInt ≤ 139) ∨ (200 ≤ v2.toInt ∧ v2.toInt ≤ 239)) → Wp (f_X10_tried_L46 M v1 v2) (fun q => (∀ a i, ¬ ((a = 0 ∧ i = 34) ∨ (a = 0 ∧ i = 35) ∨ a = 1 ∨ a = 2 ∨ a = 17 ∨ a = 18) → q.2 a i = M a i) ∧ (ST (q.2 1))) := by
      intro h46
      unfold f_X10_tried_L46
      refine wp_bind2 (o_X10_sumOf M (nI 40) (by have f0 := t_lit 40; omega)) (fun r_3 he49 hq49 => ?_)
      refine wp_bind2 (o_X10_copies (by decide) (by decide) M (by omega) (by omega)) (fun M_4 he61 hq61 => ?_)
      obtain ⟨hg_M_4, hc_61⟩ := hq61
      replace hc_61 : ∀ j : Nat, j < 202 → M_4 2 j = M 1 j := hc_61
      replace hg_M_4 : ∀ a i, ¬ (a = 2) → M_4 a i = M a i := by exact fun a i q0 => hg_M_4 a i (by first | decide | (rcases hc0 with h | h <;> rw [h] <;> simp; done) | (rcases hb0 with h | h | h <;> rw [h] <;> simp; done) | (simp; done) | omega)
      have hG4 : Gl M_4 := (gl_ext hG (hg_M_4 0 15 (by first | decide | (rcases hc0 with h | h <;> rw [h] <;> simp; done) | (rcases hb0 with h | h | h <;> rw [h] <;> simp; done) | (simp; done) | omega)) (fun i => hg_M_4 12 i (by first | decide | (rcases hc0 with h | h <;> rw [h] <;> simp; done) | (rcases hb0 with h | h | h <;> rw [h] <;> simp; done) | (simp; done) | omega)) (fun i => hg_M_4 14 i (by first | decide | (rcases hc0 with h | h <;> rw [h] <;> simp; done) | (rcases hb0 with h | h | h <;> rw [h] <;> simp; done) | (simp; done) | omega)) (fun i => hg_M_4 15 i (by first | decide | (rcases hc0 with h | h <;> rw [h] <;> simp; done) | (rcases hb0 with h | h | h <;> rw [h] <;> simp; done) | (simp; done) | omega)) (fun i => hg_M_4 16 i (by first | decide | (rcases hc0 with h | h <;> rw [h] <;> simp; done) | (rcases hb0 with h | h | h <;> rw [h] <;> simp; done) | (simp; done) | omega)))
      have hst4 : ST (M_4 1) := by rw [show M_4 1 = M 1 from funext (fun i => hg_M_4 1 i (by first | decide | (rcases hc0 with h | h <;> rw [h] <;> simp; done) | (rcases hb0 with h | h | h <;> rw [h] <;> simp; done) | (simp; done) | omega))]; exact hst
      refine wp_bind2 (o_X10_nightsGo M_4 v1 hst4 hG4) (fun M_5 he66 hq66 => ?_)
      obtain ⟨hg_M_5, hst_66⟩ := hq66
      replace hst_66 : ST (M_5 1) := hst_66
      replace hg_M_5 : ∀ a i, ¬ ((a = 0 ∧ i = 34) ∨ (a = 0 ∧ i = 35) ∨ a = 1 ∨ a = 17 ∨ a = 18) → M_5 a i = M_4 a i := hg_M_5
      have j180 : ∀ (z4_180 : Int32), Wp (f_X10_tried_L180 M_5 z4_180) (fun q => (∀ a i, ¬ ((a = 0 ∧ i = 34) ∨ (a = 0 ∧ i = 35) ∨ a = 1 ∨ a = 2 ∨ a = 17 ∨ a = 18) → q.2 a i = M a i) ∧ (ST (q.2 1))) := by
        intro z4_180
        unfold f_X10_tried_L180
        refine wp_bind2 (o_X10_copies (by decide) (by decide) M_5 (by omega) (by omega)) (fun M_6 he188 hq188 => ?_)
        obtain ⟨hg_M_6, hc_188⟩ := hq188
        replace hc_188 : ∀ j : Nat, j < 202 → M_6 1 j = M_5 2 j := hc_188
        replace hg_M_6 : ∀ a i, ¬ (a = 1) → M_6 a i = M_5 a i := by exact fun a i q0 => hg_M_6 a i (by first | decide | (rcases hc0 with h | h <;> rw [h] <;> simp; done) | (rcases hb0 with h | h | h <;> rw [h] <;> simp; done) | (simp; done) | omega)
        exact wp_some ⟨(fun a i q0 => ((hg_M_6 a i (fun h9 => q0 (Or.inr (Or.inr (Or.inl h9))))).trans ((hg_M_5 a i (fun z8 => q0 ((fun z9 => Or.elim z9 (fun h9 => Or.inl h9) (fun z9 => Or.elim z9 (fun h9 => Or.inr (Or.inl h9)) (fun z9 => Or.elim z9 (fun h9 => Or.inr (Or.inr (Or.inl h9))) (fun z9 => Or.elim z9 (fun h9 => Or.inr (Or.inr (Or.inr (Or.inr (Or.inl h9))))) (fun h9 => Or.inr (Or.inr (Or.inr (Or.inr (Or.inr (h9)))))))))) z8))).trans ((hg_M_4 a i (fun h9 => q0 (Or.inr (Or.inr (Or.inr (Or.inl h9)))))).trans rfl)))), (st_copy hst (fun j hj => by show M_6 1 j = M 1 j; rw [hc_188 j hj, hg_M_5 2 j (by first | decide | (rcases hc0 with h | h <;> rw [h] <;> simp; done) | (rcases hb0 with h | h | h <;> rw [h] <;> simp; done) | (simp; done) | omega)]; exact hc_61 j hj))⟩
      refine wp_ite (fun c70 => ?_) (fun c70 => ?_)
      · refine wp_bnd (fun x_7 ex_7 => ?_)
        have hv_x_7 := congrArg Int32.toInt ex_7
        exact j180 x_7
      · refine wp_ite (fun c1 => ?_) (fun c1 => ?_)
        · refine wp_bnd (fun x_8 ex_8 => ?_)
          have hv_x_8 := congrArg Int32.toInt ex_8
          exact j180 x_8
        · refine wp_ite (fun c2 => ?_) (fun c2 => ?_)
          · refine wp_bind2 (o_X10_sumOf M_5 (nI 160) (by have f0 := t_lit 160; omega)) (fun r_9 he122 hq122 => ?_)
            exact j180 r_9
          · refine wp_ite (fun c3 => ?_) (fun c3 => ?_)
            · refine wp_bind2 (o_X10_sumOf M_5 (nI 40) (by have f0 := t_lit 40; omega)) (fun r_10 he133 hq133 => ?_)
              refine wp_bnd (fun x_11 ex_11 => ?_)
              exact j180 x_11
            · have j178 : ∀ (t0_178 : Int32), Wp (f_X10_tried_L178 M_5 t0_178) (fun q => (∀ a i, ¬ ((a = 0 ∧ i = 34) ∨ (a = 0 ∧ i = 35) ∨ a = 1 ∨ a = 2 ∨ a = 17 ∨ a = 18) → q.2 a i = M a i) ∧ (ST (q.2 1))) := by
                intro t0_178
                unfold f_X10_tried_L178
                exact j180 t0_178
              refine wp_ite (fun c147 => ?_) (fun c147 => ?_)
              · refine wp_gd (by have f0 := t_lit 80; have f1 := t_add (nI 80) v2; have f2 := t_lit 200; have f3 := t_sub ((nI 80) + v2) (nI 200); omega) ?_
                exact j178 (M_5 1 (ix (((nI 80) + v2) - (nI 200))))
              · refine wp_gd (by have f0 := t_lit 40; have f1 := t_add (nI 40) v2; have f2 := t_lit 100; have f3 := t_sub ((nI 40) + v2) (nI 100); omega) ?_
                exact j178 (M_5 1 (ix (((nI 40) + v2) - (nI 100))))
    refine wp_ite (fun c16 => ?_) (fun c16 => ?_)
    · refine wp_bind2 (o_X10_isStone M (v2 - (nI 100))) (fun r_12 he24 hq24 => ?_)
      obtain ⟨hz_r_12, hr_24⟩ := hq24
      replace hr_24 : ¬ r_12.toInt = 0 → (0 ≤ (v2 - (nI 100)).toInt ∧ (v2 - (nI 100)).toInt < 40) ∧ (M 1 (ix (v2 - (nI 100)))).toInt = 1 := hr_24
      refine wp_ite (fun c27 => ?_) (fun c27 => ?_)
      · refine wp_bind2 (o_X10_isStone M (v2 - (nI 200))) (fun r_13 he36 hq36 => ?_)
        obtain ⟨hz_r_13, hr_36⟩ := hq36
        replace hr_36 : ¬ r_13.toInt = 0 → (0 ≤ (v2 - (nI 200)).toInt ∧ (v2 - (nI 200)).toInt < 40) ∧ (M 1 (ix (v2 - (nI 200)))).toInt = 1 := hr_36
        refine wp_ite (fun c39 => ?_) (fun c39 => ?_)
        · exact wp_some ⟨(fun _ _ _ => rfl), hst⟩
        · have hs := (hr_36 c39).1
          have f1 := t_sub v2 (nI 200)
          have f2 := t_lit 200
          exact j46 (by omega)
      · have hs := (hr_24 c27).1
        have f1 := t_sub v2 (nI 100)
        have f2 := t_lit 100
        exact j46 (by omega)
    · exact j46 (by omega)
