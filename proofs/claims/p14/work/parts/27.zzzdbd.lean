theorem od_X9_driest (M : Mem) (v1 : Int32) (v2 : Int32) (hGd : GdF (FdC M 1)) (hSr : SrC M) : Wp (f_X9_driest M v1 v2) (fun q => (∀ a i, ¬ (a = 28 ∨ a = 29) → q.2 a i = M a i) ∧ (PqP (TpC M v1 ∧ (0 ≤ v2.toInt ∧ v2.toInt ≤ 1)) (DrP (FdC M 1) (M 43 (ix v1)).toInt v2.toInt q.1.toInt) q.1)) := by
  refine wp_bind2 (oq_X9_strideOf M v1) (fun r_1 he2 hq2 => ?_)
  obtain ⟨hi_2, hv_2⟩ := hq2
  replace hi_2 : ¬ r_1.toInt = 0 ↔ TpC M v1 := hi_2
  replace hv_2 : ¬ r_1.toInt = 0 → r_1 = M 43 (ix v1) := hv_2
  refine wp_ite (fun c7 => ?_) (fun c7 => ?_)
  · exact wp_some ⟨(fun _ _ _ => rfl), (pq_n (fun z => hi_2.mpr z.1 c7) rfl)⟩
  · have ht := hi_2.mp c7
    have es := hv_2 c7
    have sr := hSr (ix v1) (ix8 ht.1) ht.2
    refine wp_bind2 (o3_X9_isEither M v2) (fun r_2 he11 hq11 => ?_)
    obtain ⟨hz_r_2, hr_11⟩ := hq11
    replace hr_11 : ¬ r_2.toInt = 0 ↔ 0 ≤ v2.toInt ∧ v2.toInt ≤ 1 := hr_11
    refine wp_ite (fun c14 => ?_) (fun c14 => ?_)
    · exact wp_some ⟨(fun _ _ _ => rfl), (pq_n (fun z => hr_11.mpr z.2 c14) rfl)⟩
    · refine wp_cb2 (od_X8_driestWay (Or.inl rfl) M r_1 v2 hGd (by rw [es]; exact sr)) (fun r_3 M_4 he29 hq29 => ?_)
      obtain ⟨hg_M_4, hdr_29⟩ := hq29
      replace hdr_29 : DrP (FdC M 1) r_1.toInt v2.toInt r_3.toInt := hdr_29
      replace hg_M_4 : ∀ a i, ¬ (a = 28 ∨ a = 29) → M_4 a i = M a i := by exact fun a i q0 => hg_M_4 a i (by first | decide | (rcases hc0 with h | h <;> rw [h] <;> simp; done) | (rcases hb0 with h | h | h <;> rw [h] <;> simp; done) | (simp; done) | omega)
      rw [es] at hdr_29
      exact wp_some ⟨(fun a i q0 => ((hg_M_4 a i (fun z8 => q0 ((fun z9 => Or.elim z9 (fun h9 => Or.inl h9) (fun h9 => Or.inr (h9))) z8))).trans rfl)), (pq_y ⟨ht, hr_11.mp c14⟩ hdr_29)⟩
