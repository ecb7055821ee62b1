theorem oh_X9_hold (M : Mem) (v1 : Int32) (hGd : GdF (FdC M 1)) (hSr : SrC M) : Wp (f_X9_hold M v1) (fun q => (∀ a i, ¬ ((a = 30 ∧ i = 3) ∨ a = 31 ∨ a = 32 ∨ a = 33) → q.2 a i = M a i) ∧ (PqP (TpC M v1) (HoV (FdC M 1) (M 43 (ix v1)).toInt q.1.toInt) q.1)) := by
  refine wp_bind2 (oq_X9_strideOf M v1) (fun r_1 he2 hq2 => ?_)
  obtain ⟨hi_2, hv_2⟩ := hq2
  replace hi_2 : ¬ r_1.toInt = 0 ↔ TpC M v1 := hi_2
  replace hv_2 : ¬ r_1.toInt = 0 → r_1 = M 43 (ix v1) := hv_2
  refine wp_ite (fun c7 => ?_) (fun c7 => ?_)
  · exact wp_some ⟨(fun _ _ _ => rfl), (pq_n (fun z => hi_2.mpr z c7) rfl)⟩
  · have ht := hi_2.mp c7
    have es := hv_2 c7
    have sr := hSr (ix v1) (ix8 ht.1) ht.2
    rw [← es] at sr
    refine wp_ite (fun c15 => ?_) (fun c15 => ?_)
    · refine wp_cb2 (oh_X1_fewest (Or.inl rfl) M r_1 hGd sr) (fun r_2 M_3 he32 hq32 => ?_)
      obtain ⟨hg_M_3, hfw_32⟩ := hq32
      replace hfw_32 : McP (cpG (FdC M 1) r_1.toInt) r_2.toInt := hfw_32
      replace hg_M_3 : ∀ a i, ¬ ((a = 30 ∧ i = 3) ∨ a = 31 ∨ a = 32 ∨ a = 33) → M_3 a i = M a i := by exact fun a i q0 => hg_M_3 a i (by first | decide | (rcases hc0 with h | h <;> rw [h] <;> simp; done) | (rcases hb0 with h | h | h <;> rw [h] <;> simp; done) | (simp; done) | omega)
      exact wp_some ⟨(fun a i q0 => ((hg_M_3 a i (fun z8 => q0 ((fun z9 => Or.elim z9 (fun h9 => Or.inl h9) (fun z9 => Or.elim z9 (fun h9 => Or.inr (Or.inl h9)) (fun z9 => Or.elim z9 (fun h9 => Or.inr (Or.inr (Or.inl h9))) (fun h9 => Or.inr (Or.inr (Or.inr (h9))))))) z8))).trans rfl)), (pq_y ht (Or.inr ⟨by rw [← es]; exact c15, by rw [← es]; exact hfw_32⟩))⟩
    · exact wp_some ⟨(fun _ _ _ => rfl), (pq_y ht (Or.inl ⟨by rw [← es]; omega, (show (-2 : Int32).toInt = -2 by decide)⟩))⟩
