set_option maxHeartbeats 4000000 in
theorem oh_X10_hold (M : Mem) (v1 : Int32) (hGd : GdF (FdR M 1)) (hSr : SrR M) : Wp (f_X10_hold M v1) (fun q => (∀ a i, ¬ (a = 28 ∨ a = 29 ∨ a = 30) → q.2 a i = M a i) ∧ (PqP (TpR M v1) (HoV (FdR M 1) (M 4 (ix v1)).toInt q.1.toInt) q.1)) := by
  refine wp_bind2 (oq_X10_isPerson M v1) (fun r_1 he2 hq2 => ?_)
  obtain ⟨hz_r_1, hr_2, hi_2⟩ := hq2
  replace hr_2 : ¬ r_1.toInt = 0 → 0 ≤ v1.toInt ∧ v1.toInt < 8 := hr_2
  replace hi_2 : ¬ r_1.toInt = 0 ↔ TpR M v1 := hi_2
  refine wp_ite (fun c5 => ?_) (fun c5 => ?_)
  · exact wp_some ⟨(fun _ _ _ => rfl), (pq_n (fun z => hi_2.mpr z c5) rfl)⟩
  · have ht := hi_2.mp c5
    have sr := hSr v1 ht
    refine wp_gd (by omega) ?_
    refine wp_ite (fun c18 => ?_) (fun c18 => ?_)
    · refine wp_gd (by omega) ?_
      refine wp_bind2 (oh_X10_laysRoom M (M 4 (ix v1)) hGd (by omega)) (fun M_2 he31 hq31 => ?_)
      obtain ⟨hg_M_2, hR_31, hrm_31⟩ := hq31
      replace hR_31 : R01 M_2 := hR_31
      replace hrm_31 : RmP (FdR M 1) (M 4 (ix v1)).toInt M_2 := hrm_31
      replace hg_M_2 : ∀ a i, ¬ (a = 28) → M_2 a i = M a i := hg_M_2
      refine wp_lp2 (fun M36 y2_36 => (∀ a i, ¬ (a = 28 ∨ a = 29 ∨ a = 30) → M36 a i = M_2 a i) ∧ (Q80 M36) ∧ (FlR (cpG (FdR M 1) (M 4 (ix v1)).toInt) M36 y2_36.toInt ∧ R02 M36)) (fun M36 y2_36 => sumN (fun j => M36 28 (6560 + j)) 82) (fun ag36 M36 y2_36 hI36 ih36 => ?_) FU M_2 (nI 0) ⟨(fun _ _ _ => rfl), (q80_of hR_31), (by rw [nI0]; exact fr_0 hrm_31)⟩ (fu_lt ((by have h9 := zsum_le (f := (fun j => M_2 28 (6560 + j))) (n := 82) (fun j hj => by have := q80_of hR_31 j hj; omega); omega)))
      obtain ⟨hf_M36, h36, hfl⟩ := hI36
      have le9 := fr_le hfl.1 hfl.2 (fun u v => cp_b.2)
      refine wp_cb2 (oh_X10_goesAcross M36 h36 hfl.2) (fun r_3 M_4 he37 hq37 => ?_)
      obtain ⟨hz_r_3, hg_M_4, hQ_37, hS_37, hr2_37, hac_37⟩ := hq37
      replace hQ_37 : Q80 M_4 := hQ_37
      replace hS_37 : ¬ r_3.toInt = 0 → sumN (fun j => M_4 28 (6560 + j)) 82 < sumN (fun j => M36 28 (6560 + j)) 82 := hS_37
      replace hr2_37 : R02 M_4 := hr2_37
      replace hac_37 : AcP M36 M_4 r_3 := hac_37
      replace hg_M_4 : ∀ a i, ¬ (a = 28 ∨ a = 29 ∨ a = 30) → M_4 a i = M36 a i := hg_M_4
      refine wp_ite (fun c40 => ?_) (fun c40 => ?_)
      · exact wp_some ⟨(fun a i q0 => ((hg_M_4 a i (fun z8 => q0 ((fun z9 => Or.elim z9 (fun h9 => Or.inl h9) (fun z9 => Or.elim z9 (fun h9 => Or.inr (Or.inl h9)) (fun h9 => Or.inr (Or.inr (h9))))) z8))).trans ((hf_M36 a i (fun z8 => q0 ((fun z9 => Or.elim z9 (fun h9 => Or.inl h9) (fun z9 => Or.elim z9 (fun h9 => Or.inr (Or.inl h9)) (fun h9 => Or.inr (Or.inr (h9))))) z8))).trans ((hg_M_2 a i (fun h9 => q0 (Or.inl h9))).trans rfl)))), (pq_y (hi_2.mp c5) (Or.inr ⟨c18, (hac_37 _ _ hfl.1).1 c40⟩))⟩
      · exact ih36 M_4 (y2_36 + (nI 1)) ⟨(fun a i q0 => ((hg_M_4 a i (fun z8 => q0 ((fun z9 => Or.elim z9 (fun h9 => Or.inl h9) (fun z9 => Or.elim z9 (fun h9 => Or.inr (Or.inl h9)) (fun h9 => Or.inr (Or.inr (h9))))) z8))).trans ((hf_M36 a i (fun z8 => q0 ((fun z9 => Or.elim z9 (fun h9 => Or.inl h9) (fun z9 => Or.elim z9 (fun h9 => Or.inr (Or.inl h9)) (fun h9 => Or.inr (Or.inr (h9))))) z8))).trans rfl))), hQ_37, (by rw [t_inc y2_36 1 (by omega)]; exact ⟨(hac_37 _ _ hfl.1).2 c40, hr2_37⟩)⟩ (hS_37 c40)
    · exact wp_some ⟨(fun _ _ _ => rfl), (pq_y (hi_2.mp c5) (Or.inl ⟨by omega, (show (-2 : Int32).toInt = -2 by decide)⟩))⟩
