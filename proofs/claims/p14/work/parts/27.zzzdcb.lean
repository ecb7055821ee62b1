theorem od_X10_driest (M : Mem) (v1 : Int32) (v2 : Int32) (hGd : GdF (FdR M 1)) (hSr : SrR M) : Wp (f_X10_driest M v1 v2) (fun q => (∀ a i, ¬ (a = 27) → q.2 a i = M a i) ∧ (PqP (TpR M v1 ∧ (0 ≤ v2.toInt ∧ v2.toInt ≤ 1)) (DrP (FdR M 1) (M 4 (ix v1)).toInt v2.toInt q.1.toInt) q.1)) := by
  refine wp_bind2 (oq_X10_isPerson M v1) (fun r_1 he2 hq2 => ?_)
  obtain ⟨hz_r_1, hr_2, hi_2⟩ := hq2
  replace hr_2 : ¬ r_1.toInt = 0 → 0 ≤ v1.toInt ∧ v1.toInt < 8 := hr_2
  replace hi_2 : ¬ r_1.toInt = 0 ↔ TpR M v1 := hi_2
  refine wp_ite (fun c5 => ?_) (fun c5 => ?_)
  · exact wp_some ⟨(fun _ _ _ => rfl), (pq_n (fun z => hi_2.mpr z.1 c5) rfl)⟩
  · have ht := hi_2.mp c5
    have sr := hSr v1 ht
    refine wp_bind2 (o2_X10_in M v2 (nI 0) (nI 1)) (fun r_2 he11 hq11 => ?_)
    obtain ⟨hz_r_2, hr_11, hi_11⟩ := hq11
    replace hr_11 : ¬ r_2.toInt = 0 → (nI 0).toInt ≤ v2.toInt ∧ v2.toInt ≤ (nI 1).toInt := hr_11
    have := t_lit 0
    have := t_lit 1
    replace hi_11 : ¬ r_2.toInt = 0 ↔ (nI 0).toInt ≤ v2.toInt ∧ v2.toInt ≤ (nI 1).toInt := hi_11
    have := t_lit 0
    have := t_lit 1
    refine wp_ite (fun c14 => ?_) (fun c14 => ?_)
    · exact wp_some ⟨(fun _ _ _ => rfl), (pq_n (fun z => hi_11.mpr (by have q := z.2; have q0 := nI0; have q1 := nI1; omega) c14) rfl)⟩
    · refine wp_gd (by omega) ?_
      refine wp_cb2 (od_X10_dryCost M (M 4 (ix v1)) hGd sr) (fun r_3 M_4 he26 hq26 => ?_)
      obtain ⟨hg_M_4, hdc_26⟩ := hq26
      replace hdc_26 : (r_3.toInt < 1000000 → LcD (FdR M 1) (M 4 (ix v1)).toInt 41 r_3.toInt ∧ 0 ≤ r_3.toInt) ∧ (¬ r_3.toInt < 1000000 → ∀ k d, RcN (FdR M 1) (M 4 (ix v1)).toInt k 41 d → 1000000 ≤ d) := hdc_26
      replace hg_M_4 : ∀ a i, ¬ (a = 27) → M_4 a i = M a i := hg_M_4
      refine wp_ite (fun c34 => ?_) (fun c34 => ?_)
      · refine wp_ite (fun c41 => ?_) (fun c41 => ?_)
        · exact wp_some ⟨(fun a i q0 => ((hg_M_4 a i (fun h9 => q0 (h9))).trans rfl)), (pq_y ⟨ht, by have q := hi_11.mp c14; have q0 := nI0; have q1 := nI1; omega⟩ (dr_v ⟨(hdc_26.1 c34).1, (hdc_26.1 c34).2, c34⟩ (if_pos c41).symm))⟩
        · exact wp_some ⟨(fun a i q0 => ((hg_M_4 a i (fun h9 => q0 (h9))).trans rfl)), (pq_y ⟨ht, by have q := hi_11.mp c14; have q0 := nI0; have q1 := nI1; omega⟩ (dr_v ⟨(hdc_26.1 c34).1, (hdc_26.1 c34).2, c34⟩ (if_neg c41).symm))⟩
      · exact wp_some ⟨(fun a i q0 => ((hg_M_4 a i (fun h9 => q0 (h9))).trans rfl)), (pq_y ⟨ht, by have q := hi_11.mp c14; have q0 := nI0; have q1 := nI1; omega⟩ (Or.inr ⟨hdc_26.2 c34, (show (-2 : Int32).toInt = -2 by decide)⟩))⟩
