set_option maxHeartbeats 2000000 in
theorem od_X8_cheapest (M : Mem) : Wp (f_X8_cheapest M) (fun q => (ChP (M 28) (M 29) q)) := by
  refine wp_lp2 (fun y1_4 y2_4 => (0 ≤ y2_4.toInt) ∧ (ChI (M 28) (M 29) (ix y2_4) y1_4) ∧ (y2_4.toInt ≤ 42)) (fun y1_4 y2_4 => (42 - y2_4.toInt).toNat) (fun ag4 y1_4 y2_4 hI4 ih4 => ?_) FU (-1) (nI 0) ⟨(by have f0 := t_lit 0; omega), (by rw [show ix (nI 0) = 0 from (by decide)]; exact ch_0), (by decide)⟩ (fu_lt (by have f0 := t_lit 0; omega))
  obtain ⟨hi4, hch, y42⟩ := hI4
  refine wp_ite (fun c7 => ?_) (fun c7 => ?_)
  · exact wp_some (ch_e hch (by have z := t_ixn y2_4 (by omega); omega))
  · have u := i_up (x := y2_4) (by omega)
    have i2 := t_ixn y2_4 (by omega)
    refine wp_gd (by omega) ?_
    refine wp_ite (fun c16 => ?_) (fun c16 => ?_)
    · refine wp_gd (by omega) ?_
      refine wp_ite (fun c26 => ?_) (fun c26 => ?_)
      · exact ih4 y1_4 (y2_4 + (nI 1)) ⟨(by have f0 := t_lit 1; have f1 := t_add y2_4 (nI 1); omega), (by rw [u.1]; exact ch_n hch (fun _ => c26)), (by rw [u.2]; omega)⟩ (by have f0 := t_lit 1; have f1 := t_add y2_4 (nI 1); omega)
      · refine wp_ite (fun c31 => ?_) (fun c31 => ?_)
        · exact ih4 y2_4 (y2_4 + (nI 1)) ⟨(by have f0 := t_lit 1; have f1 := t_add y2_4 (nI 1); omega), (by rw [u.1]; exact ch_m hch (by omega) c16 c26 (Or.inl c31)), (by rw [u.2]; omega)⟩ (by have f0 := t_lit 1; have f1 := t_add y2_4 (nI 1); omega)
        · have yb := ch_b hch c31
          refine wp_gd (by omega) ?_
          refine wp_gd (by omega) ?_
          refine wp_ite (fun c46 => ?_) (fun c46 => ?_)
          · exact ih4 y1_4 (y2_4 + (nI 1)) ⟨(by have f0 := t_lit 1; have f1 := t_add y2_4 (nI 1); omega), (by rw [u.1]; exact ch_k hch c31 c46), (by rw [u.2]; omega)⟩ (by have f0 := t_lit 1; have f1 := t_add y2_4 (nI 1); omega)
          · exact ih4 y2_4 (y2_4 + (nI 1)) ⟨(by have f0 := t_lit 1; have f1 := t_add y2_4 (nI 1); omega), (by rw [u.1]; exact ch_m hch (by omega) c16 c26 (Or.inr c46)), (by rw [u.2]; omega)⟩ (by have f0 := t_lit 1; have f1 := t_add y2_4 (nI 1); omega)
    · exact ih4 y1_4 (y2_4 + (nI 1)) ⟨(by have f0 := t_lit 1; have f1 := t_add y2_4 (nI 1); omega), (by rw [u.1]; exact ch_n hch (fun z => absurd z c16)), (by rw [u.2]; omega)⟩ (by have f0 := t_lit 1; have f1 := t_add y2_4 (nI 1); omega)
