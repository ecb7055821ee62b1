set_option maxHeartbeats 4000000 in
theorem ot_X9_thrown (M : Mem) (v1 : Int32) (hGd : GdF (FdC M 1)) : Wp (f_X9_thrown M v1) (fun q => (ThQ (FdC M 1) v1.toInt q.toInt)) := by
  refine wp_ite (fun c2 => ?_) (fun c2 => ?_)
  · exact wp_some (Or.inl ⟨by omega, (show (-1 : Int32).toInt = -1 by decide)⟩)
  · refine wp_ite (fun c8 => ?_) (fun c8 => ?_)
    · refine wp_bind2 (ot_X2_nextDry (Or.inl rfl) M (nI 0) (nI 0) ⟨rfl, by decide, by decide⟩) (fun r_1 he18 hq18 => ?_)
      have hnd_18 := hq18
      replace hnd_18 : NdP (dryG (FdC M 1)) (nI 0) r_1 := hnd_18
      have := t_lit 0
      have ft1 := t_rng v1
      refine wp_lp2 (fun y3_27 y4_27 => (1 ≤ y4_27.toInt) ∧ (TlI (dryG (FdC M 1)) (ix y4_27) r_1 y3_27) ∧ (1 ≤ y4_27.toInt ∧ y4_27.toInt ≤ v1.toInt)) (fun y3_27 y4_27 => (v1.toInt - y4_27.toInt).toNat) (fun ag27 y3_27 y4_27 hI27 ih27 => ?_) FU r_1 (nI 1) ⟨(by have f0 := t_lit 1; omega), (by rw [show ix (nI 1) = 1 from (by decide)]; exact tl_1 hnd_18), (by rw [nI1]; omega)⟩ (fu_lt (by have f0 := t_lit 1; omega))
      obtain ⟨hi27, htl, y6⟩ := hI27
      have j55 : (TlI (dryG (FdC M 1)) v1.toInt.toNat r_1 y3_27) → Wp (f_X9_thrown_L55 M v1 r_1 y3_27) (fun q => (ThQ (FdC M 1) v1.toInt q.toInt)) := by
        intro h55
        unfold f_X9_thrown_L55
        refine wp_ite (fun c57 => ?_) (fun c57 => ?_)
        · exact wp_some (Or.inr ⟨by omega, Or.inr ⟨(h55.resolve_right (fun z => absurd z.1.1 (by rw [c57]; decide))).2, (show (-2 : Int32).toInt = -2 by decide)⟩⟩)
        · obtain ⟨yb, w9, h91, h92, h93, h94⟩ := h55.resolve_left (fun z => c57 z.1)
          have f5 := t_sub v1 (nI 1)
          have f1 := nI1
          have d5 : (v1 - nI 1).toInt = v1.toInt - 1 := by omega
          have i3 := t_ixn y3_27 yb.1
          have L40 : ix y3_27 + 1 ≤ 40 := by omega
          have L16 : 1 ≤ v1.toInt.toNat ∧ v1.toInt.toNat ≤ 6 := by omega
          have LD : (v1 - nI 1).toInt = ((v1.toInt.toNat : Nat) : Int) - 1 := by omega
          have L05 : 0 ≤ (v1 - nI 1).toInt ∧ (v1 - nI 1).toInt ≤ 5 := by omega
          have hf9 : r_1 = nI (w9 0) := (nI_ixx h94).symm.trans (congrArg nI h92.symm)
          have hl9 : y3_27 = nI (w9 (v1.toInt.toNat - 1)) := (nI_ixx yb.1).symm.trans (congrArg nI h93.symm)
          have hth9 : ThS (FdC M 1) w9 v1.toInt.toNat (fun _ => 0) 1 r_1 (lshl 1 r_1) y3_27 (v1 - nI 1) := th_0 h91 L40 L16 hf9 hl9 LD
          refine wp_bind2 (otg_throws7 (Or.inl rfl) M r_1 (lshl 1 r_1) y3_27 (v1 - (nI 1)) w9 v1.toInt.toNat (fun _ => 0) 1 hGd hth9 L05) (fun r_2 he75 hq75 => ?_)
          have hq_75 := hq75
          replace hq_75 : LeE (FdC M 1) w9 v1.toInt.toNat (fun _ => 0) 1 r_2.toInt := hq_75
          exact wp_some (Or.inr ⟨by omega, Or.inl ⟨w9, _, by omega, h91, hq_75⟩⟩)
      refine wp_ite (fun c30 => ?_) (fun c30 => ?_)
      · exact j55 (tl_e htl (show ix y4_27 ≤ v1.toInt.toNat by have z := t_ixn y4_27 (by omega); omega) (Or.inl (show ix y4_27 = v1.toInt.toNat by have z := t_ixn y4_27 (by omega); omega)))
      · refine wp_ite (fun c35 => ?_) (fun c35 => ?_)
        · exact j55 (tl_e htl (show ix y4_27 ≤ v1.toInt.toNat by have z := t_ixn y4_27 (by omega); omega) (Or.inr c35))
        · have u := i_up (x := y4_27) (by omega)
          have yb := (htl.resolve_left (fun z => c35 z.1)).1
          have uy := i_up (x := y3_27) (by omega)
          have i4 := t_ixn y4_27 (by omega)
          refine wp_bind2 (ot_X2_nextDry (Or.inl rfl) M (y3_27 + (nI 1)) (y3_27 + nI 1) ⟨rfl, by rw [uy.2]; omega, by rw [uy.2]; omega⟩) (fun r_3 he45 hq45 => ?_)
          have hnd_45 := hq45
          replace hnd_45 : NdP (dryG (FdC M 1)) (y3_27 + nI 1) r_3 := hnd_45
          exact ih27 r_3 (y4_27 + (nI 1)) ⟨(by have f0 := t_lit 1; have f1 := t_add y4_27 (nI 1); omega), (by rw [u.1]; exact tl_s htl (by omega) c35 hnd_45), (by rw [u.2]; omega)⟩ (by have f0 := t_lit 1; have f1 := t_add y4_27 (nI 1); omega)
    · exact wp_some (Or.inl ⟨by omega, (show (-1 : Int32).toInt = -1 by decide)⟩)
