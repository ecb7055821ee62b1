theorem on_X2_lay {b : Nat} (hb : isF b) (M : Mem) (v1 v2 v3 v4 v5 : Int32) : Wp (f_X2_lay b M v1 v2 v3 v4 v5) (fun q => (∀ a i, ¬ (a = (b + 1) ∨ a = (b + 2) ∨ a = (b + 3) ∨ a = (b + 4) ∨ a = (b + 5)) → q a i = M a i) ∧ (0 ≤ v1.toInt → v1.toInt < 40 → q (b + 1) (ix v1) = v2 ∧ q (b + 2) (ix v1) = v3 ∧ ¬ (q (b + 4) (ix v1)).toInt = 0 ∧ q (b + 3) (ix v1) = v4 ∧ q (b + 5) (ix v1) = vp_nar .boolean v5 ∧ ∀ j : Nat, ¬ j = ix v1 → q (b + 1) j = M (b + 1) j ∧ q (b + 2) j = M (b + 2) j ∧ q (b + 4) j = M (b + 4) j) ∧ (0 ≤ v1.toInt → v1.toInt < 40 → FdC q b = lyF (FdC M b) (ix v1) v2 v3 v4 (vp_nar .boolean v5))) := wp_mono (wp_and (o5_X2_lay hb M v1 v2 v3 v4 v5) (o8_X2_lay hb M v1 v2 v3 v4 v5)) (fun q h => ⟨h.1.1, h.1.2, h.2.2⟩)
set_option maxHeartbeats 8000000 in
theorem on_X9_readLine {b : Nat} (hb : isF b) (M : Mem) (v2 : Int32) (T : Int → Int) (hT : TXc M = T) (hp : 0 ≤ (M 19 3).toInt ∧ (M 19 3).toInt ≤ (M 19 2).toInt ∧ (M 19 2).toInt ≤ 240) (hv2 : 0 ≤ v2.toInt ∧ v2.toInt < 40) (hto : ∀ j : Nat, j < 40 → ((M (b + 4) j).toInt = 0 ↔ v2.toInt ≤ (j : Int))) : Wp (f_X9_readLine b M v2) (fun q => (q.1 = 0 ∨ q.1 = 1) ∧ (∀ a i, ¬ ((a = 19 ∧ i = 3) ∨ (a = 19 ∧ i = 4) ∨ a = (b + 1) ∨ a = (b + 2) ∨ a = (b + 3) ∨ a = (b + 4) ∨ a = (b + 5)) → q.2 a i = M a i) ∧ (LinP (lineS T (M 19 3).toInt (fun j => (M (b + 1) j).toInt) (fun j => (M (b + 2) j).toInt) (ix v2)) q.1.toInt (q.2 19 4).toInt (q.2 19 3).toInt (q.2 (b + 1) (ix v2)).toInt (q.2 (b + 2) (ix v2)).toInt (q.2 (b + 3) (ix v2)).toInt (q.2 (b + 5) (ix v2)).toInt (M 19 3).toInt (M 19 2).toInt) ∧ (¬ q.1.toInt = 0 → (∀ j : Nat, ¬ j = ix v2 → q.2 (b + 1) j = M (b + 1) j ∧ q.2 (b + 2) j = M (b + 2) j ∧ q.2 (b + 4) j = M (b + 4) j) ∧ ¬ (q.2 (b + 4) (ix v2)).toInt = 0) ∧ (¬ q.1.toInt = 0 → FdC q.2 b = lyF (FdC M b) (ix v2) (q.2 (b + 1) (ix v2)) (q.2 (b + 2) (ix v2)) (q.2 (b + 3) (ix v2)) (q.2 (b + 5) (ix v2)))) := by
  have hb0 : b = 1 ∨ b = 7 ∨ b = 13 := hb
  have fv2 := t_ixn v2 (by omega)
  refine wp_bnd (fun x_1 ex_1 => ?_)
  have hv_x_1 := congrArg Int32.toInt ex_1
  refine wp_cb2 (o5_X7_number M (nI 2) T hT (by decide) hp) (fun r_2 M_3 he7 hq7 => ?_)
  obtain ⟨hg_M_3, hn_7⟩ := hq7
  replace hn_7 : NumP (numS T (M 19 3).toInt (ix (nI 2))) r_2.toInt (M_3 19 4).toInt (M_3 19 3).toInt (M 19 3).toInt (M 19 2).toInt := hn_7
  have := t_lit 2
  replace hg_M_3 : ∀ a i, ¬ ((a = 19 ∧ i = 3) ∨ (a = 19 ∧ i = 4)) → M_3 a i = M a i := hg_M_3
  rw [show ix (nI 2) = 2 from (by decide)] at hn_7
  have e32 := congrArg Int32.toInt (hg_M_3 19 2 (by omega))
  refine wp_ite (fun c15 => ?_) (fun c15 => ?_)
  · exact wp_some ⟨b01_0, (fun a i q0 => ((hg_M_3 a i (fun z8 => q0 ((fun z9 => Or.elim z9 (fun h9 => Or.inl h9) (fun h9 => Or.inr (Or.inl h9))) z8))).trans rfl)), (by show LinP (lineS T (M 19 3).toInt (fun j => (M (b + 1) j).toInt) (fun j => (M (b + 2) j).toInt) (ix v2)) (nI 0).toInt (M_3 19 4).toInt (M_3 19 3).toInt (M_3 (b + 1) (ix v2)).toInt (M_3 (b + 2) (ix v2)).toInt (M_3 (b + 3) (ix v2)).toInt (M_3 (b + 5) (ix v2)).toInt (M 19 3).toInt (M 19 2).toInt; rw [lineS_f (numP_f hn_7 c15)]; exact ⟨nI0, rfl⟩), (fun z => absurd nI0 z), (fun z => absurd nI0 z)⟩
  · obtain ⟨n1, n2, n3, n4, n5⟩ := numP_v hn_7 c15
    refine wp_ite (fun c24 => ?_) (fun c24 => ?_)
    · refine wp_cb2 (o5_X7_skip M_3 (nI 44) T ((txc_fr ((hg_M_3 19 2 (by omega)).trans rfl) (fun j => ((hg_M_3 20 j (by omega)).trans rfl))).trans hT) (by rw [show M_3 19 2 = M 19 2 from ((hg_M_3 19 2 (by omega)).trans rfl)]; omega) (by decide)) (fun r_4 M_5 he37 hq37 => ?_)
      obtain ⟨hz_r_4, hg_M_5, hs_37⟩ := hq37
      replace hs_37 : SkpP (T (M_3 19 3).toInt) (nI 44).toInt r_4.toInt (M_3 19 3).toInt (M_5 19 3).toInt (M_3 19 2).toInt (M_5 19 4).toInt := hs_37
      have := t_lit 44
      replace hg_M_5 : ∀ a i, ¬ ((a = 19 ∧ i = 3) ∨ (a = 19 ∧ i = 4)) → M_5 a i = M_3 a i := hg_M_5
      have e52 := congrArg Int32.toInt (hg_M_5 19 2 (by omega))
      refine wp_ite (fun c40 => ?_) (fun c40 => ?_)
      · exact wp_some ⟨b01_0, (fun a i q0 => ((hg_M_5 a i (fun z8 => q0 ((fun z9 => Or.elim z9 (fun h9 => Or.inl h9) (fun h9 => Or.inr (Or.inl h9))) z8))).trans ((hg_M_3 a i (fun z8 => q0 ((fun z9 => Or.elim z9 (fun h9 => Or.inl h9) (fun h9 => Or.inr (Or.inl h9))) z8))).trans rfl))), (by show LinP (lineS T (M 19 3).toInt (fun j => (M (b + 1) j).toInt) (fun j => (M (b + 2) j).toInt) (ix v2)) (nI 0).toInt (M_5 19 4).toInt (M_5 19 3).toInt (M_5 (b + 1) (ix v2)).toInt (M_5 (b + 2) (ix v2)).toInt (M_5 (b + 3) (ix v2)).toInt (M_5 (b + 5) (ix v2)).toInt (M 19 3).toInt (M 19 2).toInt; rw [lineS_v n1, lineX_1 (by omega) (by have z := (skp_n hs_37 c40).1; have := t_lit 44; omega)]; exact ⟨nI0, (skp_n hs_37 c40).2⟩), (fun z => absurd nI0 z), (fun z => absurd nI0 z)⟩
      · have s37 := skp_y hs_37 c40
        have f44 := t_lit 44
        have e44 : T (M_3 19 3).toInt = 44 := by omega
        have e5 : (M_3 19 3).toInt + 1 = (M_5 19 3).toInt := by omega
        refine wp_bnd (fun x_6 ex_6 => ?_)
        have hv_x_6 := congrArg Int32.toInt ex_6
        refine wp_cb2 (o5_X7_number M_5 (nI 2) T ((txc_fr ((hg_M_5 19 2 (by omega)).trans ((hg_M_3 19 2 (by omega)).trans rfl)) (fun j => ((hg_M_5 20 j (by omega)).trans ((hg_M_3 20 j (by omega)).trans rfl)))).trans hT) (by decide) (by rw [show M_5 19 2 = M 19 2 from ((hg_M_5 19 2 (by omega)).trans ((hg_M_3 19 2 (by omega)).trans rfl))]; omega)) (fun r_7 M_8 he53 hq53 => ?_)
        obtain ⟨hg_M_8, hn_53⟩ := hq53
        replace hn_53 : NumP (numS T (M_5 19 3).toInt (ix (nI 2))) r_7.toInt (M_8 19 4).toInt (M_8 19 3).toInt (M_5 19 3).toInt (M_5 19 2).toInt := hn_53
        have := t_lit 2
        replace hg_M_8 : ∀ a i, ¬ ((a = 19 ∧ i = 3) ∨ (a = 19 ∧ i = 4)) → M_8 a i = M_5 a i := hg_M_8
        rw [show ix (nI 2) = 2 from (by decide)] at hn_53
        have e82 := congrArg Int32.toInt (hg_M_8 19 2 (by omega))
        refine wp_ite (fun c61 => ?_) (fun c61 => ?_)
        · exact wp_some ⟨b01_0, (fun a i q0 => ((hg_M_8 a i (fun z8 => q0 ((fun z9 => Or.elim z9 (fun h9 => Or.inl h9) (fun h9 => Or.inr (Or.inl h9))) z8))).trans ((hg_M_5 a i (fun z8 => q0 ((fun z9 => Or.elim z9 (fun h9 => Or.inl h9) (fun h9 => Or.inr (Or.inl h9))) z8))).trans ((hg_M_3 a i (fun z8 => q0 ((fun z9 => Or.elim z9 (fun h9 => Or.inl h9) (fun h9 => Or.inr (Or.inl h9))) z8))).trans rfl)))), (by show LinP (lineS T (M 19 3).toInt (fun j => (M (b + 1) j).toInt) (fun j => (M (b + 2) j).toInt) (ix v2)) (nI 0).toInt (M_8 19 4).toInt (M_8 19 3).toInt (M_8 (b + 1) (ix v2)).toInt (M_8 (b + 2) (ix v2)).toInt (M_8 (b + 3) (ix v2)).toInt (M_8 (b + 5) (ix v2)).toInt (M 19 3).toInt (M 19 2).toInt; rw [lineS_v n1, lineX_v (by omega) e44, e5, lineY_f (numP_f hn_53 c61)]; exact ⟨nI0, rfl⟩), (fun z => absurd nI0 z), (fun z => absurd nI0 z)⟩
        · obtain ⟨m1, m2, m3, m4, m5⟩ := numP_v hn_53 c61
          obtain ⟨q8, eq8⟩ : ∃ q : Int, (M_8 19 3).toInt = q := ⟨_, rfl⟩
          have j79 : (¬ (1 ≤ r_7.toInt ∧ r_7.toInt ≤ 20)) → Wp (f_X9_readLine_L79 x_6 M_8) (fun q => (q.1 = 0 ∨ q.1 = 1) ∧ (∀ a i, ¬ ((a = 19 ∧ i = 3) ∨ (a = 19 ∧ i = 4) ∨ a = (b + 1) ∨ a = (b + 2) ∨ a = (b + 3) ∨ a = (b + 4) ∨ a = (b + 5)) → q.2 a i = M a i) ∧ (LinP (lineS T (M 19 3).toInt (fun j => (M (b + 1) j).toInt) (fun j => (M (b + 2) j).toInt) (ix v2)) q.1.toInt (q.2 19 4).toInt (q.2 19 3).toInt (q.2 (b + 1) (ix v2)).toInt (q.2 (b + 2) (ix v2)).toInt (q.2 (b + 3) (ix v2)).toInt (q.2 (b + 5) (ix v2)).toInt (M 19 3).toInt (M 19 2).toInt) ∧ (¬ q.1.toInt = 0 → (∀ j : Nat, ¬ j = ix v2 → q.2 (b + 1) j = M (b + 1) j ∧ q.2 (b + 2) j = M (b + 2) j ∧ q.2 (b + 4) j = M (b + 4) j) ∧ ¬ (q.2 (b + 4) (ix v2)).toInt = 0) ∧ (¬ q.1.toInt = 0 → FdC q.2 b = lyF (FdC M b) (ix v2) (q.2 (b + 1) (ix v2)) (q.2 (b + 2) (ix v2)) (q.2 (b + 3) (ix v2)) (q.2 (b + 5) (ix v2)))) := by
            intro h79
            unfold f_X9_readLine_L79
            refine wp_cb2 (o5_X7_refuse M_8 (nI 3) x_6) (fun r_9 M_10 he83 hq83 => ?_)
            obtain ⟨hz_r_9, hg_M_10, hw_83, hq_83⟩ := hq83
            replace hw_83 : r_9.toInt = 0 := hw_83
            have := t_lit 3
            replace hq_83 : 0 ≤ (nI 3).toInt → (nI 3).toInt ≤ 9 → 0 ≤ x_6.toInt → x_6.toInt ≤ 1000 → (M_10 19 4).toInt = -1000 * (nI 3).toInt - x_6.toInt := hq_83
            have := t_lit 3
            replace hg_M_10 : ∀ a i, ¬ ((a = 19 ∧ i = 4)) → M_10 a i = M_8 a i := hg_M_10
            refine wp_gb hz_r_9 ?_
            exact wp_some ⟨hz_r_9, (fun a i q0 => ((hg_M_10 a i (fun h9 => q0 (Or.inr (Or.inl h9)))).trans ((hg_M_8 a i (fun z8 => q0 ((fun z9 => Or.elim z9 (fun h9 => Or.inl h9) (fun h9 => Or.inr (Or.inl h9))) z8))).trans ((hg_M_5 a i (fun z8 => q0 ((fun z9 => Or.elim z9 (fun h9 => Or.inl h9) (fun h9 => Or.inr (Or.inl h9))) z8))).trans ((hg_M_3 a i (fun z8 => q0 ((fun z9 => Or.elim z9 (fun h9 => Or.inl h9) (fun h9 => Or.inr (Or.inl h9))) z8))).trans rfl))))), (by show LinP (lineS T (M 19 3).toInt (fun j => (M (b + 1) j).toInt) (fun j => (M (b + 2) j).toInt) (ix v2)) r_9.toInt (M_10 19 4).toInt (M_10 19 3).toInt (M_10 (b + 1) (ix v2)).toInt (M_10 (b + 2) (ix v2)).toInt (M_10 (b + 3) (ix v2)).toInt (M_10 (b + 5) (ix v2)).toInt (M 19 3).toInt (M 19 2).toInt; rw [lineS_v n1, lineX_v (by omega) e44, e5, lineY_3 m1 h79]; exact ⟨hw_83, by rw [hq_83 (by decide) (by decide) (by omega) (by omega)]; have := t_lit 3; omega⟩), (fun z => absurd hw_83 z), (fun z => absurd hw_83 z)⟩
          refine wp_ite (fun c69 => ?_) (fun c69 => ?_)
          · exact j79 (by omega)
          · refine wp_ite (fun c76 => ?_) (fun c76 => ?_)
            · refine wp_bind2 (o5_X2_stoneAt hb M_8 r_2 r_7) (fun r_11 he92 hq92 => ?_)
              have hsa_92 := hq92
              replace hsa_92 : StA (M_8 (b + 1)) (M_8 (b + 2)) (M_8 (b + 4)) r_2.toInt r_7.toInt r_11.toInt := hsa_92
              have e8b1 : ∀ j, M_8 (b + 1) j = M (b + 1) j := fun j => by rw [hg_M_8 _ _ (by omega), hg_M_5 _ _ (by omega), hg_M_3 _ _ (by omega)]
              have e8b2 : ∀ j, M_8 (b + 2) j = M (b + 2) j := fun j => by rw [hg_M_8 _ _ (by omega), hg_M_5 _ _ (by omega), hg_M_3 _ _ (by omega)]
              have e8b4 : ∀ j, M_8 (b + 4) j = M (b + 4) j := fun j => by rw [hg_M_8 _ _ (by omega), hg_M_5 _ _ (by omega), hg_M_3 _ _ (by omega)]
              refine wp_ite (fun c96 => ?_) (fun c96 => ?_)
              · have hdup : dupS (fun j => (M (b + 1) j).toInt) (fun j => (M (b + 2) j).toInt) r_2.toInt r_7.toInt (ix v2) = false := dup_f _ (fun j hj => by
                  have z := sta_n hsa_92 c96 j (by omega)
                  rw [e8b4, e8b1, e8b2] at z
                  exact z (fun q => absurd ((hto j (by omega)).mp q) (by omega)))
                refine wp_bind2 (o5_X7_here M_8 T ((txc_fr ((hg_M_8 19 2 (by omega)).trans ((hg_M_5 19 2 (by omega)).trans ((hg_M_3 19 2 (by omega)).trans rfl))) (fun j => ((hg_M_8 20 j (by omega)).trans ((hg_M_5 20 j (by omega)).trans ((hg_M_3 20 j (by omega)).trans rfl))))).trans hT) (by rw [show M_8 19 2 = M 19 2 from ((hg_M_8 19 2 (by omega)).trans ((hg_M_5 19 2 (by omega)).trans ((hg_M_3 19 2 (by omega)).trans rfl)))]; omega)) (fun r_12 he111 hq111 => ?_)
                have hh_111 := hq111
                replace hh_111 : r_12.toInt = T (M_8 19 3).toInt := hh_111
                have j168 : ∀ (N168 : Mem), ∀ (z7_168 : Int32), (∀ a i, ¬ ((a = 19 ∧ i = 3)) → N168 a i = M_8 a i) → (q8 ≤ (N168 19 3).toInt ∧ (N168 19 3).toInt ≤ (M 19 2).toInt) → (TailP T q8 (N168 19 3).toInt z7_168.toInt) → Wp (f_X9_readLine_L168 b v2 r_2 r_7 N168 z7_168) (fun q => (q.1 = 0 ∨ q.1 = 1) ∧ (∀ a i, ¬ ((a = 19 ∧ i = 3) ∨ (a = 19 ∧ i = 4) ∨ a = (b + 1) ∨ a = (b + 2) ∨ a = (b + 3) ∨ a = (b + 4) ∨ a = (b + 5)) → q.2 a i = M a i) ∧ (LinP (lineS T (M 19 3).toInt (fun j => (M (b + 1) j).toInt) (fun j => (M (b + 2) j).toInt) (ix v2)) q.1.toInt (q.2 19 4).toInt (q.2 19 3).toInt (q.2 (b + 1) (ix v2)).toInt (q.2 (b + 2) (ix v2)).toInt (q.2 (b + 3) (ix v2)).toInt (q.2 (b + 5) (ix v2)).toInt (M 19 3).toInt (M 19 2).toInt) ∧ (¬ q.1.toInt = 0 → (∀ j : Nat, ¬ j = ix v2 → q.2 (b + 1) j = M (b + 1) j ∧ q.2 (b + 2) j = M (b + 2) j ∧ q.2 (b + 4) j = M (b + 4) j) ∧ ¬ (q.2 (b + 4) (ix v2)).toInt = 0) ∧ (¬ q.1.toInt = 0 → FdC q.2 b = lyF (FdC M b) (ix v2) (q.2 (b + 1) (ix v2)) (q.2 (b + 2) (ix v2)) (q.2 (b + 3) (ix v2)) (q.2 (b + 5) (ix v2)))) := by
                  intro N168 z7_168 hf_N168 h168 t168
                  unfold f_X9_readLine_L168
                  have hT168 : TXc N168 = T := (txc_fr (by rw [hf_N168 19 2 (by omega), hg_M_8 19 2 (by omega), hg_M_5 19 2 (by omega), hg_M_3 19 2 (by omega)]) (fun j => by rw [hf_N168 20 j (by omega), hg_M_8 20 j (by omega), hg_M_5 20 j (by omega), hg_M_3 20 j (by omega)])).trans hT
                  have e1682 : (N168 19 2).toInt = (M 19 2).toInt := by rw [hf_N168 19 2 (by omega), hg_M_8 19 2 (by omega), hg_M_5 19 2 (by omega), hg_M_3 19 2 (by omega)]
                  refine wp_bind2 (o5_X7_here N168 T ((txc_fr ((hf_N168 19 2 (by omega)).trans ((hg_M_8 19 2 (by omega)).trans ((hg_M_5 19 2 (by omega)).trans ((hg_M_3 19 2 (by omega)).trans rfl)))) (fun j => ((hf_N168 20 j (by omega)).trans ((hg_M_8 20 j (by omega)).trans ((hg_M_5 20 j (by omega)).trans ((hg_M_3 20 j (by omega)).trans rfl)))))).trans hT) (by rw [show N168 19 2 = M 19 2 from ((hf_N168 19 2 (by omega)).trans ((hg_M_8 19 2 (by omega)).trans ((hg_M_5 19 2 (by omega)).trans ((hg_M_3 19 2 (by omega)).trans rfl))))]; omega)) (fun r_13 he169 hq169 => ?_)
                  have hh_169 := hq169
                  replace hh_169 : r_13.toInt = T (N168 19 3).toInt := hh_169
                  have j182 : ∀ (t0_182 : Int32), (t0_182 = 0 ∨ t0_182 = 1) → (UndB T (N168 19 3).toInt t0_182.toInt) → Wp (f_X9_readLine_L182 b v2 r_2 r_7 N168 z7_168 t0_182) (fun q => (q.1 = 0 ∨ q.1 = 1) ∧ (∀ a i, ¬ ((a = 19 ∧ i = 3) ∨ (a = 19 ∧ i = 4) ∨ a = (b + 1) ∨ a = (b + 2) ∨ a = (b + 3) ∨ a = (b + 4) ∨ a = (b + 5)) → q.2 a i = M a i) ∧ (LinP (lineS T (M 19 3).toInt (fun j => (M (b + 1) j).toInt) (fun j => (M (b + 2) j).toInt) (ix v2)) q.1.toInt (q.2 19 4).toInt (q.2 19 3).toInt (q.2 (b + 1) (ix v2)).toInt (q.2 (b + 2) (ix v2)).toInt (q.2 (b + 3) (ix v2)).toInt (q.2 (b + 5) (ix v2)).toInt (M 19 3).toInt (M 19 2).toInt) ∧ (¬ q.1.toInt = 0 → (∀ j : Nat, ¬ j = ix v2 → q.2 (b + 1) j = M (b + 1) j ∧ q.2 (b + 2) j = M (b + 2) j ∧ q.2 (b + 4) j = M (b + 4) j) ∧ ¬ (q.2 (b + 4) (ix v2)).toInt = 0) ∧ (¬ q.1.toInt = 0 → FdC q.2 b = lyF (FdC M b) (ix v2) (q.2 (b + 1) (ix v2)) (q.2 (b + 2) (ix v2)) (q.2 (b + 3) (ix v2)) (q.2 (b + 5) (ix v2)))) := by
                    intro t0_182 hb_t0_182 h182
                    unfold f_X9_readLine_L182
                    have j199 : ∀ (N199 : Mem), (∀ a i, ¬ ((a = 19 ∧ i = 3)) → N199 a i = N168 a i) → ((N168 19 3).toInt ≤ (N199 19 3).toInt ∧ (N199 19 3).toInt ≤ (M 19 2).toInt) → (UndP T (N168 19 3).toInt t0_182.toInt (N199 19 3).toInt) → Wp (f_X9_readLine_L199 b v2 r_2 r_7 z7_168 t0_182 N199) (fun q => (q.1 = 0 ∨ q.1 = 1) ∧ (∀ a i, ¬ ((a = 19 ∧ i = 3) ∨ (a = 19 ∧ i = 4) ∨ a = (b + 1) ∨ a = (b + 2) ∨ a = (b + 3) ∨ a = (b + 4) ∨ a = (b + 5)) → q.2 a i = M a i) ∧ (LinP (lineS T (M 19 3).toInt (fun j => (M (b + 1) j).toInt) (fun j => (M (b + 2) j).toInt) (ix v2)) q.1.toInt (q.2 19 4).toInt (q.2 19 3).toInt (q.2 (b + 1) (ix v2)).toInt (q.2 (b + 2) (ix v2)).toInt (q.2 (b + 3) (ix v2)).toInt (q.2 (b + 5) (ix v2)).toInt (M 19 3).toInt (M 19 2).toInt) ∧ (¬ q.1.toInt = 0 → (∀ j : Nat, ¬ j = ix v2 → q.2 (b + 1) j = M (b + 1) j ∧ q.2 (b + 2) j = M (b + 2) j ∧ q.2 (b + 4) j = M (b + 4) j) ∧ ¬ (q.2 (b + 4) (ix v2)).toInt = 0) ∧ (¬ q.1.toInt = 0 → FdC q.2 b = lyF (FdC M b) (ix v2) (q.2 (b + 1) (ix v2)) (q.2 (b + 2) (ix v2)) (q.2 (b + 3) (ix v2)) (q.2 (b + 5) (ix v2)))) := by
                      intro N199 hf_N199 h199 t199
                      unfold f_X9_readLine_L199
                      refine wp_bind2 (on_X2_lay hb N199 v2 r_2 r_7 z7_168 t0_182) (fun M_14 he209 hq209 => ?_)
                      obtain ⟨hg_M_14, hly_209, hl8_209⟩ := hq209
                      replace hly_209 : 0 ≤ v2.toInt → v2.toInt < 40 → M_14 (b + 1) (ix v2) = r_2 ∧ M_14 (b + 2) (ix v2) = r_7 ∧ ¬ (M_14 (b + 4) (ix v2)).toInt = 0 ∧ M_14 (b + 3) (ix v2) = z7_168 ∧ M_14 (b + 5) (ix v2) = vp_nar .boolean t0_182 ∧ ∀ j : Nat, ¬ j = ix v2 → M_14 (b + 1) j = N199 (b + 1) j ∧ M_14 (b + 2) j = N199 (b + 2) j ∧ M_14 (b + 4) j = N199 (b + 4) j := hly_209
                      replace hl8_209 : 0 ≤ v2.toInt → v2.toInt < 40 → FdC M_14 b = lyF (FdC N199 b) (ix v2) r_2 r_7 z7_168 (vp_nar .boolean t0_182) := hl8_209
                      replace hg_M_14 : ∀ a i, ¬ (a = (b + 1) ∨ a = (b + 2) ∨ a = (b + 3) ∨ a = (b + 4) ∨ a = (b + 5)) → M_14 a i = N199 a i := by exact fun a i q0 => hg_M_14 a i (by omega)
                      obtain ⟨l1, l2, l3, l5, l6, l4⟩ := hly_209 (by omega) (by omega)
                      have hu01 : (vp_nar .boolean t0_182).toInt = t0_182.toInt := nar_b (b01_to hb_t0_182)
                      exact wp_some ⟨b01_1, (fun a i q0 => ((hg_M_14 a i (fun z8 => q0 ((fun z9 => Or.elim z9 (fun h9 => Or.inr (Or.inr (Or.inl h9))) (fun z9 => Or.elim z9 (fun h9 => Or.inr (Or.inr (Or.inr (Or.inl h9)))) (fun z9 => Or.elim z9 (fun h9 => Or.inr (Or.inr (Or.inr (Or.inr (Or.inl h9))))) (fun z9 => Or.elim z9 (fun h9 => Or.inr (Or.inr (Or.inr (Or.inr (Or.inr (Or.inl h9)))))) (fun h9 => Or.inr (Or.inr (Or.inr (Or.inr (Or.inr (Or.inr (h9))))))))))) z8))).trans ((hf_N199 a i (fun h9 => q0 (Or.inl h9))).trans ((hf_N168 a i (fun h9 => q0 (Or.inl h9))).trans ((hg_M_8 a i (fun z8 => q0 ((fun z9 => Or.elim z9 (fun h9 => Or.inl h9) (fun h9 => Or.inr (Or.inl h9))) z8))).trans ((hg_M_5 a i (fun z8 => q0 ((fun z9 => Or.elim z9 (fun h9 => Or.inl h9) (fun h9 => Or.inr (Or.inl h9))) z8))).trans ((hg_M_3 a i (fun z8 => q0 ((fun z9 => Or.elim z9 (fun h9 => Or.inl h9) (fun h9 => Or.inr (Or.inl h9))) z8))).trans rfl))))))), (by show LinP (lineS T (M 19 3).toInt (fun j => (M (b + 1) j).toInt) (fun j => (M (b + 2) j).toInt) (ix v2)) (nI 1).toInt (M_14 19 4).toInt (M_14 19 3).toInt (M_14 (b + 1) (ix v2)).toInt (M_14 (b + 2) (ix v2)).toInt (M_14 (b + 3) (ix v2)).toInt (M_14 (b + 5) (ix v2)).toInt (M 19 3).toInt (M 19 2).toInt; rw [lineS_v n1, lineX_v (by omega) e44, e5, lineY_v m1 (by omega) hdup, eq8, tail_is t168 t199]; exact ⟨ne1, congrArg Int32.toInt l1, congrArg Int32.toInt l2, congrArg Int32.toInt l5, by rw [l6]; exact hu01, congrArg Int32.toInt (hg_M_14 19 3 (by omega)), by show (M 19 3).toInt < (N199 19 3).toInt; omega, by show (N199 19 3).toInt ≤ (M 19 2).toInt; omega⟩), (fun _ => by show (∀ j : Nat, ¬ j = ix v2 → M_14 (b + 1) j = M (b + 1) j ∧ M_14 (b + 2) j = M (b + 2) j ∧ M_14 (b + 4) j = M (b + 4) j) ∧ ¬ (M_14 (b + 4) (ix v2)).toInt = 0; exact ⟨fun j hj => by rw [(l4 j hj).1, (l4 j hj).2.1, (l4 j hj).2.2]; exact ⟨((hf_N199 (b + 1) j (by omega)).trans ((hf_N168 (b + 1) j (by omega)).trans ((hg_M_8 (b + 1) j (by omega)).trans ((hg_M_5 (b + 1) j (by omega)).trans ((hg_M_3 (b + 1) j (by omega)).trans rfl))))), ((hf_N199 (b + 2) j (by omega)).trans ((hf_N168 (b + 2) j (by omega)).trans ((hg_M_8 (b + 2) j (by omega)).trans ((hg_M_5 (b + 2) j (by omega)).trans ((hg_M_3 (b + 2) j (by omega)).trans rfl))))), ((hf_N199 (b + 4) j (by omega)).trans ((hf_N168 (b + 4) j (by omega)).trans ((hg_M_8 (b + 4) j (by omega)).trans ((hg_M_5 (b + 4) j (by omega)).trans ((hg_M_3 (b + 4) j (by omega)).trans rfl)))))⟩, l3⟩), (fun _ => by show FdC M_14 b = lyF (FdC M b) (ix v2) (M_14 (b + 1) (ix v2)) (M_14 (b + 2) (ix v2)) (M_14 (b + 3) (ix v2)) (M_14 (b + 5) (ix v2)); rw [l1, l2, l5, l6, hl8_209 (by omega) (by omega), show FdC N199 b = FdC M b from (fdc_fr (fun a i h1 h2 => ((hf_N199 a i (by omega)).trans ((hf_N168 a i (by omega)).trans ((hg_M_8 a i (by omega)).trans ((hg_M_5 a i (by omega)).trans ((hg_M_3 a i (by omega)).trans rfl)))))))])⟩
                    refine wp_ite (fun c186 => ?_) (fun c186 => ?_)
                    · exact j199 N168 (fun _ _ _ => rfl) (by omega) (Or.inr ⟨c186, und_0 h182 c186, rfl⟩)
                    · refine wp_bnd (fun M_15 eM_15 => ?_)
                      have u182 := und_1 h182 c186
                      have in15 := tx_in hT168 (p := (N168 19 3).toInt) (by rw [u182.2]; decide)
                      have m15 : (M_15 19 3).toInt = (N168 19 3).toInt + 1 := by rw [eM_15, mset_eq]; exact (i_up (by omega)).2
                      exact j199 M_15 (fun a i q0 => ((congrFun (congrFun eM_15 a) i).trans ((mset_ne (fun h9 => q0 (h9))).trans rfl))) (by omega) (Or.inl ⟨u182.1, u182.2, m15⟩)
                  refine wp_ite (fun c174 => ?_) (fun c174 => ?_)
                  · exact j182 (nI 1) b01_1 (Or.inl ⟨nI1, by rw [← hh_169]; exact c174⟩)
                  · exact j182 (nI 0) b01_0 (Or.inr ⟨nI0, by rw [← hh_169]; exact c174⟩)
                refine wp_ite (fun c116 => ?_) (fun c116 => ?_)
                · refine wp_bnd (fun M_16 eM_16 => ?_)
                  have hin := tx_in hT (p := (M_8 19 3).toInt) (by rw [← hh_111]; omega)
                  have h16 : (M_16 19 3).toInt = q8 + 1 := by rw [eM_16, mset_eq, ← eq8]; exact (i_up (by omega)).2
                  have e162 : (M_16 19 2).toInt = (M_8 19 2).toInt := by rw [eM_16, mset_ne (by omega)]
                  refine wp_bind2 (o5_X7_here M_16 T ((txc_fr ((congrFun (congrFun eM_16 19) 2).trans ((mset_ne (by omega)).trans ((hg_M_8 19 2 (by omega)).trans ((hg_M_5 19 2 (by omega)).trans ((hg_M_3 19 2 (by omega)).trans rfl))))) (fun j => ((congrFun (congrFun eM_16 20) j).trans ((mset_ne (by omega)).trans ((hg_M_8 20 j (by omega)).trans ((hg_M_5 20 j (by omega)).trans ((hg_M_3 20 j (by omega)).trans rfl))))))).trans hT) (by rw [show M_16 19 2 = M 19 2 from ((congrFun (congrFun eM_16 19) 2).trans ((mset_ne (by omega)).trans ((hg_M_8 19 2 (by omega)).trans ((hg_M_5 19 2 (by omega)).trans ((hg_M_3 19 2 (by omega)).trans rfl)))))]; omega)) (fun r_17 he130 hq130 => ?_)
                  have hh_130 := hq130
                  replace hh_130 : r_17.toInt = T (M_16 19 3).toInt := hh_130
                  refine wp_bind2 (o5_X7_isDigit M_16 r_17) (fun r_18 he133 hq133 => ?_)
                  obtain ⟨hz_r_18, hd_133⟩ := hq133
                  replace hd_133 : ¬ r_18.toInt = 0 ↔ dgt r_17.toInt = true := hd_133
                  refine wp_ite (fun c136 => ?_) (fun c136 => ?_)
                  · refine wp_cb2 (o5_X7_refuse M_16 (nI 1) (M_16 19 3)) (fun r_21 M_22 he145 hq145 => ?_)
                    obtain ⟨hz_r_21, hg_M_22, hw_145, hq_145⟩ := hq145
                    replace hw_145 : r_21.toInt = 0 := hw_145
                    have := t_lit 1
                    replace hq_145 : 0 ≤ (nI 1).toInt → (nI 1).toInt ≤ 9 → 0 ≤ (M_16 19 3).toInt → (M_16 19 3).toInt ≤ 1000 → (M_22 19 4).toInt = -1000 * (nI 1).toInt - (M_16 19 3).toInt := hq_145
                    have := t_lit 1
                    replace hg_M_22 : ∀ a i, ¬ ((a = 19 ∧ i = 4)) → M_22 a i = M_16 a i := hg_M_22
                    refine wp_gb hz_r_21 ?_
                    exact wp_some ⟨hz_r_21, (fun a i q0 => ((hg_M_22 a i (fun h9 => q0 (Or.inr (Or.inl h9)))).trans ((congrFun (congrFun eM_16 a) i).trans ((mset_ne (fun h9 => q0 (Or.inl h9))).trans ((hg_M_8 a i (fun z8 => q0 ((fun z9 => Or.elim z9 (fun h9 => Or.inl h9) (fun h9 => Or.inr (Or.inl h9))) z8))).trans ((hg_M_5 a i (fun z8 => q0 ((fun z9 => Or.elim z9 (fun h9 => Or.inl h9) (fun h9 => Or.inr (Or.inl h9))) z8))).trans ((hg_M_3 a i (fun z8 => q0 ((fun z9 => Or.elim z9 (fun h9 => Or.inl h9) (fun h9 => Or.inr (Or.inl h9))) z8))).trans rfl))))))), (by show LinP (lineS T (M 19 3).toInt (fun j => (M (b + 1) j).toInt) (fun j => (M (b + 2) j).toInt) (ix v2)) r_21.toInt (M_22 19 4).toInt (M_22 19 3).toInt (M_22 (b + 1) (ix v2)).toInt (M_22 (b + 2) (ix v2)).toInt (M_22 (b + 3) (ix v2)).toInt (M_22 (b + 5) (ix v2)).toInt (M 19 3).toInt (M 19 2).toInt; rw [lineS_v n1, lineX_v (by omega) e44, e5, lineY_v m1 (by omega) hdup, eq8, tail_f (by rw [← eq8, ← hh_111]; exact c116) (by rw [← h16, ← hh_130]; exact Bool.eq_false_iff.mpr (fun z => hd_133.mpr z c136))]; exact ⟨hw_145, by rw [hq_145 (by decide) (by decide) (by omega) (by omega)]; have := t_lit 1; omega⟩), (fun z => absurd hw_145 z), (fun z => absurd hw_145 z)⟩
                  · refine wp_bind2 (o5_X7_here M_16 T ((txc_fr ((congrFun (congrFun eM_16 19) 2).trans ((mset_ne (by omega)).trans ((hg_M_8 19 2 (by omega)).trans ((hg_M_5 19 2 (by omega)).trans ((hg_M_3 19 2 (by omega)).trans rfl))))) (fun j => ((congrFun (congrFun eM_16 20) j).trans ((mset_ne (by omega)).trans ((hg_M_8 20 j (by omega)).trans ((hg_M_5 20 j (by omega)).trans ((hg_M_3 20 j (by omega)).trans rfl))))))).trans hT) (by rw [show M_16 19 2 = M 19 2 from ((congrFun (congrFun eM_16 19) 2).trans ((mset_ne (by omega)).trans ((hg_M_8 19 2 (by omega)).trans ((hg_M_5 19 2 (by omega)).trans ((hg_M_3 19 2 (by omega)).trans rfl)))))]; omega)) (fun r_19 he150 hq150 => ?_)
                    have hh_150 := hq150
                    replace hh_150 : r_19.toInt = T (M_16 19 3).toInt := hh_150
                    have hdg : dgt (T (q8 + 1)) = true := by rw [← h16, ← hh_130]; exact hd_133.mp c136
                    have hin2 := dg_in hT hdg
                    have hd9 := dgt_i hdg
                    have hz19 : (r_19 - (nI 48)).toInt = T (q8 + 1) - 48 := by
                      have f1 := t_sub r_19 (nI 48)
                      have f2 := t_lit 48
                      rw [← h16, ← hh_150] at hd9 ⊢
                      omega
                    refine wp_bnd (fun M_20 eM_20 => ?_)
                    have h20 : (M_20 19 3).toInt = q8 + 2 := by rw [eM_20, mset_eq]; (have z := (i_up (x := M_16 19 3) (by omega)).2); omega
                    exact j168 M_20 (r_19 - (nI 48)) (fun a i q0 => ((congrFun (congrFun eM_20 a) i).trans ((mset_ne (fun h9 => q0 (h9))).trans ((congrFun (congrFun eM_16 a) i).trans ((mset_ne (fun h9 => q0 (h9))).trans rfl))))) (by omega) (Or.inl ⟨by rw [← eq8, ← hh_111]; exact c116, hdg, by omega, hz19⟩)
                · exact j168 M_8 (nI 0) (fun _ _ _ => rfl) (by omega) (Or.inr ⟨by rw [← eq8, ← hh_111]; exact c116, eq8, nI0⟩)
              · have hdup : dupS (fun j => (M (b + 1) j).toInt) (fun j => (M (b + 2) j).toInt) r_2.toInt r_7.toInt (ix v2) = true := by
                  obtain ⟨j, z1, z2, z3, z4⟩ := sta_y hsa_92 c96
                  rw [e8b4] at z2
                  rw [e8b1] at z3
                  rw [e8b2] at z4
                  exact dup_t (i := j) ⟨z3, z4⟩ _ (by have z5 := mt (hto j z1).mpr z2; omega)
                refine wp_cb2 (o5_X7_refuse M_8 (nI 6) x_1) (fun r_23 M_24 he103 hq103 => ?_)
                obtain ⟨hz_r_23, hg_M_24, hw_103, hq_103⟩ := hq103
                replace hw_103 : r_23.toInt = 0 := hw_103
                have := t_lit 6
                replace hq_103 : 0 ≤ (nI 6).toInt → (nI 6).toInt ≤ 9 → 0 ≤ x_1.toInt → x_1.toInt ≤ 1000 → (M_24 19 4).toInt = -1000 * (nI 6).toInt - x_1.toInt := hq_103
                have := t_lit 6
                replace hg_M_24 : ∀ a i, ¬ ((a = 19 ∧ i = 4)) → M_24 a i = M_8 a i := hg_M_24
                refine wp_gb hz_r_23 ?_
                exact wp_some ⟨hz_r_23, (fun a i q0 => ((hg_M_24 a i (fun h9 => q0 (Or.inr (Or.inl h9)))).trans ((hg_M_8 a i (fun z8 => q0 ((fun z9 => Or.elim z9 (fun h9 => Or.inl h9) (fun h9 => Or.inr (Or.inl h9))) z8))).trans ((hg_M_5 a i (fun z8 => q0 ((fun z9 => Or.elim z9 (fun h9 => Or.inl h9) (fun h9 => Or.inr (Or.inl h9))) z8))).trans ((hg_M_3 a i (fun z8 => q0 ((fun z9 => Or.elim z9 (fun h9 => Or.inl h9) (fun h9 => Or.inr (Or.inl h9))) z8))).trans rfl))))), (by show LinP (lineS T (M 19 3).toInt (fun j => (M (b + 1) j).toInt) (fun j => (M (b + 2) j).toInt) (ix v2)) r_23.toInt (M_24 19 4).toInt (M_24 19 3).toInt (M_24 (b + 1) (ix v2)).toInt (M_24 (b + 2) (ix v2)).toInt (M_24 (b + 3) (ix v2)).toInt (M_24 (b + 5) (ix v2)).toInt (M 19 3).toInt (M 19 2).toInt; rw [lineS_v n1, lineX_v (by omega) e44, e5, lineY_d m1 (by omega) hdup]; exact ⟨hw_103, by rw [hq_103 (by decide) (by decide) (by omega) (by omega)]; have := t_lit 6; omega⟩), (fun z => absurd hw_103 z), (fun z => absurd hw_103 z)⟩
            · exact j79 (by omega)
    · refine wp_cb2 (o5_X7_refuse M_3 (nI 3) x_1) (fun r_25 M_26 he30 hq30 => ?_)
      obtain ⟨hz_r_25, hg_M_26, hw_30, hq_30⟩ := hq30
      replace hw_30 : r_25.toInt = 0 := hw_30
      have := t_lit 3
      replace hq_30 : 0 ≤ (nI 3).toInt → (nI 3).toInt ≤ 9 → 0 ≤ x_1.toInt → x_1.toInt ≤ 1000 → (M_26 19 4).toInt = -1000 * (nI 3).toInt - x_1.toInt := hq_30
      have := t_lit 3
      replace hg_M_26 : ∀ a i, ¬ ((a = 19 ∧ i = 4)) → M_26 a i = M_3 a i := hg_M_26
      refine wp_gb hz_r_25 ?_
      exact wp_some ⟨hz_r_25, (fun a i q0 => ((hg_M_26 a i (fun h9 => q0 (Or.inr (Or.inl h9)))).trans ((hg_M_3 a i (fun z8 => q0 ((fun z9 => Or.elim z9 (fun h9 => Or.inl h9) (fun h9 => Or.inr (Or.inl h9))) z8))).trans rfl))), (by show LinP (lineS T (M 19 3).toInt (fun j => (M (b + 1) j).toInt) (fun j => (M (b + 2) j).toInt) (ix v2)) r_25.toInt (M_26 19 4).toInt (M_26 19 3).toInt (M_26 (b + 1) (ix v2)).toInt (M_26 (b + 2) (ix v2)).toInt (M_26 (b + 3) (ix v2)).toInt (M_26 (b + 5) (ix v2)).toInt (M 19 3).toInt (M 19 2).toInt; rw [lineS_v n1, lineX_3 (by omega)]; exact ⟨hw_30, by rw [hq_30 (by decide) (by decide) (by omega) (by omega)]; have := t_lit 3; omega⟩), (fun z => absurd hw_30 z), (fun z => absurd hw_30 z)⟩
set_option maxHeartbeats 8000000 in
theorem on_X9_readNotebook {b : Nat} (hb : isF b) (M : Mem) (T : Int → Int) (hT : TXc M = T) (hp : 0 ≤ (M 19 3).toInt ∧ (M 19 3).toInt ≤ (M 19 2).toInt ∧ (M 19 2).toInt ≤ 240) : Wp (f_X9_readNotebook b M) (fun q => (∀ a i, ¬ ((a = 19 ∧ i = 3) ∨ (a = 19 ∧ i = 4) ∨ a = (b + 1) ∨ a = (b + 2) ∨ a = (b + 3) ∨ a = (b + 4) ∨ a = (b + 5)) → q.2 a i = M a i) ∧ (q.1.toInt = bookA T 41 (M 19 3).toInt 0 (fun _ => 0) (fun _ => 0)) ∧ (BkP (bookB T 41 (M 19 3).toInt 0 (fun _ => 0) (fun _ => 0) zr0) q.1.toInt (z0 (FdC q.2 b)))) := by
  have hb0 : b = 1 ∨ b = 7 ∨ b = 13 := hb
  refine wp_bind2 (o5_X2_clearStones hb M) (fun M_1 he1 hq1 => ?_)
  obtain ⟨hg_M_1, hcl_1⟩ := hq1
  replace hcl_1 : ∀ j : Nat, j < 40 → (M_1 (b + 4) j).toInt = 0 := hcl_1
  replace hg_M_1 : ∀ a i, ¬ (a = (b + 4)) → M_1 a i = M a i := by exact fun a i q0 => hg_M_1 a i (by omega)
  refine wp_lp2 (fun M6 y2_6 => (∀ a i, ¬ ((a = 19 ∧ i = 3) ∨ (a = 19 ∧ i = 4) ∨ a = (b + 1) ∨ a = (b + 2) ∨ a = (b + 3) ∨ a = (b + 4) ∨ a = (b + 5)) → M6 a i = M_1 a i) ∧ (0 ≤ y2_6.toInt ∧ y2_6.toInt ≤ 40 ∧ (M6 19 2) = M 19 2 ∧ 0 ≤ (M6 19 3).toInt ∧ (M6 19 3).toInt ≤ (M 19 2).toInt) ∧ (∀ j : Nat, j < 40 → ((M6 (b + 4) j).toInt = 0 ↔ y2_6.toInt ≤ (j : Int))) ∧ (bookA T 41 (M 19 3).toInt 0 (fun _ => 0) (fun _ => 0) = bookA T (41 - ix y2_6) (M6 19 3).toInt (ix y2_6) (fun j => (M6 (b + 1) j).toInt) (fun j => (M6 (b + 2) j).toInt)) ∧ (bookB T 41 (M 19 3).toInt 0 (fun _ => 0) (fun _ => 0) zr0 = bookB T (41 - ix y2_6) (M6 19 3).toInt (ix y2_6) (fun j => (M6 (b + 1) j).toInt) (fun j => (M6 (b + 2) j).toInt) (z0 (FdC M6 b)))) (fun M6 y2_6 => (41 - y2_6.toInt).toNat) (fun ag6 M6 y2_6 hI6 ih6 => ?_) FU M_1 (nI 0) ⟨(fun _ _ _ => rfl), ⟨by decide, by decide, hg_M_1 19 2 (by omega), by rw [hg_M_1 19 3 (by omega)]; omega, by rw [hg_M_1 19 3 (by omega)]; omega⟩, (fun j hj => ⟨fun _ => by have := t_lit 0; omega, fun _ => hcl_1 j hj⟩), (by rw [show ix (nI 0) = 0 from (by decide), hg_M_1 19 3 (by omega)]; exact bookA_ext (fun i hi => absurd hi (Nat.not_lt_zero _))), (by rw [show ix (nI 0) = 0 from (by decide), hg_M_1 19 3 (by omega), z0_cl hcl_1]; exact bookB_ext (fun i hi => absurd hi (Nat.not_lt_zero _)))⟩ (fu_lt ((by have := t_lit 0; omega)))
  obtain ⟨hf_M6, h6, ht6, hb6, hB6⟩ := hI6
  have fy := t_ixn y2_6 (by omega)
  have e2 := h6.2.2.1
  have e2i := congrArg Int32.toInt e2
  have hT6 : TXc M6 = T := (txc_fr e2 (fun j => by rw [hf_M6 20 j (by omega), hg_M_1 20 j (by omega)])).trans hT
  have j58 : (40 ≤ y2_6.toInt) → Wp (f_X9_readNotebook_L58 M6) (fun q => (∀ a i, ¬ ((a = 19 ∧ i = 3) ∨ (a = 19 ∧ i = 4) ∨ a = (b + 1) ∨ a = (b + 2) ∨ a = (b + 3) ∨ a = (b + 4) ∨ a = (b + 5)) → q.2 a i = M a i) ∧ (q.1.toInt = bookA T 41 (M 19 3).toInt 0 (fun _ => 0) (fun _ => 0)) ∧ (BkP (bookB T 41 (M 19 3).toInt 0 (fun _ => 0) (fun _ => 0) zr0) q.1.toInt (z0 (FdC q.2 b)))) := by
    intro h58
    unfold f_X9_readNotebook_L58
    have h41 : 41 - ix y2_6 = 0 + 1 := by omega
    rw [h41] at hB6
    refine wp_bind2 (o5_X7_here M6 T hT6 (by rw [e2]; omega)) (fun r_2 he60 hq60 => ?_)
    have hh_60 := hq60
    replace hh_60 : r_2.toInt = T (M6 19 3).toInt := hh_60
    refine wp_bind2 (o5_X7_isDigit M6 r_2) (fun r_3 he63 hq63 => ?_)
    obtain ⟨hz_r_3, hd_63⟩ := hq63
    replace hd_63 : ¬ r_3.toInt = 0 ↔ dgt r_2.toInt = true := hd_63
    have j74 : ∀ (t0_74 : Int32), ((t0_74.toInt = 1 ∧ dgt (T (M6 19 3).toInt) = false) ∨ (t0_74.toInt = 4 ∧ dgt (T (M6 19 3).toInt) = true)) → Wp (f_X9_readNotebook_L74 M6 t0_74) (fun q => (∀ a i, ¬ ((a = 19 ∧ i = 3) ∨ (a = 19 ∧ i = 4) ∨ a = (b + 1) ∨ a = (b + 2) ∨ a = (b + 3) ∨ a = (b + 4) ∨ a = (b + 5)) → q.2 a i = M a i) ∧ (q.1.toInt = bookA T 41 (M 19 3).toInt 0 (fun _ => 0) (fun _ => 0)) ∧ (BkP (bookB T 41 (M 19 3).toInt 0 (fun _ => 0) (fun _ => 0) zr0) q.1.toInt (z0 (FdC q.2 b)))) := by
      intro t0_74 h74
      unfold f_X9_readNotebook_L74
      refine wp_cb2 (o5_X7_refuse M6 t0_74 (M6 19 3)) (fun r_4 M_5 he78 hq78 => ?_)
      obtain ⟨hz_r_4, hg_M_5, hw_78, hq_78⟩ := hq78
      replace hw_78 : r_4.toInt = 0 := hw_78
      replace hq_78 : 0 ≤ t0_74.toInt → t0_74.toInt ≤ 9 → 0 ≤ (M6 19 3).toInt → (M6 19 3).toInt ≤ 1000 → (M_5 19 4).toInt = -1000 * t0_74.toInt - (M6 19 3).toInt := hq_78
      replace hg_M_5 : ∀ a i, ¬ ((a = 19 ∧ i = 4)) → M_5 a i = M6 a i := hg_M_5
      exact wp_some ⟨(fun a i q0 => ((hg_M_5 a i (fun h9 => q0 (Or.inr (Or.inl h9)))).trans ((hf_M6 a i (fun z8 => q0 ((fun z9 => Or.elim z9 (fun h9 => Or.inl h9) (fun z9 => Or.elim z9 (fun h9 => Or.inr (Or.inl h9)) (fun z9 => Or.elim z9 (fun h9 => Or.inr (Or.inr (Or.inl h9))) (fun z9 => Or.elim z9 (fun h9 => Or.inr (Or.inr (Or.inr (Or.inl h9)))) (fun z9 => Or.elim z9 (fun h9 => Or.inr (Or.inr (Or.inr (Or.inr (Or.inl h9))))) (fun z9 => Or.elim z9 (fun h9 => Or.inr (Or.inr (Or.inr (Or.inr (Or.inr (Or.inl h9)))))) (fun h9 => Or.inr (Or.inr (Or.inr (Or.inr (Or.inr (Or.inr (h9))))))))))))) z8))).trans ((hg_M_1 a i (fun h9 => q0 (Or.inr (Or.inr (Or.inr (Or.inr (Or.inr (Or.inl h9)))))))).trans rfl)))), (by show (M_5 19 4).toInt = _; rw [hb6, show 41 - ix y2_6 = 0 + 1 from (by omega), bookA_40 (by omega), hq_78 (by omega) (by omega) (by omega) (by omega)]; exact h74.elim (fun z => by rw [if_neg (by rw [z.2]; decide)]; omega) (fun z => by rw [if_pos z.2]; omega)), (bkp_l (hB6.trans (bookB_40 (by omega))) (by show (M_5 19 4).toInt = _; rw [hq_78 (by omega) (by omega) (by omega) (by omega)]; exact h74.elim (fun z => by rw [if_neg (by rw [z.2]; decide)]; omega) (fun z => by rw [if_pos z.2]; omega)))⟩
    refine wp_ite (fun c66 => ?_) (fun c66 => ?_)
    · exact j74 (nI 1) (Or.inl ⟨nI1, by rw [← hh_60]; exact Bool.eq_false_iff.mpr (fun z => hd_63.mpr z c66)⟩)
    · exact j74 (nI 4) (Or.inr ⟨t_lit 4, by rw [← hh_60]; exact hd_63.mp c66⟩)
  refine wp_ite (fun c9 => ?_) (fun c9 => ?_)
  · exact j58 (by omega)
  · have hk : 41 - ix y2_6 = (40 - ix y2_6) + 1 := by omega
    rw [hk] at hb6
    have hi := i_up (x := y2_6) (by omega)
    rw [hk] at hB6
    refine wp_cb2 (on_X9_readLine hb M6 y2_6 T hT6 (by rw [e2]; omega) (by omega) ht6) (fun r_6 M_7 he15 hq15 => ?_)
    obtain ⟨hz_r_6, hg_M_7, hl_15, hr_15, hG_15⟩ := hq15
    replace hl_15 : LinP (lineS T (M6 19 3).toInt (fun j => (M6 (b + 1) j).toInt) (fun j => (M6 (b + 2) j).toInt) (ix y2_6)) r_6.toInt (M_7 19 4).toInt (M_7 19 3).toInt (M_7 (b + 1) (ix y2_6)).toInt (M_7 (b + 2) (ix y2_6)).toInt (M_7 (b + 3) (ix y2_6)).toInt (M_7 (b + 5) (ix y2_6)).toInt (M6 19 3).toInt (M6 19 2).toInt := hl_15
    replace hr_15 : ¬ r_6.toInt = 0 → (∀ j : Nat, ¬ j = ix y2_6 → M_7 (b + 1) j = M6 (b + 1) j ∧ M_7 (b + 2) j = M6 (b + 2) j ∧ M_7 (b + 4) j = M6 (b + 4) j) ∧ ¬ (M_7 (b + 4) (ix y2_6)).toInt = 0 := hr_15
    replace hG_15 : ¬ r_6.toInt = 0 → FdC M_7 b = lyF (FdC M6 b) (ix y2_6) (M_7 (b + 1) (ix y2_6)) (M_7 (b + 2) (ix y2_6)) (M_7 (b + 3) (ix y2_6)) (M_7 (b + 5) (ix y2_6)) := hG_15
    replace hg_M_7 : ∀ a i, ¬ ((a = 19 ∧ i = 3) ∨ (a = 19 ∧ i = 4) ∨ a = (b + 1) ∨ a = (b + 2) ∨ a = (b + 3) ∨ a = (b + 4) ∨ a = (b + 5)) → M_7 a i = M6 a i := by exact fun a i q0 => hg_M_7 a i (by omega)
    refine wp_ite (fun c18 => ?_) (fun c18 => ?_)
    · exact wp_some ⟨(fun a i q0 => ((hg_M_7 a i (fun z8 => q0 ((fun z9 => Or.elim z9 (fun h9 => Or.inl h9) (fun z9 => Or.elim z9 (fun h9 => Or.inr (Or.inl h9)) (fun z9 => Or.elim z9 (fun h9 => Or.inr (Or.inr (Or.inl h9))) (fun z9 => Or.elim z9 (fun h9 => Or.inr (Or.inr (Or.inr (Or.inl h9)))) (fun z9 => Or.elim z9 (fun h9 => Or.inr (Or.inr (Or.inr (Or.inr (Or.inl h9))))) (fun z9 => Or.elim z9 (fun h9 => Or.inr (Or.inr (Or.inr (Or.inr (Or.inr (Or.inl h9)))))) (fun h9 => Or.inr (Or.inr (Or.inr (Or.inr (Or.inr (Or.inr (h9))))))))))))) z8))).trans ((hf_M6 a i (fun z8 => q0 ((fun z9 => Or.elim z9 (fun h9 => Or.inl h9) (fun z9 => Or.elim z9 (fun h9 => Or.inr (Or.inl h9)) (fun z9 => Or.elim z9 (fun h9 => Or.inr (Or.inr (Or.inl h9))) (fun z9 => Or.elim z9 (fun h9 => Or.inr (Or.inr (Or.inr (Or.inl h9)))) (fun z9 => Or.elim z9 (fun h9 => Or.inr (Or.inr (Or.inr (Or.inr (Or.inl h9))))) (fun z9 => Or.elim z9 (fun h9 => Or.inr (Or.inr (Or.inr (Or.inr (Or.inr (Or.inl h9)))))) (fun h9 => Or.inr (Or.inr (Or.inr (Or.inr (Or.inr (Or.inr (h9))))))))))))) z8))).trans ((hg_M_1 a i (fun h9 => q0 (Or.inr (Or.inr (Or.inr (Or.inr (Or.inr (Or.inl h9)))))))).trans rfl)))), (by show (M_7 19 4).toInt = _; rw [hb6, bookA_f (by omega) (linP_f hl_15 c18)]), (bkp_l (hB6.trans (bookB_f (by omega) (linP_f hl_15 c18))) rfl)⟩
    · obtain ⟨l1, l2, l3⟩ := linP_v hl_15 c18
      have hrr := hr_15 c18
      have e72 : M_7 19 2 = M 19 2 := by rw [hg_M_7 19 2 (by omega), e2]
      have e72i := congrArg Int32.toInt e72
      have hT7 : TXc M_7 = T := (txc_fr (hg_M_7 19 2 (by omega)) (fun j => hg_M_7 20 j (by omega))).trans hT6
      have gG : z0 (FdC M_7 b) = lyQ (z0 (FdC M6 b)) (ix y2_6) ((M_7 (b + 1) (ix y2_6)).toInt, (M_7 (b + 2) (ix y2_6)).toInt, (M_7 (b + 3) (ix y2_6)).toInt, (M_7 (b + 5) (ix y2_6)).toInt, (M_7 19 3).toInt) := by
        rw [hG_15 c18, z0_ly]
        exact ly_lyQ rfl rfl rfl rfl
      refine wp_bind2 (o5_X7_here M_7 T hT7 (by rw [e72]; omega)) (fun r_8 he27 hq27 => ?_)
      have hh_27 := hq27
      replace hh_27 : r_8.toInt = T (M_7 19 3).toInt := hh_27
      refine wp_ite (fun c31 => ?_) (fun c31 => ?_)
      · exact wp_some ⟨(fun a i q0 => ((hg_M_7 a i (fun z8 => q0 ((fun z9 => Or.elim z9 (fun h9 => Or.inl h9) (fun z9 => Or.elim z9 (fun h9 => Or.inr (Or.inl h9)) (fun z9 => Or.elim z9 (fun h9 => Or.inr (Or.inr (Or.inl h9))) (fun z9 => Or.elim z9 (fun h9 => Or.inr (Or.inr (Or.inr (Or.inl h9)))) (fun z9 => Or.elim z9 (fun h9 => Or.inr (Or.inr (Or.inr (Or.inr (Or.inl h9))))) (fun z9 => Or.elim z9 (fun h9 => Or.inr (Or.inr (Or.inr (Or.inr (Or.inr (Or.inl h9)))))) (fun h9 => Or.inr (Or.inr (Or.inr (Or.inr (Or.inr (Or.inr (h9))))))))))))) z8))).trans ((hf_M6 a i (fun z8 => q0 ((fun z9 => Or.elim z9 (fun h9 => Or.inl h9) (fun z9 => Or.elim z9 (fun h9 => Or.inr (Or.inl h9)) (fun z9 => Or.elim z9 (fun h9 => Or.inr (Or.inr (Or.inl h9))) (fun z9 => Or.elim z9 (fun h9 => Or.inr (Or.inr (Or.inr (Or.inl h9)))) (fun z9 => Or.elim z9 (fun h9 => Or.inr (Or.inr (Or.inr (Or.inr (Or.inl h9))))) (fun z9 => Or.elim z9 (fun h9 => Or.inr (Or.inr (Or.inr (Or.inr (Or.inr (Or.inl h9)))))) (fun h9 => Or.inr (Or.inr (Or.inr (Or.inr (Or.inr (Or.inr (h9))))))))))))) z8))).trans ((hg_M_1 a i (fun h9 => q0 (Or.inr (Or.inr (Or.inr (Or.inr (Or.inr (Or.inl h9)))))))).trans rfl)))), (by show (y2_6 + (nI 1)).toInt = _; rw [hb6, bookA_e (by omega) l1 (by rw [← hh_27]; exact c31), hi.2]; omega), (bkp_r (hB6.trans (bookB_e (by omega) l1 (show T (M_7 19 3).toInt = -1 by rw [← hh_27]; exact c31))) (by show (y2_6 + (nI 1)).toInt = ((ix y2_6 + 1 : Nat) : Int); omega) gG)⟩
      · refine wp_cb2 (o5_X7_skip M_7 (nI 59) T hT7 (by rw [e72]; omega) (by decide)) (fun r_9 M_10 he41 hq41 => ?_)
        obtain ⟨hz_r_9, hg_M_10, hs_41⟩ := hq41
        replace hs_41 : SkpP (T (M_7 19 3).toInt) (nI 59).toInt r_9.toInt (M_7 19 3).toInt (M_10 19 3).toInt (M_7 19 2).toInt (M_10 19 4).toInt := hs_41
        have := t_lit 59
        replace hg_M_10 : ∀ a i, ¬ ((a = 19 ∧ i = 3) ∨ (a = 19 ∧ i = 4)) → M_10 a i = M_7 a i := hg_M_10
        refine wp_ite (fun c44 => ?_) (fun c44 => ?_)
        · exact wp_some ⟨(fun a i q0 => ((hg_M_10 a i (fun z8 => q0 ((fun z9 => Or.elim z9 (fun h9 => Or.inl h9) (fun h9 => Or.inr (Or.inl h9))) z8))).trans ((hg_M_7 a i (fun z8 => q0 ((fun z9 => Or.elim z9 (fun h9 => Or.inl h9) (fun z9 => Or.elim z9 (fun h9 => Or.inr (Or.inl h9)) (fun z9 => Or.elim z9 (fun h9 => Or.inr (Or.inr (Or.inl h9))) (fun z9 => Or.elim z9 (fun h9 => Or.inr (Or.inr (Or.inr (Or.inl h9)))) (fun z9 => Or.elim z9 (fun h9 => Or.inr (Or.inr (Or.inr (Or.inr (Or.inl h9))))) (fun z9 => Or.elim z9 (fun h9 => Or.inr (Or.inr (Or.inr (Or.inr (Or.inr (Or.inl h9)))))) (fun h9 => Or.inr (Or.inr (Or.inr (Or.inr (Or.inr (Or.inr (h9))))))))))))) z8))).trans ((hf_M6 a i (fun z8 => q0 ((fun z9 => Or.elim z9 (fun h9 => Or.inl h9) (fun z9 => Or.elim z9 (fun h9 => Or.inr (Or.inl h9)) (fun z9 => Or.elim z9 (fun h9 => Or.inr (Or.inr (Or.inl h9))) (fun z9 => Or.elim z9 (fun h9 => Or.inr (Or.inr (Or.inr (Or.inl h9)))) (fun z9 => Or.elim z9 (fun h9 => Or.inr (Or.inr (Or.inr (Or.inr (Or.inl h9))))) (fun z9 => Or.elim z9 (fun h9 => Or.inr (Or.inr (Or.inr (Or.inr (Or.inr (Or.inl h9)))))) (fun h9 => Or.inr (Or.inr (Or.inr (Or.inr (Or.inr (Or.inr (h9))))))))))))) z8))).trans ((hg_M_1 a i (fun h9 => q0 (Or.inr (Or.inr (Or.inr (Or.inr (Or.inr (Or.inl h9)))))))).trans rfl))))), (by show (M_10 19 4).toInt = _; have z := skp_n hs_41 c44; have f59 := t_lit 59; rw [hb6, bookA_w (by omega) l1 (by rw [← hh_27]; exact c31) (by omega)]; exact z.2), (bkp_l (hB6.trans (bookB_w (by omega) l1 (show ¬ T (M_7 19 3).toInt = -1 by rw [← hh_27]; exact c31) (show ¬ T (M_7 19 3).toInt = 59 from fun z => (skp_n hs_41 c44).1 (by rw [z]; exact (t_lit 59).symm)))) (skp_n hs_41 c44).2)⟩
        · have s41 := skp_y hs_41 c44
          have f59 := t_lit 59
          exact ih6 M_10 (y2_6 + (nI 1)) ⟨(fun a i q0 => ((hg_M_10 a i (fun z8 => q0 ((fun z9 => Or.elim z9 (fun h9 => Or.inl h9) (fun h9 => Or.inr (Or.inl h9))) z8))).trans ((hg_M_7 a i (fun z8 => q0 ((fun z9 => Or.elim z9 (fun h9 => Or.inl h9) (fun z9 => Or.elim z9 (fun h9 => Or.inr (Or.inl h9)) (fun z9 => Or.elim z9 (fun h9 => Or.inr (Or.inr (Or.inl h9))) (fun z9 => Or.elim z9 (fun h9 => Or.inr (Or.inr (Or.inr (Or.inl h9)))) (fun z9 => Or.elim z9 (fun h9 => Or.inr (Or.inr (Or.inr (Or.inr (Or.inl h9))))) (fun z9 => Or.elim z9 (fun h9 => Or.inr (Or.inr (Or.inr (Or.inr (Or.inr (Or.inl h9)))))) (fun h9 => Or.inr (Or.inr (Or.inr (Or.inr (Or.inr (Or.inr (h9))))))))))))) z8))).trans ((hf_M6 a i (fun z8 => q0 ((fun z9 => Or.elim z9 (fun h9 => Or.inl h9) (fun z9 => Or.elim z9 (fun h9 => Or.inr (Or.inl h9)) (fun z9 => Or.elim z9 (fun h9 => Or.inr (Or.inr (Or.inl h9))) (fun z9 => Or.elim z9 (fun h9 => Or.inr (Or.inr (Or.inr (Or.inl h9)))) (fun z9 => Or.elim z9 (fun h9 => Or.inr (Or.inr (Or.inr (Or.inr (Or.inl h9))))) (fun z9 => Or.elim z9 (fun h9 => Or.inr (Or.inr (Or.inr (Or.inr (Or.inr (Or.inl h9)))))) (fun h9 => Or.inr (Or.inr (Or.inr (Or.inr (Or.inr (Or.inr (h9))))))))))))) z8))).trans rfl)))), ⟨by omega, by omega, by rw [hg_M_10 19 2 (by omega), e72], by omega, by omega⟩, (fun j hj => by rw [hg_M_10 (b + 4) j (by omega), hi.2]; by_cases e9 : j = ix y2_6; (rw [e9]; exact ⟨fun z => absurd z hrr.2, fun z => by omega⟩); (rw [(hrr.1 j e9).2.2]; exact ⟨fun z => by have := (ht6 j hj).mp z; omega, fun z => (ht6 j hj).mpr (by omega)⟩)), (by rw [hb6, bookA_n (by omega) l1 (by omega), hi.1, show 41 - (ix y2_6 + 1) = 40 - ix y2_6 from (by omega), show (M_7 19 3).toInt + 1 = (M_10 19 3).toInt from (by omega)]; exact bookA_ext (fun i hz => by show pu _ _ _ i = (M_10 (b + 1) i).toInt ∧ pu _ _ _ i = (M_10 (b + 2) i).toInt; rw [hg_M_10 (b + 1) i (by omega), hg_M_10 (b + 2) i (by omega)]; by_cases e9 : i = ix y2_6; (rw [e9, pu_s, pu_s]; exact ⟨rfl, rfl⟩); (rw [pu_n e9, pu_n e9, (hrr.1 i e9).1, (hrr.1 i e9).2.1]; exact ⟨rfl, rfl⟩))), (by rw [hB6, bookB_n (by omega) l1 (show T (M_7 19 3).toInt = 59 by omega), hi.1, show 41 - (ix y2_6 + 1) = 40 - ix y2_6 from (by omega), ← gG, show FdC M_10 b = FdC M_7 b from fdc_fr (fun a i h1 h2 => hg_M_10 a i (by omega)), show (M_10 19 3).toInt = (M_7 19 3).toInt + 1 from (by omega)]; exact bookB_ext (fun i hz => by show pu _ _ _ i = (M_10 (b + 1) i).toInt ∧ pu _ _ _ i = (M_10 (b + 2) i).toInt; rw [hg_M_10 (b + 1) i (by omega), hg_M_10 (b + 2) i (by omega)]; by_cases e9 : i = ix y2_6; (rw [e9, pu_s, pu_s]; exact ⟨rfl, rfl⟩); (rw [pu_n e9, pu_n e9, (hrr.1 i e9).1, (hrr.1 i e9).2.1]; exact ⟨rfl, rfl⟩)))⟩ (by omega)
set_option maxHeartbeats 4000000 in
theorem on_X9_notebook (M : Mem) (v1 : Int32) (hGd : GdF (FdC M 1)) : Wp (f_X9_notebook M v1) (fun q => (∀ a i, ¬ (a = 2 ∨ a = 3 ∨ a = 4 ∨ a = 5 ∨ a = 6 ∨ a = 14 ∨ a = 15 ∨ a = 16 ∨ a = 17 ∨ a = 18 ∨ (a = 19 ∧ i = 1) ∨ (a = 19 ∧ i = 2) ∨ (a = 19 ∧ i = 3) ∨ (a = 19 ∧ i = 4)) → q.2 a i = M a i) ∧ ((q.2 19 1).toInt = (if 1 ≤ v1.toInt ∧ v1.toInt ≤ 200 ∧ v1.toInt ≤ (M 19 1).toInt then 0 else (M 19 1).toInt)) ∧ (q.1.toInt = (if 1 ≤ v1.toInt ∧ v1.toInt ≤ 200 ∧ v1.toInt ≤ (M 19 1).toInt then bookA (txt (fun j => (M 20 j).toInt) v1.toInt) 41 0 0 (fun _ => 0) (fun _ => 0) else -1)) ∧ ((1 ≤ v1.toInt ∧ v1.toInt ≤ 200 ∧ v1.toInt ≤ (M 19 1).toInt → NbE (bookT (txt (fun j => (M 20 j).toInt) v1.toInt)) (FdC M 1) (FdC q.2 1)) ∧ (¬ (1 ≤ v1.toInt ∧ v1.toInt ≤ 200 ∧ v1.toInt ≤ (M 19 1).toInt) → FdC q.2 1 = FdC M 1))) := by
  obtain ⟨T, eT⟩ : ∃ T : Int → Int, txt (fun j => (M 20 j).toInt) v1.toInt = T := ⟨_, rfl⟩
  refine wp_bind2 (o3_X7_holds M v1 (nI 1) (nI 200)) (fun r_1 he9 hq9 => ?_)
  obtain ⟨hz_r_1, hr_9⟩ := hq9
  replace hr_9 : ¬ r_1.toInt = 0 ↔ (nI 1).toInt ≤ v1.toInt ∧ v1.toInt ≤ (nI 200).toInt ∧ v1.toInt ≤ (M 19 1).toInt := hr_9
  have := t_lit 1
  have := t_lit 200
  refine wp_ite (fun c12 => ?_) (fun c12 => ?_)
  · exact wp_some ⟨(fun _ _ _ => rfl), (by show (M 19 1).toInt = _; rw [if_neg (by omega)]), (by show (-1 : Int32).toInt = _; rw [if_neg (by omega)]; decide), ⟨fun z => absurd z (by omega), fun _ => rfl⟩⟩
  · refine wp_bind2 (o5_X7_open M v1) (fun M_2 he22 hq22 => ?_)
    obtain ⟨hg_M_2, hS_22, hE_22, hPl_22⟩ := hq22
    replace hS_22 : M_2 19 1 = nI 0 := hS_22
    replace hE_22 : M_2 19 2 = v1 := hE_22
    replace hPl_22 : M_2 19 3 = nI 0 := hPl_22
    replace hg_M_2 : ∀ a i, ¬ ((a = 19 ∧ i = 1) ∨ (a = 19 ∧ i = 2) ∨ (a = 19 ∧ i = 3) ∨ (a = 19 ∧ i = 4)) → M_2 a i = M a i := hg_M_2
    have hT2 : TXc M_2 = T := by
      rw [← eT]
      unfold TXc
      rw [hE_22, show M_2 20 = M 20 from funext (fun j => hg_M_2 20 j (by omega))]
    refine wp_cb2 (on_X9_readNotebook (Or.inr (Or.inr rfl)) M_2 T hT2 (by rw [hPl_22, hE_22]; have := t_lit 0; omega)) (fun r_3 M_4 he33 hq33 => ?_)
    obtain ⟨hg_M_4, hb_33, hB_33⟩ := hq33
    replace hb_33 : r_3.toInt = bookA T 41 (M_2 19 3).toInt 0 (fun _ => 0) (fun _ => 0) := hb_33
    replace hB_33 : BkP (bookB T 41 (M_2 19 3).toInt 0 (fun _ => 0) (fun _ => 0) zr0) r_3.toInt (z0 (FdC M_4 13)) := hB_33
    replace hg_M_4 : ∀ a i, ¬ (a = 14 ∨ a = 15 ∨ a = 16 ∨ a = 17 ∨ a = 18 ∨ (a = 19 ∧ i = 3) ∨ (a = 19 ∧ i = 4)) → M_4 a i = M_2 a i := by exact fun a i q0 => hg_M_4 a i (by omega)
    refine wp_ite (fun c38 => ?_) (fun c38 => ?_)
    · exact wp_some ⟨(fun a i q0 => ((hg_M_4 a i (fun z8 => q0 ((fun z9 => Or.elim z9 (fun h9 => Or.inr (Or.inr (Or.inr (Or.inr (Or.inr (Or.inl h9)))))) (fun z9 => Or.elim z9 (fun h9 => Or.inr (Or.inr (Or.inr (Or.inr (Or.inr (Or.inr (Or.inl h9))))))) (fun z9 => Or.elim z9 (fun h9 => Or.inr (Or.inr (Or.inr (Or.inr (Or.inr (Or.inr (Or.inr (Or.inl h9)))))))) (fun z9 => Or.elim z9 (fun h9 => Or.inr (Or.inr (Or.inr (Or.inr (Or.inr (Or.inr (Or.inr (Or.inr (Or.inl h9))))))))) (fun z9 => Or.elim z9 (fun h9 => Or.inr (Or.inr (Or.inr (Or.inr (Or.inr (Or.inr (Or.inr (Or.inr (Or.inr (Or.inl h9)))))))))) (fun z9 => Or.elim z9 (fun h9 => Or.inr (Or.inr (Or.inr (Or.inr (Or.inr (Or.inr (Or.inr (Or.inr (Or.inr (Or.inr (Or.inr (Or.inr (Or.inl h9))))))))))))) (fun h9 => Or.inr (Or.inr (Or.inr (Or.inr (Or.inr (Or.inr (Or.inr (Or.inr (Or.inr (Or.inr (Or.inr (Or.inr (Or.inr (h9)))))))))))))))))))) z8))).trans ((hg_M_2 a i (fun z8 => q0 ((fun z9 => Or.elim z9 (fun h9 => Or.inr (Or.inr (Or.inr (Or.inr (Or.inr (Or.inr (Or.inr (Or.inr (Or.inr (Or.inr (Or.inl h9))))))))))) (fun z9 => Or.elim z9 (fun h9 => Or.inr (Or.inr (Or.inr (Or.inr (Or.inr (Or.inr (Or.inr (Or.inr (Or.inr (Or.inr (Or.inr (Or.inl h9)))))))))))) (fun z9 => Or.elim z9 (fun h9 => Or.inr (Or.inr (Or.inr (Or.inr (Or.inr (Or.inr (Or.inr (Or.inr (Or.inr (Or.inr (Or.inr (Or.inr (Or.inl h9))))))))))))) (fun h9 => Or.inr (Or.inr (Or.inr (Or.inr (Or.inr (Or.inr (Or.inr (Or.inr (Or.inr (Or.inr (Or.inr (Or.inr (Or.inr (h9))))))))))))))))) z8))).trans rfl))), (by show (M_4 19 1).toInt = _; rw [if_pos (by omega), show M_4 19 1 = M_2 19 1 from ((hg_M_4 19 1 (by omega)).trans rfl), hS_22]; exact nI0), (by show r_3.toInt = _; rw [if_pos (by omega), eT, hb_33, hPl_22, show (nI 0).toInt = 0 from nI0]), ⟨fun _ => by rw [eT]; have hB0 := hB_33; rw [hPl_22, show (nI 0).toInt = 0 from nI0] at hB0; exact nbe_no hB0 c38 (fdc_fr (fun a i h1 h2 => ((hg_M_4 a i (by omega)).trans ((hg_M_2 a i (by omega)).trans rfl)))) hGd, fun z => absurd (by omega) z⟩⟩
    · refine wp_bind2 (o9_X2_copyStones (Or.inl rfl) (Or.inr (Or.inr rfl)) M_4 (by omega)) (fun M_5 he49 hq49 => ?_)
      obtain ⟨hg_M_5, hcr_49⟩ := hq49
      replace hcr_49 : CpR M_5 M_4 1 13 40 := hcr_49
      replace hg_M_5 : ∀ a i, ¬ (a = 2 ∨ a = 3 ∨ a = 4 ∨ a = 5 ∨ a = 6) → M_5 a i = M_4 a i := by exact fun a i q0 => hg_M_5 a i (by omega)
      exact wp_some ⟨(fun a i q0 => ((hg_M_5 a i (fun z8 => q0 ((fun z9 => Or.elim z9 (fun h9 => Or.inl h9) (fun z9 => Or.elim z9 (fun h9 => Or.inr (Or.inl h9)) (fun z9 => Or.elim z9 (fun h9 => Or.inr (Or.inr (Or.inl h9))) (fun z9 => Or.elim z9 (fun h9 => Or.inr (Or.inr (Or.inr (Or.inl h9)))) (fun h9 => Or.inr (Or.inr (Or.inr (Or.inr (Or.inl h9))))))))) z8))).trans ((hg_M_4 a i (fun z8 => q0 ((fun z9 => Or.elim z9 (fun h9 => Or.inr (Or.inr (Or.inr (Or.inr (Or.inr (Or.inl h9)))))) (fun z9 => Or.elim z9 (fun h9 => Or.inr (Or.inr (Or.inr (Or.inr (Or.inr (Or.inr (Or.inl h9))))))) (fun z9 => Or.elim z9 (fun h9 => Or.inr (Or.inr (Or.inr (Or.inr (Or.inr (Or.inr (Or.inr (Or.inl h9)))))))) (fun z9 => Or.elim z9 (fun h9 => Or.inr (Or.inr (Or.inr (Or.inr (Or.inr (Or.inr (Or.inr (Or.inr (Or.inl h9))))))))) (fun z9 => Or.elim z9 (fun h9 => Or.inr (Or.inr (Or.inr (Or.inr (Or.inr (Or.inr (Or.inr (Or.inr (Or.inr (Or.inl h9)))))))))) (fun z9 => Or.elim z9 (fun h9 => Or.inr (Or.inr (Or.inr (Or.inr (Or.inr (Or.inr (Or.inr (Or.inr (Or.inr (Or.inr (Or.inr (Or.inr (Or.inl h9))))))))))))) (fun h9 => Or.inr (Or.inr (Or.inr (Or.inr (Or.inr (Or.inr (Or.inr (Or.inr (Or.inr (Or.inr (Or.inr (Or.inr (Or.inr (h9)))))))))))))))))))) z8))).trans ((hg_M_2 a i (fun z8 => q0 ((fun z9 => Or.elim z9 (fun h9 => Or.inr (Or.inr (Or.inr (Or.inr (Or.inr (Or.inr (Or.inr (Or.inr (Or.inr (Or.inr (Or.inl h9))))))))))) (fun z9 => Or.elim z9 (fun h9 => Or.inr (Or.inr (Or.inr (Or.inr (Or.inr (Or.inr (Or.inr (Or.inr (Or.inr (Or.inr (Or.inr (Or.inl h9)))))))))))) (fun z9 => Or.elim z9 (fun h9 => Or.inr (Or.inr (Or.inr (Or.inr (Or.inr (Or.inr (Or.inr (Or.inr (Or.inr (Or.inr (Or.inr (Or.inr (Or.inl h9))))))))))))) (fun h9 => Or.inr (Or.inr (Or.inr (Or.inr (Or.inr (Or.inr (Or.inr (Or.inr (Or.inr (Or.inr (Or.inr (Or.inr (Or.inr (h9))))))))))))))))) z8))).trans rfl)))), (by show (M_5 19 1).toInt = _; rw [if_pos (by omega), show M_5 19 1 = M_2 19 1 from ((hg_M_5 19 1 (by omega)).trans ((hg_M_4 19 1 (by omega)).trans rfl)), hS_22]; exact nI0), (by show r_3.toInt = _; rw [if_pos (by omega), eT, hb_33, hPl_22, show (nI 0).toInt = 0 from nI0]), ⟨fun _ => by rw [eT]; have hB0 := hB_33; rw [hPl_22, show (nI 0).toInt = 0 from nI0] at hB0; have y := nbe_yes hB0 c38 rfl hGd; have e4 : FdC M_4 1 = FdC M 1 := fdc_fr (fun a i h1 h2 => ((hg_M_4 a i (by omega)).trans ((hg_M_2 a i (by omega)).trans rfl))); have z := fdc_cp hcr_49 (fun i hi => y.2.1.1 i hi) (fun i hi => y.2.1.2.1 i hi) (hg_M_5 1 5 (by omega)) (hg_M_5 1 6 (by omega)); rw [e4] at z; exact (nbe_yes hB0 c38 z hGd).1, fun z => absurd (by omega) z⟩⟩

