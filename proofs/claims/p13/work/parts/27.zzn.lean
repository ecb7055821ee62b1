set_option maxHeartbeats 16000000 in
theorem oc_X8_spreadOn {b : Nat} (hb : isF b) {k len_k : Nat} (hlk : len_k < 2 ^ 31) (M : Mem) (v2 : Int32) (v3 : Int32) (v5 : Int32) (hlen : len_k = 42) (hk : k = 24 ∨ k = 25) (ms : Nat) (hm : ms ≤ 42 ∧ v5.toInt = (ms : Int)) (hst : 0 ≤ v3.toInt ∧ ix v3 < ms) (hs : 1 ≤ v2.toInt ∧ v2.toInt ≤ 30) (hGd : GdF (FdC M b)) (hfr : ∀ j, j < 42 → M k j = -1) : Wp (f_X8_spreadOn b k len_k M v2 v3 v5) (fun q => (∀ a i, ¬ (a = 26 ∨ a = k) → q.2 a i = M a i) ∧ (Bfs ms (fun j => j = ix v3) (stC (FdC M b) v2.toInt) (SPm q.2 k) (QUm q.2) (ix q.1) (ix q.1) ∧ VLm q.2 k) ∧ (VQm q.2 q.1.toInt)) := by
  have hb0 : b = 1 ∨ b = 7 ∨ b = 13 := hb
  have hlk1 := nI_toInt hlk
  refine wp_ite (fun c1 => ?_) (fun c1 => ?_)
  · exact wp_some ⟨(fun _ _ _ => rfl), (False.elim (by have z := nI_toInt hlk; have z2 := t_ixn v3 hst.1; rw [hlen] at z; omega)), (False.elim (by have z := nI_toInt hlk; have z2 := t_ixn v3 hst.1; rw [hlen] at z; omega))⟩
  · refine wp_ite (fun c7 => ?_) (fun c7 => ?_)
    · exact wp_some ⟨(fun _ _ _ => rfl), (False.elim (by have z := nI_toInt hlk; have z2 := t_ixn v3 hst.1; rw [hlen] at z; omega)), (False.elim (by have z := nI_toInt hlk; have z2 := t_ixn v3 hst.1; rw [hlen] at z; omega))⟩
    · refine wp_ite (fun c15 => ?_) (fun c15 => ?_)
      · refine wp_gd (by omega) ?_
        refine wp_bnd (fun M_1 eM_1 => ?_)
        refine wp_bnd (fun M_2 eM_2 => ?_)
        have s0 : ∀ j, SPm M k j = -1 ∨ 42 ≤ j := fun j => by
          by_cases c : j < 42
          · refine Or.inl ?_
            unfold SPm
            rw [hfr j c]
            decide
          · exact Or.inr (by omega)
        have v0 : VLm M_2 k := vl_oth (vl_set (fun j hj => by rw [hfr j hj]; decide) eM_1 (by decide)) eM_2 (by omega)
        have q0 : VQm M_2 (nI 1).toInt := fun t ht => by
          have f1 := t_lit 1
          rw [show t = 0 from (by omega), eM_2, mset_eq]
          exact hst.1
        have hF0 : Bfs ms (fun j => j = ix v3) (stC (FdC M b) v2.toInt) (SPm M_2 k) (QUm M_2) (ix (nI 1)) (ix (nI 0)) := by
          rw [show ix (nI 1) = 1 from (by decide), show ix (nI 0) = 0 from (by decide), spm_o eM_2 (by omega), spm_s eM_1, qum_s eM_2, qum_o eM_1 (by omega)]
          exact bfs_ext (bfs_one (s := fun _ => -1) (q := QUm M) hst.2 (fun _ => rfl)) (fun j hj => by
            unfold pu
            by_cases c : j = ix v3
            · rw [if_pos c, if_pos c]; decide
            · rw [if_neg c, if_neg c]; exact (s0 j).resolve_right (by omega)) (fun t ht => rfl)
        refine wp_lp3 (fun M38 y6_38 y7_38 => (0 ≤ y7_38.toInt) ∧ (∀ a i, ¬ (a = 26 ∨ a = k) → M38 a i = M_2 a i) ∧ (0 ≤ y6_38.toInt) ∧ (Bfs ms (fun j => j = ix v3) (stC (FdC M b) v2.toInt) (SPm M38 k) (QUm M38) (ix y6_38) (ix y7_38)) ∧ (y7_38.toInt ≤ y6_38.toInt ∧ y6_38.toInt ≤ (ms : Int)) ∧ (VQm M38 y6_38.toInt) ∧ (VLm M38 k)) (fun M38 y6_38 y7_38 => (42 - y7_38.toInt).toNat) (fun ag38 M38 y6_38 y7_38 hI38 ih38 => ?_) FU M_2 (nI 1) (nI 0) ⟨(by have f0 := t_lit 0; omega), (fun _ _ _ => rfl), (by decide), hF0, (by have f0 := t_lit 0; have f1 := t_lit 1; omega), q0, v0⟩ (fu_lt (by have f0 := t_lit 0; omega))
        obtain ⟨hi38, hf_M38, ht, hF, b38, q38, v38⟩ := hI38
        refine wp_ite (fun c42 => ?_) (fun c42 => ?_)
        · exact wp_some ⟨(fun a i q0 => ((hf_M38 a i (fun z8 => q0 ((fun z9 => Or.elim z9 (fun h9 => Or.inl h9) (fun h9 => Or.inr (h9))) z8))).trans ((congrFun (congrFun eM_2 a) i).trans ((mset_ne (fun h9 => q0 (Or.inl (h9).1))).trans ((congrFun (congrFun eM_1 a) i).trans ((mset_ne (fun h9 => q0 (Or.inr ((h9).1)))).trans rfl)))))), ⟨by have z1 := t_ixn y6_38 (by omega); have z2 := t_ixn y7_38 (by omega); have z3 : ix y7_38 = ix y6_38 := (by omega); rw [z3] at hF; exact hF, v38⟩, q38⟩
        · refine wp_ite (fun c49 => ?_) (fun c49 => ?_)
          · exact wp_some ⟨(fun a i q0 => ((hf_M38 a i (fun z8 => q0 ((fun z9 => Or.elim z9 (fun h9 => Or.inl h9) (fun h9 => Or.inr (h9))) z8))).trans ((congrFun (congrFun eM_2 a) i).trans ((mset_ne (fun h9 => q0 (Or.inl (h9).1))).trans ((congrFun (congrFun eM_1 a) i).trans ((mset_ne (fun h9 => q0 (Or.inr ((h9).1)))).trans rfl)))))), ⟨by have z1 := t_ixn y6_38 (by omega); have z2 := t_ixn y7_38 (by omega); have z3 : ix y7_38 = ix y6_38 := (by omega); rw [z3] at hF; exact hF, v38⟩, q38⟩
          · have hx := hF.1.1.2.1 (ix y7_38) (by have z1 := t_ixn y6_38 (by omega); have z2 := t_ixn y7_38 (by omega); omega)
            refine wp_gd (by omega) ?_
            refine wp_bnd (fun x_3 ex_3 => ?_)
            have x0 : 0 ≤ x_3.toInt := by
              rw [ex_3]
              exact q38 (ix y7_38) (by have z2 := t_ixn y7_38 (by omega); omega)
            have xq : QUm M38 (ix y7_38) = ix x_3 := by rw [ex_3]; rfl
            rw [xq] at hx
            have x42 : x_3.toInt < 42 := by have z := t_ixn x_3 x0; have z2 := hx.1; omega
            have j84 : ∀ (t0_84 : Int32), (t0_84 = M38 k (ix x_3) + nI 1) → Wp (f_X8_spreadOn_L84 b k len_k v2 v5 ag38 M38 y6_38 y7_38 x_3 t0_84) (fun q => (∀ a i, ¬ (a = 26 ∨ a = k) → q.2 a i = M a i) ∧ (Bfs ms (fun j => j = ix v3) (stC (FdC M b) v2.toInt) (SPm q.2 k) (QUm q.2) (ix q.1) (ix q.1) ∧ VLm q.2 k) ∧ (VQm q.2 q.1.toInt)) := by
              intro t0_84 h84
              unfold f_X8_spreadOn_L84
              refine wp_lp3 (fun M89 y6_89 y10_89 => (0 ≤ y10_89.toInt) ∧ (∀ a i, ¬ (a = 26 ∨ a = k) → M89 a i = M38 a i) ∧ (0 ≤ y6_89.toInt) ∧ (Bin ms (fun j => j = ix v3) (stC (FdC M b) v2.toInt) (SPm M89 k) (QUm M89) (ix y6_89) (ix y7_38) (ix y10_89)) ∧ (y7_38.toInt < y6_89.toInt ∧ y6_89.toInt ≤ (ms : Int) ∧ y10_89.toInt ≤ 42) ∧ (VQm M89 y6_89.toInt) ∧ (VLm M89 k) ∧ (M89 k (ix x_3) = M38 k (ix x_3)) ∧ (M89 26 (ix y7_38) = x_3)) (fun M89 y6_89 y10_89 => (42 - y10_89.toInt).toNat) (fun ag89 M89 y6_89 y10_89 hI89 ih89 => ?_) FU M38 y6_38 (nI 0) ⟨(by have f0 := t_lit 0; omega), (fun _ _ _ => rfl), ht, (by rw [show ix (nI 0) = 0 from (by decide)]; exact bfs_in hF (by have z1 := t_ixn y6_38 (by omega); have z2 := t_ixn y7_38 (by omega); omega)), ⟨by omega, by omega, by have := t_lit 0; omega⟩, q38, v38, rfl, ex_3.symm⟩ (fu_lt (by have f0 := t_lit 0; omega))
              obtain ⟨hi89, hf_M89, ht9, hN, b89, q89, v89, k89, x89⟩ := hI89
              have f89 : FdC M89 b = FdC M b := fdc_fr (fun a i h1 h2 => by rw [hf_M89 a i (by omega), hf_M38 a i (by omega), eM_2, mset_ne (by omega), eM_1, mset_ne (by omega)])
              have i10 := t_ixn y10_89 (by omega)
              refine wp_ite (fun c93 => ?_) (fun c93 => ?_)
              · exact ih38 M89 y6_89 (y7_38 + (nI 1)) ⟨(by have f0 := t_lit 1; have f1 := t_add y7_38 (nI 1); omega), (fun a i q0 => ((hf_M89 a i (fun z8 => q0 ((fun z9 => Or.elim z9 (fun h9 => Or.inl h9) (fun h9 => Or.inr (h9))) z8))).trans ((hf_M38 a i (fun z8 => q0 ((fun z9 => Or.elim z9 (fun h9 => Or.inl h9) (fun h9 => Or.inr (h9))) z8))).trans rfl))), ht9, (by rw [(i_up (x := y7_38) (by omega)).1]; exact bin_out hN (by have := hm.2; omega)), ⟨by rw [(i_up (x := y7_38) (by omega)).2]; omega, b89.2.1⟩, q89, v89⟩ (by have f0 := t_lit 1; have f1 := t_add y7_38 (nI 1); omega)
              · refine wp_ite (fun c100 => ?_) (fun c100 => ?_)
                · exact ih38 M89 y6_89 (y7_38 + (nI 1)) ⟨(by have f0 := t_lit 1; have f1 := t_add y7_38 (nI 1); omega), (fun a i q0 => ((hf_M89 a i (fun z8 => q0 ((fun z9 => Or.elim z9 (fun h9 => Or.inl h9) (fun h9 => Or.inr (h9))) z8))).trans ((hf_M38 a i (fun z8 => q0 ((fun z9 => Or.elim z9 (fun h9 => Or.inl h9) (fun h9 => Or.inr (h9))) z8))).trans rfl))), ht9, (by rw [(i_up (x := y7_38) (by omega)).1]; exact bin_out hN (by have := hm.2; omega)), ⟨by rw [(i_up (x := y7_38) (by omega)).2]; omega, b89.2.1⟩, q89, v89⟩ (by have f0 := t_lit 1; have f1 := t_add y7_38 (nI 1); omega)
                · have iy := i_up (x := y10_89) (by omega)
                  have hj : ix y10_89 < ms := by omega
                  refine wp_gd (by omega) ?_
                  refine wp_ite (fun c109 => ?_) (fun c109 => ?_)
                  · refine wp_ite (fun c116 => ?_) (fun c116 => ?_)
                    · exact ih89 M89 y6_89 (y10_89 + (nI 1)) ⟨(by have f0 := t_lit 1; have f1 := t_add y10_89 (nI 1); omega), (fun a i q0 => ((hf_M89 a i (fun z8 => q0 ((fun z9 => Or.elim z9 (fun h9 => Or.inl h9) (fun h9 => Or.inr (h9))) z8))).trans rfl)), (by omega), (False.elim (by have z := bin_room hN (show sp (M89 k (ix y10_89)).toInt = -1 by rw [c109, sp_n]) hj; have z2 := t_ixn y6_89 (by omega); omega)), ⟨b89.1, b89.2.1, by rw [iy.2]; omega⟩, q89, v89, k89, x89⟩ (by have f0 := t_lit 1; have f1 := t_add y10_89 (nI 1); omega)
                    · refine wp_bind2 (ow_X2_isStep hb M89 x_3 y10_89 v2 (by rw [f89]; exact hGd) ⟨x0, x42⟩ ⟨by omega, by omega⟩ hs) (fun r_4 he125 hq125 => ?_)
                      obtain ⟨hz_r_4, hst_125⟩ := hq125
                      replace hst_125 : ¬ r_4.toInt = 0 ↔ stC (FdC M89 b) v2.toInt (ix x_3) (ix y10_89) := hst_125
                      rw [f89] at hst_125
                      have xq9 : QUm M89 (ix y7_38) = ix x_3 := congrArg ix x89
                      refine wp_ite (fun c128 => ?_) (fun c128 => ?_)
                      · have hcn : ¬ (stC (FdC M b) v2.toInt) (QUm M89 (ix y7_38)) (ix y10_89) := fun z => hst_125.mpr (by rw [xq9] at z; exact z) c128
                        exact ih89 M89 y6_89 (y10_89 + (nI 1)) ⟨(by have f0 := t_lit 1; have f1 := t_add y10_89 (nI 1); omega), (fun a i q0 => ((hf_M89 a i (fun z8 => q0 ((fun z9 => Or.elim z9 (fun h9 => Or.inl h9) (fun h9 => Or.inr (h9))) z8))).trans rfl)), (by omega), (by rw [iy.1]; exact bin_skip hN (Or.inr (fun z => hcn z)) hj), ⟨b89.1, b89.2.1, by rw [iy.2]; omega⟩, q89, v89, k89, x89⟩ (by have f0 := t_lit 1; have f1 := t_add y10_89 (nI 1); omega)
                      · have hcc : (stC (FdC M b) v2.toInt) (QUm M89 (ix y7_38)) (ix y10_89) := by
                          rw [xq9]
                          exact hst_125.mp c128
                        have nx : ¬ ix x_3 = ix y10_89 := fun z => by
                          have y := hx.2.1
                          rw [z] at y
                          have w : M38 k (ix y10_89) = M89 k (ix y10_89) := by rw [← z]; exact k89.symm
                          exact y (by show sp (M38 k (ix y10_89)).toInt = -1; rw [w, c109, sp_n])
                        have h84s : sp t0_84.toInt = SPm M89 k (QUm M89 (ix y7_38)) + 1 := by
                          rw [xq9]
                          show sp t0_84.toInt = sp (M89 k (ix x_3)).toInt + 1
                          have vx := v89 (ix x_3) (by have := t_ixn x_3 x0; omega)
                          have nn : ¬ (M89 k (ix x_3)).toInt = -1 := fun z => hx.2.1 (by show sp (M38 k (ix x_3)).toInt = -1; rw [← k89, z, sp_n])
                          rw [h84, ← k89, t_inc _ 1 (by omega), sp_s (by omega), sp_s nn]
                          omega
                        have vx := v89 (ix x_3) (by have := t_ixn x_3 x0; omega)
                        have v84 : -1 ≤ t0_84.toInt ∧ t0_84.toInt ≤ 1000 := by
                          have w := hN.1.1.2.1 (ix y7_38) (by have z1 := t_ixn y6_89 (by omega); have z2 := t_ixn y7_38 (by omega); omega)
                          rw [xq9] at w
                          have w3 : sp (M89 k (ix x_3)).toInt ≤ ((ix y7_38 : Nat) : Int) + 1 := w.2.2
                          have nn : ¬ (M89 k (ix x_3)).toInt = -1 := fun z => w.2.1 (by show sp (M89 k (ix x_3)).toInt = -1; rw [z, sp_n])
                          rw [sp_s nn] at w3
                          have z2 := t_ixn y7_38 (by omega)
                          rw [h84, ← k89, t_inc _ 1 (by omega)]
                          omega
                        have iy6 := i_up (x := y6_89) (by omega)
                        have room : ix y6_89 < ms := bin_room hN (show sp (M89 k (ix y10_89)).toInt = -1 by rw [c109, sp_n]) hj
                        have i6 := t_ixn y6_89 (by omega)
                        refine wp_gd (by omega) ?_
                        refine wp_bnd (fun M_5 eM_5 => ?_)
                        refine wp_gd (by omega) ?_
                        refine wp_bnd (fun M_6 eM_6 => ?_)
                        exact ih89 M_6 (y6_89 + (nI 1)) (y10_89 + (nI 1)) ⟨(by have f0 := t_lit 1; have f1 := t_add y10_89 (nI 1); omega), (fun a i q0 => ((congrFun (congrFun eM_6 a) i).trans ((mset_ne (fun h9 => q0 (Or.inl (h9).1))).trans ((congrFun (congrFun eM_5 a) i).trans ((mset_ne (fun h9 => q0 (Or.inr ((h9).1)))).trans ((hf_M89 a i (fun z8 => q0 ((fun z9 => Or.elim z9 (fun h9 => Or.inl h9) (fun h9 => Or.inr (h9))) z8))).trans rfl)))))), (by have f0 := t_lit 1; have f1 := t_add y6_89 (nI 1); omega), (by rw [iy.1, iy6.1, spm_o eM_6 (by omega), spm_s eM_5, qum_s eM_6, qum_o eM_5 (by omega), h84s]; exact bin_push hN (by show sp (M89 k (ix y10_89)).toInt = -1; rw [c109, sp_n]) hcc hj), ⟨by rw [iy6.2]; omega, by rw [iy6.2]; omega, by rw [iy.2]; omega⟩, (vq_set (vq_oth q89 eM_5 (by omega)) eM_6 (t_ixn y6_89 (by omega)) iy6.2 (by omega)), (vl_oth (vl_set v89 eM_5 (by omega)) eM_6 (by omega)), (by rw [eM_6, mset_ne (by omega), eM_5, mset_ne (fun z => nx z.2)]; exact k89), (by rw [eM_6, mset_ne (fun z => by have z2 := z.2; have z3 := t_ixn y6_89 (by omega); have z4 := t_ixn y7_38 (by omega); omega), eM_5, mset_ne (by omega)]; exact x89)⟩ (by have f0 := t_lit 1; have f1 := t_add y10_89 (nI 1); omega)
                  · exact ih89 M89 y6_89 (y10_89 + (nI 1)) ⟨(by have f0 := t_lit 1; have f1 := t_add y10_89 (nI 1); omega), (fun a i q0 => ((hf_M89 a i (fun z8 => q0 ((fun z9 => Or.elim z9 (fun h9 => Or.inl h9) (fun h9 => Or.inr (h9))) z8))).trans rfl)), (by omega), (by rw [iy.1]; exact bin_skip hN (Or.inl (fun z => c109 ((sp_1 (v89 _ (by omega)).1).mp z))) hj), ⟨b89.1, b89.2.1, by rw [iy.2]; omega⟩, q89, v89, k89, x89⟩ (by have f0 := t_lit 1; have f1 := t_add y10_89 (nI 1); omega)
            have j83 : (False) → Wp (f_X8_spreadOn_L83 b k len_k v2 v5 ag38 M38 y6_38 y7_38 x_3) (fun q => (∀ a i, ¬ (a = 26 ∨ a = k) → q.2 a i = M a i) ∧ (Bfs ms (fun j => j = ix v3) (stC (FdC M b) v2.toInt) (SPm q.2 k) (QUm q.2) (ix q.1) (ix q.1) ∧ VLm q.2 k) ∧ (VQm q.2 q.1.toInt)) := by
              intro h83
              unfold f_X8_spreadOn_L83
              exact j84 (nI 0) h83.elim
            refine wp_ite (fun c63 => ?_) (fun c63 => ?_)
            · exact j83 (by omega)
            · refine wp_ite (fun c70 => ?_) (fun c70 => ?_)
              · exact j83 (by omega)
              · refine wp_gd (by have f0 := congrArg Int32.toInt ex_3; omega) ?_
                exact j84 ((M38 k (ix x_3)) + (nI 1)) rfl
      · exact wp_some ⟨(fun _ _ _ => rfl), (False.elim (by have z := nI_toInt hlk; have z2 := t_ixn v3 hst.1; rw [hlen] at z; omega)), (False.elim (by have z := nI_toInt hlk; have z2 := t_ixn v3 hst.1; rw [hlen] at z; omega))⟩
theorem oc_X8_spread {b : Nat} (hb : isF b) {k len_k : Nat} (hlk : len_k < 2 ^ 31) (M : Mem) (v2 : Int32) (v3 : Int32) (v5 : Int32) (hlen : len_k = 42) (hk : k = 24 ∨ k = 25) (ms : Nat) (hm : ms ≤ 42 ∧ v5.toInt = (ms : Int)) (hst : 0 ≤ v3.toInt ∧ ix v3 < ms) (hs : 1 ≤ v2.toInt ∧ v2.toInt ≤ 30) (hGd : GdF (FdC M b)) : Wp (f_X8_spread b k len_k M v2 v3 v5) (fun q => (∀ a i, ¬ (a = 26 ∨ a = k) → q.2 a i = M a i) ∧ (Bfs ms (fun j => j = ix v3) (stC (FdC M b) v2.toInt) (SPm q.2 k) (QUm q.2) (ix q.1) (ix q.1) ∧ VLm q.2 k) ∧ (VQm q.2 q.1.toInt)) := by
  have hb0 : b = 1 ∨ b = 7 ∨ b = 13 := hb
  refine wp_bind2 (ow_J7_fill_53178 hlk M (-1) (by omega)) (fun M_1 he3 hq3 => ?_)
  obtain ⟨hg_M_1, hfl_3⟩ := hq3
  replace hfl_3 : ∀ j, j < len_k → M_1 k j = (-1) := hfl_3
  replace hg_M_1 : ∀ a i, ¬ (a = k) → M_1 a i = M a i := by exact fun a i q0 => hg_M_1 a i (by omega)
  refine wp_cb2 (oc_X8_spreadOn hb hlk M_1 v2 v3 v5 hlen hk ms hm hst hs (by rw [show FdC M_1 b = FdC M b from fdc_fr (fun a i h1 h2 => hg_M_1 a i (by omega))]; exact hGd) (fun j hj => hfl_3 j (by omega))) (fun r_2 M_3 he14 hq14 => ?_)
  obtain ⟨hg_M_3, hB_14, hvq_14⟩ := hq14
  replace hB_14 : Bfs ms (fun j => j = ix v3) (stC (FdC M_1 b) v2.toInt) (SPm M_3 k) (QUm M_3) (ix r_2) (ix r_2) ∧ VLm M_3 k := hB_14
  replace hvq_14 : VQm M_3 r_2.toInt := hvq_14
  replace hg_M_3 : ∀ a i, ¬ (a = 26 ∨ a = k) → M_3 a i = M_1 a i := by exact fun a i q0 => hg_M_3 a i (by omega)
  exact wp_some ⟨(fun a i q0 => ((hg_M_3 a i (fun z8 => q0 ((fun z9 => Or.elim z9 (fun h9 => Or.inl h9) (fun h9 => Or.inr (h9))) z8))).trans ((hg_M_1 a i (fun h9 => q0 (Or.inr (h9)))).trans rfl))), (by rw [show FdC M_1 b = FdC M b from fdc_fr (fun a i h1 h2 => hg_M_1 a i (by omega))] at hB_14; exact hB_14), hvq_14⟩
set_option maxHeartbeats 4000000 in
theorem oc_X8_leadOn {b : Nat} (hb : isF b) (M : Mem) (v2 : Int32) (v3 : Int32) (hs : 1 ≤ v2.toInt ∧ v2.toInt ≤ 30) (hGd : GdF (FdC M b)) (hv3 : 0 ≤ v3.toInt ∧ v3.toInt < 42) (hv24 : VLm M 24) (hb27 : ∀ j, j < 42 → 0 ≤ (M 27 j).toInt ∧ (M 27 j).toInt ≤ 1000000000) : Wp (f_X8_leadOn b M v2 v3) (fun q => (∀ a i, ¬ (a = 27) → q a i = M a i) ∧ (LoI (fun j => (M 24 j).toInt = (M 24 (ix v3)).toInt + 1 ∧ stC (FdC M b) v2.toInt (ix v3) j) (M 27) (q 27) (ix v3) 42)) := by
  have hb0 : b = 1 ∨ b = 7 ∨ b = 13 := hb
  refine wp_ite (fun c1 => ?_) (fun c1 => ?_)
  · exact wp_some ⟨(fun _ _ _ => rfl), (False.elim (by omega))⟩
  · refine wp_ite (fun c7 => ?_) (fun c7 => ?_)
    · refine wp_lp2 (fun M14 y4_14 => (0 ≤ y4_14.toInt) ∧ (∀ a i, ¬ (a = 27) → M14 a i = M a i) ∧ (LoI (fun j => (M 24 j).toInt = (M 24 (ix v3)).toInt + 1 ∧ stC (FdC M b) v2.toInt (ix v3) j) (M 27) (M14 27) (ix v3) (ix y4_14)) ∧ (y4_14.toInt ≤ 42)) (fun M14 y4_14 => (42 - y4_14.toInt).toNat) (fun ag14 M14 y4_14 hI14 ih14 => ?_) FU M (nI 0) ⟨(by have f0 := t_lit 0; omega), (fun _ _ _ => rfl), (by rw [show ix (nI 0) = 0 from (by decide)]; exact lo_0), (by decide)⟩ (fu_lt (by have f0 := t_lit 0; omega))
      obtain ⟨hi14, hf_M14, lo, y42⟩ := hI14
      have f14 : FdC M14 b = (FdC M b) := fdc_fr (fun a i h1 h2 => hf_M14 a i (by omega))
      have ix3 := ix42 hv3.1 hv3.2
      have nx : ¬ ((M 24 (ix v3)).toInt = (M 24 (ix v3)).toInt + 1 ∧ stC (FdC M b) v2.toInt (ix v3) (ix v3)) := fun z => absurd z.1 (by omega)
      have vx := hv24 (ix v3) ix3
      have einc : (M 24 (ix v3) + nI 1).toInt = (M 24 (ix v3)).toInt + 1 := t_inc _ 1 (by omega)
      refine wp_ite (fun c18 => ?_) (fun c18 => ?_)
      · exact wp_some ⟨(fun a i q0 => ((hf_M14 a i (fun h9 => q0 (h9))).trans rfl)), (by rw [show ix y4_14 = 42 from (ix_eq (by omega) (by decide)).mpr (by omega)] at lo; exact lo)⟩
      · have u := i_up (x := y4_14) (by omega)
        have i42 := ix42 (v := y4_14) (by omega) (by omega)
        have e24 : M14 24 (ix y4_14) = M 24 (ix y4_14) := hf_M14 24 _ (by omega)
        have e24x : M14 24 (ix v3) = M 24 (ix v3) := hf_M14 24 _ (by omega)
        refine wp_gd (by omega) ?_
        refine wp_gd (by omega) ?_
        refine wp_ite (fun c36 => ?_) (fun c36 => ?_)
        · have e36 : (M 24 (ix y4_14)).toInt = (M 24 (ix v3)).toInt + 1 := by
            rw [e24, e24x, einc] at c36
            exact c36
          refine wp_bind2 (ow_X2_isStep hb M14 v3 y4_14 v2 (by rw [f14]; exact hGd) hv3 ⟨by omega, by omega⟩ hs) (fun r_1 he44 hq44 => ?_)
          obtain ⟨hz_r_1, hst_44⟩ := hq44
          replace hst_44 : ¬ r_1.toInt = 0 ↔ stC (FdC M14 b) v2.toInt (ix v3) (ix y4_14) := hst_44
          rw [f14] at hst_44
          refine wp_ite (fun c47 => ?_) (fun c47 => ?_)
          · exact ih14 M14 (y4_14 + (nI 1)) ⟨(by have f0 := t_lit 1; have f1 := t_add y4_14 (nI 1); have f2 := congrArg Int32.toInt (hf_M14 24 (ix y4_14) (by omega)); have f3 := t_add (M14 24 (ix v3)) (nI 1); have f4 := congrArg Int32.toInt (hf_M14 24 (ix v3) (by omega)); omega), (fun a i q0 => ((hf_M14 a i (fun h9 => q0 (h9))).trans rfl)), (by rw [u.1]; exact lo_n lo (fun z => hst_44.mpr z.2 c47)), (by rw [u.2]; omega)⟩ (by have f0 := t_lit 1; have f1 := t_add y4_14 (nI 1); have f2 := congrArg Int32.toInt (hf_M14 24 (ix y4_14) (by omega)); have f3 := t_add (M14 24 (ix v3)) (nI 1); have f4 := congrArg Int32.toInt (hf_M14 24 (ix v3) (by omega)); omega)
          · refine wp_gd (by have f0 := congrArg Int32.toInt (hf_M14 24 (ix y4_14) (by omega)); have f1 := t_lit 1; have f2 := t_add (M14 24 (ix v3)) (nI 1); have f3 := congrArg Int32.toInt (hf_M14 24 (ix v3) (by omega)); omega) ?_
            refine wp_gd (by have f0 := congrArg Int32.toInt (hf_M14 24 (ix y4_14) (by omega)); have f1 := t_lit 1; have f2 := t_add (M14 24 (ix v3)) (nI 1); have f3 := congrArg Int32.toInt (hf_M14 24 (ix v3) (by omega)); omega) ?_
            refine wp_gd (by have f0 := congrArg Int32.toInt (hf_M14 24 (ix y4_14) (by omega)); have f1 := t_lit 1; have f2 := t_add (M14 24 (ix v3)) (nI 1); have f3 := congrArg Int32.toInt (hf_M14 24 (ix v3) (by omega)); omega) ?_
            refine wp_bnd (fun M_2 eM_2 => ?_)
            exact ih14 M_2 (y4_14 + (nI 1)) ⟨(by have f0 := t_lit 1; have f1 := t_add y4_14 (nI 1); have f2 := congrArg Int32.toInt (hf_M14 24 (ix y4_14) (by omega)); have f3 := t_add (M14 24 (ix v3)) (nI 1); have f4 := congrArg Int32.toInt (hf_M14 24 (ix v3) (by omega)); omega), (fun a i q0 => ((congrFun (congrFun eM_2 a) i).trans ((mset_ne (fun h9 => q0 ((h9).1))).trans ((hf_M14 a i (fun h9 => q0 (h9))).trans rfl)))), (by rw [u.1]; exact lo_y lo ⟨e36, hst_44.mp c47⟩ i42 nx ix3 hb27 (by rw [eM_2, mset_s]) rfl), (by rw [u.2]; omega)⟩ (by have f0 := t_lit 1; have f1 := t_add y4_14 (nI 1); have f2 := congrArg Int32.toInt (hf_M14 24 (ix y4_14) (by omega)); have f3 := t_add (M14 24 (ix v3)) (nI 1); have f4 := congrArg Int32.toInt (hf_M14 24 (ix v3) (by omega)); omega)
        · exact ih14 M14 (y4_14 + (nI 1)) ⟨(by have f0 := t_lit 1; have f1 := t_add y4_14 (nI 1); have f2 := congrArg Int32.toInt (hf_M14 24 (ix y4_14) (by omega)); have f3 := t_add (M14 24 (ix v3)) (nI 1); have f4 := congrArg Int32.toInt (hf_M14 24 (ix v3) (by omega)); omega), (fun a i q0 => ((hf_M14 a i (fun h9 => q0 (h9))).trans rfl)), (by rw [u.1]; exact lo_n lo (fun z => c36 (by rw [e24, e24x, einc]; exact z.1))), (by rw [u.2]; omega)⟩ (by have f0 := t_lit 1; have f1 := t_add y4_14 (nI 1); have f2 := congrArg Int32.toInt (hf_M14 24 (ix y4_14) (by omega)); have f3 := t_add (M14 24 (ix v3)) (nI 1); have f4 := congrArg Int32.toInt (hf_M14 24 (ix v3) (by omega)); omega)
    · exact wp_some ⟨(fun _ _ _ => rfl), (False.elim (by omega))⟩
set_option maxHeartbeats 4000000 in
theorem oc_X8_countRows {b : Nat} (hb : isF b) (M : Mem) (v2 : Int32) (v3 : Int32) (hs : 1 ≤ v2.toInt ∧ v2.toInt ≤ 30) (hGd : GdF (FdC M b)) (hB : Bfs 42 (fun j => j = 40) (stC (FdC M b) v2.toInt) (SPm M 24) (QUm M) (ix v3) (ix v3)) (hv24 : VLm M 24) (hvq : VQm M v3.toInt) : Wp (f_X8_countRows b M v2 v3) (fun q => (∀ a i, ¬ (a = 27) → q.2 a i = M a i) ∧ (¬ (M 24 41).toInt = -1 → q.1.toInt = ((sat (Wc (FdC M b) v2.toInt (kS (SPm M 24) 41) 41) : Nat) : Int))) := by
  have hb0 : b = 1 ∨ b = 7 ∨ b = 13 := hb
  have hE := bfs_end hB (Nat.le_refl _)
  have n42 : ix v3 ≤ 42 := by
    have z := hB.1.1.1
    have z2 := cN_le (SPm M 24) 42
    omega
  have n1 : 0 < ix v3 := by
    obtain ⟨t, ht, -⟩ := hB.1.1.2.2 40 (by omega) (by rw [(hB.1.2.2.2.1 40 (by omega)).mpr rfl]; decide)
    omega
  have v0 : 0 ≤ v3.toInt := by
    have z := t_ix v3
    omega
  have i3 := t_ixn v3 v0
  refine wp_bind2 (ow_J7_fill_53178 (by decide) M (nI 0) (by omega)) (fun M_1 he5 hq5 => ?_)
  obtain ⟨hg_M_1, hfl_5⟩ := hq5
  replace hfl_5 : ∀ j, j < 42 → M_1 27 j = (nI 0) := hfl_5
  have := t_lit 0
  replace hg_M_1 : ∀ a i, ¬ (a = 27) → M_1 a i = M a i := by exact fun a i q0 => hg_M_1 a i (by omega)
  refine wp_bnd (fun M_2 eM_2 => ?_)
  refine wp_lp2 (fun M19 y4_19 => (0 ≤ y4_19.toInt) ∧ (∀ a i, ¬ (a = 27) → M19 a i = M_2 a i) ∧ (RwI (FdC M b) v2.toInt (SPm M 24) (QUm M) (M19 27) (ix y4_19)) ∧ (y4_19.toInt ≤ v3.toInt)) (fun M19 y4_19 => (42 - y4_19.toInt).toNat) (fun ag19 M19 y4_19 hI19 ih19 => ?_) FU M_2 (nI 0) ⟨(by have f0 := t_lit 0; omega), (fun _ _ _ => rfl), (by rw [show ix (nI 0) = 0 from (by decide)]; exact rwi_0 (fun j hj => by rw [eM_2, mset_get]; by_cases c : j = 40; (rw [if_pos ⟨rfl, c⟩, if_pos c]); (rw [if_neg (fun z => c z.2), if_neg c]; exact hfl_5 j (by omega)))), (by rw [nI0]; exact v0)⟩ (fu_lt (by have f0 := t_lit 0; omega))
  obtain ⟨hi19, hf_M19, hr, y19⟩ := hI19
  have f19 : FdC M19 b = (FdC M b) := fdc_fr (fun a i h1 h2 => by rw [hf_M19 a i (by omega), eM_2, mset_ne (by omega), hg_M_1 a i (by omega)])
  have r24 : ∀ j, M19 24 j = M 24 j := fun j => by rw [hf_M19 24 j (by omega), eM_2, mset_ne (by omega), hg_M_1 24 j (by omega)]
  have r26 : ∀ j, M19 26 j = M 26 j := fun j => by rw [hf_M19 26 j (by omega), eM_2, mset_ne (by omega), hg_M_1 26 j (by omega)]
  refine wp_ite (fun c22 => ?_) (fun c22 => ?_)
  · exact wp_some ⟨(fun a i q0 => ((hf_M19 a i (fun h9 => q0 (h9))).trans ((congrFun (congrFun eM_2 a) i).trans ((mset_ne (fun h9 => q0 ((h9).1))).trans ((hg_M_1 a i (fun h9 => q0 (h9))).trans rfl))))), (fun hn => by have e := hr 41 (by omega); rw [show ix y4_19 = ix v3 from (by have z := t_ixn y4_19 (by omega); omega), rw_all hB.1.1 hE (by omega) (fun z => hn ((sp_1 (hv24 41 (by omega)).1).mp z))] at e; exact e)⟩
  · refine wp_ite (fun c29 => ?_) (fun c29 => ?_)
    · exact wp_some ⟨(fun a i q0 => ((hf_M19 a i (fun h9 => q0 (h9))).trans ((congrFun (congrFun eM_2 a) i).trans ((mset_ne (fun h9 => q0 ((h9).1))).trans ((hg_M_1 a i (fun h9 => q0 (h9))).trans rfl))))), (fun hn => by have e := hr 41 (by omega); rw [show ix y4_19 = ix v3 from (by have z := t_ixn y4_19 (by omega); omega), rw_all hB.1.1 hE (by omega) (fun z => hn ((sp_1 (hv24 41 (by omega)).1).mp z))] at e; exact e)⟩
    · have u := i_up (x := y4_19) (by omega)
      have i4 := t_ixn y4_19 (by omega)
      have lt : ix y4_19 < ix v3 := by omega
      have hx := hB.1.1.2.1 (ix y4_19) lt
      have hx0 : 0 ≤ (M 26 (ix y4_19)).toInt := hvq (ix y4_19) (by omega)
      have eq0 : QUm M (ix y4_19) = ix (M 26 (ix y4_19)) := rfl
      rw [eq0] at hx
      have hx42 : (M 26 (ix y4_19)).toInt < 42 := by have z := t_ixn _ hx0; have z2 := hx.1; omega
      have hxn : ¬ (M 24 (ix (M 26 (ix y4_19)))).toInt = -1 := fun z => hx.2.1 ((sp_1 (hv24 _ hx.1).1).mpr z)
      refine wp_gd (by omega) ?_
      refine wp_bind2 (oc_X8_leadOn hb M19 v2 (M19 26 (ix y4_19)) hs (by rw [f19]; exact hGd) (by rw [r26]; exact ⟨hx0, hx42⟩) (fun j hj => by rw [r24]; exact hv24 j hj) (rwi_b hr)) (fun M_3 he42 hq42 => ?_)
      obtain ⟨hg_M_3, hl_42⟩ := hq42
      replace hl_42 : LoI (fun j => (M19 24 j).toInt = (M19 24 (ix (M19 26 (ix y4_19)))).toInt + 1 ∧ stC (FdC M19 b) v2.toInt (ix (M19 26 (ix y4_19))) j) (M19 27) (M_3 27) (ix (M19 26 (ix y4_19))) 42 := hl_42
      replace hg_M_3 : ∀ a i, ¬ (a = 27) → M_3 a i = M19 a i := by exact fun a i q0 => hg_M_3 a i (by omega)
      rw [f19, r26] at hl_42
      exact ih19 M_3 (y4_19 + (nI 1)) ⟨(by have f0 := t_lit 1; have f1 := t_add y4_19 (nI 1); omega), (fun a i q0 => ((hg_M_3 a i (fun h9 => q0 (h9))).trans ((hf_M19 a i (fun h9 => q0 (h9))).trans rfl))), (by rw [u.1]; exact rwi_s hr hB hE lt eq0 hl_42 (fun j hj => by rw [r24, r24, spm_up hv24 hx.1 hj hxn])), (by rw [u.2]; omega)⟩ (by have f0 := t_lit 1; have f1 := t_add y4_19 (nI 1); omega)
theorem oc_X8_lowestOnward {b : Nat} (hb : isF b) (M : Mem) (v2 : Int32) (v3 : Int32) (v4 : Int32) (hs : 1 ≤ v2.toInt ∧ v2.toInt ≤ 30) (hGd : GdF (FdC M b)) (hv3 : 0 ≤ v3.toInt ∧ v3.toInt < 42) : Wp (f_X8_lowestOnward b M v2 v3 v4) (fun q => ((q.toInt = -2 ∧ ∀ j, ¬ (fun j => j < 40 ∧ (M 25 j).toInt = v4.toInt ∧ stC (FdC M b) v2.toInt (ix v3) j) j) ∨ ((0 ≤ q.toInt ∧ q.toInt < 40) ∧ LeP (fun j => j < 40 ∧ (M 25 j).toInt = v4.toInt ∧ stC (FdC M b) v2.toInt (ix v3) j) (ix q)))) := by
  have hb0 : b = 1 ∨ b = 7 ∨ b = 13 := hb
  refine wp_lp1 (fun y5_3 => (0 ≤ y5_3.toInt) ∧ (∀ j, j < ix y5_3 → ¬ (fun j => j < 40 ∧ (M 25 j).toInt = v4.toInt ∧ stC (FdC M b) v2.toInt (ix v3) j) j) ∧ (y5_3.toInt ≤ 40)) (fun y5_3 => (40 - y5_3.toInt).toNat) (fun ag3 y5_3 hI3 ih3 => ?_) FU (nI 0) ⟨(by have f0 := t_lit 0; omega), (fun j hj => absurd hj (by rw [show ix (nI 0) = 0 from (by decide)]; omega)), (by decide)⟩ (fu_lt (by have f0 := t_lit 0; omega))
  obtain ⟨hi3, h3, y40⟩ := hI3
  refine wp_ite (fun c7 => ?_) (fun c7 => ?_)
  · exact wp_some (Or.inl ⟨(show (-2 : Int32).toInt = -2 by decide), fun j z => h3 j (by rw [e40 hi3 c7 y40]; exact z.1) z⟩)
  · have u := up40 hi3 c7
    refine wp_gd (by omega) ?_
    refine wp_ite (fun c19 => ?_) (fun c19 => ?_)
    · refine wp_bind2 (ow_X2_isStep hb M v3 y5_3 v2 hGd hv3 ⟨hi3, by omega⟩ hs) (fun r_1 he27 hq27 => ?_)
      obtain ⟨hz_r_1, hst_27⟩ := hq27
      replace hst_27 : ¬ r_1.toInt = 0 ↔ stC (FdC M b) v2.toInt (ix v3) (ix y5_3) := hst_27
      refine wp_ite (fun c30 => ?_) (fun c30 => ?_)
      · exact ih3 (y5_3 + (nI 1)) ⟨(by have f0 := t_lit 1; have f1 := t_add y5_3 (nI 1); omega), (by rw [u.1]; exact lo_nx h3 (fun z => hst_27.mpr z.2.2 c30)), (le40 hi3 c7)⟩ (by have f0 := t_lit 1; have f1 := t_add y5_3 (nI 1); omega)
      · exact wp_some (Or.inr ⟨⟨hi3, u.2.2⟩, ⟨u.2.1, c19, hst_27.mp c30⟩, h3⟩)
    · exact ih3 (y5_3 + (nI 1)) ⟨(by have f0 := t_lit 1; have f1 := t_add y5_3 (nI 1); omega), (by rw [u.1]; exact lo_nx h3 (fun z => c19 z.2.1)), (le40 hi3 c7)⟩ (by have f0 := t_lit 1; have f1 := t_add y5_3 (nI 1); omega)
set_option maxHeartbeats 4000000 in
theorem oc_X8_stoneOfLeastRow {b : Nat} (hb : isF b) (M : Mem) (v2 : Int32) (v3 : Int32) (v4 : Int32) (hs : 1 ≤ v2.toInt ∧ v2.toInt ≤ 30) (hGd : GdF (FdC M b)) (hcr : CrK (FdC M b) v2.toInt v3.toInt) (hv3 : 2 ≤ v3.toInt) (hv4 : (0 ≤ v4.toInt ∧ v4.toInt < 40) ∧ v4.toInt < v3.toInt - 1) : Wp (f_X8_stoneOfLeastRow b M v2 v3 v4) (fun q => (∀ a i, ¬ (a = 25 ∨ a = 26) → q.2 a i = M a i) ∧ (∃ i : Nat, q.1.toInt = (i : Int) ∧ LrP (FdC M b) v2.toInt (v3.toInt - 2).toNat v4.toInt.toNat i)) := by
  have hb0 : b = 1 ∨ b = 7 ∨ b = 13 := hb
  refine wp_cb2 (oc_X8_spread hb (by decide) M v2 (nI 41) (nI 42) rfl (Or.inr rfl) 42 ⟨by omega, t_lit 42⟩ (by decide) hs hGd) (fun r_1 M_2 he11 hq11 => ?_)
  obtain ⟨hg_M_2, hB_11, hvq_11⟩ := hq11
  replace hB_11 : Bfs 42 (fun j => j = ix (nI 41)) (stC (FdC M b) v2.toInt) (SPm M_2 25) (QUm M_2) (ix r_1) (ix r_1) ∧ VLm M_2 25 := hB_11
  have := t_lit 41
  have := t_lit 42
  replace hvq_11 : VQm M_2 r_1.toInt := hvq_11
  have := t_lit 41
  have := t_lit 42
  replace hg_M_2 : ∀ a i, ¬ (a = 25 ∨ a = 26) → M_2 a i = M a i := by exact fun a i q0 => hg_M_2 a i (by omega)
  have hE := bfs_end hB_11.1 (Nat.le_refl _)
  rw [show ix (nI 41) = 41 from (by decide)] at hE
  have vl := hB_11.2
  have f2 : FdC M_2 b = (FdC M b) := fdc_fr (fun a i h1 h2 => hg_M_2 a i (by omega))
  obtain ⟨n, en⟩ : ∃ n : Nat, v3.toInt = (n : Int) + 2 := ⟨(v3.toInt - 2).toNat, by omega⟩
  have enn : (v3.toInt - 2).toNat = n := by omega
  have hcn := hcr
  rw [en] at hcn
  rw [enn]
  have s0 : 0 ≤ v2.toInt := by omega
  refine wp_lp2 (fun y5_22 y6_22 => (0 ≤ y6_22.toInt) ∧ (SlI (FdC M b) v2.toInt n 40 y5_22 (ix y6_22)) ∧ (y6_22.toInt ≤ v4.toInt + 1)) (fun y5_22 y6_22 => (40 - y6_22.toInt).toNat) (fun ag22 y5_22 y6_22 hI22 ih22 => ?_) FU (nI 40) (nI 0) ⟨(by have f0 := t_lit 0; omega), (Or.inl ⟨by decide, by decide⟩), (by rw [nI0]; omega)⟩ (fu_lt (by have f0 := t_lit 0; omega))
  obtain ⟨hi22, h22, y22⟩ := hI22
  refine wp_ite (fun c26 => ?_) (fun c26 => ?_)
  · exact wp_some ⟨(fun a i q0 => ((hg_M_2 a i (fun z8 => q0 ((fun z9 => Or.elim z9 (fun h9 => Or.inl h9) (fun h9 => Or.inr (h9))) z8))).trans rfl)), (sl_end h22 (by have z := t_ixn y6_22 (by omega); omega))⟩
  · refine wp_ite (fun c33 => ?_) (fun c33 => ?_)
    · exact wp_some ⟨(fun a i q0 => ((hg_M_2 a i (fun z8 => q0 ((fun z9 => Or.elim z9 (fun h9 => Or.inl h9) (fun h9 => Or.inr (h9))) z8))).trans rfl)), (sl_end h22 (by have z := t_ixn y6_22 (by omega); omega))⟩
    · have u := i_up (x := y6_22) (by omega)
      have i6 := t_ixn y6_22 (by omega)
      have kn : ix y6_22 ≤ n := by omega
      have tg : ((v3 - nI 1) - y6_22).toInt = ((n - ix y6_22 : Nat) : Int) + 1 := by
        have f1 := t_sub v3 (nI 1)
        have f2 := t_sub (v3 - nI 1) y6_22
        have f3 := nI1
        omega
      refine wp_bind2 (oc_X8_lowestOnward hb M_2 v2 y5_22 ((v3 - (nI 1)) - y6_22) hs (by rw [f2]; exact hGd) (sl_42 h22)) (fun r_3 he47 hq47 => ?_)
      have hlo_47 := hq47
      replace hlo_47 : (r_3.toInt = -2 ∧ ∀ j, ¬ (fun j => j < 40 ∧ (M_2 25 j).toInt = ((v3 - (nI 1)) - y6_22).toInt ∧ stC (FdC M_2 b) v2.toInt (ix y5_22) j) j) ∨ ((0 ≤ r_3.toInt ∧ r_3.toInt < 40) ∧ LeP (fun j => j < 40 ∧ (M_2 25 j).toInt = ((v3 - (nI 1)) - y6_22).toInt ∧ stC (FdC M_2 b) v2.toInt (ix y5_22) j) (ix r_3)) := hlo_47
      rw [f2, tg] at hlo_47
      have eqv : ∀ j, (j < 40 ∧ (M_2 25 j).toInt = ((n - ix y6_22 : Nat) : Int) + 1 ∧ stC (FdC M b) v2.toInt (ix y5_22) j) ↔ NxP (FdC M b) v2.toInt n (ix y6_22) (ix y5_22) j := fun j => nx_c hGd s0 hE vl hcn kn h22
      obtain ⟨j9, hj9⟩ := nx_on hcn h22 kn
      have hlo := hlo_47.resolve_left (fun z => z.2 j9 ((eqv j9).mpr hj9))
      exact ih22 r_3 (y6_22 + (nI 1)) ⟨(by have f0 := t_lit 1; have f1 := t_add y6_22 (nI 1); omega), (by rw [u.1]; exact sl_up h22 hlo.1 ((eqv _).mp hlo.2.1) (fun j hj z => hlo.2.2 j hj ((eqv j).mpr z))), (by rw [u.2]; omega)⟩ (by have f0 := t_lit 1; have f1 := t_add y6_22 (nI 1); omega)
set_option maxHeartbeats 4000000 in
theorem oc_X8_crossing {b : Nat} (hb : isF b) (M : Mem) (v2 : Int32) (v3 : Int32) (hs : 1 ≤ v2.toInt ∧ v2.toInt ≤ 30) (hGd : GdF (FdC M b)) (hw : CsW v3) : Wp (f_X8_crossing b M v2 v3) (fun q => (∀ a i, ¬ (a = 24 ∨ a = 25 ∨ a = 26 ∨ a = 27) → q.2 a i = M a i) ∧ (CsQ (FdC M b) v2.toInt v3.toInt q.1.toInt)) := by
  have hb0 : b = 1 ∨ b = 7 ∨ b = 13 := hb
  refine wp_cb2 (oc_X8_spread hb (by decide) M v2 (nI 40) (nI 42) rfl (Or.inl rfl) 42 ⟨by omega, t_lit 42⟩ (by decide) hs hGd) (fun r_1 M_2 he11 hq11 => ?_)
  obtain ⟨hg_M_2, hB_11, hvq_11⟩ := hq11
  replace hB_11 : Bfs 42 (fun j => j = ix (nI 40)) (stC (FdC M b) v2.toInt) (SPm M_2 24) (QUm M_2) (ix r_1) (ix r_1) ∧ VLm M_2 24 := hB_11
  have := t_lit 40
  have := t_lit 42
  replace hvq_11 : VQm M_2 r_1.toInt := hvq_11
  have := t_lit 40
  have := t_lit 42
  replace hg_M_2 : ∀ a i, ¬ (a = 24 ∨ a = 26) → M_2 a i = M a i := by exact fun a i q0 => hg_M_2 a i (by omega)
  have hE := bfs_end hB_11.1 (Nat.le_refl _)
  rw [show ix (nI 40) = 40 from (by decide)] at hE
  have hcr := crk_c hGd (by omega) hE (show SPm M_2 24 41 = sp (M_2 24 41).toInt from rfl) (hB_11.2 41 (by omega)).1
  have f2 : FdC M_2 b = (FdC M b) := fdc_fr (fun a i h1 h2 => hg_M_2 a i (by omega))
  have hB2 := hB_11.1
  rw [show ix (nI 40) = 40 from (by decide)] at hB2
  refine wp_bnd (fun x_3 ex_3 => ?_)
  have hv_x_3 := congrArg Int32.toInt ex_3
  rw [← ex_3] at hcr
  have hb3 := crk_b hcr
  refine wp_ite (fun c28 => ?_) (fun c28 => ?_)
  · exact wp_some ⟨(fun a i q0 => ((hg_M_2 a i (fun z8 => q0 ((fun z9 => Or.elim z9 (fun h9 => Or.inl h9) (fun h9 => Or.inr (Or.inr (Or.inl h9)))) z8))).trans rfl)), ⟨_, hcr, Or.inl ⟨c28, (show (-2 : Int32).toInt = -2 by decide)⟩⟩⟩
  · have h1 := hb3.resolve_left c28
    have e1 : (x_3 - nI 1).toInt = x_3.toInt - 1 := by
      have f1 := t_sub x_3 (nI 1)
      have f3 := nI1
      omega
    refine wp_ite (fun c37 => ?_) (fun c37 => ?_)
    · exact wp_some ⟨(fun a i q0 => ((hg_M_2 a i (fun z8 => q0 ((fun z9 => Or.elim z9 (fun h9 => Or.inl h9) (fun h9 => Or.inr (Or.inr (Or.inl h9)))) z8))).trans rfl)), ⟨_, hcr, Or.inr ⟨c28, Or.inl ⟨c37, rfl⟩⟩⟩⟩
    · refine wp_ite (fun c46 => ?_) (fun c46 => ?_)
      · refine wp_cb2 (oc_X8_countRows hb M_2 v2 r_1 hs (by rw [f2]; exact hGd) (by rw [f2]; exact hB2) hB_11.2 hvq_11) (fun r_6 M_7 he54 hq54 => ?_)
        obtain ⟨hg_M_7, hq_54⟩ := hq54
        replace hq_54 : ¬ (M_2 24 41).toInt = -1 → r_6.toInt = ((sat (Wc (FdC M_2 b) v2.toInt (kS (SPm M_2 24) 41) 41) : Nat) : Int) := hq_54
        replace hg_M_7 : ∀ a i, ¬ (a = 27) → M_7 a i = M_2 a i := by exact fun a i q0 => hg_M_7 a i (by omega)
        exact wp_some ⟨(fun a i q0 => ((hg_M_7 a i (fun h9 => q0 (Or.inr (Or.inr (Or.inr (h9)))))).trans ((hg_M_2 a i (fun z8 => q0 ((fun z9 => Or.elim z9 (fun h9 => Or.inl h9) (fun h9 => Or.inr (Or.inr (Or.inl h9)))) z8))).trans rfl))), (by rw [f2] at hq_54; exact ⟨_, hcr, Or.inr ⟨c28, Or.inr (Or.inl ⟨c46, rwp_c hGd (by omega) hE hcr (by show sp (M_2 24 41).toInt = _; rw [ex_3]) c28 (hq_54 (by rw [← ex_3]; exact c28))⟩)⟩⟩)⟩
      · have w40 : 0 ≤ v3.toInt ∧ v3.toInt < 40 := by
          rcases hw with z | z | z
          · exact z
          · exact absurd z c37
          · exact absurd z c46
        refine wp_ite (fun c63 => ?_) (fun c63 => ?_)
        · rw [e1] at c63
          refine wp_cb2 (oc_X8_stoneOfLeastRow hb M_2 v2 x_3 v3 hs (by rw [f2]; exact hGd) (by rw [f2]; exact hcr) (by omega) ⟨w40, c63⟩) (fun r_4 M_5 he77 hq77 => ?_)
          obtain ⟨hg_M_5, hq_77⟩ := hq77
          replace hq_77 : ∃ i : Nat, r_4.toInt = (i : Int) ∧ LrP (FdC M_2 b) v2.toInt (x_3.toInt - 2).toNat v3.toInt.toNat i := hq_77
          replace hg_M_5 : ∀ a i, ¬ (a = 25 ∨ a = 26) → M_5 a i = M_2 a i := by exact fun a i q0 => hg_M_5 a i (by omega)
          exact wp_some ⟨(fun a i q0 => ((hg_M_5 a i (fun z8 => q0 ((fun z9 => Or.elim z9 (fun h9 => Or.inr (Or.inl h9)) (fun h9 => Or.inr (Or.inr (Or.inl h9)))) z8))).trans ((hg_M_2 a i (fun z8 => q0 ((fun z9 => Or.elim z9 (fun h9 => Or.inl h9) (fun h9 => Or.inr (Or.inr (Or.inl h9)))) z8))).trans rfl))), (by rw [f2] at hq_77; exact ⟨_, hcr, Or.inr ⟨c28, Or.inr (Or.inr (Or.inr ⟨⟨c37, c46⟩, c63, hq_77⟩))⟩⟩)⟩
        · rw [e1] at c63
          exact wp_some ⟨(fun a i q0 => ((hg_M_2 a i (fun z8 => q0 ((fun z9 => Or.elim z9 (fun h9 => Or.inl h9) (fun h9 => Or.inr (Or.inr (Or.inl h9)))) z8))).trans rfl)), ⟨_, hcr, Or.inr ⟨c28, Or.inr (Or.inr (Or.inl ⟨⟨c37, c46⟩, by omega, (show (-4 : Int32).toInt = -4 by decide)⟩))⟩⟩⟩
theorem oc_X9_isStone (M : Mem) (v0 : Int32) : Wp (f_X9_isStone v0) (fun q => (q = 0 ∨ q = 1) ∧ (¬ q.toInt = 0 ↔ 0 ≤ v0.toInt ∧ v0.toInt < 40)) := by
  refine wp_ite (fun c1 => ?_) (fun c1 => ?_)
  · exact wp_some ⟨b01_0, ⟨fun z => absurd nI0 z, fun z => absurd z (by omega)⟩⟩
  · refine wp_ite (fun c7 => ?_) (fun c7 => ?_)
    · exact wp_some ⟨b01_0, ⟨fun z => absurd nI0 z, fun z => absurd z (by omega)⟩⟩
    · exact wp_some ⟨b01_1, ⟨fun _ => by omega, fun _ => by decide⟩⟩
theorem oc_X9_cross (M : Mem) (v1 : Int32) (v2 : Int32) (hGd : GdF (FdC M 1)) (hSr : SrC M) : Wp (f_X9_cross M v1 v2) (fun q => (∀ a i, ¬ (a = 24 ∨ a = 25 ∨ a = 26 ∨ a = 27) → q.2 a i = M a i) ∧ (PqP (TpC M v1 ∧ CsW v2) (CsQ (FdC M 1) (M 43 (ix v1)).toInt v2.toInt q.1.toInt) q.1)) := by
  refine wp_bind2 (oq_X9_strideOf M v1) (fun r_1 he2 hq2 => ?_)
  obtain ⟨hi_2, hv_2⟩ := hq2
  replace hi_2 : ¬ r_1.toInt = 0 ↔ TpC M v1 := hi_2
  replace hv_2 : ¬ r_1.toInt = 0 → r_1 = M 43 (ix v1) := hv_2
  refine wp_ite (fun c7 => ?_) (fun c7 => ?_)
  · exact wp_some ⟨(fun _ _ _ => rfl), (pq_n (fun z => hi_2.mpr z.1 c7) rfl)⟩
  · have ht := hi_2.mp c7
    have es := hv_2 c7
    have sr := hSr (ix v1) (ix8 ht.1) ht.2
    refine wp_bind2 (oc_X9_isStone M v2) (fun r_2 he11 hq11 => ?_)
    obtain ⟨hz_r_2, hr_11⟩ := hq11
    replace hr_11 : ¬ r_2.toInt = 0 ↔ 0 ≤ v2.toInt ∧ v2.toInt < 40 := hr_11
    have j31 : (CsW v2) → Wp (f_X9_cross_L31 M v2 r_1) (fun q => (∀ a i, ¬ (a = 24 ∨ a = 25 ∨ a = 26 ∨ a = 27) → q.2 a i = M a i) ∧ (PqP (TpC M v1 ∧ CsW v2) (CsQ (FdC M 1) (M 43 (ix v1)).toInt v2.toInt q.1.toInt) q.1)) := by
      intro h31
      unfold f_X9_cross_L31
      refine wp_cb2 (oc_X8_crossing (Or.inl rfl) M r_1 v2 (by rw [es]; exact sr) hGd h31) (fun r_3 M_4 he41 hq41 => ?_)
      obtain ⟨hg_M_4, hq_41⟩ := hq41
      replace hq_41 : CsQ (FdC M 1) r_1.toInt v2.toInt r_3.toInt := hq_41
      replace hg_M_4 : ∀ a i, ¬ (a = 24 ∨ a = 25 ∨ a = 26 ∨ a = 27) → M_4 a i = M a i := by exact fun a i q0 => hg_M_4 a i (by omega)
      rw [es] at hq_41
      exact wp_some ⟨(fun a i q0 => ((hg_M_4 a i (fun z8 => q0 ((fun z9 => Or.elim z9 (fun h9 => Or.inl h9) (fun z9 => Or.elim z9 (fun h9 => Or.inr (Or.inl h9)) (fun z9 => Or.elim z9 (fun h9 => Or.inr (Or.inr (Or.inl h9))) (fun h9 => Or.inr (Or.inr (Or.inr (h9))))))) z8))).trans rfl)), (pq_y ⟨ht, h31⟩ hq_41)⟩
    refine wp_ite (fun c14 => ?_) (fun c14 => ?_)
    · refine wp_ite (fun c20 => ?_) (fun c20 => ?_)
      · exact j31 (Or.inr (Or.inl c20))
      · refine wp_ite (fun c26 => ?_) (fun c26 => ?_)
        · exact j31 (Or.inr (Or.inr c26))
        · exact wp_some ⟨(fun _ _ _ => rfl), (pq_n (fun z => z.2.elim (fun q => hr_11.mpr q c14) (fun q => q.elim c20 c26)) rfl)⟩
    · exact j31 (Or.inl (hr_11.mp c14))
