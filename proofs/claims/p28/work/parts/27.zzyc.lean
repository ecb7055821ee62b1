set_option maxHeartbeats 8000000 in
theorem ot_X10_thrown (M : Mem) (v1 : Int32) (hGd : GdF (FdR M 1)) : Wp (f_X10_thrown M v1) (fun q => (∀ a i, ¬ (a = 36 ∨ a = 37) → q.2 a i = M a i) ∧ (ThQ (FdR M 1) v1.toInt q.1.toInt)) := by
  refine wp_bind2 (o2_X10_in M v1 (nI 1) (nI 6)) (fun r_1 he4 hq4 => ?_)
  obtain ⟨hz_r_1, hr_4, hi_4⟩ := hq4
  replace hr_4 : ¬ r_1.toInt = 0 → (nI 1).toInt ≤ v1.toInt ∧ v1.toInt ≤ (nI 6).toInt := hr_4
  have := t_lit 1
  have := t_lit 6
  replace hi_4 : ¬ r_1.toInt = 0 ↔ (nI 1).toInt ≤ v1.toInt ∧ v1.toInt ≤ (nI 6).toInt := hi_4
  have := t_lit 1
  have := t_lit 6
  have ft6 := t_lit 6
  have ft1 := t_lit 1
  refine wp_ite (fun c7 => ?_) (fun c7 => ?_)
  · exact wp_some ⟨(fun _ _ _ => rfl), (Or.inl ⟨by have q := mt hi_4.mpr (fun z => z c7); omega, (show (-1 : Int32).toInt = -1 by decide)⟩)⟩
  · have r16 : 1 ≤ v1.toInt ∧ v1.toInt ≤ 6 := by have q := hi_4.mp c7; omega
    refine wp_cb2 (ot_X10_listsStones M v1 (nI 1) (by omega) hGd) (fun r_2 M_3 he15 hq15 => ?_)
    obtain ⟨hz_r_2, hg_M_3, hw_15, hls_15⟩ := hq15
    replace hw_15 : ¬ r_2.toInt = 0 → ∀ j : Nat, (j : Int) < v1.toInt → 0 ≤ (M_3 36 j).toInt ∧ (M_3 36 j).toInt < 40 := hw_15
    have := t_lit 1
    replace hls_15 : 0 ≤ v1.toInt → (¬ r_2.toInt = 0 → ∃ i, i ≤ 40 ∧ LsI (fun i => (i < 40 ∧ tld (FdR M 1) i) ∧ (¬ (nI 1).toInt = 0 → ((FdR M 1) 5 i).toInt = 0)) v1.toInt.toNat i (RwN (M_3 36))) ∧ (r_2.toInt = 0 → ∃ m w, m < v1.toInt.toNat ∧ LsI (fun i => (i < 40 ∧ tld (FdR M 1) i) ∧ (¬ (nI 1).toInt = 0 → ((FdR M 1) 5 i).toInt = 0)) m 40 w) := hls_15
    have := t_lit 1
    replace hg_M_3 : ∀ a i, ¬ (a = 36) → M_3 a i = M a i := hg_M_3
    have pcg : ∀ i, ((i < 40 ∧ tld (FdR M 1) i) ∧ (¬ (nI 1).toInt = 0 → ((FdR M 1) 5 i).toInt = 0)) ↔ (dryG (FdR M 1)) i := fun i => ⟨fun z => ⟨z.1, z.2 ne1⟩, fun z => ⟨z.1, fun _ => z.2⟩⟩
    refine wp_ite (fun c18 => ?_) (fun c18 => ?_)
    · exact wp_some ⟨(fun a i q0 => ((hg_M_3 a i (fun h9 => q0 (Or.inl h9))).trans rfl)), (Or.inr ⟨r16, Or.inr ⟨by obtain ⟨m, w, q1, q2⟩ := (hls_15 (by omega)).2 c18; exact ⟨m, w, q1, lsi_cg q2 pcg⟩, (show (-2 : Int32).toInt = -2 by decide)⟩⟩)⟩
    · obtain ⟨i9, hi9, hl8⟩ := (hls_15 (by omega)).1 c18
      have hl9 := lsi_cg hl8 pcg
      have hW := lsw_of hl9 (by omega) hi9
      have f3 : FdR M_3 1 = (FdR M 1) := fdr_same (fun j hj => hg_M_3 1 j (by first | decide | (rcases hc0 with h | h <;> rw [h] <;> simp; done) | (rcases hb0 with h | h | h <;> rw [h] <;> simp; done) | (simp; done) | omega))
      refine wp_bind2 (o_X10_beginsRows M_3 v1 (by omega)) (fun M_4 he26 hq26 => ?_)
      obtain ⟨hg_M_4, hb_26⟩ := hq26
      replace hb_26 : ∀ j : Nat, (j : Int) < v1.toInt → M_4 37 j = nI j := hb_26
      replace hg_M_4 : ∀ a i, ¬ (a = 37) → M_4 a i = M_3 a i := hg_M_4
      have hrow0 : PermN (M_4 37) v1.toInt.toNat := perm_id (by omega) (fun j hj => hb_26 j (by omega))
      refine wp_lp3 (fun M35 y2_35 y3_35 => (∀ a i, ¬ (a = 37) → M35 a i = M_4 a i) ∧ (PermN (M35 37) v1.toInt.toNat ∧ ∀ j : Nat, (j : Int) < v1.toInt → 0 ≤ (M35 36 j).toInt ∧ (M35 36 j).toInt < 40) ∧ (MnR (fun c => TcS (FdR M 1) (RwN (M_3 36)) c 1 v1.toInt.toNat) v1.toInt.toNat 1 (RwN (M35 37)) y2_35 y3_35)) (fun M35 y2_35 y3_35 => (if y3_35.toInt = 0 then 0 else 900000 - rowNum (M35 37) v1.toInt.toNat)) (fun ag35 M35 y2_35 y3_35 hI35 ih35 => ?_) FU M_4 (nI 1000000) (nI 1) ⟨(fun _ _ _ => rfl), ⟨hrow0, fun j hj => by rw [hg_M_4 36 j (by first | decide | (rcases hc0 with h | h <;> rw [h] <;> simp; done) | (rcases hb0 with h | h | h <;> rw [h] <;> simp; done) | (simp; done) | omega)]; exact hw_15 (by omega) j hj⟩, (mnr_0 (pm_of hrow0) (fun j hj => by show ix (M_4 37 j) = j; rw [hb_26 j (by omega)]; exact (ix_eq (by rw [t_lit j (by omega)]; omega) (by omega)).mpr (t_lit j (by omega))) (by omega))⟩ (fu_lt (mu_fu))
      obtain ⟨hf_M35, hrow, hmn⟩ := hI35
      have f35 : FdR M35 1 = (FdR M 1) := fdr_same (fun j hj => by rw [hf_M35 1 j (by first | decide | (rcases hc0 with h | h <;> rw [h] <;> simp; done) | (rcases hb0 with h | h | h <;> rw [h] <;> simp; done) | (simp; done) | omega), hg_M_4 1 j (by first | decide | (rcases hc0 with h | h <;> rw [h] <;> simp; done) | (rcases hb0 with h | h | h <;> rw [h] <;> simp; done) | (simp; done) | omega), hg_M_3 1 j (by first | decide | (rcases hc0 with h | h <;> rw [h] <;> simp; done) | (rcases hb0 with h | h | h <;> rw [h] <;> simp; done) | (simp; done) | omega)])
      have w35 : M35 36 = M_3 36 := funext (fun j => by rw [hf_M35 36 j (by first | decide | (rcases hc0 with h | h <;> rw [h] <;> simp; done) | (rcases hb0 with h | h | h <;> rw [h] <;> simp; done) | (simp; done) | omega), hg_M_4 36 j (by first | decide | (rcases hc0 with h | h <;> rw [h] <;> simp; done) | (rcases hb0 with h | h | h <;> rw [h] <;> simp; done) | (simp; done) | omega)])
      have pm := pm_of hrow.1
      refine wp_ite (fun c36 => ?_) (fun c36 => ?_)
      · exact wp_some ⟨(fun a i q0 => ((hf_M35 a i (fun h9 => q0 (Or.inr (h9)))).trans ((hg_M_4 a i (fun h9 => q0 (Or.inr (h9)))).trans ((hg_M_3 a i (fun h9 => q0 (Or.inl h9))).trans rfl)))), (Or.inr ⟨r16, Or.inl ⟨_, i9, hi9, hl9, by obtain ⟨q1, b, q2, q3, q4⟩ := hmn.2.2 c36; exact ⟨⟨b, ⟨q2, fun j hj => by rw [q3 j hj]; show j = 0; omega⟩, q4.symm⟩, fun c hc => q1 c hc.1 (fun j hj => by rw [hc.2 j hj]; show 0 = j; omega)⟩⟩⟩)⟩
      · have ft1 := t_rng v1
        refine wp_lp2 (fun y4_45 y5_45 => (1 ≤ y5_45.toInt) ∧ (y4_45.toInt = sI (fun j => dW (FdR M 1) (RwN (M_3 36)) (RwN (M35 37) j) (RwN (M35 37) (j + 1))) (ix y5_45 - 1)) ∧ ((1 ≤ y5_45.toInt ∧ y5_45.toInt ≤ v1.toInt) ∧ 0 ≤ y4_45.toInt ∧ y4_45.toInt ≤ 2000 * (y5_45.toInt - 1))) (fun y4_45 y5_45 => (v1.toInt - y5_45.toInt).toNat) (fun ag45 y4_45 y5_45 hI45 ih45 => ?_) FU (nI 0) (nI 1) ⟨(by have f0 := t_lit 1; omega), (by rw [show ix (nI 1) - 1 = 0 from (by decide)]; exact nI0), (by rw [nI0, nI1]; omega)⟩ (fu_lt (by have f0 := t_lit 1; omega))
        obtain ⟨hi45, h45, b45⟩ := hI45
        have j92 : (y4_45.toInt = TcS (FdR M 1) (RwN (M_3 36)) (RwN (M35 37)) 1 v1.toInt.toNat ∧ 0 ≤ y4_45.toInt ∧ y4_45.toInt ≤ 12000) → Wp (f_X10_thrown_L92 v1 ag35 M35 y2_35 y4_45) (fun q => (∀ a i, ¬ (a = 36 ∨ a = 37) → q.2 a i = M a i) ∧ (ThQ (FdR M 1) v1.toInt q.1.toInt)) := by
          intro h92
          unfold f_X10_thrown_L92
          have e37 : M35 37 = M35 37 := rfl
          refine wp_bind2 (o_X10_min M35 y2_35 y4_45) (fun r_5 he95 hq95 => ?_)
          have hr_95 := hq95
          replace hr_95 : r_5.toInt = min y2_35.toInt y4_45.toInt := hr_95
          refine wp_cb2 (ot_X10_nextRow M35 v1 (nI 1) (by omega) (by decide) hrow.1) (fun r_6 M_7 he102 hq102 => ?_)
          obtain ⟨hz_r_6, hg_M_7, hr_102, hl_102, hnx_102⟩ := hq102
          replace hr_102 : PermN (M_7 37) v1.toInt.toNat := hr_102
          have := t_lit 1
          replace hl_102 : ¬ r_6.toInt = 0 → rowNum (M35 37) v1.toInt.toNat < rowNum (M_7 37) v1.toInt.toNat := hl_102
          have := t_lit 1
          replace hnx_102 : (¬ r_6.toInt = 0 → NxR (RwN (M35 37)) (RwN (M_7 37)) v1.toInt.toNat (ix (nI 1))) ∧ (r_6.toInt = 0 → DsR (RwN (M35 37)) v1.toInt.toNat (ix (nI 1)) ∧ M_7 37 = M35 37) := hnx_102
          have := t_lit 1
          replace hg_M_7 : ∀ a i, ¬ (a = 37) → M_7 a i = M35 a i := hg_M_7
          have cc : ∀ b b9 : Nat → Nat, (∀ j, j < v1.toInt.toNat → b j = b9 j) → TcS (FdR M 1) (RwN (M_3 36)) b 1 v1.toInt.toNat = TcS (FdR M 1) (RwN (M_3 36)) b9 1 v1.toInt.toNat := fun b b9 q => sI_cg (fun j hj => by rw [q _ (by omega), q _ (by omega)])
          exact ih35 M_7 r_5 r_6 ⟨(fun a i q0 => ((hg_M_7 a i (fun h9 => q0 (h9))).trans ((hf_M35 a i (fun h9 => q0 (h9))).trans rfl))), ⟨hr_102, fun j hj => by rw [hg_M_7 36 j (by first | decide | (rcases hc0 with h | h <;> rw [h] <;> simp; done) | (rcases hb0 with h | h | h <;> rw [h] <;> simp; done) | (simp; done) | omega)]; exact hrow.2 j hj⟩, (mnr_s hmn c36 cc h92.1 (by omega) (by rw [hr_95]) (pm_of hr_102) (fun z => by have q := hnx_102.1 z; rw [show ix (nI 1) = 1 from (by decide)] at q; exact q) (fun z => by have q := hnx_102.2 z; rw [show ix (nI 1) = 1 from (by decide)] at q; exact ⟨q.1, by rw [q.2]⟩))⟩ (row_mu (by omega) hrow.1 hr_102 c36 hl_102)
        refine wp_ite (fun c48 => ?_) (fun c48 => ?_)
        · exact j92 ⟨by rw [h45, show ix y5_45 - 1 = v1.toInt.toNat - 1 from (by have z := t_ixn y5_45 (by omega); omega)]; exact sI_cg (fun j hj => by rw [show 1 - 1 + j = j from (by omega), Nat.add_comm 1 j]), by omega⟩
        · have u5 := i_up (x := y5_45) (by omega)
          have i5 := t_ixn y5_45 (by omega)
          have s5 : ix (y5_45 - nI 1) = ix y5_45 - 1 := by have z := t_sub y5_45 (nI 1); have z2 := nI1; have z3 := t_ixn (y5_45 - nI 1) (by omega); omega
          have dA := (hW.1 _ (pm.1 (ix y5_45 - 1) (by omega))).2
          have dB := (hW.1 _ (pm.1 (ix y5_45) (by omega))).2
          have bd := dd_bd hGd dA dB
          refine wp_gd (by have f0 := t_lit 1; have f1 := t_sub y5_45 (nI 1); omega) ?_
          have f1 := t_sub y5_45 (nI 1)
          have fx := t_ixn (y5_45 - (nI 1)) (by omega)
          have hr9 := hrow.1.1 (ix (y5_45 - (nI 1))) (by omega)
          refine wp_gd (by have f0 := t_lit 1; have f1 := t_sub y5_45 (nI 1); omega) ?_
          refine wp_gd (by omega) ?_
          have fx2 := t_ixn y5_45 (by omega)
          have hr8 := hrow.1.1 (ix y5_45) (by omega)
          refine wp_gd (by omega) ?_
          have fx3 := t_ixn (M35 37 (ix (y5_45 - (nI 1)))) (by omega)
          have fx4 := t_ixn (M35 37 (ix y5_45)) (by omega)
          have hw9 := hrow.2 (ix (M35 37 (ix (y5_45 - (nI 1))))) (by omega)
          have hw8 := hrow.2 (ix (M35 37 (ix y5_45))) (by omega)
          refine wp_bind2 (ow_X10_apart M35 (M35 36 (ix (M35 37 (ix (y5_45 - (nI 1)))))) (M35 36 (ix (M35 37 (ix y5_45)))) hw9 hw8 (by rw [f35]; exact hGd)) (fun r_8 he80 hq80 => ?_)
          have hap_80 := hq80
          replace hap_80 : dryG (FdR M35 1) (ix (M35 36 (ix (M35 37 (ix (y5_45 - (nI 1))))))) → dryG (FdR M35 1) (ix (M35 36 (ix (M35 37 (ix y5_45))))) → r_8.toInt = dd (((FdR M35 1) 1 (ix (M35 36 (ix (M35 37 (ix (y5_45 - (nI 1)))))))).toInt - ((FdR M35 1) 1 (ix (M35 36 (ix (M35 37 (ix y5_45)))))).toInt) (((FdR M35 1) 2 (ix (M35 36 (ix (M35 37 (ix (y5_45 - (nI 1)))))))).toInt - ((FdR M35 1) 2 (ix (M35 36 (ix (M35 37 (ix y5_45)))))).toInt) := hap_80
          have ea := hap_80
          rw [f35, s5, w35] at ea
          have eb : r_8.toInt = dW (FdR M 1) (RwN (M_3 36)) (RwN (M35 37) (ix y5_45 - 1)) (RwN (M35 37) (ix y5_45)) := ea dA dB
          have bd2 : 0 ≤ dW (FdR M 1) (RwN (M_3 36)) (RwN (M35 37) (ix y5_45 - 1)) (RwN (M35 37) (ix y5_45)) ∧ dW (FdR M 1) (RwN (M_3 36)) (RwN (M35 37) (ix y5_45 - 1)) (RwN (M35 37) (ix y5_45)) ≤ 2000 := bd
          refine wp_bnd (fun x_9 ex_9 => ?_)
          have e9 : x_9.toInt = y4_45.toInt + r_8.toInt := by
            rw [ex_9]
            have f := t_add y4_45 r_8
            omega
          exact ih45 x_9 (y5_45 + (nI 1)) ⟨(by have f0 := t_lit 1; have f1 := t_add y5_45 (nI 1); omega), (by rw [u5.1, e9, h45, eb, show ix y5_45 + 1 - 1 = (ix y5_45 - 1) + 1 from (by omega)]; show _ = sI _ (ix y5_45 - 1) + dW _ _ _ _; rw [show ix y5_45 - 1 + 1 = ix y5_45 from (by omega)]), (by rw [u5.2, e9]; omega)⟩ (by have f0 := t_lit 1; have f1 := t_add y5_45 (nI 1); omega)
