theorem oq5_X10_chalk (M : Mem) (v1 : Int32) (v2 : Int32) (ht : 0 ≤ (M 0 6).toInt ∧ (M 0 6).toInt ≤ 260) (hGd : GdF (FdR M 1)) : Wp (f_X10_chalk M v1 v2) (fun q => (∀ a i, ¬ ((a = 0 ∧ i = 6) ∨ a = 36 ∨ a = 37 ∨ a = 38) → q.2 a i = M a i) ∧ (0 ≤ (q.2 0 6).toInt ∧ (q.2 0 6).toInt ≤ 260) ∧ ((q.2 0 6).toInt = (if (1 ≤ v1.toInt ∧ v1.toInt ≤ 7) ∧ (v2.toInt = 100 ∨ (0 ≤ v2.toInt ∧ v2.toInt < v1.toInt)) ∧ 2 * v1.toInt ≤ (M 0 6).toInt then 0 else (M 0 6).toInt)) ∧ (CkQ (FdR M 1) (fun j => ((M 5 j) &&& (nI 255)).toInt) v1.toInt v2.toInt (M 0 6).toInt q.1.toInt)) := by
  have tm : (1 ≤ v1.toInt ∧ v1.toInt ≤ 7) → ((nI 2) * v1).toInt = 2 * v1.toInt := fun z => t_mulL v1 2 (by omega) (by omega)
  refine wp_bind2 (o2_X10_in M v1 (nI 1) (nI 7)) (fun r_1 he4 hq4 => ?_)
  obtain ⟨hz_r_1, hr_4, hi_4⟩ := hq4
  replace hr_4 : ¬ r_1.toInt = 0 → (nI 1).toInt ≤ v1.toInt ∧ v1.toInt ≤ (nI 7).toInt := hr_4
  have := t_lit 1
  have := t_lit 7
  replace hi_4 : ¬ r_1.toInt = 0 ↔ (nI 1).toInt ≤ v1.toInt ∧ v1.toInt ≤ (nI 7).toInt := hi_4
  have := t_lit 1
  have := t_lit 7
  have ft7 := t_lit 7
  have ft1 := t_lit 1
  refine wp_ite (fun c7 => ?_) (fun c7 => ?_)
  · exact wp_some ⟨(fun _ _ _ => rfl), (by show 0 ≤ (M 0 6).toInt ∧ (M 0 6).toInt ≤ 260; have f0 := (by decide : ((-1 : Int32)).toInt = -1); omega), (by show (M 0 6).toInt = _; rw [if_neg (by omega)]), (Or.inl ⟨fun z => (by have q := mt hi_4.mpr (fun w => w c7); have q2 := z.1; omega), (show (-1 : Int32).toInt = -1 by decide)⟩)⟩
  · have j27 : (v2.toInt = 100 ∨ (0 ≤ v2.toInt ∧ v2.toInt < v1.toInt)) → Wp (f_X10_chalk_L27 M v1 v2) (fun q => (∀ a i, ¬ ((a = 0 ∧ i = 6) ∨ a = 36 ∨ a = 37 ∨ a = 38) → q.2 a i = M a i) ∧ (0 ≤ (q.2 0 6).toInt ∧ (q.2 0 6).toInt ≤ 260) ∧ ((q.2 0 6).toInt = (if (1 ≤ v1.toInt ∧ v1.toInt ≤ 7) ∧ (v2.toInt = 100 ∨ (0 ≤ v2.toInt ∧ v2.toInt < v1.toInt)) ∧ 2 * v1.toInt ≤ (M 0 6).toInt then 0 else (M 0 6).toInt)) ∧ (CkQ (FdR M 1) (fun j => ((M 5 j) &&& (nI 255)).toInt) v1.toInt v2.toInt (M 0 6).toInt q.1.toInt)) := by
      intro h27
      unfold f_X10_chalk_L27
      refine wp_ite (fun c34 => ?_) (fun c34 => ?_)
      · have r17 : 1 ≤ v1.toInt ∧ v1.toInt ≤ 7 := by have q := hi_4.mp c7; omega
        have m2 := t_mulL v1 2 (by omega) (by omega)
        have hW : CkW v1.toInt v2.toInt (M 0 6).toInt := ⟨r17, h27, by omega⟩
        refine wp_bnd (fun M_2 eM_2 => ?_)
        refine wp_cb2 (ot_X10_listsStones M_2 v1 (nI 0) (by omega) (by rw [show FdR M_2 1 = (FdR M 1) from fdr_same (fun j hj => by rw [eM_2, mset_ne (by first | exact nz1 (by decide) | exact nz2 (by decide) | exact nz1 (nzA hc0 (by decide)) | exact nz1 (nzE (by decide)) | exact nz1 (nzB hc0 (by decide)) | exact nz1 (nzC hc0 (by decide)) | exact nz1 (nzD hc0 (by decide)) | exact nz1 (nzF (by decide)) | exact nz1 (nzG (by decide)) | omega)])]; exact hGd)) (fun r_3 M_4 he47 hq47 => ?_)
        obtain ⟨hz_r_3, hg_M_4, hw_47, hls_47⟩ := hq47
        replace hw_47 : ¬ r_3.toInt = 0 → ∀ j : Nat, (j : Int) < v1.toInt → 0 ≤ (M_4 36 j).toInt ∧ (M_4 36 j).toInt < 40 := hw_47
        have := t_lit 0
        replace hls_47 : 0 ≤ v1.toInt → (¬ r_3.toInt = 0 → ∃ i, i ≤ 40 ∧ LsI (fun i => (i < 40 ∧ tld (FdR M_2 1) i) ∧ (¬ (nI 0).toInt = 0 → ((FdR M_2 1) 5 i).toInt = 0)) v1.toInt.toNat i (RwN (M_4 36))) ∧ (r_3.toInt = 0 → ∃ m w, m < v1.toInt.toNat ∧ LsI (fun i => (i < 40 ∧ tld (FdR M_2 1) i) ∧ (¬ (nI 0).toInt = 0 → ((FdR M_2 1) 5 i).toInt = 0)) m 40 w) := hls_47
        have := t_lit 0
        replace hg_M_4 : ∀ a i, ¬ (a = 36) → M_4 a i = M_2 a i := hg_M_4
        have hN0 : 0 ≤ v1.toInt := by omega
        have hls9 := hls_47 hN0
        clear hls_47
        have hF9 := hls9.2
        have hT9 := hls9.1
        clear hls9
        have f2 : FdR M_2 1 = (FdR M 1) := fdr_same (fun j hj => by rw [eM_2, mset_ne (by first | exact nz1 (by decide) | exact nz2 (by decide) | exact nz1 (nzA hc0 (by decide)) | exact nz1 (nzE (by decide)) | exact nz1 (nzB hc0 (by decide)) | exact nz1 (nzC hc0 (by decide)) | exact nz1 (nzD hc0 (by decide)) | exact nz1 (nzF (by decide)) | exact nz1 (nzG (by decide)) | omega)])
        rw [f2] at hF9 hT9
        have pcg : ∀ i, ((i < 40 ∧ tld (FdR M 1) i) ∧ (¬ (nI 0).toInt = 0 → ((FdR M 1) 5 i).toInt = 0)) ↔ (tldP (FdR M 1)) i := fun i => ⟨fun z => z.1, fun z => ⟨z, fun q => absurd nI0 q⟩⟩
        refine wp_ite (fun c50 => ?_) (fun c50 => ?_)
        · obtain ⟨m9, w9, q91, q92⟩ := hF9 c50
          clear hT9 hF9
          exact wp_some ⟨(fun a i q0 => ((hg_M_4 a i (fun h9 => q0 (Or.inr (Or.inl h9)))).trans ((congrFun (congrFun eM_2 a) i).trans ((mset_ne (fun h9 => q0 (Or.inl h9))).trans rfl)))), (by show 0 ≤ (M_4 0 6).toInt ∧ (M_4 0 6).toInt ≤ 260; have f0 := congrArg Int32.toInt (hg_M_4 0 6 (by first | decide | (rcases hc0 with h | h <;> rw [h] <;> simp; done) | (rcases hb0 with h | h | h <;> rw [h] <;> simp; done) | (simp; done) | omega)); have f1 := congrArg Int32.toInt ((congrFun (congrFun eM_2 0) 6).trans mset_eq); have f2 := t_lit 0; have f3 := (by decide : ((-2 : Int32)).toInt = -2); omega), (by show (M_4 0 6).toInt = _; rw [if_pos (by omega), show M_4 0 6 = M_2 0 6 from ((hg_M_4 0 6 (by first | decide | (rcases hc0 with h | h <;> rw [h] <;> simp; done) | (rcases hb0 with h | h | h <;> rw [h] <;> simp; done) | (simp; done) | omega)).trans rfl), eM_2, mset_eq]; exact nI0), (Or.inr ⟨hW, Or.inl ⟨⟨m9, w9, q91, lsi_cg q92 pcg⟩, (show (-2 : Int32).toInt = -2 by decide)⟩⟩)⟩
        · obtain ⟨i9, hi9, hl8⟩ := hT9 c50
          clear hT9 hF9
          have hl9 := lsi_cg hl8 pcg
          have e5 : M_4 5 = M 5 := funext (fun j => by rw [hg_M_4 5 j (by first | decide | (rcases hc0 with h | h <;> rw [h] <;> simp; done) | (rcases hb0 with h | h | h <;> rw [h] <;> simp; done) | (simp; done) | omega), eM_2, mset_ne (by first | exact nz1 (by decide) | exact nz2 (by decide) | exact nz1 (nzA hc0 (by decide)) | exact nz1 (nzE (by decide)) | exact nz1 (nzB hc0 (by decide)) | exact nz1 (nzC hc0 (by decide)) | exact nz1 (nzD hc0 (by decide)) | exact nz1 (nzF (by decide)) | exact nz1 (nzG (by decide)) | omega)])
          have f4 : FdR M_4 1 = (FdR M 1) := (fdr_same (fun j hj => hg_M_4 1 j (by first | decide | (rcases hc0 with h | h <;> rw [h] <;> simp; done) | (rcases hb0 with h | h | h <;> rw [h] <;> simp; done) | (simp; done) | omega))).trans f2
          have ft1 := t_rng v1
          refine wp_lp1 (fun y3_58 => (0 ≤ y3_58.toInt) ∧ (∀ j, j < ix y3_58 → (M 5 (2 * j) &&& (nI 255)).toInt ≤ 39 ∧ (M 5 (2 * j + 1) &&& (nI 255)).toInt ≤ 20) ∧ (y3_58.toInt ≤ v1.toInt)) (fun y3_58 => (v1.toInt - y3_58.toInt).toNat) (fun ag58 y3_58 hI58 ih58 => ?_) FU (nI 0) ⟨(by have f0 := t_lit 0; omega), (fun j hj => absurd hj (by rw [show ix (nI 0) = 0 from (by decide)]; exact Nat.not_lt_zero _)), (by rw [nI0]; omega)⟩ (fu_lt (by have f0 := t_lit 0; omega))
          obtain ⟨hi58, hmb, y358⟩ := hI58
          have j98 : (MbN (fun j => ((M 5 j) &&& (nI 255)).toInt) v1.toInt.toNat) → Wp (f_X10_chalk_L98 v1 v2 M_4) (fun q => (∀ a i, ¬ ((a = 0 ∧ i = 6) ∨ a = 36 ∨ a = 37 ∨ a = 38) → q.2 a i = M a i) ∧ (0 ≤ (q.2 0 6).toInt ∧ (q.2 0 6).toInt ≤ 260) ∧ ((q.2 0 6).toInt = (if (1 ≤ v1.toInt ∧ v1.toInt ≤ 7) ∧ (v2.toInt = 100 ∨ (0 ≤ v2.toInt ∧ v2.toInt < v1.toInt)) ∧ 2 * v1.toInt ≤ (M 0 6).toInt then 0 else (M 0 6).toInt)) ∧ (CkQ (FdR M 1) (fun j => ((M 5 j) &&& (nI 255)).toInt) v1.toInt v2.toInt (M 0 6).toInt q.1.toInt)) := by
            intro h98
            unfold f_X10_chalk_L98
            refine wp_bind2 (o_X10_beginsRows M_4 v1 (by have f0 := t_lit 2; have f1 := (t_mulL v1 2 (by omega) (by omega)); omega)) (fun M_5 he100 hq100 => ?_)
            obtain ⟨hg_M_5, hb_100⟩ := hq100
            replace hb_100 : ∀ j : Nat, (j : Int) < v1.toInt → M_5 37 j = nI j := hb_100
            replace hg_M_5 : ∀ a i, ¬ (a = 37) → M_5 a i = M_4 a i := hg_M_5
            have hrow0 : PermN (M_5 37) v1.toInt.toNat := perm_id (by omega) (fun j hj => hb_100 j (by omega))
            refine wp_lp3 (fun M110 y3_110 y4_110 => (∀ a i, ¬ (a = 37 ∨ a = 38) → M110 a i = M_5 a i) ∧ (PermN (M110 37) v1.toInt.toNat ∧ ∀ j : Nat, (j : Int) < v1.toInt → 0 ≤ (M110 36 j).toInt ∧ (M110 36 j).toInt < 40) ∧ ((M110 0 6).toInt = 0) ∧ (CmR (fun c => tlS (ckG (FdR M 1) (fun j => ((M 5 j) &&& (nI 255)).toInt) (RwN (M_4 36))) c 0 v1.toInt.toNat) v1.toInt.toNat (M_4 36) (M110 38) (RwN (M110 37)) y3_110 y4_110)) (fun M110 y3_110 y4_110 => (if y4_110.toInt = 0 then 0 else 900000 - rowNum (M110 37) v1.toInt.toNat)) (fun ag110 M110 y3_110 y4_110 hI110 ih110 => ?_) FU M_5 (nI 1000000) (nI 1) ⟨(fun _ _ _ => rfl), ⟨hrow0, fun j hj => by rw [hg_M_5 36 j (by first | decide | (rcases hc0 with h | h <;> rw [h] <;> simp; done) | (rcases hb0 with h | h | h <;> rw [h] <;> simp; done) | (simp; done) | omega)]; exact hw_47 (by omega) j hj⟩, (by have f0 := congrArg Int32.toInt (hg_M_5 0 6 (by first | decide | (rcases hc0 with h | h <;> rw [h] <;> simp; done) | (rcases hb0 with h | h | h <;> rw [h] <;> simp; done) | (simp; done) | omega)); have f1 := congrArg Int32.toInt (hg_M_4 0 6 (by first | decide | (rcases hc0 with h | h <;> rw [h] <;> simp; done) | (rcases hb0 with h | h | h <;> rw [h] <;> simp; done) | (simp; done) | omega)); have f2 := congrArg Int32.toInt ((congrFun (congrFun eM_2 0) 6).trans mset_eq); have f3 := t_lit 0; have f4 := t_lit 1000000; have f5 := t_lit 1; omega), (cmr_0 (pm_of hrow0) (fun j hj => by show ix (M_5 37 j) = j; rw [hb_100 j (by omega)]; exact (ix_eq (by rw [t_lit j (by omega)]; omega) (by omega)).mpr (t_lit j (by omega))))⟩ (fu_lt (mu_fu))
            obtain ⟨hf_M110, hrow, ht110, hcm⟩ := hI110
            have w110 : M110 36 = (M_4 36) := funext (fun j => by rw [hf_M110 36 j (by first | decide | (rcases hc0 with h | h <;> rw [h] <;> simp; done) | (rcases hb0 with h | h | h <;> rw [h] <;> simp; done) | (simp; done) | omega), hg_M_5 36 j (by first | decide | (rcases hc0 with h | h <;> rw [h] <;> simp; done) | (rcases hb0 with h | h | h <;> rw [h] <;> simp; done) | (simp; done) | omega)])
            have b110 : M110 5 = M 5 := funext (fun j => by rw [hf_M110 5 j (by first | decide | (rcases hc0 with h | h <;> rw [h] <;> simp; done) | (rcases hb0 with h | h | h <;> rw [h] <;> simp; done) | (simp; done) | omega), hg_M_5 5 j (by first | decide | (rcases hc0 with h | h <;> rw [h] <;> simp; done) | (rcases hb0 with h | h | h <;> rw [h] <;> simp; done) | (simp; done) | omega), e5])
            have f110 : FdR M110 1 = (FdR M 1) := (fdr_same (fun j hj => by rw [hf_M110 1 j (by first | decide | (rcases hc0 with h | h <;> rw [h] <;> simp; done) | (rcases hb0 with h | h | h <;> rw [h] <;> simp; done) | (simp; done) | omega), hg_M_5 1 j (by first | decide | (rcases hc0 with h | h <;> rw [h] <;> simp; done) | (rcases hb0 with h | h | h <;> rw [h] <;> simp; done) | (simp; done) | omega)])).trans f4
            have j176 : (y4_110.toInt = 0) → Wp (f_X10_chalk_L176 v2 M110 y3_110) (fun q => (∀ a i, ¬ ((a = 0 ∧ i = 6) ∨ a = 36 ∨ a = 37 ∨ a = 38) → q.2 a i = M a i) ∧ (0 ≤ (q.2 0 6).toInt ∧ (q.2 0 6).toInt ≤ 260) ∧ ((q.2 0 6).toInt = (if (1 ≤ v1.toInt ∧ v1.toInt ≤ 7) ∧ (v2.toInt = 100 ∨ (0 ≤ v2.toInt ∧ v2.toInt < v1.toInt)) ∧ 2 * v1.toInt ≤ (M 0 6).toInt then 0 else (M 0 6).toInt)) ∧ (CkQ (FdR M 1) (fun j => ((M 5 j) &&& (nI 255)).toInt) v1.toInt v2.toInt (M 0 6).toInt q.1.toInt)) := by
              intro h176
              unfold f_X10_chalk_L176
              refine wp_ite (fun c179 => ?_) (fun c179 => ?_)
              · exact wp_some ⟨(fun a i q0 => ((hf_M110 a i (fun z8 => q0 ((fun z9 => Or.elim z9 (fun h9 => Or.inr (Or.inr (Or.inl h9))) (fun h9 => Or.inr (Or.inr (Or.inr (h9))))) z8))).trans ((hg_M_5 a i (fun h9 => q0 (Or.inr (Or.inr (Or.inl h9))))).trans ((hg_M_4 a i (fun h9 => q0 (Or.inr (Or.inl h9)))).trans ((congrFun (congrFun eM_2 a) i).trans ((mset_ne (fun h9 => q0 (Or.inl h9))).trans rfl)))))), (by show 0 ≤ (M110 0 6).toInt ∧ (M110 0 6).toInt ≤ 260; have f0 := congrArg Int32.toInt (hf_M110 0 6 (by first | decide | (rcases hc0 with h | h <;> rw [h] <;> simp; done) | (rcases hb0 with h | h | h <;> rw [h] <;> simp; done) | (simp; done) | omega)); have f1 := congrArg Int32.toInt (hg_M_5 0 6 (by first | decide | (rcases hc0 with h | h <;> rw [h] <;> simp; done) | (rcases hb0 with h | h | h <;> rw [h] <;> simp; done) | (simp; done) | omega)); have f2 := congrArg Int32.toInt (hg_M_4 0 6 (by first | decide | (rcases hc0 with h | h <;> rw [h] <;> simp; done) | (rcases hb0 with h | h | h <;> rw [h] <;> simp; done) | (simp; done) | omega)); have f3 := congrArg Int32.toInt ((congrFun (congrFun eM_2 0) 6).trans mset_eq); have f4 := t_lit 0; omega), (by show (M110 0 6).toInt = _; rw [if_pos (by omega), show M110 0 6 = M_2 0 6 from ((hf_M110 0 6 (by first | decide | (rcases hc0 with h | h <;> rw [h] <;> simp; done) | (rcases hb0 with h | h | h <;> rw [h] <;> simp; done) | (simp; done) | omega)).trans ((hg_M_5 0 6 (by first | decide | (rcases hc0 with h | h <;> rw [h] <;> simp; done) | (rcases hb0 with h | h | h <;> rw [h] <;> simp; done) | (simp; done) | omega)).trans ((hg_M_4 0 6 (by first | decide | (rcases hc0 with h | h <;> rw [h] <;> simp; done) | (rcases hb0 with h | h | h <;> rw [h] <;> simp; done) | (simp; done) | omega)).trans rfl))), eM_2, mset_eq]; exact nI0), (Or.inr ⟨hW, Or.inr ⟨i9, _, ⟨hi9, hl9⟩, Or.inr ⟨h98, (cmr_e hcm h176).1 c179⟩⟩⟩)⟩
              · refine wp_gd (by omega) ?_
                exact wp_some ⟨(fun a i q0 => ((hf_M110 a i (fun z8 => q0 ((fun z9 => Or.elim z9 (fun h9 => Or.inr (Or.inr (Or.inl h9))) (fun h9 => Or.inr (Or.inr (Or.inr (h9))))) z8))).trans ((hg_M_5 a i (fun h9 => q0 (Or.inr (Or.inr (Or.inl h9))))).trans ((hg_M_4 a i (fun h9 => q0 (Or.inr (Or.inl h9)))).trans ((congrFun (congrFun eM_2 a) i).trans ((mset_ne (fun h9 => q0 (Or.inl h9))).trans rfl)))))), (by show 0 ≤ (M110 0 6).toInt ∧ (M110 0 6).toInt ≤ 260; have f0 := congrArg Int32.toInt (hf_M110 0 6 (by first | decide | (rcases hc0 with h | h <;> rw [h] <;> simp; done) | (rcases hb0 with h | h | h <;> rw [h] <;> simp; done) | (simp; done) | omega)); have f1 := congrArg Int32.toInt (hg_M_5 0 6 (by first | decide | (rcases hc0 with h | h <;> rw [h] <;> simp; done) | (rcases hb0 with h | h | h <;> rw [h] <;> simp; done) | (simp; done) | omega)); have f2 := congrArg Int32.toInt (hg_M_4 0 6 (by first | decide | (rcases hc0 with h | h <;> rw [h] <;> simp; done) | (rcases hb0 with h | h | h <;> rw [h] <;> simp; done) | (simp; done) | omega)); have f3 := congrArg Int32.toInt ((congrFun (congrFun eM_2 0) 6).trans mset_eq); have f4 := t_lit 0; omega), (by show (M110 0 6).toInt = _; rw [if_pos (by omega), show M110 0 6 = M_2 0 6 from ((hf_M110 0 6 (by first | decide | (rcases hc0 with h | h <;> rw [h] <;> simp; done) | (rcases hb0 with h | h | h <;> rw [h] <;> simp; done) | (simp; done) | omega)).trans ((hg_M_5 0 6 (by first | decide | (rcases hc0 with h | h <;> rw [h] <;> simp; done) | (rcases hb0 with h | h | h <;> rw [h] <;> simp; done) | (simp; done) | omega)).trans ((hg_M_4 0 6 (by first | decide | (rcases hc0 with h | h <;> rw [h] <;> simp; done) | (rcases hb0 with h | h | h <;> rw [h] <;> simp; done) | (simp; done) | omega)).trans rfl))), eM_2, mset_eq]; exact nI0), (Or.inr ⟨hW, Or.inr ⟨i9, _, ⟨hi9, hl9⟩, Or.inr ⟨h98, (cmr_e hcm h176).2 c179 (by have q := h27.resolve_left c179; omega) (fun k hk => (hw_47 (by omega) k (by omega)).1)⟩⟩⟩)⟩
            refine wp_ite (fun c112 => ?_) (fun c112 => ?_)
            · exact j176 c112
            · refine wp_bind2 (oq5_X10_chalkOff M110 v1 (by omega) hrow.1 hrow.2 (by omega) (by rw [f110]; exact hGd) (fun k hk => by rw [f110, w110]; exact (hl9.1 k hk).2)) (fun r_6 he117 hq117 => ?_)
              have hco_117 := hq117
              replace hco_117 : r_6.toInt = tlS (ckG (FdR M110 1) (fun j => ((M110 5 j) &&& (nI 255)).toInt) (RwN (M110 36))) (RwN (M110 37)) 0 v1.toInt.toNat ∧ 0 ≤ r_6.toInt ∧ r_6.toInt ≤ 7000 := hco_117
              rw [f110, b110, w110] at hco_117
              have j165 : ∀ (N165 : Mem), ∀ (z3_165 : Int32), (∀ a i, ¬ (a = 38) → N165 a i = M110 a i) → ((y3_110.toInt ≤ r_6.toInt ∧ z3_165 = y3_110 ∧ ∀ j, j < v1.toInt.toNat → N165 38 j = M110 38 j) ∨ (¬ y3_110.toInt ≤ r_6.toInt ∧ z3_165.toInt = r_6.toInt ∧ ∀ j, j < v1.toInt.toNat → N165 38 j = (M_4 36) (RwN (M110 37) j))) → Wp (f_X10_chalk_L165 v1 ag110 N165 z3_165) (fun q => (∀ a i, ¬ ((a = 0 ∧ i = 6) ∨ a = 36 ∨ a = 37 ∨ a = 38) → q.2 a i = M a i) ∧ (0 ≤ (q.2 0 6).toInt ∧ (q.2 0 6).toInt ≤ 260) ∧ ((q.2 0 6).toInt = (if (1 ≤ v1.toInt ∧ v1.toInt ≤ 7) ∧ (v2.toInt = 100 ∨ (0 ≤ v2.toInt ∧ v2.toInt < v1.toInt)) ∧ 2 * v1.toInt ≤ (M 0 6).toInt then 0 else (M 0 6).toInt)) ∧ (CkQ (FdR M 1) (fun j => ((M 5 j) &&& (nI 255)).toInt) v1.toInt v2.toInt (M 0 6).toInt q.1.toInt)) := by
                intro N165 z3_165 hf_N165 h165
                unfold f_X10_chalk_L165
                have e37 : N165 37 = M110 37 := funext (fun i => hf_N165 37 i (by first | decide | (rcases hc0 with h | h <;> rw [h] <;> simp; done) | (rcases hb0 with h | h | h <;> rw [h] <;> simp; done) | (simp; done) | omega))
                have e36 : N165 36 = M110 36 := funext (fun i => hf_N165 36 i (by first | decide | (rcases hc0 with h | h <;> rw [h] <;> simp; done) | (rcases hb0 with h | h | h <;> rw [h] <;> simp; done) | (simp; done) | omega))
                refine wp_cb2 (ot_X10_nextRow N165 v1 (nI 0) (by omega) (by decide) (by rw [e37]; exact hrow.1)) (fun r_7 M_8 he168 hq168 => ?_)
                obtain ⟨hz_r_7, hg_M_8, hr_168, hl_168, hnx_168⟩ := hq168
                replace hr_168 : PermN (M_8 37) v1.toInt.toNat := hr_168
                have := t_lit 0
                replace hl_168 : ¬ r_7.toInt = 0 → rowNum (N165 37) v1.toInt.toNat < rowNum (M_8 37) v1.toInt.toNat := hl_168
                have := t_lit 0
                replace hnx_168 : (¬ r_7.toInt = 0 → NxR (RwN (N165 37)) (RwN (M_8 37)) v1.toInt.toNat (ix (nI 0))) ∧ (r_7.toInt = 0 → DsR (RwN (N165 37)) v1.toInt.toNat (ix (nI 0)) ∧ M_8 37 = N165 37) := hnx_168
                have := t_lit 0
                replace hg_M_8 : ∀ a i, ¬ (a = 37) → M_8 a i = N165 a i := hg_M_8
                rw [e37] at hnx_168
                have cc : ∀ b b9 : Nat → Nat, (∀ j, j < v1.toInt.toNat → b j = b9 j) → tlS (ckG (FdR M 1) (fun j => ((M 5 j) &&& (nI 255)).toInt) (RwN (M_4 36))) b 0 v1.toInt.toNat = tlS (ckG (FdR M 1) (fun j => ((M 5 j) &&& (nI 255)).toInt) (RwN (M_4 36))) b9 0 v1.toInt.toNat := fun b b9 q => tl_cg9 (fun j _ h2 => q j h2)
                have e388 : ∀ j, M_8 38 j = N165 38 j := fun j => hg_M_8 38 j (by first | decide | (rcases hc0 with h | h <;> rw [h] <;> simp; done) | (rcases hb0 with h | h | h <;> rw [h] <;> simp; done) | (simp; done) | omega)
                exact ih110 M_8 z3_165 r_7 ⟨(fun a i q0 => ((hg_M_8 a i (fun h9 => q0 (Or.inl h9))).trans ((hf_N165 a i (fun h9 => q0 (Or.inr (h9)))).trans ((hf_M110 a i (fun z8 => q0 ((fun z9 => Or.elim z9 (fun h9 => Or.inl h9) (fun h9 => Or.inr (h9))) z8))).trans rfl)))), ⟨hr_168, fun j hj => by rw [hg_M_8 36 j (by first | decide | (rcases hc0 with h | h <;> rw [h] <;> simp; done) | (rcases hb0 with h | h | h <;> rw [h] <;> simp; done) | (simp; done) | omega), e36]; exact hrow.2 j hj⟩, (by have f0 := congrArg Int32.toInt (hg_M_8 0 6 (by first | decide | (rcases hc0 with h | h <;> rw [h] <;> simp; done) | (rcases hb0 with h | h | h <;> rw [h] <;> simp; done) | (simp; done) | omega)); have f1 := congrArg Int32.toInt (hf_N165 0 6 (by first | decide | (rcases hc0 with h | h <;> rw [h] <;> simp; done) | (rcases hb0 with h | h | h <;> rw [h] <;> simp; done) | (simp; done) | omega)); have f2 := congrArg Int32.toInt (hf_M110 0 6 (by first | decide | (rcases hc0 with h | h <;> rw [h] <;> simp; done) | (rcases hb0 with h | h | h <;> rw [h] <;> simp; done) | (simp; done) | omega)); have f3 := congrArg Int32.toInt (hg_M_5 0 6 (by first | decide | (rcases hc0 with h | h <;> rw [h] <;> simp; done) | (rcases hb0 with h | h | h <;> rw [h] <;> simp; done) | (simp; done) | omega)); have f4 := congrArg Int32.toInt (hg_M_4 0 6 (by first | decide | (rcases hc0 with h | h <;> rw [h] <;> simp; done) | (rcases hb0 with h | h | h <;> rw [h] <;> simp; done) | (simp; done) | omega)); have f5 := congrArg Int32.toInt ((congrFun (congrFun eM_2 0) 6).trans mset_eq); have f6 := t_lit 0; omega), (cmr_s (A' := M_8 38) hcm c112 cc hco_117.1 (by omega) (by rcases h165 with ⟨z1, z2, z3⟩ | ⟨z1, z2, z3⟩; (exact Or.inl ⟨z1, z2, fun j hj => (e388 j).trans (z3 j hj)⟩); (exact Or.inr ⟨z1, z2, fun j hj => (e388 j).trans (z3 j hj)⟩)) (pm_of hr_168) (fun z => by have q := hnx_168.1 z; rw [show ix (nI 0) = 0 from (by decide)] at q; exact q) (fun z => by have q := hnx_168.2 z; rw [show ix (nI 0) = 0 from (by decide)] at q; exact ⟨q.1, by rw [q.2]⟩))⟩ (row_mu (by omega) hrow.1 hr_168 c112 (fun z => by have := hl_168 z; rwa [e37] at this))
              refine wp_ite (fun c125 => ?_) (fun c125 => ?_)
              · exact j165 M110 y3_110 (fun _ _ _ => rfl) (Or.inl ⟨c125, rfl, fun j hj => rfl⟩)
              · refine wp_lp2 (fun M134 y6_134 => (0 ≤ y6_134.toInt) ∧ (∀ a i, ¬ (a = 38) → M134 a i = M110 a i) ∧ (∀ j, j < ix y6_134 → M134 38 j = (M_4 36) (RwN (M110 37) j)) ∧ (y6_134.toInt ≤ v1.toInt)) (fun M134 y6_134 => (v1.toInt - y6_134.toInt).toNat) (fun ag134 M134 y6_134 hI134 ih134 => ?_) FU M110 (nI 0) ⟨(by have f0 := t_lit 0; omega), (fun _ _ _ => rfl), (fun j hj => absurd hj (by rw [show ix (nI 0) = 0 from (by decide)]; exact Nat.not_lt_zero _)), (by rw [nI0]; omega)⟩ (fu_lt (by have f0 := t_lit 0; omega))
                obtain ⟨hi134, hf_M134, h134, y6134⟩ := hI134
                refine wp_ite (fun c137 => ?_) (fun c137 => ?_)
                · exact j165 M134 r_6 (fun a i q0 => ((hf_M134 a i (fun h9 => q0 (h9))).trans rfl)) (Or.inr ⟨c125, rfl, fun j hj => h134 j (by have z := t_ixn y6_134 (by omega); omega)⟩)
                · have u6 := i_up (x := y6_134) (by omega)
                  have i6 := t_ixn y6_134 (by omega)
                  have e37c : M134 37 = M110 37 := funext (fun j => hf_M134 37 j (by first | decide | (rcases hc0 with h | h <;> rw [h] <;> simp; done) | (rcases hb0 with h | h | h <;> rw [h] <;> simp; done) | (simp; done) | omega))
                  have e36c : M134 36 = (M_4 36) := (funext (fun j => hf_M134 36 j (by first | decide | (rcases hc0 with h | h <;> rw [h] <;> simp; done) | (rcases hb0 with h | h | h <;> rw [h] <;> simp; done) | (simp; done) | omega))).trans w110
                  refine wp_gd (by omega) ?_
                  have fx := t_ixn y6_134 (by omega)
                  have e37b := congrArg Int32.toInt (hf_M134 37 (ix y6_134) (by first | decide | (rcases hc0 with h | h <;> rw [h] <;> simp; done) | (rcases hb0 with h | h | h <;> rw [h] <;> simp; done) | (simp; done) | omega))
                  have hr9 := hrow.1.1 (ix y6_134) (by omega)
                  refine wp_gd (by have f0 := congrArg Int32.toInt (hf_M134 37 (ix y6_134) (by first | decide | (rcases hc0 with h | h <;> rw [h] <;> simp; done) | (rcases hb0 with h | h | h <;> rw [h] <;> simp; done) | (simp; done) | omega)); omega) ?_
                  refine wp_gd (by omega) ?_
                  refine wp_bnd (fun M_9 eM_9 => ?_)
                  exact ih134 M_9 (y6_134 + (nI 1)) ⟨(by have f0 := t_lit 1; have f1 := t_add y6_134 (nI 1); omega), (fun a i q0 => ((congrFun (congrFun eM_9 a) i).trans ((mset_ne (fun h9 => q0 ((h9).1))).trans ((hf_M134 a i (fun h9 => q0 (h9))).trans rfl)))), (fun j hj => by rw [u6.1] at hj; by_cases c : j = ix y6_134; (rw [c, eM_9, mset_eq, e36c, e37c]; rfl); (rw [eM_9, mset_ne (by first | exact nz1 (by decide) | exact nz2 (by decide) | exact nz1 (nzA hc0 (by decide)) | exact nz1 (nzE (by decide)) | exact nz1 (nzB hc0 (by decide)) | exact nz1 (nzC hc0 (by decide)) | exact nz1 (nzD hc0 (by decide)) | exact nz1 (nzF (by decide)) | exact nz1 (nzG (by decide)) | omega)]; exact h134 j (by omega))), (by rw [u6.2]; omega)⟩ (by have f0 := t_lit 1; have f1 := t_add y6_134 (nI 1); omega)
          refine wp_ite (fun c60 => ?_) (fun c60 => ?_)
          · exact j98 (fun j hj => hmb j (by have z := t_ixn y3_58 (by omega); omega))
          · have u58 := i_up (x := y3_58) (by omega)
            have i58 := t_ixn y3_58 (by omega)
            have xx := rd_ix (y := y3_58) (by omega)
            refine wp_bind2 (o4_X10_octet M_4 ((nI 2) * y3_58) (by omega)) (fun r_10 he67 hq67 => ?_)
            have hb_67 := hq67
            replace hb_67 : r_10 = (M_4 5 (ix ((nI 2) * y3_58))) &&& (nI 255) := hb_67
            have e10 : r_10 = (M 5 (2 * ix y3_58)) &&& (nI 255) := by
              rw [hb_67, e5, xx.2.1]
            refine wp_ite (fun c72 => ?_) (fun c72 => ?_)
            · exact wp_some ⟨(fun a i q0 => ((hg_M_4 a i (fun h9 => q0 (Or.inr (Or.inl h9)))).trans ((congrFun (congrFun eM_2 a) i).trans ((mset_ne (fun h9 => q0 (Or.inl h9))).trans rfl)))), (by show 0 ≤ (M_4 0 6).toInt ∧ (M_4 0 6).toInt ≤ 260; have f0 := congrArg Int32.toInt (hg_M_4 0 6 (by first | decide | (rcases hc0 with h | h <;> rw [h] <;> simp; done) | (rcases hb0 with h | h | h <;> rw [h] <;> simp; done) | (simp; done) | omega)); have f1 := congrArg Int32.toInt ((congrFun (congrFun eM_2 0) 6).trans mset_eq); have f2 := t_lit 0; have f3 := (by decide : ((-3 : Int32)).toInt = -3); omega), (by show (M_4 0 6).toInt = _; rw [if_pos (by omega), show M_4 0 6 = M_2 0 6 from ((hg_M_4 0 6 (by first | decide | (rcases hc0 with h | h <;> rw [h] <;> simp; done) | (rcases hb0 with h | h | h <;> rw [h] <;> simp; done) | (simp; done) | omega)).trans rfl), eM_2, mset_eq]; exact nI0), (Or.inr ⟨hW, Or.inr ⟨i9, _, ⟨hi9, hl9⟩, Or.inl ⟨fun z => by have q := (z (ix y3_58) (by omega)).1; have q2 : ((M 5 (2 * ix y3_58)) &&& (nI 255)).toInt ≤ 39 := q; rw [← e10] at q2; omega, (show (-3 : Int32).toInt = -3 by decide)⟩⟩⟩)⟩
            · refine wp_bind2 (o4_X10_octet M_4 (((nI 2) * y3_58) + (nI 1)) (by omega)) (fun r_11 he81 hq81 => ?_)
              have hb_81 := hq81
              replace hb_81 : r_11 = (M_4 5 (ix (((nI 2) * y3_58) + (nI 1)))) &&& (nI 255) := hb_81
              have e11 : r_11 = (M 5 (2 * ix y3_58 + 1)) &&& (nI 255) := by
                rw [hb_81, e5, xx.2.2.2]
              refine wp_ite (fun c86 => ?_) (fun c86 => ?_)
              · exact ih58 (y3_58 + (nI 1)) ⟨(by have f0 := t_lit 1; have f1 := t_add y3_58 (nI 1); omega), (fun j hj => by rw [u58.1] at hj; by_cases c : j = ix y3_58; (rw [c, ← e10, ← e11]; exact ⟨by omega, by omega⟩); (exact hmb j (by omega))), (by rw [u58.2]; omega)⟩ (by have f0 := t_lit 1; have f1 := t_add y3_58 (nI 1); omega)
              · exact wp_some ⟨(fun a i q0 => ((hg_M_4 a i (fun h9 => q0 (Or.inr (Or.inl h9)))).trans ((congrFun (congrFun eM_2 a) i).trans ((mset_ne (fun h9 => q0 (Or.inl h9))).trans rfl)))), (by show 0 ≤ (M_4 0 6).toInt ∧ (M_4 0 6).toInt ≤ 260; have f0 := congrArg Int32.toInt (hg_M_4 0 6 (by first | decide | (rcases hc0 with h | h <;> rw [h] <;> simp; done) | (rcases hb0 with h | h | h <;> rw [h] <;> simp; done) | (simp; done) | omega)); have f1 := congrArg Int32.toInt ((congrFun (congrFun eM_2 0) 6).trans mset_eq); have f2 := t_lit 0; have f3 := (by decide : ((-3 : Int32)).toInt = -3); omega), (by show (M_4 0 6).toInt = _; rw [if_pos (by omega), show M_4 0 6 = M_2 0 6 from ((hg_M_4 0 6 (by first | decide | (rcases hc0 with h | h <;> rw [h] <;> simp; done) | (rcases hb0 with h | h | h <;> rw [h] <;> simp; done) | (simp; done) | omega)).trans rfl), eM_2, mset_eq]; exact nI0), (Or.inr ⟨hW, Or.inr ⟨i9, _, ⟨hi9, hl9⟩, Or.inl ⟨fun z => by have q := (z (ix y3_58) (by omega)).2; have q2 : ((M 5 (2 * ix y3_58 + 1)) &&& (nI 255)).toInt ≤ 20 := q; rw [← e11] at q2; omega, (show (-3 : Int32).toInt = -3 by decide)⟩⟩⟩)⟩
      · exact wp_some ⟨(fun _ _ _ => rfl), (by show 0 ≤ (M 0 6).toInt ∧ (M 0 6).toInt ≤ 260; have f0 := (by decide : ((-1 : Int32)).toInt = -1); have f1 := t_lit 2; have f2 := (t_mulL v1 2 (by omega) (by omega)); omega), (by show (M 0 6).toInt = _; rw [if_neg (by omega)]), (Or.inl ⟨fun z => (by have q2 := z.2.2; omega), (show (-1 : Int32).toInt = -1 by decide)⟩)⟩
    refine wp_ite (fun c13 => ?_) (fun c13 => ?_)
    · exact j27 (by omega)
    · refine wp_bind2 (o2_X10_in M v2 (nI 0) (v1 - (nI 1))) (fun r_12 he21 hq21 => ?_)
      obtain ⟨hz_r_12, hr_21, hi_21⟩ := hq21
      replace hr_21 : ¬ r_12.toInt = 0 → (nI 0).toInt ≤ v2.toInt ∧ v2.toInt ≤ (v1 - (nI 1)).toInt := hr_21
      have := t_lit 0
      replace hi_21 : ¬ r_12.toInt = 0 ↔ (nI 0).toInt ≤ v2.toInt ∧ v2.toInt ≤ (v1 - (nI 1)).toInt := hi_21
      have := t_lit 0
      have ft21 := t_sub v1 (nI 1)
      have ft20 := t_lit 0
      refine wp_ite (fun c24 => ?_) (fun c24 => ?_)
      · exact wp_some ⟨(fun _ _ _ => rfl), (by show 0 ≤ (M 0 6).toInt ∧ (M 0 6).toInt ≤ 260; have f0 := (by decide : ((-1 : Int32)).toInt = -1); omega), (by show (M 0 6).toInt = _; rw [if_neg (by omega)]), (Or.inl ⟨fun z => (by have q2 := z.2.1; have q := mt hi_21.mpr (fun w => w c24); omega), (show (-1 : Int32).toInt = -1 by decide)⟩)⟩
      · exact j27 (by omega)
