set_option maxHeartbeats 4000000 in
theorem o8_X5_pass {b : Nat} (hb : isF b) {c : Nat} (hc : isL c) (M : Mem) (v3 : Int32) (R : Nat) (F : Nat → Int × Int) (tb : Tbl) (hL : LwC M c R F tb) (hQ : LwQ R F tb) (hN : N5P M c F) (hGd : GdF (FdC M b)) : Wp (f_X5_pass b c M v3) (fun q => (∀ a i, ¬ ((a = 21 ∧ i = 1) ∨ (a = 21 ∧ i = 2) ∨ a = 22 ∨ a = (b + 1) ∨ a = (b + 2) ∨ a = (b + 5) ∨ a = (c + 3) ∨ (a = b ∧ i = 5) ∨ (a = b ∧ i = 6)) → q a i = M a i) ∧ (ngs R F tb v3.toInt.toNat (FdC M b, nI 0, nI 0) = (FdC q b, q 21 1, q 21 2))) := by
  have hb0 : b = 1 ∨ b = 7 ∨ b = 13 := hb
  have hc0 : c = 44 ∨ c = 52 := hc
  refine wp_bnd (fun M_1 eM_1 => ?_)
  refine wp_bnd (fun M_2 eM_2 => ?_)
  have f2 : FdC M_2 b = FdC M b := fdc_fr (fun a i h1 h2 => by rw [eM_2, mset_ne (by omega), eM_1, mset_ne (by omega)])
  have m1 : M_2 21 1 = nI 0 := by rw [eM_2, mset_ne (by omega), eM_1, mset_eq]
  have m2 : M_2 21 2 = nI 0 := by rw [eM_2, mset_eq]
  have hL2 : LwC M_2 c R F tb := lwc_fr hL (fun a i q => by rw [eM_2, mset_ne (by omega), eM_1, mset_ne (by omega)])
  have hN2 : N5P M_2 c F := n5_fr hN (by rw [eM_2, mset_ne (by omega), eM_1, mset_ne (by omega)]) (by rw [eM_2, mset_ne (by omega), eM_1, mset_ne (by omega)])
  have ft1 := t_rng v3
  refine wp_lp2 (fun M13 y4_13 => (0 ≤ y4_13.toInt) ∧ (∀ a i, ¬ ((a = 21 ∧ i = 1) ∨ (a = 21 ∧ i = 2) ∨ a = 22 ∨ a = (b + 1) ∨ a = (b + 2) ∨ a = (b + 5) ∨ a = (c + 3) ∨ (a = b ∧ i = 5) ∨ (a = b ∧ i = 6)) → M13 a i = M_2 a i) ∧ (ngs R F tb v3.toInt.toNat (FdC M b, nI 0, nI 0) = ngs R F tb (v3.toInt - y4_13.toInt).toNat (FdC M13 b, M13 21 1, M13 21 2)) ∧ (GdF (FdC M13 b))) (fun M13 y4_13 => (v3.toInt - y4_13.toInt).toNat) (fun ag13 M13 y4_13 hI13 ih13 => ?_) FU M_2 (nI 0) ⟨(by have f0 := t_lit 0; omega), (fun _ _ _ => rfl), (by rw [nI0, Int.sub_zero, f2, m1, m2]), (by rw [f2]; exact hGd)⟩ (fu_lt (by have f0 := t_lit 0; omega))
  obtain ⟨hi13, hf_M13, h13, hg13⟩ := hI13
  have hL13 : LwC M13 c R F tb := lwc_fr hL2 (fun a i q => hf_M13 a i (by omega))
  have hN13 : N5P M13 c F := n5_fr hN2 (hf_M13 c 9 (by omega)) (hf_M13 c 7 (by omega))
  refine wp_ite (fun c16 => ?_) (fun c16 => ?_)
  · exact wp_some ⟨(fun a i q0 => ((hf_M13 a i (fun z8 => q0 ((fun z9 => Or.elim z9 (fun h9 => Or.inl h9) (fun z9 => Or.elim z9 (fun h9 => Or.inr (Or.inl h9)) (fun z9 => Or.elim z9 (fun h9 => Or.inr (Or.inr (Or.inl h9))) (fun z9 => Or.elim z9 (fun h9 => Or.inr (Or.inr (Or.inr (Or.inl h9)))) (fun z9 => Or.elim z9 (fun h9 => Or.inr (Or.inr (Or.inr (Or.inr (Or.inl h9))))) (fun z9 => Or.elim z9 (fun h9 => Or.inr (Or.inr (Or.inr (Or.inr (Or.inr (Or.inl h9)))))) (fun z9 => Or.elim z9 (fun h9 => Or.inr (Or.inr (Or.inr (Or.inr (Or.inr (Or.inr (Or.inl h9))))))) (fun z9 => Or.elim z9 (fun h9 => Or.inr (Or.inr (Or.inr (Or.inr (Or.inr (Or.inr (Or.inr (Or.inl h9)))))))) (fun h9 => Or.inr (Or.inr (Or.inr (Or.inr (Or.inr (Or.inr (Or.inr (Or.inr (h9))))))))))))))))) z8))).trans ((congrFun (congrFun eM_2 a) i).trans ((mset_ne (fun h9 => q0 (Or.inr (Or.inl h9)))).trans ((congrFun (congrFun eM_1 a) i).trans ((mset_ne (fun h9 => q0 (Or.inl h9))).trans rfl)))))), (by rw [h13]; exact ngs_0 c16)⟩
  · refine wp_ite (fun c26 => ?_) (fun c26 => ?_)
    · exact wp_some ⟨(fun a i q0 => ((hf_M13 a i (fun z8 => q0 ((fun z9 => Or.elim z9 (fun h9 => Or.inl h9) (fun z9 => Or.elim z9 (fun h9 => Or.inr (Or.inl h9)) (fun z9 => Or.elim z9 (fun h9 => Or.inr (Or.inr (Or.inl h9))) (fun z9 => Or.elim z9 (fun h9 => Or.inr (Or.inr (Or.inr (Or.inl h9)))) (fun z9 => Or.elim z9 (fun h9 => Or.inr (Or.inr (Or.inr (Or.inr (Or.inl h9))))) (fun z9 => Or.elim z9 (fun h9 => Or.inr (Or.inr (Or.inr (Or.inr (Or.inr (Or.inl h9)))))) (fun z9 => Or.elim z9 (fun h9 => Or.inr (Or.inr (Or.inr (Or.inr (Or.inr (Or.inr (Or.inl h9))))))) (fun z9 => Or.elim z9 (fun h9 => Or.inr (Or.inr (Or.inr (Or.inr (Or.inr (Or.inr (Or.inr (Or.inl h9)))))))) (fun h9 => Or.inr (Or.inr (Or.inr (Or.inr (Or.inr (Or.inr (Or.inr (Or.inr (h9))))))))))))))))) z8))).trans ((congrFun (congrFun eM_2 a) i).trans ((mset_ne (fun h9 => q0 (Or.inr (Or.inl h9)))).trans ((congrFun (congrFun eM_1 a) i).trans ((mset_ne (fun h9 => q0 (Or.inl h9))).trans rfl)))))), (by rw [h13]; exact ngs_9 (by show 9999 ≤ (FdC M13 b 0 5).toInt; rw [fdc_n]; exact c26))⟩
    · refine wp_lp2 (fun M32 y5_32 => (0 ≤ y5_32.toInt) ∧ (∀ a i, ¬ ((a = 21 ∧ i = 1) ∨ (a = 21 ∧ i = 2) ∨ a = 22 ∨ a = (b + 1) ∨ a = (b + 2) ∨ a = (b + 5) ∨ a = (c + 3) ∨ (a = b ∧ i = 6)) → M32 a i = M13 a i) ∧ (nlp R F tb 40 0 (FdC M13 b, M13 21 1, M13 21 2) = nlp R F tb (40 - ix y5_32) (ix y5_32) (FdC M32 b, M32 21 1, M32 21 2)) ∧ (GdF (FdC M32 b))) (fun M32 y5_32 => (40 - y5_32.toInt).toNat) (fun ag32 M32 y5_32 hI32 ih32 => ?_) FU M13 (nI 0) ⟨(by have f0 := t_lit 0; omega), (fun _ _ _ => rfl), (by rw [show ix (nI 0) = 0 from (by decide)]), hg13⟩ (fu_lt (by have f0 := t_lit 0; omega))
      obtain ⟨hi32, hf_M32, h32, hg32⟩ := hI32
      have hL32 : LwC M32 c R F tb := lwc_fr hL13 (fun a i q => hf_M32 a i (by omega))
      have hN32 : N5P M32 c F := n5_fr hN13 (hf_M32 c 9 (by omega)) (hf_M32 c 7 (by omega))
      have j63 : (40 ≤ y5_32.toInt) → Wp (f_X5_pass_L63 b ag13 y4_13 M32) (fun q => (∀ a i, ¬ ((a = 21 ∧ i = 1) ∨ (a = 21 ∧ i = 2) ∨ a = 22 ∨ a = (b + 1) ∨ a = (b + 2) ∨ a = (b + 5) ∨ a = (c + 3) ∨ (a = b ∧ i = 5) ∨ (a = b ∧ i = 6)) → q a i = M a i) ∧ (ngs R F tb v3.toInt.toNat (FdC M b, nI 0, nI 0) = (FdC q b, q 21 1, q 21 2))) := by
        intro h63
        unfold f_X5_pass_L63
        refine wp_bnd (fun M_3 eM_3 => ?_)
        have e3 : FdC M_3 b = mset (FdC M32 b) 0 5 (FdC M32 b 0 5 + nI 1) := by
          rw [eM_3, fdc_nite, fdc_n]
        have e13 : nlp R F tb 40 0 (FdC M13 b, M13 21 1, M13 21 2) = (FdC M32 b, M32 21 1, M32 21 2) := h32.trans (nlp_0 (ge40 hi32 h63))
        have n13 : ¬ 9999 ≤ (FdC M13 b 0 5).toInt := by
          rw [fdc_n]
          exact c26
        have n32 : ¬ 9999 ≤ (FdC M32 b 0 5).toInt := by
          rw [fdc_n, hf_M32 b 5 (by omega)]
          exact c26
        have q1 : M_3 21 1 = M32 21 1 := by rw [eM_3, mset_ne (by omega)]
        have q2 : M_3 21 2 = M32 21 2 := by rw [eM_3, mset_ne (by omega)]
        exact ih13 M_3 (y4_13 + (nI 1)) ⟨(by have f0 := t_lit 1; have f1 := t_add y4_13 (nI 1); omega), (fun a i q0 => ((congrFun (congrFun eM_3 a) i).trans ((mset_ne (fun h9 => q0 (Or.inr (Or.inr (Or.inr (Or.inr (Or.inr (Or.inr (Or.inr (Or.inl h9)))))))))).trans ((hf_M32 a i (fun z8 => q0 ((fun z9 => Or.elim z9 (fun h9 => Or.inl h9) (fun z9 => Or.elim z9 (fun h9 => Or.inr (Or.inl h9)) (fun z9 => Or.elim z9 (fun h9 => Or.inr (Or.inr (Or.inl h9))) (fun z9 => Or.elim z9 (fun h9 => Or.inr (Or.inr (Or.inr (Or.inl h9)))) (fun z9 => Or.elim z9 (fun h9 => Or.inr (Or.inr (Or.inr (Or.inr (Or.inl h9))))) (fun z9 => Or.elim z9 (fun h9 => Or.inr (Or.inr (Or.inr (Or.inr (Or.inr (Or.inl h9)))))) (fun z9 => Or.elim z9 (fun h9 => Or.inr (Or.inr (Or.inr (Or.inr (Or.inr (Or.inr (Or.inl h9))))))) (fun h9 => Or.inr (Or.inr (Or.inr (Or.inr (Or.inr (Or.inr (Or.inr (Or.inr (h9)))))))))))))))) z8))).trans ((hf_M13 a i (fun z8 => q0 ((fun z9 => Or.elim z9 (fun h9 => Or.inl h9) (fun z9 => Or.elim z9 (fun h9 => Or.inr (Or.inl h9)) (fun z9 => Or.elim z9 (fun h9 => Or.inr (Or.inr (Or.inl h9))) (fun z9 => Or.elim z9 (fun h9 => Or.inr (Or.inr (Or.inr (Or.inl h9)))) (fun z9 => Or.elim z9 (fun h9 => Or.inr (Or.inr (Or.inr (Or.inr (Or.inl h9))))) (fun z9 => Or.elim z9 (fun h9 => Or.inr (Or.inr (Or.inr (Or.inr (Or.inr (Or.inl h9)))))) (fun z9 => Or.elim z9 (fun h9 => Or.inr (Or.inr (Or.inr (Or.inr (Or.inr (Or.inr (Or.inl h9))))))) (fun z9 => Or.elim z9 (fun h9 => Or.inr (Or.inr (Or.inr (Or.inr (Or.inr (Or.inr (Or.inr (Or.inl h9)))))))) (fun h9 => Or.inr (Or.inr (Or.inr (Or.inr (Or.inr (Or.inr (Or.inr (Or.inr (h9))))))))))))))))) z8))).trans rfl))))), (by rw [h13, ngs_1 (s := (FdC M13 b, M13 21 1, M13 21 2)) c16 n13, nit_of e13 e3, q1, q2]), (by rw [e3]; exact gd_nt hg32 n32)⟩ (by have f0 := t_lit 1; have f1 := t_add y4_13 (nI 1); omega)
      refine wp_ite (fun c36 => ?_) (fun c36 => ?_)
      · exact j63 c36
      · have u := up40 hi32 c36
        refine wp_gd (by omega) ?_
        refine wp_ite (fun c46 => ?_) (fun c46 => ?_)
        · exact ih32 M32 (y5_32 + (nI 1)) ⟨(by have f0 := t_lit 1; have f1 := t_add y5_32 (nI 1); have f2 := congrArg Int32.toInt (hf_M32 (b + 4) (ix y5_32) (by omega)); have f3 := congrArg Int32.toInt (hf_M13 (b + 4) (ix y5_32) (by omega)); have f4 := congrArg Int32.toInt ((congrFun (congrFun eM_2 (b + 4)) (ix y5_32)).trans (mset_ne (by omega))); have f5 := congrArg Int32.toInt ((congrFun (congrFun eM_1 (b + 4)) (ix y5_32)).trans (mset_ne (by omega))); omega), (fun a i q0 => ((hf_M32 a i (fun z8 => q0 ((fun z9 => Or.elim z9 (fun h9 => Or.inl h9) (fun z9 => Or.elim z9 (fun h9 => Or.inr (Or.inl h9)) (fun z9 => Or.elim z9 (fun h9 => Or.inr (Or.inr (Or.inl h9))) (fun z9 => Or.elim z9 (fun h9 => Or.inr (Or.inr (Or.inr (Or.inl h9)))) (fun z9 => Or.elim z9 (fun h9 => Or.inr (Or.inr (Or.inr (Or.inr (Or.inl h9))))) (fun z9 => Or.elim z9 (fun h9 => Or.inr (Or.inr (Or.inr (Or.inr (Or.inr (Or.inl h9)))))) (fun z9 => Or.elim z9 (fun h9 => Or.inr (Or.inr (Or.inr (Or.inr (Or.inr (Or.inr (Or.inl h9))))))) (fun h9 => Or.inr (Or.inr (Or.inr (Or.inr (Or.inr (Or.inr (Or.inr (h9))))))))))))))) z8))).trans rfl)), (by rw [h32, nlp_1 u.2.1, stp_n (by show (FdC M32 b 4 (ix y5_32)).toInt = 0; rw [fdc_4 u.2.1]; exact c46), u.1]), hg32⟩ (by have f0 := t_lit 1; have f1 := t_add y5_32 (nI 1); have f2 := congrArg Int32.toInt (hf_M32 (b + 4) (ix y5_32) (by omega)); have f3 := congrArg Int32.toInt (hf_M13 (b + 4) (ix y5_32) (by omega)); have f4 := congrArg Int32.toInt ((congrFun (congrFun eM_2 (b + 4)) (ix y5_32)).trans (mset_ne (by omega))); have f5 := congrArg Int32.toInt ((congrFun (congrFun eM_1 (b + 4)) (ix y5_32)).trans (mset_ne (by omega))); omega)
        · have ht : ¬ (FdC M32 b 4 (ix y5_32)).toInt = 0 := by
            rw [fdc_4 u.2.1]
            exact c46
          refine wp_bind2 (o8_X5_turn hb hc M32 y5_32 R F tb ⟨hi32, u.2.2⟩ ht hg32.1.2.1 hL32 hQ hN32) (fun M_4 he54 hq54 => ?_)
          obtain ⟨hg_M_4, htn_54⟩ := hq54
          replace htn_54 : FdC M_4 b = tnG R F tb (FdC M32 b) (ix y5_32) ∧ M_4 21 1 = (if tnH R F tb (FdC M32 b) (ix y5_32) = 1 then M32 21 1 + nI 1 else M32 21 1) ∧ M_4 21 2 = (if tnH R F tb (FdC M32 b) (ix y5_32) = 2 then M32 21 2 + nI 1 else M32 21 2) := htn_54
          replace hg_M_4 : ∀ a i, ¬ ((a = 21 ∧ i = 1) ∨ (a = 21 ∧ i = 2) ∨ a = 22 ∨ a = (b + 1) ∨ a = (b + 2) ∨ a = (b + 5) ∨ a = (c + 3) ∨ (a = b ∧ i = 6)) → M_4 a i = M32 a i := by exact fun a i q0 => hg_M_4 a i (by omega)
          exact ih32 M_4 (y5_32 + (nI 1)) ⟨(by have f0 := t_lit 1; have f1 := t_add y5_32 (nI 1); have f2 := congrArg Int32.toInt (hf_M32 (b + 4) (ix y5_32) (by omega)); have f3 := congrArg Int32.toInt (hf_M13 (b + 4) (ix y5_32) (by omega)); have f4 := congrArg Int32.toInt ((congrFun (congrFun eM_2 (b + 4)) (ix y5_32)).trans (mset_ne (by omega))); have f5 := congrArg Int32.toInt ((congrFun (congrFun eM_1 (b + 4)) (ix y5_32)).trans (mset_ne (by omega))); omega), (fun a i q0 => ((hg_M_4 a i (fun z8 => q0 ((fun z9 => Or.elim z9 (fun h9 => Or.inl h9) (fun z9 => Or.elim z9 (fun h9 => Or.inr (Or.inl h9)) (fun z9 => Or.elim z9 (fun h9 => Or.inr (Or.inr (Or.inl h9))) (fun z9 => Or.elim z9 (fun h9 => Or.inr (Or.inr (Or.inr (Or.inl h9)))) (fun z9 => Or.elim z9 (fun h9 => Or.inr (Or.inr (Or.inr (Or.inr (Or.inl h9))))) (fun z9 => Or.elim z9 (fun h9 => Or.inr (Or.inr (Or.inr (Or.inr (Or.inr (Or.inl h9)))))) (fun z9 => Or.elim z9 (fun h9 => Or.inr (Or.inr (Or.inr (Or.inr (Or.inr (Or.inr (Or.inl h9))))))) (fun h9 => Or.inr (Or.inr (Or.inr (Or.inr (Or.inr (Or.inr (Or.inr (h9))))))))))))))) z8))).trans ((hf_M32 a i (fun z8 => q0 ((fun z9 => Or.elim z9 (fun h9 => Or.inl h9) (fun z9 => Or.elim z9 (fun h9 => Or.inr (Or.inl h9)) (fun z9 => Or.elim z9 (fun h9 => Or.inr (Or.inr (Or.inl h9))) (fun z9 => Or.elim z9 (fun h9 => Or.inr (Or.inr (Or.inr (Or.inl h9)))) (fun z9 => Or.elim z9 (fun h9 => Or.inr (Or.inr (Or.inr (Or.inr (Or.inl h9))))) (fun z9 => Or.elim z9 (fun h9 => Or.inr (Or.inr (Or.inr (Or.inr (Or.inr (Or.inl h9)))))) (fun z9 => Or.elim z9 (fun h9 => Or.inr (Or.inr (Or.inr (Or.inr (Or.inr (Or.inr (Or.inl h9))))))) (fun h9 => Or.inr (Or.inr (Or.inr (Or.inr (Or.inr (Or.inr (Or.inr (h9))))))))))))))) z8))).trans rfl))), (by rw [h32, nlp_1 u.2.1, stp_y ht, u.1, htn_54.1, htn_54.2.1, htn_54.2.2]), (by rw [htn_54.1]; exact gd_tn hg32 u.2.1)⟩ (by have f0 := t_lit 1; have f1 := t_add y5_32 (nI 1); have f2 := congrArg Int32.toInt (hf_M32 (b + 4) (ix y5_32) (by omega)); have f3 := congrArg Int32.toInt (hf_M13 (b + 4) (ix y5_32) (by omega)); have f4 := congrArg Int32.toInt ((congrFun (congrFun eM_2 (b + 4)) (ix y5_32)).trans (mset_ne (by omega))); have f5 := congrArg Int32.toInt ((congrFun (congrFun eM_1 (b + 4)) (ix y5_32)).trans (mset_ne (by omega))); omega)
set_option maxHeartbeats 8000000 in
theorem o8_X10_moves (M : Mem) (v1 : Int32) (hv1 : 0 ≤ v1.toInt ∧ v1.toInt < 40) (R : Nat) (F : Nat → Int × Int) (tb : Tbl) (hL : LwR M R F tb) (hQ : LwQ R F tb) (hGd : GdF (FdR M 1)) (htl : tld (FdR M 1) (ix v1)) : Wp (f_X10_moves M v1) (fun q => (∀ a i, ¬ ((a = 0 ∧ i = 34) ∨ (a = 0 ∧ i = 35) ∨ a = 1 ∨ a = 17 ∨ a = 18) → q a i = M a i) ∧ (FdR q 1 = (tnG R F tb (FdR M 1) (ix v1)) ∧ q 0 34 = (if (tnH R F tb (FdR M 1) (ix v1)) = 1 then M 0 34 + nI 1 else M 0 34) ∧ q 0 35 = (if (tnH R F tb (FdR M 1) (ix v1)) = 2 then M 0 35 + nI 1 else M 0 35))) := by
  refine wp_bnd (fun M_1 eM_1 => ?_)
  have i40 := ix40 hv1.1 hv1.2
  have d0 := hGd.2.1.1
  rw [fdr_6] at d0
  have rowM1 : M_1 1 = upd (M 1) 201 (drw (M 1 201)) := by rw [eM_1, mset_s, drw_rm d0]
  have f1 : FdR M_1 1 = (tn1 (FdR M 1)) := by
    unfold FdR
    rw [rowM1, fdr_draw]
    unfold tn1
    have e6 : mskF (rwR (M 1)) 0 6 = M 1 201 := fdr_6 M
    rw [e6]
  have hL1 : LwR M_1 R F tb := lwr_fr hL (fun a i q => by rw [eM_1, mset_ne (by omega)])
  have g1 : GdF (tn1 (FdR M 1)) := gd_1 hGd
  have t1 : tld (tn1 (FdR M 1)) (ix v1) := tld_1.mpr htl
  refine wp_bnd (fun x_2 ex_2 => ?_)
  have ex2 : x_2 = (tnd (FdR M 1)) := by
    rw [ex_2, rowM1, upd_e]
    unfold tnd
    rw [fdr_6]
  refine wp_bind2 (o8_X10_feels M_1 v1 x_2 hv1 (by rw [f1]; exact g1.1.1) (by rw [f1]; exact t1)) (fun M_3 he43 hq43 => ?_)
  obtain ⟨hg_M_3, hfl_43⟩ := hq43
  replace hfl_43 : ∀ j : Nat, j < 8 → M_3 18 j = vlF (FdR M_1 1) (ix v1) x_2 j := hfl_43
  replace hg_M_3 : ∀ a i, ¬ (a = 18) → M_3 a i = M_1 a i := hg_M_3
  have hL3 : LwR M_3 R F tb := lwr_fr hL1 (fun a i q => hg_M_3 a i (by omega))
  have f3 : FdR M_3 1 = (tn1 (FdR M 1)) := (fdr_same (fun j hj => hg_M_3 1 j (by omega))).trans f1
  rw [f1, ex2] at hfl_43
  have hV3 : ∀ j : Nat, j < 8 → M_3 18 j = (vlF (tn1 (FdR M 1)) (ix v1) (tnd (FdR M 1))) j := hfl_43
  have xx := fdr_x (M := M_3) hv1.1 hv1.2 (by rw [f3]; exact t1)
  rw [f3] at xx
  refine wp_gd (by have f0 := t_lit 40; have f1 := t_add (nI 40) v1; omega) ?_
  refine wp_cb2 (o7_X10_byLaw M_3 (nI 117) (nI 9) R F tb (vlF (tn1 (FdR M 1)) (ix v1) (tnd (FdR M 1))) hL3 hQ hV3 (by decide) rfl) (fun r_4 M_5 he60 hq60 => ?_)
  obtain ⟨hg_M_5, hr_60⟩ := hq60
  replace hr_60 : r_4 = amt F (vlF (tn1 (FdR M 1)) (ix v1) (tnd (FdR M 1))) tb (nI 117).toInt R 0 := hr_60
  have := t_lit 117
  have := t_lit 9
  replace hg_M_5 : ∀ a i, ¬ (a = 17) → M_5 a i = M_3 a i := hg_M_5
  have hL5 : LwR M_5 R F tb := lwr_fr hL3 (fun a i q => hg_M_5 a i (by omega))
  have f5 : FdR M_5 1 = (tn1 (FdR M 1)) := (fdr_same (fun j hj => hg_M_5 1 j (by omega))).trans f3
  have hV5 : ∀ j : Nat, j < 8 → M_5 18 j = (vlF (tn1 (FdR M 1)) (ix v1) (tnd (FdR M 1))) j := fun j hj => (hg_M_5 18 j (by omega)).trans (hV3 j hj)
  refine wp_cb2 (o7_X10_byLaw M_5 (nI 100) (nI 9) R F tb (vlF (tn1 (FdR M 1)) (ix v1) (tnd (FdR M 1))) hL5 hQ hV5 (by decide) rfl) (fun r_6 M_7 he69 hq69 => ?_)
  obtain ⟨hg_M_7, hr_69⟩ := hq69
  replace hr_69 : r_6 = amt F (vlF (tn1 (FdR M 1)) (ix v1) (tnd (FdR M 1))) tb (nI 100).toInt R 0 := hr_69
  have := t_lit 100
  have := t_lit 9
  replace hg_M_7 : ∀ a i, ¬ (a = 17) → M_7 a i = M_5 a i := hg_M_7
  have hL7 : LwR M_7 R F tb := lwr_fr hL5 (fun a i q => hg_M_7 a i (by omega))
  have f7 : FdR M_7 1 = (tn1 (FdR M 1)) := (fdr_same (fun j hj => hg_M_7 1 j (by omega))).trans f5
  have hV7 : ∀ j : Nat, j < 8 → M_7 18 j = (vlF (tn1 (FdR M 1)) (ix v1) (tnd (FdR M 1))) j := fun j hj => (hg_M_7 18 j (by omega)).trans (hV5 j hj)
  have yy := fdr_y (M := M_7) hv1.1 hv1.2 (by rw [f7]; exact t1)
  rw [f7] at yy
  refine wp_bind2 (o_X10_bounded M_7 (((M_3 1 (ix ((nI 40) + v1))) + r_4) - r_6) (nI 0) (nI 39)) (fun r_8 he76 hq76 => ?_)
  have hr_76 := hq76
  replace hr_76 : r_8.toInt = max (nI 0).toInt (min (nI 39).toInt (((M_3 1 (ix ((nI 40) + v1))) + r_4) - r_6).toInt) := hr_76
  have := t_lit 0
  have := t_lit 39
  have hx : r_8 = (tnX R F tb (FdR M 1) (ix v1)) := bd_gx hr_76 (by rw [hr_60, hr_69, show (nI 117).toInt = 117 from t_lit 117, show (nI 100).toInt = 100 from t_lit 100]; exact asub xx)
  refine wp_gd (by have f0 := t_lit 80; have f1 := t_add (nI 80) v1; omega) ?_
  refine wp_cb2 (o7_X10_byLaw M_7 (nI 111) (nI 9) R F tb (vlF (tn1 (FdR M 1)) (ix v1) (tnd (FdR M 1))) hL7 hQ hV7 (by decide) rfl) (fun r_9 M_10 he94 hq94 => ?_)
  obtain ⟨hg_M_10, hr_94⟩ := hq94
  replace hr_94 : r_9 = amt F (vlF (tn1 (FdR M 1)) (ix v1) (tnd (FdR M 1))) tb (nI 111).toInt R 0 := hr_94
  have := t_lit 111
  have := t_lit 9
  replace hg_M_10 : ∀ a i, ¬ (a = 17) → M_10 a i = M_7 a i := hg_M_10
  have hL10 : LwR M_10 R F tb := lwr_fr hL7 (fun a i q => hg_M_10 a i (by omega))
  have f10 : FdR M_10 1 = (tn1 (FdR M 1)) := (fdr_same (fun j hj => hg_M_10 1 j (by omega))).trans f7
  have hV10 : ∀ j : Nat, j < 8 → M_10 18 j = (vlF (tn1 (FdR M 1)) (ix v1) (tnd (FdR M 1))) j := fun j hj => (hg_M_10 18 j (by omega)).trans (hV7 j hj)
  refine wp_cb2 (o7_X10_byLaw M_10 (nI 98) (nI 9) R F tb (vlF (tn1 (FdR M 1)) (ix v1) (tnd (FdR M 1))) hL10 hQ hV10 (by decide) rfl) (fun r_11 M_12 he103 hq103 => ?_)
  obtain ⟨hg_M_12, hr_103⟩ := hq103
  replace hr_103 : r_11 = amt F (vlF (tn1 (FdR M 1)) (ix v1) (tnd (FdR M 1))) tb (nI 98).toInt R 0 := hr_103
  have := t_lit 98
  have := t_lit 9
  replace hg_M_12 : ∀ a i, ¬ (a = 17) → M_12 a i = M_10 a i := hg_M_12
  have hL12 : LwR M_12 R F tb := lwr_fr hL10 (fun a i q => hg_M_12 a i (by omega))
  have f12 : FdR M_12 1 = (tn1 (FdR M 1)) := (fdr_same (fun j hj => hg_M_12 1 j (by omega))).trans f10
  refine wp_bind2 (o_X10_bounded M_12 (((M_7 1 (ix ((nI 80) + v1))) + r_9) - r_11) (nI 1) (nI 20)) (fun r_13 he110 hq110 => ?_)
  have hr_110 := hq110
  replace hr_110 : r_13.toInt = max (nI 1).toInt (min (nI 20).toInt (((M_7 1 (ix ((nI 80) + v1))) + r_9) - r_11).toInt) := hr_110
  have := t_lit 1
  have := t_lit 20
  have hy : r_13 = (tnY R F tb (FdR M 1) (ix v1)) := bd_gy hr_110 (by rw [hr_94, hr_103, show (nI 111).toInt = 111 from t_lit 111, show (nI 98).toInt = 98 from t_lit 98]; exact asub yy)
  refine wp_bind2 (o8_X10_stoneAt M_12 r_8 r_13 (by rw [f12]; exact g1.1.1)) (fun r_14 he119 hq119 => ?_)
  obtain ⟨hr_119, hsa_119⟩ := hq119
  replace hr_119 : r_14.toInt = -1 ∨ ((0 ≤ r_14.toInt ∧ r_14.toInt < 40) ∧ (M_12 1 (ix r_14)).toInt = 1 ∧ (M_12 1 (ix (nI 40 + r_14))).toInt = r_8.toInt ∧ (M_12 1 (ix (nI 80 + r_14))).toInt = r_13.toInt) := hr_119
  replace hsa_119 : r_14 = stA (FdR M_12 1) r_8.toInt r_13.toInt 40 0 := hsa_119
  rw [f12, hx, hy] at hsa_119
  have k34 : M_12 0 34 = M 0 34 := by rw [hg_M_12 0 34 (by omega), hg_M_10 0 34 (by omega), hg_M_7 0 34 (by omega), hg_M_5 0 34 (by omega), hg_M_3 0 34 (by omega), eM_1, mset_ne (by omega)]
  have k35 : M_12 0 35 = M 0 35 := by rw [hg_M_12 0 35 (by omega), hg_M_10 0 35 (by omega), hg_M_7 0 35 (by omega), hg_M_5 0 35 (by omega), hg_M_3 0 35 (by omega), eM_1, mset_ne (by omega)]
  have x40 := ixc (n := 40) hv1.1 hv1.2 (by omega)
  have x80 := ixc (n := 80) hv1.1 hv1.2 (by omega)
  have x160 := ixc (n := 160) hv1.1 hv1.2 (by omega)
  have fv := t_ixn v1 hv1.1
  have j180 : ∀ (N180 : Mem), (∀ a i, ¬ ((a = 0 ∧ i = 34) ∨ (a = 0 ∧ i = 35) ∨ a = 1) → N180 a i = M_12 a i) → (FdR N180 1 = (tn2 R F tb (FdR M 1) (ix v1)) ∧ N180 0 34 = (if (tnH R F tb (FdR M 1) (ix v1)) = 1 then M 0 34 + nI 1 else M 0 34) ∧ N180 0 35 = (if (tnH R F tb (FdR M 1) (ix v1)) = 2 then M 0 35 + nI 1 else M 0 35)) → Wp (f_X10_moves_L180 v1 x_2 N180) (fun q => (∀ a i, ¬ ((a = 0 ∧ i = 34) ∨ (a = 0 ∧ i = 35) ∨ a = 1 ∨ a = 17 ∨ a = 18) → q a i = M a i) ∧ (FdR q 1 = (tnG R F tb (FdR M 1) (ix v1)) ∧ q 0 34 = (if (tnH R F tb (FdR M 1) (ix v1)) = 1 then M 0 34 + nI 1 else M 0 34) ∧ q 0 35 = (if (tnH R F tb (FdR M 1) (ix v1)) = 2 then M 0 35 + nI 1 else M 0 35))) := by
    intro N180 hf_N180 h180
    unfold f_X10_moves_L180
    have hL180 : LwR N180 R F tb := lwr_fr hL12 (fun a i q => hf_N180 a i (by omega))
    have g2 : GdF (tn2 R F tb (FdR M 1) (ix v1)) := gd_sh g1 i40
    have t2 : tld (tn2 R F tb (FdR M 1) (ix v1)) (ix v1) := tld_2.mpr htl
    refine wp_bind2 (o8_X10_feels N180 v1 x_2 hv1 (by rw [h180.1]; exact g2.1.1) (by rw [h180.1]; exact t2)) (fun M_15 he183 hq183 => ?_)
    obtain ⟨hg_M_15, hfl_183⟩ := hq183
    replace hfl_183 : ∀ j : Nat, j < 8 → M_15 18 j = vlF (FdR N180 1) (ix v1) x_2 j := hfl_183
    replace hg_M_15 : ∀ a i, ¬ (a = 18) → M_15 a i = N180 a i := hg_M_15
    rw [h180.1, ex2] at hfl_183
    have hV15 : ∀ j : Nat, j < 8 → M_15 18 j = (vlF (tn2 R F tb (FdR M 1) (ix v1)) (ix v1) (tnd (FdR M 1))) j := hfl_183
    have hL15 : LwR M_15 R F tb := lwr_fr hL180 (fun a i q => hg_M_15 a i (by omega))
    refine wp_cb2 (o7_X10_holdsAny M_15 (nI 120) R F tb (vlF (tn2 R F tb (FdR M 1) (ix v1)) (ix v1) (tnd (FdR M 1))) hL15 hQ hV15 (by decide)) (fun r_16 M_17 he198 hq198 => ?_)
    obtain ⟨hz_r_16, hg_M_17, hr_198⟩ := hq198
    replace hr_198 : r_16 = snk F (vlF (tn2 R F tb (FdR M 1) (ix v1)) (ix v1) (tnd (FdR M 1))) tb R 0 := hr_198
    have := t_lit 120
    replace hg_M_17 : ∀ a i, ¬ (a = 17) → M_17 a i = M_15 a i := hg_M_17
    have j209 : ∀ (t0_209 : Int32), (t0_209 = 0 ∨ t0_209 = 1) → (t0_209 = snk F (vlF (tn2 R F tb (FdR M 1) (ix v1)) (ix v1) (tnd (FdR M 1))) tb R 0) → Wp (f_X10_moves_L209 v1 M_17 t0_209) (fun q => (∀ a i, ¬ ((a = 0 ∧ i = 34) ∨ (a = 0 ∧ i = 35) ∨ a = 1 ∨ a = 17 ∨ a = 18) → q a i = M a i) ∧ (FdR q 1 = (tnG R F tb (FdR M 1) (ix v1)) ∧ q 0 34 = (if (tnH R F tb (FdR M 1) (ix v1)) = 1 then M 0 34 + nI 1 else M 0 34) ∧ q 0 35 = (if (tnH R F tb (FdR M 1) (ix v1)) = 2 then M 0 35 + nI 1 else M 0 35))) := by
      intro t0_209 hb_t0_209 h209
      unfold f_X10_moves_L209
      refine wp_gd (by have f0 := t_lit 160; have f1 := t_add (nI 160) v1; omega) ?_
      refine wp_bnd (fun M_18 eM_18 => ?_)
      have f17 : FdR M_17 1 = (tn2 R F tb (FdR M 1) (ix v1)) := (fdr_same (fun j hj => (hg_M_17 1 j (by omega)).trans (hg_M_15 1 j (by omega)))).trans h180.1
      have row18 : M_18 1 = upd (M_17 1) (clR 5 + ix v1) t0_209 := by rw [eM_18, mset_s, x160]; rfl
      have f18 := fdr_set (a := 5) i40 (by omega) (by omega) (by rw [f17]; exact t2) row18
      exact wp_some ⟨(fun a i q0 => ((congrFun (congrFun eM_18 a) i).trans ((mset_ne (fun h9 => q0 (Or.inr (Or.inr (Or.inl (h9).1))))).trans ((hg_M_17 a i (fun h9 => q0 (Or.inr (Or.inr (Or.inr (Or.inl h9)))))).trans ((hg_M_15 a i (fun h9 => q0 (Or.inr (Or.inr (Or.inr (Or.inr (h9))))))).trans ((hf_N180 a i (fun z8 => q0 ((fun z9 => Or.elim z9 (fun h9 => Or.inl h9) (fun z9 => Or.elim z9 (fun h9 => Or.inr (Or.inl h9)) (fun h9 => Or.inr (Or.inr (Or.inl h9))))) z8))).trans ((hg_M_12 a i (fun h9 => q0 (Or.inr (Or.inr (Or.inr (Or.inl h9)))))).trans ((hg_M_10 a i (fun h9 => q0 (Or.inr (Or.inr (Or.inr (Or.inl h9)))))).trans ((hg_M_7 a i (fun h9 => q0 (Or.inr (Or.inr (Or.inr (Or.inl h9)))))).trans ((hg_M_5 a i (fun h9 => q0 (Or.inr (Or.inr (Or.inr (Or.inl h9)))))).trans ((hg_M_3 a i (fun h9 => q0 (Or.inr (Or.inr (Or.inr (Or.inr (h9))))))).trans ((congrFun (congrFun eM_1 a) i).trans ((mset_ne (fun h9 => q0 (Or.inr (Or.inr (Or.inl (h9).1))))).trans rfl))))))))))))), (by show FdR M_18 1 = (tnG R F tb (FdR M 1) (ix v1)) ∧ M_18 0 34 = (if (tnH R F tb (FdR M 1) (ix v1)) = 1 then M 0 34 + nI 1 else M 0 34) ∧ M_18 0 35 = (if (tnH R F tb (FdR M 1) (ix v1)) = 2 then M 0 35 + nI 1 else M 0 35); refine ⟨?_, ?_, ?_⟩; (rw [f18, f17, h209]; rfl); (rw [eM_18, mset_ne (by omega), hg_M_17 0 34 (by omega), hg_M_15 0 34 (by omega)]; exact h180.2.1); (rw [eM_18, mset_ne (by omega), hg_M_17 0 35 (by omega), hg_M_15 0 35 (by omega)]; exact h180.2.2))⟩
    refine wp_ite (fun c201 => ?_) (fun c201 => ?_)
    · exact j209 (nI 0) b01_0 (by rw [← hr_198]; exact (b01x (b01_to hz_r_16)).1 c201)
    · exact j209 (nI 1) b01_1 (by rw [← hr_198]; exact (b01x (b01_to hz_r_16)).2 c201)
  refine wp_ite (fun c127 => ?_) (fun c127 => ?_)
  · refine wp_gd (by have f0 := t_lit 40; have f1 := t_add (nI 40) v1; omega) ?_
    refine wp_bnd (fun M_20 eM_20 => ?_)
    refine wp_gd (by have f0 := t_lit 80; have f1 := t_add (nI 80) v1; omega) ?_
    refine wp_bnd (fun M_21 eM_21 => ?_)
    refine wp_bnd (fun M_22 eM_22 => ?_)
    exact j180 M_22 (fun a i q0 => ((congrFun (congrFun eM_22 a) i).trans ((mset_ne (fun h9 => q0 (Or.inl h9))).trans ((congrFun (congrFun eM_21 a) i).trans ((mset_ne (fun h9 => q0 (Or.inr (Or.inr ((h9).1))))).trans ((congrFun (congrFun eM_20 a) i).trans ((mset_ne (fun h9 => q0 (Or.inr (Or.inr ((h9).1))))).trans rfl))))))) (by have w : (tnH R F tb (FdR M 1) (ix v1)) = 1 := mv_1 g1.1.2.2 i40 t1 (by show (stA (tn1 (FdR M 1)) (tnX R F tb (FdR M 1) (ix v1)).toInt (tnY R F tb (FdR M 1) (ix v1)).toInt 40 0).toInt = _; rw [← hsa_119]; exact c127); have s20 := fdr_set (M := M_12) (N := M_20) (a := 1) (x := r_8) i40 (by omega) (by omega) (by rw [f12]; exact t1) (by rw [eM_20, mset_s, x40]; rfl); have s21 := fdr_set (M := M_20) (N := M_21) (a := 2) (x := r_13) i40 (by omega) (by omega) (by rw [s20, f12]; unfold tld; rw [mset_ne (by omega)]; exact t1) (by rw [eM_21, mset_s, x80]; rfl); have s22 : FdR M_22 1 = FdR M_21 1 := fdr_same (fun j hj => by rw [eM_22, mset_ne (by omega)]); exact ⟨by rw [s22, s21, s20, f12, hx, hy]; exact (sh_1 w).symm, by rw [if_pos w, eM_22, mset_eq, eM_21, mset_ne (by omega), eM_20, mset_ne (by omega), k34], by rw [if_neg (by omega), eM_22, mset_ne (by omega), eM_21, mset_ne (by omega), eM_20, mset_ne (by omega)]; exact k35⟩)
  · refine wp_ite (fun c167 => ?_) (fun c167 => ?_)
    · exact j180 M_12 (fun _ _ _ => rfl) (by have w : (tnH R F tb (FdR M 1) (ix v1)) = 0 := (hw_own g1.1.2.2 i40 t1).mpr (by show (stA (tn1 (FdR M 1)) (tnX R F tb (FdR M 1) (ix v1)).toInt (tnY R F tb (FdR M 1) (ix v1)).toInt 40 0).toInt = _; rw [← hsa_119]; omega); exact ⟨f12.trans (sh_n (by show ¬ (tnH R F tb (FdR M 1) (ix v1)) = 1; omega)).symm, by rw [if_neg (by omega)]; exact k34, by rw [if_neg (by omega)]; exact k35⟩)
    · refine wp_bnd (fun M_19 eM_19 => ?_)
      exact j180 M_19 (fun a i q0 => ((congrFun (congrFun eM_19 a) i).trans ((mset_ne (fun h9 => q0 (Or.inr (Or.inl h9)))).trans rfl))) (by have w : (tnH R F tb (FdR M 1) (ix v1)) = 2 := mv_2 g1.1.2.2 i40 t1 (by show ¬ (stA (tn1 (FdR M 1)) (tnX R F tb (FdR M 1) (ix v1)).toInt (tnY R F tb (FdR M 1) (ix v1)).toInt 40 0).toInt = _; rw [← hsa_119]; exact c127) (by show ¬ (stA (tn1 (FdR M 1)) (tnX R F tb (FdR M 1) (ix v1)).toInt (tnY R F tb (FdR M 1) (ix v1)).toInt 40 0).toInt = _; rw [← hsa_119]; omega); exact ⟨(fdr_same (fun j hj => by rw [eM_19, mset_ne (by omega)])).trans (f12.trans (sh_n (by show ¬ (tnH R F tb (FdR M 1) (ix v1)) = 1; omega)).symm), by rw [if_neg (by omega), eM_19, mset_ne (by omega)]; exact k34, by rw [if_pos w, eM_19, mset_eq, k35]⟩)
set_option maxHeartbeats 4000000 in
theorem o8_X10_nightGoes (M : Mem) (R : Nat) (F : Nat → Int × Int) (tb : Tbl) (hL : LwR M R F tb) (hQ : LwQ R F tb) (hGd : GdF (FdR M 1)) : Wp (f_X10_nightGoes M) (fun q => (∀ a i, ¬ ((a = 0 ∧ i = 34) ∨ (a = 0 ∧ i = 35) ∨ a = 1 ∨ a = 17 ∨ a = 18) → q a i = M a i) ∧ (nit R F tb (FdR M 1, M 0 34, M 0 35) = (FdR q 1, q 0 34, q 0 35))) := by
  refine wp_lp2 (fun M2 y1_2 => (0 ≤ y1_2.toInt) ∧ (∀ a i, ¬ ((a = 0 ∧ i = 34) ∨ (a = 0 ∧ i = 35) ∨ a = 1 ∨ a = 17 ∨ a = 18) → M2 a i = M a i) ∧ (nlp R F tb 40 0 (FdR M 1, M 0 34, M 0 35) = nlp R F tb (40 - ix y1_2) (ix y1_2) (FdR M2 1, M2 0 34, M2 0 35)) ∧ (GdF (FdR M2 1))) (fun M2 y1_2 => (40 - y1_2.toInt).toNat) (fun ag2 M2 y1_2 hI2 ih2 => ?_) FU M (nI 0) ⟨(by have f0 := t_lit 0; omega), (fun _ _ _ => rfl), (by rw [show ix (nI 0) = 0 from (by decide)]), hGd⟩ (fu_lt (by have f0 := t_lit 0; omega))
  obtain ⟨hi2, hf_M2, h2, hg2⟩ := hI2
  have hL2 : LwR M2 R F tb := lwr_fr hL (fun a i q => hf_M2 a i (by omega))
  have j27 : (40 ≤ y1_2.toInt) → Wp (f_X10_nightGoes_L27 M2) (fun q => (∀ a i, ¬ ((a = 0 ∧ i = 34) ∨ (a = 0 ∧ i = 35) ∨ a = 1 ∨ a = 17 ∨ a = 18) → q a i = M a i) ∧ (nit R F tb (FdR M 1, M 0 34, M 0 35) = (FdR q 1, q 0 34, q 0 35))) := by
    intro h27
    unfold f_X10_nightGoes_L27
    refine wp_bnd (fun M_1 eM_1 => ?_)
    exact wp_some ⟨(fun a i q0 => ((congrFun (congrFun eM_1 a) i).trans ((mset_ne (fun h9 => q0 (Or.inr (Or.inr (Or.inl (h9).1))))).trans ((hf_M2 a i (fun z8 => q0 ((fun z9 => Or.elim z9 (fun h9 => Or.inl h9) (fun z9 => Or.elim z9 (fun h9 => Or.inr (Or.inl h9)) (fun z9 => Or.elim z9 (fun h9 => Or.inr (Or.inr (Or.inl h9))) (fun z9 => Or.elim z9 (fun h9 => Or.inr (Or.inr (Or.inr (Or.inl h9)))) (fun h9 => Or.inr (Or.inr (Or.inr (Or.inr (h9))))))))) z8))).trans rfl)))), (by have e := h2.trans (nlp_0 (ge40 hi2 h27)); have q1 : M_1 0 34 = M2 0 34 := (by rw [eM_1, mset_ne (by omega)]); have q2 : M_1 0 35 = M2 0 35 := (by rw [eM_1, mset_ne (by omega)]); rw [q1, q2]; exact nit_of e (fdr_nt (by rw [eM_1, mset_s])))⟩
  refine wp_ite (fun c5 => ?_) (fun c5 => ?_)
  · exact j27 c5
  · have u := up40 hi2 c5
    refine wp_bind2 (o8_X10_isStone M2 y1_2 hg2.1.1) (fun r_2 he10 hq10 => ?_)
    obtain ⟨hz_r_2, hr_10, htd_10⟩ := hq10
    replace hr_10 : ¬ r_2.toInt = 0 → (0 ≤ y1_2.toInt ∧ y1_2.toInt < 40) ∧ (M2 1 (ix y1_2)).toInt = 1 := hr_10
    replace htd_10 : TdP r_2.toInt (FdR M2 1) y1_2 := htd_10
    refine wp_ite (fun c13 => ?_) (fun c13 => ?_)
    · exact ih2 M2 (y1_2 + (nI 1)) ⟨(by have f0 := t_lit 1; have f1 := t_add y1_2 (nI 1); omega), (fun a i q0 => ((hf_M2 a i (fun z8 => q0 ((fun z9 => Or.elim z9 (fun h9 => Or.inl h9) (fun z9 => Or.elim z9 (fun h9 => Or.inr (Or.inl h9)) (fun z9 => Or.elim z9 (fun h9 => Or.inr (Or.inr (Or.inl h9))) (fun z9 => Or.elim z9 (fun h9 => Or.inr (Or.inr (Or.inr (Or.inl h9)))) (fun h9 => Or.inr (Or.inr (Or.inr (Or.inr (h9))))))))) z8))).trans rfl)), (by rw [h2, nlp_1 u.2.1, stp_n (by show (FdR M2 1 4 (ix y1_2)).toInt = 0; have z := td_n htd_10 c13; exact Classical.byContradiction (fun q => z ⟨⟨hi2, u.2.2⟩, q⟩)), u.1]), hg2⟩ (by have f0 := t_lit 1; have f1 := t_add y1_2 (nI 1); omega)
    · have ht := td_y htd_10 c13
      refine wp_bind2 (o8_X10_moves M2 y1_2 ht.1 R F tb hL2 hQ hg2 ht.2) (fun M_3 he18 hq18 => ?_)
      obtain ⟨hg_M_3, htn_18⟩ := hq18
      replace htn_18 : FdR M_3 1 = (tnG R F tb (FdR M2 1) (ix y1_2)) ∧ M_3 0 34 = (if (tnH R F tb (FdR M2 1) (ix y1_2)) = 1 then M2 0 34 + nI 1 else M2 0 34) ∧ M_3 0 35 = (if (tnH R F tb (FdR M2 1) (ix y1_2)) = 2 then M2 0 35 + nI 1 else M2 0 35) := htn_18
      replace hg_M_3 : ∀ a i, ¬ ((a = 0 ∧ i = 34) ∨ (a = 0 ∧ i = 35) ∨ a = 1 ∨ a = 17 ∨ a = 18) → M_3 a i = M2 a i := hg_M_3
      exact ih2 M_3 (y1_2 + (nI 1)) ⟨(by have f0 := t_lit 1; have f1 := t_add y1_2 (nI 1); omega), (fun a i q0 => ((hg_M_3 a i (fun z8 => q0 ((fun z9 => Or.elim z9 (fun h9 => Or.inl h9) (fun z9 => Or.elim z9 (fun h9 => Or.inr (Or.inl h9)) (fun z9 => Or.elim z9 (fun h9 => Or.inr (Or.inr (Or.inl h9))) (fun z9 => Or.elim z9 (fun h9 => Or.inr (Or.inr (Or.inr (Or.inl h9)))) (fun h9 => Or.inr (Or.inr (Or.inr (Or.inr (h9))))))))) z8))).trans ((hf_M2 a i (fun z8 => q0 ((fun z9 => Or.elim z9 (fun h9 => Or.inl h9) (fun z9 => Or.elim z9 (fun h9 => Or.inr (Or.inl h9)) (fun z9 => Or.elim z9 (fun h9 => Or.inr (Or.inr (Or.inl h9))) (fun z9 => Or.elim z9 (fun h9 => Or.inr (Or.inr (Or.inr (Or.inl h9)))) (fun h9 => Or.inr (Or.inr (Or.inr (Or.inr (h9))))))))) z8))).trans rfl))), (by rw [h2, nlp_1 u.2.1, stp_y ht.2, u.1, htn_18.1, htn_18.2.1, htn_18.2.2]), (by rw [htn_18.1]; exact gd_tn hg2 u.2.1)⟩ (by have f0 := t_lit 1; have f1 := t_add y1_2 (nI 1); omega)
set_option maxHeartbeats 4000000 in
theorem o8_X10_nightsGo (M : Mem) (v1 : Int32) (R : Nat) (F : Nat → Int × Int) (tb : Tbl) (hL : LwR M R F tb) (hQ : LwQ R F tb) (hGd : GdF (FdR M 1)) : Wp (f_X10_nightsGo M v1) (fun q => (∀ a i, ¬ ((a = 0 ∧ i = 34) ∨ (a = 0 ∧ i = 35) ∨ a = 1 ∨ a = 17 ∨ a = 18) → q a i = M a i) ∧ (ST (q 1)) ∧ (ngs R F tb v1.toInt.toNat (FdR M 1, nI 0, nI 0) = (FdR q 1, q 0 34, q 0 35))) := by
  refine wp_bnd (fun M_1 eM_1 => ?_)
  refine wp_bnd (fun M_2 eM_2 => ?_)
  have f2 : FdR M_2 1 = FdR M 1 := fdr_same (fun j hj => by rw [eM_2, mset_ne (by omega), eM_1, mset_ne (by omega)])
  have m1 : M_2 0 34 = nI 0 := by rw [eM_2, mset_ne (by omega), eM_1, mset_eq]
  have m2 : M_2 0 35 = nI 0 := by rw [eM_2, mset_eq]
  have hL2 : LwR M_2 R F tb := lwr_fr hL (fun a i q => by rw [eM_2, mset_ne (by omega), eM_1, mset_ne (by omega)])
  have ft1 := t_rng v1
  refine wp_lp2 (fun M12 y2_12 => (0 ≤ y2_12.toInt) ∧ (∀ a i, ¬ ((a = 0 ∧ i = 34) ∨ (a = 0 ∧ i = 35) ∨ a = 1 ∨ a = 17 ∨ a = 18) → M12 a i = M_2 a i) ∧ (ngs R F tb v1.toInt.toNat (FdR M 1, nI 0, nI 0) = ngs R F tb (v1.toInt - y2_12.toInt).toNat (FdR M12 1, M12 0 34, M12 0 35)) ∧ (GdF (FdR M12 1))) (fun M12 y2_12 => (v1.toInt - y2_12.toInt).toNat) (fun ag12 M12 y2_12 hI12 ih12 => ?_) FU M_2 (nI 0) ⟨(by have f0 := t_lit 0; omega), (fun _ _ _ => rfl), (by rw [nI0, Int.sub_zero, f2, m1, m2]), (by rw [f2]; exact hGd)⟩ (fu_lt (by have f0 := t_lit 0; omega))
  obtain ⟨hi12, hf_M12, h12, hg12⟩ := hI12
  have hL12 : LwR M12 R F tb := lwr_fr hL2 (fun a i q => hf_M12 a i (by omega))
  refine wp_ite (fun c14 => ?_) (fun c14 => ?_)
  · exact wp_some ⟨(fun a i q0 => ((hf_M12 a i (fun z8 => q0 ((fun z9 => Or.elim z9 (fun h9 => Or.inl h9) (fun z9 => Or.elim z9 (fun h9 => Or.inr (Or.inl h9)) (fun z9 => Or.elim z9 (fun h9 => Or.inr (Or.inr (Or.inl h9))) (fun z9 => Or.elim z9 (fun h9 => Or.inr (Or.inr (Or.inr (Or.inl h9)))) (fun h9 => Or.inr (Or.inr (Or.inr (Or.inr (h9))))))))) z8))).trans ((congrFun (congrFun eM_2 a) i).trans ((mset_ne (fun h9 => q0 (Or.inr (Or.inl h9)))).trans ((congrFun (congrFun eM_1 a) i).trans ((mset_ne (fun h9 => q0 (Or.inl h9))).trans rfl)))))), (st_gd hg12), (by rw [h12]; exact ngs_0 c14)⟩
  · refine wp_ite (fun c28 => ?_) (fun c28 => ?_)
    · exact wp_some ⟨(fun a i q0 => ((hf_M12 a i (fun z8 => q0 ((fun z9 => Or.elim z9 (fun h9 => Or.inl h9) (fun z9 => Or.elim z9 (fun h9 => Or.inr (Or.inl h9)) (fun z9 => Or.elim z9 (fun h9 => Or.inr (Or.inr (Or.inl h9))) (fun z9 => Or.elim z9 (fun h9 => Or.inr (Or.inr (Or.inr (Or.inl h9)))) (fun h9 => Or.inr (Or.inr (Or.inr (Or.inr (h9))))))))) z8))).trans ((congrFun (congrFun eM_2 a) i).trans ((mset_ne (fun h9 => q0 (Or.inr (Or.inl h9)))).trans ((congrFun (congrFun eM_1 a) i).trans ((mset_ne (fun h9 => q0 (Or.inl h9))).trans rfl)))))), (st_gd hg12), (by rw [h12]; exact ngs_9 (by show 9999 ≤ (FdR M12 1 0 5).toInt; rw [fdr_n]; exact c28))⟩
    · have n12 : ¬ 9999 ≤ (FdR M12 1 0 5).toInt := by
        rw [fdr_n]
        exact c28
      refine wp_bind2 (o8_X10_nightGoes M12 R F tb hL12 hQ hg12) (fun M_3 he32 hq32 => ?_)
      obtain ⟨hg_M_3, hnt_32⟩ := hq32
      replace hnt_32 : nit R F tb (FdR M12 1, M12 0 34, M12 0 35) = (FdR M_3 1, M_3 0 34, M_3 0 35) := hnt_32
      replace hg_M_3 : ∀ a i, ¬ ((a = 0 ∧ i = 34) ∨ (a = 0 ∧ i = 35) ∨ a = 1 ∨ a = 17 ∨ a = 18) → M_3 a i = M12 a i := hg_M_3
      exact ih12 M_3 (y2_12 + (nI 1)) ⟨(by have f0 := t_lit 1; have f1 := t_add y2_12 (nI 1); omega), (fun a i q0 => ((hg_M_3 a i (fun z8 => q0 ((fun z9 => Or.elim z9 (fun h9 => Or.inl h9) (fun z9 => Or.elim z9 (fun h9 => Or.inr (Or.inl h9)) (fun z9 => Or.elim z9 (fun h9 => Or.inr (Or.inr (Or.inl h9))) (fun z9 => Or.elim z9 (fun h9 => Or.inr (Or.inr (Or.inr (Or.inl h9)))) (fun h9 => Or.inr (Or.inr (Or.inr (Or.inr (h9))))))))) z8))).trans ((hf_M12 a i (fun z8 => q0 ((fun z9 => Or.elim z9 (fun h9 => Or.inl h9) (fun z9 => Or.elim z9 (fun h9 => Or.inr (Or.inl h9)) (fun z9 => Or.elim z9 (fun h9 => Or.inr (Or.inr (Or.inl h9))) (fun z9 => Or.elim z9 (fun h9 => Or.inr (Or.inr (Or.inr (Or.inl h9)))) (fun h9 => Or.inr (Or.inr (Or.inr (Or.inr (h9))))))))) z8))).trans rfl))), (by rw [h12, ngs_1 (s := (FdR M12 1, M12 0 34, M12 0 35)) c14 n12, hnt_32]), (by have z := gd_nit (s := (FdR M12 1, M12 0 34, M12 0 35)) (R := R) (F := F) (tb := tb) hg12 n12; rw [hnt_32] at z; exact z)⟩ (by have f0 := t_lit 1; have f1 := t_add y2_12 (nI 1); omega)
