theorem o6_X5_indexOf (M : Mem) (v0 : Int32) : Wp (f_X5_indexOf v0) (fun q => (q.toInt = fct v0.toInt)) := by
  refine wp_ite (fun c1 => ?_) (fun c1 => ?_)
  · exact wp_some (by show (nI 4).toInt = fct v0.toInt; rw [c1]; decide)
  · refine wp_ite (fun c1 => ?_) (fun c1 => ?_)
    · exact wp_some (by show (nI 7).toInt = fct v0.toInt; rw [c1]; decide)
    · refine wp_ite (fun c2 => ?_) (fun c2 => ?_)
      · exact wp_some (by show (nI 0).toInt = fct v0.toInt; rw [c2]; decide)
      · refine wp_ite (fun c3 => ?_) (fun c3 => ?_)
        · exact wp_some (by show (nI 5).toInt = fct v0.toInt; rw [c3]; decide)
        · refine wp_ite (fun c4 => ?_) (fun c4 => ?_)
          · exact wp_some (by show (nI 6).toInt = fct v0.toInt; rw [c4]; decide)
          · refine wp_ite (fun c5 => ?_) (fun c5 => ?_)
            · exact wp_some (by show (nI 3).toInt = fct v0.toInt; rw [c5]; decide)
            · refine wp_ite (fun c6 => ?_) (fun c6 => ?_)
              · exact wp_some (by show (nI 1).toInt = fct v0.toInt; rw [c6]; decide)
              · refine wp_ite (fun c7 => ?_) (fun c7 => ?_)
                · exact wp_some (by show (nI 2).toInt = fct v0.toInt; rw [c7]; decide)
                · exact wp_some (by show (-1 : Int32).toInt = fct v0.toInt; exact (fct_n (by omega)).symm)
theorem o6_X3_order {c : Nat} (hc : isL c) (M : Mem) (v1 : Int32) (v2 : Int32) : Wp (f_X3_order c M v1 v2) (fun q => (∀ a i, ¬ (a = (c + 1) ∨ a = (c + 2) ∨ (a = c ∧ i = 7)) → q a i = M a i) ∧ (0 ≤ (M c 7).toInt → (M c 7).toInt < 240 → sC q c = emt (sC M c) (unc v1.toInt) v2.toInt ∧ (q c 7).toInt = (M c 7).toInt + 1) ∧ (0 ≤ (M c 7).toInt → 0 ≤ (q c 7).toInt)) := by
  have hc0 : c = 44 ∨ c = 52 := hc
  refine wp_ite (fun c4 => ?_) (fun c4 => ?_)
  · exact wp_some ⟨(fun _ _ _ => rfl), (fun z1 z2 => by omega), id⟩
  · refine wp_ite (fun c14 => ?_) (fun c14 => ?_)
    · exact wp_some ⟨(fun _ _ _ => rfl), (fun z1 z2 => by omega), id⟩
    · refine wp_gd (by omega) ?_
      refine wp_bnd (fun M_1 eM_1 => ?_)
      refine wp_gd (by have f0 := congrArg Int32.toInt ((congrFun (congrFun eM_1 c) 7).trans (mset_ne (by first | exact nz1 (by decide) | exact nz2 (by decide) | exact nz1 (nzA hc0 (by decide)) | exact nz1 (nzE (by decide)) | exact nz1 (nzB hc0 (by decide)) | exact nz1 (nzC hc0 (by decide)) | exact nz1 (nzD hc0 (by decide)) | exact nz1 (nzF (by decide)) | exact nz1 (nzG (by decide)) | omega))); omega) ?_
      refine wp_bnd (fun M_2 eM_2 => ?_)
      refine wp_bnd (fun M_3 eM_3 => ?_)
      have k7 : M_3 c 7 = M c 7 + nI 1 := by rw [eM_3, mset_eq, eM_2, mset_ne (by first | exact nz1 (by decide) | exact nz2 (by decide) | exact nz1 (nzA hc0 (by decide)) | exact nz1 (nzE (by decide)) | exact nz1 (nzB hc0 (by decide)) | exact nz1 (nzC hc0 (by decide)) | exact nz1 (nzD hc0 (by decide)) | exact nz1 (nzF (by decide)) | exact nz1 (nzG (by decide)) | omega), eM_1, mset_ne (by first | exact nz1 (by decide) | exact nz2 (by decide) | exact nz1 (nzA hc0 (by decide)) | exact nz1 (nzE (by decide)) | exact nz1 (nzB hc0 (by decide)) | exact nz1 (nzC hc0 (by decide)) | exact nz1 (nzD hc0 (by decide)) | exact nz1 (nzF (by decide)) | exact nz1 (nzG (by decide)) | omega)]
      have k17 : M_1 c 7 = M c 7 := by rw [eM_1, mset_ne (by first | exact nz1 (by decide) | exact nz2 (by decide) | exact nz1 (nzA hc0 (by decide)) | exact nz1 (nzE (by decide)) | exact nz1 (nzB hc0 (by decide)) | exact nz1 (nzC hc0 (by decide)) | exact nz1 (nzD hc0 (by decide)) | exact nz1 (nzF (by decide)) | exact nz1 (nzG (by decide)) | omega)]
      have u7 := i_up (x := M c 7) (by omega)
      exact wp_some ⟨(fun a i q0 => ((congrFun (congrFun eM_3 a) i).trans ((mset_ne (fun h9 => q0 (Or.inr (Or.inr (h9))))).trans ((congrFun (congrFun eM_2 a) i).trans ((mset_ne (fun h9 => q0 (Or.inr (Or.inl (h9).1)))).trans ((congrFun (congrFun eM_1 a) i).trans ((mset_ne (fun h9 => q0 (Or.inl (h9).1))).trans rfl))))))), (fun _ _ => ⟨sc_ord (by omega) (by rw [eM_3, mset_ne (by first | exact nz1 (by decide) | exact nz2 (by decide) | exact nz1 (nzA hc0 (by decide)) | exact nz1 (nzE (by decide)) | exact nz1 (nzB hc0 (by decide)) | exact nz1 (nzC hc0 (by decide)) | exact nz1 (nzD hc0 (by decide)) | exact nz1 (nzF (by decide)) | exact nz1 (nzG (by decide)) | omega), eM_2, mset_ne (by first | exact nz1 (by decide) | exact nz2 (by decide) | exact nz1 (nzA hc0 (by decide)) | exact nz1 (nzE (by decide)) | exact nz1 (nzB hc0 (by decide)) | exact nz1 (nzC hc0 (by decide)) | exact nz1 (nzD hc0 (by decide)) | exact nz1 (nzF (by decide)) | exact nz1 (nzG (by decide)) | omega), eM_1, mset_ne (by first | exact nz1 (by decide) | exact nz2 (by decide) | exact nz1 (nzA hc0 (by decide)) | exact nz1 (nzE (by decide)) | exact nz1 (nzB hc0 (by decide)) | exact nz1 (nzC hc0 (by decide)) | exact nz1 (nzD hc0 (by decide)) | exact nz1 (nzF (by decide)) | exact nz1 (nzG (by decide)) | omega)]) k7 (fun j => by rw [eM_3, mset_ne (by first | exact nz1 (by decide) | exact nz2 (by decide) | exact nz1 (nzA hc0 (by decide)) | exact nz1 (nzE (by decide)) | exact nz1 (nzB hc0 (by decide)) | exact nz1 (nzC hc0 (by decide)) | exact nz1 (nzD hc0 (by decide)) | exact nz1 (nzF (by decide)) | exact nz1 (nzG (by decide)) | omega), eM_2, mset_ne (by first | exact nz1 (by decide) | exact nz2 (by decide) | exact nz1 (nzA hc0 (by decide)) | exact nz1 (nzE (by decide)) | exact nz1 (nzB hc0 (by decide)) | exact nz1 (nzC hc0 (by decide)) | exact nz1 (nzD hc0 (by decide)) | exact nz1 (nzF (by decide)) | exact nz1 (nzG (by decide)) | omega), eM_1, mset_s]) (fun j => by rw [eM_3, mset_ne (by first | exact nz1 (by decide) | exact nz2 (by decide) | exact nz1 (nzA hc0 (by decide)) | exact nz1 (nzE (by decide)) | exact nz1 (nzB hc0 (by decide)) | exact nz1 (nzC hc0 (by decide)) | exact nz1 (nzD hc0 (by decide)) | exact nz1 (nzF (by decide)) | exact nz1 (nzG (by decide)) | omega), eM_2, mset_s, k17, eM_1, mset_n (by omega)]), by rw [k7]; exact u7.2⟩), (fun _ => by show 0 ≤ (M_3 c 7).toInt; rw [k7, u7.2]; omega)⟩
theorem o6_X3_landHere {c : Nat} (hc : isL c) (M : Mem) (v1 : Int32) : Wp (f_X3_landHere c M v1) (fun q => (∀ a i, ¬ (a = (c + 2)) → q a i = M a i) ∧ (v1.toInt < 0 → sC q c = sC M c) ∧ (0 ≤ v1.toInt → v1.toInt < (M c 7).toInt → (M c 7).toInt ≤ 240 → sC q c = lnd (sC M c) (some (ix v1)))) := by
  have hc0 : c = 44 ∨ c = 52 := hc
  refine wp_ite (fun c1 => ?_) (fun c1 => ?_)
  · exact wp_some ⟨(fun _ _ _ => rfl), (fun _ => rfl), (fun z1 z2 z3 => by omega)⟩
  · refine wp_ite (fun c9 => ?_) (fun c9 => ?_)
    · exact wp_some ⟨(fun _ _ _ => rfl), (fun _ => rfl), (fun z1 z2 z3 => by omega)⟩
    · refine wp_ite (fun c16 => ?_) (fun c16 => ?_)
      · exact wp_some ⟨(fun _ _ _ => rfl), (fun _ => rfl), (fun z1 z2 z3 => by omega)⟩
      · refine wp_gd (by omega) ?_
        refine wp_bnd (fun M_1 eM_1 => ?_)
        exact wp_some ⟨(fun a i q0 => ((congrFun (congrFun eM_1 a) i).trans ((mset_ne (fun h9 => q0 ((h9).1))).trans rfl))), (fun z => by omega), (fun _ _ _ => sc_lnd (by omega) (by rw [eM_1, mset_ne (by first | exact nz1 (by decide) | exact nz2 (by decide) | exact nz1 (nzA hc0 (by decide)) | exact nz1 (nzE (by decide)) | exact nz1 (nzB hc0 (by decide)) | exact nz1 (nzC hc0 (by decide)) | exact nz1 (nzD hc0 (by decide)) | exact nz1 (nzF (by decide)) | exact nz1 (nzG (by decide)) | omega)]) (by rw [eM_1, mset_ne (by first | exact nz1 (by decide) | exact nz2 (by decide) | exact nz1 (nzA hc0 (by decide)) | exact nz1 (nzE (by decide)) | exact nz1 (nzB hc0 (by decide)) | exact nz1 (nzC hc0 (by decide)) | exact nz1 (nzD hc0 (by decide)) | exact nz1 (nzF (by decide)) | exact nz1 (nzG (by decide)) | omega)]) (fun k => by rw [eM_1, mset_ne (by first | exact nz1 (by decide) | exact nz2 (by decide) | exact nz1 (nzA hc0 (by decide)) | exact nz1 (nzE (by decide)) | exact nz1 (nzB hc0 (by decide)) | exact nz1 (nzC hc0 (by decide)) | exact nz1 (nzD hc0 (by decide)) | exact nz1 (nzF (by decide)) | exact nz1 (nzG (by decide)) | omega)]) (fun k => by rw [eM_1, mset_s]))⟩
set_option maxHeartbeats 8000000 in
theorem o6_X3_compileSum {c : Nat} (hc : isL c) {KS : Int} {S_X3_compileFactor : Mem → Int32 → Option (Int32 × Mem)} (hS_X3_compileFactor : ∀ (M : Mem) (v2 : Int32) (T : Int → Int) (hT : TXc M = T) (ho : KS ≤ v2.toInt ∧ v2.toInt ≤ 6) (hb : (M c 9).toInt = 0 ∨ (M c 9).toInt = 1) (hp : 0 ≤ (M 19 3).toInt ∧ (M 19 3).toInt ≤ (M 19 2).toInt ∧ (M 19 2).toInt ≤ 240) (hn : 0 ≤ (M c 7).toInt ∧ (M c 7).toInt ≤ (M 19 3).toInt), Wp (S_X3_compileFactor M v2) (fun q => (q.1 = 0 ∨ q.1 = 1) ∧ (∀ a i, ¬ ((a = 19 ∧ i = 3) ∨ (a = 19 ∧ i = 4) ∨ a = (c + 1) ∨ a = (c + 2) ∨ (a = c ∧ i = 7) ∨ (a = c ∧ i = 9)) → q.2 a i = M a i) ∧ ((q.2 c 9).toInt = 0 ∨ (q.2 c 9).toInt = 1) ∧ (0 ≤ (q.2 c 7).toInt) ∧ (LwP (facD T (6 - v2.toInt).toNat (sC M c)) q.1.toInt (q.2 19 4).toInt (sC q.2 c)) ∧ (BdI q.1.toInt M q.2 c))) (M : Mem) (v2 : Int32) (T : Int → Int) (hT : TXc M = T) (ho : KS ≤ v2.toInt ∧ v2.toInt ≤ 6) (hb : (M c 9).toInt = 0 ∨ (M c 9).toInt = 1) (hp : 0 ≤ (M 19 3).toInt ∧ (M 19 3).toInt ≤ (M 19 2).toInt ∧ (M 19 2).toInt ≤ 240) (hn : 0 ≤ (M c 7).toInt ∧ (M c 7).toInt ≤ (M 19 3).toInt) : Wp (f_X3_compileSum S_X3_compileFactor c M v2) (fun q => (q.1 = 0 ∨ q.1 = 1) ∧ (∀ a i, ¬ ((a = 19 ∧ i = 3) ∨ (a = 19 ∧ i = 4) ∨ a = (c + 1) ∨ a = (c + 2) ∨ (a = c ∧ i = 7) ∨ (a = c ∧ i = 9)) → q.2 a i = M a i) ∧ ((q.2 c 9).toInt = 0 ∨ (q.2 c 9).toInt = 1) ∧ (0 ≤ (q.2 c 7).toInt) ∧ (LwP (sumD T (6 - v2.toInt).toNat (sC M c)) q.1.toInt (q.2 19 4).toInt (sC q.2 c)) ∧ (BdI q.1.toInt M q.2 c)) := by
  have hc0 : c = 44 ∨ c = 52 := hc
  refine wp_lp4 (fun M8 y3_8 y4_8 y5_8 => (0 ≤ y5_8.toInt) ∧ (∀ a i, ¬ ((a = 19 ∧ i = 3) ∨ (a = 19 ∧ i = 4) ∨ a = (c + 1) ∨ a = (c + 2) ∨ (a = c ∧ i = 7) ∨ (a = c ∧ i = 9)) → M8 a i = M a i) ∧ ((M8 c 9).toInt = 0 ∨ (M8 c 9).toInt = 1) ∧ (sumD T (6 - v2.toInt).toNat (sC M c) = sumL T (facD T (6 - v2.toInt).toNat) (240 - ix y5_8) (sgn y3_8.toInt) (sgn y4_8.toInt) (sC M8 c)) ∧ ((0 ≤ (M8 c 7).toInt ∧ (M8 c 7).toInt + cn (sgn y3_8.toInt) + cn (sgn y4_8.toInt) ≤ (M8 19 3).toInt) ∧ (M8 19 3).toInt ≤ (M 19 2).toInt) ∧ (OkS y3_8.toInt ∧ OkS y4_8.toInt)) (fun M8 y3_8 y4_8 y5_8 => (240 - y5_8.toInt).toNat) (fun ag8 M8 y3_8 y4_8 y5_8 hI8 ih8 => ?_) FU M (nI 0) (nI 0) (nI 0) ⟨(by have f0 := t_lit 0; omega), (fun _ _ _ => rfl), hb, (by rw [sumD_is, show ix (nI 0) = 0 from (by decide), show (nI 0).toInt = 0 from nI0]; rfl), (by rw [show (nI 0).toInt = 0 from nI0, show sgn 0 = 0 from rfl, cn_0]; omega), ⟨fun z => absurd nI0 z, fun z => absurd nI0 z⟩⟩ (fu_lt (by have f0 := t_lit 0; omega))
  obtain ⟨hi8, hf_M8, hb8, hI8, hr8, ho8⟩ := hI8
  have n1 := cn_b (sgn y3_8.toInt)
  have n2 := cn_b (sgn y4_8.toInt)
  have e82 : M8 19 2 = M 19 2 := hf_M8 19 2 (by omega)
  have e82i := congrArg Int32.toInt e82
  have hT8 : TXc M8 = T := (txc_fr e82 (fun j => hf_M8 20 j (by omega))).trans hT
  have fy5 := t_ixn y5_8 (by omega)
  have j124 : (240 ≤ y5_8.toInt) → Wp (f_X3_compileSum_L124 M8) (fun q => (q.1 = 0 ∨ q.1 = 1) ∧ (∀ a i, ¬ ((a = 19 ∧ i = 3) ∨ (a = 19 ∧ i = 4) ∨ a = (c + 1) ∨ a = (c + 2) ∨ (a = c ∧ i = 7) ∨ (a = c ∧ i = 9)) → q.2 a i = M a i) ∧ ((q.2 c 9).toInt = 0 ∨ (q.2 c 9).toInt = 1) ∧ (0 ≤ (q.2 c 7).toInt) ∧ (LwP (sumD T (6 - v2.toInt).toNat (sC M c)) q.1.toInt (q.2 19 4).toInt (sC q.2 c)) ∧ (BdI q.1.toInt M q.2 c)) := by
    intro h124
    unfold f_X3_compileSum_L124
    refine wp_cb2 (o5_X7_refuse M8 (nI 1) (M8 19 3)) (fun r_1 M_2 he130 hq130 => ?_)
    obtain ⟨hz_r_1, hg_M_2, hw_130, hq_130⟩ := hq130
    replace hw_130 : r_1.toInt = 0 := hw_130
    have := t_lit 1
    replace hq_130 : 0 ≤ (nI 1).toInt → (nI 1).toInt ≤ 9 → 0 ≤ (M8 19 3).toInt → (M8 19 3).toInt ≤ 1000 → (M_2 19 4).toInt = -1000 * (nI 1).toInt - (M8 19 3).toInt := hq_130
    have := t_lit 1
    replace hg_M_2 : ∀ a i, ¬ ((a = 19 ∧ i = 4)) → M_2 a i = M8 a i := hg_M_2
    refine wp_gb hz_r_1 ?_
    exact wp_some ⟨hz_r_1, (fun a i q0 => ((hg_M_2 a i (fun h9 => q0 (Or.inr (Or.inl h9)))).trans ((hf_M8 a i (fun z8 => q0 ((fun z9 => Or.elim z9 (fun h9 => Or.inl h9) (fun z9 => Or.elim z9 (fun h9 => Or.inr (Or.inl h9)) (fun z9 => Or.elim z9 (fun h9 => Or.inr (Or.inr (Or.inl h9))) (fun z9 => Or.elim z9 (fun h9 => Or.inr (Or.inr (Or.inr (Or.inl h9)))) (fun z9 => Or.elim z9 (fun h9 => Or.inr (Or.inr (Or.inr (Or.inr (Or.inl h9))))) (fun h9 => Or.inr (Or.inr (Or.inr (Or.inr (Or.inr (h9))))))))))) z8))).trans rfl))), (by show (M_2 c 9).toInt = 0 ∨ (M_2 c 9).toInt = 1; have f0 := congrArg Int32.toInt (hg_M_2 c 9 (by omega)); omega), (by show 0 ≤ (M_2 c 7).toInt; rw [hg_M_2 c 7 (by omega)]; exact hr8.1.1), (by show LwP (sumD T (6 - v2.toInt).toNat (sC M c)) r_1.toInt (M_2 19 4).toInt (sC M_2 c); rw [hI8, show 240 - ix y5_8 = 0 from (by omega), sumL_0]; exact ⟨hw_130, by rw [hq_130 (by decide) (by decide) (by omega) (by omega)]; have := t_lit 1; show _ = -1000 - (M8 19 3).toInt; omega⟩), (fun z => absurd hw_130 z)⟩
  refine wp_ite (fun c13 => ?_) (fun c13 => ?_)
  · exact j124 (by omega)
  · have hk : 240 - ix y5_8 = (239 - ix y5_8) + 1 := by omega
    rw [hk, sumL_s] at hI8
    have i5 := i_up (x := y5_8) (by omega)
    refine wp_cb2 (hS_X3_compileFactor M8 v2 T hT8 ho hb8 (by omega) (by omega)) (fun r_3 M_4 he19 hq19 => ?_)
    obtain ⟨hz_r_3, hg_M_4, hb_19, hn0_19, hq_19, hB_19⟩ := hq19
    replace hb_19 : (M_4 c 9).toInt = 0 ∨ (M_4 c 9).toInt = 1 := hb_19
    replace hn0_19 : 0 ≤ (M_4 c 7).toInt := hn0_19
    replace hq_19 : LwP (facD T (6 - v2.toInt).toNat (sC M8 c)) r_3.toInt (M_4 19 4).toInt (sC M_4 c) := hq_19
    replace hB_19 : BdI r_3.toInt M8 M_4 c := hB_19
    replace hg_M_4 : ∀ a i, ¬ ((a = 19 ∧ i = 3) ∨ (a = 19 ∧ i = 4) ∨ a = (c + 1) ∨ a = (c + 2) ∨ (a = c ∧ i = 7) ∨ (a = c ∧ i = 9)) → M_4 a i = M8 a i := hg_M_4
    have e42 : M_4 19 2 = M 19 2 := by rw [hg_M_4 19 2 (by omega), e82]
    have e42i := congrArg Int32.toInt e42
    have hT4 : TXc M_4 = T := (txc_fr (hg_M_4 19 2 (by omega)) (fun j => hg_M_4 20 j (by omega))).trans hT8
    refine wp_ite (fun c22 => ?_) (fun c22 => ?_)
    · exact wp_some ⟨b01_0, (fun a i q0 => ((hg_M_4 a i (fun z8 => q0 ((fun z9 => Or.elim z9 (fun h9 => Or.inl h9) (fun z9 => Or.elim z9 (fun h9 => Or.inr (Or.inl h9)) (fun z9 => Or.elim z9 (fun h9 => Or.inr (Or.inr (Or.inl h9))) (fun z9 => Or.elim z9 (fun h9 => Or.inr (Or.inr (Or.inr (Or.inl h9)))) (fun z9 => Or.elim z9 (fun h9 => Or.inr (Or.inr (Or.inr (Or.inr (Or.inl h9))))) (fun h9 => Or.inr (Or.inr (Or.inr (Or.inr (Or.inr (h9))))))))))) z8))).trans ((hf_M8 a i (fun z8 => q0 ((fun z9 => Or.elim z9 (fun h9 => Or.inl h9) (fun z9 => Or.elim z9 (fun h9 => Or.inr (Or.inl h9)) (fun z9 => Or.elim z9 (fun h9 => Or.inr (Or.inr (Or.inl h9))) (fun z9 => Or.elim z9 (fun h9 => Or.inr (Or.inr (Or.inr (Or.inl h9)))) (fun z9 => Or.elim z9 (fun h9 => Or.inr (Or.inr (Or.inr (Or.inr (Or.inl h9))))) (fun h9 => Or.inr (Or.inr (Or.inr (Or.inr (Or.inr (h9))))))))))) z8))).trans rfl))), (by show (M_4 c 9).toInt = 0 ∨ (M_4 c 9).toInt = 1; have f0 := t_lit 0; omega), hn0_19, (by show LwP (sumD T (6 - v2.toInt).toNat (sC M c)) (nI 0).toInt (M_4 19 4).toInt (sC M_4 c); rw [hI8]; exact lwp_b (lwp_f hq_19 c22) nI0 rfl), (fun z => absurd nI0 z)⟩
    · have v19 := lwp_v hq_19 c22
      obtain ⟨B1, B2, B3, B4⟩ := hB_19 c22
      rw [e82] at B3
      rw [v19, bnS_r] at hI8
      have j39 : ∀ (N39 : Mem), (∀ a i, ¬ (a = (c + 1) ∨ a = (c + 2) ∨ (a = c ∧ i = 7)) → N39 a i = M_4 a i) → (sC N39 c = opt (sC M_4 c) (sgn y4_8.toInt) ∧ (0 ≤ (N39 c 7).toInt ∧ (N39 c 7).toInt + cn (sgn y3_8.toInt) ≤ (N39 19 3).toInt) ∧ N39 19 3 = M_4 19 3) → Wp (f_X3_compileSum_L39 c ag8 y3_8 y5_8 N39) (fun q => (q.1 = 0 ∨ q.1 = 1) ∧ (∀ a i, ¬ ((a = 19 ∧ i = 3) ∨ (a = 19 ∧ i = 4) ∨ a = (c + 1) ∨ a = (c + 2) ∨ (a = c ∧ i = 7) ∨ (a = c ∧ i = 9)) → q.2 a i = M a i) ∧ ((q.2 c 9).toInt = 0 ∨ (q.2 c 9).toInt = 1) ∧ (0 ≤ (q.2 c 7).toInt) ∧ (LwP (sumD T (6 - v2.toInt).toNat (sC M c)) q.1.toInt (q.2 19 4).toInt (sC q.2 c)) ∧ (BdI q.1.toInt M q.2 c)) := by
        intro N39 hf_N39 h39
        unfold f_X3_compileSum_L39
        obtain ⟨q1, q2, q3⟩ := h39
        have q3i := congrArg Int32.toInt q3
        have e392 : N39 19 2 = M 19 2 := by rw [hf_N39 19 2 (by omega), e42]
        have e392i := congrArg Int32.toInt e392
        have hT39 : TXc N39 = T := (txc_fr (hf_N39 19 2 (by omega)) (fun j => hf_N39 20 j (by omega))).trans hT4
        refine wp_bind2 (o5_X7_here N39 T hT39 (by omega)) (fun r_5 he40 hq40 => ?_)
        have hh_40 := hq40
        replace hh_40 : r_5.toInt = T (N39 19 3).toInt := hh_40
        have hr5 : r_5.toInt = T (sC M_4 c).1 := by rw [hh_40, q3]; rfl
        have j72 : ∀ (t0_72 : Int32), (TsP t0_72.toInt r_5.toInt) → Wp (f_X3_compileSum_L72 c ag8 y3_8 y5_8 N39 r_5 t0_72) (fun q => (q.1 = 0 ∨ q.1 = 1) ∧ (∀ a i, ¬ ((a = 19 ∧ i = 3) ∨ (a = 19 ∧ i = 4) ∨ a = (c + 1) ∨ a = (c + 2) ∨ (a = c ∧ i = 7) ∨ (a = c ∧ i = 9)) → q.2 a i = M a i) ∧ ((q.2 c 9).toInt = 0 ∨ (q.2 c 9).toInt = 1) ∧ (0 ≤ (q.2 c 7).toInt) ∧ (LwP (sumD T (6 - v2.toInt).toNat (sC M c)) q.1.toInt (q.2 19 4).toInt (sC q.2 c)) ∧ (BdI q.1.toInt M q.2 c)) := by
          intro t0_72 h72
          unfold f_X3_compileSum_L72
          have j108 : ∀ (N108 : Mem), ∀ (z3_108 : Int32), (∀ a i, ¬ (a = (c + 1) ∨ a = (c + 2) ∨ (a = c ∧ i = 7)) → N108 a i = N39 a i) → (sumD T (6 - v2.toInt).toNat (sC M c) = sumL T (facD T (6 - v2.toInt).toNat) (239 - ix y5_8) (sgn z3_108.toInt) (sgn t0_72.toInt) (fwd (sC N108 c) ((N108 19 3).toInt + 1)) ∧ (0 ≤ (N108 c 7).toInt ∧ (N108 c 7).toInt + cn (sgn z3_108.toInt) + cn (sgn t0_72.toInt) ≤ (N108 19 3).toInt + 1) ∧ (0 ≤ (N108 19 3).toInt ∧ (N108 19 3).toInt < (M 19 2).toInt) ∧ OkS z3_108.toInt) → ((N108 c 9).toInt = 0 ∨ (N108 c 9).toInt = 1) → Wp (f_X3_compileSum_L108 ag8 y5_8 t0_72 N108 z3_108) (fun q => (q.1 = 0 ∨ q.1 = 1) ∧ (∀ a i, ¬ ((a = 19 ∧ i = 3) ∨ (a = 19 ∧ i = 4) ∨ a = (c + 1) ∨ a = (c + 2) ∨ (a = c ∧ i = 7) ∨ (a = c ∧ i = 9)) → q.2 a i = M a i) ∧ ((q.2 c 9).toInt = 0 ∨ (q.2 c 9).toInt = 1) ∧ (0 ≤ (q.2 c 7).toInt) ∧ (LwP (sumD T (6 - v2.toInt).toNat (sC M c)) q.1.toInt (q.2 19 4).toInt (sC q.2 c)) ∧ (BdI q.1.toInt M q.2 c)) := by
            intro N108 z3_108 hf_N108 h108 hb108
            unfold f_X3_compileSum_L108
            obtain ⟨x1, x2, x3, x4⟩ := h108
            have okt : OkS t0_72.toInt := okt_of h72
            have hbN : (N108 c 9).toInt = 0 ∨ (N108 c 9).toInt = 1 := hb108
            refine wp_bnd (fun M_6 eM_6 => ?_)
            have p6 : (M_6 19 3).toInt = (N108 19 3).toInt + 1 := by rw [eM_6, mset_eq]; exact (i_up (by omega)).2
            have c67 : M_6 c 7 = N108 c 7 := by rw [eM_6, mset_ne (by first | exact nz1 (by decide) | exact nz2 (by decide) | exact nz1 (nzA hc0 (by decide)) | exact nz1 (nzE (by decide)) | exact nz1 (nzB hc0 (by decide)) | exact nz1 (nzC hc0 (by decide)) | exact nz1 (nzD hc0 (by decide)) | exact nz1 (nzF (by decide)) | exact nz1 (nzG (by decide)) | omega)]
            have c67i := congrArg Int32.toInt c67
            have s6 : sC M_6 c = fwd (sC N108 c) ((N108 19 3).toInt + 1) := sc_fwd p6 (by rw [eM_6, mset_ne (by first | exact nz1 (by decide) | exact nz2 (by decide) | exact nz1 (nzA hc0 (by decide)) | exact nz1 (nzE (by decide)) | exact nz1 (nzB hc0 (by decide)) | exact nz1 (nzC hc0 (by decide)) | exact nz1 (nzD hc0 (by decide)) | exact nz1 (nzF (by decide)) | exact nz1 (nzG (by decide)) | omega)]) (fun j => by rw [eM_6, mset_ne (by first | exact nz1 (by decide) | exact nz2 (by decide) | exact nz1 (nzA hc0 (by decide)) | exact nz1 (nzE (by decide)) | exact nz1 (nzB hc0 (by decide)) | exact nz1 (nzC hc0 (by decide)) | exact nz1 (nzD hc0 (by decide)) | exact nz1 (nzF (by decide)) | exact nz1 (nzG (by decide)) | omega)]) (fun j => by rw [eM_6, mset_ne (by first | exact nz1 (by decide) | exact nz2 (by decide) | exact nz1 (nzA hc0 (by decide)) | exact nz1 (nzE (by decide)) | exact nz1 (nzB hc0 (by decide)) | exact nz1 (nzC hc0 (by decide)) | exact nz1 (nzD hc0 (by decide)) | exact nz1 (nzF (by decide)) | exact nz1 (nzG (by decide)) | omega)])
            exact ih8 M_6 z3_108 t0_72 (y5_8 + (nI 1)) ⟨(by have f0 := t_lit 1; have f1 := t_add y5_8 (nI 1); omega), (fun a i q0 => ((congrFun (congrFun eM_6 a) i).trans ((mset_ne (fun h9 => q0 (Or.inl h9))).trans ((hf_N108 a i (fun z8 => q0 ((fun z9 => Or.elim z9 (fun h9 => Or.inr (Or.inr (Or.inl h9))) (fun z9 => Or.elim z9 (fun h9 => Or.inr (Or.inr (Or.inr (Or.inl h9)))) (fun h9 => Or.inr (Or.inr (Or.inr (Or.inr (Or.inl h9))))))) z8))).trans ((hf_N39 a i (fun z8 => q0 ((fun z9 => Or.elim z9 (fun h9 => Or.inr (Or.inr (Or.inl h9))) (fun z9 => Or.elim z9 (fun h9 => Or.inr (Or.inr (Or.inr (Or.inl h9)))) (fun h9 => Or.inr (Or.inr (Or.inr (Or.inr (Or.inl h9))))))) z8))).trans ((hg_M_4 a i (fun z8 => q0 ((fun z9 => Or.elim z9 (fun h9 => Or.inl h9) (fun z9 => Or.elim z9 (fun h9 => Or.inr (Or.inl h9)) (fun z9 => Or.elim z9 (fun h9 => Or.inr (Or.inr (Or.inl h9))) (fun z9 => Or.elim z9 (fun h9 => Or.inr (Or.inr (Or.inr (Or.inl h9)))) (fun z9 => Or.elim z9 (fun h9 => Or.inr (Or.inr (Or.inr (Or.inr (Or.inl h9))))) (fun h9 => Or.inr (Or.inr (Or.inr (Or.inr (Or.inr (h9))))))))))) z8))).trans ((hf_M8 a i (fun z8 => q0 ((fun z9 => Or.elim z9 (fun h9 => Or.inl h9) (fun z9 => Or.elim z9 (fun h9 => Or.inr (Or.inl h9)) (fun z9 => Or.elim z9 (fun h9 => Or.inr (Or.inr (Or.inl h9))) (fun z9 => Or.elim z9 (fun h9 => Or.inr (Or.inr (Or.inr (Or.inl h9)))) (fun z9 => Or.elim z9 (fun h9 => Or.inr (Or.inr (Or.inr (Or.inr (Or.inl h9))))) (fun h9 => Or.inr (Or.inr (Or.inr (Or.inr (Or.inr (h9))))))))))) z8))).trans rfl))))))), (by show (M_6 c 9).toInt = 0 ∨ (M_6 c 9).toInt = 1; rw [eM_6, mset_ne (by first | exact nz1 (by decide) | exact nz2 (by decide) | exact nz1 (nzA hc0 (by decide)) | exact nz1 (nzE (by decide)) | exact nz1 (nzB hc0 (by decide)) | exact nz1 (nzC hc0 (by decide)) | exact nz1 (nzD hc0 (by decide)) | exact nz1 (nzF (by decide)) | exact nz1 (nzG (by decide)) | omega)]; exact hbN), (by rw [x1, s6, i5.1, show 240 - (ix y5_8 + 1) = 239 - ix y5_8 from (by omega)]), (by rw [p6, c67]; omega), ⟨x4, okt⟩⟩ (by have f0 := t_lit 1; have f1 := t_add y5_8 (nI 1); omega)
          refine wp_ite (fun c76 => ?_) (fun c76 => ?_)
          · have j89 : ∀ (N89 : Mem), (∀ a i, ¬ (a = (c + 1) ∨ a = (c + 2) ∨ (a = c ∧ i = 7)) → N89 a i = N39 a i) → (sC N89 c = opt (sC N39 c) (sgn y3_8.toInt) ∧ (0 ≤ (N89 c 7).toInt ∧ (N89 c 7).toInt ≤ (N89 19 3).toInt) ∧ N89 19 3 = M_4 19 3) → Wp (f_X3_compileSum_L89 ag8 y5_8 r_5 t0_72 N89) (fun q => (q.1 = 0 ∨ q.1 = 1) ∧ (∀ a i, ¬ ((a = 19 ∧ i = 3) ∨ (a = 19 ∧ i = 4) ∨ a = (c + 1) ∨ a = (c + 2) ∨ (a = c ∧ i = 7) ∨ (a = c ∧ i = 9)) → q.2 a i = M a i) ∧ ((q.2 c 9).toInt = 0 ∨ (q.2 c 9).toInt = 1) ∧ (0 ≤ (q.2 c 7).toInt) ∧ (LwP (sumD T (6 - v2.toInt).toNat (sC M c)) q.1.toInt (q.2 19 4).toInt (sC q.2 c)) ∧ (BdI q.1.toInt M q.2 c)) := by
              intro N89 hf_N89 h89
              unfold f_X3_compileSum_L89
              obtain ⟨w1, w2, w3⟩ := h89
              have w3i := congrArg Int32.toInt w3
              have ts3 := tsp_n h72 c76
              have j105 : (r_5.toInt = 43 ∨ r_5.toInt = 45) → Wp (f_X3_compileSum_L105 ag8 y5_8 r_5 t0_72 N89) (fun q => (q.1 = 0 ∨ q.1 = 1) ∧ (∀ a i, ¬ ((a = 19 ∧ i = 3) ∨ (a = 19 ∧ i = 4) ∨ a = (c + 1) ∨ a = (c + 2) ∨ (a = c ∧ i = 7) ∨ (a = c ∧ i = 9)) → q.2 a i = M a i) ∧ ((q.2 c 9).toInt = 0 ∨ (q.2 c 9).toInt = 1) ∧ (0 ≤ (q.2 c 7).toInt) ∧ (LwP (sumD T (6 - v2.toInt).toNat (sC M c)) q.1.toInt (q.2 19 4).toInt (sC q.2 c)) ∧ (BdI q.1.toInt M q.2 c)) := by
                intro h105
                unfold f_X3_compileSum_L105
                have in105 := tx_in hT4 (p := (M_4 19 3).toInt) (by rw [show T (M_4 19 3).toInt = r_5.toInt from hr5.symm]; omega)
                have sg2 := sgn_2 h105
                have ok5 : OkS r_5.toInt := fun _ => by omega
                have cn5 : cn (sgn r_5.toInt) = 1 := cn_1 (by omega)
                have cn7 : cn (sgn t0_72.toInt) = 0 := cn_n c76
                exact j108 N89 r_5 (fun a i q0 => ((hf_N89 a i (fun z8 => q0 ((fun z9 => Or.elim z9 (fun h9 => Or.inl h9) (fun z9 => Or.elim z9 (fun h9 => Or.inr (Or.inl h9)) (fun h9 => Or.inr (Or.inr (h9))))) z8))).trans rfl)) ⟨by rw [hI8, sumT_s (by rw [← hr5]; omega) (by rw [← hr5]; omega), ← hr5, show (t0_72.toInt) = 0 from c76, show sgn 0 = 0 from rfl, ← q1, ← w1]; rw [show (sC M_4 c).1 + 1 = (N89 19 3).toInt + 1 from by rw [w3]; rfl], by omega, by omega, ok5⟩ (by have f0 := congrArg Int32.toInt (hf_N39 c 9 (by omega)); have f1 := congrArg Int32.toInt (hf_N89 c 9 (by omega)); omega)
              refine wp_ite (fun c93 => ?_) (fun c93 => ?_)
              · exact j105 (by omega)
              · refine wp_ite (fun c100 => ?_) (fun c100 => ?_)
                · exact j105 (by omega)
                · have sg0 : sgn r_5.toInt = 0 := by
                    have z1 := sgn_z h72 c76 c93 c100
                    exact z1
                  exact wp_some ⟨b01_1, (fun a i q0 => ((hf_N89 a i (fun z8 => q0 ((fun z9 => Or.elim z9 (fun h9 => Or.inr (Or.inr (Or.inl h9))) (fun z9 => Or.elim z9 (fun h9 => Or.inr (Or.inr (Or.inr (Or.inl h9)))) (fun h9 => Or.inr (Or.inr (Or.inr (Or.inr (Or.inl h9))))))) z8))).trans ((hf_N39 a i (fun z8 => q0 ((fun z9 => Or.elim z9 (fun h9 => Or.inr (Or.inr (Or.inl h9))) (fun z9 => Or.elim z9 (fun h9 => Or.inr (Or.inr (Or.inr (Or.inl h9)))) (fun h9 => Or.inr (Or.inr (Or.inr (Or.inr (Or.inl h9))))))) z8))).trans ((hg_M_4 a i (fun z8 => q0 ((fun z9 => Or.elim z9 (fun h9 => Or.inl h9) (fun z9 => Or.elim z9 (fun h9 => Or.inr (Or.inl h9)) (fun z9 => Or.elim z9 (fun h9 => Or.inr (Or.inr (Or.inl h9))) (fun z9 => Or.elim z9 (fun h9 => Or.inr (Or.inr (Or.inr (Or.inl h9)))) (fun z9 => Or.elim z9 (fun h9 => Or.inr (Or.inr (Or.inr (Or.inr (Or.inl h9))))) (fun h9 => Or.inr (Or.inr (Or.inr (Or.inr (Or.inr (h9))))))))))) z8))).trans ((hf_M8 a i (fun z8 => q0 ((fun z9 => Or.elim z9 (fun h9 => Or.inl h9) (fun z9 => Or.elim z9 (fun h9 => Or.inr (Or.inl h9)) (fun z9 => Or.elim z9 (fun h9 => Or.inr (Or.inr (Or.inl h9))) (fun z9 => Or.elim z9 (fun h9 => Or.inr (Or.inr (Or.inr (Or.inl h9)))) (fun z9 => Or.elim z9 (fun h9 => Or.inr (Or.inr (Or.inr (Or.inr (Or.inl h9))))) (fun h9 => Or.inr (Or.inr (Or.inr (Or.inr (Or.inr (h9))))))))))) z8))).trans rfl))))), (by show (N89 c 9).toInt = 0 ∨ (N89 c 9).toInt = 1; have f0 := congrArg Int32.toInt (hf_N89 c 9 (by omega)); have f1 := congrArg Int32.toInt (hf_N39 c 9 (by omega)); have f2 := t_lit 1; omega), w2.1, (by show LwP (sumD T (6 - v2.toInt).toNat (sC M c)) (nI 1).toInt (N89 19 4).toInt (sC N89 c); rw [hI8, sumT_e (by rw [← hr5]; exact sg0), ← q1, ← w1]; exact ⟨ne1, rfl⟩), (fun _ => bds_of (sumD_rm (ends_c hT) _ _ _ (by rw [hI8, sumT_e (by rw [← hr5]; exact sg0), ← q1, ← w1])) hn w2.1)⟩
            refine wp_ite (fun c80 => ?_) (fun c80 => ?_)
            · exact j89 N39 (fun _ _ _ => rfl) ⟨(opt_n c80).symm, by have := cn_n c80; omega, q3⟩
            · refine wp_bind2 (o6_X3_order hc N39 y3_8 (nI 0)) (fun M_7 he86 hq86 => ?_)
              obtain ⟨hg_M_7, hor_86, hon_86⟩ := hq86
              replace hor_86 : 0 ≤ (N39 c 7).toInt → (N39 c 7).toInt < 240 → sC M_7 c = emt (sC N39 c) (unc y3_8.toInt) (nI 0).toInt ∧ (M_7 c 7).toInt = (N39 c 7).toInt + 1 := hor_86
              have := t_lit 0
              replace hon_86 : 0 ≤ (N39 c 7).toInt → 0 ≤ (M_7 c 7).toInt := hon_86
              have := t_lit 0
              replace hg_M_7 : ∀ a i, ¬ (a = (c + 1) ∨ a = (c + 2) ∨ (a = c ∧ i = 7)) → M_7 a i = N39 a i := by exact fun a i q0 => hg_M_7 a i (by omega)
              have cy3 := cn_y ho8.1 c80
              have o7 := hor_86 (by omega) (by omega)
              have g73 : M_7 19 3 = N39 19 3 := hg_M_7 19 3 (by omega)
              have g73i := congrArg Int32.toInt g73
              exact j89 M_7 (fun a i q0 => ((hg_M_7 a i (fun z8 => q0 ((fun z9 => Or.elim z9 (fun h9 => Or.inl h9) (fun z9 => Or.elim z9 (fun h9 => Or.inr (Or.inl h9)) (fun h9 => Or.inr (Or.inr (h9))))) z8))).trans rfl)) ⟨by rw [o7.1, nI0, opt_y ho8.1 c80], by omega, by rw [g73, q3]⟩
          · exact j108 N39 y3_8 (fun _ _ _ => rfl) ⟨by rw [hI8, sumT_t (by rw [← hr5]; exact (tsp_y h72 c76).2), (tsp_y h72 c76).1, ← hr5, ← q1]; rw [show (sC M_4 c).1 + 1 = (N39 19 3).toInt + 1 from by rw [q3]; rfl], by have z1 := cn_b (sgn t0_72.toInt); omega, by have z2 := tx_in hT4 (p := (M_4 19 3).toInt) (fun z => absurd (tsp_y h72 c76).2 (by rw [hr5, show T (sC M_4 c).1 = -1 from z]; decide)); omega, ho8.1⟩ (by have f0 := congrArg Int32.toInt (hf_N39 c 9 (by omega)); omega)
        have j66 : (r_5.toInt = 42 ∨ r_5.toInt = 47 ∨ r_5.toInt = 37) → Wp (f_X3_compileSum_L66 c ag8 y3_8 y5_8 N39 r_5) (fun q => (q.1 = 0 ∨ q.1 = 1) ∧ (∀ a i, ¬ ((a = 19 ∧ i = 3) ∨ (a = 19 ∧ i = 4) ∨ a = (c + 1) ∨ a = (c + 2) ∨ (a = c ∧ i = 7) ∨ (a = c ∧ i = 9)) → q.2 a i = M a i) ∧ ((q.2 c 9).toInt = 0 ∨ (q.2 c 9).toInt = 1) ∧ (0 ≤ (q.2 c 7).toInt) ∧ (LwP (sumD T (6 - v2.toInt).toNat (sC M c)) q.1.toInt (q.2 19 4).toInt (sC q.2 c)) ∧ (BdI q.1.toInt M q.2 c)) := by
          intro h66
          unfold f_X3_compileSum_L66
          exact j72 r_5 (Or.inl ⟨rfl, (sgn_4 h66).1⟩)
        refine wp_ite (fun c49 => ?_) (fun c49 => ?_)
        · exact j66 (by omega)
        · refine wp_ite (fun c56 => ?_) (fun c56 => ?_)
          · exact j66 (by omega)
          · refine wp_ite (fun c63 => ?_) (fun c63 => ?_)
            · exact j66 (by omega)
            · exact j72 (nI 0) (Or.inr ⟨nI0, sgn_s c49 c56 c63⟩)
      refine wp_ite (fun c29 => ?_) (fun c29 => ?_)
      · exact j39 M_4 (fun _ _ _ => rfl) ⟨(opt_n c29).symm, by have := cn_n c29; omega, rfl⟩
      · refine wp_bind2 (o6_X3_order hc M_4 y4_8 (nI 0)) (fun M_8 he36 hq36 => ?_)
        obtain ⟨hg_M_8, hor_36, hon_36⟩ := hq36
        replace hor_36 : 0 ≤ (M_4 c 7).toInt → (M_4 c 7).toInt < 240 → sC M_8 c = emt (sC M_4 c) (unc y4_8.toInt) (nI 0).toInt ∧ (M_8 c 7).toInt = (M_4 c 7).toInt + 1 := hor_36
        have := t_lit 0
        replace hon_36 : 0 ≤ (M_4 c 7).toInt → 0 ≤ (M_8 c 7).toInt := hon_36
        have := t_lit 0
        replace hg_M_8 : ∀ a i, ¬ (a = (c + 1) ∨ a = (c + 2) ∨ (a = c ∧ i = 7)) → M_8 a i = M_4 a i := by exact fun a i q0 => hg_M_8 a i (by omega)
        have cy := cn_y ho8.2 c29
        have o8 := hor_36 (by omega) (by omega)
        have g83 : M_8 19 3 = M_4 19 3 := hg_M_8 19 3 (by omega)
        have g83i := congrArg Int32.toInt g83
        exact j39 M_8 (fun a i q0 => ((hg_M_8 a i (fun z8 => q0 ((fun z9 => Or.elim z9 (fun h9 => Or.inl h9) (fun z9 => Or.elim z9 (fun h9 => Or.inr (Or.inl h9)) (fun h9 => Or.inr (Or.inr (h9))))) z8))).trans rfl)) ⟨by rw [o8.1, nI0, opt_y ho8.2 c29], by omega, g83⟩
set_option maxHeartbeats 8000000 in
theorem o6_X3_compileFactor {c : Nat} (hc : isL c) {KS : Int} {S_X3_compileSum : Mem → Int32 → Option (Int32 × Mem)} (hS_X3_compileSum : ∀ (M : Mem) (v2 : Int32) (T : Int → Int) (hT : TXc M = T) (ho : KS ≤ v2.toInt ∧ v2.toInt ≤ 6) (hb : (M c 9).toInt = 0 ∨ (M c 9).toInt = 1) (hp : 0 ≤ (M 19 3).toInt ∧ (M 19 3).toInt ≤ (M 19 2).toInt ∧ (M 19 2).toInt ≤ 240) (hn : 0 ≤ (M c 7).toInt ∧ (M c 7).toInt ≤ (M 19 3).toInt), Wp (S_X3_compileSum M v2) (fun q => (q.1 = 0 ∨ q.1 = 1) ∧ (∀ a i, ¬ ((a = 19 ∧ i = 3) ∨ (a = 19 ∧ i = 4) ∨ a = (c + 1) ∨ a = (c + 2) ∨ (a = c ∧ i = 7) ∨ (a = c ∧ i = 9)) → q.2 a i = M a i) ∧ ((q.2 c 9).toInt = 0 ∨ (q.2 c 9).toInt = 1) ∧ (0 ≤ (q.2 c 7).toInt) ∧ (LwP (sumD T (6 - v2.toInt).toNat (sC M c)) q.1.toInt (q.2 19 4).toInt (sC q.2 c)) ∧ (BdI q.1.toInt M q.2 c))) (M : Mem) (v2 : Int32) (T : Int → Int) (hT : TXc M = T) (ho : KS ≤ v2.toInt + 1 ∧ 0 ≤ v2.toInt ∧ v2.toInt ≤ 6) (hb : (M c 9).toInt = 0 ∨ (M c 9).toInt = 1) (hp : 0 ≤ (M 19 3).toInt ∧ (M 19 3).toInt ≤ (M 19 2).toInt ∧ (M 19 2).toInt ≤ 240) (hn : 0 ≤ (M c 7).toInt ∧ (M c 7).toInt ≤ (M 19 3).toInt) : Wp (f_X3_compileFactor S_X3_compileSum c M v2) (fun q => (q.1 = 0 ∨ q.1 = 1) ∧ (∀ a i, ¬ ((a = 19 ∧ i = 3) ∨ (a = 19 ∧ i = 4) ∨ a = (c + 1) ∨ a = (c + 2) ∨ (a = c ∧ i = 7) ∨ (a = c ∧ i = 9)) → q.2 a i = M a i) ∧ ((q.2 c 9).toInt = 0 ∨ (q.2 c 9).toInt = 1) ∧ (0 ≤ (q.2 c 7).toInt) ∧ (LwP (facD T (6 - v2.toInt).toNat (sC M c)) q.1.toInt (q.2 19 4).toInt (sC q.2 c)) ∧ (BdI q.1.toInt M q.2 c)) := by
  have hc0 : c = 44 ∨ c = 52 := hc
  refine wp_bind2 (o5_X7_here M T hT hp) (fun r_1 he1 hq1 => ?_)
  have hh_1 := hq1
  replace hh_1 : r_1.toInt = T (M 19 3).toInt := hh_1
  refine wp_ite (fun c8 => ?_) (fun c8 => ?_)
  · refine wp_ite (fun c14 => ?_) (fun c14 => ?_)
    · refine wp_bnd (fun M_12 eM_12 => ?_)
      have hin := tx_in hT (p := (M 19 3).toInt) (by rw [← hh_1]; omega)
      have p12 : (M_12 19 3).toInt = (M 19 3).toInt + 1 := by rw [eM_12, mset_eq]; exact (i_up (by omega)).2
      have e12 : M_12 19 2 = M 19 2 := by rw [eM_12, mset_ne (by first | exact nz1 (by decide) | exact nz2 (by decide) | exact nz1 (nzA hc0 (by decide)) | exact nz1 (nzE (by decide)) | exact nz1 (nzB hc0 (by decide)) | exact nz1 (nzC hc0 (by decide)) | exact nz1 (nzD hc0 (by decide)) | exact nz1 (nzF (by decide)) | exact nz1 (nzG (by decide)) | omega)]
      have e12i := congrArg Int32.toInt e12
      have hT12 : TXc M_12 = T := (txc_fr e12 (fun j => by rw [eM_12, mset_ne (by first | exact nz1 (by decide) | exact nz2 (by decide) | exact nz1 (nzA hc0 (by decide)) | exact nz1 (nzE (by decide)) | exact nz1 (nzB hc0 (by decide)) | exact nz1 (nzC hc0 (by decide)) | exact nz1 (nzD hc0 (by decide)) | exact nz1 (nzF (by decide)) | exact nz1 (nzG (by decide)) | omega)])).trans hT
      have e127 : M_12 c 7 = M c 7 := by rw [eM_12, mset_ne (by first | exact nz1 (by decide) | exact nz2 (by decide) | exact nz1 (nzA hc0 (by decide)) | exact nz1 (nzE (by decide)) | exact nz1 (nzB hc0 (by decide)) | exact nz1 (nzC hc0 (by decide)) | exact nz1 (nzD hc0 (by decide)) | exact nz1 (nzF (by decide)) | exact nz1 (nzG (by decide)) | omega)]
      have e127i := congrArg Int32.toInt e127
      have b12 : (M_12 c 9).toInt = 0 ∨ (M_12 c 9).toInt = 1 := by rw [eM_12, mset_ne (by first | exact nz1 (by decide) | exact nz2 (by decide) | exact nz1 (nzA hc0 (by decide)) | exact nz1 (nzE (by decide)) | exact nz1 (nzB hc0 (by decide)) | exact nz1 (nzC hc0 (by decide)) | exact nz1 (nzD hc0 (by decide)) | exact nz1 (nzF (by decide)) | exact nz1 (nzG (by decide)) | omega)]; exact hb
      have s12 : sC M_12 c = fwd (sC M c) ((sC M c).1 + 1) := sc_fwd p12 (by rw [eM_12, mset_ne (by first | exact nz1 (by decide) | exact nz2 (by decide) | exact nz1 (nzA hc0 (by decide)) | exact nz1 (nzE (by decide)) | exact nz1 (nzB hc0 (by decide)) | exact nz1 (nzC hc0 (by decide)) | exact nz1 (nzD hc0 (by decide)) | exact nz1 (nzF (by decide)) | exact nz1 (nzG (by decide)) | omega)]) (fun j => by rw [eM_12, mset_ne (by first | exact nz1 (by decide) | exact nz2 (by decide) | exact nz1 (nzA hc0 (by decide)) | exact nz1 (nzE (by decide)) | exact nz1 (nzB hc0 (by decide)) | exact nz1 (nzC hc0 (by decide)) | exact nz1 (nzD hc0 (by decide)) | exact nz1 (nzF (by decide)) | exact nz1 (nzG (by decide)) | omega)]) (fun j => by rw [eM_12, mset_ne (by first | exact nz1 (by decide) | exact nz2 (by decide) | exact nz1 (nzA hc0 (by decide)) | exact nz1 (nzE (by decide)) | exact nz1 (nzB hc0 (by decide)) | exact nz1 (nzC hc0 (by decide)) | exact nz1 (nzD hc0 (by decide)) | exact nz1 (nzF (by decide)) | exact nz1 (nzG (by decide)) | omega)])
      have dv := t_inc v2 1 (by omega)
      have ed : (6 - (v2 + nI 1).toInt).toNat = (6 - v2.toInt).toNat - 1 := by omega
      refine wp_cb2 (hS_X3_compileSum M_12 (v2 + (nI 1)) T hT12 (by omega) b12 (by omega) (by omega)) (fun r_13 M_14 he42 hq42 => ?_)
      obtain ⟨hz_r_13, hg_M_14, hb_42, hn0_42, hq_42, hB_42⟩ := hq42
      replace hb_42 : (M_14 c 9).toInt = 0 ∨ (M_14 c 9).toInt = 1 := hb_42
      replace hn0_42 : 0 ≤ (M_14 c 7).toInt := hn0_42
      replace hq_42 : LwP (sumD T (6 - (v2 + (nI 1)).toInt).toNat (sC M_12 c)) r_13.toInt (M_14 19 4).toInt (sC M_14 c) := hq_42
      replace hB_42 : BdI r_13.toInt M_12 M_14 c := hB_42
      replace hg_M_14 : ∀ a i, ¬ ((a = 19 ∧ i = 3) ∨ (a = 19 ∧ i = 4) ∨ a = (c + 1) ∨ a = (c + 2) ∨ (a = c ∧ i = 7) ∨ (a = c ∧ i = 9)) → M_14 a i = M_12 a i := hg_M_14
      rw [s12, ed] at hq_42
      have e14 : M_14 19 2 = M 19 2 := by rw [hg_M_14 19 2 (by omega), e12]
      have e14i := congrArg Int32.toInt e14
      have hT14 : TXc M_14 = T := (txc_fr (hg_M_14 19 2 (by omega)) (fun j => hg_M_14 20 j (by omega))).trans hT12
      refine wp_ite (fun c45 => ?_) (fun c45 => ?_)
      · exact wp_some ⟨b01_0, (fun a i q0 => ((hg_M_14 a i (fun z8 => q0 ((fun z9 => Or.elim z9 (fun h9 => Or.inl h9) (fun z9 => Or.elim z9 (fun h9 => Or.inr (Or.inl h9)) (fun z9 => Or.elim z9 (fun h9 => Or.inr (Or.inr (Or.inl h9))) (fun z9 => Or.elim z9 (fun h9 => Or.inr (Or.inr (Or.inr (Or.inl h9)))) (fun z9 => Or.elim z9 (fun h9 => Or.inr (Or.inr (Or.inr (Or.inr (Or.inl h9))))) (fun h9 => Or.inr (Or.inr (Or.inr (Or.inr (Or.inr (h9))))))))))) z8))).trans ((congrFun (congrFun eM_12 a) i).trans ((mset_ne (fun h9 => q0 (Or.inl h9))).trans rfl)))), (by show (M_14 c 9).toInt = 0 ∨ (M_14 c 9).toInt = 1; have f0 := t_lit 0; omega), hn0_42, (by show LwP (facD T (6 - v2.toInt).toNat (sC M c)) (nI 0).toInt (M_14 19 4).toInt (sC M_14 c); rw [facD_o (by show T (M 19 3).toInt = 91; rw [← hh_1]; exact c8) (by omega)]; exact lwp_b (lwp_f hq_42 c45) nI0 rfl), (fun z => absurd nI0 z)⟩
      · have v42 := lwp_v hq_42 c45
        obtain ⟨B1, B2, B3, B4⟩ := hB_42 c45
        rw [e12] at B3
        refine wp_cb2 (o5_X7_skip M_14 (nI 93) T hT14 (by omega) (by decide)) (fun r_15 M_16 he51 hq51 => ?_)
        obtain ⟨hz_r_15, hg_M_16, hs_51⟩ := hq51
        replace hs_51 : SkpP (T (M_14 19 3).toInt) (nI 93).toInt r_15.toInt (M_14 19 3).toInt (M_16 19 3).toInt (M_14 19 2).toInt (M_16 19 4).toInt := hs_51
        have := t_lit 93
        replace hg_M_16 : ∀ a i, ¬ ((a = 19 ∧ i = 3) ∨ (a = 19 ∧ i = 4)) → M_16 a i = M_14 a i := hg_M_16
        have n16 : 0 ≤ (M_16 c 7).toInt := by rw [hg_M_16 c 7 (by omega)]; exact B1.1
        refine wp_ite (fun c54 => ?_) (fun c54 => ?_)
        · exact wp_some ⟨b01_0, (fun a i q0 => ((hg_M_16 a i (fun z8 => q0 ((fun z9 => Or.elim z9 (fun h9 => Or.inl h9) (fun h9 => Or.inr (Or.inl h9))) z8))).trans ((hg_M_14 a i (fun z8 => q0 ((fun z9 => Or.elim z9 (fun h9 => Or.inl h9) (fun z9 => Or.elim z9 (fun h9 => Or.inr (Or.inl h9)) (fun z9 => Or.elim z9 (fun h9 => Or.inr (Or.inr (Or.inl h9))) (fun z9 => Or.elim z9 (fun h9 => Or.inr (Or.inr (Or.inr (Or.inl h9)))) (fun z9 => Or.elim z9 (fun h9 => Or.inr (Or.inr (Or.inr (Or.inr (Or.inl h9))))) (fun h9 => Or.inr (Or.inr (Or.inr (Or.inr (Or.inr (h9))))))))))) z8))).trans ((congrFun (congrFun eM_12 a) i).trans ((mset_ne (fun h9 => q0 (Or.inl h9))).trans rfl))))), (by show (M_16 c 9).toInt = 0 ∨ (M_16 c 9).toInt = 1; have f0 := congrArg Int32.toInt (hg_M_16 c 9 (by omega)); have f1 := t_lit 0; omega), n16, (by show LwP (facD T (6 - v2.toInt).toNat (sC M c)) (nI 0).toInt (M_16 19 4).toInt (sC M_16 c); rw [facD_o (by show T (M 19 3).toInt = 91; rw [← hh_1]; exact c8) (by omega), v42, bnS_r, xpc_n (fun z => (skp_n hs_51 c54).1 (Eq.trans z (t_lit 93).symm))]; exact ⟨nI0, (skp_n hs_51 c54).2⟩), (fun z => absurd nI0 z)⟩
        · have F16 : facD T (6 - v2.toInt).toNat (sC M c) = .inr (sC M_16 c) := by
            rw [facD_o (by show T (M 19 3).toInt = 91; rw [← hh_1]; exact c8) (by omega), v42, bnS_r, xpc_y (show T (M_14 19 3).toInt = 93 by rw [(skp_y hs_51 c54).1]; exact t_lit 93), show sC M_16 c = fwd (sC M_14 c) ((sC M_14 c).1 + 1) from sc_fwd (skp_y hs_51 c54).2.1 (hg_M_16 c 7 (by omega)) (fun j => hg_M_16 (c + 1) j (by omega)) (fun j => hg_M_16 (c + 2) j (by omega))]
          exact wp_some ⟨b01_1, (fun a i q0 => ((hg_M_16 a i (fun z8 => q0 ((fun z9 => Or.elim z9 (fun h9 => Or.inl h9) (fun h9 => Or.inr (Or.inl h9))) z8))).trans ((hg_M_14 a i (fun z8 => q0 ((fun z9 => Or.elim z9 (fun h9 => Or.inl h9) (fun z9 => Or.elim z9 (fun h9 => Or.inr (Or.inl h9)) (fun z9 => Or.elim z9 (fun h9 => Or.inr (Or.inr (Or.inl h9))) (fun z9 => Or.elim z9 (fun h9 => Or.inr (Or.inr (Or.inr (Or.inl h9)))) (fun z9 => Or.elim z9 (fun h9 => Or.inr (Or.inr (Or.inr (Or.inr (Or.inl h9))))) (fun h9 => Or.inr (Or.inr (Or.inr (Or.inr (Or.inr (h9))))))))))) z8))).trans ((congrFun (congrFun eM_12 a) i).trans ((mset_ne (fun h9 => q0 (Or.inl h9))).trans rfl))))), (by show (M_16 c 9).toInt = 0 ∨ (M_16 c 9).toInt = 1; have f0 := congrArg Int32.toInt (hg_M_16 c 9 (by omega)); have f1 := t_lit 1; omega), n16, (by show LwP (facD T (6 - v2.toInt).toNat (sC M c)) (nI 1).toInt (M_16 19 4).toInt (sC M_16 c); rw [F16]; exact ⟨ne1, rfl⟩), (fun _ => bds_of (facD_rm (ends_c hT) _ _ _ F16) hn n16)⟩
    · refine wp_cb2 (o5_X7_refuse M (nI 5) (M 19 3)) (fun r_17 M_18 he23 hq23 => ?_)
      obtain ⟨hz_r_17, hg_M_18, hw_23, hq_23⟩ := hq23
      replace hw_23 : r_17.toInt = 0 := hw_23
      have := t_lit 5
      replace hq_23 : 0 ≤ (nI 5).toInt → (nI 5).toInt ≤ 9 → 0 ≤ (M 19 3).toInt → (M 19 3).toInt ≤ 1000 → (M_18 19 4).toInt = -1000 * (nI 5).toInt - (M 19 3).toInt := hq_23
      have := t_lit 5
      replace hg_M_18 : ∀ a i, ¬ ((a = 19 ∧ i = 4)) → M_18 a i = M a i := hg_M_18
      refine wp_gb hz_r_17 ?_
      exact wp_some ⟨hz_r_17, (fun a i q0 => ((hg_M_18 a i (fun h9 => q0 (Or.inr (Or.inl h9)))).trans rfl)), (by show (M_18 c 9).toInt = 0 ∨ (M_18 c 9).toInt = 1; have f0 := congrArg Int32.toInt (hg_M_18 c 9 (by omega)); omega), (by show 0 ≤ (M_18 c 7).toInt; rw [hg_M_18 c 7 (by omega)]; exact hn.1), (by show LwP (facD T (6 - v2.toInt).toNat (sC M c)) r_17.toInt (M_18 19 4).toInt (sC M_18 c); rw [facD_5 (by show T (M 19 3).toInt = 91; rw [← hh_1]; exact c8) (by omega)]; exact ⟨hw_23, by rw [hq_23 (by decide) (by decide) (by omega) (by omega)]; have := t_lit 5; show _ = -5000 - (M 19 3).toInt; omega⟩), (fun z => absurd hw_23 z)⟩
  · refine wp_bind2 (o5_X7_isDigit M r_1) (fun r_2 he64 hq64 => ?_)
    obtain ⟨hz_r_2, hd_64⟩ := hq64
    replace hd_64 : ¬ r_2.toInt = 0 ↔ dgt r_1.toInt = true := hd_64
    refine wp_ite (fun c67 => ?_) (fun c67 => ?_)
    · refine wp_bind2 (o6_X5_indexOf M r_1) (fun r_3 he98 hq98 => ?_)
      have hix_98 := hq98
      replace hix_98 : r_3.toInt = fct r_1.toInt := hix_98
      refine wp_ite (fun c106 => ?_) (fun c106 => ?_)
      · refine wp_cb2 (o5_X7_refuse M (nI 1) (M 19 3)) (fun r_7 M_8 he115 hq115 => ?_)
        obtain ⟨hz_r_7, hg_M_8, hw_115, hq_115⟩ := hq115
        replace hw_115 : r_7.toInt = 0 := hw_115
        have := t_lit 1
        replace hq_115 : 0 ≤ (nI 1).toInt → (nI 1).toInt ≤ 9 → 0 ≤ (M 19 3).toInt → (M 19 3).toInt ≤ 1000 → (M_8 19 4).toInt = -1000 * (nI 1).toInt - (M 19 3).toInt := hq_115
        have := t_lit 1
        replace hg_M_8 : ∀ a i, ¬ ((a = 19 ∧ i = 4)) → M_8 a i = M a i := hg_M_8
        refine wp_gb hz_r_7 ?_
        exact wp_some ⟨hz_r_7, (fun a i q0 => ((hg_M_8 a i (fun h9 => q0 (Or.inr (Or.inl h9)))).trans rfl)), (by show (M_8 c 9).toInt = 0 ∨ (M_8 c 9).toInt = 1; have f0 := congrArg Int32.toInt (hg_M_8 c 9 (by omega)); omega), (by show 0 ≤ (M_8 c 7).toInt; rw [hg_M_8 c 7 (by omega)]; exact hn.1), (by show LwP (facD T (6 - v2.toInt).toNat (sC M c)) r_7.toInt (M_8 19 4).toInt (sC M_8 c); rw [facD_1 (by show ¬ T (M 19 3).toInt = 91; rw [← hh_1]; exact c8) (by show dgt (T (M 19 3).toInt) = false; rw [← hh_1]; exact Bool.eq_false_iff.mpr (fun z => hd_64.mpr z c67)) (by show fct (T (M 19 3).toInt) = -1; rw [← hh_1, ← hix_98]; exact c106)]; exact ⟨hw_115, by rw [hq_115 (by decide) (by decide) (by omega) (by omega)]; have := t_lit 1; show _ = -1000 - (M 19 3).toInt; omega⟩), (fun z => absurd hw_115 z)⟩
      · have j135 : ∀ (t0_135 : Int32), (t0_135 = 0 ∨ t0_135 = 1) → Wp (f_X3_compileFactor_L135 c M r_3 t0_135) (fun q => (q.1 = 0 ∨ q.1 = 1) ∧ (∀ a i, ¬ ((a = 19 ∧ i = 3) ∨ (a = 19 ∧ i = 4) ∨ a = (c + 1) ∨ a = (c + 2) ∨ (a = c ∧ i = 7) ∨ (a = c ∧ i = 9)) → q.2 a i = M a i) ∧ ((q.2 c 9).toInt = 0 ∨ (q.2 c 9).toInt = 1) ∧ (0 ≤ (q.2 c 7).toInt) ∧ (LwP (facD T (6 - v2.toInt).toNat (sC M c)) q.1.toInt (q.2 19 4).toInt (sC q.2 c)) ∧ (BdI q.1.toInt M q.2 c)) := by
          intro t0_135 hb_t0_135
          unfold f_X3_compileFactor_L135
          have hor := b01_to (b01_or (b01_of hb) hb_t0_135)
          have hin := tx_in hT (p := (M 19 3).toInt) (fun z => c106 (by rw [hix_98, hh_1, z]; decide))
          refine wp_gb (b01_or (b01_of hb) hb_t0_135) ?_
          refine wp_bnd (fun M_4 eM_4 => ?_)
          refine wp_bnd (fun M_5 eM_5 => ?_)
          have c57 : M_5 c 7 = M c 7 := by rw [eM_5, mset_ne (by first | exact nz1 (by decide) | exact nz2 (by decide) | exact nz1 (nzA hc0 (by decide)) | exact nz1 (nzE (by decide)) | exact nz1 (nzB hc0 (by decide)) | exact nz1 (nzC hc0 (by decide)) | exact nz1 (nzD hc0 (by decide)) | exact nz1 (nzF (by decide)) | exact nz1 (nzG (by decide)) | omega), eM_4, mset_ne (by first | exact nz1 (by decide) | exact nz2 (by decide) | exact nz1 (nzA hc0 (by decide)) | exact nz1 (nzE (by decide)) | exact nz1 (nzB hc0 (by decide)) | exact nz1 (nzC hc0 (by decide)) | exact nz1 (nzD hc0 (by decide)) | exact nz1 (nzF (by decide)) | exact nz1 (nzG (by decide)) | omega)]
          have c57i := congrArg Int32.toInt c57
          have n5 : 0 ≤ (M_5 c 7).toInt := by rw [c57]; exact hn.1
          have p5 : (M_5 19 3).toInt = (M 19 3).toInt + 1 := by rw [eM_5, mset_eq, eM_4, mset_ne (by first | exact nz1 (by decide) | exact nz2 (by decide) | exact nz1 (nzA hc0 (by decide)) | exact nz1 (nzE (by decide)) | exact nz1 (nzB hc0 (by decide)) | exact nz1 (nzC hc0 (by decide)) | exact nz1 (nzD hc0 (by decide)) | exact nz1 (nzF (by decide)) | exact nz1 (nzG (by decide)) | omega)]; exact (i_up (by omega)).2
          refine wp_bind2 (o6_X3_order hc M_5 (nI 97) r_3) (fun M_6 he154 hq154 => ?_)
          obtain ⟨hg_M_6, hor_154, hon_154⟩ := hq154
          replace hor_154 : 0 ≤ (M_5 c 7).toInt → (M_5 c 7).toInt < 240 → sC M_6 c = emt (sC M_5 c) (unc (nI 97).toInt) r_3.toInt ∧ (M_6 c 7).toInt = (M_5 c 7).toInt + 1 := hor_154
          have := t_lit 97
          replace hon_154 : 0 ≤ (M_5 c 7).toInt → 0 ≤ (M_6 c 7).toInt := hon_154
          have := t_lit 97
          replace hg_M_6 : ∀ a i, ¬ (a = (c + 1) ∨ a = (c + 2) ∨ (a = c ∧ i = 7)) → M_6 a i = M_5 a i := by exact fun a i q0 => hg_M_6 a i (by omega)
          have o6 := (hor_154 (by omega) (by omega)).1
          have F6 : facD T (6 - v2.toInt).toNat (sC M c) = .inr (sC M_6 c) := by
            rw [facD_l (by show ¬ T (M 19 3).toInt = 91; rw [← hh_1]; exact c8) (by show dgt (T (M 19 3).toInt) = false; rw [← hh_1]; exact Bool.eq_false_iff.mpr (fun z => hd_64.mpr z c67)) (fun z => c106 (by rw [hix_98, hh_1]; exact z)), o6, un97, show sC M_5 c = fwd (sC M c) ((sC M c).1 + 1) from sc_fwd p5 c57 (fun j => by rw [eM_5, mset_ne (by first | exact nz1 (by decide) | exact nz2 (by decide) | exact nz1 (nzA hc0 (by decide)) | exact nz1 (nzE (by decide)) | exact nz1 (nzB hc0 (by decide)) | exact nz1 (nzC hc0 (by decide)) | exact nz1 (nzD hc0 (by decide)) | exact nz1 (nzF (by decide)) | exact nz1 (nzG (by decide)) | omega), eM_4, mset_ne (by first | exact nz1 (by decide) | exact nz2 (by decide) | exact nz1 (nzA hc0 (by decide)) | exact nz1 (nzE (by decide)) | exact nz1 (nzB hc0 (by decide)) | exact nz1 (nzC hc0 (by decide)) | exact nz1 (nzD hc0 (by decide)) | exact nz1 (nzF (by decide)) | exact nz1 (nzG (by decide)) | omega)]) (fun j => by rw [eM_5, mset_ne (by first | exact nz1 (by decide) | exact nz2 (by decide) | exact nz1 (nzA hc0 (by decide)) | exact nz1 (nzE (by decide)) | exact nz1 (nzB hc0 (by decide)) | exact nz1 (nzC hc0 (by decide)) | exact nz1 (nzD hc0 (by decide)) | exact nz1 (nzF (by decide)) | exact nz1 (nzG (by decide)) | omega), eM_4, mset_ne (by first | exact nz1 (by decide) | exact nz2 (by decide) | exact nz1 (nzA hc0 (by decide)) | exact nz1 (nzE (by decide)) | exact nz1 (nzB hc0 (by decide)) | exact nz1 (nzC hc0 (by decide)) | exact nz1 (nzD hc0 (by decide)) | exact nz1 (nzF (by decide)) | exact nz1 (nzG (by decide)) | omega)]), hix_98, hh_1]
            rfl
          exact wp_some ⟨b01_1, (fun a i q0 => ((hg_M_6 a i (fun z8 => q0 ((fun z9 => Or.elim z9 (fun h9 => Or.inr (Or.inr (Or.inl h9))) (fun z9 => Or.elim z9 (fun h9 => Or.inr (Or.inr (Or.inr (Or.inl h9)))) (fun h9 => Or.inr (Or.inr (Or.inr (Or.inr (Or.inl h9))))))) z8))).trans ((congrFun (congrFun eM_5 a) i).trans ((mset_ne (fun h9 => q0 (Or.inl h9))).trans ((congrFun (congrFun eM_4 a) i).trans ((mset_ne (fun h9 => q0 (Or.inr (Or.inr (Or.inr (Or.inr (Or.inr (h9)))))))).trans rfl)))))), (by show (M_6 c 9).toInt = 0 ∨ (M_6 c 9).toInt = 1; have f0 := congrArg Int32.toInt (hg_M_6 c 9 (by omega)); have f1 := congrArg Int32.toInt ((congrFun (congrFun eM_5 c) 9).trans (mset_ne (by first | exact nz1 (by decide) | exact nz2 (by decide) | exact nz1 (nzA hc0 (by decide)) | exact nz1 (nzE (by decide)) | exact nz1 (nzB hc0 (by decide)) | exact nz1 (nzC hc0 (by decide)) | exact nz1 (nzD hc0 (by decide)) | exact nz1 (nzF (by decide)) | exact nz1 (nzG (by decide)) | omega))); have f2 := congrArg Int32.toInt ((congrFun (congrFun eM_4 c) 9).trans mset_eq); have f3 := t_lit 1; omega), (hon_154 n5), (by show LwP (facD T (6 - v2.toInt).toNat (sC M c)) (nI 1).toInt (M_6 19 4).toInt (sC M_6 c); rw [F6]; exact ⟨ne1, rfl⟩), (fun _ => bds_of (facD_rm (ends_c hT) _ _ _ F6) hn (hon_154 n5))⟩
        refine wp_ite (fun c127 => ?_) (fun c127 => ?_)
        · exact j135 (nI 1) b01_1
        · exact j135 (nI 0) b01_0
    · refine wp_cb2 (o5_X7_number M (nI 5) T hT (by decide) hp) (fun r_9 M_10 he72 hq72 => ?_)
      obtain ⟨hg_M_10, hn_72⟩ := hq72
      replace hn_72 : NumP (numS T (M 19 3).toInt (ix (nI 5))) r_9.toInt (M_10 19 4).toInt (M_10 19 3).toInt (M 19 3).toInt (M 19 2).toInt := hn_72
      have := t_lit 5
      replace hg_M_10 : ∀ a i, ¬ ((a = 19 ∧ i = 3) ∨ (a = 19 ∧ i = 4)) → M_10 a i = M a i := hg_M_10
      rw [show ix (nI 5) = 5 from (by decide)] at hn_72
      have c107 : M_10 c 7 = M c 7 := hg_M_10 c 7 (by omega)
      have n10 : 0 ≤ (M_10 c 7).toInt := by rw [c107]; exact hn.1
      refine wp_bind2 (o6_X3_order hc M_10 (nI 48) r_9) (fun M_11 he82 hq82 => ?_)
      obtain ⟨hg_M_11, hor_82, hon_82⟩ := hq82
      replace hor_82 : 0 ≤ (M_10 c 7).toInt → (M_10 c 7).toInt < 240 → sC M_11 c = emt (sC M_10 c) (unc (nI 48).toInt) r_9.toInt ∧ (M_11 c 7).toInt = (M_10 c 7).toInt + 1 := hor_82
      have := t_lit 48
      replace hon_82 : 0 ≤ (M_10 c 7).toInt → 0 ≤ (M_11 c 7).toInt := hon_82
      have := t_lit 48
      replace hg_M_11 : ∀ a i, ¬ (a = (c + 1) ∨ a = (c + 2) ∨ (a = c ∧ i = 7)) → M_11 a i = M_10 a i := by exact fun a i q0 => hg_M_11 a i (by omega)
      refine wp_ite (fun c88 => ?_) (fun c88 => ?_)
      · exact wp_some ⟨b01_0, (fun a i q0 => ((hg_M_11 a i (fun z8 => q0 ((fun z9 => Or.elim z9 (fun h9 => Or.inr (Or.inr (Or.inl h9))) (fun z9 => Or.elim z9 (fun h9 => Or.inr (Or.inr (Or.inr (Or.inl h9)))) (fun h9 => Or.inr (Or.inr (Or.inr (Or.inr (Or.inl h9))))))) z8))).trans ((hg_M_10 a i (fun z8 => q0 ((fun z9 => Or.elim z9 (fun h9 => Or.inl h9) (fun h9 => Or.inr (Or.inl h9))) z8))).trans rfl))), (by show (M_11 c 9).toInt = 0 ∨ (M_11 c 9).toInt = 1; have f0 := congrArg Int32.toInt (hg_M_11 c 9 (by omega)); have f1 := congrArg Int32.toInt (hg_M_10 c 9 (by omega)); have f2 := t_lit 0; omega), (hon_82 n10), (by show LwP (facD T (6 - v2.toInt).toNat (sC M c)) (nI 0).toInt (M_11 19 4).toInt (sC M_11 c); rw [facD_n (by show ¬ T (M 19 3).toInt = 91; rw [← hh_1]; exact c8) (by show dgt (T (M 19 3).toInt) = true; rw [← hh_1]; exact hd_64.mp c67)]; unfold numC; rw [show numS T (sC M c).1 5 = _ from numP_f hn_72 c88]; exact ⟨nI0, congrArg Int32.toInt (hg_M_11 19 4 (by omega))⟩), (fun z => absurd nI0 z)⟩
      · obtain ⟨n1, n2, n3, n4, n5⟩ := numP_v hn_72 c88
        have c107i := congrArg Int32.toInt c107
        have o11 := (hor_82 (by omega) (by omega)).1
        have F11 : facD T (6 - v2.toInt).toNat (sC M c) = .inr (sC M_11 c) := by
          rw [facD_n (by show ¬ T (M 19 3).toInt = 91; rw [← hh_1]; exact c8) (by show dgt (T (M 19 3).toInt) = true; rw [← hh_1]; exact hd_64.mp c67), o11, un48, show sC M_10 c = fwd (sC M c) (M_10 19 3).toInt from sc_fwd rfl (hg_M_10 c 7 (by omega)) (fun j => hg_M_10 (c + 1) j (by omega)) (fun j => hg_M_10 (c + 2) j (by omega))]
          unfold numC
          rw [show numS T (sC M c).1 5 = _ from n1]
        exact wp_some ⟨b01_1, (fun a i q0 => ((hg_M_11 a i (fun z8 => q0 ((fun z9 => Or.elim z9 (fun h9 => Or.inr (Or.inr (Or.inl h9))) (fun z9 => Or.elim z9 (fun h9 => Or.inr (Or.inr (Or.inr (Or.inl h9)))) (fun h9 => Or.inr (Or.inr (Or.inr (Or.inr (Or.inl h9))))))) z8))).trans ((hg_M_10 a i (fun z8 => q0 ((fun z9 => Or.elim z9 (fun h9 => Or.inl h9) (fun h9 => Or.inr (Or.inl h9))) z8))).trans rfl))), (by show (M_11 c 9).toInt = 0 ∨ (M_11 c 9).toInt = 1; have f0 := congrArg Int32.toInt (hg_M_11 c 9 (by omega)); have f1 := congrArg Int32.toInt (hg_M_10 c 9 (by omega)); have f2 := t_lit 1; omega), (hon_82 n10), (by show LwP (facD T (6 - v2.toInt).toNat (sC M c)) (nI 1).toInt (M_11 19 4).toInt (sC M_11 c); rw [F11]; exact ⟨ne1, rfl⟩), (fun _ => bds_of (facD_rm (ends_c hT) _ _ _ F11) hn (hon_82 n10))⟩
theorem og6_sum {c : Nat} (hc : isL c) : ∀ (n : Nat) (K : Int) (M : Mem) (v2 : Int32), 0 ≤ K → 7 - K ≤ n → ∀ (T : Int → Int) (_ : TXc M = T) (_ : K ≤ v2.toInt ∧ v2.toInt ≤ 6) (_ : (M c 9).toInt = 0 ∨ (M c 9).toInt = 1) (_ : 0 ≤ (M 19 3).toInt ∧ (M 19 3).toInt ≤ (M 19 2).toInt ∧ (M 19 2).toInt ≤ 240) (_ : 0 ≤ (M c 7).toInt ∧ (M c 7).toInt ≤ (M 19 3).toInt), Wp (g_sum c n M v2) (fun q => (q.1 = 0 ∨ q.1 = 1) ∧ (∀ a i, ¬ ((a = 19 ∧ i = 3) ∨ (a = 19 ∧ i = 4) ∨ a = (c + 1) ∨ a = (c + 2) ∨ (a = c ∧ i = 7) ∨ (a = c ∧ i = 9)) → q.2 a i = M a i) ∧ ((q.2 c 9).toInt = 0 ∨ (q.2 c 9).toInt = 1) ∧ (0 ≤ (q.2 c 7).toInt) ∧ (LwP (sumD T (6 - v2.toInt).toNat (sC M c)) q.1.toInt (q.2 19 4).toInt (sC q.2 c)) ∧ (BdI q.1.toInt M q.2 c))
  | 0 => fun K M v2 h0 h1 T hT h2 _ _ _ => absurd h1 (by omega)
  | n + 1 => fun K M v2 h0 h1 T hT h2 hb hp hn => o6_X3_compileSum hc (KS := K) (fun M v T hT h hb hp hn => o6_X3_compileFactor hc (KS := K + 1) (fun M w T hT h3 hb hp hn => og6_sum hc n (K + 1) M w (by omega) (by omega) T hT h3 hb hp hn) M v T hT (by omega) hb hp hn) M v2 T hT h2 hb hp hn
theorem og6_sum8 {c : Nat} (hc : isL c) (M : Mem) (v2 : Int32) (T : Int → Int) (hT : TXc M = T) (ho : 0 ≤ v2.toInt ∧ v2.toInt ≤ 6) (hb : (M c 9).toInt = 0 ∨ (M c 9).toInt = 1) (hp : 0 ≤ (M 19 3).toInt ∧ (M 19 3).toInt ≤ (M 19 2).toInt ∧ (M 19 2).toInt ≤ 240) (hn : 0 ≤ (M c 7).toInt ∧ (M c 7).toInt ≤ (M 19 3).toInt) : Wp (g_sum c 8 M v2) (fun q => (q.1 = 0 ∨ q.1 = 1) ∧ (∀ a i, ¬ ((a = 19 ∧ i = 3) ∨ (a = 19 ∧ i = 4) ∨ a = (c + 1) ∨ a = (c + 2) ∨ (a = c ∧ i = 7) ∨ (a = c ∧ i = 9)) → q.2 a i = M a i) ∧ ((q.2 c 9).toInt = 0 ∨ (q.2 c 9).toInt = 1) ∧ (0 ≤ (q.2 c 7).toInt) ∧ (LwP (sumD T (6 - v2.toInt).toNat (sC M c)) q.1.toInt (q.2 19 4).toInt (sC q.2 c)) ∧ (BdI q.1.toInt M q.2 c)) := og6_sum hc 8 0 M v2 (by omega) (by omega) T hT ho hb hp hn
set_option maxHeartbeats 8000000 in
theorem o6_X3_compileChoice {c : Nat} (hc : isL c) {KS : Int} {S_X3_compileTest : Mem → Int32 → Option (Int32 × Mem)} (hS_X3_compileTest : ∀ (M : Mem) (v2 : Int32) (T : Int → Int) (hT : TXc M = T) (ho : KS ≤ v2.toInt ∧ v2.toInt ≤ 6) (hb : (M c 9).toInt = 0 ∨ (M c 9).toInt = 1) (hp : 0 ≤ (M 19 3).toInt ∧ (M 19 3).toInt ≤ (M 19 2).toInt ∧ (M 19 2).toInt ≤ 240) (hn : 0 ≤ (M c 7).toInt ∧ (M c 7).toInt ≤ (M 19 3).toInt), Wp (S_X3_compileTest M v2) (fun q => (q.1 = 0 ∨ q.1 = 1) ∧ (∀ a i, ¬ ((a = 19 ∧ i = 3) ∨ (a = 19 ∧ i = 4) ∨ a = (c + 1) ∨ a = (c + 2) ∨ (a = c ∧ i = 7) ∨ (a = c ∧ i = 9)) → q.2 a i = M a i) ∧ ((q.2 c 9).toInt = 0 ∨ (q.2 c 9).toInt = 1) ∧ (0 ≤ (q.2 c 7).toInt) ∧ (LwP (tstD T (6 - v2.toInt).toNat (sC M c)) q.1.toInt (q.2 19 4).toInt (sC q.2 c)) ∧ (BdI q.1.toInt M q.2 c))) (M : Mem) (v2 : Int32) (T : Int → Int) (hT : TXc M = T) (ho : (KS ≤ v2.toInt ∧ v2.toInt ≤ 6) ∧ 0 ≤ v2.toInt) (hb : (M c 9).toInt = 0 ∨ (M c 9).toInt = 1) (hp : 0 ≤ (M 19 3).toInt ∧ (M 19 3).toInt ≤ (M 19 2).toInt ∧ (M 19 2).toInt ≤ 240) (hn : 0 ≤ (M c 7).toInt ∧ (M c 7).toInt ≤ (M 19 3).toInt) : Wp (f_X3_compileChoice S_X3_compileTest c M v2) (fun q => (q.1 = 0 ∨ q.1 = 1) ∧ (∀ a i, ¬ ((a = 19 ∧ i = 3) ∨ (a = 19 ∧ i = 4) ∨ a = (c + 1) ∨ a = (c + 2) ∨ (a = c ∧ i = 7) ∨ (a = c ∧ i = 9)) → q.2 a i = M a i) ∧ ((q.2 c 9).toInt = 0 ∨ (q.2 c 9).toInt = 1) ∧ (0 ≤ (q.2 c 7).toInt) ∧ (LwP (choD T (6 - v2.toInt).toNat (sC M c)) q.1.toInt (q.2 19 4).toInt (sC q.2 c)) ∧ (BdI q.1.toInt M q.2 c)) := by
  have hc0 : c = 44 ∨ c = 52 := hc
  refine wp_lp4 (fun M8 y3_8 y4_8 y5_8 => (0 ≤ y5_8.toInt) ∧ (∀ a i, ¬ ((a = 19 ∧ i = 3) ∨ (a = 19 ∧ i = 4) ∨ a = (c + 1) ∨ a = (c + 2) ∨ (a = c ∧ i = 7) ∨ (a = c ∧ i = 9)) → M8 a i = M a i) ∧ ((M8 c 9).toInt = 0 ∨ (M8 c 9).toInt = 1) ∧ (choD T (6 - v2.toInt).toNat (sC M c) = choL T (tstD T (6 - v2.toInt).toNat) (240 - ix y5_8) (jo y3_8) (jo y4_8) (sC M8 c)) ∧ ((0 ≤ (M8 c 7).toInt ∧ (M8 c 7).toInt ≤ (M8 19 3).toInt) ∧ (M8 19 3).toInt ≤ (M 19 2).toInt ∧ y3_8.toInt < (M8 c 7).toInt ∧ y4_8.toInt < (M8 c 7).toInt)) (fun M8 y3_8 y4_8 y5_8 => (240 - y5_8.toInt).toNat) (fun ag8 M8 y3_8 y4_8 y5_8 hI8 ih8 => ?_) FU M (-1) (-1) (nI 0) ⟨(by have f0 := t_lit 0; omega), (fun _ _ _ => rfl), hb, (by rw [show ix (nI 0) = 0 from (by decide), jo_n (show (-1 : Int32).toInt < 0 by decide)]; rfl), ⟨hn, by omega, by have f1 : (-1 : Int32).toInt = -1 := (by decide); omega, by have f1 : (-1 : Int32).toInt = -1 := (by decide); omega⟩⟩ (fu_lt (by have f0 := t_lit 0; omega))
  obtain ⟨hi8, hf_M8, hb8, hI8, hr8⟩ := hI8
  have e82 : M8 19 2 = M 19 2 := hf_M8 19 2 (by omega)
  have e82i := congrArg Int32.toInt e82
  have hT8 : TXc M8 = T := (txc_fr e82 (fun j => hf_M8 20 j (by omega))).trans hT
  have fy5 := t_ixn y5_8 (by omega)
  have j99 : (240 ≤ y5_8.toInt) → Wp (f_X3_compileChoice_L99 M8) (fun q => (q.1 = 0 ∨ q.1 = 1) ∧ (∀ a i, ¬ ((a = 19 ∧ i = 3) ∨ (a = 19 ∧ i = 4) ∨ a = (c + 1) ∨ a = (c + 2) ∨ (a = c ∧ i = 7) ∨ (a = c ∧ i = 9)) → q.2 a i = M a i) ∧ ((q.2 c 9).toInt = 0 ∨ (q.2 c 9).toInt = 1) ∧ (0 ≤ (q.2 c 7).toInt) ∧ (LwP (choD T (6 - v2.toInt).toNat (sC M c)) q.1.toInt (q.2 19 4).toInt (sC q.2 c)) ∧ (BdI q.1.toInt M q.2 c)) := by
    intro h99
    unfold f_X3_compileChoice_L99
    refine wp_cb2 (o5_X7_refuse M8 (nI 1) (M8 19 3)) (fun r_1 M_2 he105 hq105 => ?_)
    obtain ⟨hz_r_1, hg_M_2, hw_105, hq_105⟩ := hq105
    replace hw_105 : r_1.toInt = 0 := hw_105
    have := t_lit 1
    replace hq_105 : 0 ≤ (nI 1).toInt → (nI 1).toInt ≤ 9 → 0 ≤ (M8 19 3).toInt → (M8 19 3).toInt ≤ 1000 → (M_2 19 4).toInt = -1000 * (nI 1).toInt - (M8 19 3).toInt := hq_105
    have := t_lit 1
    replace hg_M_2 : ∀ a i, ¬ ((a = 19 ∧ i = 4)) → M_2 a i = M8 a i := hg_M_2
    refine wp_gb hz_r_1 ?_
    exact wp_some ⟨hz_r_1, (fun a i q0 => ((hg_M_2 a i (fun h9 => q0 (Or.inr (Or.inl h9)))).trans ((hf_M8 a i (fun z8 => q0 ((fun z9 => Or.elim z9 (fun h9 => Or.inl h9) (fun z9 => Or.elim z9 (fun h9 => Or.inr (Or.inl h9)) (fun z9 => Or.elim z9 (fun h9 => Or.inr (Or.inr (Or.inl h9))) (fun z9 => Or.elim z9 (fun h9 => Or.inr (Or.inr (Or.inr (Or.inl h9)))) (fun z9 => Or.elim z9 (fun h9 => Or.inr (Or.inr (Or.inr (Or.inr (Or.inl h9))))) (fun h9 => Or.inr (Or.inr (Or.inr (Or.inr (Or.inr (h9))))))))))) z8))).trans rfl))), (by show (M_2 c 9).toInt = 0 ∨ (M_2 c 9).toInt = 1; have f0 := congrArg Int32.toInt (hg_M_2 c 9 (by omega)); omega), (by show 0 ≤ (M_2 c 7).toInt; rw [hg_M_2 c 7 (by omega)]; exact hr8.1.1), (by show LwP (choD T (6 - v2.toInt).toNat (sC M c)) r_1.toInt (M_2 19 4).toInt (sC M_2 c); rw [hI8, show 240 - ix y5_8 = 0 from (by omega), choL_0]; exact ⟨hw_105, by rw [hq_105 (by decide) (by decide) (by omega) (by omega)]; have := t_lit 1; show _ = -1000 - (M8 19 3).toInt; omega⟩), (fun z => absurd hw_105 z)⟩
  refine wp_ite (fun c13 => ?_) (fun c13 => ?_)
  · exact j99 (by omega)
  · have hk : 240 - ix y5_8 = (239 - ix y5_8) + 1 := by omega
    rw [hk, choL_s] at hI8
    have i5 := i_up (x := y5_8) (by omega)
    refine wp_cb2 (hS_X3_compileTest M8 v2 T hT8 ho.1 hb8 (by omega) (by omega)) (fun r_3 M_4 he19 hq19 => ?_)
    obtain ⟨hz_r_3, hg_M_4, hb_19, hn0_19, hq_19, hB_19⟩ := hq19
    replace hb_19 : (M_4 c 9).toInt = 0 ∨ (M_4 c 9).toInt = 1 := hb_19
    replace hn0_19 : 0 ≤ (M_4 c 7).toInt := hn0_19
    replace hq_19 : LwP (tstD T (6 - v2.toInt).toNat (sC M8 c)) r_3.toInt (M_4 19 4).toInt (sC M_4 c) := hq_19
    replace hB_19 : BdI r_3.toInt M8 M_4 c := hB_19
    replace hg_M_4 : ∀ a i, ¬ ((a = 19 ∧ i = 3) ∨ (a = 19 ∧ i = 4) ∨ a = (c + 1) ∨ a = (c + 2) ∨ (a = c ∧ i = 7) ∨ (a = c ∧ i = 9)) → M_4 a i = M8 a i := hg_M_4
    have e42 : M_4 19 2 = M 19 2 := by rw [hg_M_4 19 2 (by omega), e82]
    have e42i := congrArg Int32.toInt e42
    have hT4 : TXc M_4 = T := (txc_fr (hg_M_4 19 2 (by omega)) (fun j => hg_M_4 20 j (by omega))).trans hT8
    refine wp_ite (fun c22 => ?_) (fun c22 => ?_)
    · exact wp_some ⟨b01_0, (fun a i q0 => ((hg_M_4 a i (fun z8 => q0 ((fun z9 => Or.elim z9 (fun h9 => Or.inl h9) (fun z9 => Or.elim z9 (fun h9 => Or.inr (Or.inl h9)) (fun z9 => Or.elim z9 (fun h9 => Or.inr (Or.inr (Or.inl h9))) (fun z9 => Or.elim z9 (fun h9 => Or.inr (Or.inr (Or.inr (Or.inl h9)))) (fun z9 => Or.elim z9 (fun h9 => Or.inr (Or.inr (Or.inr (Or.inr (Or.inl h9))))) (fun h9 => Or.inr (Or.inr (Or.inr (Or.inr (Or.inr (h9))))))))))) z8))).trans ((hf_M8 a i (fun z8 => q0 ((fun z9 => Or.elim z9 (fun h9 => Or.inl h9) (fun z9 => Or.elim z9 (fun h9 => Or.inr (Or.inl h9)) (fun z9 => Or.elim z9 (fun h9 => Or.inr (Or.inr (Or.inl h9))) (fun z9 => Or.elim z9 (fun h9 => Or.inr (Or.inr (Or.inr (Or.inl h9)))) (fun z9 => Or.elim z9 (fun h9 => Or.inr (Or.inr (Or.inr (Or.inr (Or.inl h9))))) (fun h9 => Or.inr (Or.inr (Or.inr (Or.inr (Or.inr (h9))))))))))) z8))).trans rfl))), (by show (M_4 c 9).toInt = 0 ∨ (M_4 c 9).toInt = 1; have f0 := t_lit 0; omega), hn0_19, (by show LwP (choD T (6 - v2.toInt).toNat (sC M c)) (nI 0).toInt (M_4 19 4).toInt (sC M_4 c); rw [hI8]; exact lwp_b (lwp_f hq_19 c22) nI0 rfl), (fun z => absurd nI0 z)⟩
    · have v19 := lwp_v hq_19 c22
      obtain ⟨B1, B2, B3, B4⟩ := hB_19 c22
      rw [e82] at B3
      rw [v19, bnS_r] at hI8
      have mn := tstD_mn _ _ _ v19
      have mn2 : (M8 c 7).toInt ≤ (M_4 c 7).toInt := by
        have f1 := t_ixn (M8 c 7) hr8.1.1
        have f2 := t_ixn (M_4 c 7) B1.1
        have f3 : ix (M8 c 7) ≤ ix (M_4 c 7) := mn
        omega
      refine wp_bind2 (o6_X3_landHere hc M_4 y3_8) (fun M_5 he29 hq29 => ?_)
      obtain ⟨hg_M_5, hl1_29, hl2_29⟩ := hq29
      replace hl1_29 : y3_8.toInt < 0 → sC M_5 c = sC M_4 c := hl1_29
      replace hl2_29 : 0 ≤ y3_8.toInt → y3_8.toInt < (M_4 c 7).toInt → (M_4 c 7).toInt ≤ 240 → sC M_5 c = lnd (sC M_4 c) (some (ix y3_8)) := hl2_29
      replace hg_M_5 : ∀ a i, ¬ (a = (c + 2)) → M_5 a i = M_4 a i := by exact fun a i q0 => hg_M_5 a i (by omega)
      have l5 : sC M_5 c = lnd (sC M_4 c) (jo y3_8) := ld_is hl1_29 (fun z => hl2_29 z (by omega) (by omega))
      have c57 : M_5 c 7 = M_4 c 7 := hg_M_5 c 7 (by omega)
      have c57i := congrArg Int32.toInt c57
      have p53 : M_5 19 3 = M_4 19 3 := hg_M_5 19 3 (by omega)
      have p53i := congrArg Int32.toInt p53
      have hT5 : TXc M_5 = T := (txc_fr (hg_M_5 19 2 (by omega)) (fun j => hg_M_5 20 j (by omega))).trans hT4
      have e52i := congrArg Int32.toInt (hg_M_5 19 2 (by omega))
      refine wp_bind2 (o5_X7_here M_5 T hT5 (by omega)) (fun r_6 he35 hq35 => ?_)
      have hh_35 := hq35
      replace hh_35 : r_6.toInt = T (M_5 19 3).toInt := hh_35
      have hr6 : r_6.toInt = T (sC M_4 c).1 := by rw [hh_35, p53]; rfl
      have j76 : ∀ (N76 : Mem), ∀ (z3_76 : Int32), ∀ (z4_76 : Int32), (∀ a i, ¬ (a = (c + 2)) → N76 a i = M_5 a i) → (choD T (6 - v2.toInt).toNat (sC M c) = choL T (tstD T (6 - v2.toInt).toNat) (239 - ix y5_8) (jo z3_76) (jo z4_76) (fwd (emt (sC N76 c) (unc r_6.toInt) 0) ((N76 19 3).toInt + 1)) ∧ (0 ≤ (N76 c 7).toInt ∧ (N76 c 7).toInt ≤ (N76 19 3).toInt) ∧ (N76 19 3).toInt < (M 19 2).toInt ∧ z3_76.toInt ≤ (N76 c 7).toInt ∧ z4_76.toInt ≤ (N76 c 7).toInt) → ((N76 c 9).toInt = 0 ∨ (N76 c 9).toInt = 1) → Wp (f_X3_compileChoice_L76 c ag8 y5_8 r_6 N76 z3_76 z4_76) (fun q => (q.1 = 0 ∨ q.1 = 1) ∧ (∀ a i, ¬ ((a = 19 ∧ i = 3) ∨ (a = 19 ∧ i = 4) ∨ a = (c + 1) ∨ a = (c + 2) ∨ (a = c ∧ i = 7) ∨ (a = c ∧ i = 9)) → q.2 a i = M a i) ∧ ((q.2 c 9).toInt = 0 ∨ (q.2 c 9).toInt = 1) ∧ (0 ≤ (q.2 c 7).toInt) ∧ (LwP (choD T (6 - v2.toInt).toNat (sC M c)) q.1.toInt (q.2 19 4).toInt (sC q.2 c)) ∧ (BdI q.1.toInt M q.2 c)) := by
        intro N76 z3_76 z4_76 hf_N76 h76 hb76
        unfold f_X3_compileChoice_L76
        obtain ⟨x1, x2, x3, x4, x5⟩ := h76
        refine wp_bind2 (o6_X3_order hc N76 r_6 (nI 0)) (fun M_7 he80 hq80 => ?_)
        obtain ⟨hg_M_7, hor_80, hon_80⟩ := hq80
        replace hor_80 : 0 ≤ (N76 c 7).toInt → (N76 c 7).toInt < 240 → sC M_7 c = emt (sC N76 c) (unc r_6.toInt) (nI 0).toInt ∧ (M_7 c 7).toInt = (N76 c 7).toInt + 1 := hor_80
        have := t_lit 0
        replace hon_80 : 0 ≤ (N76 c 7).toInt → 0 ≤ (M_7 c 7).toInt := hon_80
        have := t_lit 0
        replace hg_M_7 : ∀ a i, ¬ (a = (c + 1) ∨ a = (c + 2) ∨ (a = c ∧ i = 7)) → M_7 a i = N76 a i := by exact fun a i q0 => hg_M_7 a i (by omega)
        have o7 := hor_80 (by omega) (by omega)
        have g73 : M_7 19 3 = N76 19 3 := hg_M_7 19 3 (by omega)
        have g73i := congrArg Int32.toInt g73
        refine wp_bnd (fun M_8 eM_8 => ?_)
        have p8 : (M_8 19 3).toInt = (N76 19 3).toInt + 1 := by rw [eM_8, mset_eq, ← g73]; exact (i_up (by omega)).2
        have c87 : M_8 c 7 = M_7 c 7 := by rw [eM_8, mset_ne (by first | exact nz1 (by decide) | exact nz2 (by decide) | exact nz1 (nzA hc0 (by decide)) | exact nz1 (nzE (by decide)) | exact nz1 (nzB hc0 (by decide)) | exact nz1 (nzC hc0 (by decide)) | exact nz1 (nzD hc0 (by decide)) | exact nz1 (nzF (by decide)) | exact nz1 (nzG (by decide)) | omega)]
        have c87i := congrArg Int32.toInt c87
        have s8 : sC M_8 c = fwd (sC M_7 c) ((N76 19 3).toInt + 1) := sc_fwd p8 (by rw [eM_8, mset_ne (by first | exact nz1 (by decide) | exact nz2 (by decide) | exact nz1 (nzA hc0 (by decide)) | exact nz1 (nzE (by decide)) | exact nz1 (nzB hc0 (by decide)) | exact nz1 (nzC hc0 (by decide)) | exact nz1 (nzD hc0 (by decide)) | exact nz1 (nzF (by decide)) | exact nz1 (nzG (by decide)) | omega)]) (fun j => by rw [eM_8, mset_ne (by first | exact nz1 (by decide) | exact nz2 (by decide) | exact nz1 (nzA hc0 (by decide)) | exact nz1 (nzE (by decide)) | exact nz1 (nzB hc0 (by decide)) | exact nz1 (nzC hc0 (by decide)) | exact nz1 (nzD hc0 (by decide)) | exact nz1 (nzF (by decide)) | exact nz1 (nzG (by decide)) | omega)]) (fun j => by rw [eM_8, mset_ne (by first | exact nz1 (by decide) | exact nz2 (by decide) | exact nz1 (nzA hc0 (by decide)) | exact nz1 (nzE (by decide)) | exact nz1 (nzB hc0 (by decide)) | exact nz1 (nzC hc0 (by decide)) | exact nz1 (nzD hc0 (by decide)) | exact nz1 (nzF (by decide)) | exact nz1 (nzG (by decide)) | omega)])
        exact ih8 M_8 z3_76 z4_76 (y5_8 + (nI 1)) ⟨(by have f0 := t_lit 1; have f1 := t_add y5_8 (nI 1); omega), (fun a i q0 => ((congrFun (congrFun eM_8 a) i).trans ((mset_ne (fun h9 => q0 (Or.inl h9))).trans ((hg_M_7 a i (fun z8 => q0 ((fun z9 => Or.elim z9 (fun h9 => Or.inr (Or.inr (Or.inl h9))) (fun z9 => Or.elim z9 (fun h9 => Or.inr (Or.inr (Or.inr (Or.inl h9)))) (fun h9 => Or.inr (Or.inr (Or.inr (Or.inr (Or.inl h9))))))) z8))).trans ((hf_N76 a i (fun h9 => q0 (Or.inr (Or.inr (Or.inr (Or.inl h9)))))).trans ((hg_M_5 a i (fun h9 => q0 (Or.inr (Or.inr (Or.inr (Or.inl h9)))))).trans ((hg_M_4 a i (fun z8 => q0 ((fun z9 => Or.elim z9 (fun h9 => Or.inl h9) (fun z9 => Or.elim z9 (fun h9 => Or.inr (Or.inl h9)) (fun z9 => Or.elim z9 (fun h9 => Or.inr (Or.inr (Or.inl h9))) (fun z9 => Or.elim z9 (fun h9 => Or.inr (Or.inr (Or.inr (Or.inl h9)))) (fun z9 => Or.elim z9 (fun h9 => Or.inr (Or.inr (Or.inr (Or.inr (Or.inl h9))))) (fun h9 => Or.inr (Or.inr (Or.inr (Or.inr (Or.inr (h9))))))))))) z8))).trans ((hf_M8 a i (fun z8 => q0 ((fun z9 => Or.elim z9 (fun h9 => Or.inl h9) (fun z9 => Or.elim z9 (fun h9 => Or.inr (Or.inl h9)) (fun z9 => Or.elim z9 (fun h9 => Or.inr (Or.inr (Or.inl h9))) (fun z9 => Or.elim z9 (fun h9 => Or.inr (Or.inr (Or.inr (Or.inl h9)))) (fun z9 => Or.elim z9 (fun h9 => Or.inr (Or.inr (Or.inr (Or.inr (Or.inl h9))))) (fun h9 => Or.inr (Or.inr (Or.inr (Or.inr (Or.inr (h9))))))))))) z8))).trans rfl)))))))), (by show (M_8 c 9).toInt = 0 ∨ (M_8 c 9).toInt = 1; rw [eM_8, mset_ne (by first | exact nz1 (by decide) | exact nz2 (by decide) | exact nz1 (nzA hc0 (by decide)) | exact nz1 (nzE (by decide)) | exact nz1 (nzB hc0 (by decide)) | exact nz1 (nzC hc0 (by decide)) | exact nz1 (nzD hc0 (by decide)) | exact nz1 (nzF (by decide)) | exact nz1 (nzG (by decide)) | omega), hg_M_7 c 9 (by omega)]; exact hb76), (by rw [x1, s8, o7.1, nI0, i5.1, show 240 - (ix y5_8 + 1) = 239 - ix y5_8 from (by omega)]), (by rw [p8, c87, o7.2]; omega)⟩ (by have f0 := t_lit 1; have f1 := t_add y5_8 (nI 1); omega)
      refine wp_ite (fun c44 => ?_) (fun c44 => ?_)
      · have in44 := tx_in hT4 (p := (M_4 19 3).toInt) (by rw [show T (M_4 19 3).toInt = r_6.toInt from hr6.symm]; omega)
        refine wp_bnd (fun x_11 ex_11 => ?_)
        have hv_x_11 := congrArg Int32.toInt ex_11
        exact j76 M_5 x_11 y4_8 (fun _ _ _ => rfl) ⟨by rw [hI8, choT_a (by rw [← hr6]; exact c44), l5, show unc r_6.toInt = 11 from by rw [c44]; decide, jo_y (show 0 ≤ x_11.toInt by rw [ex_11]; omega)]; rw [show (sC M_4 c).1 + 1 = (M_5 19 3).toInt + 1 from by rw [p53]; rfl, show ix x_11 = (sC M_4 c).2.1 from by rw [ex_11, c57]; rfl], by omega, by omega, by rw [ex_11]; omega, by omega⟩ (by have f0 := congrArg Int32.toInt (hg_M_5 c 9 (by omega)); omega)
      · refine wp_bind2 (o6_X3_landHere hc M_5 y4_8) (fun M_9 he58 hq58 => ?_)
        obtain ⟨hg_M_9, hl1_58, hl2_58⟩ := hq58
        replace hl1_58 : y4_8.toInt < 0 → sC M_9 c = sC M_5 c := hl1_58
        replace hl2_58 : 0 ≤ y4_8.toInt → y4_8.toInt < (M_5 c 7).toInt → (M_5 c 7).toInt ≤ 240 → sC M_9 c = lnd (sC M_5 c) (some (ix y4_8)) := hl2_58
        replace hg_M_9 : ∀ a i, ¬ (a = (c + 2)) → M_9 a i = M_5 a i := by exact fun a i q0 => hg_M_9 a i (by omega)
        have l9 : sC M_9 c = lnd (sC M_5 c) (jo y4_8) := ld_is hl1_58 (fun z => hl2_58 z (by omega) (by omega))
        have c97 : M_9 c 7 = M_4 c 7 := by rw [hg_M_9 c 7 (by omega), c57]
        have c97i := congrArg Int32.toInt c97
        have p93 : M_9 19 3 = M_4 19 3 := by rw [hg_M_9 19 3 (by omega), p53]
        have p93i := congrArg Int32.toInt p93
        refine wp_bnd (fun x_10 ex_10 => ?_)
        have hv_x_10 := congrArg Int32.toInt ex_10
        refine wp_ite (fun c71 => ?_) (fun c71 => ?_)
        · have in71 := tx_in hT4 (p := (M_4 19 3).toInt) (by rw [show T (M_4 19 3).toInt = r_6.toInt from hr6.symm]; omega)
          exact j76 M_9 (-1) x_10 (fun a i q0 => ((hg_M_9 a i (fun h9 => q0 (h9))).trans rfl)) ⟨by rw [hI8, choT_o (by rw [← hr6]; exact c44) (by rw [← hr6]; exact c71), l9, l5, show unc r_6.toInt = 12 from by rw [c71]; decide, jo_n (show (-1 : Int32).toInt < 0 by decide), jo_y (show 0 ≤ x_10.toInt by rw [ex_10]; omega)]; rw [show (sC M_4 c).1 + 1 = (M_9 19 3).toInt + 1 from by rw [p93]; rfl, show ix x_10 = (sC M_4 c).2.1 from by rw [ex_10, c97]; rfl], by omega, by omega, by have f1 : (-1 : Int32).toInt = -1 := (by decide); omega, by rw [ex_10]; omega⟩ (by have f0 := congrArg Int32.toInt (hg_M_5 c 9 (by omega)); have f1 := congrArg Int32.toInt (hg_M_9 c 9 (by omega)); omega)
        · have F9 : choD T (6 - v2.toInt).toNat (sC M c) = .inr (sC M_9 c) := by
            rw [hI8, choT_e (by rw [← hr6]; exact c44) (by rw [← hr6]; exact c71), l9, l5]
          exact wp_some ⟨b01_1, (fun a i q0 => ((hg_M_9 a i (fun h9 => q0 (Or.inr (Or.inr (Or.inr (Or.inl h9)))))).trans ((hg_M_5 a i (fun h9 => q0 (Or.inr (Or.inr (Or.inr (Or.inl h9)))))).trans ((hg_M_4 a i (fun z8 => q0 ((fun z9 => Or.elim z9 (fun h9 => Or.inl h9) (fun z9 => Or.elim z9 (fun h9 => Or.inr (Or.inl h9)) (fun z9 => Or.elim z9 (fun h9 => Or.inr (Or.inr (Or.inl h9))) (fun z9 => Or.elim z9 (fun h9 => Or.inr (Or.inr (Or.inr (Or.inl h9)))) (fun z9 => Or.elim z9 (fun h9 => Or.inr (Or.inr (Or.inr (Or.inr (Or.inl h9))))) (fun h9 => Or.inr (Or.inr (Or.inr (Or.inr (Or.inr (h9))))))))))) z8))).trans ((hf_M8 a i (fun z8 => q0 ((fun z9 => Or.elim z9 (fun h9 => Or.inl h9) (fun z9 => Or.elim z9 (fun h9 => Or.inr (Or.inl h9)) (fun z9 => Or.elim z9 (fun h9 => Or.inr (Or.inr (Or.inl h9))) (fun z9 => Or.elim z9 (fun h9 => Or.inr (Or.inr (Or.inr (Or.inl h9)))) (fun z9 => Or.elim z9 (fun h9 => Or.inr (Or.inr (Or.inr (Or.inr (Or.inl h9))))) (fun h9 => Or.inr (Or.inr (Or.inr (Or.inr (Or.inr (h9))))))))))) z8))).trans rfl))))), (by show (M_9 c 9).toInt = 0 ∨ (M_9 c 9).toInt = 1; have f0 := congrArg Int32.toInt (hg_M_9 c 9 (by omega)); have f1 := congrArg Int32.toInt (hg_M_5 c 9 (by omega)); have f2 := t_lit 1; omega), (by show 0 ≤ (M_9 c 7).toInt; omega), (by show LwP (choD T (6 - v2.toInt).toNat (sC M c)) (nI 1).toInt (M_9 19 4).toInt (sC M_9 c); rw [F9]; exact ⟨ne1, rfl⟩), (fun _ => bds_of (choD_rm (ends_c hT) _ _ _ F9) hn (by show 0 ≤ (M_9 c 7).toInt; omega))⟩
set_option maxHeartbeats 8000000 in
theorem o6_X3_compileTest {c : Nat} (hc : isL c) {KS : Int} {S_X3_compileTest : Mem → Int32 → Option (Int32 × Mem)} (hS_X3_compileTest : ∀ (M : Mem) (v2 : Int32) (T : Int → Int) (hT : TXc M = T) (ho : KS ≤ v2.toInt ∧ v2.toInt ≤ 6) (hb : (M c 9).toInt = 0 ∨ (M c 9).toInt = 1) (hp : 0 ≤ (M 19 3).toInt ∧ (M 19 3).toInt ≤ (M 19 2).toInt ∧ (M 19 2).toInt ≤ 240) (hn : 0 ≤ (M c 7).toInt ∧ (M c 7).toInt ≤ (M 19 3).toInt), Wp (S_X3_compileTest M v2) (fun q => (q.1 = 0 ∨ q.1 = 1) ∧ (∀ a i, ¬ ((a = 19 ∧ i = 3) ∨ (a = 19 ∧ i = 4) ∨ a = (c + 1) ∨ a = (c + 2) ∨ (a = c ∧ i = 7) ∨ (a = c ∧ i = 9)) → q.2 a i = M a i) ∧ ((q.2 c 9).toInt = 0 ∨ (q.2 c 9).toInt = 1) ∧ (0 ≤ (q.2 c 7).toInt) ∧ (LwP (tstD T (6 - v2.toInt).toNat (sC M c)) q.1.toInt (q.2 19 4).toInt (sC q.2 c)) ∧ (BdI q.1.toInt M q.2 c))) {S_X3_compileChoice : Mem → Int32 → Option (Int32 × Mem)} (hS_X3_compileChoice : ∀ (M : Mem) (v2 : Int32) (T : Int → Int) (hT : TXc M = T) (ho : KS ≤ v2.toInt ∧ v2.toInt ≤ 6) (hb : (M c 9).toInt = 0 ∨ (M c 9).toInt = 1) (hp : 0 ≤ (M 19 3).toInt ∧ (M 19 3).toInt ≤ (M 19 2).toInt ∧ (M 19 2).toInt ≤ 240) (hn : 0 ≤ (M c 7).toInt ∧ (M c 7).toInt ≤ (M 19 3).toInt), Wp (S_X3_compileChoice M v2) (fun q => (q.1 = 0 ∨ q.1 = 1) ∧ (∀ a i, ¬ ((a = 19 ∧ i = 3) ∨ (a = 19 ∧ i = 4) ∨ a = (c + 1) ∨ a = (c + 2) ∨ (a = c ∧ i = 7) ∨ (a = c ∧ i = 9)) → q.2 a i = M a i) ∧ ((q.2 c 9).toInt = 0 ∨ (q.2 c 9).toInt = 1) ∧ (0 ≤ (q.2 c 7).toInt) ∧ (LwP (choD T (6 - v2.toInt).toNat (sC M c)) q.1.toInt (q.2 19 4).toInt (sC q.2 c)) ∧ (BdI q.1.toInt M q.2 c))) (M : Mem) (v2 : Int32) (T : Int → Int) (hT : TXc M = T) (ho : KS ≤ v2.toInt + 1 ∧ 0 ≤ v2.toInt ∧ v2.toInt ≤ 6) (hb : (M c 9).toInt = 0 ∨ (M c 9).toInt = 1) (hp : 0 ≤ (M 19 3).toInt ∧ (M 19 3).toInt ≤ (M 19 2).toInt ∧ (M 19 2).toInt ≤ 240) (hn : 0 ≤ (M c 7).toInt ∧ (M c 7).toInt ≤ (M 19 3).toInt) : Wp (f_X3_compileTest S_X3_compileTest S_X3_compileChoice c M v2) (fun q => (q.1 = 0 ∨ q.1 = 1) ∧ (∀ a i, ¬ ((a = 19 ∧ i = 3) ∨ (a = 19 ∧ i = 4) ∨ a = (c + 1) ∨ a = (c + 2) ∨ (a = c ∧ i = 7) ∨ (a = c ∧ i = 9)) → q.2 a i = M a i) ∧ ((q.2 c 9).toInt = 0 ∨ (q.2 c 9).toInt = 1) ∧ (0 ≤ (q.2 c 7).toInt) ∧ (LwP (tstD T (6 - v2.toInt).toNat (sC M c)) q.1.toInt (q.2 19 4).toInt (sC q.2 c)) ∧ (BdI q.1.toInt M q.2 c)) := by
  have hc0 : c = 44 ∨ c = 52 := hc
  refine wp_bind2 (o5_X7_here M T hT hp) (fun r_1 he1 hq1 => ?_)
  have hh_1 := hq1
  replace hh_1 : r_1.toInt = T (M 19 3).toInt := hh_1
  have j17 : (r_1.toInt = 33 ∨ r_1.toInt = 40) → Wp (f_X3_compileTest_L17 S_X3_compileTest S_X3_compileChoice c M v2 r_1) (fun q => (q.1 = 0 ∨ q.1 = 1) ∧ (∀ a i, ¬ ((a = 19 ∧ i = 3) ∨ (a = 19 ∧ i = 4) ∨ a = (c + 1) ∨ a = (c + 2) ∨ (a = c ∧ i = 7) ∨ (a = c ∧ i = 9)) → q.2 a i = M a i) ∧ ((q.2 c 9).toInt = 0 ∨ (q.2 c 9).toInt = 1) ∧ (0 ≤ (q.2 c 7).toInt) ∧ (LwP (tstD T (6 - v2.toInt).toNat (sC M c)) q.1.toInt (q.2 19 4).toInt (sC q.2 c)) ∧ (BdI q.1.toInt M q.2 c)) := by
    intro h17
    unfold f_X3_compileTest_L17
    refine wp_ite (fun c20 => ?_) (fun c20 => ?_)
    · refine wp_bnd (fun M_2 eM_2 => ?_)
      have hin := tx_in hT (p := (M 19 3).toInt) (by rw [← hh_1]; omega)
      have p2 : (M_2 19 3).toInt = (M 19 3).toInt + 1 := by rw [eM_2, mset_eq]; exact (i_up (by omega)).2
      have eM_2_2 : M_2 19 2 = M 19 2 := by rw [eM_2, mset_ne (by first | exact nz1 (by decide) | exact nz2 (by decide) | exact nz1 (nzA hc0 (by decide)) | exact nz1 (nzE (by decide)) | exact nz1 (nzB hc0 (by decide)) | exact nz1 (nzC hc0 (by decide)) | exact nz1 (nzD hc0 (by decide)) | exact nz1 (nzF (by decide)) | exact nz1 (nzG (by decide)) | omega)]
      have eM_2_i := congrArg Int32.toInt eM_2_2
      have hT2 : TXc M_2 = T := (txc_fr (by rw [eM_2, mset_ne (by first | exact nz1 (by decide) | exact nz2 (by decide) | exact nz1 (nzA hc0 (by decide)) | exact nz1 (nzE (by decide)) | exact nz1 (nzB hc0 (by decide)) | exact nz1 (nzC hc0 (by decide)) | exact nz1 (nzD hc0 (by decide)) | exact nz1 (nzF (by decide)) | exact nz1 (nzG (by decide)) | omega)]) (fun j => by rw [eM_2, mset_ne (by first | exact nz1 (by decide) | exact nz2 (by decide) | exact nz1 (nzA hc0 (by decide)) | exact nz1 (nzE (by decide)) | exact nz1 (nzB hc0 (by decide)) | exact nz1 (nzC hc0 (by decide)) | exact nz1 (nzD hc0 (by decide)) | exact nz1 (nzF (by decide)) | exact nz1 (nzG (by decide)) | omega)])).trans hT
      have c2_7 : M_2 c 7 = M c 7 := by rw [eM_2, mset_ne (by first | exact nz1 (by decide) | exact nz2 (by decide) | exact nz1 (nzA hc0 (by decide)) | exact nz1 (nzE (by decide)) | exact nz1 (nzB hc0 (by decide)) | exact nz1 (nzC hc0 (by decide)) | exact nz1 (nzD hc0 (by decide)) | exact nz1 (nzF (by decide)) | exact nz1 (nzG (by decide)) | omega)]
      have c2_7i := congrArg Int32.toInt c2_7
      have b2 : (M_2 c 9).toInt = 0 ∨ (M_2 c 9).toInt = 1 := by rw [eM_2, mset_ne (by first | exact nz1 (by decide) | exact nz2 (by decide) | exact nz1 (nzA hc0 (by decide)) | exact nz1 (nzE (by decide)) | exact nz1 (nzB hc0 (by decide)) | exact nz1 (nzC hc0 (by decide)) | exact nz1 (nzD hc0 (by decide)) | exact nz1 (nzF (by decide)) | exact nz1 (nzG (by decide)) | omega)]; exact hb
      have s2 : sC M_2 c = fwd (sC M c) ((sC M c).1 + 1) := sc_fwd p2 (by rw [eM_2, mset_ne (by first | exact nz1 (by decide) | exact nz2 (by decide) | exact nz1 (nzA hc0 (by decide)) | exact nz1 (nzE (by decide)) | exact nz1 (nzB hc0 (by decide)) | exact nz1 (nzC hc0 (by decide)) | exact nz1 (nzD hc0 (by decide)) | exact nz1 (nzF (by decide)) | exact nz1 (nzG (by decide)) | omega)]) (fun j => by rw [eM_2, mset_ne (by first | exact nz1 (by decide) | exact nz2 (by decide) | exact nz1 (nzA hc0 (by decide)) | exact nz1 (nzE (by decide)) | exact nz1 (nzB hc0 (by decide)) | exact nz1 (nzC hc0 (by decide)) | exact nz1 (nzD hc0 (by decide)) | exact nz1 (nzF (by decide)) | exact nz1 (nzG (by decide)) | omega)]) (fun j => by rw [eM_2, mset_ne (by first | exact nz1 (by decide) | exact nz2 (by decide) | exact nz1 (nzA hc0 (by decide)) | exact nz1 (nzE (by decide)) | exact nz1 (nzB hc0 (by decide)) | exact nz1 (nzC hc0 (by decide)) | exact nz1 (nzD hc0 (by decide)) | exact nz1 (nzF (by decide)) | exact nz1 (nzG (by decide)) | omega)])
      have dv := t_inc v2 1 (by omega)
      have ed : (6 - (v2 + nI 1).toInt).toNat = (6 - v2.toInt).toNat - 1 := by omega
      refine wp_ite (fun c46 => ?_) (fun c46 => ?_)
      · refine wp_cb2 (hS_X3_compileChoice M_2 (v2 + (nI 1)) T hT2 (by omega) b2 (by omega) (by omega)) (fun r_6 M_7 he54 hq54 => ?_)
        obtain ⟨hz_r_6, hg_M_7, hb_54, hn0_54, hq_54, hB_54⟩ := hq54
        replace hb_54 : (M_7 c 9).toInt = 0 ∨ (M_7 c 9).toInt = 1 := hb_54
        replace hn0_54 : 0 ≤ (M_7 c 7).toInt := hn0_54
        replace hq_54 : LwP (choD T (6 - (v2 + (nI 1)).toInt).toNat (sC M_2 c)) r_6.toInt (M_7 19 4).toInt (sC M_7 c) := hq_54
        replace hB_54 : BdI r_6.toInt M_2 M_7 c := hB_54
        replace hg_M_7 : ∀ a i, ¬ ((a = 19 ∧ i = 3) ∨ (a = 19 ∧ i = 4) ∨ a = (c + 1) ∨ a = (c + 2) ∨ (a = c ∧ i = 7) ∨ (a = c ∧ i = 9)) → M_7 a i = M_2 a i := hg_M_7
        rw [s2, ed] at hq_54
        have e72 : M_7 19 2 = M 19 2 := by rw [hg_M_7 19 2 (by omega), eM_2_2]
        have e72i := congrArg Int32.toInt e72
        have hT7 : TXc M_7 = T := (txc_fr (hg_M_7 19 2 (by omega)) (fun j => hg_M_7 20 j (by omega))).trans hT2
        refine wp_ite (fun c57 => ?_) (fun c57 => ?_)
        · exact wp_some ⟨b01_0, (fun a i q0 => ((hg_M_7 a i (fun z8 => q0 ((fun z9 => Or.elim z9 (fun h9 => Or.inl h9) (fun z9 => Or.elim z9 (fun h9 => Or.inr (Or.inl h9)) (fun z9 => Or.elim z9 (fun h9 => Or.inr (Or.inr (Or.inl h9))) (fun z9 => Or.elim z9 (fun h9 => Or.inr (Or.inr (Or.inr (Or.inl h9)))) (fun z9 => Or.elim z9 (fun h9 => Or.inr (Or.inr (Or.inr (Or.inr (Or.inl h9))))) (fun h9 => Or.inr (Or.inr (Or.inr (Or.inr (Or.inr (h9))))))))))) z8))).trans ((congrFun (congrFun eM_2 a) i).trans ((mset_ne (fun h9 => q0 (Or.inl h9))).trans rfl)))), (by show (M_7 c 9).toInt = 0 ∨ (M_7 c 9).toInt = 1; have f0 := t_lit 0; omega), hn0_54, (by show LwP (tstD T (6 - v2.toInt).toNat (sC M c)) (nI 0).toInt (M_7 19 4).toInt (sC M_7 c); rw [tstD_p (show T (sC M c).1 = 40 by rw [show T (sC M c).1 = r_1.toInt from hh_1.symm]; exact c46) (by omega)]; exact lwp_b (lwp_f hq_54 c57) nI0 rfl), (fun z => absurd nI0 z)⟩
        · have v54 := lwp_v hq_54 c57
          obtain ⟨B1, B2, B3, B4⟩ := hB_54 c57
          rw [eM_2_2] at B3
          refine wp_cb2 (o5_X7_skip M_7 (nI 41) T hT7 (by omega) (by decide)) (fun r_8 M_9 he63 hq63 => ?_)
          obtain ⟨hz_r_8, hg_M_9, hs_63⟩ := hq63
          replace hs_63 : SkpP (T (M_7 19 3).toInt) (nI 41).toInt r_8.toInt (M_7 19 3).toInt (M_9 19 3).toInt (M_7 19 2).toInt (M_9 19 4).toInt := hs_63
          have := t_lit 41
          replace hg_M_9 : ∀ a i, ¬ ((a = 19 ∧ i = 3) ∨ (a = 19 ∧ i = 4)) → M_9 a i = M_7 a i := hg_M_9
          have n9 : 0 ≤ (M_9 c 7).toInt := by rw [hg_M_9 c 7 (by omega)]; exact B1.1
          refine wp_ite (fun c66 => ?_) (fun c66 => ?_)
          · exact wp_some ⟨b01_0, (fun a i q0 => ((hg_M_9 a i (fun z8 => q0 ((fun z9 => Or.elim z9 (fun h9 => Or.inl h9) (fun h9 => Or.inr (Or.inl h9))) z8))).trans ((hg_M_7 a i (fun z8 => q0 ((fun z9 => Or.elim z9 (fun h9 => Or.inl h9) (fun z9 => Or.elim z9 (fun h9 => Or.inr (Or.inl h9)) (fun z9 => Or.elim z9 (fun h9 => Or.inr (Or.inr (Or.inl h9))) (fun z9 => Or.elim z9 (fun h9 => Or.inr (Or.inr (Or.inr (Or.inl h9)))) (fun z9 => Or.elim z9 (fun h9 => Or.inr (Or.inr (Or.inr (Or.inr (Or.inl h9))))) (fun h9 => Or.inr (Or.inr (Or.inr (Or.inr (Or.inr (h9))))))))))) z8))).trans ((congrFun (congrFun eM_2 a) i).trans ((mset_ne (fun h9 => q0 (Or.inl h9))).trans rfl))))), (by show (M_9 c 9).toInt = 0 ∨ (M_9 c 9).toInt = 1; have f0 := congrArg Int32.toInt (hg_M_9 c 9 (by omega)); have f1 := t_lit 0; omega), n9, (by show LwP (tstD T (6 - v2.toInt).toNat (sC M c)) (nI 0).toInt (M_9 19 4).toInt (sC M_9 c); rw [tstD_p (show T (sC M c).1 = 40 by rw [show T (sC M c).1 = r_1.toInt from hh_1.symm]; exact c46) (by omega), v54, bnS_r, xpc_n (fun z => (skp_n hs_63 c66).1 (Eq.trans z (t_lit 41).symm))]; exact ⟨nI0, (skp_n hs_63 c66).2⟩), (fun z => absurd nI0 z)⟩
          · have F9 : tstD T (6 - v2.toInt).toNat (sC M c) = .inr (sC M_9 c) := by
              rw [tstD_p (show T (sC M c).1 = 40 by rw [show T (sC M c).1 = r_1.toInt from hh_1.symm]; exact c46) (by omega), v54, bnS_r, xpc_y (show T (M_7 19 3).toInt = 41 by rw [(skp_y hs_63 c66).1]; exact t_lit 41), show sC M_9 c = fwd (sC M_7 c) ((sC M_7 c).1 + 1) from sc_fwd (skp_y hs_63 c66).2.1 (hg_M_9 c 7 (by omega)) (fun j => hg_M_9 (c + 1) j (by omega)) (fun j => hg_M_9 (c + 2) j (by omega))]
            exact wp_some ⟨b01_1, (fun a i q0 => ((hg_M_9 a i (fun z8 => q0 ((fun z9 => Or.elim z9 (fun h9 => Or.inl h9) (fun h9 => Or.inr (Or.inl h9))) z8))).trans ((hg_M_7 a i (fun z8 => q0 ((fun z9 => Or.elim z9 (fun h9 => Or.inl h9) (fun z9 => Or.elim z9 (fun h9 => Or.inr (Or.inl h9)) (fun z9 => Or.elim z9 (fun h9 => Or.inr (Or.inr (Or.inl h9))) (fun z9 => Or.elim z9 (fun h9 => Or.inr (Or.inr (Or.inr (Or.inl h9)))) (fun z9 => Or.elim z9 (fun h9 => Or.inr (Or.inr (Or.inr (Or.inr (Or.inl h9))))) (fun h9 => Or.inr (Or.inr (Or.inr (Or.inr (Or.inr (h9))))))))))) z8))).trans ((congrFun (congrFun eM_2 a) i).trans ((mset_ne (fun h9 => q0 (Or.inl h9))).trans rfl))))), (by show (M_9 c 9).toInt = 0 ∨ (M_9 c 9).toInt = 1; have f0 := congrArg Int32.toInt (hg_M_9 c 9 (by omega)); have f1 := t_lit 1; omega), n9, (by show LwP (tstD T (6 - v2.toInt).toNat (sC M c)) (nI 1).toInt (M_9 19 4).toInt (sC M_9 c); rw [F9]; exact ⟨ne1, rfl⟩), (fun _ => bds_of (tstD_rm (ends_c hT) _ _ _ F9) hn n9)⟩
      · refine wp_cb2 (hS_X3_compileTest M_2 (v2 + (nI 1)) T hT2 (by omega) b2 (by omega) (by omega)) (fun r_3 M_4 he80 hq80 => ?_)
        obtain ⟨hz_r_3, hg_M_4, hb_80, hn0_80, hq_80, hB_80⟩ := hq80
        replace hb_80 : (M_4 c 9).toInt = 0 ∨ (M_4 c 9).toInt = 1 := hb_80
        replace hn0_80 : 0 ≤ (M_4 c 7).toInt := hn0_80
        replace hq_80 : LwP (tstD T (6 - (v2 + (nI 1)).toInt).toNat (sC M_2 c)) r_3.toInt (M_4 19 4).toInt (sC M_4 c) := hq_80
        replace hB_80 : BdI r_3.toInt M_2 M_4 c := hB_80
        replace hg_M_4 : ∀ a i, ¬ ((a = 19 ∧ i = 3) ∨ (a = 19 ∧ i = 4) ∨ a = (c + 1) ∨ a = (c + 2) ∨ (a = c ∧ i = 7) ∨ (a = c ∧ i = 9)) → M_4 a i = M_2 a i := hg_M_4
        rw [s2, ed] at hq_80
        refine wp_ite (fun c83 => ?_) (fun c83 => ?_)
        · exact wp_some ⟨b01_0, (fun a i q0 => ((hg_M_4 a i (fun z8 => q0 ((fun z9 => Or.elim z9 (fun h9 => Or.inl h9) (fun z9 => Or.elim z9 (fun h9 => Or.inr (Or.inl h9)) (fun z9 => Or.elim z9 (fun h9 => Or.inr (Or.inr (Or.inl h9))) (fun z9 => Or.elim z9 (fun h9 => Or.inr (Or.inr (Or.inr (Or.inl h9)))) (fun z9 => Or.elim z9 (fun h9 => Or.inr (Or.inr (Or.inr (Or.inr (Or.inl h9))))) (fun h9 => Or.inr (Or.inr (Or.inr (Or.inr (Or.inr (h9))))))))))) z8))).trans ((congrFun (congrFun eM_2 a) i).trans ((mset_ne (fun h9 => q0 (Or.inl h9))).trans rfl)))), (by show (M_4 c 9).toInt = 0 ∨ (M_4 c 9).toInt = 1; have f0 := t_lit 0; omega), hn0_80, (by show LwP (tstD T (6 - v2.toInt).toNat (sC M c)) (nI 0).toInt (M_4 19 4).toInt (sC M_4 c); rw [tstD_x (show T (sC M c).1 = 33 by rw [show T (sC M c).1 = r_1.toInt from hh_1.symm]; omega) (by omega)]; exact lwp_b (lwp_f hq_80 c83) nI0 rfl), (fun z => absurd nI0 z)⟩
        · have v80 := lwp_v hq_80 c83
          obtain ⟨B1, B2, B3, B4⟩ := hB_80 c83
          rw [eM_2_2] at B3
          refine wp_bind2 (o6_X3_order hc M_4 (nI 33) (nI 0)) (fun M_5 he92 hq92 => ?_)
          obtain ⟨hg_M_5, hor_92, hon_92⟩ := hq92
          replace hor_92 : 0 ≤ (M_4 c 7).toInt → (M_4 c 7).toInt < 240 → sC M_5 c = emt (sC M_4 c) (unc (nI 33).toInt) (nI 0).toInt ∧ (M_5 c 7).toInt = (M_4 c 7).toInt + 1 := hor_92
          have := t_lit 33
          have := t_lit 0
          replace hon_92 : 0 ≤ (M_4 c 7).toInt → 0 ≤ (M_5 c 7).toInt := hon_92
          have := t_lit 33
          have := t_lit 0
          replace hg_M_5 : ∀ a i, ¬ (a = (c + 1) ∨ a = (c + 2) ∨ (a = c ∧ i = 7)) → M_5 a i = M_4 a i := by exact fun a i q0 => hg_M_5 a i (by omega)
          have o5 := (hor_92 (by omega) (by omega)).1
          have F5 : tstD T (6 - v2.toInt).toNat (sC M c) = .inr (sC M_5 c) := by
            rw [tstD_x (show T (sC M c).1 = 33 by rw [show T (sC M c).1 = r_1.toInt from hh_1.symm]; omega) (by omega), v80, bnS_r, o5, un33, nI0]
            rfl
          exact wp_some ⟨b01_1, (fun a i q0 => ((hg_M_5 a i (fun z8 => q0 ((fun z9 => Or.elim z9 (fun h9 => Or.inr (Or.inr (Or.inl h9))) (fun z9 => Or.elim z9 (fun h9 => Or.inr (Or.inr (Or.inr (Or.inl h9)))) (fun h9 => Or.inr (Or.inr (Or.inr (Or.inr (Or.inl h9))))))) z8))).trans ((hg_M_4 a i (fun z8 => q0 ((fun z9 => Or.elim z9 (fun h9 => Or.inl h9) (fun z9 => Or.elim z9 (fun h9 => Or.inr (Or.inl h9)) (fun z9 => Or.elim z9 (fun h9 => Or.inr (Or.inr (Or.inl h9))) (fun z9 => Or.elim z9 (fun h9 => Or.inr (Or.inr (Or.inr (Or.inl h9)))) (fun z9 => Or.elim z9 (fun h9 => Or.inr (Or.inr (Or.inr (Or.inr (Or.inl h9))))) (fun h9 => Or.inr (Or.inr (Or.inr (Or.inr (Or.inr (h9))))))))))) z8))).trans ((congrFun (congrFun eM_2 a) i).trans ((mset_ne (fun h9 => q0 (Or.inl h9))).trans rfl))))), (by show (M_5 c 9).toInt = 0 ∨ (M_5 c 9).toInt = 1; have f0 := congrArg Int32.toInt (hg_M_5 c 9 (by omega)); have f1 := t_lit 1; omega), (hon_92 hn0_80), (by show LwP (tstD T (6 - v2.toInt).toNat (sC M c)) (nI 1).toInt (M_5 19 4).toInt (sC M_5 c); rw [F5]; exact ⟨ne1, rfl⟩), (fun _ => bds_of (tstD_rm (ends_c hT) _ _ _ F5) hn (hon_92 hn0_80))⟩
    · refine wp_cb2 (o5_X7_refuse M (nI 5) (M 19 3)) (fun r_10 M_11 he29 hq29 => ?_)
      obtain ⟨hz_r_10, hg_M_11, hw_29, hq_29⟩ := hq29
      replace hw_29 : r_10.toInt = 0 := hw_29
      have := t_lit 5
      replace hq_29 : 0 ≤ (nI 5).toInt → (nI 5).toInt ≤ 9 → 0 ≤ (M 19 3).toInt → (M 19 3).toInt ≤ 1000 → (M_11 19 4).toInt = -1000 * (nI 5).toInt - (M 19 3).toInt := hq_29
      have := t_lit 5
      replace hg_M_11 : ∀ a i, ¬ ((a = 19 ∧ i = 4)) → M_11 a i = M a i := hg_M_11
      refine wp_gb hz_r_10 ?_
      exact wp_some ⟨hz_r_10, (fun a i q0 => ((hg_M_11 a i (fun h9 => q0 (Or.inr (Or.inl h9)))).trans rfl)), (by show (M_11 c 9).toInt = 0 ∨ (M_11 c 9).toInt = 1; have f0 := congrArg Int32.toInt (hg_M_11 c 9 (by omega)); omega), (by show 0 ≤ (M_11 c 7).toInt; rw [hg_M_11 c 7 (by omega)]; exact hn.1), (by show LwP (tstD T (6 - v2.toInt).toNat (sC M c)) r_10.toInt (M_11 19 4).toInt (sC M_11 c); rw [tstD_5 (by rw [show T (sC M c).1 = r_1.toInt from hh_1.symm]; exact h17) (by omega)]; exact ⟨hw_29, by rw [hq_29 (by decide) (by decide) (by omega) (by omega)]; have := t_lit 5; show _ = -5000 - (M 19 3).toInt; omega⟩), (fun z => absurd hw_29 z)⟩
  refine wp_ite (fun c8 => ?_) (fun c8 => ?_)
  · exact j17 (by omega)
  · refine wp_ite (fun c14 => ?_) (fun c14 => ?_)
    · exact j17 (by omega)
    · refine wp_cb2 (og6_sum8 hc M v2 T hT (by omega) hb hp hn) (fun r_12 M_13 he100 hq100 => ?_)
      obtain ⟨hz_r_12, hg_M_13, hb_100, hn0_100, hq_100, hB_100⟩ := hq100
      replace hb_100 : (M_13 c 9).toInt = 0 ∨ (M_13 c 9).toInt = 1 := hb_100
      replace hn0_100 : 0 ≤ (M_13 c 7).toInt := hn0_100
      replace hq_100 : LwP (sumD T (6 - v2.toInt).toNat (sC M c)) r_12.toInt (M_13 19 4).toInt (sC M_13 c) := hq_100
      replace hB_100 : BdI r_12.toInt M M_13 c := hB_100
      replace hg_M_13 : ∀ a i, ¬ ((a = 19 ∧ i = 3) ∨ (a = 19 ∧ i = 4) ∨ a = (c + 1) ∨ a = (c + 2) ∨ (a = c ∧ i = 7) ∨ (a = c ∧ i = 9)) → M_13 a i = M a i := by exact fun a i q0 => hg_M_13 a i (by omega)
      have e132 : M_13 19 2 = M 19 2 := hg_M_13 19 2 (by omega)
      have e132i := congrArg Int32.toInt e132
      have eM_13_2 := e132
      have hT13 : TXc M_13 = T := (txc_fr e132 (fun j => hg_M_13 20 j (by omega))).trans hT
      refine wp_ite (fun c103 => ?_) (fun c103 => ?_)
      · exact wp_some ⟨b01_0, (fun a i q0 => ((hg_M_13 a i (fun z8 => q0 ((fun z9 => Or.elim z9 (fun h9 => Or.inl h9) (fun z9 => Or.elim z9 (fun h9 => Or.inr (Or.inl h9)) (fun z9 => Or.elim z9 (fun h9 => Or.inr (Or.inr (Or.inl h9))) (fun z9 => Or.elim z9 (fun h9 => Or.inr (Or.inr (Or.inr (Or.inl h9)))) (fun z9 => Or.elim z9 (fun h9 => Or.inr (Or.inr (Or.inr (Or.inr (Or.inl h9))))) (fun h9 => Or.inr (Or.inr (Or.inr (Or.inr (Or.inr (h9))))))))))) z8))).trans rfl)), (by show (M_13 c 9).toInt = 0 ∨ (M_13 c 9).toInt = 1; have f0 := t_lit 0; omega), hn0_100, (by show LwP (tstD T (6 - v2.toInt).toNat (sC M c)) (nI 0).toInt (M_13 19 4).toInt (sC M_13 c); rw [tstD_c (by rw [show T (sC M c).1 = r_1.toInt from hh_1.symm]; exact c8) (by rw [show T (sC M c).1 = r_1.toInt from hh_1.symm]; exact c14), cmpS_1 (lwp_f hq_100 c103)]; exact ⟨nI0, rfl⟩), (fun z => absurd nI0 z)⟩
      · have v100 := lwp_v hq_100 c103
        obtain ⟨B1, B2, B3, B4⟩ := hB_100 c103
        refine wp_bind2 (o5_X7_here M_13 T hT13 (by omega)) (fun r_14 he109 hq109 => ?_)
        have hh_109 := hq109
        replace hh_109 : r_14.toInt = T (M_13 19 3).toInt := hh_109
        have j145 : (¬ cmq (T (sC M_13 c).1) = 0) → Wp (f_X3_compileTest_L145 c v2 M_13 r_14) (fun q => (q.1 = 0 ∨ q.1 = 1) ∧ (∀ a i, ¬ ((a = 19 ∧ i = 3) ∨ (a = 19 ∧ i = 4) ∨ a = (c + 1) ∨ a = (c + 2) ∨ (a = c ∧ i = 7) ∨ (a = c ∧ i = 9)) → q.2 a i = M a i) ∧ ((q.2 c 9).toInt = 0 ∨ (q.2 c 9).toInt = 1) ∧ (0 ≤ (q.2 c 7).toInt) ∧ (LwP (tstD T (6 - v2.toInt).toNat (sC M c)) q.1.toInt (q.2 19 4).toInt (sC q.2 c)) ∧ (BdI q.1.toInt M q.2 c)) := by
          intro cq
          unfold f_X3_compileTest_L145
          refine wp_bnd (fun M_15 eM_15 => ?_)
          have hin := tx_in hT13 (p := (M_13 19 3).toInt) (fun z => cq (by rw [show T (sC M_13 c).1 = -1 from z]; decide))
          have p15 : (M_15 19 3).toInt = (M_13 19 3).toInt + 1 := by rw [eM_15, mset_eq]; exact (i_up (by omega)).2
          have eM_15_2 : M_15 19 2 = M 19 2 := by rw [eM_15, mset_ne (by first | exact nz1 (by decide) | exact nz2 (by decide) | exact nz1 (nzA hc0 (by decide)) | exact nz1 (nzE (by decide)) | exact nz1 (nzB hc0 (by decide)) | exact nz1 (nzC hc0 (by decide)) | exact nz1 (nzD hc0 (by decide)) | exact nz1 (nzF (by decide)) | exact nz1 (nzG (by decide)) | omega), eM_13_2]
          have eM_15_i := congrArg Int32.toInt eM_15_2
          have hT15 : TXc M_15 = T := (txc_fr (by rw [eM_15, mset_ne (by first | exact nz1 (by decide) | exact nz2 (by decide) | exact nz1 (nzA hc0 (by decide)) | exact nz1 (nzE (by decide)) | exact nz1 (nzB hc0 (by decide)) | exact nz1 (nzC hc0 (by decide)) | exact nz1 (nzD hc0 (by decide)) | exact nz1 (nzF (by decide)) | exact nz1 (nzG (by decide)) | omega)]) (fun j => by rw [eM_15, mset_ne (by first | exact nz1 (by decide) | exact nz2 (by decide) | exact nz1 (nzA hc0 (by decide)) | exact nz1 (nzE (by decide)) | exact nz1 (nzB hc0 (by decide)) | exact nz1 (nzC hc0 (by decide)) | exact nz1 (nzD hc0 (by decide)) | exact nz1 (nzF (by decide)) | exact nz1 (nzG (by decide)) | omega)])).trans hT13
          have c15_7 : M_15 c 7 = M_13 c 7 := by rw [eM_15, mset_ne (by first | exact nz1 (by decide) | exact nz2 (by decide) | exact nz1 (nzA hc0 (by decide)) | exact nz1 (nzE (by decide)) | exact nz1 (nzB hc0 (by decide)) | exact nz1 (nzC hc0 (by decide)) | exact nz1 (nzD hc0 (by decide)) | exact nz1 (nzF (by decide)) | exact nz1 (nzG (by decide)) | omega)]
          have c15_7i := congrArg Int32.toInt c15_7
          have b15 : (M_15 c 9).toInt = 0 ∨ (M_15 c 9).toInt = 1 := by rw [eM_15, mset_ne (by first | exact nz1 (by decide) | exact nz2 (by decide) | exact nz1 (nzA hc0 (by decide)) | exact nz1 (nzE (by decide)) | exact nz1 (nzB hc0 (by decide)) | exact nz1 (nzC hc0 (by decide)) | exact nz1 (nzD hc0 (by decide)) | exact nz1 (nzF (by decide)) | exact nz1 (nzG (by decide)) | omega)]; exact hb_100
          have s15 : sC M_15 c = fwd (sC M_13 c) ((sC M_13 c).1 + 1) := sc_fwd p15 (by rw [eM_15, mset_ne (by first | exact nz1 (by decide) | exact nz2 (by decide) | exact nz1 (nzA hc0 (by decide)) | exact nz1 (nzE (by decide)) | exact nz1 (nzB hc0 (by decide)) | exact nz1 (nzC hc0 (by decide)) | exact nz1 (nzD hc0 (by decide)) | exact nz1 (nzF (by decide)) | exact nz1 (nzG (by decide)) | omega)]) (fun j => by rw [eM_15, mset_ne (by first | exact nz1 (by decide) | exact nz2 (by decide) | exact nz1 (nzA hc0 (by decide)) | exact nz1 (nzE (by decide)) | exact nz1 (nzB hc0 (by decide)) | exact nz1 (nzC hc0 (by decide)) | exact nz1 (nzD hc0 (by decide)) | exact nz1 (nzF (by decide)) | exact nz1 (nzG (by decide)) | omega)]) (fun j => by rw [eM_15, mset_ne (by first | exact nz1 (by decide) | exact nz2 (by decide) | exact nz1 (nzA hc0 (by decide)) | exact nz1 (nzE (by decide)) | exact nz1 (nzB hc0 (by decide)) | exact nz1 (nzC hc0 (by decide)) | exact nz1 (nzD hc0 (by decide)) | exact nz1 (nzF (by decide)) | exact nz1 (nzG (by decide)) | omega)])
          refine wp_cb2 (og6_sum8 hc M_15 v2 T hT15 (by omega) b15 (by omega) (by omega)) (fun r_16 M_17 he158 hq158 => ?_)
          obtain ⟨hz_r_16, hg_M_17, hb_158, hn0_158, hq_158, hB_158⟩ := hq158
          replace hb_158 : (M_17 c 9).toInt = 0 ∨ (M_17 c 9).toInt = 1 := hb_158
          replace hn0_158 : 0 ≤ (M_17 c 7).toInt := hn0_158
          replace hq_158 : LwP (sumD T (6 - v2.toInt).toNat (sC M_15 c)) r_16.toInt (M_17 19 4).toInt (sC M_17 c) := hq_158
          replace hB_158 : BdI r_16.toInt M_15 M_17 c := hB_158
          replace hg_M_17 : ∀ a i, ¬ ((a = 19 ∧ i = 3) ∨ (a = 19 ∧ i = 4) ∨ a = (c + 1) ∨ a = (c + 2) ∨ (a = c ∧ i = 7) ∨ (a = c ∧ i = 9)) → M_17 a i = M_15 a i := by exact fun a i q0 => hg_M_17 a i (by omega)
          rw [s15] at hq_158
          refine wp_ite (fun c161 => ?_) (fun c161 => ?_)
          · exact wp_some ⟨b01_0, (fun a i q0 => ((hg_M_17 a i (fun z8 => q0 ((fun z9 => Or.elim z9 (fun h9 => Or.inl h9) (fun z9 => Or.elim z9 (fun h9 => Or.inr (Or.inl h9)) (fun z9 => Or.elim z9 (fun h9 => Or.inr (Or.inr (Or.inl h9))) (fun z9 => Or.elim z9 (fun h9 => Or.inr (Or.inr (Or.inr (Or.inl h9)))) (fun z9 => Or.elim z9 (fun h9 => Or.inr (Or.inr (Or.inr (Or.inr (Or.inl h9))))) (fun h9 => Or.inr (Or.inr (Or.inr (Or.inr (Or.inr (h9))))))))))) z8))).trans ((congrFun (congrFun eM_15 a) i).trans ((mset_ne (fun h9 => q0 (Or.inl h9))).trans ((hg_M_13 a i (fun z8 => q0 ((fun z9 => Or.elim z9 (fun h9 => Or.inl h9) (fun z9 => Or.elim z9 (fun h9 => Or.inr (Or.inl h9)) (fun z9 => Or.elim z9 (fun h9 => Or.inr (Or.inr (Or.inl h9))) (fun z9 => Or.elim z9 (fun h9 => Or.inr (Or.inr (Or.inr (Or.inl h9)))) (fun z9 => Or.elim z9 (fun h9 => Or.inr (Or.inr (Or.inr (Or.inr (Or.inl h9))))) (fun h9 => Or.inr (Or.inr (Or.inr (Or.inr (Or.inr (h9))))))))))) z8))).trans rfl))))), (by show (M_17 c 9).toInt = 0 ∨ (M_17 c 9).toInt = 1; have f0 := t_lit 0; omega), hn0_158, (by show LwP (tstD T (6 - v2.toInt).toNat (sC M c)) (nI 0).toInt (M_17 19 4).toInt (sC M_17 c); rw [tstD_c (by rw [show T (sC M c).1 = r_1.toInt from hh_1.symm]; exact c8) (by rw [show T (sC M c).1 = r_1.toInt from hh_1.symm]; exact c14), cmpS_3 v100 cq (lwp_f hq_158 c161)]; exact ⟨nI0, rfl⟩), (fun z => absurd nI0 z)⟩
          · have v158 := lwp_v hq_158 c161
            obtain ⟨D1, D2, D3, D4⟩ := hB_158 c161
            rw [eM_15_2] at D3
            refine wp_bind2 (o6_X3_order hc M_17 r_14 (nI 0)) (fun M_18 he170 hq170 => ?_)
            obtain ⟨hg_M_18, hor_170, hon_170⟩ := hq170
            replace hor_170 : 0 ≤ (M_17 c 7).toInt → (M_17 c 7).toInt < 240 → sC M_18 c = emt (sC M_17 c) (unc r_14.toInt) (nI 0).toInt ∧ (M_18 c 7).toInt = (M_17 c 7).toInt + 1 := hor_170
            have := t_lit 0
            replace hon_170 : 0 ≤ (M_17 c 7).toInt → 0 ≤ (M_18 c 7).toInt := hon_170
            have := t_lit 0
            replace hg_M_18 : ∀ a i, ¬ (a = (c + 1) ∨ a = (c + 2) ∨ (a = c ∧ i = 7)) → M_18 a i = M_17 a i := by exact fun a i q0 => hg_M_18 a i (by omega)
            have o18 := (hor_170 (by omega) (by omega)).1
            have F18 : tstD T (6 - v2.toInt).toNat (sC M c) = .inr (sC M_18 c) := by
              rw [tstD_c (by rw [show T (sC M c).1 = r_1.toInt from hh_1.symm]; exact c8) (by rw [show T (sC M c).1 = r_1.toInt from hh_1.symm]; exact c14), cmpS_4 v100 cq v158, o18, nI0, show r_14.toInt = T (sC M_13 c).1 from hh_109, unc_cmq cq]
            exact wp_some ⟨b01_1, (fun a i q0 => ((hg_M_18 a i (fun z8 => q0 ((fun z9 => Or.elim z9 (fun h9 => Or.inr (Or.inr (Or.inl h9))) (fun z9 => Or.elim z9 (fun h9 => Or.inr (Or.inr (Or.inr (Or.inl h9)))) (fun h9 => Or.inr (Or.inr (Or.inr (Or.inr (Or.inl h9))))))) z8))).trans ((hg_M_17 a i (fun z8 => q0 ((fun z9 => Or.elim z9 (fun h9 => Or.inl h9) (fun z9 => Or.elim z9 (fun h9 => Or.inr (Or.inl h9)) (fun z9 => Or.elim z9 (fun h9 => Or.inr (Or.inr (Or.inl h9))) (fun z9 => Or.elim z9 (fun h9 => Or.inr (Or.inr (Or.inr (Or.inl h9)))) (fun z9 => Or.elim z9 (fun h9 => Or.inr (Or.inr (Or.inr (Or.inr (Or.inl h9))))) (fun h9 => Or.inr (Or.inr (Or.inr (Or.inr (Or.inr (h9))))))))))) z8))).trans ((congrFun (congrFun eM_15 a) i).trans ((mset_ne (fun h9 => q0 (Or.inl h9))).trans ((hg_M_13 a i (fun z8 => q0 ((fun z9 => Or.elim z9 (fun h9 => Or.inl h9) (fun z9 => Or.elim z9 (fun h9 => Or.inr (Or.inl h9)) (fun z9 => Or.elim z9 (fun h9 => Or.inr (Or.inr (Or.inl h9))) (fun z9 => Or.elim z9 (fun h9 => Or.inr (Or.inr (Or.inr (Or.inl h9)))) (fun z9 => Or.elim z9 (fun h9 => Or.inr (Or.inr (Or.inr (Or.inr (Or.inl h9))))) (fun h9 => Or.inr (Or.inr (Or.inr (Or.inr (Or.inr (h9))))))))))) z8))).trans rfl)))))), (by show (M_18 c 9).toInt = 0 ∨ (M_18 c 9).toInt = 1; have f0 := congrArg Int32.toInt (hg_M_18 c 9 (by omega)); have f1 := t_lit 1; omega), (hon_170 hn0_158), (by show LwP (tstD T (6 - v2.toInt).toNat (sC M c)) (nI 1).toInt (M_18 19 4).toInt (sC M_18 c); rw [F18]; exact ⟨ne1, rfl⟩), (fun _ => bds_of (tstD_rm (ends_c hT) _ _ _ F18) hn (hon_170 hn0_158))⟩
        refine wp_ite (fun c118 => ?_) (fun c118 => ?_)
        · exact j145 (by rw [show T (sC M_13 c).1 = r_14.toInt from hh_109.symm]; exact cmq_y (by omega))
        · refine wp_ite (fun c125 => ?_) (fun c125 => ?_)
          · exact j145 (by rw [show T (sC M_13 c).1 = r_14.toInt from hh_109.symm]; exact cmq_y (by omega))
          · refine wp_ite (fun c132 => ?_) (fun c132 => ?_)
            · exact j145 (by rw [show T (sC M_13 c).1 = r_14.toInt from hh_109.symm]; exact cmq_y (by omega))
            · refine wp_cb2 (o5_X7_refuse M_13 (nI 1) (M_13 19 3)) (fun r_19 M_20 he141 hq141 => ?_)
              obtain ⟨hz_r_19, hg_M_20, hw_141, hq_141⟩ := hq141
              replace hw_141 : r_19.toInt = 0 := hw_141
              have := t_lit 1
              replace hq_141 : 0 ≤ (nI 1).toInt → (nI 1).toInt ≤ 9 → 0 ≤ (M_13 19 3).toInt → (M_13 19 3).toInt ≤ 1000 → (M_20 19 4).toInt = -1000 * (nI 1).toInt - (M_13 19 3).toInt := hq_141
              have := t_lit 1
              replace hg_M_20 : ∀ a i, ¬ ((a = 19 ∧ i = 4)) → M_20 a i = M_13 a i := hg_M_20
              refine wp_gb hz_r_19 ?_
              exact wp_some ⟨hz_r_19, (fun a i q0 => ((hg_M_20 a i (fun h9 => q0 (Or.inr (Or.inl h9)))).trans ((hg_M_13 a i (fun z8 => q0 ((fun z9 => Or.elim z9 (fun h9 => Or.inl h9) (fun z9 => Or.elim z9 (fun h9 => Or.inr (Or.inl h9)) (fun z9 => Or.elim z9 (fun h9 => Or.inr (Or.inr (Or.inl h9))) (fun z9 => Or.elim z9 (fun h9 => Or.inr (Or.inr (Or.inr (Or.inl h9)))) (fun z9 => Or.elim z9 (fun h9 => Or.inr (Or.inr (Or.inr (Or.inr (Or.inl h9))))) (fun h9 => Or.inr (Or.inr (Or.inr (Or.inr (Or.inr (h9))))))))))) z8))).trans rfl))), (by show (M_20 c 9).toInt = 0 ∨ (M_20 c 9).toInt = 1; have f0 := congrArg Int32.toInt (hg_M_20 c 9 (by omega)); omega), (by show 0 ≤ (M_20 c 7).toInt; rw [hg_M_20 c 7 (by omega)]; exact hn0_100), (by show LwP (tstD T (6 - v2.toInt).toNat (sC M c)) r_19.toInt (M_20 19 4).toInt (sC M_20 c); rw [tstD_c (by rw [show T (sC M c).1 = r_1.toInt from hh_1.symm]; exact c8) (by rw [show T (sC M c).1 = r_1.toInt from hh_1.symm]; exact c14), cmpS_2 v100 (by rw [show T (sC M_13 c).1 = r_14.toInt from hh_109.symm]; exact cmq_n c118 c125 c132)]; exact ⟨hw_141, by rw [hq_141 (by decide) (by decide) (by omega) (by omega)]; have := t_lit 1; show _ = -1000 - (M_13 19 3).toInt; omega⟩), (fun z => absurd hw_141 z)⟩
theorem og6_test {c : Nat} (hc : isL c) : ∀ (n : Nat) (K : Int) (M : Mem) (v2 : Int32), 0 ≤ K → 7 - K ≤ n → ∀ (T : Int → Int) (_ : TXc M = T) (_ : K ≤ v2.toInt ∧ v2.toInt ≤ 6) (_ : (M c 9).toInt = 0 ∨ (M c 9).toInt = 1) (_ : 0 ≤ (M 19 3).toInt ∧ (M 19 3).toInt ≤ (M 19 2).toInt ∧ (M 19 2).toInt ≤ 240) (_ : 0 ≤ (M c 7).toInt ∧ (M c 7).toInt ≤ (M 19 3).toInt), Wp (g_test c n M v2) (fun q => (q.1 = 0 ∨ q.1 = 1) ∧ (∀ a i, ¬ ((a = 19 ∧ i = 3) ∨ (a = 19 ∧ i = 4) ∨ a = (c + 1) ∨ a = (c + 2) ∨ (a = c ∧ i = 7) ∨ (a = c ∧ i = 9)) → q.2 a i = M a i) ∧ ((q.2 c 9).toInt = 0 ∨ (q.2 c 9).toInt = 1) ∧ (0 ≤ (q.2 c 7).toInt) ∧ (LwP (tstD T (6 - v2.toInt).toNat (sC M c)) q.1.toInt (q.2 19 4).toInt (sC q.2 c)) ∧ (BdI q.1.toInt M q.2 c))
  | 0 => fun K M v2 h0 h1 T hT h2 _ _ _ => absurd h1 (by omega)
  | n + 1 => fun K M v2 h0 h1 T hT h2 hb hp hn => o6_X3_compileTest hc (KS := K + 1) (fun M w T hT h3 hb hp hn => og6_test hc n (K + 1) M w (by omega) (by omega) T hT h3 hb hp hn) (fun M w T hT h3 hb hp hn => o6_X3_compileChoice hc (KS := K + 1) (fun M w T hT h4 hb hp hn => og6_test hc n (K + 1) M w (by omega) (by omega) T hT h4 hb hp hn) M w T hT ⟨h3, by omega⟩ hb hp hn) M v2 T hT (by omega) hb hp hn
theorem og6_choice8 {c : Nat} (hc : isL c) (M : Mem) (v2 : Int32) (T : Int → Int) (hT : TXc M = T) (ho : 0 ≤ v2.toInt ∧ v2.toInt ≤ 6) (hb : (M c 9).toInt = 0 ∨ (M c 9).toInt = 1) (hp : 0 ≤ (M 19 3).toInt ∧ (M 19 3).toInt ≤ (M 19 2).toInt ∧ (M 19 2).toInt ≤ 240) (hn : 0 ≤ (M c 7).toInt ∧ (M c 7).toInt ≤ (M 19 3).toInt) : Wp (g_choice c 8 M v2) (fun q => (q.1 = 0 ∨ q.1 = 1) ∧ (∀ a i, ¬ ((a = 19 ∧ i = 3) ∨ (a = 19 ∧ i = 4) ∨ a = (c + 1) ∨ a = (c + 2) ∨ (a = c ∧ i = 7) ∨ (a = c ∧ i = 9)) → q.2 a i = M a i) ∧ ((q.2 c 9).toInt = 0 ∨ (q.2 c 9).toInt = 1) ∧ (0 ≤ (q.2 c 7).toInt) ∧ (LwP (choD T (6 - v2.toInt).toNat (sC M c)) q.1.toInt (q.2 19 4).toInt (sC q.2 c)) ∧ (BdI q.1.toInt M q.2 c)) := o6_X3_compileChoice hc (KS := 0) (fun M w T hT h4 hb hp hn => og6_test hc 8 0 M w (by omega) (by omega) T hT h4 hb hp hn) M v2 T hT ⟨ho, ho.1⟩ hb hp hn
