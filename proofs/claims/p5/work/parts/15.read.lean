theorem o_X10_endsRound (M : Mem) (hp : 0 ≤ (M 0 7).toInt ∧ (M 0 7).toInt ≤ (M 0 8).toInt ∧ (M 0 8).toInt ≤ 240) (hw : 0 ≤ (M 0 49).toInt ∧ (M 0 49).toInt ≤ 60) (hlt : (M 0 7).toInt < (M 0 8).toInt) (hr : (1 ≤ (M 0 50).toInt ∧ (M 0 50).toInt ≤ 2)) (ha : ∀ j : Nat, (j : Int) < (M 0 50).toInt → 0 ≤ (M 35 j).toInt ∧ (M 35 j).toInt ≤ (M 0 49).toInt) : Wp (f_X10_endsRound M) (fun q => (q.1 = 0 ∨ q.1 = 1) ∧ (∀ a i, ¬ ((a = 0 ∧ i = 7) ∨ (a = 0 ∧ i = 9) ∨ (a = 0 ∧ i = 49) ∨ (a = 0 ∧ i = 50) ∨ a = 32 ∨ a = 33) → q.2 a i = M a i) ∧ ((M 0 7).toInt ≤ (q.2 0 7).toInt ∧ (q.2 0 7).toInt ≤ (M 0 8).toInt ∧ (¬ q.1.toInt = 0 → (M 0 7).toInt < (q.2 0 7).toInt)) ∧ (¬ q.1.toInt = 0 → (M 0 49).toInt ≤ (q.2 0 49).toInt ∧ (q.2 0 49).toInt ≤ 60 ∧ (q.2 0 50).toInt = (M 0 50).toInt - 1)) := by
  refine wp_bnd (fun M_1 eM_1 => ?_)
  have fi1 := t_inc (M 0 7) 1 (by omega)
  have fi2 := congrArg Int32.toInt ((congrFun (congrFun eM_1 0) 7).trans mset_eq)
  have fi3 := congrArg Int32.toInt ((congrFun (congrFun eM_1 0) 8).trans (mset_ne (by omega)))
  refine wp_bind2 (o_X10_here M_1 (by have f0 := congrArg Int32.toInt ((congrFun (congrFun eM_1 0) 7).trans mset_eq); have f1 := t_lit 1; have f2 := t_add (M 0 7) (nI 1); have f3 := congrArg Int32.toInt ((congrFun (congrFun eM_1 0) 8).trans (mset_ne (by omega))); omega)) (fun r_2 he13 hq13 => ?_)
  have hh_13 := hq13
  replace hh_13 : (r_2.toInt = -1 ∧ (M_1 0 7).toInt = (M_1 0 8).toInt) ∨ (0 ≤ r_2.toInt ∧ r_2.toInt ≤ 255 ∧ (M_1 0 7).toInt < (M_1 0 8).toInt) := hh_13
  have j73 : ∀ (N73 : Mem), ∀ (z1_73 : Int32), (∀ a i, ¬ ((a = 0 ∧ i = 7)) → N73 a i = M_1 a i) → ((M 0 7).toInt < (N73 0 7).toInt ∧ (N73 0 7).toInt ≤ (M 0 8).toInt ∧ 1 ≤ z1_73.toInt ∧ z1_73.toInt ≤ 9) → Wp (f_X10_endsRound_L73 N73 z1_73) (fun q => (q.1 = 0 ∨ q.1 = 1) ∧ (∀ a i, ¬ ((a = 0 ∧ i = 7) ∨ (a = 0 ∧ i = 9) ∨ (a = 0 ∧ i = 49) ∨ (a = 0 ∧ i = 50) ∨ a = 32 ∨ a = 33) → q.2 a i = M a i) ∧ ((M 0 7).toInt ≤ (q.2 0 7).toInt ∧ (q.2 0 7).toInt ≤ (M 0 8).toInt ∧ (¬ q.1.toInt = 0 → (M 0 7).toInt < (q.2 0 7).toInt)) ∧ (¬ q.1.toInt = 0 → (M 0 49).toInt ≤ (q.2 0 49).toInt ∧ (q.2 0 49).toInt ≤ 60 ∧ (q.2 0 50).toInt = (M 0 50).toInt - 1)) := by
    intro N73 z1_73 hf_N73 h73
    unfold f_X10_endsRound_L73
    refine wp_bnd (fun M_3 eM_3 => ?_)
    have g1 := congrArg Int32.toInt (hf_N73 0 50 (by omega))
    have g2 := congrArg Int32.toInt ((congrFun (congrFun eM_1 0) 50).trans (mset_ne (by omega)))
    have g3 := t_sub (N73 0 50) (nI 1)
    have g4 := t_lit 1
    have g5 : (M_3 0 50).toInt = (M 0 50).toInt - 1 := by rw [eM_3, mset_eq]; omega
    clear g3
    have g6 := t_ixn (M_3 0 50) (by omega)
    have g7 : M_3 35 (ix (M_3 0 50)) = M 35 (ix (M_3 0 50)) := by rw [eM_3, mset_ne (by omega), hf_N73 35 _ (by omega), eM_1, mset_ne (by omega)]
    have g8 := ha (ix (M_3 0 50)) (by omega)
    rw [← g7] at g8
    have g9 : (M_3 0 49).toInt = (M 0 49).toInt := by rw [eM_3, mset_ne (by omega), hf_N73 0 49 (by omega), eM_1, mset_ne (by omega)]
    refine wp_gd (by have f0 := congrArg Int32.toInt ((congrFun (congrFun eM_3 0) 50).trans mset_eq); have f1 := t_lit 1; have f2 := t_sub (N73 0 50) (nI 1); have f3 := congrArg Int32.toInt (hf_N73 0 50 (by omega)); have f4 := congrArg Int32.toInt ((congrFun (congrFun eM_1 0) 50).trans (mset_ne (by omega))); omega) ?_
    refine wp_bnd (fun x_4 ex_4 => ?_)
    have k1 := t_sub (M_3 0 49) (M_3 35 (ix (M_3 0 50)))
    have k2 := congrArg Int32.toInt ex_4
    have k3 : x_4.toInt = (M_3 0 49).toInt - (M_3 35 (ix (M_3 0 50))).toInt := by omega
    clear k1 k2
    have k4 := mul_c (a := x_4) (b := z1_73) (by omega) (by omega) (by omega) (by omega)
    have k5 : ((M_3 35 (ix (M_3 0 50))) + (x_4 * z1_73)).toInt = (M_3 35 (ix (M_3 0 50))).toInt + (x_4 * z1_73).toInt := by have := t_add (M_3 35 (ix (M_3 0 50))) (x_4 * z1_73); omega
    refine wp_gd (by have f0 := congrArg Int32.toInt ((congrFun (congrFun eM_3 0) 50).trans mset_eq); have f1 := t_lit 1; have f2 := t_sub (N73 0 50) (nI 1); have f3 := congrArg Int32.toInt (hf_N73 0 50 (by omega)); have f4 := congrArg Int32.toInt ((congrFun (congrFun eM_1 0) 50).trans (mset_ne (by omega))); omega) ?_
    refine wp_ite (fun c113 => ?_) (fun c113 => ?_)
    · refine wp_lp2 (fun M134 y3_134 => (∀ a i, ¬ (a = 32 ∨ a = 33) → M134 a i = M_3 a i) ∧ (x_4.toInt ≤ y3_134.toInt ∧ y3_134.toInt ≤ (x_4 * z1_73).toInt)) (fun M134 y3_134 => ((x_4 * z1_73).toInt - y3_134.toInt).toNat) (fun ag134 M134 y3_134 hI134 ih134 => ?_) FU M_3 x_4 ⟨(fun _ _ _ => rfl), (by omega)⟩ (fu_lt (by have f0 := t_sub (M_3 0 49) (M_3 35 (ix (M_3 0 50))); have f1 := congrArg Int32.toInt ((congrFun (congrFun eM_3 0) 49).trans (mset_ne (by omega))); have f2 := congrArg Int32.toInt (hf_N73 0 49 (by omega)); have f3 := congrArg Int32.toInt ((congrFun (congrFun eM_1 0) 49).trans (mset_ne (by omega))); have f4 := congrArg Int32.toInt ((congrFun (congrFun eM_3 35) (ix (M_3 0 50))).trans (mset_ne (by omega))); have f5 := congrArg Int32.toInt (hf_N73 35 (ix (M_3 0 50)) (by omega)); have f6 := congrArg Int32.toInt ((congrFun (congrFun eM_1 35) (ix (M_3 0 50))).trans (mset_ne (by omega))); have f7 := congrArg Int32.toInt ((congrFun (congrFun eM_3 0) 50).trans mset_eq); have f8 := t_lit 1; have f9 := t_sub (N73 0 50) (nI 1); have f10 := congrArg Int32.toInt (hf_N73 0 50 (by omega)); have f11 := congrArg Int32.toInt ((congrFun (congrFun eM_1 0) 50).trans (mset_ne (by omega))); have f12 := congrArg Int32.toInt ex_4; have f13 := t_add (M_3 35 (ix (M_3 0 50))) (x_4 * z1_73); omega))
      obtain ⟨hf_M134, hy⟩ := hI134
      have q1 : M134 0 50 = M_3 0 50 := hf_M134 0 50 (by omega)
      have q2 : M134 35 (ix (M134 0 50)) = M_3 35 (ix (M_3 0 50)) := by rw [q1]; exact hf_M134 35 _ (by omega)
      have j215 : Wp (f_X10_endsRound_L215 z1_73 x_4 M134) (fun q => (q.1 = 0 ∨ q.1 = 1) ∧ (∀ a i, ¬ ((a = 0 ∧ i = 7) ∨ (a = 0 ∧ i = 9) ∨ (a = 0 ∧ i = 49) ∨ (a = 0 ∧ i = 50) ∨ a = 32 ∨ a = 33) → q.2 a i = M a i) ∧ ((M 0 7).toInt ≤ (q.2 0 7).toInt ∧ (q.2 0 7).toInt ≤ (M 0 8).toInt ∧ (¬ q.1.toInt = 0 → (M 0 7).toInt < (q.2 0 7).toInt)) ∧ (¬ q.1.toInt = 0 → (M 0 49).toInt ≤ (q.2 0 49).toInt ∧ (q.2 0 49).toInt ≤ 60 ∧ (q.2 0 50).toInt = (M 0 50).toInt - 1)) := by
        unfold f_X10_endsRound_L215
        refine wp_gd (by rw [q1]; omega) ?_
        refine wp_bnd (fun M_5 eM_5 => ?_)
        exact wp_some ⟨b01_1, (fun a i q0 => ((congrFun (congrFun eM_5 a) i).trans ((mset_ne (fun h9 => q0 (Or.inr (Or.inr (Or.inl h9))))).trans ((hf_M134 a i (fun z8 => q0 ((fun z9 => Or.elim z9 (fun h9 => Or.inr (Or.inr (Or.inr (Or.inr (Or.inl h9))))) (fun h9 => Or.inr (Or.inr (Or.inr (Or.inr (Or.inr (h9))))))) z8))).trans ((congrFun (congrFun eM_3 a) i).trans ((mset_ne (fun h9 => q0 (Or.inr (Or.inr (Or.inr (Or.inl h9)))))).trans ((hf_N73 a i (fun h9 => q0 (Or.inl h9))).trans ((congrFun (congrFun eM_1 a) i).trans ((mset_ne (fun h9 => q0 (Or.inl h9))).trans rfl))))))))), (by show (M 0 7).toInt ≤ (M_5 0 7).toInt ∧ (M_5 0 7).toInt ≤ (M 0 8).toInt ∧ (¬ (nI 1).toInt = 0 → (M 0 7).toInt < (M_5 0 7).toInt); rw [eM_5, mset_ne (by omega), hf_M134 0 7 (by omega), eM_3, mset_ne (by omega)]; omega), (by show ¬ (nI 1).toInt = 0 → (M 0 49).toInt ≤ (M_5 0 49).toInt ∧ (M_5 0 49).toInt ≤ 60 ∧ (M_5 0 50).toInt = (M 0 50).toInt - 1; intro _; rw [eM_5, mset_eq, mset_ne (by omega), q2, k5, q1]; omega)⟩
      refine wp_ite (fun c138 => ?_) (fun c138 => ?_)
      · exact j215
      · have q3 : ((M134 35 (ix (M134 0 50))) + y3_134).toInt = (M_3 35 (ix (M_3 0 50))).toInt + y3_134.toInt := by rw [q2]; have := t_add (M_3 35 (ix (M_3 0 50))) y3_134; omega
        have q4 : (((M134 35 (ix (M134 0 50))) + y3_134) - x_4).toInt = (M_3 35 (ix (M_3 0 50))).toInt + y3_134.toInt - x_4.toInt := by have := t_sub ((M134 35 (ix (M134 0 50))) + y3_134) x_4; omega
        refine wp_gd (by rw [q1]; omega) ?_
        refine wp_gd (by rw [q1]; omega) ?_
        refine wp_gd (by rw [q4]; omega) ?_
        refine wp_gd (by rw [q3]; omega) ?_
        refine wp_bnd (fun M_6 eM_6 => ?_)
        have q5 : M_6 0 50 = M134 0 50 := by rw [eM_6, mset_ne (by omega)]
        have q6 : M_6 35 (ix (M_6 0 50)) = M134 35 (ix (M134 0 50)) := by rw [q5, eM_6, mset_ne (by omega)]
        have q7 : ((M_6 35 (ix (M_6 0 50))) + y3_134).toInt = (M_3 35 (ix (M_3 0 50))).toInt + y3_134.toInt := by rw [q6]; exact q3
        have q8 : (((M_6 35 (ix (M_6 0 50))) + y3_134) - x_4).toInt = (M_3 35 (ix (M_3 0 50))).toInt + y3_134.toInt - x_4.toInt := by rw [q6]; exact q4
        refine wp_gd (by rw [q5, q1]; omega) ?_
        refine wp_gd (by rw [q5, q1]; omega) ?_
        refine wp_gd (by rw [q8]; omega) ?_
        refine wp_gd (by rw [q7]; omega) ?_
        refine wp_bnd (fun M_7 eM_7 => ?_)
        exact ih134 M_7 (y3_134 + (nI 1)) ⟨(fun a i q0 => ((congrFun (congrFun eM_7 a) i).trans ((mset_ne (fun h9 => q0 (Or.inr ((h9).1)))).trans ((congrFun (congrFun eM_6 a) i).trans ((mset_ne (fun h9 => q0 (Or.inl (h9).1))).trans ((hf_M134 a i (fun z8 => q0 ((fun z9 => Or.elim z9 (fun h9 => Or.inl h9) (fun h9 => Or.inr (h9))) z8))).trans rfl)))))), (by rw [t_inc y3_134 1 (by omega)]; omega)⟩ (by rw [t_inc y3_134 1 (by omega)]; omega)
    · refine wp_gd (by have f0 := congrArg Int32.toInt ((congrFun (congrFun eM_3 0) 50).trans mset_eq); have f1 := t_lit 1; have f2 := t_sub (N73 0 50) (nI 1); have f3 := congrArg Int32.toInt (hf_N73 0 50 (by omega)); have f4 := congrArg Int32.toInt ((congrFun (congrFun eM_1 0) 50).trans (mset_ne (by omega))); have f5 := t_add (M_3 35 (ix (M_3 0 50))) (x_4 * z1_73); have f6 := congrArg Int32.toInt ((congrFun (congrFun eM_3 35) (ix (M_3 0 50))).trans (mset_ne (by omega))); have f7 := congrArg Int32.toInt (hf_N73 35 (ix (M_3 0 50)) (by omega)); have f8 := congrArg Int32.toInt ((congrFun (congrFun eM_1 35) (ix (M_3 0 50))).trans (mset_ne (by omega))); have f9 := t_sub (M_3 0 49) (M_3 35 (ix (M_3 0 50))); have f10 := congrArg Int32.toInt ((congrFun (congrFun eM_3 0) 49).trans (mset_ne (by omega))); have f11 := congrArg Int32.toInt (hf_N73 0 49 (by omega)); have f12 := congrArg Int32.toInt ((congrFun (congrFun eM_1 0) 49).trans (mset_ne (by omega))); have f13 := congrArg Int32.toInt ex_4; omega) ?_
      refine wp_cb2 (o_X10_wrongAt M_3 (nI 6) (M_3 34 (ix (M_3 0 50)))) (fun r_8 M_9 he128 hq128 => ?_)
      obtain ⟨hz_r_8, hg_M_9, hw_128⟩ := hq128
      replace hw_128 : r_8.toInt = 0 := hw_128
      have := t_lit 6
      replace hg_M_9 : ∀ a i, ¬ ((a = 0 ∧ i = 9)) → M_9 a i = M_3 a i := hg_M_9
      refine wp_gb hz_r_8 ?_
      exact wp_some ⟨hz_r_8, (fun a i q0 => ((hg_M_9 a i (fun h9 => q0 (Or.inr (Or.inl h9)))).trans ((congrFun (congrFun eM_3 a) i).trans ((mset_ne (fun h9 => q0 (Or.inr (Or.inr (Or.inr (Or.inl h9)))))).trans ((hf_N73 a i (fun h9 => q0 (Or.inl h9))).trans ((congrFun (congrFun eM_1 a) i).trans ((mset_ne (fun h9 => q0 (Or.inl h9))).trans rfl))))))), (by show (M 0 7).toInt ≤ (M_9 0 7).toInt ∧ (M_9 0 7).toInt ≤ (M 0 8).toInt ∧ (¬ r_8.toInt = 0 → (M 0 7).toInt < (M_9 0 7).toInt); rw [hg_M_9 0 7 (by omega), eM_3, mset_ne (by omega)]; omega), (fun h => absurd hw_128 h)⟩
  refine wp_ite (fun c18 => ?_) (fun c18 => ?_)
  · refine wp_bnd (fun M_10 eM_10 => ?_)
    have fj1 := t_inc (M_1 0 7) 1 (by omega)
    have fj2 := congrArg Int32.toInt ((congrFun (congrFun eM_10 0) 7).trans mset_eq)
    have fj3 := congrArg Int32.toInt ((congrFun (congrFun eM_10 0) 8).trans (mset_ne (by omega)))
    refine wp_bind2 (o_X10_here M_10 (by have f0 := congrArg Int32.toInt ((congrFun (congrFun eM_10 0) 7).trans mset_eq); have f1 := t_lit 1; have f2 := t_add (M_1 0 7) (nI 1); have f3 := congrArg Int32.toInt ((congrFun (congrFun eM_1 0) 7).trans mset_eq); have f4 := t_add (M 0 7) (nI 1); have f5 := congrArg Int32.toInt ((congrFun (congrFun eM_10 0) 8).trans (mset_ne (by omega))); have f6 := congrArg Int32.toInt ((congrFun (congrFun eM_1 0) 8).trans (mset_ne (by omega))); omega)) (fun r_11 he32 hq32 => ?_)
    have hh_32 := hq32
    replace hh_32 : (r_11.toInt = -1 ∧ (M_10 0 7).toInt = (M_10 0 8).toInt) ∨ (0 ≤ r_11.toInt ∧ r_11.toInt ≤ 255 ∧ (M_10 0 7).toInt < (M_10 0 8).toInt) := hh_32
    refine wp_bind2 (o_X10_in M_10 r_11 (nI 50) (nI 57)) (fun r_12 he39 hq39 => ?_)
    obtain ⟨hz_r_12, hr_39⟩ := hq39
    replace hr_39 : ¬ r_12.toInt = 0 → (nI 50).toInt ≤ r_11.toInt ∧ r_11.toInt ≤ (nI 57).toInt := hr_39
    have := t_lit 50
    have := t_lit 57
    refine wp_ite (fun c42 => ?_) (fun c42 => ?_)
    · refine wp_cb2 (o_X10_wrongAt M_10 (nI 1) (M_10 0 7)) (fun r_15 M_16 he51 hq51 => ?_)
      obtain ⟨hz_r_15, hg_M_16, hw_51⟩ := hq51
      replace hw_51 : r_15.toInt = 0 := hw_51
      have := t_lit 1
      replace hg_M_16 : ∀ a i, ¬ ((a = 0 ∧ i = 9)) → M_16 a i = M_10 a i := hg_M_16
      refine wp_gb hz_r_15 ?_
      exact wp_some ⟨hz_r_15, (fun a i q0 => ((hg_M_16 a i (fun h9 => q0 (Or.inr (Or.inl h9)))).trans ((congrFun (congrFun eM_10 a) i).trans ((mset_ne (fun h9 => q0 (Or.inl h9))).trans ((congrFun (congrFun eM_1 a) i).trans ((mset_ne (fun h9 => q0 (Or.inl h9))).trans rfl)))))), (by show (M 0 7).toInt ≤ (M_16 0 7).toInt ∧ (M_16 0 7).toInt ≤ (M 0 8).toInt ∧ (¬ r_15.toInt = 0 → (M 0 7).toInt < (M_16 0 7).toInt); have f0 := congrArg Int32.toInt (hg_M_16 0 7 (by omega)); have f1 := congrArg Int32.toInt ((congrFun (congrFun eM_10 0) 7).trans mset_eq); have f2 := t_lit 1; have f3 := t_add (M_1 0 7) (nI 1); have f4 := congrArg Int32.toInt ((congrFun (congrFun eM_1 0) 7).trans mset_eq); have f5 := t_add (M 0 7) (nI 1); omega), (fun h => absurd hw_51 h)⟩
    · refine wp_bind2 (o_X10_here M_10 (by have f0 := congrArg Int32.toInt ((congrFun (congrFun eM_10 0) 7).trans mset_eq); have f1 := t_lit 1; have f2 := t_add (M_1 0 7) (nI 1); have f3 := congrArg Int32.toInt ((congrFun (congrFun eM_1 0) 7).trans mset_eq); have f4 := t_add (M 0 7) (nI 1); have f5 := congrArg Int32.toInt ((congrFun (congrFun eM_10 0) 8).trans (mset_ne (by omega))); have f6 := congrArg Int32.toInt ((congrFun (congrFun eM_1 0) 8).trans (mset_ne (by omega))); omega)) (fun r_13 he56 hq56 => ?_)
      have hh_56 := hq56
      replace hh_56 : (r_13.toInt = -1 ∧ (M_10 0 7).toInt = (M_10 0 8).toInt) ∨ (0 ≤ r_13.toInt ∧ r_13.toInt ≤ 255 ∧ (M_10 0 7).toInt < (M_10 0 8).toInt) := hh_56
      have hr11 : r_13 = r_11 := by rw [he32] at he56; cases he56; rfl
      have hr39 := hr_39 (by omega)
      have fl50 := t_lit 50
      have fl57 := t_lit 57
      rw [← hr11] at hr39
      refine wp_bnd (fun M_14 eM_14 => ?_)
      have fk1 := t_inc (M_10 0 7) 1 (by omega)
      exact j73 M_14 (r_13 - (nI 48)) (fun a i q0 => ((congrFun (congrFun eM_14 a) i).trans ((mset_ne (fun h9 => q0 (h9))).trans ((congrFun (congrFun eM_10 a) i).trans ((mset_ne (fun h9 => q0 (h9))).trans rfl))))) (by have f0 := congrArg Int32.toInt ((congrFun (congrFun eM_14 0) 7).trans mset_eq); have f1 := t_lit 1; have f2 := t_add (M_10 0 7) (nI 1); have f3 := congrArg Int32.toInt ((congrFun (congrFun eM_10 0) 7).trans mset_eq); have f4 := t_add (M_1 0 7) (nI 1); have f5 := congrArg Int32.toInt ((congrFun (congrFun eM_1 0) 7).trans mset_eq); have f6 := t_add (M 0 7) (nI 1); have f7 := t_lit 48; have f8 := t_sub r_13 (nI 48); omega)
  · exact j73 M_1 (nI 1) (fun _ _ _ => rfl) (by have f0 := congrArg Int32.toInt ((congrFun (congrFun eM_1 0) 7).trans mset_eq); have f1 := t_lit 1; have f2 := t_add (M 0 7) (nI 1); omega)
theorem o_X10_readsNumber (M : Mem) (hp : 0 ≤ (M 0 7).toInt ∧ (M 0 7).toInt ≤ (M 0 8).toInt ∧ (M 0 8).toInt ≤ 240) : Wp (f_X10_readsNumber M) (fun q => (q.1 = 0 ∨ q.1 = 1) ∧ (∀ a i, ¬ ((a = 0 ∧ i = 7) ∨ (a = 0 ∧ i = 9) ∨ (a = 0 ∧ i = 10)) → q.2 a i = M a i) ∧ ((M 0 7).toInt ≤ (q.2 0 7).toInt ∧ (q.2 0 7).toInt ≤ (M 0 8).toInt) ∧ (¬ q.1.toInt = 0 → 0 ≤ (q.2 0 10).toInt ∧ (q.2 0 10).toInt ≤ 99999)) := by
  refine wp_bnd (fun x_1 ex_1 => ?_)
  have hv_x_1 := congrArg Int32.toInt ex_1
  refine wp_bnd (fun M_2 eM_2 => ?_)
  refine wp_lp1 (fun M10 => (∀ a i, ¬ ((a = 0 ∧ i = 7) ∨ (a = 0 ∧ i = 10)) → M10 a i = M_2 a i) ∧ (∃ c : Nat, c ≤ 5 ∧ (M10 0 7).toInt = x_1.toInt + c ∧ 0 ≤ (M10 0 10).toInt ∧ (M10 0 10).toInt < (10 : Int) ^ c ∧ (M10 0 7).toInt ≤ (M 0 8).toInt)) (fun M10 => ((M10 0 8).toInt - (M10 0 7).toInt).toNat) (fun ag10 M10 hI10 ih10 => ?_) FU M_2 ⟨(fun _ _ _ => rfl), ⟨0, by omega, by (have f0 := congrArg Int32.toInt ((congrFun (congrFun eM_2 0) 7).trans (mset_ne (by omega))); omega), by (rw [eM_2, mset_eq]; decide), by (rw [eM_2, mset_eq]; decide), by (have f0 := congrArg Int32.toInt ((congrFun (congrFun eM_2 0) 7).trans (mset_ne (by omega))); omega)⟩⟩ (fu_lt (by have f0 := congrArg Int32.toInt ((congrFun (congrFun eM_2 0) 8).trans (mset_ne (by omega))); have f1 := congrArg Int32.toInt ((congrFun (congrFun eM_2 0) 7).trans (mset_ne (by omega))); omega))
  obtain ⟨hf_M10, hc10⟩ := hI10
  obtain ⟨cg, hc1, hc2, hc3, hc4, hc6⟩ := hc10
  have hc5 := pow10_le hc1
  have hc7 : (10 : Int) ^ 5 = 100000 := by decide
  have f8 := congrArg Int32.toInt (hf_M10 0 8 (by omega))
  have f9 := congrArg Int32.toInt ((congrFun (congrFun eM_2 0) 8).trans (mset_ne (by omega)))
  have fl5 := t_add x_1 (nI 5)
  have fl6 := t_lit 5
  refine wp_bind2 (o_X10_isDigit M10 (by have f0 := congrArg Int32.toInt (hf_M10 0 8 (by omega)); have f1 := congrArg Int32.toInt ((congrFun (congrFun eM_2 0) 8).trans (mset_ne (by omega))); omega)) (fun r_3 he11 hq11 => ?_)
  obtain ⟨hz_r_3, hd_11⟩ := hq11
  replace hd_11 : ¬ r_3.toInt = 0 → (M10 0 7).toInt < (M10 0 8).toInt ∧ ∀ d, f_X10_here M10 = some d → 48 ≤ d.toInt ∧ d.toInt ≤ 57 := hd_11
  refine wp_ite (fun c14 => ?_) (fun c14 => ?_)
  · exact wp_some ⟨b01_1, (fun a i q0 => ((hf_M10 a i (fun z8 => q0 ((fun z9 => Or.elim z9 (fun h9 => Or.inl h9) (fun h9 => Or.inr (Or.inr (h9)))) z8))).trans ((congrFun (congrFun eM_2 a) i).trans ((mset_ne (fun h9 => q0 (Or.inr (Or.inr (h9))))).trans rfl)))), (by show (M 0 7).toInt ≤ (M10 0 7).toInt ∧ (M10 0 7).toInt ≤ (M 0 8).toInt; have f0 := t_lit 1; omega), (by show ¬ (nI 1).toInt = 0 → 0 ≤ (M10 0 10).toInt ∧ (M10 0 10).toInt ≤ 99999; have f0 := t_lit 1; omega)⟩
  · have j27 : Wp (f_X10_readsNumber_L27 M10) (fun q => (q.1 = 0 ∨ q.1 = 1) ∧ (∀ a i, ¬ ((a = 0 ∧ i = 7) ∨ (a = 0 ∧ i = 9) ∨ (a = 0 ∧ i = 10)) → q.2 a i = M a i) ∧ ((M 0 7).toInt ≤ (q.2 0 7).toInt ∧ (q.2 0 7).toInt ≤ (M 0 8).toInt) ∧ (¬ q.1.toInt = 0 → 0 ≤ (q.2 0 10).toInt ∧ (q.2 0 10).toInt ≤ 99999)) := by
      unfold f_X10_readsNumber_L27
      refine wp_cb2 (o_X10_wrongAt M10 (nI 2) (M10 0 7)) (fun r_4 M_5 he33 hq33 => ?_)
      obtain ⟨hz_r_4, hg_M_5, hw_33⟩ := hq33
      replace hw_33 : r_4.toInt = 0 := hw_33
      have := t_lit 2
      replace hg_M_5 : ∀ a i, ¬ ((a = 0 ∧ i = 9)) → M_5 a i = M10 a i := hg_M_5
      refine wp_gb hz_r_4 ?_
      exact wp_some ⟨hz_r_4, (fun a i q0 => ((hg_M_5 a i (fun h9 => q0 (Or.inr (Or.inl h9)))).trans ((hf_M10 a i (fun z8 => q0 ((fun z9 => Or.elim z9 (fun h9 => Or.inl h9) (fun h9 => Or.inr (Or.inr (h9)))) z8))).trans ((congrFun (congrFun eM_2 a) i).trans ((mset_ne (fun h9 => q0 (Or.inr (Or.inr (h9))))).trans rfl))))), (by show (M 0 7).toInt ≤ (M_5 0 7).toInt ∧ (M_5 0 7).toInt ≤ (M 0 8).toInt; have f0 := congrArg Int32.toInt (hg_M_5 0 7 (by omega)); omega), (by show ¬ r_4.toInt = 0 → 0 ≤ (M_5 0 10).toInt ∧ (M_5 0 10).toInt ≤ 99999; have f0 := congrArg Int32.toInt (hg_M_5 0 10 (by omega)); omega)⟩
    refine wp_ite (fun c24 => ?_) (fun c24 => ?_)
    · exact j27
    · refine wp_bind2 (o_X10_here M10 (by have f0 := congrArg Int32.toInt (hf_M10 0 8 (by omega)); have f1 := congrArg Int32.toInt ((congrFun (congrFun eM_2 0) 8).trans (mset_ne (by omega))); have f2 := t_lit 5; have f3 := t_add x_1 (nI 5); have f4 := congrArg Int32.toInt ex_1; omega)) (fun r_6 he46 hq46 => ?_)
      have hh_46 := hq46
      replace hh_46 : (r_6.toInt = -1 ∧ (M10 0 7).toInt = (M10 0 8).toInt) ∨ (0 ≤ r_6.toInt ∧ r_6.toInt ≤ 255 ∧ (M10 0 7).toInt < (M10 0 8).toInt) := hh_46
      have hdg := (hd_11 (by omega)).2 r_6 he46
      have hnum := num_step (a := M10 0 10) (r := r_6) (by omega) hdg
      have hpl := (hd_11 (by omega)).1
      refine wp_bnd (fun M_7 eM_7 => ?_)
      refine wp_bnd (fun M_8 eM_8 => ?_)
      exact ih10 M_8 ⟨(fun a i q0 => ((congrFun (congrFun eM_8 a) i).trans ((mset_ne (fun h9 => q0 (Or.inl h9))).trans ((congrFun (congrFun eM_7 a) i).trans ((mset_ne (fun h9 => q0 (Or.inr (h9)))).trans ((hf_M10 a i (fun z8 => q0 ((fun z9 => Or.elim z9 (fun h9 => Or.inl h9) (fun h9 => Or.inr (h9))) z8))).trans rfl)))))), ⟨cg + 1, by omega, by (have f0 := t_lit 1; have f1 := t_add (M_7 0 7) (nI 1); have f2 := congrArg Int32.toInt ((congrFun (congrFun eM_8 0) 7).trans mset_eq); have f3 := congrArg Int32.toInt ((congrFun (congrFun eM_7 0) 7).trans (mset_ne (by omega))); omega), by (rw [eM_8, mset_ne (by omega), eM_7, mset_eq, hnum]; omega), by (rw [eM_8, mset_ne (by omega), eM_7, mset_eq, hnum, Int.pow_succ]; omega), by (have f0 := t_lit 1; have f1 := t_add (M_7 0 7) (nI 1); have f2 := congrArg Int32.toInt ((congrFun (congrFun eM_8 0) 7).trans mset_eq); have f3 := congrArg Int32.toInt ((congrFun (congrFun eM_7 0) 7).trans (mset_ne (by omega))); omega)⟩⟩ (by have f0 := congrArg Int32.toInt ((congrFun (congrFun eM_8 0) 8).trans (mset_ne (by omega))); have f1 := congrArg Int32.toInt ((congrFun (congrFun eM_7 0) 8).trans (mset_ne (by omega))); have f2 := congrArg Int32.toInt (hf_M10 0 8 (by omega)); have f3 := congrArg Int32.toInt ((congrFun (congrFun eM_2 0) 8).trans (mset_ne (by omega))); have f4 := congrArg Int32.toInt ((congrFun (congrFun eM_8 0) 7).trans mset_eq); have f5 := t_lit 1; have f6 := t_add (M_7 0 7) (nI 1); have f7 := congrArg Int32.toInt ((congrFun (congrFun eM_7 0) 7).trans (mset_ne (by omega))); omega)
theorem isDigit_congr {M M' : Mem} (h1 : M' 0 7 = M 0 7) (h2 : M' 0 8 = M 0 8) (h3 : M' 5 = M 5) : f_X10_isDigit M' = f_X10_isDigit M := by
  unfold f_X10_isDigit f_X10_here
  rw [h1, h2, h3]
theorem o_X10_readsAmount (M : Mem) (hp : 0 ≤ (M 0 7).toInt ∧ (M 0 7).toInt ≤ (M 0 8).toInt ∧ (M 0 8).toInt ≤ 240) : Wp (f_X10_readsAmount M) (fun q => (q.1 = 0 ∨ q.1 = 1) ∧ (∀ a i, ¬ ((a = 0 ∧ i = 7) ∨ (a = 0 ∧ i = 9) ∨ (a = 0 ∧ i = 10)) → q.2 a i = M a i) ∧ ((M 0 7).toInt ≤ (q.2 0 7).toInt ∧ (q.2 0 7).toInt ≤ (M 0 8).toInt ∧ (¬ q.1.toInt = 0 → (M 0 7).toInt < (q.2 0 7).toInt)) ∧ (¬ q.1.toInt = 0 → 0 ≤ (q.2 0 10).toInt ∧ (q.2 0 10).toInt ≤ 99)) := by
  refine wp_bnd (fun x_1 ex_1 => ?_)
  have hv_x_1 := congrArg Int32.toInt ex_1
  refine wp_bind2 (o_X10_isDigit M (by omega)) (fun r_2 he6 hq6 => ?_)
  obtain ⟨hz_r_2, hd_6⟩ := hq6
  replace hd_6 : ¬ r_2.toInt = 0 → (M 0 7).toInt < (M 0 8).toInt ∧ ∀ d, f_X10_here M = some d → 48 ≤ d.toInt ∧ d.toInt ≤ 57 := hd_6
  refine wp_ite (fun c9 => ?_) (fun c9 => ?_)
  · refine wp_cb2 (o_X10_wrongAt M (nI 1) (M 0 7)) (fun r_10 M_11 he18 hq18 => ?_)
    obtain ⟨hz_r_10, hg_M_11, hw_18⟩ := hq18
    replace hw_18 : r_10.toInt = 0 := hw_18
    have := t_lit 1
    replace hg_M_11 : ∀ a i, ¬ ((a = 0 ∧ i = 9)) → M_11 a i = M a i := hg_M_11
    refine wp_gb hz_r_10 ?_
    exact wp_some ⟨hz_r_10, (fun a i q0 => ((hg_M_11 a i (fun h9 => q0 (Or.inr (Or.inl h9)))).trans rfl)), (by show (M 0 7).toInt ≤ (M_11 0 7).toInt ∧ (M_11 0 7).toInt ≤ (M 0 8).toInt ∧ (¬ r_10.toInt = 0 → (M 0 7).toInt < (M_11 0 7).toInt); have f0 := congrArg Int32.toInt (hg_M_11 0 7 (by omega)); omega), (by show ¬ r_10.toInt = 0 → 0 ≤ (M_11 0 10).toInt ∧ (M_11 0 10).toInt ≤ 99; have f0 := congrArg Int32.toInt (hg_M_11 0 10 (by omega)); omega)⟩
  · refine wp_bnd (fun M_3 eM_3 => ?_)
    refine wp_lp1 (fun M27 => (∀ a i, ¬ ((a = 0 ∧ i = 7) ∨ (a = 0 ∧ i = 10)) → M27 a i = M_3 a i) ∧ (∃ c : Nat, c ≤ 2 ∧ (M27 0 7).toInt = x_1.toInt + c ∧ 0 ≤ (M27 0 10).toInt ∧ (M27 0 10).toInt < (10 : Int) ^ c ∧ (M27 0 7).toInt ≤ (M 0 8).toInt) ∧ ((M27 0 7).toInt = x_1.toInt → f_X10_isDigit M27 = some r_2)) (fun M27 => ((M27 0 8).toInt - (M27 0 7).toInt).toNat) (fun ag27 M27 hI27 ih27 => ?_) FU M_3 ⟨(fun _ _ _ => rfl), ⟨0, by omega, by (have f0 := congrArg Int32.toInt ((congrFun (congrFun eM_3 0) 7).trans (mset_ne (by omega))); omega), by (rw [eM_3, mset_eq]; decide), by (rw [eM_3, mset_eq]; decide), by (have f0 := congrArg Int32.toInt ((congrFun (congrFun eM_3 0) 7).trans (mset_ne (by omega))); omega)⟩, (fun _ => (isDigit_congr ((congrFun (congrFun eM_3 0) 7).trans (mset_ne (by omega))) ((congrFun (congrFun eM_3 0) 8).trans (mset_ne (by omega))) (by rw [eM_3, mset_n (by omega)])).trans he6)⟩ (fu_lt (by have f0 := congrArg Int32.toInt ((congrFun (congrFun eM_3 0) 8).trans (mset_ne (by omega))); have f1 := congrArg Int32.toInt ((congrFun (congrFun eM_3 0) 7).trans (mset_ne (by omega))); omega))
    obtain ⟨hf_M27, hc27, hdz⟩ := hI27
    obtain ⟨cg, hc1, hc2, hc3, hc4, hc6⟩ := hc27
    have hc5 := pow10_le hc1
    have hc7 : (10 : Int) ^ 2 = 100 := by decide
    have f8 := congrArg Int32.toInt (hf_M27 0 8 (by omega))
    have f9 := congrArg Int32.toInt ((congrFun (congrFun eM_3 0) 8).trans (mset_ne (by omega)))
    have fl5 := t_add x_1 (nI 2)
    have fl6 := t_lit 2
    refine wp_bind2 (o_X10_isDigit M27 (by have f0 := congrArg Int32.toInt (hf_M27 0 8 (by omega)); have f1 := congrArg Int32.toInt ((congrFun (congrFun eM_3 0) 8).trans (mset_ne (by omega))); omega)) (fun r_4 he28 hq28 => ?_)
    obtain ⟨hz_r_4, hd_28⟩ := hq28
    replace hd_28 : ¬ r_4.toInt = 0 → (M27 0 7).toInt < (M27 0 8).toInt ∧ ∀ d, f_X10_here M27 = some d → 48 ≤ d.toInt ∧ d.toInt ≤ 57 := hd_28
    refine wp_ite (fun c31 => ?_) (fun c31 => ?_)
    · exact wp_some ⟨b01_1, (fun a i q0 => ((hf_M27 a i (fun z8 => q0 ((fun z9 => Or.elim z9 (fun h9 => Or.inl h9) (fun h9 => Or.inr (Or.inr (h9)))) z8))).trans ((congrFun (congrFun eM_3 a) i).trans ((mset_ne (fun h9 => q0 (Or.inr (Or.inr (h9))))).trans rfl)))), (by show (M 0 7).toInt ≤ (M27 0 7).toInt ∧ (M27 0 7).toInt ≤ (M 0 8).toInt ∧ (¬ (nI 1).toInt = 0 → (M 0 7).toInt < (M27 0 7).toInt); have h8 : ¬ (M27 0 7).toInt = x_1.toInt := (fun z => by have h9 := hdz z; rw [he28] at h9; cases h9; exact c9 c31); omega), (by show ¬ (nI 1).toInt = 0 → 0 ≤ (M27 0 10).toInt ∧ (M27 0 10).toInt ≤ 99; have f0 := t_lit 1; omega)⟩
    · have j44 : Wp (f_X10_readsAmount_L44 M27) (fun q => (q.1 = 0 ∨ q.1 = 1) ∧ (∀ a i, ¬ ((a = 0 ∧ i = 7) ∨ (a = 0 ∧ i = 9) ∨ (a = 0 ∧ i = 10)) → q.2 a i = M a i) ∧ ((M 0 7).toInt ≤ (q.2 0 7).toInt ∧ (q.2 0 7).toInt ≤ (M 0 8).toInt ∧ (¬ q.1.toInt = 0 → (M 0 7).toInt < (q.2 0 7).toInt)) ∧ (¬ q.1.toInt = 0 → 0 ≤ (q.2 0 10).toInt ∧ (q.2 0 10).toInt ≤ 99)) := by
        unfold f_X10_readsAmount_L44
        refine wp_cb2 (o_X10_wrongAt M27 (nI 2) (M27 0 7)) (fun r_5 M_6 he50 hq50 => ?_)
        obtain ⟨hz_r_5, hg_M_6, hw_50⟩ := hq50
        replace hw_50 : r_5.toInt = 0 := hw_50
        have := t_lit 2
        replace hg_M_6 : ∀ a i, ¬ ((a = 0 ∧ i = 9)) → M_6 a i = M27 a i := hg_M_6
        refine wp_gb hz_r_5 ?_
        exact wp_some ⟨hz_r_5, (fun a i q0 => ((hg_M_6 a i (fun h9 => q0 (Or.inr (Or.inl h9)))).trans ((hf_M27 a i (fun z8 => q0 ((fun z9 => Or.elim z9 (fun h9 => Or.inl h9) (fun h9 => Or.inr (Or.inr (h9)))) z8))).trans ((congrFun (congrFun eM_3 a) i).trans ((mset_ne (fun h9 => q0 (Or.inr (Or.inr (h9))))).trans rfl))))), (by show (M 0 7).toInt ≤ (M_6 0 7).toInt ∧ (M_6 0 7).toInt ≤ (M 0 8).toInt ∧ (¬ r_5.toInt = 0 → (M 0 7).toInt < (M_6 0 7).toInt); have f0 := congrArg Int32.toInt (hg_M_6 0 7 (by omega)); omega), (by show ¬ r_5.toInt = 0 → 0 ≤ (M_6 0 10).toInt ∧ (M_6 0 10).toInt ≤ 99; have f0 := congrArg Int32.toInt (hg_M_6 0 10 (by omega)); omega)⟩
      refine wp_ite (fun c41 => ?_) (fun c41 => ?_)
      · exact j44
      · refine wp_bind2 (o_X10_here M27 (by have f0 := congrArg Int32.toInt (hf_M27 0 8 (by omega)); have f1 := congrArg Int32.toInt ((congrFun (congrFun eM_3 0) 8).trans (mset_ne (by omega))); have f2 := t_lit 2; have f3 := t_add x_1 (nI 2); have f4 := congrArg Int32.toInt ex_1; omega)) (fun r_7 he63 hq63 => ?_)
        have hh_63 := hq63
        replace hh_63 : (r_7.toInt = -1 ∧ (M27 0 7).toInt = (M27 0 8).toInt) ∨ (0 ≤ r_7.toInt ∧ r_7.toInt ≤ 255 ∧ (M27 0 7).toInt < (M27 0 8).toInt) := hh_63
        have hdg := (hd_28 (by omega)).2 r_7 he63
        have hnum := num_step (a := M27 0 10) (r := r_7) (by omega) hdg
        have hpl := (hd_28 (by omega)).1
        refine wp_bnd (fun M_8 eM_8 => ?_)
        refine wp_bnd (fun M_9 eM_9 => ?_)
        exact ih27 M_9 ⟨(fun a i q0 => ((congrFun (congrFun eM_9 a) i).trans ((mset_ne (fun h9 => q0 (Or.inl h9))).trans ((congrFun (congrFun eM_8 a) i).trans ((mset_ne (fun h9 => q0 (Or.inr (h9)))).trans ((hf_M27 a i (fun z8 => q0 ((fun z9 => Or.elim z9 (fun h9 => Or.inl h9) (fun h9 => Or.inr (h9))) z8))).trans rfl)))))), ⟨cg + 1, by omega, by (have f0 := t_lit 1; have f1 := t_add (M_8 0 7) (nI 1); have f2 := congrArg Int32.toInt ((congrFun (congrFun eM_9 0) 7).trans mset_eq); have f3 := congrArg Int32.toInt ((congrFun (congrFun eM_8 0) 7).trans (mset_ne (by omega))); omega), by (rw [eM_9, mset_ne (by omega), eM_8, mset_eq, hnum]; omega), by (rw [eM_9, mset_ne (by omega), eM_8, mset_eq, hnum, Int.pow_succ]; omega), by (have f0 := t_lit 1; have f1 := t_add (M_8 0 7) (nI 1); have f2 := congrArg Int32.toInt ((congrFun (congrFun eM_9 0) 7).trans mset_eq); have f3 := congrArg Int32.toInt ((congrFun (congrFun eM_8 0) 7).trans (mset_ne (by omega))); omega)⟩, (fun z => absurd z (by have f0 := t_lit 1; have f1 := t_add (M_8 0 7) (nI 1); have f2 := congrArg Int32.toInt ((congrFun (congrFun eM_9 0) 7).trans mset_eq); have f3 := congrArg Int32.toInt ((congrFun (congrFun eM_8 0) 7).trans (mset_ne (by omega))); omega))⟩ (by have f0 := congrArg Int32.toInt ((congrFun (congrFun eM_9 0) 8).trans (mset_ne (by omega))); have f1 := congrArg Int32.toInt ((congrFun (congrFun eM_8 0) 8).trans (mset_ne (by omega))); have f2 := congrArg Int32.toInt (hf_M27 0 8 (by omega)); have f3 := congrArg Int32.toInt ((congrFun (congrFun eM_3 0) 8).trans (mset_ne (by omega))); have f4 := congrArg Int32.toInt ((congrFun (congrFun eM_9 0) 7).trans mset_eq); have f5 := t_lit 1; have f6 := t_add (M_8 0 7) (nI 1); have f7 := congrArg Int32.toInt ((congrFun (congrFun eM_8 0) 7).trans (mset_ne (by omega))); omega)
theorem o_X10_readsBetween (M : Mem) (v1 : Int32) (v2 : Int32) (hp : 0 ≤ (M 0 7).toInt ∧ (M 0 7).toInt ≤ (M 0 8).toInt ∧ (M 0 8).toInt ≤ 240) : Wp (f_X10_readsBetween M v1 v2) (fun q => (q.1 = 0 ∨ q.1 = 1) ∧ (∀ a i, ¬ ((a = 0 ∧ i = 7) ∨ (a = 0 ∧ i = 9) ∨ (a = 0 ∧ i = 10)) → q.2 a i = M a i) ∧ ((M 0 7).toInt ≤ (q.2 0 7).toInt ∧ (q.2 0 7).toInt ≤ (M 0 8).toInt ∧ (¬ q.1.toInt = 0 → (M 0 7).toInt < (q.2 0 7).toInt)) ∧ (¬ q.1.toInt = 0 → v1.toInt ≤ (q.2 0 10).toInt ∧ (q.2 0 10).toInt ≤ v2.toInt)) := by
  refine wp_bnd (fun x_1 ex_1 => ?_)
  have hv_x_1 := congrArg Int32.toInt ex_1
  refine wp_cb2 (o_X10_readsAmount M (by omega)) (fun r_2 M_3 he6 hq6 => ?_)
  obtain ⟨hz_r_2, hg_M_3, hp_6, hn_6⟩ := hq6
  replace hp_6 : (M 0 7).toInt ≤ (M_3 0 7).toInt ∧ (M_3 0 7).toInt ≤ (M 0 8).toInt ∧ (¬ r_2.toInt = 0 → (M 0 7).toInt < (M_3 0 7).toInt) := hp_6
  replace hn_6 : ¬ r_2.toInt = 0 → 0 ≤ (M_3 0 10).toInt ∧ (M_3 0 10).toInt ≤ 99 := hn_6
  replace hg_M_3 : ∀ a i, ¬ ((a = 0 ∧ i = 7) ∨ (a = 0 ∧ i = 9) ∨ (a = 0 ∧ i = 10)) → M_3 a i = M a i := hg_M_3
  refine wp_ite (fun c9 => ?_) (fun c9 => ?_)
  · exact wp_some ⟨b01_0, (fun a i q0 => ((hg_M_3 a i (fun z8 => q0 ((fun z9 => Or.elim z9 (fun h9 => Or.inl h9) (fun z9 => Or.elim z9 (fun h9 => Or.inr (Or.inl h9)) (fun h9 => Or.inr (Or.inr (h9))))) z8))).trans rfl)), (by show (M 0 7).toInt ≤ (M_3 0 7).toInt ∧ (M_3 0 7).toInt ≤ (M 0 8).toInt ∧ (¬ (nI 0).toInt = 0 → (M 0 7).toInt < (M_3 0 7).toInt); have f0 := t_lit 0; omega), (by show ¬ (nI 0).toInt = 0 → v1.toInt ≤ (M_3 0 10).toInt ∧ (M_3 0 10).toInt ≤ v2.toInt; have f0 := t_lit 0; omega)⟩
  · refine wp_bind2 (o_X10_in M_3 (M_3 0 10) v1 v2) (fun r_4 he20 hq20 => ?_)
    obtain ⟨hz_r_4, hr_20⟩ := hq20
    replace hr_20 : ¬ r_4.toInt = 0 → v1.toInt ≤ (M_3 0 10).toInt ∧ (M_3 0 10).toInt ≤ v2.toInt := hr_20
    refine wp_ite (fun c23 => ?_) (fun c23 => ?_)
    · refine wp_cb2 (o_X10_wrongAt M_3 (nI 3) x_1) (fun r_5 M_6 he29 hq29 => ?_)
      obtain ⟨hz_r_5, hg_M_6, hw_29⟩ := hq29
      replace hw_29 : r_5.toInt = 0 := hw_29
      have := t_lit 3
      replace hg_M_6 : ∀ a i, ¬ ((a = 0 ∧ i = 9)) → M_6 a i = M_3 a i := hg_M_6
      refine wp_ite (fun c32 => ?_) (fun c32 => ?_)
      · exact wp_some ⟨b01_0, (fun a i q0 => ((hg_M_6 a i (fun h9 => q0 (Or.inr (Or.inl h9)))).trans ((hg_M_3 a i (fun z8 => q0 ((fun z9 => Or.elim z9 (fun h9 => Or.inl h9) (fun z9 => Or.elim z9 (fun h9 => Or.inr (Or.inl h9)) (fun h9 => Or.inr (Or.inr (h9))))) z8))).trans rfl))), (by show (M 0 7).toInt ≤ (M_6 0 7).toInt ∧ (M_6 0 7).toInt ≤ (M 0 8).toInt ∧ (¬ (nI 0).toInt = 0 → (M 0 7).toInt < (M_6 0 7).toInt); have f0 := congrArg Int32.toInt (hg_M_6 0 7 (by omega)); have f1 := t_lit 0; omega), (by show ¬ (nI 0).toInt = 0 → v1.toInt ≤ (M_6 0 10).toInt ∧ (M_6 0 10).toInt ≤ v2.toInt; have f0 := t_lit 0; have f1 := congrArg Int32.toInt (hg_M_6 0 10 (by omega)); omega)⟩
      · exact wp_some ⟨b01_1, (fun a i q0 => ((hg_M_6 a i (fun h9 => q0 (Or.inr (Or.inl h9)))).trans ((hg_M_3 a i (fun z8 => q0 ((fun z9 => Or.elim z9 (fun h9 => Or.inl h9) (fun z9 => Or.elim z9 (fun h9 => Or.inr (Or.inl h9)) (fun h9 => Or.inr (Or.inr (h9))))) z8))).trans rfl))), (by show (M 0 7).toInt ≤ (M_6 0 7).toInt ∧ (M_6 0 7).toInt ≤ (M 0 8).toInt ∧ (¬ (nI 1).toInt = 0 → (M 0 7).toInt < (M_6 0 7).toInt); have f0 := congrArg Int32.toInt (hg_M_6 0 7 (by omega)); have f1 := t_lit 1; omega), (by show ¬ (nI 1).toInt = 0 → v1.toInt ≤ (M_6 0 10).toInt ∧ (M_6 0 10).toInt ≤ v2.toInt; have f0 := t_lit 1; have f1 := congrArg Int32.toInt (hg_M_6 0 10 (by omega)); omega)⟩
    · exact wp_some ⟨b01_1, (fun a i q0 => ((hg_M_3 a i (fun z8 => q0 ((fun z9 => Or.elim z9 (fun h9 => Or.inl h9) (fun z9 => Or.elim z9 (fun h9 => Or.inr (Or.inl h9)) (fun h9 => Or.inr (Or.inr (h9))))) z8))).trans rfl)), (by show (M 0 7).toInt ≤ (M_3 0 7).toInt ∧ (M_3 0 7).toInt ≤ (M 0 8).toInt ∧ (¬ (nI 1).toInt = 0 → (M 0 7).toInt < (M_3 0 7).toInt); have f0 := t_lit 1; omega), (by show ¬ (nI 1).toInt = 0 → v1.toInt ≤ (M_3 0 10).toInt ∧ (M_3 0 10).toInt ≤ v2.toInt; have f0 := t_lit 1; omega)⟩
theorem o_X10_readsLine (M : Mem) (hp : 0 ≤ (M 0 7).toInt ∧ (M 0 7).toInt ≤ (M 0 8).toInt ∧ (M 0 8).toInt ≤ 240) (hl : 0 ≤ (M 0 33).toInt ∧ (M 0 33).toInt ≤ 40) (hk : (∀ j : Nat, (j : Int) < (M 0 33).toInt → 1 ≤ (M 20 j).toInt ∧ (M 20 j).toInt ≤ 20 ∧ 0 ≤ (M 21 j).toInt ∧ (M 21 j).toInt ≤ 9)) : Wp (f_X10_readsLine M) (fun q => (q.1 = 0 ∨ q.1 = 1) ∧ (∀ a i, ¬ ((a = 0 ∧ i = 7) ∨ (a = 0 ∧ i = 9) ∨ (a = 0 ∧ i = 10) ∨ (a = 0 ∧ i = 33) ∨ a = 19 ∨ a = 20 ∨ a = 21 ∨ a = 22) → q.2 a i = M a i) ∧ ((M 0 7).toInt ≤ (q.2 0 7).toInt ∧ (q.2 0 7).toInt ≤ (M 0 8).toInt ∧ (¬ q.1.toInt = 0 → (M 0 7).toInt < (q.2 0 7).toInt)) ∧ (¬ q.1.toInt = 0 → (q.2 0 33).toInt = (M 0 33).toInt + 1 ∧ (∀ j : Nat, (j : Int) < (q.2 0 33).toInt → 1 ≤ (q.2 20 j).toInt ∧ (q.2 20 j).toInt ≤ 20 ∧ 0 ≤ (q.2 21 j).toInt ∧ (q.2 21 j).toInt ≤ 9))) := by
  refine wp_bnd (fun x_1 ex_1 => ?_)
  have hv_x_1 := congrArg Int32.toInt ex_1
  refine wp_bind2 (o_X10_isDigit M (by omega)) (fun r_2 he6 hq6 => ?_)
  obtain ⟨hz_r_2, hd_6⟩ := hq6
  replace hd_6 : ¬ r_2.toInt = 0 → (M 0 7).toInt < (M 0 8).toInt ∧ ∀ d, f_X10_here M = some d → 48 ≤ d.toInt ∧ d.toInt ≤ 57 := hd_6
  refine wp_ite (fun c9 => ?_) (fun c9 => ?_)
  · refine wp_cb2 (o_X10_wrongAt M (nI 1) (M 0 7)) (fun r_29 M_30 he18 hq18 => ?_)
    obtain ⟨hz_r_29, hg_M_30, hw_18⟩ := hq18
    replace hw_18 : r_29.toInt = 0 := hw_18
    have := t_lit 1
    replace hg_M_30 : ∀ a i, ¬ ((a = 0 ∧ i = 9)) → M_30 a i = M a i := hg_M_30
    refine wp_gb hz_r_29 ?_
    exact wp_some ⟨hz_r_29, (fun a i q0 => ((hg_M_30 a i (fun h9 => q0 (Or.inr (Or.inl h9)))).trans rfl)), (by show (M 0 7).toInt ≤ (M_30 0 7).toInt ∧ (M_30 0 7).toInt ≤ (M 0 8).toInt ∧ (¬ r_29.toInt = 0 → (M 0 7).toInt < (M_30 0 7).toInt); have f0 := congrArg Int32.toInt (hg_M_30 0 7 (by omega)); omega), (fun h => absurd hw_18 h)⟩
  · refine wp_ite (fun c28 => ?_) (fun c28 => ?_)
    · refine wp_cb2 (o_X10_wrongAt M (nI 4) (M 0 7)) (fun r_27 M_28 he37 hq37 => ?_)
      obtain ⟨hz_r_27, hg_M_28, hw_37⟩ := hq37
      replace hw_37 : r_27.toInt = 0 := hw_37
      have := t_lit 4
      replace hg_M_28 : ∀ a i, ¬ ((a = 0 ∧ i = 9)) → M_28 a i = M a i := hg_M_28
      refine wp_gb hz_r_27 ?_
      exact wp_some ⟨hz_r_27, (fun a i q0 => ((hg_M_28 a i (fun h9 => q0 (Or.inr (Or.inl h9)))).trans rfl)), (by show (M 0 7).toInt ≤ (M_28 0 7).toInt ∧ (M_28 0 7).toInt ≤ (M 0 8).toInt ∧ (¬ r_27.toInt = 0 → (M 0 7).toInt < (M_28 0 7).toInt); have f0 := congrArg Int32.toInt (hg_M_28 0 7 (by omega)); omega), (fun h => absurd hw_37 h)⟩
    · refine wp_cb2 (o_X10_readsBetween M (nI 0) (nI 39) (by have f0 := t_lit 0; have f1 := t_lit 39; omega)) (fun r_3 M_4 he45 hq45 => ?_)
      obtain ⟨hz_r_3, hg_M_4, hp_45, hn_45⟩ := hq45
      replace hp_45 : (M 0 7).toInt ≤ (M_4 0 7).toInt ∧ (M_4 0 7).toInt ≤ (M 0 8).toInt ∧ (¬ r_3.toInt = 0 → (M 0 7).toInt < (M_4 0 7).toInt) := hp_45
      have := t_lit 0
      have := t_lit 39
      replace hn_45 : ¬ r_3.toInt = 0 → (nI 0).toInt ≤ (M_4 0 10).toInt ∧ (M_4 0 10).toInt ≤ (nI 39).toInt := hn_45
      have := t_lit 0
      have := t_lit 39
      replace hg_M_4 : ∀ a i, ¬ ((a = 0 ∧ i = 7) ∨ (a = 0 ∧ i = 9) ∨ (a = 0 ∧ i = 10)) → M_4 a i = M a i := hg_M_4
      have hl4 : (M_4 0 33).toInt = (M 0 33).toInt := congrArg Int32.toInt (hg_M_4 0 33 (by omega))
      have hl4b := congrArg Int32.toInt (hg_M_4 0 8 (by omega))
      refine wp_ite (fun c48 => ?_) (fun c48 => ?_)
      · exact wp_some ⟨b01_0, (fun a i q0 => ((hg_M_4 a i (fun z8 => q0 ((fun z9 => Or.elim z9 (fun h9 => Or.inl h9) (fun z9 => Or.elim z9 (fun h9 => Or.inr (Or.inl h9)) (fun h9 => Or.inr (Or.inr (Or.inl h9))))) z8))).trans rfl)), (by show (M 0 7).toInt ≤ (M_4 0 7).toInt ∧ (M_4 0 7).toInt ≤ (M 0 8).toInt ∧ (¬ (nI 0).toInt = 0 → (M 0 7).toInt < (M_4 0 7).toInt); have f0 := t_lit 0; omega), (fun h => absurd nI0 h)⟩
      · refine wp_gd (by have f0 := congrArg Int32.toInt (hg_M_4 0 33 (by omega)); omega) ?_
        refine wp_bnd (fun M_5 eM_5 => ?_)
        have hl5 : (M_5 0 33).toInt = (M 0 33).toInt := by rw [eM_5, mset_ne (by omega)]; exact hl4
        have hp5 := congrArg Int32.toInt ((congrFun (congrFun eM_5 0) 7).trans (mset_ne (by omega)))
        have hp5b := congrArg Int32.toInt ((congrFun (congrFun eM_5 0) 8).trans (mset_ne (by omega)))
        refine wp_cb2 (o_X10_takesSign M_5 (nI 44) (by have f0 := congrArg Int32.toInt ((congrFun (congrFun eM_5 0) 7).trans (mset_ne (by omega))); have f1 := congrArg Int32.toInt ((congrFun (congrFun eM_5 0) 8).trans (mset_ne (by omega))); have f2 := congrArg Int32.toInt (hg_M_4 0 8 (by omega)); have f3 := t_lit 44; omega) (by have f0 := t_lit 44; omega)) (fun r_6 M_7 he69 hq69 => ?_)
        obtain ⟨hz_r_6, hg_M_7, hp_69⟩ := hq69
        replace hp_69 : (M_5 0 7).toInt ≤ (M_7 0 7).toInt ∧ (M_7 0 7).toInt ≤ (M_5 0 8).toInt ∧ (¬ r_6.toInt = 0 → (M_5 0 7).toInt < (M_7 0 7).toInt) := hp_69
        have := t_lit 44
        replace hg_M_7 : ∀ a i, ¬ ((a = 0 ∧ i = 7) ∨ (a = 0 ∧ i = 9)) → M_7 a i = M_5 a i := hg_M_7
        have hl7 : (M_7 0 33).toInt = (M 0 33).toInt := by rw [hg_M_7 0 33 (by omega)]; exact hl5
        have hl7b := congrArg Int32.toInt (hg_M_7 0 8 (by omega))
        refine wp_ite (fun c72 => ?_) (fun c72 => ?_)
        · exact wp_some ⟨b01_0, (fun a i q0 => ((hg_M_7 a i (fun z8 => q0 ((fun z9 => Or.elim z9 (fun h9 => Or.inl h9) (fun h9 => Or.inr (Or.inl h9))) z8))).trans ((congrFun (congrFun eM_5 a) i).trans ((mset_ne (fun h9 => q0 (Or.inr (Or.inr (Or.inr (Or.inr (Or.inl (h9).1))))))).trans ((hg_M_4 a i (fun z8 => q0 ((fun z9 => Or.elim z9 (fun h9 => Or.inl h9) (fun z9 => Or.elim z9 (fun h9 => Or.inr (Or.inl h9)) (fun h9 => Or.inr (Or.inr (Or.inl h9))))) z8))).trans rfl))))), (by show (M 0 7).toInt ≤ (M_7 0 7).toInt ∧ (M_7 0 7).toInt ≤ (M 0 8).toInt ∧ (¬ (nI 0).toInt = 0 → (M 0 7).toInt < (M_7 0 7).toInt); have f0 := t_lit 0; omega), (fun h => absurd nI0 h)⟩
        · refine wp_cb2 (o_X10_readsBetween M_7 (nI 1) (nI 20) (by have f0 := congrArg Int32.toInt (hg_M_7 0 8 (by omega)); have f1 := congrArg Int32.toInt ((congrFun (congrFun eM_5 0) 8).trans (mset_ne (by omega))); have f2 := congrArg Int32.toInt (hg_M_4 0 8 (by omega)); have f3 := t_lit 1; have f4 := t_lit 20; omega)) (fun r_8 M_9 he79 hq79 => ?_)
          obtain ⟨hz_r_8, hg_M_9, hp_79, hn_79⟩ := hq79
          replace hp_79 : (M_7 0 7).toInt ≤ (M_9 0 7).toInt ∧ (M_9 0 7).toInt ≤ (M_7 0 8).toInt ∧ (¬ r_8.toInt = 0 → (M_7 0 7).toInt < (M_9 0 7).toInt) := hp_79
          have := t_lit 1
          have := t_lit 20
          replace hn_79 : ¬ r_8.toInt = 0 → (nI 1).toInt ≤ (M_9 0 10).toInt ∧ (M_9 0 10).toInt ≤ (nI 20).toInt := hn_79
          have := t_lit 1
          have := t_lit 20
          replace hg_M_9 : ∀ a i, ¬ ((a = 0 ∧ i = 7) ∨ (a = 0 ∧ i = 9) ∨ (a = 0 ∧ i = 10)) → M_9 a i = M_7 a i := hg_M_9
          have hl9 : (M_9 0 33).toInt = (M 0 33).toInt := by rw [hg_M_9 0 33 (by omega)]; exact hl7
          have hl9b := congrArg Int32.toInt (hg_M_9 0 8 (by omega))
          refine wp_ite (fun c82 => ?_) (fun c82 => ?_)
          · exact wp_some ⟨b01_0, (fun a i q0 => ((hg_M_9 a i (fun z8 => q0 ((fun z9 => Or.elim z9 (fun h9 => Or.inl h9) (fun z9 => Or.elim z9 (fun h9 => Or.inr (Or.inl h9)) (fun h9 => Or.inr (Or.inr (Or.inl h9))))) z8))).trans ((hg_M_7 a i (fun z8 => q0 ((fun z9 => Or.elim z9 (fun h9 => Or.inl h9) (fun h9 => Or.inr (Or.inl h9))) z8))).trans ((congrFun (congrFun eM_5 a) i).trans ((mset_ne (fun h9 => q0 (Or.inr (Or.inr (Or.inr (Or.inr (Or.inl (h9).1))))))).trans ((hg_M_4 a i (fun z8 => q0 ((fun z9 => Or.elim z9 (fun h9 => Or.inl h9) (fun z9 => Or.elim z9 (fun h9 => Or.inr (Or.inl h9)) (fun h9 => Or.inr (Or.inr (Or.inl h9))))) z8))).trans rfl)))))), (by show (M 0 7).toInt ≤ (M_9 0 7).toInt ∧ (M_9 0 7).toInt ≤ (M 0 8).toInt ∧ (¬ (nI 0).toInt = 0 → (M 0 7).toInt < (M_9 0 7).toInt); have f0 := t_lit 0; omega), (fun h => absurd nI0 h)⟩
          · refine wp_gd (by have f0 := congrArg Int32.toInt (hg_M_9 0 33 (by omega)); have f1 := congrArg Int32.toInt (hg_M_7 0 33 (by omega)); have f2 := congrArg Int32.toInt ((congrFun (congrFun eM_5 0) 33).trans (mset_ne (by omega))); have f3 := congrArg Int32.toInt (hg_M_4 0 33 (by omega)); omega) ?_
            refine wp_bnd (fun M_10 eM_10 => ?_)
            have hl10 : (M_10 0 33).toInt = (M 0 33).toInt := by rw [eM_10, mset_ne (by omega)]; exact hl9
            have hp10 := congrArg Int32.toInt ((congrFun (congrFun eM_10 0) 7).trans (mset_ne (by omega)))
            have hp10b := congrArg Int32.toInt ((congrFun (congrFun eM_10 0) 8).trans (mset_ne (by omega)))
            refine wp_lp1 (fun y2_102 => (0 ≤ y2_102.toInt)) (fun y2_102 => ((M_10 0 33).toInt - y2_102.toInt).toNat) (fun ag102 y2_102 hI102 ih102 => ?_) FU (nI 0) (by decide) (fu_lt (by have f0 := congrArg Int32.toInt ((congrFun (congrFun eM_10 0) 33).trans (mset_ne (by omega))); have f1 := congrArg Int32.toInt (hg_M_9 0 33 (by omega)); have f2 := congrArg Int32.toInt (hg_M_7 0 33 (by omega)); have f3 := congrArg Int32.toInt ((congrFun (congrFun eM_5 0) 33).trans (mset_ne (by omega))); have f4 := congrArg Int32.toInt (hg_M_4 0 33 (by omega)); have f5 := t_lit 0; omega))
            have h2 := hI102
            have j160 : Wp (f_X10_readsLine_L160 M_10) (fun q => (q.1 = 0 ∨ q.1 = 1) ∧ (∀ a i, ¬ ((a = 0 ∧ i = 7) ∨ (a = 0 ∧ i = 9) ∨ (a = 0 ∧ i = 10) ∨ (a = 0 ∧ i = 33) ∨ a = 19 ∨ a = 20 ∨ a = 21 ∨ a = 22) → q.2 a i = M a i) ∧ ((M 0 7).toInt ≤ (q.2 0 7).toInt ∧ (q.2 0 7).toInt ≤ (M 0 8).toInt ∧ (¬ q.1.toInt = 0 → (M 0 7).toInt < (q.2 0 7).toInt)) ∧ (¬ q.1.toInt = 0 → (q.2 0 33).toInt = (M 0 33).toInt + 1 ∧ (∀ j : Nat, (j : Int) < (q.2 0 33).toInt → 1 ≤ (q.2 20 j).toInt ∧ (q.2 20 j).toInt ≤ 20 ∧ 0 ≤ (q.2 21 j).toInt ∧ (q.2 21 j).toInt ≤ 9))) := by
              unfold f_X10_readsLine_L160
              refine wp_gd (by have f0 := congrArg Int32.toInt ((congrFun (congrFun eM_10 0) 33).trans (mset_ne (by omega))); have f1 := congrArg Int32.toInt (hg_M_9 0 33 (by omega)); have f2 := congrArg Int32.toInt (hg_M_7 0 33 (by omega)); have f3 := congrArg Int32.toInt ((congrFun (congrFun eM_5 0) 33).trans (mset_ne (by omega))); have f4 := congrArg Int32.toInt (hg_M_4 0 33 (by omega)); omega) ?_
              refine wp_bnd (fun M_11 eM_11 => ?_)
              refine wp_gd (by have f0 := congrArg Int32.toInt ((congrFun (congrFun eM_11 0) 33).trans (mset_ne (by omega))); have f1 := congrArg Int32.toInt ((congrFun (congrFun eM_10 0) 33).trans (mset_ne (by omega))); have f2 := congrArg Int32.toInt (hg_M_9 0 33 (by omega)); have f3 := congrArg Int32.toInt (hg_M_7 0 33 (by omega)); have f4 := congrArg Int32.toInt ((congrFun (congrFun eM_5 0) 33).trans (mset_ne (by omega))); have f5 := congrArg Int32.toInt (hg_M_4 0 33 (by omega)); omega) ?_
              refine wp_bnd (fun M_12 eM_12 => ?_)
              have fx := t_ixn (M_9 0 33) (by omega)
              have fx2 := t_ixn (M_10 0 33) (by omega)
              have hl12 : (M_12 0 33).toInt = (M 0 33).toInt ∧ ∀ j : Nat, (j : Int) ≤ (M 0 33).toInt → 1 ≤ (M_12 20 j).toInt ∧ (M_12 20 j).toInt ≤ 20 ∧ 0 ≤ (M_12 21 j).toInt ∧ (M_12 21 j).toInt ≤ 9 := ⟨by rw [eM_12, mset_ne (by omega), eM_11, mset_ne (by omega)]; exact hl10, fun j hj => by
                rw [eM_12, mset_ne (by omega), mset_ne (by omega), eM_11, mset_ne (by omega), mset_get, eM_10, mset_get, mset_ne (by omega)]
                have e20 : M_9 20 j = M 20 j := by rw [hg_M_9 20 j (by omega), hg_M_7 20 j (by omega), eM_5, mset_ne (by omega), hg_M_4 20 j (by omega)]
                have e21 : M_9 21 j = M 21 j := by rw [hg_M_9 21 j (by omega), hg_M_7 21 j (by omega), eM_5, mset_ne (by omega), hg_M_4 21 j (by omega)]
                by_cases hj2 : j = ix (M_9 0 33)
                · rw [if_pos ⟨rfl, hj2⟩, if_pos ⟨rfl, by omega⟩]
                  have h20 := hn_79 (by omega)
                  have fl1 := t_lit 1
                  have fl20 := t_lit 20
                  have fl0 := t_lit 0
                  omega
                · rw [if_neg (fun z => hj2 z.2), if_neg (fun z => hj2 (by omega)), e20, mset_ne (by omega), e21]
                  exact hk j (by omega)⟩
              have hp12 : (M 0 7).toInt < (M_12 0 7).toInt ∧ (M_12 0 7).toInt ≤ (M 0 8).toInt := by
                rw [eM_12, mset_ne (by omega), eM_11, mset_ne (by omega)]
                omega
              have hp12b : (M_12 0 8).toInt = (M 0 8).toInt := by
                rw [eM_12, mset_ne (by omega), eM_11, mset_ne (by omega)]
                omega
              refine wp_bind2 (o_X10_here M_12 (by have f0 := congrArg Int32.toInt ((congrFun (congrFun eM_12 0) 7).trans (mset_ne (by omega))); have f1 := congrArg Int32.toInt ((congrFun (congrFun eM_11 0) 7).trans (mset_ne (by omega))); have f2 := congrArg Int32.toInt ((congrFun (congrFun eM_10 0) 7).trans (mset_ne (by omega))); have f3 := congrArg Int32.toInt ((congrFun (congrFun eM_12 0) 8).trans (mset_ne (by omega))); have f4 := congrArg Int32.toInt ((congrFun (congrFun eM_11 0) 8).trans (mset_ne (by omega))); have f5 := congrArg Int32.toInt ((congrFun (congrFun eM_10 0) 8).trans (mset_ne (by omega))); have f6 := congrArg Int32.toInt (hg_M_9 0 8 (by omega)); have f7 := congrArg Int32.toInt (hg_M_7 0 8 (by omega)); have f8 := congrArg Int32.toInt ((congrFun (congrFun eM_5 0) 8).trans (mset_ne (by omega))); have f9 := congrArg Int32.toInt (hg_M_4 0 8 (by omega)); omega)) (fun r_13 he181 hq181 => ?_)
              have hh_181 := hq181
              replace hh_181 : (r_13.toInt = -1 ∧ (M_12 0 7).toInt = (M_12 0 8).toInt) ∨ (0 ≤ r_13.toInt ∧ r_13.toInt ≤ 255 ∧ (M_12 0 7).toInt < (M_12 0 8).toInt) := hh_181
              have j242 : ∀ (N242 : Mem), (∀ a i, ¬ ((a = 0 ∧ i = 7) ∨ a = 21) → N242 a i = M_12 a i) → ((N242 0 33).toInt = (M 0 33).toInt ∧ ∀ j : Nat, (j : Int) ≤ (M 0 33).toInt → 1 ≤ (N242 20 j).toInt ∧ (N242 20 j).toInt ≤ 20 ∧ 0 ≤ (N242 21 j).toInt ∧ (N242 21 j).toInt ≤ 9) → ((M 0 7).toInt < (N242 0 7).toInt ∧ (N242 0 7).toInt ≤ (M 0 8).toInt) → Wp (f_X10_readsLine_L242 N242) (fun q => (q.1 = 0 ∨ q.1 = 1) ∧ (∀ a i, ¬ ((a = 0 ∧ i = 7) ∨ (a = 0 ∧ i = 9) ∨ (a = 0 ∧ i = 10) ∨ (a = 0 ∧ i = 33) ∨ a = 19 ∨ a = 20 ∨ a = 21 ∨ a = 22) → q.2 a i = M a i) ∧ ((M 0 7).toInt ≤ (q.2 0 7).toInt ∧ (q.2 0 7).toInt ≤ (M 0 8).toInt ∧ (¬ q.1.toInt = 0 → (M 0 7).toInt < (q.2 0 7).toInt)) ∧ (¬ q.1.toInt = 0 → (q.2 0 33).toInt = (M 0 33).toInt + 1 ∧ (∀ j : Nat, (j : Int) < (q.2 0 33).toInt → 1 ≤ (q.2 20 j).toInt ∧ (q.2 20 j).toInt ≤ 20 ∧ 0 ≤ (q.2 21 j).toInt ∧ (q.2 21 j).toInt ≤ 9))) := by
                intro N242 hf_N242 h242 p242
                unfold f_X10_readsLine_L242
                have g8 : (N242 0 8).toInt = (M 0 8).toInt := by rw [hf_N242 0 8 (by omega)]; exact hp12b
                refine wp_bind2 (o_X10_here N242 (by have f0 := congrArg Int32.toInt (hf_N242 0 8 (by omega)); have f1 := congrArg Int32.toInt ((congrFun (congrFun eM_12 0) 8).trans (mset_ne (by omega))); have f2 := congrArg Int32.toInt ((congrFun (congrFun eM_11 0) 8).trans (mset_ne (by omega))); have f3 := congrArg Int32.toInt ((congrFun (congrFun eM_10 0) 8).trans (mset_ne (by omega))); have f4 := congrArg Int32.toInt (hg_M_9 0 8 (by omega)); have f5 := congrArg Int32.toInt (hg_M_7 0 8 (by omega)); have f6 := congrArg Int32.toInt ((congrFun (congrFun eM_5 0) 8).trans (mset_ne (by omega))); have f7 := congrArg Int32.toInt (hg_M_4 0 8 (by omega)); omega)) (fun r_14 he243 hq243 => ?_)
                have hh_243 := hq243
                replace hh_243 : (r_14.toInt = -1 ∧ (N242 0 7).toInt = (N242 0 8).toInt) ∨ (0 ≤ r_14.toInt ∧ r_14.toInt ≤ 255 ∧ (N242 0 7).toInt < (N242 0 8).toInt) := hh_243
                have j271 : ∀ (N271 : Mem), (∀ a i, ¬ ((a = 0 ∧ i = 7) ∨ a = 22) → N271 a i = N242 a i) → ((N271 0 33).toInt = (M 0 33).toInt ∧ ∀ j : Nat, (j : Int) ≤ (M 0 33).toInt → 1 ≤ (N271 20 j).toInt ∧ (N271 20 j).toInt ≤ 20 ∧ 0 ≤ (N271 21 j).toInt ∧ (N271 21 j).toInt ≤ 9) → ((M 0 7).toInt < (N271 0 7).toInt ∧ (N271 0 7).toInt ≤ (M 0 8).toInt) → Wp (f_X10_readsLine_L271 N271) (fun q => (q.1 = 0 ∨ q.1 = 1) ∧ (∀ a i, ¬ ((a = 0 ∧ i = 7) ∨ (a = 0 ∧ i = 9) ∨ (a = 0 ∧ i = 10) ∨ (a = 0 ∧ i = 33) ∨ a = 19 ∨ a = 20 ∨ a = 21 ∨ a = 22) → q.2 a i = M a i) ∧ ((M 0 7).toInt ≤ (q.2 0 7).toInt ∧ (q.2 0 7).toInt ≤ (M 0 8).toInt ∧ (¬ q.1.toInt = 0 → (M 0 7).toInt < (q.2 0 7).toInt)) ∧ (¬ q.1.toInt = 0 → (q.2 0 33).toInt = (M 0 33).toInt + 1 ∧ (∀ j : Nat, (j : Int) < (q.2 0 33).toInt → 1 ≤ (q.2 20 j).toInt ∧ (q.2 20 j).toInt ≤ 20 ∧ 0 ≤ (q.2 21 j).toInt ∧ (q.2 21 j).toInt ≤ 9))) := by
                  intro N271 hf_N271 h271 p271
                  unfold f_X10_readsLine_L271
                  refine wp_bnd (fun M_15 eM_15 => ?_)
                  exact wp_some ⟨b01_1, (fun a i q0 => ((congrFun (congrFun eM_15 a) i).trans ((mset_ne (fun h9 => q0 (Or.inr (Or.inr (Or.inr (Or.inl h9)))))).trans ((hf_N271 a i (fun z8 => q0 ((fun z9 => Or.elim z9 (fun h9 => Or.inl h9) (fun h9 => Or.inr (Or.inr (Or.inr (Or.inr (Or.inr (Or.inr (Or.inr (h9))))))))) z8))).trans ((hf_N242 a i (fun z8 => q0 ((fun z9 => Or.elim z9 (fun h9 => Or.inl h9) (fun h9 => Or.inr (Or.inr (Or.inr (Or.inr (Or.inr (Or.inr (Or.inl h9)))))))) z8))).trans ((congrFun (congrFun eM_12 a) i).trans ((mset_ne (fun h9 => q0 (Or.inr (Or.inr (Or.inr (Or.inr (Or.inr (Or.inr (Or.inr ((h9).1)))))))))).trans ((congrFun (congrFun eM_11 a) i).trans ((mset_ne (fun h9 => q0 (Or.inr (Or.inr (Or.inr (Or.inr (Or.inr (Or.inr (Or.inl (h9).1))))))))).trans ((congrFun (congrFun eM_10 a) i).trans ((mset_ne (fun h9 => q0 (Or.inr (Or.inr (Or.inr (Or.inr (Or.inr (Or.inl (h9).1)))))))).trans ((hg_M_9 a i (fun z8 => q0 ((fun z9 => Or.elim z9 (fun h9 => Or.inl h9) (fun z9 => Or.elim z9 (fun h9 => Or.inr (Or.inl h9)) (fun h9 => Or.inr (Or.inr (Or.inl h9))))) z8))).trans ((hg_M_7 a i (fun z8 => q0 ((fun z9 => Or.elim z9 (fun h9 => Or.inl h9) (fun h9 => Or.inr (Or.inl h9))) z8))).trans ((congrFun (congrFun eM_5 a) i).trans ((mset_ne (fun h9 => q0 (Or.inr (Or.inr (Or.inr (Or.inr (Or.inl (h9).1))))))).trans ((hg_M_4 a i (fun z8 => q0 ((fun z9 => Or.elim z9 (fun h9 => Or.inl h9) (fun z9 => Or.elim z9 (fun h9 => Or.inr (Or.inl h9)) (fun h9 => Or.inr (Or.inr (Or.inl h9))))) z8))).trans rfl)))))))))))))))), (by show (M 0 7).toInt ≤ (M_15 0 7).toInt ∧ (M_15 0 7).toInt ≤ (M 0 8).toInt ∧ (¬ (nI 1).toInt = 0 → (M 0 7).toInt < (M_15 0 7).toInt); have f0 := congrArg Int32.toInt ((congrFun (congrFun eM_15 0) 7).trans (mset_ne (by omega))); have f1 := t_lit 1; omega), (fun _ => ⟨by have f0 := congrArg Int32.toInt ((congrFun (congrFun eM_15 0) 33).trans mset_eq); have f1 := t_inc (N271 0 33) 1 (by omega); show (M_15 0 33).toInt = (M 0 33).toInt + 1; omega, fun j hj => by have f0 := congrArg Int32.toInt ((congrFun (congrFun eM_15 0) 33).trans mset_eq); have f1 := t_inc (N271 0 33) 1 (by omega); have hj : (j : Int) < (M_15 0 33).toInt := hj; show 1 ≤ (M_15 20 j).toInt ∧ (M_15 20 j).toInt ≤ 20 ∧ 0 ≤ (M_15 21 j).toInt ∧ (M_15 21 j).toInt ≤ 9; rw [eM_15, mset_ne (by omega), mset_ne (by omega)]; exact h271.2 j (by omega)⟩)⟩
                refine wp_ite (fun c248 => ?_) (fun c248 => ?_)
                · refine wp_bnd (fun M_16 eM_16 => ?_)
                  refine wp_gd (by have f0 := congrArg Int32.toInt ((congrFun (congrFun eM_16 0) 33).trans (mset_ne (by omega))); have f1 := congrArg Int32.toInt (hf_N242 0 33 (by omega)); have f2 := congrArg Int32.toInt ((congrFun (congrFun eM_12 0) 33).trans (mset_ne (by omega))); have f3 := congrArg Int32.toInt ((congrFun (congrFun eM_11 0) 33).trans (mset_ne (by omega))); have f4 := congrArg Int32.toInt ((congrFun (congrFun eM_10 0) 33).trans (mset_ne (by omega))); have f5 := congrArg Int32.toInt (hg_M_9 0 33 (by omega)); have f6 := congrArg Int32.toInt (hg_M_7 0 33 (by omega)); have f7 := congrArg Int32.toInt ((congrFun (congrFun eM_5 0) 33).trans (mset_ne (by omega))); have f8 := congrArg Int32.toInt (hg_M_4 0 33 (by omega)); omega) ?_
                  refine wp_bnd (fun M_17 eM_17 => ?_)
                  exact j271 M_17 (fun a i q0 => ((congrFun (congrFun eM_17 a) i).trans ((mset_ne (fun h9 => q0 (Or.inr ((h9).1)))).trans ((congrFun (congrFun eM_16 a) i).trans ((mset_ne (fun h9 => q0 (Or.inl h9))).trans rfl))))) ⟨by rw [eM_17, mset_ne (by omega), eM_16, mset_ne (by omega)]; exact h242.1, fun j hj => by rw [eM_17, mset_ne (by omega), mset_ne (by omega), eM_16, mset_ne (by omega), mset_ne (by omega)]; exact h242.2 j hj⟩ (by have f0 := t_inc (N242 0 7) 1 (by omega); have f1 := congrArg Int32.toInt ((congrFun (congrFun eM_16 0) 7).trans mset_eq); have f2 := congrArg Int32.toInt ((congrFun (congrFun eM_17 0) 7).trans (mset_ne (by omega))); omega)
                · exact j271 N242 (fun _ _ _ => rfl) h242 p242
              refine wp_ite (fun c186 => ?_) (fun c186 => ?_)
              · refine wp_bnd (fun M_18 eM_18 => ?_)
                have hp18 := congrArg Int32.toInt ((congrFun (congrFun eM_18 0) 7).trans mset_eq)
                have hp18b := congrArg Int32.toInt ((congrFun (congrFun eM_18 0) 8).trans (mset_ne (by omega)))
                have hp18c := t_inc (M_12 0 7) 1 (by omega)
                have hl18 : (M_18 0 33).toInt = (M 0 33).toInt := by rw [eM_18, mset_ne (by omega)]; exact hl12.1
                refine wp_bind2 (o_X10_isDigit M_18 (by have f0 := congrArg Int32.toInt ((congrFun (congrFun eM_18 0) 7).trans mset_eq); have f1 := t_lit 1; have f2 := t_add (M_12 0 7) (nI 1); have f3 := congrArg Int32.toInt ((congrFun (congrFun eM_12 0) 7).trans (mset_ne (by omega))); have f4 := congrArg Int32.toInt ((congrFun (congrFun eM_11 0) 7).trans (mset_ne (by omega))); have f5 := congrArg Int32.toInt ((congrFun (congrFun eM_10 0) 7).trans (mset_ne (by omega))); have f6 := congrArg Int32.toInt ((congrFun (congrFun eM_18 0) 8).trans (mset_ne (by omega))); have f7 := congrArg Int32.toInt ((congrFun (congrFun eM_12 0) 8).trans (mset_ne (by omega))); have f8 := congrArg Int32.toInt ((congrFun (congrFun eM_11 0) 8).trans (mset_ne (by omega))); have f9 := congrArg Int32.toInt ((congrFun (congrFun eM_10 0) 8).trans (mset_ne (by omega))); have f10 := congrArg Int32.toInt (hg_M_9 0 8 (by omega)); have f11 := congrArg Int32.toInt (hg_M_7 0 8 (by omega)); have f12 := congrArg Int32.toInt ((congrFun (congrFun eM_5 0) 8).trans (mset_ne (by omega))); have f13 := congrArg Int32.toInt (hg_M_4 0 8 (by omega)); omega)) (fun r_19 he200 hq200 => ?_)
                obtain ⟨hz_r_19, hd_200⟩ := hq200
                replace hd_200 : ¬ r_19.toInt = 0 → (M_18 0 7).toInt < (M_18 0 8).toInt ∧ ∀ d, f_X10_here M_18 = some d → 48 ≤ d.toInt ∧ d.toInt ≤ 57 := hd_200
                refine wp_ite (fun c203 => ?_) (fun c203 => ?_)
                · refine wp_cb2 (o_X10_wrongAt M_18 (nI 1) (M_18 0 7)) (fun r_23 M_24 he212 hq212 => ?_)
                  obtain ⟨hz_r_23, hg_M_24, hw_212⟩ := hq212
                  replace hw_212 : r_23.toInt = 0 := hw_212
                  have := t_lit 1
                  replace hg_M_24 : ∀ a i, ¬ ((a = 0 ∧ i = 9)) → M_24 a i = M_18 a i := hg_M_24
                  refine wp_gb hz_r_23 ?_
                  exact wp_some ⟨hz_r_23, (fun a i q0 => ((hg_M_24 a i (fun h9 => q0 (Or.inr (Or.inl h9)))).trans ((congrFun (congrFun eM_18 a) i).trans ((mset_ne (fun h9 => q0 (Or.inl h9))).trans ((congrFun (congrFun eM_12 a) i).trans ((mset_ne (fun h9 => q0 (Or.inr (Or.inr (Or.inr (Or.inr (Or.inr (Or.inr (Or.inr ((h9).1)))))))))).trans ((congrFun (congrFun eM_11 a) i).trans ((mset_ne (fun h9 => q0 (Or.inr (Or.inr (Or.inr (Or.inr (Or.inr (Or.inr (Or.inl (h9).1))))))))).trans ((congrFun (congrFun eM_10 a) i).trans ((mset_ne (fun h9 => q0 (Or.inr (Or.inr (Or.inr (Or.inr (Or.inr (Or.inl (h9).1)))))))).trans ((hg_M_9 a i (fun z8 => q0 ((fun z9 => Or.elim z9 (fun h9 => Or.inl h9) (fun z9 => Or.elim z9 (fun h9 => Or.inr (Or.inl h9)) (fun h9 => Or.inr (Or.inr (Or.inl h9))))) z8))).trans ((hg_M_7 a i (fun z8 => q0 ((fun z9 => Or.elim z9 (fun h9 => Or.inl h9) (fun h9 => Or.inr (Or.inl h9))) z8))).trans ((congrFun (congrFun eM_5 a) i).trans ((mset_ne (fun h9 => q0 (Or.inr (Or.inr (Or.inr (Or.inr (Or.inl (h9).1))))))).trans ((hg_M_4 a i (fun z8 => q0 ((fun z9 => Or.elim z9 (fun h9 => Or.inl h9) (fun z9 => Or.elim z9 (fun h9 => Or.inr (Or.inl h9)) (fun h9 => Or.inr (Or.inr (Or.inl h9))))) z8))).trans rfl))))))))))))))), (by show (M 0 7).toInt ≤ (M_24 0 7).toInt ∧ (M_24 0 7).toInt ≤ (M 0 8).toInt ∧ (¬ r_23.toInt = 0 → (M 0 7).toInt < (M_24 0 7).toInt); have f0 := congrArg Int32.toInt (hg_M_24 0 7 (by omega)); have f1 := congrArg Int32.toInt ((congrFun (congrFun eM_18 0) 7).trans mset_eq); have f2 := t_lit 1; have f3 := t_add (M_12 0 7) (nI 1); have f4 := congrArg Int32.toInt ((congrFun (congrFun eM_12 0) 7).trans (mset_ne (by omega))); have f5 := congrArg Int32.toInt ((congrFun (congrFun eM_11 0) 7).trans (mset_ne (by omega))); have f6 := congrArg Int32.toInt ((congrFun (congrFun eM_10 0) 7).trans (mset_ne (by omega))); omega), (fun h => absurd hw_212 h)⟩
                · refine wp_bind2 (o_X10_here M_18 (by have f0 := congrArg Int32.toInt ((congrFun (congrFun eM_18 0) 7).trans mset_eq); have f1 := t_lit 1; have f2 := t_add (M_12 0 7) (nI 1); have f3 := congrArg Int32.toInt ((congrFun (congrFun eM_12 0) 7).trans (mset_ne (by omega))); have f4 := congrArg Int32.toInt ((congrFun (congrFun eM_11 0) 7).trans (mset_ne (by omega))); have f5 := congrArg Int32.toInt ((congrFun (congrFun eM_10 0) 7).trans (mset_ne (by omega))); have f6 := congrArg Int32.toInt ((congrFun (congrFun eM_18 0) 8).trans (mset_ne (by omega))); have f7 := congrArg Int32.toInt ((congrFun (congrFun eM_12 0) 8).trans (mset_ne (by omega))); have f8 := congrArg Int32.toInt ((congrFun (congrFun eM_11 0) 8).trans (mset_ne (by omega))); have f9 := congrArg Int32.toInt ((congrFun (congrFun eM_10 0) 8).trans (mset_ne (by omega))); have f10 := congrArg Int32.toInt (hg_M_9 0 8 (by omega)); have f11 := congrArg Int32.toInt (hg_M_7 0 8 (by omega)); have f12 := congrArg Int32.toInt ((congrFun (congrFun eM_5 0) 8).trans (mset_ne (by omega))); have f13 := congrArg Int32.toInt (hg_M_4 0 8 (by omega)); omega)) (fun r_20 he225 hq225 => ?_)
                  have hh_225 := hq225
                  replace hh_225 : (r_20.toInt = -1 ∧ (M_18 0 7).toInt = (M_18 0 8).toInt) ∨ (0 ≤ r_20.toInt ∧ r_20.toInt ≤ 255 ∧ (M_18 0 7).toInt < (M_18 0 8).toInt) := hh_225
                  have hdg := (hd_200 (by omega)).2 r_20 he225
                  have hdp := (hd_200 (by omega)).1
                  refine wp_gd (by have f0 := congrArg Int32.toInt ((congrFun (congrFun eM_18 0) 33).trans (mset_ne (by omega))); have f1 := congrArg Int32.toInt ((congrFun (congrFun eM_12 0) 33).trans (mset_ne (by omega))); have f2 := congrArg Int32.toInt ((congrFun (congrFun eM_11 0) 33).trans (mset_ne (by omega))); have f3 := congrArg Int32.toInt ((congrFun (congrFun eM_10 0) 33).trans (mset_ne (by omega))); have f4 := congrArg Int32.toInt (hg_M_9 0 33 (by omega)); have f5 := congrArg Int32.toInt (hg_M_7 0 33 (by omega)); have f6 := congrArg Int32.toInt ((congrFun (congrFun eM_5 0) 33).trans (mset_ne (by omega))); have f7 := congrArg Int32.toInt (hg_M_4 0 33 (by omega)); omega) ?_
                  refine wp_bnd (fun M_21 eM_21 => ?_)
                  refine wp_bnd (fun M_22 eM_22 => ?_)
                  have hp21 := congrArg Int32.toInt ((congrFun (congrFun eM_21 0) 7).trans (mset_ne (by omega)))
                  have hl12a := hl12.1
                  have fx3 := t_ixn (M_12 0 33) (by omega)
                  have f48 := t_sub r_20 (nI 48)
                  have f49 := t_lit 48
                  have hl22 : (M_22 0 33).toInt = (M 0 33).toInt ∧ ∀ j : Nat, (j : Int) ≤ (M 0 33).toInt → 1 ≤ (M_22 20 j).toInt ∧ (M_22 20 j).toInt ≤ 20 ∧ 0 ≤ (M_22 21 j).toInt ∧ (M_22 21 j).toInt ≤ 9 := ⟨by rw [eM_22, mset_ne (by omega), eM_21, mset_ne (by omega)]; exact hl18, fun j hj => by
                    have h12 := hl12.2 j hj
                    rw [eM_22, mset_ne (by omega), mset_ne (by omega), eM_21, mset_ne (by omega), mset_get, eM_18, mset_ne (by omega), mset_ne (by omega)]
                    by_cases hj2 : j = ix (M_12 0 33)
                    · rw [if_pos ⟨rfl, hj2⟩]
                      omega
                    · rw [if_neg (fun z => hj2 z.2)]
                      exact h12⟩
                  exact j242 M_22 (fun a i q0 => ((congrFun (congrFun eM_22 a) i).trans ((mset_ne (fun h9 => q0 (Or.inl h9))).trans ((congrFun (congrFun eM_21 a) i).trans ((mset_ne (fun h9 => q0 (Or.inr ((h9).1)))).trans ((congrFun (congrFun eM_18 a) i).trans ((mset_ne (fun h9 => q0 (Or.inl h9))).trans rfl))))))) hl22 (by have f0 := t_inc (M_21 0 7) 1 (by omega); have f1 := congrArg Int32.toInt ((congrFun (congrFun eM_22 0) 7).trans mset_eq); omega)
              · exact j242 M_12 (fun _ _ _ => rfl) hl12 hp12
            refine wp_ite (fun c107 => ?_) (fun c107 => ?_)
            · exact j160
            · refine wp_gd (by have f0 := congrArg Int32.toInt ((congrFun (congrFun eM_10 0) 33).trans (mset_ne (by omega))); have f1 := congrArg Int32.toInt (hg_M_9 0 33 (by omega)); have f2 := congrArg Int32.toInt (hg_M_7 0 33 (by omega)); have f3 := congrArg Int32.toInt ((congrFun (congrFun eM_5 0) 33).trans (mset_ne (by omega))); have f4 := congrArg Int32.toInt (hg_M_4 0 33 (by omega)); omega) ?_
              refine wp_gd (by have f0 := congrArg Int32.toInt ((congrFun (congrFun eM_10 0) 33).trans (mset_ne (by omega))); have f1 := congrArg Int32.toInt (hg_M_9 0 33 (by omega)); have f2 := congrArg Int32.toInt (hg_M_7 0 33 (by omega)); have f3 := congrArg Int32.toInt ((congrFun (congrFun eM_5 0) 33).trans (mset_ne (by omega))); have f4 := congrArg Int32.toInt (hg_M_4 0 33 (by omega)); omega) ?_
              refine wp_ite (fun c125 => ?_) (fun c125 => ?_)
              · refine wp_gd (by have f0 := congrArg Int32.toInt ((congrFun (congrFun eM_10 0) 33).trans (mset_ne (by omega))); have f1 := congrArg Int32.toInt (hg_M_9 0 33 (by omega)); have f2 := congrArg Int32.toInt (hg_M_7 0 33 (by omega)); have f3 := congrArg Int32.toInt ((congrFun (congrFun eM_5 0) 33).trans (mset_ne (by omega))); have f4 := congrArg Int32.toInt (hg_M_4 0 33 (by omega)); have f5 := congrArg Int32.toInt ((congrFun (congrFun eM_10 19) (ix y2_102)).trans (mset_ne (by omega))); have f6 := congrArg Int32.toInt (hg_M_9 19 (ix y2_102) (by omega)); have f7 := congrArg Int32.toInt (hg_M_7 19 (ix y2_102) (by omega)); have f8 := congrArg Int32.toInt ((congrFun (congrFun eM_10 19) (ix (M_10 0 33))).trans (mset_ne (by omega))); have f9 := congrArg Int32.toInt (hg_M_9 19 (ix (M_10 0 33)) (by omega)); have f10 := congrArg Int32.toInt (hg_M_7 19 (ix (M_10 0 33)) (by omega)); omega) ?_
                refine wp_gd (by have f0 := congrArg Int32.toInt ((congrFun (congrFun eM_10 0) 33).trans (mset_ne (by omega))); have f1 := congrArg Int32.toInt (hg_M_9 0 33 (by omega)); have f2 := congrArg Int32.toInt (hg_M_7 0 33 (by omega)); have f3 := congrArg Int32.toInt ((congrFun (congrFun eM_5 0) 33).trans (mset_ne (by omega))); have f4 := congrArg Int32.toInt (hg_M_4 0 33 (by omega)); have f5 := congrArg Int32.toInt ((congrFun (congrFun eM_10 19) (ix y2_102)).trans (mset_ne (by omega))); have f6 := congrArg Int32.toInt (hg_M_9 19 (ix y2_102) (by omega)); have f7 := congrArg Int32.toInt (hg_M_7 19 (ix y2_102) (by omega)); have f8 := congrArg Int32.toInt ((congrFun (congrFun eM_10 19) (ix (M_10 0 33))).trans (mset_ne (by omega))); have f9 := congrArg Int32.toInt (hg_M_9 19 (ix (M_10 0 33)) (by omega)); have f10 := congrArg Int32.toInt (hg_M_7 19 (ix (M_10 0 33)) (by omega)); omega) ?_
                have j146 : Wp (f_X10_readsLine_L146 x_1 M_10) (fun q => (q.1 = 0 ∨ q.1 = 1) ∧ (∀ a i, ¬ ((a = 0 ∧ i = 7) ∨ (a = 0 ∧ i = 9) ∨ (a = 0 ∧ i = 10) ∨ (a = 0 ∧ i = 33) ∨ a = 19 ∨ a = 20 ∨ a = 21 ∨ a = 22) → q.2 a i = M a i) ∧ ((M 0 7).toInt ≤ (q.2 0 7).toInt ∧ (q.2 0 7).toInt ≤ (M 0 8).toInt ∧ (¬ q.1.toInt = 0 → (M 0 7).toInt < (q.2 0 7).toInt)) ∧ (¬ q.1.toInt = 0 → (q.2 0 33).toInt = (M 0 33).toInt + 1 ∧ (∀ j : Nat, (j : Int) < (q.2 0 33).toInt → 1 ≤ (q.2 20 j).toInt ∧ (q.2 20 j).toInt ≤ 20 ∧ 0 ≤ (q.2 21 j).toInt ∧ (q.2 21 j).toInt ≤ 9))) := by
                  unfold f_X10_readsLine_L146
                  refine wp_cb2 (o_X10_wrongAt M_10 (nI 6) x_1) (fun r_25 M_26 he150 hq150 => ?_)
                  obtain ⟨hz_r_25, hg_M_26, hw_150⟩ := hq150
                  replace hw_150 : r_25.toInt = 0 := hw_150
                  have := t_lit 6
                  replace hg_M_26 : ∀ a i, ¬ ((a = 0 ∧ i = 9)) → M_26 a i = M_10 a i := hg_M_26
                  refine wp_gb hz_r_25 ?_
                  exact wp_some ⟨hz_r_25, (fun a i q0 => ((hg_M_26 a i (fun h9 => q0 (Or.inr (Or.inl h9)))).trans ((congrFun (congrFun eM_10 a) i).trans ((mset_ne (fun h9 => q0 (Or.inr (Or.inr (Or.inr (Or.inr (Or.inr (Or.inl (h9).1)))))))).trans ((hg_M_9 a i (fun z8 => q0 ((fun z9 => Or.elim z9 (fun h9 => Or.inl h9) (fun z9 => Or.elim z9 (fun h9 => Or.inr (Or.inl h9)) (fun h9 => Or.inr (Or.inr (Or.inl h9))))) z8))).trans ((hg_M_7 a i (fun z8 => q0 ((fun z9 => Or.elim z9 (fun h9 => Or.inl h9) (fun h9 => Or.inr (Or.inl h9))) z8))).trans ((congrFun (congrFun eM_5 a) i).trans ((mset_ne (fun h9 => q0 (Or.inr (Or.inr (Or.inr (Or.inr (Or.inl (h9).1))))))).trans ((hg_M_4 a i (fun z8 => q0 ((fun z9 => Or.elim z9 (fun h9 => Or.inl h9) (fun z9 => Or.elim z9 (fun h9 => Or.inr (Or.inl h9)) (fun h9 => Or.inr (Or.inr (Or.inl h9))))) z8))).trans rfl))))))))), (by show (M 0 7).toInt ≤ (M_26 0 7).toInt ∧ (M_26 0 7).toInt ≤ (M 0 8).toInt ∧ (¬ r_25.toInt = 0 → (M 0 7).toInt < (M_26 0 7).toInt); have f0 := congrArg Int32.toInt (hg_M_26 0 7 (by omega)); have f1 := congrArg Int32.toInt ((congrFun (congrFun eM_10 0) 7).trans (mset_ne (by omega))); omega), (fun h => absurd hw_150 h)⟩
                refine wp_ite (fun c143 => ?_) (fun c143 => ?_)
                · exact j146
                · exact ih102 (y2_102 + (nI 1)) (by have f0 := t_lit 1; have f1 := t_add y2_102 (nI 1); have f2 := congrArg Int32.toInt ((congrFun (congrFun eM_10 0) 33).trans (mset_ne (by omega))); have f3 := congrArg Int32.toInt (hg_M_9 0 33 (by omega)); have f4 := congrArg Int32.toInt (hg_M_7 0 33 (by omega)); have f5 := congrArg Int32.toInt ((congrFun (congrFun eM_5 0) 33).trans (mset_ne (by omega))); have f6 := congrArg Int32.toInt (hg_M_4 0 33 (by omega)); have f7 := congrArg Int32.toInt ((congrFun (congrFun eM_10 19) (ix y2_102)).trans (mset_ne (by omega))); have f8 := congrArg Int32.toInt (hg_M_9 19 (ix y2_102) (by omega)); have f9 := congrArg Int32.toInt (hg_M_7 19 (ix y2_102) (by omega)); have f10 := congrArg Int32.toInt ((congrFun (congrFun eM_10 19) (ix (M_10 0 33))).trans (mset_ne (by omega))); have f11 := congrArg Int32.toInt (hg_M_9 19 (ix (M_10 0 33)) (by omega)); have f12 := congrArg Int32.toInt (hg_M_7 19 (ix (M_10 0 33)) (by omega)); omega) (by have f0 := congrArg Int32.toInt ((congrFun (congrFun eM_10 0) 33).trans (mset_ne (by omega))); have f1 := congrArg Int32.toInt (hg_M_9 0 33 (by omega)); have f2 := congrArg Int32.toInt (hg_M_7 0 33 (by omega)); have f3 := congrArg Int32.toInt ((congrFun (congrFun eM_5 0) 33).trans (mset_ne (by omega))); have f4 := congrArg Int32.toInt (hg_M_4 0 33 (by omega)); have f5 := t_lit 1; have f6 := t_add y2_102 (nI 1); have f7 := congrArg Int32.toInt ((congrFun (congrFun eM_10 19) (ix y2_102)).trans (mset_ne (by omega))); have f8 := congrArg Int32.toInt (hg_M_9 19 (ix y2_102) (by omega)); have f9 := congrArg Int32.toInt (hg_M_7 19 (ix y2_102) (by omega)); have f10 := congrArg Int32.toInt ((congrFun (congrFun eM_10 19) (ix (M_10 0 33))).trans (mset_ne (by omega))); have f11 := congrArg Int32.toInt (hg_M_9 19 (ix (M_10 0 33)) (by omega)); have f12 := congrArg Int32.toInt (hg_M_7 19 (ix (M_10 0 33)) (by omega)); omega)
              · exact ih102 (y2_102 + (nI 1)) (by have f0 := t_lit 1; have f1 := t_add y2_102 (nI 1); have f2 := congrArg Int32.toInt ((congrFun (congrFun eM_10 0) 33).trans (mset_ne (by omega))); have f3 := congrArg Int32.toInt (hg_M_9 0 33 (by omega)); have f4 := congrArg Int32.toInt (hg_M_7 0 33 (by omega)); have f5 := congrArg Int32.toInt ((congrFun (congrFun eM_5 0) 33).trans (mset_ne (by omega))); have f6 := congrArg Int32.toInt (hg_M_4 0 33 (by omega)); have f7 := congrArg Int32.toInt ((congrFun (congrFun eM_10 19) (ix y2_102)).trans (mset_ne (by omega))); have f8 := congrArg Int32.toInt (hg_M_9 19 (ix y2_102) (by omega)); have f9 := congrArg Int32.toInt (hg_M_7 19 (ix y2_102) (by omega)); have f10 := congrArg Int32.toInt ((congrFun (congrFun eM_10 19) (ix (M_10 0 33))).trans (mset_ne (by omega))); have f11 := congrArg Int32.toInt (hg_M_9 19 (ix (M_10 0 33)) (by omega)); have f12 := congrArg Int32.toInt (hg_M_7 19 (ix (M_10 0 33)) (by omega)); omega) (by have f0 := congrArg Int32.toInt ((congrFun (congrFun eM_10 0) 33).trans (mset_ne (by omega))); have f1 := congrArg Int32.toInt (hg_M_9 0 33 (by omega)); have f2 := congrArg Int32.toInt (hg_M_7 0 33 (by omega)); have f3 := congrArg Int32.toInt ((congrFun (congrFun eM_5 0) 33).trans (mset_ne (by omega))); have f4 := congrArg Int32.toInt (hg_M_4 0 33 (by omega)); have f5 := t_lit 1; have f6 := t_add y2_102 (nI 1); have f7 := congrArg Int32.toInt ((congrFun (congrFun eM_10 19) (ix y2_102)).trans (mset_ne (by omega))); have f8 := congrArg Int32.toInt (hg_M_9 19 (ix y2_102) (by omega)); have f9 := congrArg Int32.toInt (hg_M_7 19 (ix y2_102) (by omega)); have f10 := congrArg Int32.toInt ((congrFun (congrFun eM_10 19) (ix (M_10 0 33))).trans (mset_ne (by omega))); have f11 := congrArg Int32.toInt (hg_M_9 19 (ix (M_10 0 33)) (by omega)); have f12 := congrArg Int32.toInt (hg_M_7 19 (ix (M_10 0 33)) (by omega)); omega)
theorem o_X10_readsHops (M : Mem) (hp : 0 ≤ (M 0 7).toInt ∧ (M 0 7).toInt ≤ (M 0 8).toInt ∧ (M 0 8).toInt ≤ 240) (hw : 0 ≤ (M 0 49).toInt ∧ (M 0 49).toInt ≤ 60) : Wp (f_X10_readsHops M) (fun q => (q.1 = 0 ∨ q.1 = 1) ∧ (∀ a i, ¬ ((a = 0 ∧ i = 7) ∨ (a = 0 ∧ i = 9) ∨ (a = 0 ∧ i = 10) ∨ (a = 0 ∧ i = 49) ∨ a = 32 ∨ a = 33) → q.2 a i = M a i) ∧ ((M 0 7).toInt ≤ (q.2 0 7).toInt ∧ (q.2 0 7).toInt ≤ (M 0 8).toInt ∧ (¬ q.1.toInt = 0 → (M 0 7).toInt < (q.2 0 7).toInt)) ∧ ((M 0 49).toInt ≤ (q.2 0 49).toInt ∧ (q.2 0 49).toInt ≤ 60)) := by
  refine wp_bnd (fun x_1 ex_1 => ?_)
  have hv_x_1 := congrArg Int32.toInt ex_1
  refine wp_lp4 (fun M12 y2_12 y3_12 y4_12 => (∀ a i, ¬ ((a = 0 ∧ i = 7) ∨ (a = 0 ∧ i = 9) ∨ (a = 0 ∧ i = 10)) → M12 a i = M a i) ∧ ((M 0 7).toInt ≤ (M12 0 7).toInt ∧ (M12 0 7).toInt ≤ (M 0 8).toInt ∧ (y4_12.toInt = 0 → (M 0 7).toInt < (M12 0 7).toInt))) (fun M12 y2_12 y3_12 y4_12 => ((M12 0 8).toInt - (M12 0 7).toInt).toNat) (fun ag12 M12 y2_12 y3_12 y4_12 hI12 ih12 => ?_) FU M (nI 0) (nI 0) (nI 1) ⟨(fun _ _ _ => rfl), (by have f0 := t_lit 1; have f1 := t_lit 0; omega)⟩ (fu_lt (by have f0 := t_lit 0; have f1 := t_lit 1; omega))
  obtain ⟨hf_M12, hp12⟩ := hI12
  have f8 := congrArg Int32.toInt (hf_M12 0 8 (by omega))
  have f49 := congrArg Int32.toInt (hf_M12 0 49 (by omega))
  have j204 : (y4_12.toInt = 0) → Wp (f_X10_readsHops_L204 x_1 M12 y2_12 y3_12) (fun q => (q.1 = 0 ∨ q.1 = 1) ∧ (∀ a i, ¬ ((a = 0 ∧ i = 7) ∨ (a = 0 ∧ i = 9) ∨ (a = 0 ∧ i = 10) ∨ (a = 0 ∧ i = 49) ∨ a = 32 ∨ a = 33) → q.2 a i = M a i) ∧ ((M 0 7).toInt ≤ (q.2 0 7).toInt ∧ (q.2 0 7).toInt ≤ (M 0 8).toInt ∧ (¬ q.1.toInt = 0 → (M 0 7).toInt < (q.2 0 7).toInt)) ∧ ((M 0 49).toInt ≤ (q.2 0 49).toInt ∧ (q.2 0 49).toInt ≤ 60)) := by
    intro h204
    unfold f_X10_readsHops_L204
    refine wp_ite (fun c210 => ?_) (fun c210 => ?_)
    · refine wp_cb2 (o_X10_wrongAt M12 (nI 6) x_1) (fun r_5 M_6 he217 hq217 => ?_)
      obtain ⟨hz_r_5, hg_M_6, hw_217⟩ := hq217
      replace hw_217 : r_5.toInt = 0 := hw_217
      have := t_lit 6
      replace hg_M_6 : ∀ a i, ¬ ((a = 0 ∧ i = 9)) → M_6 a i = M12 a i := hg_M_6
      refine wp_gb hz_r_5 ?_
      exact wp_some ⟨hz_r_5, (fun a i q0 => ((hg_M_6 a i (fun h9 => q0 (Or.inr (Or.inl h9)))).trans ((hf_M12 a i (fun z8 => q0 ((fun z9 => Or.elim z9 (fun h9 => Or.inl h9) (fun z9 => Or.elim z9 (fun h9 => Or.inr (Or.inl h9)) (fun h9 => Or.inr (Or.inr (Or.inl h9))))) z8))).trans rfl))), (by show (M 0 7).toInt ≤ (M_6 0 7).toInt ∧ (M_6 0 7).toInt ≤ (M 0 8).toInt ∧ (¬ r_5.toInt = 0 → (M 0 7).toInt < (M_6 0 7).toInt); have f0 := congrArg Int32.toInt (hg_M_6 0 7 (by omega)); omega), (by show (M 0 49).toInt ≤ (M_6 0 49).toInt ∧ (M_6 0 49).toInt ≤ 60; have f0 := congrArg Int32.toInt (hg_M_6 0 49 (by omega)); have f1 := congrArg Int32.toInt (hf_M12 0 49 (by omega)); omega)⟩
    · refine wp_gd (by have f0 := congrArg Int32.toInt (hf_M12 0 49 (by omega)); omega) ?_
      refine wp_bnd (fun M_2 eM_2 => ?_)
      refine wp_gd (by have f0 := congrArg Int32.toInt ((congrFun (congrFun eM_2 0) 49).trans (mset_ne (by omega))); have f1 := congrArg Int32.toInt (hf_M12 0 49 (by omega)); omega) ?_
      refine wp_bnd (fun M_3 eM_3 => ?_)
      refine wp_bnd (fun M_4 eM_4 => ?_)
      exact wp_some ⟨b01_1, (fun a i q0 => ((congrFun (congrFun eM_4 a) i).trans ((mset_ne (fun h9 => q0 (Or.inr (Or.inr (Or.inr (Or.inl h9)))))).trans ((congrFun (congrFun eM_3 a) i).trans ((mset_ne (fun h9 => q0 (Or.inr (Or.inr (Or.inr (Or.inr (Or.inr ((h9).1)))))))).trans ((congrFun (congrFun eM_2 a) i).trans ((mset_ne (fun h9 => q0 (Or.inr (Or.inr (Or.inr (Or.inr (Or.inl (h9).1))))))).trans ((hf_M12 a i (fun z8 => q0 ((fun z9 => Or.elim z9 (fun h9 => Or.inl h9) (fun z9 => Or.elim z9 (fun h9 => Or.inr (Or.inl h9)) (fun h9 => Or.inr (Or.inr (Or.inl h9))))) z8))).trans rfl)))))))), (by show (M 0 7).toInt ≤ (M_4 0 7).toInt ∧ (M_4 0 7).toInt ≤ (M 0 8).toInt ∧ (¬ (nI 1).toInt = 0 → (M 0 7).toInt < (M_4 0 7).toInt); have f0 := congrArg Int32.toInt ((congrFun (congrFun eM_4 0) 7).trans (mset_ne (by omega))); have f1 := congrArg Int32.toInt ((congrFun (congrFun eM_3 0) 7).trans (mset_ne (by omega))); have f2 := congrArg Int32.toInt ((congrFun (congrFun eM_2 0) 7).trans (mset_ne (by omega))); have f3 := t_lit 1; omega), (by show (M 0 49).toInt ≤ (M_4 0 49).toInt ∧ (M_4 0 49).toInt ≤ 60; have f0 := congrArg Int32.toInt ((congrFun (congrFun eM_4 0) 49).trans mset_eq); have f1 := t_lit 1; have f2 := t_add (M_3 0 49) (nI 1); have f3 := congrArg Int32.toInt ((congrFun (congrFun eM_3 0) 49).trans (mset_ne (by omega))); have f4 := congrArg Int32.toInt ((congrFun (congrFun eM_2 0) 49).trans (mset_ne (by omega))); have f5 := congrArg Int32.toInt (hf_M12 0 49 (by omega)); omega)⟩
  refine wp_ite (fun c14 => ?_) (fun c14 => ?_)
  · exact j204 (by omega)
  · refine wp_bind2 (o_X10_here M12 (by have f0 := congrArg Int32.toInt (hf_M12 0 8 (by omega)); omega)) (fun r_7 he18 hq18 => ?_)
    have hh_18 := hq18
    replace hh_18 : (r_7.toInt = -1 ∧ (M12 0 7).toInt = (M12 0 8).toInt) ∨ (0 ≤ r_7.toInt ∧ r_7.toInt ≤ 255 ∧ (M12 0 7).toInt < (M12 0 8).toInt) := hh_18
    have j61 : ((M12 0 7).toInt < (M12 0 8).toInt) → Wp (f_X10_readsHops_L61 ag12 M12 y2_12 y3_12 r_7) (fun q => (q.1 = 0 ∨ q.1 = 1) ∧ (∀ a i, ¬ ((a = 0 ∧ i = 7) ∨ (a = 0 ∧ i = 9) ∨ (a = 0 ∧ i = 10) ∨ (a = 0 ∧ i = 49) ∨ a = 32 ∨ a = 33) → q.2 a i = M a i) ∧ ((M 0 7).toInt ≤ (q.2 0 7).toInt ∧ (q.2 0 7).toInt ≤ (M 0 8).toInt ∧ (¬ q.1.toInt = 0 → (M 0 7).toInt < (q.2 0 7).toInt)) ∧ ((M 0 49).toInt ≤ (q.2 0 49).toInt ∧ (q.2 0 49).toInt ≤ 60)) := by
      intro h61
      unfold f_X10_readsHops_L61
      refine wp_bnd (fun M_8 eM_8 => ?_)
      refine wp_bnd (fun M_9 eM_9 => ?_)
      have fi1 := t_inc (M12 0 7) 1 (by omega)
      have fi2 : (M_9 0 7).toInt = (M12 0 7).toInt + 1 := by rw [eM_9, mset_ne (by omega), eM_8, mset_eq]; exact fi1
      have fi3 : (M_9 0 8).toInt = (M12 0 8).toInt := by rw [eM_9, mset_ne (by omega), eM_8, mset_ne (by omega)]
      refine wp_bind2 (o_X10_isDigit M_9 (by have f0 := congrArg Int32.toInt ((congrFun (congrFun eM_9 0) 7).trans (mset_ne (by omega))); have f1 := congrArg Int32.toInt ((congrFun (congrFun eM_8 0) 7).trans mset_eq); have f2 := t_lit 1; have f3 := t_add (M12 0 7) (nI 1); have f4 := congrArg Int32.toInt ((congrFun (congrFun eM_9 0) 8).trans (mset_ne (by omega))); have f5 := congrArg Int32.toInt ((congrFun (congrFun eM_8 0) 8).trans (mset_ne (by omega))); have f6 := congrArg Int32.toInt (hf_M12 0 8 (by omega)); omega)) (fun r_10 he77 hq77 => ?_)
      obtain ⟨hz_r_10, hd_77⟩ := hq77
      replace hd_77 : ¬ r_10.toInt = 0 → (M_9 0 7).toInt < (M_9 0 8).toInt ∧ ∀ d, f_X10_here M_9 = some d → 48 ≤ d.toInt ∧ d.toInt ≤ 57 := hd_77
      have j92 : ∀ (N92 : Mem), (∀ a i, ¬ ((a = 0 ∧ i = 7) ∨ (a = 0 ∧ i = 9) ∨ (a = 0 ∧ i = 10)) → N92 a i = M_9 a i) → ((M12 0 7).toInt < (N92 0 7).toInt ∧ (N92 0 7).toInt ≤ (M 0 8).toInt) → Wp (f_X10_readsHops_L92 ag12 y2_12 y3_12 r_7 N92) (fun q => (q.1 = 0 ∨ q.1 = 1) ∧ (∀ a i, ¬ ((a = 0 ∧ i = 7) ∨ (a = 0 ∧ i = 9) ∨ (a = 0 ∧ i = 10) ∨ (a = 0 ∧ i = 49) ∨ a = 32 ∨ a = 33) → q.2 a i = M a i) ∧ ((M 0 7).toInt ≤ (q.2 0 7).toInt ∧ (q.2 0 7).toInt ≤ (M 0 8).toInt ∧ (¬ q.1.toInt = 0 → (M 0 7).toInt < (q.2 0 7).toInt)) ∧ ((M 0 49).toInt ≤ (q.2 0 49).toInt ∧ (q.2 0 49).toInt ≤ 60)) := by
        intro N92 hf_N92 h92
        unfold f_X10_readsHops_L92
        have g8 := congrArg Int32.toInt (hf_N92 0 8 (by omega))
        have j123 : ∀ (t0_123 : Int32), Wp (f_X10_readsHops_L123 ag12 y2_12 y3_12 r_7 N92 t0_123) (fun q => (q.1 = 0 ∨ q.1 = 1) ∧ (∀ a i, ¬ ((a = 0 ∧ i = 7) ∨ (a = 0 ∧ i = 9) ∨ (a = 0 ∧ i = 10) ∨ (a = 0 ∧ i = 49) ∨ a = 32 ∨ a = 33) → q.2 a i = M a i) ∧ ((M 0 7).toInt ≤ (q.2 0 7).toInt ∧ (q.2 0 7).toInt ≤ (M 0 8).toInt ∧ (¬ q.1.toInt = 0 → (M 0 7).toInt < (q.2 0 7).toInt)) ∧ ((M 0 49).toInt ≤ (q.2 0 49).toInt ∧ (q.2 0 49).toInt ≤ 60)) := by
          intro t0_123
          unfold f_X10_readsHops_L123
          refine wp_bnd (fun x_11 ex_11 => ?_)
          have j156 : ∀ (t0_156 : Int32), Wp (f_X10_readsHops_L156 ag12 y3_12 N92 x_11 t0_156) (fun q => (q.1 = 0 ∨ q.1 = 1) ∧ (∀ a i, ¬ ((a = 0 ∧ i = 7) ∨ (a = 0 ∧ i = 9) ∨ (a = 0 ∧ i = 10) ∨ (a = 0 ∧ i = 49) ∨ a = 32 ∨ a = 33) → q.2 a i = M a i) ∧ ((M 0 7).toInt ≤ (q.2 0 7).toInt ∧ (q.2 0 7).toInt ≤ (M 0 8).toInt ∧ (¬ q.1.toInt = 0 → (M 0 7).toInt < (q.2 0 7).toInt)) ∧ ((M 0 49).toInt ≤ (q.2 0 49).toInt ∧ (q.2 0 49).toInt ≤ 60)) := by
            intro t0_156
            unfold f_X10_readsHops_L156
            refine wp_bnd (fun x_12 ex_12 => ?_)
            refine wp_bind2 (o_X10_here N92 (by have f0 := congrArg Int32.toInt (hf_N92 0 8 (by omega)); have f1 := congrArg Int32.toInt ((congrFun (congrFun eM_9 0) 8).trans (mset_ne (by omega))); have f2 := congrArg Int32.toInt ((congrFun (congrFun eM_8 0) 8).trans (mset_ne (by omega))); have f3 := congrArg Int32.toInt (hf_M12 0 8 (by omega)); omega)) (fun r_13 he159 hq159 => ?_)
            have hh_159 := hq159
            replace hh_159 : (r_13.toInt = -1 ∧ (N92 0 7).toInt = (N92 0 8).toInt) ∨ (0 ≤ r_13.toInt ∧ r_13.toInt ≤ 255 ∧ (N92 0 7).toInt < (N92 0 8).toInt) := hh_159
            refine wp_ite (fun c164 => ?_) (fun c164 => ?_)
            · exact ih12 N92 x_11 x_12 (nI 1) ⟨(fun a i q0 => ((hf_N92 a i (fun z8 => q0 ((fun z9 => Or.elim z9 (fun h9 => Or.inl h9) (fun z9 => Or.elim z9 (fun h9 => Or.inr (Or.inl h9)) (fun h9 => Or.inr (Or.inr (h9))))) z8))).trans ((congrFun (congrFun eM_9 a) i).trans ((mset_ne (fun h9 => q0 (Or.inr (Or.inr (h9))))).trans ((congrFun (congrFun eM_8 a) i).trans ((mset_ne (fun h9 => q0 (Or.inl h9))).trans ((hf_M12 a i (fun z8 => q0 ((fun z9 => Or.elim z9 (fun h9 => Or.inl h9) (fun z9 => Or.elim z9 (fun h9 => Or.inr (Or.inl h9)) (fun h9 => Or.inr (Or.inr (h9))))) z8))).trans rfl))))))), (by have f0 := t_lit 1; omega)⟩ (by have f0 := congrArg Int32.toInt (hf_N92 0 8 (by omega)); have f1 := congrArg Int32.toInt ((congrFun (congrFun eM_9 0) 8).trans (mset_ne (by omega))); have f2 := congrArg Int32.toInt ((congrFun (congrFun eM_8 0) 8).trans (mset_ne (by omega))); have f3 := congrArg Int32.toInt (hf_M12 0 8 (by omega)); have f4 := t_add y2_12 t0_123; have f5 := congrArg Int32.toInt ex_11; have f6 := t_add y3_12 t0_156; have f7 := congrArg Int32.toInt ex_12; have f8 := t_lit 1; omega)
            · refine wp_bind2 (o_X10_here N92 (by have f0 := congrArg Int32.toInt (hf_N92 0 8 (by omega)); have f1 := congrArg Int32.toInt ((congrFun (congrFun eM_9 0) 8).trans (mset_ne (by omega))); have f2 := congrArg Int32.toInt ((congrFun (congrFun eM_8 0) 8).trans (mset_ne (by omega))); have f3 := congrArg Int32.toInt (hf_M12 0 8 (by omega)); omega)) (fun r_14 he168 hq168 => ?_)
              have hh_168 := hq168
              replace hh_168 : (r_14.toInt = -1 ∧ (N92 0 7).toInt = (N92 0 8).toInt) ∨ (0 ≤ r_14.toInt ∧ r_14.toInt ≤ 255 ∧ (N92 0 7).toInt < (N92 0 8).toInt) := hh_168
              refine wp_ite (fun c173 => ?_) (fun c173 => ?_)
              · exact ih12 N92 x_11 x_12 (nI 1) ⟨(fun a i q0 => ((hf_N92 a i (fun z8 => q0 ((fun z9 => Or.elim z9 (fun h9 => Or.inl h9) (fun z9 => Or.elim z9 (fun h9 => Or.inr (Or.inl h9)) (fun h9 => Or.inr (Or.inr (h9))))) z8))).trans ((congrFun (congrFun eM_9 a) i).trans ((mset_ne (fun h9 => q0 (Or.inr (Or.inr (h9))))).trans ((congrFun (congrFun eM_8 a) i).trans ((mset_ne (fun h9 => q0 (Or.inl h9))).trans ((hf_M12 a i (fun z8 => q0 ((fun z9 => Or.elim z9 (fun h9 => Or.inl h9) (fun z9 => Or.elim z9 (fun h9 => Or.inr (Or.inl h9)) (fun h9 => Or.inr (Or.inr (h9))))) z8))).trans rfl))))))), (by have f0 := t_lit 1; omega)⟩ (by have f0 := congrArg Int32.toInt (hf_N92 0 8 (by omega)); have f1 := congrArg Int32.toInt ((congrFun (congrFun eM_9 0) 8).trans (mset_ne (by omega))); have f2 := congrArg Int32.toInt ((congrFun (congrFun eM_8 0) 8).trans (mset_ne (by omega))); have f3 := congrArg Int32.toInt (hf_M12 0 8 (by omega)); have f4 := t_add y2_12 t0_123; have f5 := congrArg Int32.toInt ex_11; have f6 := t_add y3_12 t0_156; have f7 := congrArg Int32.toInt ex_12; have f8 := t_lit 1; omega)
              · refine wp_bind2 (o_X10_here N92 (by have f0 := congrArg Int32.toInt (hf_N92 0 8 (by omega)); have f1 := congrArg Int32.toInt ((congrFun (congrFun eM_9 0) 8).trans (mset_ne (by omega))); have f2 := congrArg Int32.toInt ((congrFun (congrFun eM_8 0) 8).trans (mset_ne (by omega))); have f3 := congrArg Int32.toInt (hf_M12 0 8 (by omega)); omega)) (fun r_15 he177 hq177 => ?_)
                have hh_177 := hq177
                replace hh_177 : (r_15.toInt = -1 ∧ (N92 0 7).toInt = (N92 0 8).toInt) ∨ (0 ≤ r_15.toInt ∧ r_15.toInt ≤ 255 ∧ (N92 0 7).toInt < (N92 0 8).toInt) := hh_177
                refine wp_ite (fun c182 => ?_) (fun c182 => ?_)
                · exact ih12 N92 x_11 x_12 (nI 1) ⟨(fun a i q0 => ((hf_N92 a i (fun z8 => q0 ((fun z9 => Or.elim z9 (fun h9 => Or.inl h9) (fun z9 => Or.elim z9 (fun h9 => Or.inr (Or.inl h9)) (fun h9 => Or.inr (Or.inr (h9))))) z8))).trans ((congrFun (congrFun eM_9 a) i).trans ((mset_ne (fun h9 => q0 (Or.inr (Or.inr (h9))))).trans ((congrFun (congrFun eM_8 a) i).trans ((mset_ne (fun h9 => q0 (Or.inl h9))).trans ((hf_M12 a i (fun z8 => q0 ((fun z9 => Or.elim z9 (fun h9 => Or.inl h9) (fun z9 => Or.elim z9 (fun h9 => Or.inr (Or.inl h9)) (fun h9 => Or.inr (Or.inr (h9))))) z8))).trans rfl))))))), (by have f0 := t_lit 1; omega)⟩ (by have f0 := congrArg Int32.toInt (hf_N92 0 8 (by omega)); have f1 := congrArg Int32.toInt ((congrFun (congrFun eM_9 0) 8).trans (mset_ne (by omega))); have f2 := congrArg Int32.toInt ((congrFun (congrFun eM_8 0) 8).trans (mset_ne (by omega))); have f3 := congrArg Int32.toInt (hf_M12 0 8 (by omega)); have f4 := t_add y2_12 t0_123; have f5 := congrArg Int32.toInt ex_11; have f6 := t_add y3_12 t0_156; have f7 := congrArg Int32.toInt ex_12; have f8 := t_lit 1; omega)
                · refine wp_bind2 (o_X10_here N92 (by have f0 := congrArg Int32.toInt (hf_N92 0 8 (by omega)); have f1 := congrArg Int32.toInt ((congrFun (congrFun eM_9 0) 8).trans (mset_ne (by omega))); have f2 := congrArg Int32.toInt ((congrFun (congrFun eM_8 0) 8).trans (mset_ne (by omega))); have f3 := congrArg Int32.toInt (hf_M12 0 8 (by omega)); omega)) (fun r_16 he186 hq186 => ?_)
                  have hh_186 := hq186
                  replace hh_186 : (r_16.toInt = -1 ∧ (N92 0 7).toInt = (N92 0 8).toInt) ∨ (0 ≤ r_16.toInt ∧ r_16.toInt ≤ 255 ∧ (N92 0 7).toInt < (N92 0 8).toInt) := hh_186
                  refine wp_ite (fun c191 => ?_) (fun c191 => ?_)
                  · exact ih12 N92 x_11 x_12 (nI 1) ⟨(fun a i q0 => ((hf_N92 a i (fun z8 => q0 ((fun z9 => Or.elim z9 (fun h9 => Or.inl h9) (fun z9 => Or.elim z9 (fun h9 => Or.inr (Or.inl h9)) (fun h9 => Or.inr (Or.inr (h9))))) z8))).trans ((congrFun (congrFun eM_9 a) i).trans ((mset_ne (fun h9 => q0 (Or.inr (Or.inr (h9))))).trans ((congrFun (congrFun eM_8 a) i).trans ((mset_ne (fun h9 => q0 (Or.inl h9))).trans ((hf_M12 a i (fun z8 => q0 ((fun z9 => Or.elim z9 (fun h9 => Or.inl h9) (fun z9 => Or.elim z9 (fun h9 => Or.inr (Or.inl h9)) (fun h9 => Or.inr (Or.inr (h9))))) z8))).trans rfl))))))), (by have f0 := t_lit 1; omega)⟩ (by have f0 := congrArg Int32.toInt (hf_N92 0 8 (by omega)); have f1 := congrArg Int32.toInt ((congrFun (congrFun eM_9 0) 8).trans (mset_ne (by omega))); have f2 := congrArg Int32.toInt ((congrFun (congrFun eM_8 0) 8).trans (mset_ne (by omega))); have f3 := congrArg Int32.toInt (hf_M12 0 8 (by omega)); have f4 := t_add y2_12 t0_123; have f5 := congrArg Int32.toInt ex_11; have f6 := t_add y3_12 t0_156; have f7 := congrArg Int32.toInt ex_12; have f8 := t_lit 1; omega)
                  · exact ih12 N92 x_11 x_12 (nI 0) ⟨(fun a i q0 => ((hf_N92 a i (fun z8 => q0 ((fun z9 => Or.elim z9 (fun h9 => Or.inl h9) (fun z9 => Or.elim z9 (fun h9 => Or.inr (Or.inl h9)) (fun h9 => Or.inr (Or.inr (h9))))) z8))).trans ((congrFun (congrFun eM_9 a) i).trans ((mset_ne (fun h9 => q0 (Or.inr (Or.inr (h9))))).trans ((congrFun (congrFun eM_8 a) i).trans ((mset_ne (fun h9 => q0 (Or.inl h9))).trans ((hf_M12 a i (fun z8 => q0 ((fun z9 => Or.elim z9 (fun h9 => Or.inl h9) (fun z9 => Or.elim z9 (fun h9 => Or.inr (Or.inl h9)) (fun h9 => Or.inr (Or.inr (h9))))) z8))).trans rfl))))))), (by have f0 := t_lit 0; omega)⟩ (by have f0 := congrArg Int32.toInt (hf_N92 0 8 (by omega)); have f1 := congrArg Int32.toInt ((congrFun (congrFun eM_9 0) 8).trans (mset_ne (by omega))); have f2 := congrArg Int32.toInt ((congrFun (congrFun eM_8 0) 8).trans (mset_ne (by omega))); have f3 := congrArg Int32.toInt (hf_M12 0 8 (by omega)); have f4 := t_add y2_12 t0_123; have f5 := congrArg Int32.toInt ex_11; have f6 := t_add y3_12 t0_156; have f7 := congrArg Int32.toInt ex_12; have f8 := t_lit 0; omega)
          refine wp_ite (fun c130 => ?_) (fun c130 => ?_)
          · exact j156 (N92 0 10)
          · refine wp_ite (fun c144 => ?_) (fun c144 => ?_)
            · exact j156 (-(N92 0 10))
            · exact j156 (nI 0)
        refine wp_ite (fun c97 => ?_) (fun c97 => ?_)
        · exact j123 (N92 0 10)
        · refine wp_ite (fun c111 => ?_) (fun c111 => ?_)
          · exact j123 (-(N92 0 10))
          · exact j123 (nI 0)
      refine wp_ite (fun c80 => ?_) (fun c80 => ?_)
      · exact j92 M_9 (fun _ _ _ => rfl) (by have f0 := congrArg Int32.toInt ((congrFun (congrFun eM_9 0) 7).trans (mset_ne (by omega))); have f1 := congrArg Int32.toInt ((congrFun (congrFun eM_8 0) 7).trans mset_eq); have f2 := t_lit 1; have f3 := t_add (M12 0 7) (nI 1); have f4 := congrArg Int32.toInt ((congrFun (congrFun eM_9 0) 8).trans (mset_ne (by omega))); have f5 := congrArg Int32.toInt ((congrFun (congrFun eM_8 0) 8).trans (mset_ne (by omega))); have f6 := congrArg Int32.toInt (hf_M12 0 8 (by omega)); omega)
      · refine wp_cb2 (o_X10_readsAmount M_9 (by have f0 := congrArg Int32.toInt ((congrFun (congrFun eM_9 0) 7).trans (mset_ne (by omega))); have f1 := congrArg Int32.toInt ((congrFun (congrFun eM_8 0) 7).trans mset_eq); have f2 := t_lit 1; have f3 := t_add (M12 0 7) (nI 1); have f4 := congrArg Int32.toInt ((congrFun (congrFun eM_9 0) 8).trans (mset_ne (by omega))); have f5 := congrArg Int32.toInt ((congrFun (congrFun eM_8 0) 8).trans (mset_ne (by omega))); have f6 := congrArg Int32.toInt (hf_M12 0 8 (by omega)); omega)) (fun r_17 M_18 he84 hq84 => ?_)
        obtain ⟨hz_r_17, hg_M_18, hp_84, hn_84⟩ := hq84
        replace hp_84 : (M_9 0 7).toInt ≤ (M_18 0 7).toInt ∧ (M_18 0 7).toInt ≤ (M_9 0 8).toInt ∧ (¬ r_17.toInt = 0 → (M_9 0 7).toInt < (M_18 0 7).toInt) := hp_84
        replace hn_84 : ¬ r_17.toInt = 0 → 0 ≤ (M_18 0 10).toInt ∧ (M_18 0 10).toInt ≤ 99 := hn_84
        replace hg_M_18 : ∀ a i, ¬ ((a = 0 ∧ i = 7) ∨ (a = 0 ∧ i = 9) ∨ (a = 0 ∧ i = 10)) → M_18 a i = M_9 a i := hg_M_18
        refine wp_ite (fun c87 => ?_) (fun c87 => ?_)
        · exact wp_some ⟨b01_0, (fun a i q0 => ((hg_M_18 a i (fun z8 => q0 ((fun z9 => Or.elim z9 (fun h9 => Or.inl h9) (fun z9 => Or.elim z9 (fun h9 => Or.inr (Or.inl h9)) (fun h9 => Or.inr (Or.inr (Or.inl h9))))) z8))).trans ((congrFun (congrFun eM_9 a) i).trans ((mset_ne (fun h9 => q0 (Or.inr (Or.inr (Or.inl h9))))).trans ((congrFun (congrFun eM_8 a) i).trans ((mset_ne (fun h9 => q0 (Or.inl h9))).trans ((hf_M12 a i (fun z8 => q0 ((fun z9 => Or.elim z9 (fun h9 => Or.inl h9) (fun z9 => Or.elim z9 (fun h9 => Or.inr (Or.inl h9)) (fun h9 => Or.inr (Or.inr (Or.inl h9))))) z8))).trans rfl))))))), (by show (M 0 7).toInt ≤ (M_18 0 7).toInt ∧ (M_18 0 7).toInt ≤ (M 0 8).toInt ∧ (¬ (nI 0).toInt = 0 → (M 0 7).toInt < (M_18 0 7).toInt); have f0 := t_lit 0; omega), (by show (M 0 49).toInt ≤ (M_18 0 49).toInt ∧ (M_18 0 49).toInt ≤ 60; have f0 := congrArg Int32.toInt (hg_M_18 0 49 (by omega)); have f1 := congrArg Int32.toInt ((congrFun (congrFun eM_9 0) 49).trans (mset_ne (by omega))); have f2 := congrArg Int32.toInt ((congrFun (congrFun eM_8 0) 49).trans (mset_ne (by omega))); have f3 := congrArg Int32.toInt (hf_M12 0 49 (by omega)); have f4 := t_lit 0; omega)⟩
        · exact j92 M_18 (fun a i q0 => ((hg_M_18 a i (fun z8 => q0 ((fun z9 => Or.elim z9 (fun h9 => Or.inl h9) (fun z9 => Or.elim z9 (fun h9 => Or.inr (Or.inl h9)) (fun h9 => Or.inr (Or.inr (h9))))) z8))).trans rfl)) (by have f0 := congrArg Int32.toInt (hg_M_18 0 8 (by omega)); have f1 := congrArg Int32.toInt ((congrFun (congrFun eM_9 0) 8).trans (mset_ne (by omega))); have f2 := congrArg Int32.toInt ((congrFun (congrFun eM_8 0) 8).trans (mset_ne (by omega))); have f3 := congrArg Int32.toInt (hf_M12 0 8 (by omega)); omega)
    refine wp_ite (fun c27 => ?_) (fun c27 => ?_)
    · exact j61 (by omega)
    · refine wp_ite (fun c34 => ?_) (fun c34 => ?_)
      · exact j61 (by omega)
      · refine wp_ite (fun c41 => ?_) (fun c41 => ?_)
        · exact j61 (by omega)
        · have j51 : Wp (f_X10_readsHops_L51 M12) (fun q => (q.1 = 0 ∨ q.1 = 1) ∧ (∀ a i, ¬ ((a = 0 ∧ i = 7) ∨ (a = 0 ∧ i = 9) ∨ (a = 0 ∧ i = 10) ∨ (a = 0 ∧ i = 49) ∨ a = 32 ∨ a = 33) → q.2 a i = M a i) ∧ ((M 0 7).toInt ≤ (q.2 0 7).toInt ∧ (q.2 0 7).toInt ≤ (M 0 8).toInt ∧ (¬ q.1.toInt = 0 → (M 0 7).toInt < (q.2 0 7).toInt)) ∧ ((M 0 49).toInt ≤ (q.2 0 49).toInt ∧ (q.2 0 49).toInt ≤ 60)) := by
            unfold f_X10_readsHops_L51
            refine wp_cb2 (o_X10_wrongAt M12 (nI 1) (M12 0 7)) (fun r_19 M_20 he57 hq57 => ?_)
            obtain ⟨hz_r_19, hg_M_20, hw_57⟩ := hq57
            replace hw_57 : r_19.toInt = 0 := hw_57
            have := t_lit 1
            replace hg_M_20 : ∀ a i, ¬ ((a = 0 ∧ i = 9)) → M_20 a i = M12 a i := hg_M_20
            refine wp_gb hz_r_19 ?_
            exact wp_some ⟨hz_r_19, (fun a i q0 => ((hg_M_20 a i (fun h9 => q0 (Or.inr (Or.inl h9)))).trans ((hf_M12 a i (fun z8 => q0 ((fun z9 => Or.elim z9 (fun h9 => Or.inl h9) (fun z9 => Or.elim z9 (fun h9 => Or.inr (Or.inl h9)) (fun h9 => Or.inr (Or.inr (Or.inl h9))))) z8))).trans rfl))), (by show (M 0 7).toInt ≤ (M_20 0 7).toInt ∧ (M_20 0 7).toInt ≤ (M 0 8).toInt ∧ (¬ r_19.toInt = 0 → (M 0 7).toInt < (M_20 0 7).toInt); have f0 := congrArg Int32.toInt (hg_M_20 0 7 (by omega)); omega), (by show (M 0 49).toInt ≤ (M_20 0 49).toInt ∧ (M_20 0 49).toInt ≤ 60; have f0 := congrArg Int32.toInt (hg_M_20 0 49 (by omega)); have f1 := congrArg Int32.toInt (hf_M12 0 49 (by omega)); omega)⟩
          refine wp_ite (fun c48 => ?_) (fun c48 => ?_)
          · exact j61 (by omega)
          · exact j51
theorem o_X10_readsWalk (M : Mem) (hp : 0 ≤ (M 0 7).toInt ∧ (M 0 7).toInt ≤ (M 0 8).toInt ∧ (M 0 8).toInt ≤ 240) (hw : 0 ≤ (M 0 49).toInt ∧ (M 0 49).toInt ≤ 60) (hr : 0 ≤ (M 0 50).toInt ∧ (M 0 50).toInt ≤ 2) (ha : ∀ j : Nat, (j : Int) < (M 0 50).toInt → 0 ≤ (M 35 j).toInt ∧ (M 35 j).toInt ≤ (M 0 49).toInt) : Wp (f_X10_readsWalk M) (fun q => (q.1 = 0 ∨ q.1 = 1) ∧ (∀ a i, ¬ ((a = 0 ∧ i = 7) ∨ (a = 0 ∧ i = 9) ∨ (a = 0 ∧ i = 10) ∨ (a = 0 ∧ i = 49) ∨ (a = 0 ∧ i = 50) ∨ a = 32 ∨ a = 33 ∨ a = 34 ∨ a = 35) → q.2 a i = M a i) ∧ ((M 0 7).toInt ≤ (q.2 0 7).toInt ∧ (q.2 0 7).toInt ≤ (M 0 8).toInt) ∧ (¬ q.1.toInt = 0 → 0 ≤ (q.2 0 49).toInt ∧ (q.2 0 49).toInt ≤ 60)) := by
  refine wp_lp2 (fun M2 y1_2 => (∀ a i, ¬ ((a = 0 ∧ i = 7) ∨ (a = 0 ∧ i = 9) ∨ (a = 0 ∧ i = 10) ∨ (a = 0 ∧ i = 49) ∨ (a = 0 ∧ i = 50) ∨ a = 32 ∨ a = 33 ∨ a = 34 ∨ a = 35) → M2 a i = M a i) ∧ (((M 0 7).toInt ≤ (M2 0 7).toInt) ∧ (M2 0 7).toInt ≤ (M 0 8).toInt ∧ (0 ≤ (M2 0 50).toInt ∧ (M2 0 50).toInt ≤ 2) ∧ (0 ≤ (M2 0 49).toInt ∧ (M2 0 49).toInt ≤ 60) ∧ ∀ j : Nat, (j : Int) < (M2 0 50).toInt → 0 ≤ (M2 35 j).toInt ∧ (M2 35 j).toInt ≤ (M2 0 49).toInt)) (fun M2 y1_2 => ((M2 0 8).toInt - (M2 0 7).toInt).toNat) (fun ag2 M2 y1_2 hI2 ih2 => ?_) FU M (nI 1) ⟨(fun _ _ _ => rfl), ⟨by omega, by omega, hr, hw, ha⟩⟩ (fu_lt (by have f0 := t_lit 1; omega))
  obtain ⟨hf_M2, h2⟩ := hI2
  have f8 := congrArg Int32.toInt (hf_M2 0 8 (by omega))
  have h2a := h2.1
  have h2b := h2.2.1
  refine wp_ite (fun c3 => ?_) (fun c3 => ?_)
  · exact wp_some ⟨b01_1, (fun a i q0 => ((hf_M2 a i (fun z8 => q0 ((fun z9 => Or.elim z9 (fun h9 => Or.inl h9) (fun z9 => Or.elim z9 (fun h9 => Or.inr (Or.inl h9)) (fun z9 => Or.elim z9 (fun h9 => Or.inr (Or.inr (Or.inl h9))) (fun z9 => Or.elim z9 (fun h9 => Or.inr (Or.inr (Or.inr (Or.inl h9)))) (fun z9 => Or.elim z9 (fun h9 => Or.inr (Or.inr (Or.inr (Or.inr (Or.inl h9))))) (fun z9 => Or.elim z9 (fun h9 => Or.inr (Or.inr (Or.inr (Or.inr (Or.inr (Or.inl h9)))))) (fun z9 => Or.elim z9 (fun h9 => Or.inr (Or.inr (Or.inr (Or.inr (Or.inr (Or.inr (Or.inl h9))))))) (fun z9 => Or.elim z9 (fun h9 => Or.inr (Or.inr (Or.inr (Or.inr (Or.inr (Or.inr (Or.inr (Or.inl h9)))))))) (fun h9 => Or.inr (Or.inr (Or.inr (Or.inr (Or.inr (Or.inr (Or.inr (Or.inr (h9))))))))))))))))) z8))).trans rfl)), (by show (M 0 7).toInt ≤ (M2 0 7).toInt ∧ (M2 0 7).toInt ≤ (M 0 8).toInt; have f0 := t_lit 1; omega), (fun _ => h2.2.2.2.1)⟩
  · refine wp_lp1 (fun M6 => (∀ a i, ¬ ((a = 0 ∧ i = 7) ∨ (a = 0 ∧ i = 50) ∨ a = 34 ∨ a = 35) → M6 a i = M2 a i) ∧ (((M2 0 7).toInt ≤ (M6 0 7).toInt) ∧ (M6 0 7).toInt ≤ (M 0 8).toInt ∧ (0 ≤ (M6 0 50).toInt ∧ (M6 0 50).toInt ≤ 2) ∧ (0 ≤ (M6 0 49).toInt ∧ (M6 0 49).toInt ≤ 60) ∧ ∀ j : Nat, (j : Int) < (M6 0 50).toInt → 0 ≤ (M6 35 j).toInt ∧ (M6 35 j).toInt ≤ (M6 0 49).toInt)) (fun M6 => ((M6 0 8).toInt - (M6 0 7).toInt).toNat) (fun ag6 M6 hI6 ih6 => ?_) FU M2 ⟨(fun _ _ _ => rfl), ⟨by omega, h2.2⟩⟩ (fu_lt (by have f0 := congrArg Int32.toInt (hf_M2 0 8 (by omega)); omega))
    obtain ⟨hf_M6, h6⟩ := hI6
    have f86 := congrArg Int32.toInt (hf_M6 0 8 (by omega))
    have h6a := h6.1
    have h6b := h6.2.1
    have h6c := h6.2.2.1
    have h6d := h6.2.2.2.1
    refine wp_bind2 (o_X10_here M6 (by have f0 := congrArg Int32.toInt (hf_M6 0 8 (by omega)); have f1 := congrArg Int32.toInt (hf_M2 0 8 (by omega)); omega)) (fun r_1 he7 hq7 => ?_)
    have hh_7 := hq7
    replace hh_7 : (r_1.toInt = -1 ∧ (M6 0 7).toInt = (M6 0 8).toInt) ∨ (0 ≤ r_1.toInt ∧ r_1.toInt ≤ 255 ∧ (M6 0 7).toInt < (M6 0 8).toInt) := hh_7
    have j82 : Wp (f_X10_readsWalk_L82 ag2 M6) (fun q => (q.1 = 0 ∨ q.1 = 1) ∧ (∀ a i, ¬ ((a = 0 ∧ i = 7) ∨ (a = 0 ∧ i = 9) ∨ (a = 0 ∧ i = 10) ∨ (a = 0 ∧ i = 49) ∨ (a = 0 ∧ i = 50) ∨ a = 32 ∨ a = 33 ∨ a = 34 ∨ a = 35) → q.2 a i = M a i) ∧ ((M 0 7).toInt ≤ (q.2 0 7).toInt ∧ (q.2 0 7).toInt ≤ (M 0 8).toInt) ∧ (¬ q.1.toInt = 0 → 0 ≤ (q.2 0 49).toInt ∧ (q.2 0 49).toInt ≤ 60)) := by
      unfold f_X10_readsWalk_L82
      refine wp_cb2 (o_X10_readsHops M6 (by have f0 := congrArg Int32.toInt (hf_M6 0 8 (by omega)); have f1 := congrArg Int32.toInt (hf_M2 0 8 (by omega)); omega) (by have f0 := congrArg Int32.toInt (hf_M6 0 49 (by omega)); omega)) (fun r_2 M_3 he83 hq83 => ?_)
      obtain ⟨hz_r_2, hg_M_3, hp_83, hw_83⟩ := hq83
      replace hp_83 : (M6 0 7).toInt ≤ (M_3 0 7).toInt ∧ (M_3 0 7).toInt ≤ (M6 0 8).toInt ∧ (¬ r_2.toInt = 0 → (M6 0 7).toInt < (M_3 0 7).toInt) := hp_83
      replace hw_83 : (M6 0 49).toInt ≤ (M_3 0 49).toInt ∧ (M_3 0 49).toInt ≤ 60 := hw_83
      replace hg_M_3 : ∀ a i, ¬ ((a = 0 ∧ i = 7) ∨ (a = 0 ∧ i = 9) ∨ (a = 0 ∧ i = 10) ∨ (a = 0 ∧ i = 49) ∨ a = 32 ∨ a = 33) → M_3 a i = M6 a i := hg_M_3
      have f83 := congrArg Int32.toInt (hg_M_3 0 8 (by omega))
      refine wp_ite (fun c86 => ?_) (fun c86 => ?_)
      · exact wp_some ⟨b01_0, (fun a i q0 => ((hg_M_3 a i (fun z8 => q0 ((fun z9 => Or.elim z9 (fun h9 => Or.inl h9) (fun z9 => Or.elim z9 (fun h9 => Or.inr (Or.inl h9)) (fun z9 => Or.elim z9 (fun h9 => Or.inr (Or.inr (Or.inl h9))) (fun z9 => Or.elim z9 (fun h9 => Or.inr (Or.inr (Or.inr (Or.inl h9)))) (fun z9 => Or.elim z9 (fun h9 => Or.inr (Or.inr (Or.inr (Or.inr (Or.inr (Or.inl h9)))))) (fun h9 => Or.inr (Or.inr (Or.inr (Or.inr (Or.inr (Or.inr (Or.inl h9)))))))))))) z8))).trans ((hf_M6 a i (fun z8 => q0 ((fun z9 => Or.elim z9 (fun h9 => Or.inl h9) (fun z9 => Or.elim z9 (fun h9 => Or.inr (Or.inr (Or.inr (Or.inr (Or.inl h9))))) (fun z9 => Or.elim z9 (fun h9 => Or.inr (Or.inr (Or.inr (Or.inr (Or.inr (Or.inr (Or.inr (Or.inl h9)))))))) (fun h9 => Or.inr (Or.inr (Or.inr (Or.inr (Or.inr (Or.inr (Or.inr (Or.inr (h9)))))))))))) z8))).trans ((hf_M2 a i (fun z8 => q0 ((fun z9 => Or.elim z9 (fun h9 => Or.inl h9) (fun z9 => Or.elim z9 (fun h9 => Or.inr (Or.inl h9)) (fun z9 => Or.elim z9 (fun h9 => Or.inr (Or.inr (Or.inl h9))) (fun z9 => Or.elim z9 (fun h9 => Or.inr (Or.inr (Or.inr (Or.inl h9)))) (fun z9 => Or.elim z9 (fun h9 => Or.inr (Or.inr (Or.inr (Or.inr (Or.inl h9))))) (fun z9 => Or.elim z9 (fun h9 => Or.inr (Or.inr (Or.inr (Or.inr (Or.inr (Or.inl h9)))))) (fun z9 => Or.elim z9 (fun h9 => Or.inr (Or.inr (Or.inr (Or.inr (Or.inr (Or.inr (Or.inl h9))))))) (fun z9 => Or.elim z9 (fun h9 => Or.inr (Or.inr (Or.inr (Or.inr (Or.inr (Or.inr (Or.inr (Or.inl h9)))))))) (fun h9 => Or.inr (Or.inr (Or.inr (Or.inr (Or.inr (Or.inr (Or.inr (Or.inr (h9))))))))))))))))) z8))).trans rfl)))), (by show (M 0 7).toInt ≤ (M_3 0 7).toInt ∧ (M_3 0 7).toInt ≤ (M 0 8).toInt; have f0 := t_lit 0; omega), (fun h => absurd nI0 h)⟩
      · refine wp_lp1 (fun M91 => (∀ a i, ¬ ((a = 0 ∧ i = 7) ∨ (a = 0 ∧ i = 9) ∨ (a = 0 ∧ i = 49) ∨ (a = 0 ∧ i = 50) ∨ a = 32 ∨ a = 33) → M91 a i = M_3 a i) ∧ (((M2 0 7).toInt < (M91 0 7).toInt) ∧ (M91 0 7).toInt ≤ (M 0 8).toInt ∧ (0 ≤ (M91 0 50).toInt ∧ (M91 0 50).toInt ≤ 2) ∧ (0 ≤ (M91 0 49).toInt ∧ (M91 0 49).toInt ≤ 60) ∧ ∀ j : Nat, (j : Int) < (M91 0 50).toInt → 0 ≤ (M91 35 j).toInt ∧ (M91 35 j).toInt ≤ (M91 0 49).toInt)) (fun M91 => ((M91 0 8).toInt - (M91 0 7).toInt).toNat) (fun ag91 M91 hI91 ih91 => ?_) FU M_3 ⟨(fun _ _ _ => rfl), ⟨by omega, by omega, by (have := congrArg Int32.toInt (hg_M_3 0 50 (by omega)); omega), by omega, fun j hj => by (have e1 := congrArg Int32.toInt (hg_M_3 0 50 (by omega)); rw [hg_M_3 35 j (by omega)]; have := h6.2.2.2.2 j (by omega); omega)⟩⟩ (fu_lt (by have f0 := congrArg Int32.toInt (hg_M_3 0 8 (by omega)); have f1 := congrArg Int32.toInt (hf_M6 0 8 (by omega)); have f2 := congrArg Int32.toInt (hf_M2 0 8 (by omega)); omega))
        obtain ⟨hf_M91, h91⟩ := hI91
        have f91 := congrArg Int32.toInt (hf_M91 0 8 (by omega))
        have h9a := h91.1
        have h9b := h91.2.1
        have h9c := h91.2.2.1
        have h9d := h91.2.2.2.1
        refine wp_bind2 (o_X10_here M91 (by have f0 := congrArg Int32.toInt (hf_M91 0 8 (by omega)); have f1 := congrArg Int32.toInt (hg_M_3 0 8 (by omega)); have f2 := congrArg Int32.toInt (hf_M6 0 8 (by omega)); have f3 := congrArg Int32.toInt (hf_M2 0 8 (by omega)); omega)) (fun r_4 he92 hq92 => ?_)
        have hh_92 := hq92
        replace hh_92 : (r_4.toInt = -1 ∧ (M91 0 7).toInt = (M91 0 8).toInt) ∨ (0 ≤ r_4.toInt ∧ r_4.toInt ≤ 255 ∧ (M91 0 7).toInt < (M91 0 8).toInt) := hh_92
        have j116 : Wp (f_X10_readsWalk_L116 ag2 M91) (fun q => (q.1 = 0 ∨ q.1 = 1) ∧ (∀ a i, ¬ ((a = 0 ∧ i = 7) ∨ (a = 0 ∧ i = 9) ∨ (a = 0 ∧ i = 10) ∨ (a = 0 ∧ i = 49) ∨ (a = 0 ∧ i = 50) ∨ a = 32 ∨ a = 33 ∨ a = 34 ∨ a = 35) → q.2 a i = M a i) ∧ ((M 0 7).toInt ≤ (q.2 0 7).toInt ∧ (q.2 0 7).toInt ≤ (M 0 8).toInt) ∧ (¬ q.1.toInt = 0 → 0 ≤ (q.2 0 49).toInt ∧ (q.2 0 49).toInt ≤ 60)) := by
          unfold f_X10_readsWalk_L116
          have j139 : ∀ (t0_139 : Int32), (t0_139 = 0 ∨ t0_139 = 1) → (t0_139.toInt = 0 ∨ True) → Wp (f_X10_readsWalk_L139 ag2 M91 t0_139) (fun q => (q.1 = 0 ∨ q.1 = 1) ∧ (∀ a i, ¬ ((a = 0 ∧ i = 7) ∨ (a = 0 ∧ i = 9) ∨ (a = 0 ∧ i = 10) ∨ (a = 0 ∧ i = 49) ∨ (a = 0 ∧ i = 50) ∨ a = 32 ∨ a = 33 ∨ a = 34 ∨ a = 35) → q.2 a i = M a i) ∧ ((M 0 7).toInt ≤ (q.2 0 7).toInt ∧ (q.2 0 7).toInt ≤ (M 0 8).toInt) ∧ (¬ q.1.toInt = 0 → 0 ≤ (q.2 0 49).toInt ∧ (q.2 0 49).toInt ≤ 60)) := by
            intro t0_139 hb_t0_139 h139
            unfold f_X10_readsWalk_L139
            refine wp_ite (fun c141 => ?_) (fun c141 => ?_)
            · exact ih2 M91 t0_139 ⟨(fun a i q0 => ((hf_M91 a i (fun z8 => q0 ((fun z9 => Or.elim z9 (fun h9 => Or.inl h9) (fun z9 => Or.elim z9 (fun h9 => Or.inr (Or.inl h9)) (fun z9 => Or.elim z9 (fun h9 => Or.inr (Or.inr (Or.inr (Or.inl h9)))) (fun z9 => Or.elim z9 (fun h9 => Or.inr (Or.inr (Or.inr (Or.inr (Or.inl h9))))) (fun z9 => Or.elim z9 (fun h9 => Or.inr (Or.inr (Or.inr (Or.inr (Or.inr (Or.inl h9)))))) (fun h9 => Or.inr (Or.inr (Or.inr (Or.inr (Or.inr (Or.inr (Or.inl h9)))))))))))) z8))).trans ((hg_M_3 a i (fun z8 => q0 ((fun z9 => Or.elim z9 (fun h9 => Or.inl h9) (fun z9 => Or.elim z9 (fun h9 => Or.inr (Or.inl h9)) (fun z9 => Or.elim z9 (fun h9 => Or.inr (Or.inr (Or.inl h9))) (fun z9 => Or.elim z9 (fun h9 => Or.inr (Or.inr (Or.inr (Or.inl h9)))) (fun z9 => Or.elim z9 (fun h9 => Or.inr (Or.inr (Or.inr (Or.inr (Or.inr (Or.inl h9)))))) (fun h9 => Or.inr (Or.inr (Or.inr (Or.inr (Or.inr (Or.inr (Or.inl h9)))))))))))) z8))).trans ((hf_M6 a i (fun z8 => q0 ((fun z9 => Or.elim z9 (fun h9 => Or.inl h9) (fun z9 => Or.elim z9 (fun h9 => Or.inr (Or.inr (Or.inr (Or.inr (Or.inl h9))))) (fun z9 => Or.elim z9 (fun h9 => Or.inr (Or.inr (Or.inr (Or.inr (Or.inr (Or.inr (Or.inr (Or.inl h9)))))))) (fun h9 => Or.inr (Or.inr (Or.inr (Or.inr (Or.inr (Or.inr (Or.inr (Or.inr (h9)))))))))))) z8))).trans ((hf_M2 a i (fun z8 => q0 ((fun z9 => Or.elim z9 (fun h9 => Or.inl h9) (fun z9 => Or.elim z9 (fun h9 => Or.inr (Or.inl h9)) (fun z9 => Or.elim z9 (fun h9 => Or.inr (Or.inr (Or.inl h9))) (fun z9 => Or.elim z9 (fun h9 => Or.inr (Or.inr (Or.inr (Or.inl h9)))) (fun z9 => Or.elim z9 (fun h9 => Or.inr (Or.inr (Or.inr (Or.inr (Or.inl h9))))) (fun z9 => Or.elim z9 (fun h9 => Or.inr (Or.inr (Or.inr (Or.inr (Or.inr (Or.inl h9)))))) (fun z9 => Or.elim z9 (fun h9 => Or.inr (Or.inr (Or.inr (Or.inr (Or.inr (Or.inr (Or.inl h9))))))) (fun z9 => Or.elim z9 (fun h9 => Or.inr (Or.inr (Or.inr (Or.inr (Or.inr (Or.inr (Or.inr (Or.inl h9)))))))) (fun h9 => Or.inr (Or.inr (Or.inr (Or.inr (Or.inr (Or.inr (Or.inr (Or.inr (h9))))))))))))))))) z8))).trans rfl))))), ⟨by omega, by omega, h9c, h9d, h91.2.2.2.2⟩⟩ (by omega)
            · refine wp_cb2 (o_X10_takesSign M91 (nI 44) (by have f0 := congrArg Int32.toInt (hf_M91 0 8 (by omega)); have f1 := congrArg Int32.toInt (hg_M_3 0 8 (by omega)); have f2 := congrArg Int32.toInt (hf_M6 0 8 (by omega)); have f3 := congrArg Int32.toInt (hf_M2 0 8 (by omega)); have f4 := t_lit 44; omega) (by have f0 := t_lit 44; omega)) (fun r_5 M_6 he147 hq147 => ?_)
              obtain ⟨hz_r_5, hg_M_6, hp_147⟩ := hq147
              replace hp_147 : (M91 0 7).toInt ≤ (M_6 0 7).toInt ∧ (M_6 0 7).toInt ≤ (M91 0 8).toInt ∧ (¬ r_5.toInt = 0 → (M91 0 7).toInt < (M_6 0 7).toInt) := hp_147
              have := t_lit 44
              replace hg_M_6 : ∀ a i, ¬ ((a = 0 ∧ i = 7) ∨ (a = 0 ∧ i = 9)) → M_6 a i = M91 a i := hg_M_6
              have f147 := congrArg Int32.toInt (hg_M_6 0 8 (by omega))
              refine wp_ite (fun c150 => ?_) (fun c150 => ?_)
              · exact wp_some ⟨b01_0, (fun a i q0 => ((hg_M_6 a i (fun z8 => q0 ((fun z9 => Or.elim z9 (fun h9 => Or.inl h9) (fun h9 => Or.inr (Or.inl h9))) z8))).trans ((hf_M91 a i (fun z8 => q0 ((fun z9 => Or.elim z9 (fun h9 => Or.inl h9) (fun z9 => Or.elim z9 (fun h9 => Or.inr (Or.inl h9)) (fun z9 => Or.elim z9 (fun h9 => Or.inr (Or.inr (Or.inr (Or.inl h9)))) (fun z9 => Or.elim z9 (fun h9 => Or.inr (Or.inr (Or.inr (Or.inr (Or.inl h9))))) (fun z9 => Or.elim z9 (fun h9 => Or.inr (Or.inr (Or.inr (Or.inr (Or.inr (Or.inl h9)))))) (fun h9 => Or.inr (Or.inr (Or.inr (Or.inr (Or.inr (Or.inr (Or.inl h9)))))))))))) z8))).trans ((hg_M_3 a i (fun z8 => q0 ((fun z9 => Or.elim z9 (fun h9 => Or.inl h9) (fun z9 => Or.elim z9 (fun h9 => Or.inr (Or.inl h9)) (fun z9 => Or.elim z9 (fun h9 => Or.inr (Or.inr (Or.inl h9))) (fun z9 => Or.elim z9 (fun h9 => Or.inr (Or.inr (Or.inr (Or.inl h9)))) (fun z9 => Or.elim z9 (fun h9 => Or.inr (Or.inr (Or.inr (Or.inr (Or.inr (Or.inl h9)))))) (fun h9 => Or.inr (Or.inr (Or.inr (Or.inr (Or.inr (Or.inr (Or.inl h9)))))))))))) z8))).trans ((hf_M6 a i (fun z8 => q0 ((fun z9 => Or.elim z9 (fun h9 => Or.inl h9) (fun z9 => Or.elim z9 (fun h9 => Or.inr (Or.inr (Or.inr (Or.inr (Or.inl h9))))) (fun z9 => Or.elim z9 (fun h9 => Or.inr (Or.inr (Or.inr (Or.inr (Or.inr (Or.inr (Or.inr (Or.inl h9)))))))) (fun h9 => Or.inr (Or.inr (Or.inr (Or.inr (Or.inr (Or.inr (Or.inr (Or.inr (h9)))))))))))) z8))).trans ((hf_M2 a i (fun z8 => q0 ((fun z9 => Or.elim z9 (fun h9 => Or.inl h9) (fun z9 => Or.elim z9 (fun h9 => Or.inr (Or.inl h9)) (fun z9 => Or.elim z9 (fun h9 => Or.inr (Or.inr (Or.inl h9))) (fun z9 => Or.elim z9 (fun h9 => Or.inr (Or.inr (Or.inr (Or.inl h9)))) (fun z9 => Or.elim z9 (fun h9 => Or.inr (Or.inr (Or.inr (Or.inr (Or.inl h9))))) (fun z9 => Or.elim z9 (fun h9 => Or.inr (Or.inr (Or.inr (Or.inr (Or.inr (Or.inl h9)))))) (fun z9 => Or.elim z9 (fun h9 => Or.inr (Or.inr (Or.inr (Or.inr (Or.inr (Or.inr (Or.inl h9))))))) (fun z9 => Or.elim z9 (fun h9 => Or.inr (Or.inr (Or.inr (Or.inr (Or.inr (Or.inr (Or.inr (Or.inl h9)))))))) (fun h9 => Or.inr (Or.inr (Or.inr (Or.inr (Or.inr (Or.inr (Or.inr (Or.inr (h9))))))))))))))))) z8))).trans rfl)))))), (by show (M 0 7).toInt ≤ (M_6 0 7).toInt ∧ (M_6 0 7).toInt ≤ (M 0 8).toInt; have f0 := t_lit 0; omega), (fun h => absurd nI0 h)⟩
              · exact ih2 M_6 t0_139 ⟨(fun a i q0 => ((hg_M_6 a i (fun z8 => q0 ((fun z9 => Or.elim z9 (fun h9 => Or.inl h9) (fun h9 => Or.inr (Or.inl h9))) z8))).trans ((hf_M91 a i (fun z8 => q0 ((fun z9 => Or.elim z9 (fun h9 => Or.inl h9) (fun z9 => Or.elim z9 (fun h9 => Or.inr (Or.inl h9)) (fun z9 => Or.elim z9 (fun h9 => Or.inr (Or.inr (Or.inr (Or.inl h9)))) (fun z9 => Or.elim z9 (fun h9 => Or.inr (Or.inr (Or.inr (Or.inr (Or.inl h9))))) (fun z9 => Or.elim z9 (fun h9 => Or.inr (Or.inr (Or.inr (Or.inr (Or.inr (Or.inl h9)))))) (fun h9 => Or.inr (Or.inr (Or.inr (Or.inr (Or.inr (Or.inr (Or.inl h9)))))))))))) z8))).trans ((hg_M_3 a i (fun z8 => q0 ((fun z9 => Or.elim z9 (fun h9 => Or.inl h9) (fun z9 => Or.elim z9 (fun h9 => Or.inr (Or.inl h9)) (fun z9 => Or.elim z9 (fun h9 => Or.inr (Or.inr (Or.inl h9))) (fun z9 => Or.elim z9 (fun h9 => Or.inr (Or.inr (Or.inr (Or.inl h9)))) (fun z9 => Or.elim z9 (fun h9 => Or.inr (Or.inr (Or.inr (Or.inr (Or.inr (Or.inl h9)))))) (fun h9 => Or.inr (Or.inr (Or.inr (Or.inr (Or.inr (Or.inr (Or.inl h9)))))))))))) z8))).trans ((hf_M6 a i (fun z8 => q0 ((fun z9 => Or.elim z9 (fun h9 => Or.inl h9) (fun z9 => Or.elim z9 (fun h9 => Or.inr (Or.inr (Or.inr (Or.inr (Or.inl h9))))) (fun z9 => Or.elim z9 (fun h9 => Or.inr (Or.inr (Or.inr (Or.inr (Or.inr (Or.inr (Or.inr (Or.inl h9)))))))) (fun h9 => Or.inr (Or.inr (Or.inr (Or.inr (Or.inr (Or.inr (Or.inr (Or.inr (h9)))))))))))) z8))).trans ((hf_M2 a i (fun z8 => q0 ((fun z9 => Or.elim z9 (fun h9 => Or.inl h9) (fun z9 => Or.elim z9 (fun h9 => Or.inr (Or.inl h9)) (fun z9 => Or.elim z9 (fun h9 => Or.inr (Or.inr (Or.inl h9))) (fun z9 => Or.elim z9 (fun h9 => Or.inr (Or.inr (Or.inr (Or.inl h9)))) (fun z9 => Or.elim z9 (fun h9 => Or.inr (Or.inr (Or.inr (Or.inr (Or.inl h9))))) (fun z9 => Or.elim z9 (fun h9 => Or.inr (Or.inr (Or.inr (Or.inr (Or.inr (Or.inl h9)))))) (fun z9 => Or.elim z9 (fun h9 => Or.inr (Or.inr (Or.inr (Or.inr (Or.inr (Or.inr (Or.inl h9))))))) (fun z9 => Or.elim z9 (fun h9 => Or.inr (Or.inr (Or.inr (Or.inr (Or.inr (Or.inr (Or.inr (Or.inl h9)))))))) (fun h9 => Or.inr (Or.inr (Or.inr (Or.inr (Or.inr (Or.inr (Or.inr (Or.inr (h9))))))))))))))))) z8))).trans rfl)))))), ⟨by omega, by omega, by (rw [hg_M_6 0 50 (by omega)]; exact h9c), by (rw [hg_M_6 0 49 (by omega)]; exact h9d), fun j hj => by rw [hg_M_6 35 j (by omega), hg_M_6 0 49 (by omega)]; exact h91.2.2.2.2 j (by have e1 := congrArg Int32.toInt (hg_M_6 0 50 (by omega)); omega)⟩⟩ (by omega)
          have j134 : Wp (f_X10_readsWalk_L134 ag2 M91) (fun q => (q.1 = 0 ∨ q.1 = 1) ∧ (∀ a i, ¬ ((a = 0 ∧ i = 7) ∨ (a = 0 ∧ i = 9) ∨ (a = 0 ∧ i = 10) ∨ (a = 0 ∧ i = 49) ∨ (a = 0 ∧ i = 50) ∨ a = 32 ∨ a = 33 ∨ a = 34 ∨ a = 35) → q.2 a i = M a i) ∧ ((M 0 7).toInt ≤ (q.2 0 7).toInt ∧ (q.2 0 7).toInt ≤ (M 0 8).toInt) ∧ (¬ q.1.toInt = 0 → 0 ≤ (q.2 0 49).toInt ∧ (q.2 0 49).toInt ≤ 60)) := by
            unfold f_X10_readsWalk_L134
            exact j139 (nI 1) b01_1 (Or.inr trivial)
          refine wp_ite (fun c124 => ?_) (fun c124 => ?_)
          · exact j134
          · refine wp_ite (fun c131 => ?_) (fun c131 => ?_)
            · exact j139 (nI 0) b01_0 (Or.inr trivial)
            · exact j134
        refine wp_ite (fun c97 => ?_) (fun c97 => ?_)
        · refine wp_ite (fun c104 => ?_) (fun c104 => ?_)
          · exact j116
          · refine wp_cb2 (o_X10_endsRound M91 (by omega) (by omega) (by omega) (by omega) h91.2.2.2.2) (fun r_7 M_8 he108 hq108 => ?_)
            obtain ⟨hz_r_7, hg_M_8, hp_108, hw_108⟩ := hq108
            replace hp_108 : (M91 0 7).toInt ≤ (M_8 0 7).toInt ∧ (M_8 0 7).toInt ≤ (M91 0 8).toInt ∧ (¬ r_7.toInt = 0 → (M91 0 7).toInt < (M_8 0 7).toInt) := hp_108
            replace hw_108 : ¬ r_7.toInt = 0 → (M91 0 49).toInt ≤ (M_8 0 49).toInt ∧ (M_8 0 49).toInt ≤ 60 ∧ (M_8 0 50).toInt = (M91 0 50).toInt - 1 := hw_108
            replace hg_M_8 : ∀ a i, ¬ ((a = 0 ∧ i = 7) ∨ (a = 0 ∧ i = 9) ∨ (a = 0 ∧ i = 49) ∨ (a = 0 ∧ i = 50) ∨ a = 32 ∨ a = 33) → M_8 a i = M91 a i := hg_M_8
            have f108 := congrArg Int32.toInt (hg_M_8 0 8 (by omega))
            refine wp_ite (fun c111 => ?_) (fun c111 => ?_)
            · exact wp_some ⟨b01_0, (fun a i q0 => ((hg_M_8 a i (fun z8 => q0 ((fun z9 => Or.elim z9 (fun h9 => Or.inl h9) (fun z9 => Or.elim z9 (fun h9 => Or.inr (Or.inl h9)) (fun z9 => Or.elim z9 (fun h9 => Or.inr (Or.inr (Or.inr (Or.inl h9)))) (fun z9 => Or.elim z9 (fun h9 => Or.inr (Or.inr (Or.inr (Or.inr (Or.inl h9))))) (fun z9 => Or.elim z9 (fun h9 => Or.inr (Or.inr (Or.inr (Or.inr (Or.inr (Or.inl h9)))))) (fun h9 => Or.inr (Or.inr (Or.inr (Or.inr (Or.inr (Or.inr (Or.inl h9)))))))))))) z8))).trans ((hf_M91 a i (fun z8 => q0 ((fun z9 => Or.elim z9 (fun h9 => Or.inl h9) (fun z9 => Or.elim z9 (fun h9 => Or.inr (Or.inl h9)) (fun z9 => Or.elim z9 (fun h9 => Or.inr (Or.inr (Or.inr (Or.inl h9)))) (fun z9 => Or.elim z9 (fun h9 => Or.inr (Or.inr (Or.inr (Or.inr (Or.inl h9))))) (fun z9 => Or.elim z9 (fun h9 => Or.inr (Or.inr (Or.inr (Or.inr (Or.inr (Or.inl h9)))))) (fun h9 => Or.inr (Or.inr (Or.inr (Or.inr (Or.inr (Or.inr (Or.inl h9)))))))))))) z8))).trans ((hg_M_3 a i (fun z8 => q0 ((fun z9 => Or.elim z9 (fun h9 => Or.inl h9) (fun z9 => Or.elim z9 (fun h9 => Or.inr (Or.inl h9)) (fun z9 => Or.elim z9 (fun h9 => Or.inr (Or.inr (Or.inl h9))) (fun z9 => Or.elim z9 (fun h9 => Or.inr (Or.inr (Or.inr (Or.inl h9)))) (fun z9 => Or.elim z9 (fun h9 => Or.inr (Or.inr (Or.inr (Or.inr (Or.inr (Or.inl h9)))))) (fun h9 => Or.inr (Or.inr (Or.inr (Or.inr (Or.inr (Or.inr (Or.inl h9)))))))))))) z8))).trans ((hf_M6 a i (fun z8 => q0 ((fun z9 => Or.elim z9 (fun h9 => Or.inl h9) (fun z9 => Or.elim z9 (fun h9 => Or.inr (Or.inr (Or.inr (Or.inr (Or.inl h9))))) (fun z9 => Or.elim z9 (fun h9 => Or.inr (Or.inr (Or.inr (Or.inr (Or.inr (Or.inr (Or.inr (Or.inl h9)))))))) (fun h9 => Or.inr (Or.inr (Or.inr (Or.inr (Or.inr (Or.inr (Or.inr (Or.inr (h9)))))))))))) z8))).trans ((hf_M2 a i (fun z8 => q0 ((fun z9 => Or.elim z9 (fun h9 => Or.inl h9) (fun z9 => Or.elim z9 (fun h9 => Or.inr (Or.inl h9)) (fun z9 => Or.elim z9 (fun h9 => Or.inr (Or.inr (Or.inl h9))) (fun z9 => Or.elim z9 (fun h9 => Or.inr (Or.inr (Or.inr (Or.inl h9)))) (fun z9 => Or.elim z9 (fun h9 => Or.inr (Or.inr (Or.inr (Or.inr (Or.inl h9))))) (fun z9 => Or.elim z9 (fun h9 => Or.inr (Or.inr (Or.inr (Or.inr (Or.inr (Or.inl h9)))))) (fun z9 => Or.elim z9 (fun h9 => Or.inr (Or.inr (Or.inr (Or.inr (Or.inr (Or.inr (Or.inl h9))))))) (fun z9 => Or.elim z9 (fun h9 => Or.inr (Or.inr (Or.inr (Or.inr (Or.inr (Or.inr (Or.inr (Or.inl h9)))))))) (fun h9 => Or.inr (Or.inr (Or.inr (Or.inr (Or.inr (Or.inr (Or.inr (Or.inr (h9))))))))))))))))) z8))).trans rfl)))))), (by show (M 0 7).toInt ≤ (M_8 0 7).toInt ∧ (M_8 0 7).toInt ≤ (M 0 8).toInt; have f0 := t_lit 0; omega), (fun h => absurd nI0 h)⟩
            · exact ih91 M_8 ⟨(fun a i q0 => ((hg_M_8 a i (fun z8 => q0 ((fun z9 => Or.elim z9 (fun h9 => Or.inl h9) (fun z9 => Or.elim z9 (fun h9 => Or.inr (Or.inl h9)) (fun z9 => Or.elim z9 (fun h9 => Or.inr (Or.inr (Or.inl h9))) (fun z9 => Or.elim z9 (fun h9 => Or.inr (Or.inr (Or.inr (Or.inl h9)))) (fun z9 => Or.elim z9 (fun h9 => Or.inr (Or.inr (Or.inr (Or.inr (Or.inl h9))))) (fun h9 => Or.inr (Or.inr (Or.inr (Or.inr (Or.inr (h9))))))))))) z8))).trans ((hf_M91 a i (fun z8 => q0 ((fun z9 => Or.elim z9 (fun h9 => Or.inl h9) (fun z9 => Or.elim z9 (fun h9 => Or.inr (Or.inl h9)) (fun z9 => Or.elim z9 (fun h9 => Or.inr (Or.inr (Or.inl h9))) (fun z9 => Or.elim z9 (fun h9 => Or.inr (Or.inr (Or.inr (Or.inl h9)))) (fun z9 => Or.elim z9 (fun h9 => Or.inr (Or.inr (Or.inr (Or.inr (Or.inl h9))))) (fun h9 => Or.inr (Or.inr (Or.inr (Or.inr (Or.inr (h9))))))))))) z8))).trans rfl))), ⟨by omega, by omega, by omega, by omega, fun j hj => by have e1 := hw_108 (by omega); rw [hg_M_8 35 j (by omega)]; have := h91.2.2.2.2 j (by omega); omega⟩⟩ (by omega)
        · exact j116
    refine wp_ite (fun c12 => ?_) (fun c12 => ?_)
    · have j23 : Wp (f_X10_readsWalk_L23 M6) (fun q => (q.1 = 0 ∨ q.1 = 1) ∧ (∀ a i, ¬ ((a = 0 ∧ i = 7) ∨ (a = 0 ∧ i = 9) ∨ (a = 0 ∧ i = 10) ∨ (a = 0 ∧ i = 49) ∨ (a = 0 ∧ i = 50) ∨ a = 32 ∨ a = 33 ∨ a = 34 ∨ a = 35) → q.2 a i = M a i) ∧ ((M 0 7).toInt ≤ (q.2 0 7).toInt ∧ (q.2 0 7).toInt ≤ (M 0 8).toInt) ∧ (¬ q.1.toInt = 0 → 0 ≤ (q.2 0 49).toInt ∧ (q.2 0 49).toInt ≤ 60)) := by
        unfold f_X10_readsWalk_L23
        refine wp_cb2 (o_X10_wrongAt M6 (nI 5) (M6 0 7)) (fun r_9 M_10 he29 hq29 => ?_)
        obtain ⟨hz_r_9, hg_M_10, hw_29⟩ := hq29
        replace hw_29 : r_9.toInt = 0 := hw_29
        have := t_lit 5
        replace hg_M_10 : ∀ a i, ¬ ((a = 0 ∧ i = 9)) → M_10 a i = M6 a i := hg_M_10
        refine wp_gb hz_r_9 ?_
        exact wp_some ⟨hz_r_9, (fun a i q0 => ((hg_M_10 a i (fun h9 => q0 (Or.inr (Or.inl h9)))).trans ((hf_M6 a i (fun z8 => q0 ((fun z9 => Or.elim z9 (fun h9 => Or.inl h9) (fun z9 => Or.elim z9 (fun h9 => Or.inr (Or.inr (Or.inr (Or.inr (Or.inl h9))))) (fun z9 => Or.elim z9 (fun h9 => Or.inr (Or.inr (Or.inr (Or.inr (Or.inr (Or.inr (Or.inr (Or.inl h9)))))))) (fun h9 => Or.inr (Or.inr (Or.inr (Or.inr (Or.inr (Or.inr (Or.inr (Or.inr (h9)))))))))))) z8))).trans ((hf_M2 a i (fun z8 => q0 ((fun z9 => Or.elim z9 (fun h9 => Or.inl h9) (fun z9 => Or.elim z9 (fun h9 => Or.inr (Or.inl h9)) (fun z9 => Or.elim z9 (fun h9 => Or.inr (Or.inr (Or.inl h9))) (fun z9 => Or.elim z9 (fun h9 => Or.inr (Or.inr (Or.inr (Or.inl h9)))) (fun z9 => Or.elim z9 (fun h9 => Or.inr (Or.inr (Or.inr (Or.inr (Or.inl h9))))) (fun z9 => Or.elim z9 (fun h9 => Or.inr (Or.inr (Or.inr (Or.inr (Or.inr (Or.inl h9)))))) (fun z9 => Or.elim z9 (fun h9 => Or.inr (Or.inr (Or.inr (Or.inr (Or.inr (Or.inr (Or.inl h9))))))) (fun z9 => Or.elim z9 (fun h9 => Or.inr (Or.inr (Or.inr (Or.inr (Or.inr (Or.inr (Or.inr (Or.inl h9)))))))) (fun h9 => Or.inr (Or.inr (Or.inr (Or.inr (Or.inr (Or.inr (Or.inr (Or.inr (h9))))))))))))))))) z8))).trans rfl)))), (by show (M 0 7).toInt ≤ (M_10 0 7).toInt ∧ (M_10 0 7).toInt ≤ (M 0 8).toInt; have f0 := congrArg Int32.toInt (hg_M_10 0 7 (by omega)); omega), (fun h => absurd hw_29 h)⟩
      refine wp_ite (fun c20 => ?_) (fun c20 => ?_)
      · exact j23
      · refine wp_gd (by omega) ?_
        refine wp_bnd (fun M_11 eM_11 => ?_)
        refine wp_gd (by have f0 := congrArg Int32.toInt ((congrFun (congrFun eM_11 0) 50).trans (mset_ne (by omega))); omega) ?_
        refine wp_bnd (fun M_12 eM_12 => ?_)
        refine wp_bnd (fun M_13 eM_13 => ?_)
        refine wp_bnd (fun M_14 eM_14 => ?_)
        have fx := t_ixn (M6 0 50) (by omega)
        have b1 : (M_14 0 7).toInt = (M6 0 7).toInt + 1 := by rw [eM_14, mset_eq, eM_13, mset_ne (by omega), eM_12, mset_ne (by omega), eM_11, mset_ne (by omega)]; exact t_inc _ 1 (by omega)
        have b2 : (M_14 0 50).toInt = (M6 0 50).toInt + 1 := by rw [eM_14, mset_ne (by omega), eM_13, mset_eq, eM_12, mset_ne (by omega), eM_11, mset_ne (by omega)]; exact t_inc _ 1 (by omega)
        have b3 : (M_14 0 49).toInt = (M6 0 49).toInt := by rw [eM_14, mset_ne (by omega), eM_13, mset_ne (by omega), eM_12, mset_ne (by omega), eM_11, mset_ne (by omega)]
        have b4 : (M_14 0 8).toInt = (M6 0 8).toInt := by rw [eM_14, mset_ne (by omega), eM_13, mset_ne (by omega), eM_12, mset_ne (by omega), eM_11, mset_ne (by omega)]
        have b5 : ∀ j : Nat, (j : Int) < (M_14 0 50).toInt → 0 ≤ (M_14 35 j).toInt ∧ (M_14 35 j).toInt ≤ (M_14 0 49).toInt := fun j hj => by
          rw [b3, eM_14, mset_ne (by omega), eM_13, mset_ne (by omega), eM_12, mset_get, eM_11, mset_ne (by omega), mset_ne (by omega), mset_ne (by omega)]
          by_cases hj2 : j = ix (M6 0 50)
          · rw [if_pos ⟨rfl, hj2⟩]
            omega
          · rw [if_neg (fun z => hj2 z.2)]
            exact h6.2.2.2.2 j (by omega)
        exact ih6 M_14 ⟨(fun a i q0 => ((congrFun (congrFun eM_14 a) i).trans ((mset_ne (fun h9 => q0 (Or.inl h9))).trans ((congrFun (congrFun eM_13 a) i).trans ((mset_ne (fun h9 => q0 (Or.inr (Or.inl h9)))).trans ((congrFun (congrFun eM_12 a) i).trans ((mset_ne (fun h9 => q0 (Or.inr (Or.inr (Or.inr ((h9).1)))))).trans ((congrFun (congrFun eM_11 a) i).trans ((mset_ne (fun h9 => q0 (Or.inr (Or.inr (Or.inl (h9).1))))).trans ((hf_M6 a i (fun z8 => q0 ((fun z9 => Or.elim z9 (fun h9 => Or.inl h9) (fun z9 => Or.elim z9 (fun h9 => Or.inr (Or.inl h9)) (fun z9 => Or.elim z9 (fun h9 => Or.inr (Or.inr (Or.inl h9))) (fun h9 => Or.inr (Or.inr (Or.inr (h9))))))) z8))).trans rfl)))))))))), ⟨by omega, by omega, by omega, by omega, b5⟩⟩ (by omega)
    · exact j82
