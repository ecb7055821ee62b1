theorem o_J6_bitCount_0f7a4 (M : Mem) (v0 : Int32) : Wp (f_J6_bitCount_0f7a4 v0) (fun q => True) := by
  refine wp_bnd (fun x_1 ex_1 => ?_)
  refine wp_bnd (fun x_2 ex_2 => ?_)
  refine wp_bnd (fun x_3 ex_3 => ?_)
  refine wp_bnd (fun x_4 ex_4 => ?_)
  refine wp_bnd (fun x_5 ex_5 => ?_)
  exact wp_some trivial
theorem o_J7_fill_53178 {k len_k : Nat} (hlk : len_k < 2 ^ 31) (M : Mem) (v1 : Int32) : Wp (f_J7_fill_53178 k len_k M v1) (fun q => (∀ a i, ¬ (a = k) → q a i = M a i)) := by
  refine wp_bnd (fun x_1 ex_1 => ?_)
  have ft1 := t_rng x_1
  refine wp_lp2 (fun M5 y2_5 => (0 ≤ y2_5.toInt) ∧ (∀ a i, ¬ (a = k) → M5 a i = M a i)) (fun M5 y2_5 => (x_1.toInt - y2_5.toInt).toNat) (fun ag5 M5 y2_5 hI5 ih5 => ?_) FU M (nI 0) ⟨(by have f0 := t_lit 0; omega), (fun _ _ _ => rfl)⟩ (fu_lt (by have f0 := t_lit 0; omega))
  obtain ⟨hi5, hf_M5⟩ := hI5
  refine wp_ite (fun c7 => ?_) (fun c7 => ?_)
  · exact wp_some (fun a i q0 => ((hf_M5 a i (fun h9 => q0 (h9))).trans rfl))
  · refine wp_gd (by have f0 := nI_toInt hlk; have f1 := congrArg Int32.toInt ex_1; omega) ?_
    refine wp_bnd (fun M_2 eM_2 => ?_)
    exact ih5 M_2 (y2_5 + (nI 1)) ⟨(by have f0 := t_lit 1; have f1 := t_add y2_5 (nI 1); have f2 := nI_toInt hlk; have f3 := congrArg Int32.toInt ex_1; omega), (fun a i q0 => ((congrFun (congrFun eM_2 a) i).trans ((mset_ne (fun h9 => q0 ((h9).1))).trans ((hf_M5 a i (fun h9 => q0 (h9))).trans rfl))))⟩ (by have f0 := t_lit 1; have f1 := t_add y2_5 (nI 1); have f2 := nI_toInt hlk; have f3 := congrArg Int32.toInt ex_1; omega)
theorem o_X0_wayWith (M : Mem) (v1 : Int32) (v2 : Int32) (v3 : Int32) : Wp (f_X0_wayWith M v1 v2 v3) (fun q => True) := by
  refine wp_ite (fun c1 => ?_) (fun c1 => ?_)
  · exact wp_some trivial
  · refine wp_ite (fun c7 => ?_) (fun c7 => ?_)
    · exact wp_some trivial
    · refine wp_ite (fun c11 => ?_) (fun c11 => ?_)
      · exact wp_some trivial
      · refine wp_ite (fun c17 => ?_) (fun c17 => ?_)
        · exact wp_some trivial
        · refine wp_ite (fun c21 => ?_) (fun c21 => ?_)
          · refine wp_bnd (fun x_1 ex_1 => ?_)
            have hor : 0 ≤ x_1.toInt := by rw [ex_1]; exact or_nn (by omega) (shl_nn (by omega) (by omega))
            refine wp_ite (fun c37 => ?_) (fun c37 => ?_)
            · exact wp_some trivial
            · refine wp_ite (fun c45 => ?_) (fun c45 => ?_)
              · refine wp_gd (by have f0 := t_lit 7; have f1 := (t_mulR v2 7 (by omega) (by omega)); have f2 := t_add (v2 * (nI 7)) v3; omega) ?_
                refine wp_gd (by have f0 := t_lit 1; have f1 := congrArg Int32.toInt ex_1; omega) ?_
                exact wp_some trivial
              · exact wp_some trivial
          · exact wp_some trivial
theorem o_X0_fewestBehind (M : Mem) (v1 : Int32) (v2 : Int32) : Wp (f_X0_fewestBehind M v1 v2) (fun q => True) := by
  refine wp_bind2 (o_J6_bitCount_0f7a4 M v2) (fun r_1 he1 hq1 => ?_)
  refine wp_ite (fun c7 => ?_) (fun c7 => ?_)
  · refine wp_lp2 (fun y4_19 y5_19 => (0 ≤ y5_19.toInt)) (fun y4_19 y5_19 => (7 - y5_19.toInt).toNat) (fun ag19 y4_19 y5_19 hI19 ih19 => ?_) FU (nI 2147483647) (nI 0) (by have f0 := t_lit 0; omega) (fu_lt (by have f0 := t_lit 0; omega))
    have hi19 := hI19
    refine wp_ite (fun c22 => ?_) (fun c22 => ?_)
    · exact wp_some trivial
    · refine wp_ite (fun c29 => ?_) (fun c29 => ?_)
      · exact wp_some trivial
      · refine wp_bind2 (o_X0_wayWith M v2 r_1 y5_19) (fun r_2 he39 hq39 => ?_)
        refine wp_bnd (fun x_3 ex_3 => ?_)
        exact ih19 x_3 (y5_19 + (nI 1)) (by have f0 := t_lit 1; have f1 := t_add y5_19 (nI 1); omega) (by have f0 := t_lit 1; have f1 := t_add y5_19 (nI 1); omega)
  · exact wp_some trivial
theorem o_X2_nextTold {b : Nat} (hb : isF b) (M : Mem) (v1 : Int32) : Wp (f_X2_nextTold b M v1) (fun q => True) := by
  have hb0 : b = 1 ∨ b = 7 ∨ b = 13 := hb
  refine wp_bnd (fun x_1 ex_1 => ?_)
  refine wp_lp1 (fun y2_6 => (x_1.toInt ≤ y2_6.toInt) ∧ (0 ≤ y2_6.toInt)) (fun y2_6 => (40 - y2_6.toInt).toNat) (fun ag6 y2_6 hI6 ih6 => ?_) FU x_1 ⟨(by have f0 := t_lit 0; have f1 := t_mx v1 (nI 0); have f2 := congrArg Int32.toInt ex_1; omega), (by have f0 := t_mx v1 (nI 0); have f1 := t_lit 0; have f2 := congrArg Int32.toInt ex_1; omega)⟩ (fu_lt (by have f0 := t_lit 0; have f1 := t_mx v1 (nI 0); have f2 := congrArg Int32.toInt ex_1; omega))
  obtain ⟨hi6, hp⟩ := hI6
  refine wp_ite (fun c9 => ?_) (fun c9 => ?_)
  · exact wp_some trivial
  · refine wp_gd (by omega) ?_
    refine wp_ite (fun c18 => ?_) (fun c18 => ?_)
    · exact ih6 (y2_6 + (nI 1)) ⟨(by have f0 := t_lit 1; have f1 := t_add y2_6 (nI 1); omega), (by have f0 := t_lit 1; have f1 := t_add y2_6 (nI 1); omega)⟩ (by have f0 := t_lit 1; have f1 := t_add y2_6 (nI 1); omega)
    · exact wp_some trivial
theorem o_X2_isTold {b : Nat} (hb : isF b) (M : Mem) (v1 : Int32) : Wp (f_X2_isTold b M v1) (fun q => (q = 0 ∨ q = 1) ∧ (¬ q.toInt = 0 → 0 ≤ v1.toInt ∧ v1.toInt < 40)) := by
  have hb0 : b = 1 ∨ b = 7 ∨ b = 13 := hb
  refine wp_ite (fun c1 => ?_) (fun c1 => ?_)
  · exact wp_some ⟨b01_0, (by show ¬ (nI 0).toInt = 0 → 0 ≤ v1.toInt ∧ v1.toInt < 40; have f0 := t_lit 0; omega)⟩
  · refine wp_ite (fun c7 => ?_) (fun c7 => ?_)
    · exact wp_some ⟨b01_0, (by show ¬ (nI 0).toInt = 0 → 0 ≤ v1.toInt ∧ v1.toInt < 40; have f0 := t_lit 0; omega)⟩
    · refine wp_gd (by omega) ?_
      refine wp_ite (fun c16 => ?_) (fun c16 => ?_)
      · exact wp_some ⟨b01_0, (by show ¬ (nI 0).toInt = 0 → 0 ≤ v1.toInt ∧ v1.toInt < 40; have f0 := t_lit 0; omega)⟩
      · exact wp_some ⟨b01_1, (by show ¬ (nI 1).toInt = 0 → 0 ≤ v1.toInt ∧ v1.toInt < 40; have f0 := t_lit 1; omega)⟩
theorem o_X0_measure {b : Nat} (hb : isF b) (M : Mem) (v2 : Int32) (v3 : Int32) : Wp (f_X0_measure b M v2 v3) (fun q => (∀ a i, ¬ (a = 41) → q a i = M a i)) := by
  have hb0 : b = 1 ∨ b = 7 ∨ b = 13 := hb
  refine wp_ite (fun c1 => ?_) (fun c1 => ?_)
  · exact wp_some (fun _ _ _ => rfl)
  · refine wp_ite (fun c7 => ?_) (fun c7 => ?_)
    · exact wp_some (fun _ _ _ => rfl)
    · refine wp_gd (by omega) ?_
      refine wp_bind2 (o_X2_isTold hb M (M 40 (ix v3))) (fun r_1 he17 hq17 => ?_)
      obtain ⟨hz_r_1, hr_17⟩ := hq17
      replace hr_17 : ¬ r_1.toInt = 0 → 0 ≤ (M 40 (ix v3)).toInt ∧ (M 40 (ix v3)).toInt < 40 := hr_17
      refine wp_ite (fun c20 => ?_) (fun c20 => ?_)
      · exact wp_some (fun _ _ _ => rfl)
      · refine wp_gd (by omega) ?_
        refine wp_bnd (fun x_2 ex_2 => ?_)
        refine wp_lp2 (fun M35 y5_35 => (0 ≤ y5_35.toInt) ∧ (∀ a i, ¬ (a = 41) → M35 a i = M a i)) (fun M35 y5_35 => (7 - y5_35.toInt).toNat) (fun ag35 M35 y5_35 hI35 ih35 => ?_) FU M (nI 0) ⟨(by have f0 := t_lit 0; omega), (fun _ _ _ => rfl)⟩ (fu_lt (by have f0 := t_lit 0; omega))
        obtain ⟨hi35, hf_M35⟩ := hI35
        refine wp_ite (fun c38 => ?_) (fun c38 => ?_)
        · exact wp_some (fun a i q0 => ((hf_M35 a i (fun h9 => q0 (h9))).trans rfl))
        · refine wp_ite (fun c45 => ?_) (fun c45 => ?_)
          · exact wp_some (fun a i q0 => ((hf_M35 a i (fun h9 => q0 (h9))).trans rfl))
          · refine wp_gd (by have f0 := congrArg Int32.toInt ex_2; omega) ?_
            refine wp_gd (by omega) ?_
            refine wp_gd (by have f0 := congrArg Int32.toInt ex_2; omega) ?_
            refine wp_gd (by omega) ?_
            refine wp_gd (by have f0 := t_lit 7; have f1 := (t_mulR y5_35 7 (by omega) (by omega)); have f2 := t_add (y5_35 * (nI 7)) v3; omega) ?_
            refine wp_bnd (fun M_3 eM_3 => ?_)
            exact ih35 M_3 (y5_35 + (nI 1)) ⟨(by have f0 := t_lit 1; have f1 := t_add y5_35 (nI 1); omega), (fun a i q0 => ((congrFun (congrFun eM_3 a) i).trans ((mset_ne (fun h9 => q0 ((h9).1))).trans ((hf_M35 a i (fun h9 => q0 (h9))).trans rfl))))⟩ (by have f0 := t_lit 1; have f1 := t_add y5_35 (nI 1); omega)
theorem o_X0_match {b : Nat} (hb : isF b) (M : Mem) (v2 : Int32) (hn : 1 ≤ v2.toInt ∧ v2.toInt ≤ 7) : Wp (f_X0_match b M v2) (fun q => (∀ a i, ¬ (a = 40 ∨ a = 41 ∨ a = 42) → q a i = M a i)) := by
  have hb0 : b = 1 ∨ b = 7 ∨ b = 13 := hb
  refine wp_lp3 (fun M5 y3_5 y4_5 => (0 ≤ y4_5.toInt) ∧ (∀ a i, ¬ (a = 40 ∨ a = 41) → M5 a i = M a i)) (fun M5 y3_5 y4_5 => (7 - y4_5.toInt).toNat) (fun ag5 M5 y3_5 y4_5 hI5 ih5 => ?_) FU M (nI 0) (nI 0) ⟨(by have f0 := t_lit 0; omega), (fun _ _ _ => rfl)⟩ (fu_lt (by have f0 := t_lit 0; omega))
  obtain ⟨hi5, hf_M5⟩ := hI5
  have j54 : Wp (f_X0_match_L54 v2 M5) (fun q => (∀ a i, ¬ (a = 40 ∨ a = 41 ∨ a = 42) → q a i = M a i)) := by
    unfold f_X0_match_L54
    refine wp_bnd (fun x_1 ex_1 => ?_)
    refine wp_lp2 (fun M67 y4_67 => (y4_67.toInt ≤ x_1.toInt) ∧ (∀ a i, ¬ (a = 42) → M67 a i = M5 a i) ∧ (y4_67.toInt ≤ 127)) (fun M67 y4_67 => (y4_67.toInt - 0 + 1).toNat) (fun ag67 M67 y4_67 hI67 ih67 => ?_) FU M5 x_1 ⟨(by have f0 := t_lit 1; have f1 := t_lit 128; have f2 := t_mn (shl (nI 1) v2) (nI 128); have f3 := t_sub (mn (shl (nI 1) v2) (nI 128)) (nI 1); have f4 := congrArg Int32.toInt ex_1; omega), (fun _ _ _ => rfl), (by have f9 := shl_nn (k := v2) (by omega) (by omega); have f0 := t_mn (shl (nI 1) v2) (nI 128); have f1 := t_lit 128; have f3 := t_lit 1; have f2 := t_sub (mn (shl (nI 1) v2) (nI 128)) (nI 1); have f4 := congrArg Int32.toInt ex_1; omega)⟩ (fu_lt (by have f0 := t_lit 1; have f1 := t_lit 128; have f2 := t_mn (shl (nI 1) v2) (nI 128); have f3 := t_sub (mn (shl (nI 1) v2) (nI 128)) (nI 1); have f4 := congrArg Int32.toInt ex_1; omega))
    obtain ⟨hi67, hf_M67, hp⟩ := hI67
    refine wp_ite (fun c69 => ?_) (fun c69 => ?_)
    · exact wp_some (fun a i q0 => ((hf_M67 a i (fun h9 => q0 (Or.inr (Or.inr (h9))))).trans ((hf_M5 a i (fun z8 => q0 ((fun z9 => Or.elim z9 (fun h9 => Or.inl h9) (fun h9 => Or.inr (Or.inl h9))) z8))).trans rfl)))
    · refine wp_bind2 (o_X0_fewestBehind M67 v2 y4_67) (fun r_2 he82 hq82 => ?_)
      refine wp_gd (by omega) ?_
      refine wp_bnd (fun M_3 eM_3 => ?_)
      exact ih67 M_3 (y4_67 + (-1)) ⟨(by have f0 := (by decide : ((-1 : Int32)).toInt = -1); have f1 := t_add y4_67 (-1); omega), (fun a i q0 => ((congrFun (congrFun eM_3 a) i).trans ((mset_ne (fun h9 => q0 ((h9).1))).trans ((hf_M67 a i (fun h9 => q0 (h9))).trans rfl)))), (by have f0 := (by decide : ((-1 : Int32)).toInt = -1); have f1 := t_add y4_67 (-1); omega)⟩ (by have f0 := (by decide : ((-1 : Int32)).toInt = -1); have f1 := t_add y4_67 (-1); omega)
  refine wp_ite (fun c8 => ?_) (fun c8 => ?_)
  · exact j54
  · refine wp_ite (fun c15 => ?_) (fun c15 => ?_)
    · exact j54
    · refine wp_bind2 (o_X2_nextTold hb M5 y3_5) (fun r_4 he26 hq26 => ?_)
      refine wp_gd (by omega) ?_
      refine wp_bnd (fun M_5 eM_5 => ?_)
      refine wp_gd (by omega) ?_
      refine wp_bnd (fun x_6 ex_6 => ?_)
      refine wp_bind2 (o_X0_measure hb M_5 v2 y4_5) (fun M_7 he45 hq45 => ?_)
      have hg_M_7 := hq45
      replace hg_M_7 : ∀ a i, ¬ (a = 41) → M_7 a i = M_5 a i := by exact fun a i q0 => hg_M_7 a i (by first | decide | (rcases hc0 with h | h <;> rw [h] <;> simp; done) | (rcases hb0 with h | h | h <;> rw [h] <;> simp; done) | (simp; done) | omega)
      exact ih5 M_7 x_6 (y4_5 + (nI 1)) ⟨(by have f0 := t_lit 1; have f1 := t_add y4_5 (nI 1); omega), (fun a i q0 => ((hg_M_7 a i (fun h9 => q0 (Or.inr (h9)))).trans ((congrFun (congrFun eM_5 a) i).trans ((mset_ne (fun h9 => q0 (Or.inl (h9).1))).trans ((hf_M5 a i (fun z8 => q0 ((fun z9 => Or.elim z9 (fun h9 => Or.inl h9) (fun h9 => Or.inr (h9))) z8))).trans rfl)))))⟩ (by have f0 := t_lit 1; have f1 := t_add y4_5 (nI 1); omega)
theorem o_X7_byteAt (M : Mem) (v1 : Int32) : Wp (f_X7_byteAt M v1) (fun q => True) := by
  refine wp_ite (fun c1 => ?_) (fun c1 => ?_)
  · exact wp_some trivial
  · refine wp_ite (fun c9 => ?_) (fun c9 => ?_)
    · exact wp_some trivial
    · refine wp_ite (fun c16 => ?_) (fun c16 => ?_)
      · exact wp_some trivial
      · refine wp_gd (by omega) ?_
        exact wp_some trivial
theorem o_X0_read (M : Mem) (v2 : Int32) : Wp (f_X0_read M v2) (fun q => (q.1 = 0 ∨ q.1 = 1) ∧ (∀ a i, ¬ (a = 38 ∨ a = 39) → q.2 a i = M a i)) := by
  refine wp_lp2 (fun M2 y3_2 => (0 ≤ y3_2.toInt) ∧ (∀ a i, ¬ (a = 38 ∨ a = 39) → M2 a i = M a i)) (fun M2 y3_2 => (7 - y3_2.toInt).toNat) (fun ag2 M2 y3_2 hI2 ih2 => ?_) FU M (nI 0) ⟨(by have f0 := t_lit 0; omega), (fun _ _ _ => rfl)⟩ (fu_lt (by have f0 := t_lit 0; omega))
  obtain ⟨hi2, hf_M2⟩ := hI2
  refine wp_ite (fun c4 => ?_) (fun c4 => ?_)
  · exact wp_some ⟨b01_1, (fun a i q0 => ((hf_M2 a i (fun z8 => q0 ((fun z9 => Or.elim z9 (fun h9 => Or.inl h9) (fun h9 => Or.inr (h9))) z8))).trans rfl))⟩
  · refine wp_ite (fun c10 => ?_) (fun c10 => ?_)
    · exact wp_some ⟨b01_1, (fun a i q0 => ((hf_M2 a i (fun z8 => q0 ((fun z9 => Or.elim z9 (fun h9 => Or.inl h9) (fun h9 => Or.inr (h9))) z8))).trans rfl))⟩
    · refine wp_bind2 (o_X7_byteAt M2 ((nI 2) * y3_2)) (fun r_1 he22 hq22 => ?_)
      refine wp_gd (by omega) ?_
      refine wp_bnd (fun M_2 eM_2 => ?_)
      refine wp_bind2 (o_X7_byteAt M_2 (((nI 2) * y3_2) + (nI 1))) (fun r_3 he37 hq37 => ?_)
      refine wp_gd (by omega) ?_
      refine wp_bnd (fun M_4 eM_4 => ?_)
      refine wp_gd (by omega) ?_
      refine wp_ite (fun c49 => ?_) (fun c49 => ?_)
      · exact wp_some ⟨b01_0, (fun a i q0 => ((congrFun (congrFun eM_4 a) i).trans ((mset_ne (fun h9 => q0 (Or.inr ((h9).1)))).trans ((congrFun (congrFun eM_2 a) i).trans ((mset_ne (fun h9 => q0 (Or.inl (h9).1))).trans ((hf_M2 a i (fun z8 => q0 ((fun z9 => Or.elim z9 (fun h9 => Or.inl h9) (fun h9 => Or.inr (h9))) z8))).trans rfl))))))⟩
      · refine wp_gd (by have f0 := congrArg Int32.toInt ((congrFun (congrFun eM_4 38) (ix y3_2)).trans (mset_ne (by first | exact nz1 (by decide) | exact nz2 (by decide) | exact nz1 (nzA hc0 (by decide)) | exact nz1 (nzE (by decide)) | exact nz1 (nzB hc0 (by decide)) | exact nz1 (nzC hc0 (by decide)) | exact nz1 (nzD hc0 (by decide)) | exact nz1 (nzF (by decide)) | exact nz1 (nzG (by decide)) | omega))); have f1 := congrArg Int32.toInt ((congrFun (congrFun eM_2 38) (ix y3_2)).trans mset_eq); omega) ?_
        refine wp_ite (fun c60 => ?_) (fun c60 => ?_)
        · exact ih2 M_4 (y3_2 + (nI 1)) ⟨(by have f0 := t_lit 1; have f1 := t_add y3_2 (nI 1); have f2 := congrArg Int32.toInt ((congrFun (congrFun eM_4 38) (ix y3_2)).trans (mset_ne (by first | exact nz1 (by decide) | exact nz2 (by decide) | exact nz1 (nzA hc0 (by decide)) | exact nz1 (nzE (by decide)) | exact nz1 (nzB hc0 (by decide)) | exact nz1 (nzC hc0 (by decide)) | exact nz1 (nzD hc0 (by decide)) | exact nz1 (nzF (by decide)) | exact nz1 (nzG (by decide)) | omega))); have f3 := congrArg Int32.toInt ((congrFun (congrFun eM_2 38) (ix y3_2)).trans mset_eq); have f4 := congrArg Int32.toInt ((congrFun (congrFun eM_4 39) (ix y3_2)).trans mset_eq); omega), (fun a i q0 => ((congrFun (congrFun eM_4 a) i).trans ((mset_ne (fun h9 => q0 (Or.inr ((h9).1)))).trans ((congrFun (congrFun eM_2 a) i).trans ((mset_ne (fun h9 => q0 (Or.inl (h9).1))).trans ((hf_M2 a i (fun z8 => q0 ((fun z9 => Or.elim z9 (fun h9 => Or.inl h9) (fun h9 => Or.inr (h9))) z8))).trans rfl))))))⟩ (by have f0 := t_lit 1; have f1 := t_add y3_2 (nI 1); have f2 := congrArg Int32.toInt ((congrFun (congrFun eM_4 38) (ix y3_2)).trans (mset_ne (by first | exact nz1 (by decide) | exact nz2 (by decide) | exact nz1 (nzA hc0 (by decide)) | exact nz1 (nzE (by decide)) | exact nz1 (nzB hc0 (by decide)) | exact nz1 (nzC hc0 (by decide)) | exact nz1 (nzD hc0 (by decide)) | exact nz1 (nzF (by decide)) | exact nz1 (nzG (by decide)) | omega))); have f3 := congrArg Int32.toInt ((congrFun (congrFun eM_2 38) (ix y3_2)).trans mset_eq); have f4 := congrArg Int32.toInt ((congrFun (congrFun eM_4 39) (ix y3_2)).trans mset_eq); omega)
        · exact wp_some ⟨b01_0, (fun a i q0 => ((congrFun (congrFun eM_4 a) i).trans ((mset_ne (fun h9 => q0 (Or.inr ((h9).1)))).trans ((congrFun (congrFun eM_2 a) i).trans ((mset_ne (fun h9 => q0 (Or.inl (h9).1))).trans ((hf_M2 a i (fun z8 => q0 ((fun z9 => Or.elim z9 (fun h9 => Or.inl h9) (fun h9 => Or.inr (h9))) z8))).trans rfl))))))⟩
theorem o_X0_stoneOf (M : Mem) (v1 : Int32) (v2 : Int32) : Wp (f_X0_stoneOf M v1 v2) (fun q => True) := by
  refine wp_lp3 (fun y3_8 y4_8 y5_8 => (0 ≤ y5_8.toInt)) (fun y3_8 y4_8 y5_8 => (7 - y5_8.toInt).toNat) (fun ag8 y3_8 y4_8 y5_8 hI8 ih8 => ?_) FU (nI 0) (-1) (nI 0) (by have f0 := t_lit 0; omega) (fu_lt (by have f0 := t_lit 0; omega))
  have hi8 := hI8
  refine wp_ite (fun c11 => ?_) (fun c11 => ?_)
  · exact wp_some trivial
  · refine wp_ite (fun c18 => ?_) (fun c18 => ?_)
    · exact wp_some trivial
    · refine wp_lp1 (fun y6_24 => (0 ≤ y6_24.toInt)) (fun y6_24 => (7 - y6_24.toInt).toNat) (fun ag24 y6_24 hI24 ih24 => ?_) FU (nI 0) (by have f0 := t_lit 0; omega) (fu_lt (by have f0 := t_lit 0; omega))
      have hi24 := hI24
      refine wp_ite (fun c27 => ?_) (fun c27 => ?_)
      · exact ih8 y3_8 y4_8 (y5_8 + (nI 1)) (by have f0 := t_lit 1; have f1 := t_add y5_8 (nI 1); omega) (by have f0 := t_lit 1; have f1 := t_add y5_8 (nI 1); omega)
      · refine wp_ite (fun c34 => ?_) (fun c34 => ?_)
        · exact ih8 y3_8 y4_8 (y5_8 + (nI 1)) (by have f0 := t_lit 1; have f1 := t_add y5_8 (nI 1); omega) (by have f0 := t_lit 1; have f1 := t_add y5_8 (nI 1); omega)
        · refine wp_ite (fun c38 => ?_) (fun c38 => ?_)
          · exact ih24 (y6_24 + (nI 1)) (by have f0 := t_lit 1; have f1 := t_add y6_24 (nI 1); omega) (by have f0 := t_lit 1; have f1 := t_add y6_24 (nI 1); omega)
          · refine wp_ite (fun c45 => ?_) (fun c45 => ?_)
            · exact ih24 (y6_24 + (nI 1)) (by have f0 := t_lit 1; have f1 := t_add y6_24 (nI 1); omega) (by have f0 := t_lit 1; have f1 := t_add y6_24 (nI 1); omega)
            · refine wp_bind2 (o_X0_wayWith M y3_8 y5_8 y6_24) (fun r_1 he54 hq54 => ?_)
              refine wp_gd (by omega) ?_
              have j66 : Wp (f_X0_stoneOf_L66 M ag8 y3_8 y5_8 y6_24) (fun q => True) := by
                unfold f_X0_stoneOf_L66
                refine wp_gd (by omega) ?_
                refine wp_bnd (fun x_2 ex_2 => ?_)
                refine wp_bnd (fun x_3 ex_3 => ?_)
                exact ih8 x_3 x_2 (y5_8 + (nI 1)) (by have f0 := t_lit 1; have f1 := t_add y5_8 (nI 1); omega) (by have f0 := t_lit 1; have f1 := t_add y5_8 (nI 1); omega)
              refine wp_ite (fun c63 => ?_) (fun c63 => ?_)
              · exact j66
              · exact ih24 (y6_24 + (nI 1)) (by have f0 := t_lit 1; have f1 := t_add y6_24 (nI 1); omega) (by have f0 := t_lit 1; have f1 := t_add y6_24 (nI 1); omega)
theorem o_X0_wayInAll (M : Mem) : Wp (f_X0_wayInAll M) (fun q => True) := by
  exact wp_some trivial
theorem o_X1_reach (M : Mem) (v1 : Int32) (v2 : Int32) : Wp (f_X1_reach M v1 v2) (fun q => (∀ a i, ¬ ((a = 30 ∧ i = 3) ∨ a = 32 ∨ a = 33) → q a i = M a i)) := by
  refine wp_ite (fun c1 => ?_) (fun c1 => ?_)
  · exact wp_some (fun _ _ _ => rfl)
  · refine wp_ite (fun c7 => ?_) (fun c7 => ?_)
    · exact wp_some (fun _ _ _ => rfl)
    · refine wp_ite (fun c14 => ?_) (fun c14 => ?_)
      · exact wp_some (fun _ _ _ => rfl)
      · refine wp_ite (fun c23 => ?_) (fun c23 => ?_)
        · exact wp_some (fun _ _ _ => rfl)
        · refine wp_gd (by omega) ?_
          refine wp_ite (fun c33 => ?_) (fun c33 => ?_)
          · refine wp_gd (by omega) ?_
            refine wp_bnd (fun M_1 eM_1 => ?_)
            refine wp_gd (by have f0 := congrArg Int32.toInt ((congrFun (congrFun eM_1 30) 3).trans (mset_ne (by first | exact nz1 (by decide) | exact nz2 (by decide) | exact nz1 (nzA hc0 (by decide)) | exact nz1 (nzE (by decide)) | exact nz1 (nzB hc0 (by decide)) | exact nz1 (nzC hc0 (by decide)) | exact nz1 (nzD hc0 (by decide)) | exact nz1 (nzF (by decide)) | exact nz1 (nzG (by decide)) | omega))); omega) ?_
            refine wp_bnd (fun M_2 eM_2 => ?_)
            refine wp_bnd (fun M_3 eM_3 => ?_)
            exact wp_some (fun a i q0 => ((congrFun (congrFun eM_3 a) i).trans ((mset_ne (fun h9 => q0 (Or.inl h9))).trans ((congrFun (congrFun eM_2 a) i).trans ((mset_ne (fun h9 => q0 (Or.inr (Or.inr ((h9).1))))).trans ((congrFun (congrFun eM_1 a) i).trans ((mset_ne (fun h9 => q0 (Or.inr (Or.inl (h9).1)))).trans rfl)))))))
          · exact wp_some (fun _ _ _ => rfl)
theorem o_X1_comeOn (M : Mem) (v1 : Int32) : Wp (f_X1_comeOn M v1) (fun q => (∀ a i, ¬ ((a = 30 ∧ i = 3) ∨ a = 32 ∨ a = 33) → q a i = M a i)) := by
  refine wp_ite (fun c1 => ?_) (fun c1 => ?_)
  · exact wp_some (fun _ _ _ => rfl)
  · refine wp_ite (fun c7 => ?_) (fun c7 => ?_)
    · refine wp_gd (by omega) ?_
      refine wp_ite (fun c18 => ?_) (fun c18 => ?_)
      · refine wp_bind2 (o_X1_reach M (v1 + (nI 40)) v1) (fun M_2 he27 hq27 => ?_)
        have hg_M_2 := hq27
        replace hg_M_2 : ∀ a i, ¬ ((a = 30 ∧ i = 3) ∨ a = 32 ∨ a = 33) → M_2 a i = M a i := hg_M_2
        exact wp_some (fun a i q0 => ((hg_M_2 a i (fun z8 => q0 ((fun z9 => Or.elim z9 (fun h9 => Or.inl h9) (fun z9 => Or.elim z9 (fun h9 => Or.inr (Or.inl h9)) (fun h9 => Or.inr (Or.inr (h9))))) z8))).trans rfl))
      · refine wp_gd (by omega) ?_
        refine wp_ite (fun c41 => ?_) (fun c41 => ?_)
        · exact wp_some (fun _ _ _ => rfl)
        · refine wp_gd (by omega) ?_
          refine wp_bind2 (o_X1_reach M ((M 31 (ix v1)) + (nI 40)) v1) (fun M_1 he55 hq55 => ?_)
          have hg_M_1 := hq55
          replace hg_M_1 : ∀ a i, ¬ ((a = 30 ∧ i = 3) ∨ a = 32 ∨ a = 33) → M_1 a i = M a i := hg_M_1
          exact wp_some (fun a i q0 => ((hg_M_1 a i (fun z8 => q0 ((fun z9 => Or.elim z9 (fun h9 => Or.inl h9) (fun z9 => Or.elim z9 (fun h9 => Or.inr (Or.inl h9)) (fun h9 => Or.inr (Or.inr (h9))))) z8))).trans rfl))
    · exact wp_some (fun _ _ _ => rfl)
theorem o_X2_isDry {b : Nat} (hb : isF b) (M : Mem) (v1 : Int32) : Wp (f_X2_isDry b M v1) (fun q => (q = 0 ∨ q = 1) ∧ (¬ q.toInt = 0 → 0 ≤ v1.toInt ∧ v1.toInt < 40)) := by
  have hb0 : b = 1 ∨ b = 7 ∨ b = 13 := hb
  refine wp_ite (fun c1 => ?_) (fun c1 => ?_)
  · exact wp_some ⟨b01_0, (by show ¬ (nI 0).toInt = 0 → 0 ≤ v1.toInt ∧ v1.toInt < 40; have f0 := t_lit 0; omega)⟩
  · refine wp_ite (fun c7 => ?_) (fun c7 => ?_)
    · exact wp_some ⟨b01_0, (by show ¬ (nI 0).toInt = 0 → 0 ≤ v1.toInt ∧ v1.toInt < 40; have f0 := t_lit 0; omega)⟩
    · refine wp_gd (by omega) ?_
      refine wp_ite (fun c16 => ?_) (fun c16 => ?_)
      · exact wp_some ⟨b01_0, (by show ¬ (nI 0).toInt = 0 → 0 ≤ v1.toInt ∧ v1.toInt < 40; have f0 := t_lit 0; omega)⟩
      · refine wp_gd (by omega) ?_
        refine wp_ite (fun c25 => ?_) (fun c25 => ?_)
        · exact wp_some ⟨b01_1, (by show ¬ (nI 1).toInt = 0 → 0 ≤ v1.toInt ∧ v1.toInt < 40; have f0 := t_lit 1; omega)⟩
        · exact wp_some ⟨b01_0, (by show ¬ (nI 0).toInt = 0 → 0 ≤ v1.toInt ∧ v1.toInt < 40; have f0 := t_lit 0; omega)⟩
theorem o_X2_canStand {b : Nat} (hb : isF b) (M : Mem) (v1 : Int32) : Wp (f_X2_canStand b M v1) (fun q => (q = 0 ∨ q = 1)) := by
  have hb0 : b = 1 ∨ b = 7 ∨ b = 13 := hb
  refine wp_ite (fun c3 => ?_) (fun c3 => ?_)
  · exact wp_some b01_1
  · refine wp_ite (fun c9 => ?_) (fun c9 => ?_)
    · exact wp_some b01_1
    · refine wp_bind2 (o_X2_isDry hb M v1) (fun r_1 he14 hq14 => ?_)
      obtain ⟨hz_r_1, hr_14⟩ := hq14
      replace hr_14 : ¬ r_1.toInt = 0 → 0 ≤ v1.toInt ∧ v1.toInt < 40 := hr_14
      refine wp_ite (fun c17 => ?_) (fun c17 => ?_)
      · exact wp_some b01_0
      · exact wp_some b01_1
theorem o_X2_heightOf {b : Nat} (hb : isF b) (M : Mem) (v1 : Int32) : Wp (f_X2_heightOf b M v1) (fun q => True) := by
  have hb0 : b = 1 ∨ b = 7 ∨ b = 13 := hb
  refine wp_ite (fun c3 => ?_) (fun c3 => ?_)
  · exact wp_some trivial
  · refine wp_ite (fun c10 => ?_) (fun c10 => ?_)
    · exact wp_some trivial
    · refine wp_ite (fun c16 => ?_) (fun c16 => ?_)
      · exact wp_some trivial
      · refine wp_gd (by omega) ?_
        exact wp_some trivial
theorem o_X2_isStepFrom {b : Nat} (hb : isF b) (M : Mem) (v1 : Int32) (v2 : Int32) (v3 : Int32) (v4 : Int32) : Wp (f_X2_isStepFrom b M v1 v2 v3 v4) (fun q => (q = 0 ∨ q = 1)) := by
  have hb0 : b = 1 ∨ b = 7 ∨ b = 13 := hb
  have j22 : ∀ (t0_22 : Int32), Wp (f_X2_isStepFrom_L22 b M v1 v3 v4 t0_22) (fun q => (q = 0 ∨ q = 1)) := by
    intro t0_22
    unfold f_X2_isStepFrom_L22
    refine wp_bind2 (o_X2_heightOf hb M v1) (fun r_1 he26 hq26 => ?_)
    refine wp_bnd (fun x_2 ex_2 => ?_)
    refine wp_ite (fun c49 => ?_) (fun c49 => ?_)
    · exact wp_some b01_0
    · exact wp_some b01_1
  have j21 : Wp (f_X2_isStepFrom_L21 b M v1 v3 v4) (fun q => (q = 0 ∨ q = 1)) := by
    unfold f_X2_isStepFrom_L21
    exact j22 (nI 0)
  refine wp_ite (fun c1 => ?_) (fun c1 => ?_)
  · exact j21
  · refine wp_ite (fun c7 => ?_) (fun c7 => ?_)
    · exact j21
    · refine wp_gd (by omega) ?_
      exact j22 ((M (b + 1) (ix v1)) - v2)
theorem o_X2_isStep {b : Nat} (hb : isF b) (M : Mem) (v1 : Int32) (v2 : Int32) (v3 : Int32) : Wp (f_X2_isStep b M v1 v2 v3) (fun q => (q = 0 ∨ q = 1)) := by
  have hb0 : b = 1 ∨ b = 7 ∨ b = 13 := hb
  refine wp_ite (fun c2 => ?_) (fun c2 => ?_)
  · exact wp_some b01_0
  · refine wp_bind2 (o_X2_canStand hb M v1) (fun r_1 he7 hq7 => ?_)
    have hz_r_1 := hq7
    refine wp_ite (fun c10 => ?_) (fun c10 => ?_)
    · exact wp_some b01_0
    · have j60 : Wp (f_X2_isStep_L60 b M v1 v2 v3) (fun q => (q = 0 ∨ q = 1)) := by
        unfold f_X2_isStep_L60
        have j72 : Wp (f_X2_isStep_L72 b M v1 v2 v3) (fun q => (q = 0 ∨ q = 1)) := by
          unfold f_X2_isStep_L72
          refine wp_bind2 (o_X2_heightOf hb M v1) (fun r_2 he74 hq74 => ?_)
          refine wp_bind2 (o_X2_heightOf hb M v2) (fun r_3 he79 hq79 => ?_)
          refine wp_ite (fun c87 => ?_) (fun c87 => ?_)
          · exact wp_some b01_0
          · exact wp_some b01_1
        refine wp_ite (fun c63 => ?_) (fun c63 => ?_)
        · exact j72
        · refine wp_ite (fun c69 => ?_) (fun c69 => ?_)
          · exact j72
          · exact wp_some b01_0
      refine wp_ite (fun c16 => ?_) (fun c16 => ?_)
      · exact j60
      · refine wp_ite (fun c22 => ?_) (fun c22 => ?_)
        · exact j60
        · refine wp_bind2 (o_X2_isDry hb M v2) (fun r_4 he27 hq27 => ?_)
          obtain ⟨hz_r_4, hr_27⟩ := hq27
          replace hr_27 : ¬ r_4.toInt = 0 → 0 ≤ v2.toInt ∧ v2.toInt < 40 := hr_27
          refine wp_ite (fun c30 => ?_) (fun c30 => ?_)
          · exact wp_some b01_0
          · refine wp_gd (by omega) ?_
            refine wp_gd (by omega) ?_
            refine wp_bind2 (o_X2_isStepFrom hb M v1 (M (b + 1) (ix v2)) (M (b + 2) (ix v2)) v3) (fun r_5 he48 hq48 => ?_)
            have hz_r_5 := hq48
            refine wp_ite (fun c51 => ?_) (fun c51 => ?_)
            · exact wp_some b01_0
            · exact wp_some b01_1
theorem o_X1_leave {b : Nat} (hb : isF b) (M : Mem) (v2 : Int32) (v3 : Int32) : Wp (f_X1_leave b M v2 v3) (fun q => (q.1 = 0 ∨ q.1 = 1) ∧ (∀ a i, ¬ ((a = 30 ∧ i = 3) ∨ a = 32 ∨ a = 33) → q.2 a i = M a i)) := by
  have hb0 : b = 1 ∨ b = 7 ∨ b = 13 := hb
  refine wp_ite (fun c1 => ?_) (fun c1 => ?_)
  · exact wp_some ⟨b01_0, (fun _ _ _ => rfl)⟩
  · refine wp_ite (fun c7 => ?_) (fun c7 => ?_)
    · refine wp_bind2 (o_X2_isStep hb M v3 (nI 41) v2) (fun r_1 he17 hq17 => ?_)
      have hz_r_1 := hq17
      refine wp_ite (fun c20 => ?_) (fun c20 => ?_)
      · refine wp_lp2 (fun M28 y4_28 => (0 ≤ y4_28.toInt) ∧ (∀ a i, ¬ ((a = 30 ∧ i = 3) ∨ a = 32 ∨ a = 33) → M28 a i = M a i)) (fun M28 y4_28 => (40 - y4_28.toInt).toNat) (fun ag28 M28 y4_28 hI28 ih28 => ?_) FU M (nI 0) ⟨(by have f0 := t_lit 0; omega), (fun _ _ _ => rfl)⟩ (fu_lt (by have f0 := t_lit 0; omega))
        obtain ⟨hi28, hf_M28⟩ := hI28
        have j62 : Wp (f_X1_leave_L62 v3 M28) (fun q => (q.1 = 0 ∨ q.1 = 1) ∧ (∀ a i, ¬ ((a = 30 ∧ i = 3) ∨ a = 32 ∨ a = 33) → q.2 a i = M a i)) := by
          unfold f_X1_leave_L62
          refine wp_bind2 (o_X1_reach M28 v3 (v3 + (nI 40))) (fun M_2 he68 hq68 => ?_)
          have hg_M_2 := hq68
          replace hg_M_2 : ∀ a i, ¬ ((a = 30 ∧ i = 3) ∨ a = 32 ∨ a = 33) → M_2 a i = M28 a i := hg_M_2
          exact wp_some ⟨b01_0, (fun a i q0 => ((hg_M_2 a i (fun z8 => q0 ((fun z9 => Or.elim z9 (fun h9 => Or.inl h9) (fun z9 => Or.elim z9 (fun h9 => Or.inr (Or.inl h9)) (fun h9 => Or.inr (Or.inr (h9))))) z8))).trans ((hf_M28 a i (fun z8 => q0 ((fun z9 => Or.elim z9 (fun h9 => Or.inl h9) (fun z9 => Or.elim z9 (fun h9 => Or.inr (Or.inl h9)) (fun h9 => Or.inr (Or.inr (h9))))) z8))).trans rfl)))⟩
        refine wp_ite (fun c32 => ?_) (fun c32 => ?_)
        · exact j62
        · refine wp_bind2 (o_X2_isStep hb M28 v3 y4_28 v2) (fun r_3 he40 hq40 => ?_)
          have hz_r_3 := hq40
          refine wp_ite (fun c43 => ?_) (fun c43 => ?_)
          · exact ih28 M28 (y4_28 + (nI 1)) ⟨(by have f0 := t_lit 1; have f1 := t_add y4_28 (nI 1); omega), (fun a i q0 => ((hf_M28 a i (fun z8 => q0 ((fun z9 => Or.elim z9 (fun h9 => Or.inl h9) (fun z9 => Or.elim z9 (fun h9 => Or.inr (Or.inl h9)) (fun h9 => Or.inr (Or.inr (h9))))) z8))).trans rfl))⟩ (by have f0 := t_lit 1; have f1 := t_add y4_28 (nI 1); omega)
          · refine wp_bind2 (o_X1_reach M28 y4_28 (v3 + (nI 40))) (fun M_4 he53 hq53 => ?_)
            have hg_M_4 := hq53
            replace hg_M_4 : ∀ a i, ¬ ((a = 30 ∧ i = 3) ∨ a = 32 ∨ a = 33) → M_4 a i = M28 a i := hg_M_4
            exact ih28 M_4 (y4_28 + (nI 1)) ⟨(by have f0 := t_lit 1; have f1 := t_add y4_28 (nI 1); omega), (fun a i q0 => ((hg_M_4 a i (fun z8 => q0 ((fun z9 => Or.elim z9 (fun h9 => Or.inl h9) (fun z9 => Or.elim z9 (fun h9 => Or.inr (Or.inl h9)) (fun h9 => Or.inr (Or.inr (h9))))) z8))).trans ((hf_M28 a i (fun z8 => q0 ((fun z9 => Or.elim z9 (fun h9 => Or.inl h9) (fun z9 => Or.elim z9 (fun h9 => Or.inr (Or.inl h9)) (fun h9 => Or.inr (Or.inr (h9))))) z8))).trans rfl)))⟩ (by have f0 := t_lit 1; have f1 := t_add y4_28 (nI 1); omega)
      · exact wp_some ⟨b01_1, (fun _ _ _ => rfl)⟩
    · exact wp_some ⟨b01_0, (fun _ _ _ => rfl)⟩
theorem o_X1_search {b : Nat} (hb : isF b) (M : Mem) (v2 : Int32) : Wp (f_X1_search b M v2) (fun q => (∀ a i, ¬ ((a = 30 ∧ i = 3) ∨ a = 32 ∨ a = 33) → q.2 a i = M a i)) := by
  have hb0 : b = 1 ∨ b = 7 ∨ b = 13 := hb
  refine wp_bind2 (o_J7_fill_53178 (by decide) M (-1)) (fun M_1 he5 hq5 => ?_)
  have hg_M_1 := hq5
  replace hg_M_1 : ∀ a i, ¬ (a = 32) → M_1 a i = M a i := by exact fun a i q0 => hg_M_1 a i (by first | decide | (rcases hc0 with h | h <;> rw [h] <;> simp; done) | (rcases hb0 with h | h | h <;> rw [h] <;> simp; done) | (simp; done) | omega)
  refine wp_bnd (fun M_2 eM_2 => ?_)
  refine wp_lp2 (fun M15 y3_15 => (0 ≤ y3_15.toInt) ∧ (∀ a i, ¬ ((a = 30 ∧ i = 3) ∨ a = 32 ∨ a = 33) → M15 a i = M_2 a i)) (fun M15 y3_15 => (40 - y3_15.toInt).toNat) (fun ag15 M15 y3_15 hI15 ih15 => ?_) FU M_2 (nI 0) ⟨(by have f0 := t_lit 0; omega), (fun _ _ _ => rfl)⟩ (fu_lt (by have f0 := t_lit 0; omega))
  obtain ⟨hi15, hf_M15⟩ := hI15
  have j45 : Wp (f_X1_search_L45 b v2 M15) (fun q => (∀ a i, ¬ ((a = 30 ∧ i = 3) ∨ a = 32 ∨ a = 33) → q.2 a i = M a i)) := by
    unfold f_X1_search_L45
    refine wp_lp2 (fun M47 y3_47 => (0 ≤ y3_47.toInt) ∧ (∀ a i, ¬ ((a = 30 ∧ i = 3) ∨ a = 32 ∨ a = 33) → M47 a i = M15 a i)) (fun M47 y3_47 => (80 - y3_47.toInt).toNat) (fun ag47 M47 y3_47 hI47 ih47 => ?_) FU M15 (nI 0) ⟨(by have f0 := t_lit 0; omega), (fun _ _ _ => rfl)⟩ (fu_lt (by have f0 := t_lit 0; omega))
    obtain ⟨hi47, hf_M47⟩ := hI47
    refine wp_ite (fun c52 => ?_) (fun c52 => ?_)
    · exact wp_some (fun a i q0 => ((hf_M47 a i (fun z8 => q0 ((fun z9 => Or.elim z9 (fun h9 => Or.inl h9) (fun z9 => Or.elim z9 (fun h9 => Or.inr (Or.inl h9)) (fun h9 => Or.inr (Or.inr (h9))))) z8))).trans ((hf_M15 a i (fun z8 => q0 ((fun z9 => Or.elim z9 (fun h9 => Or.inl h9) (fun z9 => Or.elim z9 (fun h9 => Or.inr (Or.inl h9)) (fun h9 => Or.inr (Or.inr (h9))))) z8))).trans ((congrFun (congrFun eM_2 a) i).trans ((mset_ne (fun h9 => q0 (Or.inl h9))).trans ((hg_M_1 a i (fun h9 => q0 (Or.inr (Or.inl h9)))).trans rfl))))))
    · refine wp_ite (fun c58 => ?_) (fun c58 => ?_)
      · exact wp_some (fun a i q0 => ((hf_M47 a i (fun z8 => q0 ((fun z9 => Or.elim z9 (fun h9 => Or.inl h9) (fun z9 => Or.elim z9 (fun h9 => Or.inr (Or.inl h9)) (fun h9 => Or.inr (Or.inr (h9))))) z8))).trans ((hf_M15 a i (fun z8 => q0 ((fun z9 => Or.elim z9 (fun h9 => Or.inl h9) (fun z9 => Or.elim z9 (fun h9 => Or.inr (Or.inl h9)) (fun h9 => Or.inr (Or.inr (h9))))) z8))).trans ((congrFun (congrFun eM_2 a) i).trans ((mset_ne (fun h9 => q0 (Or.inl h9))).trans ((hg_M_1 a i (fun h9 => q0 (Or.inr (Or.inl h9)))).trans rfl))))))
      · refine wp_gd (by omega) ?_
        refine wp_bnd (fun x_3 ex_3 => ?_)
        refine wp_ite (fun c73 => ?_) (fun c73 => ?_)
        · refine wp_cb2 (o_X1_leave hb M47 v2 (x_3 - (nI 40))) (fun r_4 M_5 he93 hq93 => ?_)
          obtain ⟨hz_r_4, hg_M_5⟩ := hq93
          replace hg_M_5 : ∀ a i, ¬ ((a = 30 ∧ i = 3) ∨ a = 32 ∨ a = 33) → M_5 a i = M47 a i := by exact fun a i q0 => hg_M_5 a i (by first | decide | (rcases hc0 with h | h <;> rw [h] <;> simp; done) | (rcases hb0 with h | h | h <;> rw [h] <;> simp; done) | (simp; done) | omega)
          refine wp_ite (fun c96 => ?_) (fun c96 => ?_)
          · exact ih47 M_5 (y3_47 + (nI 1)) ⟨(by have f0 := t_lit 1; have f1 := t_add y3_47 (nI 1); omega), (fun a i q0 => ((hg_M_5 a i (fun z8 => q0 ((fun z9 => Or.elim z9 (fun h9 => Or.inl h9) (fun z9 => Or.elim z9 (fun h9 => Or.inr (Or.inl h9)) (fun h9 => Or.inr (Or.inr (h9))))) z8))).trans ((hf_M47 a i (fun z8 => q0 ((fun z9 => Or.elim z9 (fun h9 => Or.inl h9) (fun z9 => Or.elim z9 (fun h9 => Or.inr (Or.inl h9)) (fun h9 => Or.inr (Or.inr (h9))))) z8))).trans rfl)))⟩ (by have f0 := t_lit 1; have f1 := t_add y3_47 (nI 1); omega)
          · exact wp_some (fun a i q0 => ((hg_M_5 a i (fun z8 => q0 ((fun z9 => Or.elim z9 (fun h9 => Or.inl h9) (fun z9 => Or.elim z9 (fun h9 => Or.inr (Or.inl h9)) (fun h9 => Or.inr (Or.inr (h9))))) z8))).trans ((hf_M47 a i (fun z8 => q0 ((fun z9 => Or.elim z9 (fun h9 => Or.inl h9) (fun z9 => Or.elim z9 (fun h9 => Or.inr (Or.inl h9)) (fun h9 => Or.inr (Or.inr (h9))))) z8))).trans ((hf_M15 a i (fun z8 => q0 ((fun z9 => Or.elim z9 (fun h9 => Or.inl h9) (fun z9 => Or.elim z9 (fun h9 => Or.inr (Or.inl h9)) (fun h9 => Or.inr (Or.inr (h9))))) z8))).trans ((congrFun (congrFun eM_2 a) i).trans ((mset_ne (fun h9 => q0 (Or.inl h9))).trans ((hg_M_1 a i (fun h9 => q0 (Or.inr (Or.inl h9)))).trans rfl)))))))
        · refine wp_bind2 (o_X1_comeOn M47 x_3) (fun M_6 he79 hq79 => ?_)
          have hg_M_6 := hq79
          replace hg_M_6 : ∀ a i, ¬ ((a = 30 ∧ i = 3) ∨ a = 32 ∨ a = 33) → M_6 a i = M47 a i := hg_M_6
          exact ih47 M_6 (y3_47 + (nI 1)) ⟨(by have f0 := t_lit 1; have f1 := t_add y3_47 (nI 1); omega), (fun a i q0 => ((hg_M_6 a i (fun z8 => q0 ((fun z9 => Or.elim z9 (fun h9 => Or.inl h9) (fun z9 => Or.elim z9 (fun h9 => Or.inr (Or.inl h9)) (fun h9 => Or.inr (Or.inr (h9))))) z8))).trans ((hf_M47 a i (fun z8 => q0 ((fun z9 => Or.elim z9 (fun h9 => Or.inl h9) (fun z9 => Or.elim z9 (fun h9 => Or.inr (Or.inl h9)) (fun h9 => Or.inr (Or.inr (h9))))) z8))).trans rfl)))⟩ (by have f0 := t_lit 1; have f1 := t_add y3_47 (nI 1); omega)
  refine wp_ite (fun c18 => ?_) (fun c18 => ?_)
  · exact j45
  · refine wp_bind2 (o_X2_isStep hb M15 (nI 40) y3_15 v2) (fun r_7 he26 hq26 => ?_)
    have hz_r_7 := hq26
    refine wp_ite (fun c29 => ?_) (fun c29 => ?_)
    · exact ih15 M15 (y3_15 + (nI 1)) ⟨(by have f0 := t_lit 1; have f1 := t_add y3_15 (nI 1); omega), (fun a i q0 => ((hf_M15 a i (fun z8 => q0 ((fun z9 => Or.elim z9 (fun h9 => Or.inl h9) (fun z9 => Or.elim z9 (fun h9 => Or.inr (Or.inl h9)) (fun h9 => Or.inr (Or.inr (h9))))) z8))).trans rfl))⟩ (by have f0 := t_lit 1; have f1 := t_add y3_15 (nI 1); omega)
    · refine wp_bind2 (o_X1_reach M15 y3_15 (-2)) (fun M_8 he36 hq36 => ?_)
      have hg_M_8 := hq36
      replace hg_M_8 : ∀ a i, ¬ ((a = 30 ∧ i = 3) ∨ a = 32 ∨ a = 33) → M_8 a i = M15 a i := hg_M_8
      exact ih15 M_8 (y3_15 + (nI 1)) ⟨(by have f0 := t_lit 1; have f1 := t_add y3_15 (nI 1); omega), (fun a i q0 => ((hg_M_8 a i (fun z8 => q0 ((fun z9 => Or.elim z9 (fun h9 => Or.inl h9) (fun z9 => Or.elim z9 (fun h9 => Or.inr (Or.inl h9)) (fun h9 => Or.inr (Or.inr (h9))))) z8))).trans ((hf_M15 a i (fun z8 => q0 ((fun z9 => Or.elim z9 (fun h9 => Or.inl h9) (fun z9 => Or.elim z9 (fun h9 => Or.inr (Or.inl h9)) (fun h9 => Or.inr (Or.inr (h9))))) z8))).trans rfl)))⟩ (by have f0 := t_lit 1; have f1 := t_add y3_15 (nI 1); omega)
theorem o_X1_join (M : Mem) (v1 : Int32) (v2 : Int32) : Wp (f_X1_join M v1 v2) (fun q => (∀ a i, ¬ (a = 31) → q a i = M a i)) := by
  refine wp_ite (fun c1 => ?_) (fun c1 => ?_)
  · exact wp_some (fun _ _ _ => rfl)
  · refine wp_ite (fun c7 => ?_) (fun c7 => ?_)
    · exact wp_some (fun _ _ _ => rfl)
    · have j25 : ∀ (t0_25 : Int32), Wp (f_X1_join_L25 M v2 t0_25) (fun q => (∀ a i, ¬ (a = 31) → q a i = M a i)) := by
        intro t0_25
        unfold f_X1_join_L25
        refine wp_gd (by omega) ?_
        refine wp_bnd (fun M_1 eM_1 => ?_)
        exact wp_some (fun a i q0 => ((congrFun (congrFun eM_1 a) i).trans ((mset_ne (fun h9 => q0 ((h9).1))).trans rfl)))
      refine wp_ite (fun c17 => ?_) (fun c17 => ?_)
      · exact j25 (-1)
      · exact j25 v1
theorem o_X1_weave (M : Mem) (v1 : Int32) : Wp (f_X1_weave M v1) (fun q => (∀ a i, ¬ (a = 31) → q a i = M a i)) := by
  refine wp_lp4 (fun M8 y2_8 y3_8 y4_8 => (0 ≤ y4_8.toInt) ∧ (∀ a i, ¬ (a = 31) → M8 a i = M a i)) (fun M8 y2_8 y3_8 y4_8 => (80 + 1 - y4_8.toInt).toNat) (fun ag8 M8 y2_8 y3_8 y4_8 hI8 ih8 => ?_) FU M v1 (nI 41) (nI 0) ⟨(by have f0 := t_lit 0; omega), (fun _ _ _ => rfl)⟩ (fu_lt (by have f0 := t_lit 0; omega))
  obtain ⟨hi8, hf_M8⟩ := hI8
  refine wp_ite (fun c12 => ?_) (fun c12 => ?_)
  · exact wp_some (fun a i q0 => ((hf_M8 a i (fun h9 => q0 (h9))).trans rfl))
  · refine wp_ite (fun c16 => ?_) (fun c16 => ?_)
    · exact wp_some (fun a i q0 => ((hf_M8 a i (fun h9 => q0 (h9))).trans rfl))
    · refine wp_ite (fun c22 => ?_) (fun c22 => ?_)
      · exact wp_some (fun a i q0 => ((hf_M8 a i (fun h9 => q0 (h9))).trans rfl))
      · have j62 : ∀ (N62 : Mem), (∀ a i, ¬ (a = 31) → N62 a i = M8 a i) → Wp (f_X1_weave_L62 ag8 y2_8 y4_8 N62) (fun q => (∀ a i, ¬ (a = 31) → q a i = M a i)) := by
          intro N62 hf_N62
          unfold f_X1_weave_L62
          refine wp_gd (by omega) ?_
          refine wp_bnd (fun x_1 ex_1 => ?_)
          exact ih8 N62 x_1 y2_8 (y4_8 + (nI 1)) ⟨(by have f0 := t_lit 1; have f1 := t_add y4_8 (nI 1); omega), (fun a i q0 => ((hf_N62 a i (fun h9 => q0 (h9))).trans ((hf_M8 a i (fun h9 => q0 (h9))).trans rfl)))⟩ (by have f0 := t_lit 1; have f1 := t_add y4_8 (nI 1); omega)
        refine wp_ite (fun c28 => ?_) (fun c28 => ?_)
        · refine wp_gd (by omega) ?_
          refine wp_ite (fun c51 => ?_) (fun c51 => ?_)
          · refine wp_gd (by have f0 := congrArg Int32.toInt (hf_M8 32 (ix y2_8) (by first | decide | (rcases hc0 with h | h <;> rw [h] <;> simp; done) | (rcases hb0 with h | h | h <;> rw [h] <;> simp; done) | (simp; done) | omega)); omega) ?_
            refine wp_bnd (fun M_2 eM_2 => ?_)
            exact j62 M_2 (fun a i q0 => ((congrFun (congrFun eM_2 a) i).trans ((mset_ne (fun h9 => q0 ((h9).1))).trans rfl)))
          · exact j62 M8 (fun _ _ _ => rfl)
        · refine wp_bind2 (o_X1_join M8 (y2_8 - (nI 40)) y3_8) (fun M_3 he37 hq37 => ?_)
          have hg_M_3 := hq37
          replace hg_M_3 : ∀ a i, ¬ (a = 31) → M_3 a i = M8 a i := hg_M_3
          exact j62 M_3 (fun a i q0 => ((hg_M_3 a i (fun h9 => q0 (h9))).trans rfl))
theorem o_X1_fewest {b : Nat} (hb : isF b) (M : Mem) (v2 : Int32) : Wp (f_X1_fewest b M v2) (fun q => (∀ a i, ¬ ((a = 30 ∧ i = 3) ∨ a = 31 ∨ a = 32 ∨ a = 33) → q.2 a i = M a i)) := by
  have hb0 : b = 1 ∨ b = 7 ∨ b = 13 := hb
  refine wp_bind2 (o_J7_fill_53178 (by decide) M (-1)) (fun M_1 he5 hq5 => ?_)
  have hg_M_1 := hq5
  replace hg_M_1 : ∀ a i, ¬ (a = 31) → M_1 a i = M a i := by exact fun a i q0 => hg_M_1 a i (by first | decide | (rcases hc0 with h | h <;> rw [h] <;> simp; done) | (rcases hb0 with h | h | h <;> rw [h] <;> simp; done) | (simp; done) | omega)
  refine wp_lp2 (fun M10 y3_10 => (0 ≤ y3_10.toInt) ∧ (∀ a i, ¬ ((a = 30 ∧ i = 3) ∨ a = 31 ∨ a = 32 ∨ a = 33) → M10 a i = M_1 a i)) (fun M10 y3_10 => (40 - y3_10.toInt).toNat) (fun ag10 M10 y3_10 hI10 ih10 => ?_) FU M_1 (nI 0) ⟨(by have f0 := t_lit 0; omega), (fun _ _ _ => rfl)⟩ (fu_lt (by have f0 := t_lit 0; omega))
  obtain ⟨hi10, hf_M10⟩ := hI10
  refine wp_ite (fun c13 => ?_) (fun c13 => ?_)
  · exact wp_some (fun a i q0 => ((hf_M10 a i (fun z8 => q0 ((fun z9 => Or.elim z9 (fun h9 => Or.inl h9) (fun z9 => Or.elim z9 (fun h9 => Or.inr (Or.inl h9)) (fun z9 => Or.elim z9 (fun h9 => Or.inr (Or.inr (Or.inl h9))) (fun h9 => Or.inr (Or.inr (Or.inr (h9))))))) z8))).trans ((hg_M_1 a i (fun h9 => q0 (Or.inr (Or.inl h9)))).trans rfl)))
  · refine wp_cb2 (o_X1_search hb M10 v2) (fun r_2 M_3 he19 hq19 => ?_)
    have hg_M_3 := hq19
    replace hg_M_3 : ∀ a i, ¬ ((a = 30 ∧ i = 3) ∨ a = 32 ∨ a = 33) → M_3 a i = M10 a i := by exact fun a i q0 => hg_M_3 a i (by first | decide | (rcases hc0 with h | h <;> rw [h] <;> simp; done) | (rcases hb0 with h | h | h <;> rw [h] <;> simp; done) | (simp; done) | omega)
    refine wp_ite (fun c27 => ?_) (fun c27 => ?_)
    · exact wp_some (fun a i q0 => ((hg_M_3 a i (fun z8 => q0 ((fun z9 => Or.elim z9 (fun h9 => Or.inl h9) (fun z9 => Or.elim z9 (fun h9 => Or.inr (Or.inr (Or.inl h9))) (fun h9 => Or.inr (Or.inr (Or.inr (h9)))))) z8))).trans ((hf_M10 a i (fun z8 => q0 ((fun z9 => Or.elim z9 (fun h9 => Or.inl h9) (fun z9 => Or.elim z9 (fun h9 => Or.inr (Or.inl h9)) (fun z9 => Or.elim z9 (fun h9 => Or.inr (Or.inr (Or.inl h9))) (fun h9 => Or.inr (Or.inr (Or.inr (h9))))))) z8))).trans ((hg_M_1 a i (fun h9 => q0 (Or.inr (Or.inl h9)))).trans rfl))))
    · refine wp_bind2 (o_X1_weave M_3 r_2) (fun M_4 he35 hq35 => ?_)
      have hg_M_4 := hq35
      replace hg_M_4 : ∀ a i, ¬ (a = 31) → M_4 a i = M_3 a i := hg_M_4
      exact ih10 M_4 (y3_10 + (nI 1)) ⟨(by have f0 := t_lit 1; have f1 := t_add y3_10 (nI 1); omega), (fun a i q0 => ((hg_M_4 a i (fun h9 => q0 (Or.inr (Or.inl h9)))).trans ((hg_M_3 a i (fun z8 => q0 ((fun z9 => Or.elim z9 (fun h9 => Or.inl h9) (fun z9 => Or.elim z9 (fun h9 => Or.inr (Or.inr (Or.inl h9))) (fun h9 => Or.inr (Or.inr (Or.inr (h9)))))) z8))).trans ((hf_M10 a i (fun z8 => q0 ((fun z9 => Or.elim z9 (fun h9 => Or.inl h9) (fun z9 => Or.elim z9 (fun h9 => Or.inr (Or.inl h9)) (fun z9 => Or.elim z9 (fun h9 => Or.inr (Or.inr (Or.inl h9))) (fun h9 => Or.inr (Or.inr (Or.inr (h9))))))) z8))).trans rfl))))⟩ (by have f0 := t_lit 1; have f1 := t_add y3_10 (nI 1); omega)
theorem o_X2_clearStones {b : Nat} (hb : isF b) (M : Mem) : Wp (f_X2_clearStones b M) (fun q => (∀ a i, ¬ (a = (b + 4)) → q a i = M a i)) := by
  have hb0 : b = 1 ∨ b = 7 ∨ b = 13 := hb
  refine wp_lp2 (fun M2 y1_2 => (0 ≤ y1_2.toInt) ∧ (∀ a i, ¬ (a = (b + 4)) → M2 a i = M a i)) (fun M2 y1_2 => (40 - y1_2.toInt).toNat) (fun ag2 M2 y1_2 hI2 ih2 => ?_) FU M (nI 0) ⟨(by have f0 := t_lit 0; omega), (fun _ _ _ => rfl)⟩ (fu_lt (by have f0 := t_lit 0; omega))
  obtain ⟨hi2, hf_M2⟩ := hI2
  refine wp_ite (fun c5 => ?_) (fun c5 => ?_)
  · exact wp_some (fun a i q0 => ((hf_M2 a i (fun h9 => q0 (h9))).trans rfl))
  · refine wp_gd (by omega) ?_
    refine wp_bnd (fun M_1 eM_1 => ?_)
    exact ih2 M_1 (y1_2 + (nI 1)) ⟨(by have f0 := t_lit 1; have f1 := t_add y1_2 (nI 1); omega), (fun a i q0 => ((congrFun (congrFun eM_1 a) i).trans ((mset_ne (fun h9 => q0 ((h9).1))).trans ((hf_M2 a i (fun h9 => q0 (h9))).trans rfl))))⟩ (by have f0 := t_lit 1; have f1 := t_add y1_2 (nI 1); omega)
theorem o_X2_copyStones {b : Nat} (hb : isF b) {b2 : Nat} (hb2 : isF b2) (M : Mem) : Wp (f_X2_copyStones b b2 M) (fun q => (∀ a i, ¬ (a = (b + 1) ∨ a = (b + 2) ∨ a = (b + 3) ∨ a = (b + 4) ∨ a = (b + 5)) → q a i = M a i)) := by
  have hb0 : b = 1 ∨ b = 7 ∨ b = 13 := hb
  have hb20 : b2 = 1 ∨ b2 = 7 ∨ b2 = 13 := hb2
  refine wp_lp2 (fun M2 y2_2 => (0 ≤ y2_2.toInt) ∧ (∀ a i, ¬ (a = (b + 1) ∨ a = (b + 2) ∨ a = (b + 3) ∨ a = (b + 4) ∨ a = (b + 5)) → M2 a i = M a i)) (fun M2 y2_2 => (40 - y2_2.toInt).toNat) (fun ag2 M2 y2_2 hI2 ih2 => ?_) FU M (nI 0) ⟨(by have f0 := t_lit 0; omega), (fun _ _ _ => rfl)⟩ (fu_lt (by have f0 := t_lit 0; omega))
  obtain ⟨hi2, hf_M2⟩ := hI2
  refine wp_ite (fun c5 => ?_) (fun c5 => ?_)
  · exact wp_some (fun a i q0 => ((hf_M2 a i (fun z8 => q0 ((fun z9 => Or.elim z9 (fun h9 => Or.inl h9) (fun z9 => Or.elim z9 (fun h9 => Or.inr (Or.inl h9)) (fun z9 => Or.elim z9 (fun h9 => Or.inr (Or.inr (Or.inl h9))) (fun z9 => Or.elim z9 (fun h9 => Or.inr (Or.inr (Or.inr (Or.inl h9)))) (fun h9 => Or.inr (Or.inr (Or.inr (Or.inr (h9))))))))) z8))).trans rfl))
  · refine wp_gd (by omega) ?_
    refine wp_gd (by omega) ?_
    refine wp_bnd (fun M_1 eM_1 => ?_)
    refine wp_gd (by omega) ?_
    refine wp_gd (by omega) ?_
    refine wp_bnd (fun M_2 eM_2 => ?_)
    refine wp_gd (by omega) ?_
    refine wp_gd (by omega) ?_
    refine wp_bnd (fun M_3 eM_3 => ?_)
    refine wp_gd (by omega) ?_
    refine wp_gd (by omega) ?_
    refine wp_bnd (fun M_4 eM_4 => ?_)
    refine wp_gd (by omega) ?_
    refine wp_gd (by omega) ?_
    refine wp_bnd (fun M_5 eM_5 => ?_)
    exact ih2 M_5 (y2_2 + (nI 1)) ⟨(by have f0 := t_lit 1; have f1 := t_add y2_2 (nI 1); omega), (fun a i q0 => ((congrFun (congrFun eM_5 a) i).trans ((mset_ne (fun h9 => q0 (Or.inr (Or.inr (Or.inr (Or.inr ((h9).1))))))).trans ((congrFun (congrFun eM_4 a) i).trans ((mset_ne (fun h9 => q0 (Or.inr (Or.inr (Or.inr (Or.inl (h9).1)))))).trans ((congrFun (congrFun eM_3 a) i).trans ((mset_ne (fun h9 => q0 (Or.inr (Or.inr (Or.inl (h9).1))))).trans ((congrFun (congrFun eM_2 a) i).trans ((mset_ne (fun h9 => q0 (Or.inr (Or.inl (h9).1)))).trans ((congrFun (congrFun eM_1 a) i).trans ((mset_ne (fun h9 => q0 (Or.inl (h9).1))).trans ((hf_M2 a i (fun z8 => q0 ((fun z9 => Or.elim z9 (fun h9 => Or.inl h9) (fun z9 => Or.elim z9 (fun h9 => Or.inr (Or.inl h9)) (fun z9 => Or.elim z9 (fun h9 => Or.inr (Or.inr (Or.inl h9))) (fun z9 => Or.elim z9 (fun h9 => Or.inr (Or.inr (Or.inr (Or.inl h9)))) (fun h9 => Or.inr (Or.inr (Or.inr (Or.inr (h9))))))))) z8))).trans rfl))))))))))))⟩ (by have f0 := t_lit 1; have f1 := t_add y2_2 (nI 1); omega)
theorem o_X2_copyAll {b : Nat} (hb : isF b) {b2 : Nat} (hb2 : isF b2) (M : Mem) : Wp (f_X2_copyAll b b2 M) (fun q => (∀ a i, ¬ (a = (b + 1) ∨ a = (b + 2) ∨ a = (b + 3) ∨ a = (b + 4) ∨ a = (b + 5) ∨ (a = b ∧ i = 5) ∨ (a = b ∧ i = 6)) → q a i = M a i)) := by
  have hb0 : b = 1 ∨ b = 7 ∨ b = 13 := hb
  have hb20 : b2 = 1 ∨ b2 = 7 ∨ b2 = 13 := hb2
  refine wp_bind2 (o_X2_copyStones hb hb2 M) (fun M_1 he2 hq2 => ?_)
  have hg_M_1 := hq2
  replace hg_M_1 : ∀ a i, ¬ (a = (b + 1) ∨ a = (b + 2) ∨ a = (b + 3) ∨ a = (b + 4) ∨ a = (b + 5)) → M_1 a i = M a i := by exact fun a i q0 => hg_M_1 a i (by first | decide | (rcases hc0 with h | h <;> rw [h] <;> simp; done) | (rcases hb0 with h | h | h <;> rw [h] <;> simp; done) | (simp; done) | omega)
  refine wp_bnd (fun M_2 eM_2 => ?_)
  refine wp_bnd (fun M_3 eM_3 => ?_)
  exact wp_some (fun a i q0 => ((congrFun (congrFun eM_3 a) i).trans ((mset_ne (fun h9 => q0 (Or.inr (Or.inr (Or.inr (Or.inr (Or.inr (Or.inr (h9))))))))).trans ((congrFun (congrFun eM_2 a) i).trans ((mset_ne (fun h9 => q0 (Or.inr (Or.inr (Or.inr (Or.inr (Or.inr (Or.inl h9)))))))).trans ((hg_M_1 a i (fun z8 => q0 ((fun z9 => Or.elim z9 (fun h9 => Or.inl h9) (fun z9 => Or.elim z9 (fun h9 => Or.inr (Or.inl h9)) (fun z9 => Or.elim z9 (fun h9 => Or.inr (Or.inr (Or.inl h9))) (fun z9 => Or.elim z9 (fun h9 => Or.inr (Or.inr (Or.inr (Or.inl h9)))) (fun h9 => Or.inr (Or.inr (Or.inr (Or.inr (Or.inl h9))))))))) z8))).trans rfl))))))
theorem o_X2_squares {b : Nat} (hb : isF b) (M : Mem) (v1 : Int32) (v2 : Int32) : Wp (f_X2_squares b M v1 v2) (fun q => True) := by
  have hb0 : b = 1 ∨ b = 7 ∨ b = 13 := hb
  refine wp_bind2 (o_X2_isTold hb M v1) (fun r_1 he2 hq2 => ?_)
  obtain ⟨hz_r_1, hr_2⟩ := hq2
  replace hr_2 : ¬ r_1.toInt = 0 → 0 ≤ v1.toInt ∧ v1.toInt < 40 := hr_2
  refine wp_ite (fun c5 => ?_) (fun c5 => ?_)
  · exact wp_some trivial
  · refine wp_bind2 (o_X2_isTold hb M v2) (fun r_2 he10 hq10 => ?_)
    obtain ⟨hz_r_2, hr_10⟩ := hq10
    replace hr_10 : ¬ r_2.toInt = 0 → 0 ≤ v2.toInt ∧ v2.toInt < 40 := hr_10
    refine wp_ite (fun c13 => ?_) (fun c13 => ?_)
    · exact wp_some trivial
    · refine wp_gd (by omega) ?_
      refine wp_gd (by omega) ?_
      refine wp_bnd (fun x_3 ex_3 => ?_)
      refine wp_gd (by omega) ?_
      refine wp_gd (by omega) ?_
      refine wp_bnd (fun x_4 ex_4 => ?_)
      exact wp_some trivial
theorem o_X2_countClose {b : Nat} (hb : isF b) (M : Mem) (v1 : Int32) : Wp (f_X2_countClose b M v1) (fun q => True) := by
  have hb0 : b = 1 ∨ b = 7 ∨ b = 13 := hb
  refine wp_lp2 (fun y2_4 y3_4 => (0 ≤ y3_4.toInt)) (fun y2_4 y3_4 => (40 - y3_4.toInt).toNat) (fun ag4 y2_4 y3_4 hI4 ih4 => ?_) FU (nI 0) (nI 0) (by have f0 := t_lit 0; omega) (fu_lt (by have f0 := t_lit 0; omega))
  have hi4 := hI4
  refine wp_ite (fun c7 => ?_) (fun c7 => ?_)
  · exact wp_some trivial
  · refine wp_ite (fun c12 => ?_) (fun c12 => ?_)
    · exact ih4 y2_4 (y3_4 + (nI 1)) (by have f0 := t_lit 1; have f1 := t_add y3_4 (nI 1); omega) (by have f0 := t_lit 1; have f1 := t_add y3_4 (nI 1); omega)
    · refine wp_gd (by omega) ?_
      refine wp_ite (fun c21 => ?_) (fun c21 => ?_)
      · exact ih4 y2_4 (y3_4 + (nI 1)) (by have f0 := t_lit 1; have f1 := t_add y3_4 (nI 1); omega) (by have f0 := t_lit 1; have f1 := t_add y3_4 (nI 1); omega)
      · refine wp_bind2 (o_X2_squares hb M v1 y3_4) (fun r_1 he27 hq27 => ?_)
        refine wp_ite (fun c31 => ?_) (fun c31 => ?_)
        · exact ih4 y2_4 (y3_4 + (nI 1)) (by have f0 := t_lit 1; have f1 := t_add y3_4 (nI 1); omega) (by have f0 := t_lit 1; have f1 := t_add y3_4 (nI 1); omega)
        · exact ih4 (y2_4 + (nI 1)) (y3_4 + (nI 1)) (by have f0 := t_lit 1; have f1 := t_add y3_4 (nI 1); omega) (by have f0 := t_lit 1; have f1 := t_add y3_4 (nI 1); omega)
theorem o_X2_countSunk {b : Nat} (hb : isF b) (M : Mem) : Wp (f_X2_countSunk b M) (fun q => True) := by
  have hb0 : b = 1 ∨ b = 7 ∨ b = 13 := hb
  refine wp_lp2 (fun y1_4 y2_4 => (0 ≤ y2_4.toInt)) (fun y1_4 y2_4 => (40 - y2_4.toInt).toNat) (fun ag4 y1_4 y2_4 hI4 ih4 => ?_) FU (nI 0) (nI 0) (by have f0 := t_lit 0; omega) (fu_lt (by have f0 := t_lit 0; omega))
  have hi4 := hI4
  refine wp_ite (fun c7 => ?_) (fun c7 => ?_)
  · exact wp_some trivial
  · refine wp_gd (by omega) ?_
    refine wp_ite (fun c17 => ?_) (fun c17 => ?_)
    · exact ih4 (y1_4 + (nI 0)) (y2_4 + (nI 1)) (by have f0 := t_lit 1; have f1 := t_add y2_4 (nI 1); omega) (by have f0 := t_lit 1; have f1 := t_add y2_4 (nI 1); omega)
    · refine wp_gd (by omega) ?_
      refine wp_ite (fun c26 => ?_) (fun c26 => ?_)
      · exact ih4 (y1_4 + (nI 0)) (y2_4 + (nI 1)) (by have f0 := t_lit 1; have f1 := t_add y2_4 (nI 1); omega) (by have f0 := t_lit 1; have f1 := t_add y2_4 (nI 1); omega)
      · exact ih4 (y1_4 + (nI 1)) (y2_4 + (nI 1)) (by have f0 := t_lit 1; have f1 := t_add y2_4 (nI 1); omega) (by have f0 := t_lit 1; have f1 := t_add y2_4 (nI 1); omega)
theorem o_X2_countTold {b : Nat} (hb : isF b) (M : Mem) : Wp (f_X2_countTold b M) (fun q => True) := by
  have hb0 : b = 1 ∨ b = 7 ∨ b = 13 := hb
  refine wp_lp2 (fun y1_4 y2_4 => (0 ≤ y2_4.toInt)) (fun y1_4 y2_4 => (40 - y2_4.toInt).toNat) (fun ag4 y1_4 y2_4 hI4 ih4 => ?_) FU (nI 0) (nI 0) (by have f0 := t_lit 0; omega) (fu_lt (by have f0 := t_lit 0; omega))
  have hi4 := hI4
  refine wp_ite (fun c7 => ?_) (fun c7 => ?_)
  · exact wp_some trivial
  · refine wp_gd (by omega) ?_
    refine wp_ite (fun c17 => ?_) (fun c17 => ?_)
    · exact ih4 (y1_4 + (nI 0)) (y2_4 + (nI 1)) (by have f0 := t_lit 1; have f1 := t_add y2_4 (nI 1); omega) (by have f0 := t_lit 1; have f1 := t_add y2_4 (nI 1); omega)
    · exact ih4 (y1_4 + (nI 1)) (y2_4 + (nI 1)) (by have f0 := t_lit 1; have f1 := t_add y2_4 (nI 1); omega) (by have f0 := t_lit 1; have f1 := t_add y2_4 (nI 1); omega)
theorem o_X2_draw {b : Nat} (hb : isF b) (M : Mem) : Wp (f_X2_draw b M) (fun q => (∀ a i, ¬ ((a = b ∧ i = 6)) → q.2 a i = M a i)) := by
  have hb0 : b = 1 ∨ b = 7 ∨ b = 13 := hb
  refine wp_bnd (fun M_1 eM_1 => ?_)
  exact wp_some (fun a i q0 => ((congrFun (congrFun eM_1 a) i).trans ((mset_ne (fun h9 => q0 (h9))).trans rfl)))
theorem o_X2_lay {b : Nat} (hb : isF b) (M : Mem) (v1 : Int32) (v2 : Int32) (v3 : Int32) (v4 : Int32) (v5 : Int32) : Wp (f_X2_lay b M v1 v2 v3 v4 v5) (fun q => (∀ a i, ¬ (a = (b + 1) ∨ a = (b + 2) ∨ a = (b + 3) ∨ a = (b + 4) ∨ a = (b + 5)) → q a i = M a i)) := by
  have hb0 : b = 1 ∨ b = 7 ∨ b = 13 := hb
  refine wp_ite (fun c1 => ?_) (fun c1 => ?_)
  · exact wp_some (fun _ _ _ => rfl)
  · refine wp_ite (fun c7 => ?_) (fun c7 => ?_)
    · refine wp_gd (by omega) ?_
      refine wp_bnd (fun M_1 eM_1 => ?_)
      refine wp_gd (by omega) ?_
      refine wp_bnd (fun M_2 eM_2 => ?_)
      refine wp_gd (by omega) ?_
      refine wp_bnd (fun M_3 eM_3 => ?_)
      refine wp_gd (by omega) ?_
      refine wp_bnd (fun M_4 eM_4 => ?_)
      refine wp_gd (by omega) ?_
      refine wp_bnd (fun M_5 eM_5 => ?_)
      exact wp_some (fun a i q0 => ((congrFun (congrFun eM_5 a) i).trans ((mset_ne (fun h9 => q0 (Or.inr (Or.inr (Or.inr (Or.inl (h9).1)))))).trans ((congrFun (congrFun eM_4 a) i).trans ((mset_ne (fun h9 => q0 (Or.inr (Or.inr (Or.inr (Or.inr ((h9).1))))))).trans ((congrFun (congrFun eM_3 a) i).trans ((mset_ne (fun h9 => q0 (Or.inr (Or.inr (Or.inl (h9).1))))).trans ((congrFun (congrFun eM_2 a) i).trans ((mset_ne (fun h9 => q0 (Or.inr (Or.inl (h9).1)))).trans ((congrFun (congrFun eM_1 a) i).trans ((mset_ne (fun h9 => q0 (Or.inl (h9).1))).trans rfl)))))))))))
    · exact wp_some (fun _ _ _ => rfl)
theorem o_X2_nextDry {b : Nat} (hb : isF b) (M : Mem) (v1 : Int32) : Wp (f_X2_nextDry b M v1) (fun q => True) := by
  have hb0 : b = 1 ∨ b = 7 ∨ b = 13 := hb
  refine wp_bnd (fun x_1 ex_1 => ?_)
  refine wp_lp1 (fun y2_6 => (x_1.toInt ≤ y2_6.toInt) ∧ (0 ≤ y2_6.toInt)) (fun y2_6 => (40 - y2_6.toInt).toNat) (fun ag6 y2_6 hI6 ih6 => ?_) FU x_1 ⟨(by have f0 := t_lit 0; have f1 := t_mx v1 (nI 0); have f2 := congrArg Int32.toInt ex_1; omega), (by have f0 := t_mx v1 (nI 0); have f1 := t_lit 0; have f2 := congrArg Int32.toInt ex_1; omega)⟩ (fu_lt (by have f0 := t_lit 0; have f1 := t_mx v1 (nI 0); have f2 := congrArg Int32.toInt ex_1; omega))
  obtain ⟨hi6, hp⟩ := hI6
  refine wp_ite (fun c9 => ?_) (fun c9 => ?_)
  · exact wp_some trivial
  · refine wp_bind2 (o_X2_isDry hb M y2_6) (fun r_2 he14 hq14 => ?_)
    obtain ⟨hz_r_2, hr_14⟩ := hq14
    replace hr_14 : ¬ r_2.toInt = 0 → 0 ≤ y2_6.toInt ∧ y2_6.toInt < 40 := hr_14
    refine wp_ite (fun c17 => ?_) (fun c17 => ?_)
    · exact ih6 (y2_6 + (nI 1)) ⟨(by have f0 := t_lit 1; have f1 := t_add y2_6 (nI 1); omega), (by have f0 := t_lit 1; have f1 := t_add y2_6 (nI 1); omega)⟩ (by have f0 := t_lit 1; have f1 := t_add y2_6 (nI 1); omega)
    · exact wp_some trivial
theorem o_X2_stoneAt {b : Nat} (hb : isF b) (M : Mem) (v1 : Int32) (v2 : Int32) : Wp (f_X2_stoneAt b M v1 v2) (fun q => True) := by
  have hb0 : b = 1 ∨ b = 7 ∨ b = 13 := hb
  refine wp_lp1 (fun y3_2 => (0 ≤ y3_2.toInt)) (fun y3_2 => (40 - y3_2.toInt).toNat) (fun ag2 y3_2 hI2 ih2 => ?_) FU (nI 0) (by have f0 := t_lit 0; omega) (fu_lt (by have f0 := t_lit 0; omega))
  have hi2 := hI2
  refine wp_ite (fun c5 => ?_) (fun c5 => ?_)
  · exact wp_some trivial
  · refine wp_gd (by omega) ?_
    refine wp_ite (fun c14 => ?_) (fun c14 => ?_)
    · exact ih2 (y3_2 + (nI 1)) (by have f0 := t_lit 1; have f1 := t_add y3_2 (nI 1); omega) (by have f0 := t_lit 1; have f1 := t_add y3_2 (nI 1); omega)
    · refine wp_gd (by omega) ?_
      refine wp_ite (fun c24 => ?_) (fun c24 => ?_)
      · refine wp_gd (by omega) ?_
        refine wp_ite (fun c34 => ?_) (fun c34 => ?_)
        · exact wp_some trivial
        · exact ih2 (y3_2 + (nI 1)) (by have f0 := t_lit 1; have f1 := t_add y3_2 (nI 1); omega) (by have f0 := t_lit 1; have f1 := t_add y3_2 (nI 1); omega)
      · exact ih2 (y3_2 + (nI 1)) (by have f0 := t_lit 1; have f1 := t_add y3_2 (nI 1); omega) (by have f0 := t_lit 1; have f1 := t_add y3_2 (nI 1); omega)
theorem o_X2_sumOfX {b : Nat} (hb : isF b) (M : Mem) : Wp (f_X2_sumOfX b M) (fun q => True) := by
  have hb0 : b = 1 ∨ b = 7 ∨ b = 13 := hb
  refine wp_lp2 (fun y1_4 y2_4 => (0 ≤ y2_4.toInt)) (fun y1_4 y2_4 => (40 - y2_4.toInt).toNat) (fun ag4 y1_4 y2_4 hI4 ih4 => ?_) FU (nI 0) (nI 0) (by have f0 := t_lit 0; omega) (fu_lt (by have f0 := t_lit 0; omega))
  have hi4 := hI4
  refine wp_ite (fun c7 => ?_) (fun c7 => ?_)
  · exact wp_some trivial
  · refine wp_gd (by omega) ?_
    refine wp_ite (fun c17 => ?_) (fun c17 => ?_)
    · exact ih4 (y1_4 + (nI 0)) (y2_4 + (nI 1)) (by have f0 := t_lit 1; have f1 := t_add y2_4 (nI 1); omega) (by have f0 := t_lit 1; have f1 := t_add y2_4 (nI 1); omega)
    · refine wp_gd (by omega) ?_
      refine wp_bnd (fun x_1 ex_1 => ?_)
      exact ih4 x_1 (y2_4 + (nI 1)) (by have f0 := t_lit 1; have f1 := t_add y2_4 (nI 1); omega) (by have f0 := t_lit 1; have f1 := t_add y2_4 (nI 1); omega)
theorem o_X3_combine (M : Mem) (v0 : Int32) (v1 : Int32) (v2 : Int32) : Wp (f_X3_combine v0 v1 v2) (fun q => True) := by
  refine wp_ite (fun c1 => ?_) (fun c1 => ?_)
  · refine wp_ite (fun c93 => ?_) (fun c93 => ?_)
    · exact wp_some trivial
    · refine wp_dz (by omega) ?_
      exact wp_some trivial
  · refine wp_ite (fun c1 => ?_) (fun c1 => ?_)
    · exact wp_some trivial
    · refine wp_ite (fun c2 => ?_) (fun c2 => ?_)
      · exact wp_some trivial
      · refine wp_ite (fun c3 => ?_) (fun c3 => ?_)
        · exact wp_some trivial
        · refine wp_ite (fun c4 => ?_) (fun c4 => ?_)
          · refine wp_ite (fun c81 => ?_) (fun c81 => ?_)
            · exact wp_some trivial
            · refine wp_dz (by omega) ?_
              exact wp_some trivial
          · refine wp_ite (fun c5 => ?_) (fun c5 => ?_)
            · refine wp_ite (fun c106 => ?_) (fun c106 => ?_)
              · exact wp_some trivial
              · exact wp_some trivial
            · refine wp_ite (fun c6 => ?_) (fun c6 => ?_)
              · refine wp_ite (fun c117 => ?_) (fun c117 => ?_)
                · exact wp_some trivial
                · exact wp_some trivial
              · refine wp_ite (fun c128 => ?_) (fun c128 => ?_)
                · exact wp_some trivial
                · exact wp_some trivial
