theorem o_X8_canCross {b : Nat} (hb : isF b) (M : Mem) (v2 : Int32) : Wp (f_X8_canCross b M v2) (fun q => (q.1 = 0 ∨ q.1 = 1) ∧ (∀ a i, ¬ (a = 24 ∨ a = 26) → q.2 a i = M a i)) := by
  have hb0 : b = 1 ∨ b = 7 ∨ b = 13 := hb
  refine wp_cb2 (o_X8_spread hb (by decide) M v2 (nI 40) (nI 42)) (fun r_1 M_2 he11 hq11 => ?_)
  have hg_M_2 := hq11
  replace hg_M_2 : ∀ a i, ¬ (a = 24 ∨ a = 26) → M_2 a i = M a i := by exact fun a i q0 => hg_M_2 a i (by first | decide | (rcases hc0 with h | h <;> rw [h] <;> simp; done) | (rcases hb0 with h | h | h <;> rw [h] <;> simp; done) | (simp; done) | omega)
  refine wp_ite (fun c23 => ?_) (fun c23 => ?_)
  · exact wp_some ⟨b01_0, (fun a i q0 => ((hg_M_2 a i (fun z8 => q0 ((fun z9 => Or.elim z9 (fun h9 => Or.inl h9) (fun h9 => Or.inr (h9))) z8))).trans rfl))⟩
  · exact wp_some ⟨b01_1, (fun a i q0 => ((hg_M_2 a i (fun z8 => q0 ((fun z9 => Or.elim z9 (fun h9 => Or.inl h9) (fun h9 => Or.inr (h9))) z8))).trans rfl))⟩
theorem o_X8_cheapest (M : Mem) : Wp (f_X8_cheapest M) (fun q => True) := by
  refine wp_lp2 (fun y1_4 y2_4 => (0 ≤ y2_4.toInt) ∧ (y1_4.toInt = -1 ∨ (0 ≤ y1_4.toInt ∧ y1_4.toInt < 42))) (fun y1_4 y2_4 => (42 - y2_4.toInt).toNat) (fun ag4 y1_4 y2_4 hI4 ih4 => ?_) FU (-1) (nI 0) ⟨(by have f0 := t_lit 0; omega), (Or.inl rfl)⟩ (fu_lt (by have f0 := t_lit 0; omega))
  obtain ⟨hi4, hb⟩ := hI4
  refine wp_ite (fun c7 => ?_) (fun c7 => ?_)
  · exact wp_some trivial
  · refine wp_gd (by omega) ?_
    refine wp_ite (fun c16 => ?_) (fun c16 => ?_)
    · refine wp_gd (by omega) ?_
      refine wp_ite (fun c26 => ?_) (fun c26 => ?_)
      · exact ih4 y1_4 (y2_4 + (nI 1)) ⟨(by have f0 := t_lit 1; have f1 := t_add y2_4 (nI 1); omega), (by omega)⟩ (by have f0 := t_lit 1; have f1 := t_add y2_4 (nI 1); omega)
      · refine wp_ite (fun c31 => ?_) (fun c31 => ?_)
        · exact ih4 y2_4 (y2_4 + (nI 1)) ⟨(by have f0 := t_lit 1; have f1 := t_add y2_4 (nI 1); omega), (by omega)⟩ (by have f0 := t_lit 1; have f1 := t_add y2_4 (nI 1); omega)
        · refine wp_gd (by omega) ?_
          refine wp_gd (by omega) ?_
          refine wp_ite (fun c46 => ?_) (fun c46 => ?_)
          · exact ih4 y1_4 (y2_4 + (nI 1)) ⟨(by have f0 := t_lit 1; have f1 := t_add y2_4 (nI 1); omega), (by omega)⟩ (by have f0 := t_lit 1; have f1 := t_add y2_4 (nI 1); omega)
          · exact ih4 y2_4 (y2_4 + (nI 1)) ⟨(by have f0 := t_lit 1; have f1 := t_add y2_4 (nI 1); omega), (by omega)⟩ (by have f0 := t_lit 1; have f1 := t_add y2_4 (nI 1); omega)
    · exact ih4 y1_4 (y2_4 + (nI 1)) ⟨(by have f0 := t_lit 1; have f1 := t_add y2_4 (nI 1); omega), (by omega)⟩ (by have f0 := t_lit 1; have f1 := t_add y2_4 (nI 1); omega)
theorem o_X8_countIslands {b : Nat} (hb : isF b) (M : Mem) (v2 : Int32) : Wp (f_X8_countIslands b M v2) (fun q => (∀ a i, ¬ (a = 24 ∨ a = 26) → q.2 a i = M a i)) := by
  have hb0 : b = 1 ∨ b = 7 ∨ b = 13 := hb
  refine wp_bind2 (o_J7_fill_53178 (by decide) M (-1)) (fun M_1 he5 hq5 => ?_)
  have hg_M_1 := hq5
  replace hg_M_1 : ∀ a i, ¬ (a = 24) → M_1 a i = M a i := by exact fun a i q0 => hg_M_1 a i (by first | decide | (rcases hc0 with h | h <;> rw [h] <;> simp; done) | (rcases hb0 with h | h | h <;> rw [h] <;> simp; done) | (simp; done) | omega)
  refine wp_lp3 (fun M13 y3_13 y4_13 => (0 ≤ y4_13.toInt) ∧ (∀ a i, ¬ (a = 24 ∨ a = 26) → M13 a i = M_1 a i)) (fun M13 y3_13 y4_13 => (40 - y4_13.toInt).toNat) (fun ag13 M13 y3_13 y4_13 hI13 ih13 => ?_) FU M_1 (nI 0) (nI 0) ⟨(by have f0 := t_lit 0; omega), (fun _ _ _ => rfl)⟩ (fu_lt (by have f0 := t_lit 0; omega))
  obtain ⟨hi13, hf_M13⟩ := hI13
  refine wp_ite (fun c17 => ?_) (fun c17 => ?_)
  · exact wp_some (fun a i q0 => ((hf_M13 a i (fun z8 => q0 ((fun z9 => Or.elim z9 (fun h9 => Or.inl h9) (fun h9 => Or.inr (h9))) z8))).trans ((hg_M_1 a i (fun h9 => q0 (Or.inl h9))).trans rfl)))
  · refine wp_bind2 (o_X2_isDry hb M13 y4_13) (fun r_2 he23 hq23 => ?_)
    obtain ⟨hz_r_2, hr_23⟩ := hq23
    replace hr_23 : ¬ r_2.toInt = 0 → 0 ≤ y4_13.toInt ∧ y4_13.toInt < 40 := hr_23
    refine wp_ite (fun c26 => ?_) (fun c26 => ?_)
    · exact ih13 M13 y3_13 (y4_13 + (nI 1)) ⟨(by have f0 := t_lit 1; have f1 := t_add y4_13 (nI 1); omega), (fun a i q0 => ((hf_M13 a i (fun z8 => q0 ((fun z9 => Or.elim z9 (fun h9 => Or.inl h9) (fun h9 => Or.inr (h9))) z8))).trans rfl))⟩ (by have f0 := t_lit 1; have f1 := t_add y4_13 (nI 1); omega)
    · refine wp_gd (by omega) ?_
      refine wp_ite (fun c37 => ?_) (fun c37 => ?_)
      · refine wp_cb2 (o_X8_spreadOn hb (by decide) M13 v2 y4_13 (nI 40)) (fun r_3 M_4 he54 hq54 => ?_)
        have hg_M_4 := hq54
        replace hg_M_4 : ∀ a i, ¬ (a = 24 ∨ a = 26) → M_4 a i = M13 a i := by exact fun a i q0 => hg_M_4 a i (by first | decide | (rcases hc0 with h | h <;> rw [h] <;> simp; done) | (rcases hb0 with h | h | h <;> rw [h] <;> simp; done) | (simp; done) | omega)
        exact ih13 M_4 (y3_13 + (nI 1)) (y4_13 + (nI 1)) ⟨(by have f0 := t_lit 1; have f1 := t_add y4_13 (nI 1); omega), (fun a i q0 => ((hg_M_4 a i (fun z8 => q0 ((fun z9 => Or.elim z9 (fun h9 => Or.inl h9) (fun h9 => Or.inr (h9))) z8))).trans ((hf_M13 a i (fun z8 => q0 ((fun z9 => Or.elim z9 (fun h9 => Or.inl h9) (fun h9 => Or.inr (h9))) z8))).trans rfl)))⟩ (by have f0 := t_lit 1; have f1 := t_add y4_13 (nI 1); omega)
      · exact ih13 M13 y3_13 (y4_13 + (nI 1)) ⟨(by have f0 := t_lit 1; have f1 := t_add y4_13 (nI 1); omega), (fun a i q0 => ((hf_M13 a i (fun z8 => q0 ((fun z9 => Or.elim z9 (fun h9 => Or.inl h9) (fun h9 => Or.inr (h9))) z8))).trans rfl))⟩ (by have f0 := t_lit 1; have f1 := t_add y4_13 (nI 1); omega)
theorem o_X8_leadOn {b : Nat} (hb : isF b) (M : Mem) (v2 : Int32) (v3 : Int32) : Wp (f_X8_leadOn b M v2 v3) (fun q => (∀ a i, ¬ (a = 27) → q a i = M a i)) := by
  have hb0 : b = 1 ∨ b = 7 ∨ b = 13 := hb
  refine wp_ite (fun c1 => ?_) (fun c1 => ?_)
  · exact wp_some (fun _ _ _ => rfl)
  · refine wp_ite (fun c7 => ?_) (fun c7 => ?_)
    · refine wp_lp2 (fun M14 y4_14 => (0 ≤ y4_14.toInt) ∧ (∀ a i, ¬ (a = 27) → M14 a i = M a i)) (fun M14 y4_14 => (42 - y4_14.toInt).toNat) (fun ag14 M14 y4_14 hI14 ih14 => ?_) FU M (nI 0) ⟨(by have f0 := t_lit 0; omega), (fun _ _ _ => rfl)⟩ (fu_lt (by have f0 := t_lit 0; omega))
      obtain ⟨hi14, hf_M14⟩ := hI14
      refine wp_ite (fun c18 => ?_) (fun c18 => ?_)
      · exact wp_some (fun a i q0 => ((hf_M14 a i (fun h9 => q0 (h9))).trans rfl))
      · refine wp_gd (by omega) ?_
        refine wp_gd (by omega) ?_
        refine wp_ite (fun c36 => ?_) (fun c36 => ?_)
        · refine wp_bind2 (o_X2_isStep hb M14 v3 y4_14 v2) (fun r_1 he44 hq44 => ?_)
          have hz_r_1 := hq44
          refine wp_ite (fun c47 => ?_) (fun c47 => ?_)
          · exact ih14 M14 (y4_14 + (nI 1)) ⟨(by have f0 := t_lit 1; have f1 := t_add y4_14 (nI 1); have f2 := congrArg Int32.toInt (hf_M14 24 (ix y4_14) (by first | decide | (rcases hc0 with h | h <;> rw [h] <;> simp; done) | (rcases hb0 with h | h | h <;> rw [h] <;> simp; done) | (simp; done) | omega)); have f3 := t_add (M14 24 (ix v3)) (nI 1); have f4 := congrArg Int32.toInt (hf_M14 24 (ix v3) (by first | decide | (rcases hc0 with h | h <;> rw [h] <;> simp; done) | (rcases hb0 with h | h | h <;> rw [h] <;> simp; done) | (simp; done) | omega)); omega), (fun a i q0 => ((hf_M14 a i (fun h9 => q0 (h9))).trans rfl))⟩ (by have f0 := t_lit 1; have f1 := t_add y4_14 (nI 1); have f2 := congrArg Int32.toInt (hf_M14 24 (ix y4_14) (by first | decide | (rcases hc0 with h | h <;> rw [h] <;> simp; done) | (rcases hb0 with h | h | h <;> rw [h] <;> simp; done) | (simp; done) | omega)); have f3 := t_add (M14 24 (ix v3)) (nI 1); have f4 := congrArg Int32.toInt (hf_M14 24 (ix v3) (by first | decide | (rcases hc0 with h | h <;> rw [h] <;> simp; done) | (rcases hb0 with h | h | h <;> rw [h] <;> simp; done) | (simp; done) | omega)); omega)
          · refine wp_gd (by have f0 := congrArg Int32.toInt (hf_M14 24 (ix y4_14) (by first | decide | (rcases hc0 with h | h <;> rw [h] <;> simp; done) | (rcases hb0 with h | h | h <;> rw [h] <;> simp; done) | (simp; done) | omega)); have f1 := t_lit 1; have f2 := t_add (M14 24 (ix v3)) (nI 1); have f3 := congrArg Int32.toInt (hf_M14 24 (ix v3) (by first | decide | (rcases hc0 with h | h <;> rw [h] <;> simp; done) | (rcases hb0 with h | h | h <;> rw [h] <;> simp; done) | (simp; done) | omega)); omega) ?_
            refine wp_gd (by have f0 := congrArg Int32.toInt (hf_M14 24 (ix y4_14) (by first | decide | (rcases hc0 with h | h <;> rw [h] <;> simp; done) | (rcases hb0 with h | h | h <;> rw [h] <;> simp; done) | (simp; done) | omega)); have f1 := t_lit 1; have f2 := t_add (M14 24 (ix v3)) (nI 1); have f3 := congrArg Int32.toInt (hf_M14 24 (ix v3) (by first | decide | (rcases hc0 with h | h <;> rw [h] <;> simp; done) | (rcases hb0 with h | h | h <;> rw [h] <;> simp; done) | (simp; done) | omega)); omega) ?_
            refine wp_gd (by have f0 := congrArg Int32.toInt (hf_M14 24 (ix y4_14) (by first | decide | (rcases hc0 with h | h <;> rw [h] <;> simp; done) | (rcases hb0 with h | h | h <;> rw [h] <;> simp; done) | (simp; done) | omega)); have f1 := t_lit 1; have f2 := t_add (M14 24 (ix v3)) (nI 1); have f3 := congrArg Int32.toInt (hf_M14 24 (ix v3) (by first | decide | (rcases hc0 with h | h <;> rw [h] <;> simp; done) | (rcases hb0 with h | h | h <;> rw [h] <;> simp; done) | (simp; done) | omega)); omega) ?_
            refine wp_bnd (fun M_2 eM_2 => ?_)
            exact ih14 M_2 (y4_14 + (nI 1)) ⟨(by have f0 := t_lit 1; have f1 := t_add y4_14 (nI 1); have f2 := congrArg Int32.toInt (hf_M14 24 (ix y4_14) (by first | decide | (rcases hc0 with h | h <;> rw [h] <;> simp; done) | (rcases hb0 with h | h | h <;> rw [h] <;> simp; done) | (simp; done) | omega)); have f3 := t_add (M14 24 (ix v3)) (nI 1); have f4 := congrArg Int32.toInt (hf_M14 24 (ix v3) (by first | decide | (rcases hc0 with h | h <;> rw [h] <;> simp; done) | (rcases hb0 with h | h | h <;> rw [h] <;> simp; done) | (simp; done) | omega)); omega), (fun a i q0 => ((congrFun (congrFun eM_2 a) i).trans ((mset_ne (fun h9 => q0 ((h9).1))).trans ((hf_M14 a i (fun h9 => q0 (h9))).trans rfl))))⟩ (by have f0 := t_lit 1; have f1 := t_add y4_14 (nI 1); have f2 := congrArg Int32.toInt (hf_M14 24 (ix y4_14) (by first | decide | (rcases hc0 with h | h <;> rw [h] <;> simp; done) | (rcases hb0 with h | h | h <;> rw [h] <;> simp; done) | (simp; done) | omega)); have f3 := t_add (M14 24 (ix v3)) (nI 1); have f4 := congrArg Int32.toInt (hf_M14 24 (ix v3) (by first | decide | (rcases hc0 with h | h <;> rw [h] <;> simp; done) | (rcases hb0 with h | h | h <;> rw [h] <;> simp; done) | (simp; done) | omega)); omega)
        · exact ih14 M14 (y4_14 + (nI 1)) ⟨(by have f0 := t_lit 1; have f1 := t_add y4_14 (nI 1); have f2 := congrArg Int32.toInt (hf_M14 24 (ix y4_14) (by first | decide | (rcases hc0 with h | h <;> rw [h] <;> simp; done) | (rcases hb0 with h | h | h <;> rw [h] <;> simp; done) | (simp; done) | omega)); have f3 := t_add (M14 24 (ix v3)) (nI 1); have f4 := congrArg Int32.toInt (hf_M14 24 (ix v3) (by first | decide | (rcases hc0 with h | h <;> rw [h] <;> simp; done) | (rcases hb0 with h | h | h <;> rw [h] <;> simp; done) | (simp; done) | omega)); omega), (fun a i q0 => ((hf_M14 a i (fun h9 => q0 (h9))).trans rfl))⟩ (by have f0 := t_lit 1; have f1 := t_add y4_14 (nI 1); have f2 := congrArg Int32.toInt (hf_M14 24 (ix y4_14) (by first | decide | (rcases hc0 with h | h <;> rw [h] <;> simp; done) | (rcases hb0 with h | h | h <;> rw [h] <;> simp; done) | (simp; done) | omega)); have f3 := t_add (M14 24 (ix v3)) (nI 1); have f4 := congrArg Int32.toInt (hf_M14 24 (ix v3) (by first | decide | (rcases hc0 with h | h <;> rw [h] <;> simp; done) | (rcases hb0 with h | h | h <;> rw [h] <;> simp; done) | (simp; done) | omega)); omega)
    · exact wp_some (fun _ _ _ => rfl)
theorem o_X8_countRows {b : Nat} (hb : isF b) (M : Mem) (v2 : Int32) (v3 : Int32) : Wp (f_X8_countRows b M v2 v3) (fun q => (∀ a i, ¬ (a = 27) → q.2 a i = M a i)) := by
  have hb0 : b = 1 ∨ b = 7 ∨ b = 13 := hb
  refine wp_bind2 (o_J7_fill_53178 (by decide) M (nI 0)) (fun M_1 he5 hq5 => ?_)
  have hg_M_1 := hq5
  replace hg_M_1 : ∀ a i, ¬ (a = 27) → M_1 a i = M a i := by exact fun a i q0 => hg_M_1 a i (by first | decide | (rcases hc0 with h | h <;> rw [h] <;> simp; done) | (rcases hb0 with h | h | h <;> rw [h] <;> simp; done) | (simp; done) | omega)
  refine wp_bnd (fun M_2 eM_2 => ?_)
  refine wp_lp2 (fun M19 y4_19 => (0 ≤ y4_19.toInt) ∧ (∀ a i, ¬ (a = 27) → M19 a i = M_2 a i)) (fun M19 y4_19 => (42 - y4_19.toInt).toNat) (fun ag19 M19 y4_19 hI19 ih19 => ?_) FU M_2 (nI 0) ⟨(by have f0 := t_lit 0; omega), (fun _ _ _ => rfl)⟩ (fu_lt (by have f0 := t_lit 0; omega))
  obtain ⟨hi19, hf_M19⟩ := hI19
  refine wp_ite (fun c22 => ?_) (fun c22 => ?_)
  · exact wp_some (fun a i q0 => ((hf_M19 a i (fun h9 => q0 (h9))).trans ((congrFun (congrFun eM_2 a) i).trans ((mset_ne (fun h9 => q0 ((h9).1))).trans ((hg_M_1 a i (fun h9 => q0 (h9))).trans rfl)))))
  · refine wp_ite (fun c29 => ?_) (fun c29 => ?_)
    · exact wp_some (fun a i q0 => ((hf_M19 a i (fun h9 => q0 (h9))).trans ((congrFun (congrFun eM_2 a) i).trans ((mset_ne (fun h9 => q0 ((h9).1))).trans ((hg_M_1 a i (fun h9 => q0 (h9))).trans rfl)))))
    · refine wp_gd (by omega) ?_
      refine wp_bind2 (o_X8_leadOn hb M19 v2 (M19 26 (ix y4_19))) (fun M_3 he42 hq42 => ?_)
      have hg_M_3 := hq42
      replace hg_M_3 : ∀ a i, ¬ (a = 27) → M_3 a i = M19 a i := by exact fun a i q0 => hg_M_3 a i (by first | decide | (rcases hc0 with h | h <;> rw [h] <;> simp; done) | (rcases hb0 with h | h | h <;> rw [h] <;> simp; done) | (simp; done) | omega)
      exact ih19 M_3 (y4_19 + (nI 1)) ⟨(by have f0 := t_lit 1; have f1 := t_add y4_19 (nI 1); omega), (fun a i q0 => ((hg_M_3 a i (fun h9 => q0 (h9))).trans ((hf_M19 a i (fun h9 => q0 (h9))).trans rfl)))⟩ (by have f0 := t_lit 1; have f1 := t_add y4_19 (nI 1); omega)
theorem o_X8_lowestOnward {b : Nat} (hb : isF b) (M : Mem) (v2 : Int32) (v3 : Int32) (v4 : Int32) : Wp (f_X8_lowestOnward b M v2 v3 v4) (fun q => True) := by
  have hb0 : b = 1 ∨ b = 7 ∨ b = 13 := hb
  refine wp_lp1 (fun y5_3 => (0 ≤ y5_3.toInt)) (fun y5_3 => (40 - y5_3.toInt).toNat) (fun ag3 y5_3 hI3 ih3 => ?_) FU (nI 0) (by have f0 := t_lit 0; omega) (fu_lt (by have f0 := t_lit 0; omega))
  have hi3 := hI3
  refine wp_ite (fun c7 => ?_) (fun c7 => ?_)
  · exact wp_some trivial
  · refine wp_gd (by omega) ?_
    refine wp_ite (fun c19 => ?_) (fun c19 => ?_)
    · refine wp_bind2 (o_X2_isStep hb M v3 y5_3 v2) (fun r_1 he27 hq27 => ?_)
      have hz_r_1 := hq27
      refine wp_ite (fun c30 => ?_) (fun c30 => ?_)
      · exact ih3 (y5_3 + (nI 1)) (by have f0 := t_lit 1; have f1 := t_add y5_3 (nI 1); omega) (by have f0 := t_lit 1; have f1 := t_add y5_3 (nI 1); omega)
      · exact wp_some trivial
    · exact ih3 (y5_3 + (nI 1)) (by have f0 := t_lit 1; have f1 := t_add y5_3 (nI 1); omega) (by have f0 := t_lit 1; have f1 := t_add y5_3 (nI 1); omega)
theorem o_X8_stoneOfLeastRow {b : Nat} (hb : isF b) (M : Mem) (v2 : Int32) (v3 : Int32) (v4 : Int32) : Wp (f_X8_stoneOfLeastRow b M v2 v3 v4) (fun q => (∀ a i, ¬ (a = 25 ∨ a = 26) → q.2 a i = M a i)) := by
  have hb0 : b = 1 ∨ b = 7 ∨ b = 13 := hb
  refine wp_cb2 (o_X8_spread hb (by decide) M v2 (nI 41) (nI 42)) (fun r_1 M_2 he11 hq11 => ?_)
  have hg_M_2 := hq11
  replace hg_M_2 : ∀ a i, ¬ (a = 25 ∨ a = 26) → M_2 a i = M a i := by exact fun a i q0 => hg_M_2 a i (by first | decide | (rcases hc0 with h | h <;> rw [h] <;> simp; done) | (rcases hb0 with h | h | h <;> rw [h] <;> simp; done) | (simp; done) | omega)
  refine wp_lp2 (fun y5_22 y6_22 => (0 ≤ y6_22.toInt)) (fun y5_22 y6_22 => (40 - y6_22.toInt).toNat) (fun ag22 y5_22 y6_22 hI22 ih22 => ?_) FU (nI 40) (nI 0) (by have f0 := t_lit 0; omega) (fu_lt (by have f0 := t_lit 0; omega))
  have hi22 := hI22
  refine wp_ite (fun c26 => ?_) (fun c26 => ?_)
  · exact wp_some (fun a i q0 => ((hg_M_2 a i (fun z8 => q0 ((fun z9 => Or.elim z9 (fun h9 => Or.inl h9) (fun h9 => Or.inr (h9))) z8))).trans rfl))
  · refine wp_ite (fun c33 => ?_) (fun c33 => ?_)
    · exact wp_some (fun a i q0 => ((hg_M_2 a i (fun z8 => q0 ((fun z9 => Or.elim z9 (fun h9 => Or.inl h9) (fun h9 => Or.inr (h9))) z8))).trans rfl))
    · refine wp_bind2 (o_X8_lowestOnward hb M_2 v2 y5_22 ((v3 - (nI 1)) - y6_22)) (fun r_3 he47 hq47 => ?_)
      exact ih22 r_3 (y6_22 + (nI 1)) (by have f0 := t_lit 1; have f1 := t_add y6_22 (nI 1); omega) (by have f0 := t_lit 1; have f1 := t_add y6_22 (nI 1); omega)
theorem o_X8_crossing {b : Nat} (hb : isF b) (M : Mem) (v2 : Int32) (v3 : Int32) : Wp (f_X8_crossing b M v2 v3) (fun q => (∀ a i, ¬ (a = 24 ∨ a = 25 ∨ a = 26 ∨ a = 27) → q.2 a i = M a i)) := by
  have hb0 : b = 1 ∨ b = 7 ∨ b = 13 := hb
  refine wp_cb2 (o_X8_spread hb (by decide) M v2 (nI 40) (nI 42)) (fun r_1 M_2 he11 hq11 => ?_)
  have hg_M_2 := hq11
  replace hg_M_2 : ∀ a i, ¬ (a = 24 ∨ a = 26) → M_2 a i = M a i := by exact fun a i q0 => hg_M_2 a i (by first | decide | (rcases hc0 with h | h <;> rw [h] <;> simp; done) | (rcases hb0 with h | h | h <;> rw [h] <;> simp; done) | (simp; done) | omega)
  refine wp_bnd (fun x_3 ex_3 => ?_)
  refine wp_ite (fun c28 => ?_) (fun c28 => ?_)
  · exact wp_some (fun a i q0 => ((hg_M_2 a i (fun z8 => q0 ((fun z9 => Or.elim z9 (fun h9 => Or.inl h9) (fun h9 => Or.inr (Or.inr (Or.inl h9)))) z8))).trans rfl))
  · refine wp_ite (fun c37 => ?_) (fun c37 => ?_)
    · exact wp_some (fun a i q0 => ((hg_M_2 a i (fun z8 => q0 ((fun z9 => Or.elim z9 (fun h9 => Or.inl h9) (fun h9 => Or.inr (Or.inr (Or.inl h9)))) z8))).trans rfl))
    · refine wp_ite (fun c46 => ?_) (fun c46 => ?_)
      · refine wp_cb2 (o_X8_countRows hb M_2 v2 r_1) (fun r_6 M_7 he54 hq54 => ?_)
        have hg_M_7 := hq54
        replace hg_M_7 : ∀ a i, ¬ (a = 27) → M_7 a i = M_2 a i := by exact fun a i q0 => hg_M_7 a i (by first | decide | (rcases hc0 with h | h <;> rw [h] <;> simp; done) | (rcases hb0 with h | h | h <;> rw [h] <;> simp; done) | (simp; done) | omega)
        exact wp_some (fun a i q0 => ((hg_M_7 a i (fun h9 => q0 (Or.inr (Or.inr (Or.inr (h9)))))).trans ((hg_M_2 a i (fun z8 => q0 ((fun z9 => Or.elim z9 (fun h9 => Or.inl h9) (fun h9 => Or.inr (Or.inr (Or.inl h9)))) z8))).trans rfl)))
      · refine wp_ite (fun c63 => ?_) (fun c63 => ?_)
        · refine wp_cb2 (o_X8_stoneOfLeastRow hb M_2 v2 x_3 v3) (fun r_4 M_5 he77 hq77 => ?_)
          have hg_M_5 := hq77
          replace hg_M_5 : ∀ a i, ¬ (a = 25 ∨ a = 26) → M_5 a i = M_2 a i := by exact fun a i q0 => hg_M_5 a i (by first | decide | (rcases hc0 with h | h <;> rw [h] <;> simp; done) | (rcases hb0 with h | h | h <;> rw [h] <;> simp; done) | (simp; done) | omega)
          exact wp_some (fun a i q0 => ((hg_M_5 a i (fun z8 => q0 ((fun z9 => Or.elim z9 (fun h9 => Or.inr (Or.inl h9)) (fun h9 => Or.inr (Or.inr (Or.inl h9)))) z8))).trans ((hg_M_2 a i (fun z8 => q0 ((fun z9 => Or.elim z9 (fun h9 => Or.inl h9) (fun h9 => Or.inr (Or.inr (Or.inl h9)))) z8))).trans rfl)))
        · exact wp_some (fun a i q0 => ((hg_M_2 a i (fun z8 => q0 ((fun z9 => Or.elim z9 (fun h9 => Or.inl h9) (fun h9 => Or.inr (Or.inr (Or.inl h9)))) z8))).trans rfl))
theorem o_X8_settle {b : Nat} (hb : isF b) (M : Mem) (v2 : Int32) (v3 : Int32) : Wp (f_X8_settle b M v2 v3) (fun q => (∀ a i, ¬ (a = 28 ∨ a = 29) → q a i = M a i)) := by
  have hb0 : b = 1 ∨ b = 7 ∨ b = 13 := hb
  refine wp_ite (fun c1 => ?_) (fun c1 => ?_)
  · exact wp_some (fun _ _ _ => rfl)
  · refine wp_ite (fun c7 => ?_) (fun c7 => ?_)
    · refine wp_gd (by omega) ?_
      refine wp_bnd (fun M_1 eM_1 => ?_)
      refine wp_lp2 (fun M21 y4_21 => (0 ≤ y4_21.toInt) ∧ (∀ a i, ¬ (a = 28) → M21 a i = M_1 a i)) (fun M21 y4_21 => (42 - y4_21.toInt).toNat) (fun ag21 M21 y4_21 hI21 ih21 => ?_) FU M_1 (nI 0) ⟨(by have f0 := t_lit 0; omega), (fun _ _ _ => rfl)⟩ (fu_lt (by have f0 := t_lit 0; omega))
      obtain ⟨hi21, hf_M21⟩ := hI21
      refine wp_ite (fun c25 => ?_) (fun c25 => ?_)
      · exact wp_some (fun a i q0 => ((hf_M21 a i (fun h9 => q0 (Or.inl h9))).trans ((congrFun (congrFun eM_1 a) i).trans ((mset_ne (fun h9 => q0 (Or.inr ((h9).1)))).trans rfl))))
      · refine wp_gd (by omega) ?_
        refine wp_ite (fun c35 => ?_) (fun c35 => ?_)
        · refine wp_bind2 (o_X2_isStep hb M21 v3 y4_21 v2) (fun r_2 he43 hq43 => ?_)
          have hz_r_2 := hq43
          refine wp_ite (fun c46 => ?_) (fun c46 => ?_)
          · exact ih21 M21 (y4_21 + (nI 1)) ⟨(by have f0 := t_lit 1; have f1 := t_add y4_21 (nI 1); have f2 := congrArg Int32.toInt (hf_M21 29 (ix y4_21) (by first | decide | (rcases hc0 with h | h <;> rw [h] <;> simp; done) | (rcases hb0 with h | h | h <;> rw [h] <;> simp; done) | (simp; done) | omega)); omega), (fun a i q0 => ((hf_M21 a i (fun h9 => q0 (h9))).trans rfl))⟩ (by have f0 := t_lit 1; have f1 := t_add y4_21 (nI 1); have f2 := congrArg Int32.toInt (hf_M21 29 (ix y4_21) (by first | decide | (rcases hc0 with h | h <;> rw [h] <;> simp; done) | (rcases hb0 with h | h | h <;> rw [h] <;> simp; done) | (simp; done) | omega)); omega)
          · refine wp_gd (by omega) ?_
            have j78 : ∀ (t0_78 : Int32), Wp (f_X8_settle_L78 v3 ag21 M21 y4_21 t0_78) (fun q => (∀ a i, ¬ (a = 28 ∨ a = 29) → q a i = M a i)) := by
              intro t0_78
              unfold f_X8_settle_L78
              refine wp_bnd (fun x_3 ex_3 => ?_)
              refine wp_gd (by have f0 := congrArg Int32.toInt (hf_M21 29 (ix y4_21) (by first | decide | (rcases hc0 with h | h <;> rw [h] <;> simp; done) | (rcases hb0 with h | h | h <;> rw [h] <;> simp; done) | (simp; done) | omega)); omega) ?_
              have j104 : Wp (f_X8_settle_L104 ag21 M21 y4_21 x_3) (fun q => (∀ a i, ¬ (a = 28 ∨ a = 29) → q a i = M a i)) := by
                unfold f_X8_settle_L104
                refine wp_gd (by have f0 := congrArg Int32.toInt (hf_M21 29 (ix y4_21) (by first | decide | (rcases hc0 with h | h <;> rw [h] <;> simp; done) | (rcases hb0 with h | h | h <;> rw [h] <;> simp; done) | (simp; done) | omega)); omega) ?_
                refine wp_bnd (fun M_4 eM_4 => ?_)
                exact ih21 M_4 (y4_21 + (nI 1)) ⟨(by have f0 := t_lit 1; have f1 := t_add y4_21 (nI 1); have f2 := congrArg Int32.toInt (hf_M21 29 (ix y4_21) (by first | decide | (rcases hc0 with h | h <;> rw [h] <;> simp; done) | (rcases hb0 with h | h | h <;> rw [h] <;> simp; done) | (simp; done) | omega)); omega), (fun a i q0 => ((congrFun (congrFun eM_4 a) i).trans ((mset_ne (fun h9 => q0 ((h9).1))).trans ((hf_M21 a i (fun h9 => q0 (h9))).trans rfl))))⟩ (by have f0 := t_lit 1; have f1 := t_add y4_21 (nI 1); have f2 := congrArg Int32.toInt (hf_M21 29 (ix y4_21) (by first | decide | (rcases hc0 with h | h <;> rw [h] <;> simp; done) | (rcases hb0 with h | h | h <;> rw [h] <;> simp; done) | (simp; done) | omega)); omega)
              refine wp_ite (fun c89 => ?_) (fun c89 => ?_)
              · exact j104
              · refine wp_gd (by have f0 := congrArg Int32.toInt (hf_M21 29 (ix y4_21) (by first | decide | (rcases hc0 with h | h <;> rw [h] <;> simp; done) | (rcases hb0 with h | h | h <;> rw [h] <;> simp; done) | (simp; done) | omega)); omega) ?_
                refine wp_ite (fun c101 => ?_) (fun c101 => ?_)
                · exact ih21 M21 (y4_21 + (nI 1)) ⟨(by have f0 := t_lit 1; have f1 := t_add y4_21 (nI 1); have f2 := congrArg Int32.toInt (hf_M21 29 (ix y4_21) (by first | decide | (rcases hc0 with h | h <;> rw [h] <;> simp; done) | (rcases hb0 with h | h | h <;> rw [h] <;> simp; done) | (simp; done) | omega)); have f3 := t_add (M21 28 (ix v3)) (nI 1); have f4 := t_add ((M21 28 (ix v3)) + (nI 1)) t0_78; have f5 := congrArg Int32.toInt ex_3; omega), (fun a i q0 => ((hf_M21 a i (fun h9 => q0 (h9))).trans rfl))⟩ (by have f0 := t_lit 1; have f1 := t_add y4_21 (nI 1); have f2 := congrArg Int32.toInt (hf_M21 29 (ix y4_21) (by first | decide | (rcases hc0 with h | h <;> rw [h] <;> simp; done) | (rcases hb0 with h | h | h <;> rw [h] <;> simp; done) | (simp; done) | omega)); have f3 := t_add (M21 28 (ix v3)) (nI 1); have f4 := t_add ((M21 28 (ix v3)) + (nI 1)) t0_78; have f5 := congrArg Int32.toInt ex_3; omega)
                · exact j104
            refine wp_ite (fun c61 => ?_) (fun c61 => ?_)
            · exact j78 (nI 0)
            · refine wp_gd (by have f0 := congrArg Int32.toInt (hf_M21 29 (ix y4_21) (by first | decide | (rcases hc0 with h | h <;> rw [h] <;> simp; done) | (rcases hb0 with h | h | h <;> rw [h] <;> simp; done) | (simp; done) | omega)); omega) ?_
              exact j78 ((nI 100) * (M21 (b + 3) (ix y4_21)))
        · exact ih21 M21 (y4_21 + (nI 1)) ⟨(by have f0 := t_lit 1; have f1 := t_add y4_21 (nI 1); have f2 := congrArg Int32.toInt (hf_M21 29 (ix y4_21) (by first | decide | (rcases hc0 with h | h <;> rw [h] <;> simp; done) | (rcases hb0 with h | h | h <;> rw [h] <;> simp; done) | (simp; done) | omega)); omega), (fun a i q0 => ((hf_M21 a i (fun h9 => q0 (h9))).trans rfl))⟩ (by have f0 := t_lit 1; have f1 := t_add y4_21 (nI 1); have f2 := congrArg Int32.toInt (hf_M21 29 (ix y4_21) (by first | decide | (rcases hc0 with h | h <;> rw [h] <;> simp; done) | (rcases hb0 with h | h | h <;> rw [h] <;> simp; done) | (simp; done) | omega)); omega)
    · exact wp_some (fun _ _ _ => rfl)
theorem o_X8_driestWay {b : Nat} (hb : isF b) (M : Mem) (v2 : Int32) (v3 : Int32) : Wp (f_X8_driestWay b M v2 v3) (fun q => (∀ a i, ¬ (a = 28 ∨ a = 29) → q.2 a i = M a i)) := by
  have hb0 : b = 1 ∨ b = 7 ∨ b = 13 := hb
  refine wp_lp2 (fun M3 y4_3 => (0 ≤ y4_3.toInt) ∧ (∀ a i, ¬ (a = 28 ∨ a = 29) → M3 a i = M a i)) (fun M3 y4_3 => (42 - y4_3.toInt).toNat) (fun ag3 M3 y4_3 hI3 ih3 => ?_) FU M (nI 0) ⟨(by have f0 := t_lit 0; omega), (fun _ _ _ => rfl)⟩ (fu_lt (by have f0 := t_lit 0; omega))
  obtain ⟨hi3, hf_M3⟩ := hI3
  have j32 : Wp (f_X8_driestWay_L32 b v2 v3 M3) (fun q => (∀ a i, ¬ (a = 28 ∨ a = 29) → q.2 a i = M a i)) := by
    unfold f_X8_driestWay_L32
    refine wp_bnd (fun M_1 eM_1 => ?_)
    refine wp_lp2 (fun M43 y4_43 => (0 ≤ y4_43.toInt) ∧ (∀ a i, ¬ (a = 28 ∨ a = 29) → M43 a i = M_1 a i)) (fun M43 y4_43 => (42 - y4_43.toInt).toNat) (fun ag43 M43 y4_43 hI43 ih43 => ?_) FU M_1 (nI 0) ⟨(by have f0 := t_lit 0; omega), (fun _ _ _ => rfl)⟩ (fu_lt (by have f0 := t_lit 0; omega))
    obtain ⟨hi43, hf_M43⟩ := hI43
    have j79 : Wp (f_X8_driestWay_L79 v3 M43) (fun q => (∀ a i, ¬ (a = 28 ∨ a = 29) → q.2 a i = M a i)) := by
      unfold f_X8_driestWay_L79
      refine wp_ite (fun c87 => ?_) (fun c87 => ?_)
      · exact wp_some (fun a i q0 => ((hf_M43 a i (fun z8 => q0 ((fun z9 => Or.elim z9 (fun h9 => Or.inl h9) (fun h9 => Or.inr (h9))) z8))).trans ((congrFun (congrFun eM_1 a) i).trans ((mset_ne (fun h9 => q0 (Or.inl (h9).1))).trans ((hf_M3 a i (fun z8 => q0 ((fun z9 => Or.elim z9 (fun h9 => Or.inl h9) (fun h9 => Or.inr (h9))) z8))).trans rfl)))))
      · refine wp_ite (fun c94 => ?_) (fun c94 => ?_)
        · exact wp_some (fun a i q0 => ((hf_M43 a i (fun z8 => q0 ((fun z9 => Or.elim z9 (fun h9 => Or.inl h9) (fun h9 => Or.inr (h9))) z8))).trans ((congrFun (congrFun eM_1 a) i).trans ((mset_ne (fun h9 => q0 (Or.inl (h9).1))).trans ((hf_M3 a i (fun z8 => q0 ((fun z9 => Or.elim z9 (fun h9 => Or.inl h9) (fun h9 => Or.inr (h9))) z8))).trans rfl)))))
        · exact wp_some (fun a i q0 => ((hf_M43 a i (fun z8 => q0 ((fun z9 => Or.elim z9 (fun h9 => Or.inl h9) (fun h9 => Or.inr (h9))) z8))).trans ((congrFun (congrFun eM_1 a) i).trans ((mset_ne (fun h9 => q0 (Or.inl (h9).1))).trans ((hf_M3 a i (fun z8 => q0 ((fun z9 => Or.elim z9 (fun h9 => Or.inl h9) (fun h9 => Or.inr (h9))) z8))).trans rfl)))))
    refine wp_ite (fun c47 => ?_) (fun c47 => ?_)
    · exact j79
    · refine wp_bind2 (o_X8_cheapest M43) (fun r_2 he51 hq51 => ?_)
      have j62 : Wp (f_X8_driestWay_L62 v3 M43) (fun q => (∀ a i, ¬ (a = 28 ∨ a = 29) → q.2 a i = M a i)) := by
        unfold f_X8_driestWay_L62
        exact j79
      refine wp_ite (fun c59 => ?_) (fun c59 => ?_)
      · exact j62
      · refine wp_bind2 (o_X8_settle hb M43 v2 r_2) (fun M_3 he70 hq70 => ?_)
        have hg_M_3 := hq70
        replace hg_M_3 : ∀ a i, ¬ (a = 28 ∨ a = 29) → M_3 a i = M43 a i := by exact fun a i q0 => hg_M_3 a i (by first | decide | (rcases hc0 with h | h <;> rw [h] <;> simp; done) | (rcases hb0 with h | h | h <;> rw [h] <;> simp; done) | (simp; done) | omega)
        exact ih43 M_3 (y4_43 + (nI 1)) ⟨(by have f0 := t_lit 1; have f1 := t_add y4_43 (nI 1); omega), (fun a i q0 => ((hg_M_3 a i (fun z8 => q0 ((fun z9 => Or.elim z9 (fun h9 => Or.inl h9) (fun h9 => Or.inr (h9))) z8))).trans ((hf_M43 a i (fun z8 => q0 ((fun z9 => Or.elim z9 (fun h9 => Or.inl h9) (fun h9 => Or.inr (h9))) z8))).trans rfl)))⟩ (by have f0 := t_lit 1; have f1 := t_add y4_43 (nI 1); omega)
  refine wp_ite (fun c7 => ?_) (fun c7 => ?_)
  · exact j32
  · refine wp_gd (by omega) ?_
    refine wp_bnd (fun M_4 eM_4 => ?_)
    refine wp_gd (by omega) ?_
    refine wp_bnd (fun M_5 eM_5 => ?_)
    exact ih3 M_5 (y4_3 + (nI 1)) ⟨(by have f0 := t_lit 1; have f1 := t_add y4_3 (nI 1); omega), (fun a i q0 => ((congrFun (congrFun eM_5 a) i).trans ((mset_ne (fun h9 => q0 (Or.inr ((h9).1)))).trans ((congrFun (congrFun eM_4 a) i).trans ((mset_ne (fun h9 => q0 (Or.inl (h9).1))).trans ((hf_M3 a i (fun z8 => q0 ((fun z9 => Or.elim z9 (fun h9 => Or.inl h9) (fun h9 => Or.inr (h9))) z8))).trans rfl))))))⟩ (by have f0 := t_lit 1; have f1 := t_add y4_3 (nI 1); omega)
theorem o_X8_farthest {b : Nat} (hb : isF b) (M : Mem) (v2 : Int32) : Wp (f_X8_farthest b M v2) (fun q => (∀ a i, ¬ (a = 24 ∨ a = 26) → q.2 a i = M a i)) := by
  have hb0 : b = 1 ∨ b = 7 ∨ b = 13 := hb
  refine wp_cb2 (o_X8_spread hb (by decide) M v2 (nI 40) (nI 42)) (fun r_1 M_2 he11 hq11 => ?_)
  have hg_M_2 := hq11
  replace hg_M_2 : ∀ a i, ¬ (a = 24 ∨ a = 26) → M_2 a i = M a i := by exact fun a i q0 => hg_M_2 a i (by first | decide | (rcases hc0 with h | h <;> rw [h] <;> simp; done) | (rcases hb0 with h | h | h <;> rw [h] <;> simp; done) | (simp; done) | omega)
  refine wp_lp2 (fun y3_20 y4_20 => (0 ≤ y4_20.toInt)) (fun y3_20 y4_20 => (42 - y4_20.toInt).toNat) (fun ag20 y3_20 y4_20 hI20 ih20 => ?_) FU (nI 0) (nI 0) (by have f0 := t_lit 0; omega) (fu_lt (by have f0 := t_lit 0; omega))
  have hi20 := hI20
  refine wp_ite (fun c24 => ?_) (fun c24 => ?_)
  · exact wp_some (fun a i q0 => ((hg_M_2 a i (fun z8 => q0 ((fun z9 => Or.elim z9 (fun h9 => Or.inl h9) (fun h9 => Or.inr (h9))) z8))).trans rfl))
  · refine wp_gd (by omega) ?_
    refine wp_ite (fun c35 => ?_) (fun c35 => ?_)
    · exact ih20 y3_20 (y4_20 + (nI 1)) (by have f0 := t_lit 1; have f1 := t_add y4_20 (nI 1); omega) (by have f0 := t_lit 1; have f1 := t_add y4_20 (nI 1); omega)
    · refine wp_bind2 (o_X2_heightOf hb M_2 y4_20) (fun r_3 he42 hq42 => ?_)
      refine wp_bnd (fun x_4 ex_4 => ?_)
      exact ih20 x_4 (y4_20 + (nI 1)) (by have f0 := t_lit 1; have f1 := t_add y4_20 (nI 1); omega) (by have f0 := t_lit 1; have f1 := t_add y4_20 (nI 1); omega)
theorem o_X8_wouldJoin {b : Nat} (hb : isF b) (M : Mem) (v2 : Int32) (v3 : Int32) (v4 : Int32) : Wp (f_X8_wouldJoin b M v2 v3 v4) (fun q => (q = 0 ∨ q = 1)) := by
  have hb0 : b = 1 ∨ b = 7 ∨ b = 13 := hb
  refine wp_lp3 (fun y5_9 y6_9 y7_9 => (0 ≤ y7_9.toInt)) (fun y5_9 y6_9 y7_9 => (42 - y7_9.toInt).toNat) (fun ag9 y5_9 y6_9 y7_9 hI9 ih9 => ?_) FU (nI 0) (nI 0) (nI 0) (by have f0 := t_lit 0; omega) (fu_lt (by have f0 := t_lit 0; omega))
  have hi9 := hI9
  have j111 : Wp (f_X8_wouldJoin_L111 b M v3 v4 y5_9 y6_9) (fun q => (q = 0 ∨ q = 1)) := by
    unfold f_X8_wouldJoin_L111
    refine wp_ite (fun c113 => ?_) (fun c113 => ?_)
    · exact wp_some b01_0
    · refine wp_ite (fun c118 => ?_) (fun c118 => ?_)
      · exact wp_some b01_0
      · refine wp_bind2 (o_X2_stoneAt hb M v3 v4) (fun r_1 he125 hq125 => ?_)
        refine wp_ite (fun c129 => ?_) (fun c129 => ?_)
        · exact wp_some b01_1
        · exact wp_some b01_0
  refine wp_ite (fun c13 => ?_) (fun c13 => ?_)
  · exact j111
  · refine wp_gd (by omega) ?_
    have j43 : ∀ (t0_43 : Int32), (t0_43 = 0 ∨ t0_43 = 1) → Wp (f_X8_wouldJoin_L43 b M v2 v3 v4 ag9 y5_9 y6_9 y7_9 t0_43) (fun q => (q = 0 ∨ q = 1)) := by
      intro t0_43 hb_t0_43
      unfold f_X8_wouldJoin_L43
      refine wp_ite (fun c47 => ?_) (fun c47 => ?_)
      · exact ih9 y5_9 y6_9 (y7_9 + (nI 1)) (by have f0 := t_lit 1; have f1 := t_add y7_9 (nI 1); omega) (by have f0 := t_lit 1; have f1 := t_add y7_9 (nI 1); omega)
      · refine wp_bind2 (o_X2_isStepFrom hb M y7_9 v3 v4 v2) (fun r_2 he57 hq57 => ?_)
        have hz_r_2 := hq57
        refine wp_ite (fun c60 => ?_) (fun c60 => ?_)
        · exact ih9 y5_9 y6_9 (y7_9 + (nI 1)) (by have f0 := t_lit 1; have f1 := t_add y7_9 (nI 1); omega) (by have f0 := t_lit 1; have f1 := t_add y7_9 (nI 1); omega)
        · refine wp_gd (by omega) ?_
          have j81 : ∀ (t0_81 : Int32), (t0_81 = 0 ∨ t0_81 = 1) → Wp (f_X8_wouldJoin_L81 M ag9 y5_9 y6_9 y7_9 t0_81) (fun q => (q = 0 ∨ q = 1)) := by
            intro t0_81 hb_t0_81
            unfold f_X8_wouldJoin_L81
            refine wp_bnd (fun x_3 ex_3 => ?_)
            refine wp_gd (by omega) ?_
            refine wp_ite (fun c94 => ?_) (fun c94 => ?_)
            · refine wp_bnd (fun x_4 ex_4 => ?_)
              exact ih9 x_3 x_4 (y7_9 + (nI 1)) (by have f0 := t_lit 1; have f1 := t_add y7_9 (nI 1); omega) (by have f0 := t_lit 1; have f1 := t_add y7_9 (nI 1); omega)
            · refine wp_bnd (fun x_5 ex_5 => ?_)
              exact ih9 x_3 x_5 (y7_9 + (nI 1)) (by have f0 := t_lit 1; have f1 := t_add y7_9 (nI 1); omega) (by have f0 := t_lit 1; have f1 := t_add y7_9 (nI 1); omega)
          refine wp_ite (fun c73 => ?_) (fun c73 => ?_)
          · exact j81 (nI 0) b01_0
          · exact j81 (nI 1) b01_1
    have j38 : Wp (f_X8_wouldJoin_L38 b M v2 v3 v4 ag9 y5_9 y6_9 y7_9) (fun q => (q = 0 ∨ q = 1)) := by
      unfold f_X8_wouldJoin_L38
      exact j43 (nI 1) b01_1
    refine wp_ite (fun c24 => ?_) (fun c24 => ?_)
    · refine wp_gd (by omega) ?_
      refine wp_ite (fun c35 => ?_) (fun c35 => ?_)
      · exact j43 (nI 0) b01_0
      · exact j38
    · exact j38
theorem o_X8_helpfulPlace {b : Nat} (hb : isF b) (M : Mem) (v2 : Int32) (v3 : Int32) : Wp (f_X8_helpfulPlace b M v2 v3) (fun q => (∀ a i, ¬ (a = 24 ∨ a = 25 ∨ a = 26) → q.2 a i = M a i)) := by
  have hb0 : b = 1 ∨ b = 7 ∨ b = 13 := hb
  refine wp_cb2 (o_X8_canCross hb M v2) (fun r_1 M_2 he3 hq3 => ?_)
  obtain ⟨hz_r_1, hg_M_2⟩ := hq3
  replace hg_M_2 : ∀ a i, ¬ (a = 24 ∨ a = 26) → M_2 a i = M a i := by exact fun a i q0 => hg_M_2 a i (by first | decide | (rcases hc0 with h | h <;> rw [h] <;> simp; done) | (rcases hb0 with h | h | h <;> rw [h] <;> simp; done) | (simp; done) | omega)
  refine wp_ite (fun c6 => ?_) (fun c6 => ?_)
  · refine wp_cb2 (o_X8_spread hb (by decide) M_2 v2 (nI 41) (nI 42)) (fun r_3 M_4 he23 hq23 => ?_)
    have hg_M_4 := hq23
    replace hg_M_4 : ∀ a i, ¬ (a = 25 ∨ a = 26) → M_4 a i = M_2 a i := by exact fun a i q0 => hg_M_4 a i (by first | decide | (rcases hc0 with h | h <;> rw [h] <;> simp; done) | (rcases hb0 with h | h | h <;> rw [h] <;> simp; done) | (simp; done) | omega)
    refine wp_lp1 (fun y4_30 => (1 ≤ y4_30.toInt)) (fun y4_30 => (20 + 1 - y4_30.toInt).toNat) (fun ag30 y4_30 hI30 ih30 => ?_) FU (nI 1) (by have f0 := t_lit 1; omega) (fu_lt (by have f0 := t_lit 1; omega))
    have hi30 := hI30
    refine wp_ite (fun c34 => ?_) (fun c34 => ?_)
    · exact wp_some (fun a i q0 => ((hg_M_4 a i (fun z8 => q0 ((fun z9 => Or.elim z9 (fun h9 => Or.inr (Or.inl h9)) (fun h9 => Or.inr (Or.inr (h9)))) z8))).trans ((hg_M_2 a i (fun z8 => q0 ((fun z9 => Or.elim z9 (fun h9 => Or.inl h9) (fun h9 => Or.inr (Or.inr (h9)))) z8))).trans rfl)))
    · refine wp_lp1 (fun y5_40 => (0 ≤ y5_40.toInt)) (fun y5_40 => (39 + 1 - y5_40.toInt).toNat) (fun ag40 y5_40 hI40 ih40 => ?_) FU (nI 0) (by have f0 := t_lit 0; omega) (fu_lt (by have f0 := t_lit 0; omega))
      have hi40 := hI40
      refine wp_ite (fun c44 => ?_) (fun c44 => ?_)
      · exact ih30 (y4_30 + (nI 1)) (by have f0 := t_lit 1; have f1 := t_add y4_30 (nI 1); omega) (by have f0 := t_lit 1; have f1 := t_add y4_30 (nI 1); omega)
      · refine wp_bind2 (o_X8_wouldJoin hb M_4 v2 y5_40 y4_30) (fun r_5 he54 hq54 => ?_)
        have hz_r_5 := hq54
        have j60 : Wp (f_X8_helpfulPlace_L60 v3 M_4 y4_30 y5_40) (fun q => (∀ a i, ¬ (a = 24 ∨ a = 25 ∨ a = 26) → q.2 a i = M a i)) := by
          unfold f_X8_helpfulPlace_L60
          refine wp_ite (fun c61 => ?_) (fun c61 => ?_)
          · exact wp_some (fun a i q0 => ((hg_M_4 a i (fun z8 => q0 ((fun z9 => Or.elim z9 (fun h9 => Or.inr (Or.inl h9)) (fun h9 => Or.inr (Or.inr (h9)))) z8))).trans ((hg_M_2 a i (fun z8 => q0 ((fun z9 => Or.elim z9 (fun h9 => Or.inl h9) (fun h9 => Or.inr (Or.inr (h9)))) z8))).trans rfl)))
          · exact wp_some (fun a i q0 => ((hg_M_4 a i (fun z8 => q0 ((fun z9 => Or.elim z9 (fun h9 => Or.inr (Or.inl h9)) (fun h9 => Or.inr (Or.inr (h9)))) z8))).trans ((hg_M_2 a i (fun z8 => q0 ((fun z9 => Or.elim z9 (fun h9 => Or.inl h9) (fun h9 => Or.inr (Or.inr (h9)))) z8))).trans rfl)))
        refine wp_ite (fun c57 => ?_) (fun c57 => ?_)
        · exact ih40 (y5_40 + (nI 1)) (by have f0 := t_lit 1; have f1 := t_add y5_40 (nI 1); omega) (by have f0 := t_lit 1; have f1 := t_add y5_40 (nI 1); omega)
        · exact j60
  · exact wp_some (fun a i q0 => ((hg_M_2 a i (fun z8 => q0 ((fun z9 => Or.elim z9 (fun h9 => Or.inl h9) (fun h9 => Or.inr (Or.inr (h9)))) z8))).trans rfl))
theorem o_X8_islandSize {b : Nat} (hb : isF b) (M : Mem) (v2 : Int32) (v3 : Int32) : Wp (f_X8_islandSize b M v2 v3) (fun q => (∀ a i, ¬ (a = 24 ∨ a = 26) → q.2 a i = M a i)) := by
  have hb0 : b = 1 ∨ b = 7 ∨ b = 13 := hb
  refine wp_bind2 (o_X2_isDry hb M v3) (fun r_1 he2 hq2 => ?_)
  obtain ⟨hz_r_1, hr_2⟩ := hq2
  replace hr_2 : ¬ r_1.toInt = 0 → 0 ≤ v3.toInt ∧ v3.toInt < 40 := hr_2
  refine wp_ite (fun c5 => ?_) (fun c5 => ?_)
  · exact wp_some (fun _ _ _ => rfl)
  · refine wp_cb2 (o_X8_spread hb (by decide) M v2 v3 (nI 40)) (fun r_2 M_3 he18 hq18 => ?_)
    have hg_M_3 := hq18
    replace hg_M_3 : ∀ a i, ¬ (a = 24 ∨ a = 26) → M_3 a i = M a i := by exact fun a i q0 => hg_M_3 a i (by first | decide | (rcases hc0 with h | h <;> rw [h] <;> simp; done) | (rcases hb0 with h | h | h <;> rw [h] <;> simp; done) | (simp; done) | omega)
    exact wp_some (fun a i q0 => ((hg_M_3 a i (fun z8 => q0 ((fun z9 => Or.elim z9 (fun h9 => Or.inl h9) (fun h9 => Or.inr (h9))) z8))).trans rfl))
theorem o_X8_meeting {b : Nat} (hb : isF b) (M : Mem) (v2 : Int32) (v3 : Int32) (v4 : Int32) : Wp (f_X8_meeting b M v2 v3 v4) (fun q => (∀ a i, ¬ (a = 24 ∨ a = 25 ∨ a = 26) → q.2 a i = M a i)) := by
  have hb0 : b = 1 ∨ b = 7 ∨ b = 13 := hb
  refine wp_cb2 (o_X8_spread hb (by decide) M v2 (nI 40) (nI 42)) (fun r_1 M_2 he11 hq11 => ?_)
  have hg_M_2 := hq11
  replace hg_M_2 : ∀ a i, ¬ (a = 24 ∨ a = 26) → M_2 a i = M a i := by exact fun a i q0 => hg_M_2 a i (by first | decide | (rcases hc0 with h | h <;> rw [h] <;> simp; done) | (rcases hb0 with h | h | h <;> rw [h] <;> simp; done) | (simp; done) | omega)
  refine wp_cb2 (o_X8_spread hb (by decide) M_2 v3 (nI 41) (nI 42)) (fun r_3 M_4 he26 hq26 => ?_)
  have hg_M_4 := hq26
  replace hg_M_4 : ∀ a i, ¬ (a = 25 ∨ a = 26) → M_4 a i = M_2 a i := by exact fun a i q0 => hg_M_4 a i (by first | decide | (rcases hc0 with h | h <;> rw [h] <;> simp; done) | (rcases hb0 with h | h | h <;> rw [h] <;> simp; done) | (simp; done) | omega)
  refine wp_lp3 (fun y5_41 y6_41 y7_41 => (0 ≤ y7_41.toInt)) (fun y5_41 y6_41 y7_41 => (40 - y7_41.toInt).toNat) (fun ag41 y5_41 y6_41 y7_41 hI41 ih41 => ?_) FU (-2) (-2) (nI 0) (by have f0 := t_lit 0; omega) (fu_lt (by have f0 := t_lit 0; omega))
  have hi41 := hI41
  have j117 : Wp (f_X8_meeting_L117 v4 M_4 y5_41 y6_41) (fun q => (∀ a i, ¬ (a = 24 ∨ a = 25 ∨ a = 26) → q.2 a i = M a i)) := by
    unfold f_X8_meeting_L117
    refine wp_ite (fun c119 => ?_) (fun c119 => ?_)
    · exact wp_some (fun a i q0 => ((hg_M_4 a i (fun z8 => q0 ((fun z9 => Or.elim z9 (fun h9 => Or.inr (Or.inl h9)) (fun h9 => Or.inr (Or.inr (h9)))) z8))).trans ((hg_M_2 a i (fun z8 => q0 ((fun z9 => Or.elim z9 (fun h9 => Or.inl h9) (fun h9 => Or.inr (Or.inr (h9)))) z8))).trans rfl)))
    · exact wp_some (fun a i q0 => ((hg_M_4 a i (fun z8 => q0 ((fun z9 => Or.elim z9 (fun h9 => Or.inr (Or.inl h9)) (fun h9 => Or.inr (Or.inr (h9)))) z8))).trans ((hg_M_2 a i (fun z8 => q0 ((fun z9 => Or.elim z9 (fun h9 => Or.inl h9) (fun h9 => Or.inr (Or.inr (h9)))) z8))).trans rfl)))
  refine wp_ite (fun c45 => ?_) (fun c45 => ?_)
  · exact j117
  · refine wp_gd (by omega) ?_
    refine wp_ite (fun c56 => ?_) (fun c56 => ?_)
    · exact ih41 y5_41 y6_41 (y7_41 + (nI 1)) (by have f0 := t_lit 1; have f1 := t_add y7_41 (nI 1); have f2 := congrArg Int32.toInt (hg_M_4 24 (ix y7_41) (by first | decide | (rcases hc0 with h | h <;> rw [h] <;> simp; done) | (rcases hb0 with h | h | h <;> rw [h] <;> simp; done) | (simp; done) | omega)); omega) (by have f0 := t_lit 1; have f1 := t_add y7_41 (nI 1); have f2 := congrArg Int32.toInt (hg_M_4 24 (ix y7_41) (by first | decide | (rcases hc0 with h | h <;> rw [h] <;> simp; done) | (rcases hb0 with h | h | h <;> rw [h] <;> simp; done) | (simp; done) | omega)); omega)
    · refine wp_gd (by have f0 := congrArg Int32.toInt (hg_M_4 24 (ix y7_41) (by first | decide | (rcases hc0 with h | h <;> rw [h] <;> simp; done) | (rcases hb0 with h | h | h <;> rw [h] <;> simp; done) | (simp; done) | omega)); omega) ?_
      refine wp_ite (fun c67 => ?_) (fun c67 => ?_)
      · exact ih41 y5_41 y6_41 (y7_41 + (nI 1)) (by have f0 := t_lit 1; have f1 := t_add y7_41 (nI 1); have f2 := congrArg Int32.toInt (hg_M_4 24 (ix y7_41) (by first | decide | (rcases hc0 with h | h <;> rw [h] <;> simp; done) | (rcases hb0 with h | h | h <;> rw [h] <;> simp; done) | (simp; done) | omega)); omega) (by have f0 := t_lit 1; have f1 := t_add y7_41 (nI 1); have f2 := congrArg Int32.toInt (hg_M_4 24 (ix y7_41) (by first | decide | (rcases hc0 with h | h <;> rw [h] <;> simp; done) | (rcases hb0 with h | h | h <;> rw [h] <;> simp; done) | (simp; done) | omega)); omega)
      · refine wp_gd (by have f0 := congrArg Int32.toInt (hg_M_4 24 (ix y7_41) (by first | decide | (rcases hc0 with h | h <;> rw [h] <;> simp; done) | (rcases hb0 with h | h | h <;> rw [h] <;> simp; done) | (simp; done) | omega)); omega) ?_
        refine wp_gd (by have f0 := congrArg Int32.toInt (hg_M_4 24 (ix y7_41) (by first | decide | (rcases hc0 with h | h <;> rw [h] <;> simp; done) | (rcases hb0 with h | h | h <;> rw [h] <;> simp; done) | (simp; done) | omega)); omega) ?_
        refine wp_bnd (fun x_5 ex_5 => ?_)
        refine wp_ite (fun c93 => ?_) (fun c93 => ?_)
        · exact ih41 x_5 y7_41 (y7_41 + (nI 1)) (by have f0 := t_lit 1; have f1 := t_add y7_41 (nI 1); have f2 := congrArg Int32.toInt (hg_M_4 24 (ix y7_41) (by first | decide | (rcases hc0 with h | h <;> rw [h] <;> simp; done) | (rcases hb0 with h | h | h <;> rw [h] <;> simp; done) | (simp; done) | omega)); omega) (by have f0 := t_lit 1; have f1 := t_add y7_41 (nI 1); have f2 := congrArg Int32.toInt (hg_M_4 24 (ix y7_41) (by first | decide | (rcases hc0 with h | h <;> rw [h] <;> simp; done) | (rcases hb0 with h | h | h <;> rw [h] <;> simp; done) | (simp; done) | omega)); omega)
        · refine wp_ite (fun c100 => ?_) (fun c100 => ?_)
          · exact ih41 y5_41 y6_41 (y7_41 + (nI 1)) (by have f0 := t_lit 1; have f1 := t_add y7_41 (nI 1); have f2 := congrArg Int32.toInt (hg_M_4 24 (ix y7_41) (by first | decide | (rcases hc0 with h | h <;> rw [h] <;> simp; done) | (rcases hb0 with h | h | h <;> rw [h] <;> simp; done) | (simp; done) | omega)); omega) (by have f0 := t_lit 1; have f1 := t_add y7_41 (nI 1); have f2 := congrArg Int32.toInt (hg_M_4 24 (ix y7_41) (by first | decide | (rcases hc0 with h | h <;> rw [h] <;> simp; done) | (rcases hb0 with h | h | h <;> rw [h] <;> simp; done) | (simp; done) | omega)); omega)
          · exact ih41 x_5 y7_41 (y7_41 + (nI 1)) (by have f0 := t_lit 1; have f1 := t_add y7_41 (nI 1); have f2 := congrArg Int32.toInt (hg_M_4 24 (ix y7_41) (by first | decide | (rcases hc0 with h | h <;> rw [h] <;> simp; done) | (rcases hb0 with h | h | h <;> rw [h] <;> simp; done) | (simp; done) | omega)); omega) (by have f0 := t_lit 1; have f1 := t_add y7_41 (nI 1); have f2 := congrArg Int32.toInt (hg_M_4 24 (ix y7_41) (by first | decide | (rcases hc0 with h | h <;> rw [h] <;> simp; done) | (rcases hb0 with h | h | h <;> rw [h] <;> simp; done) | (simp; done) | omega)); omega)
theorem o_X8_needs {b : Nat} (hb : isF b) (M : Mem) (v2 : Int32) (v3 : Int32) : Wp (f_X8_needs b M v2 v3) (fun q => (q.1 = 0 ∨ q.1 = 1) ∧ (∀ a i, ¬ (a = 24 ∨ a = 26 ∨ a = (b + 5)) → q.2 a i = M a i)) := by
  have hb0 : b = 1 ∨ b = 7 ∨ b = 13 := hb
  refine wp_bind2 (o_X2_isDry hb M v3) (fun r_1 he2 hq2 => ?_)
  obtain ⟨hz_r_1, hr_2⟩ := hq2
  replace hr_2 : ¬ r_1.toInt = 0 → 0 ≤ v3.toInt ∧ v3.toInt < 40 := hr_2
  refine wp_ite (fun c5 => ?_) (fun c5 => ?_)
  · exact wp_some ⟨b01_0, (fun _ _ _ => rfl)⟩
  · refine wp_gd (by omega) ?_
    refine wp_bnd (fun M_2 eM_2 => ?_)
    refine wp_cb2 (o_X8_canCross hb M_2 v2) (fun r_3 M_4 he20 hq20 => ?_)
    obtain ⟨hz_r_3, hg_M_4⟩ := hq20
    replace hg_M_4 : ∀ a i, ¬ (a = 24 ∨ a = 26) → M_4 a i = M_2 a i := by exact fun a i q0 => hg_M_4 a i (by first | decide | (rcases hc0 with h | h <;> rw [h] <;> simp; done) | (rcases hb0 with h | h | h <;> rw [h] <;> simp; done) | (simp; done) | omega)
    have j31 : ∀ (t0_31 : Int32), (t0_31 = 0 ∨ t0_31 = 1) → Wp (f_X8_needs_L31 b v3 M_4 t0_31) (fun q => (q.1 = 0 ∨ q.1 = 1) ∧ (∀ a i, ¬ (a = 24 ∨ a = 26 ∨ a = (b + 5)) → q.2 a i = M a i)) := by
      intro t0_31 hb_t0_31
      unfold f_X8_needs_L31
      refine wp_gd (by omega) ?_
      refine wp_bnd (fun M_5 eM_5 => ?_)
      refine wp_gb hb_t0_31 ?_
      exact wp_some ⟨hb_t0_31, (fun a i q0 => ((congrFun (congrFun eM_5 a) i).trans ((mset_ne (fun h9 => q0 (Or.inr (Or.inr ((h9).1))))).trans ((hg_M_4 a i (fun z8 => q0 ((fun z9 => Or.elim z9 (fun h9 => Or.inl h9) (fun h9 => Or.inr (Or.inl h9))) z8))).trans ((congrFun (congrFun eM_2 a) i).trans ((mset_ne (fun h9 => q0 (Or.inr (Or.inr ((h9).1))))).trans rfl))))))⟩
    refine wp_ite (fun c23 => ?_) (fun c23 => ?_)
    · exact j31 (nI 1) b01_1
    · exact j31 (nI 0) b01_0
theorem o_X9_isPlace (M : Mem) (v0 : Int32) (v1 : Int32) : Wp (f_X9_isPlace v0 v1) (fun q => (q = 0 ∨ q = 1)) := by
  refine wp_ite (fun c1 => ?_) (fun c1 => ?_)
  · exact wp_some b01_0
  · refine wp_ite (fun c7 => ?_) (fun c7 => ?_)
    · exact wp_some b01_0
    · refine wp_ite (fun c12 => ?_) (fun c12 => ?_)
      · exact wp_some b01_0
      · refine wp_ite (fun c18 => ?_) (fun c18 => ?_)
        · exact wp_some b01_0
        · exact wp_some b01_1
theorem o_X9_at (M : Mem) (v1 : Int32) (v2 : Int32) : Wp (f_X9_at M v1 v2) (fun q => True) := by
  refine wp_bind2 (o_X9_isPlace M v1 v2) (fun r_1 he2 hq2 => ?_)
  have hz_r_1 := hq2
  refine wp_ite (fun c5 => ?_) (fun c5 => ?_)
  · exact wp_some trivial
  · refine wp_bind2 (o_X2_stoneAt (Or.inl rfl) M v1 v2) (fun r_2 he16 hq16 => ?_)
    refine wp_ite (fun c22 => ?_) (fun c22 => ?_)
    · exact wp_some trivial
    · exact wp_some trivial
theorem o_X9_chalk (M : Mem) (v1 : Int32) (v2 : Int32) : Wp (f_X9_chalk M v1 v2) (fun q => (∀ a i, ¬ ((a = 19 ∧ i = 1) ∨ (a = 19 ∧ i = 2) ∨ (a = 19 ∧ i = 3) ∨ (a = 19 ∧ i = 4) ∨ a = 38 ∨ a = 39 ∨ a = 40 ∨ a = 41 ∨ a = 42) → q.2 a i = M a i)) := by
  refine wp_ite (fun c2 => ?_) (fun c2 => ?_)
  · exact wp_some (fun _ _ _ => rfl)
  · refine wp_ite (fun c8 => ?_) (fun c8 => ?_)
    · exact wp_some (fun _ _ _ => rfl)
    · refine wp_bind2 (o_X7_holds M ((nI 2) * v1) (nI 2) (nI 14)) (fun r_1 he21 hq21 => ?_)
      obtain ⟨hz_r_1, hr_21⟩ := hq21
      replace hr_21 : ¬ r_1.toInt = 0 → (nI 2).toInt ≤ ((nI 2) * v1).toInt ∧ ((nI 2) * v1).toInt ≤ (nI 14).toInt ∧ ((nI 2) * v1).toInt ≤ (M 19 1).toInt := hr_21
      have := t_lit 2
      have := t_lit 14
      refine wp_ite (fun c24 => ?_) (fun c24 => ?_)
      · exact wp_some (fun _ _ _ => rfl)
      · have j46 : Wp (f_X9_chalk_L46 M v1 v2) (fun q => (∀ a i, ¬ ((a = 19 ∧ i = 1) ∨ (a = 19 ∧ i = 2) ∨ (a = 19 ∧ i = 3) ∨ (a = 19 ∧ i = 4) ∨ a = 38 ∨ a = 39 ∨ a = 40 ∨ a = 41 ∨ a = 42) → q.2 a i = M a i)) := by
          unfold f_X9_chalk_L46
          refine wp_bind2 (o_X7_open M ((nI 2) * v1)) (fun M_2 he53 hq53 => ?_)
          have hg_M_2 := hq53
          replace hg_M_2 : ∀ a i, ¬ ((a = 19 ∧ i = 1) ∨ (a = 19 ∧ i = 2) ∨ (a = 19 ∧ i = 3) ∨ (a = 19 ∧ i = 4)) → M_2 a i = M a i := hg_M_2
          refine wp_bind2 (o_X2_countTold (Or.inl rfl) M_2) (fun r_3 he60 hq60 => ?_)
          refine wp_ite (fun c64 => ?_) (fun c64 => ?_)
          · refine wp_cb2 (o_X0_read M_2 v1) (fun r_4 M_5 he79 hq79 => ?_)
            obtain ⟨hz_r_4, hg_M_5⟩ := hq79
            replace hg_M_5 : ∀ a i, ¬ (a = 38 ∨ a = 39) → M_5 a i = M_2 a i := hg_M_5
            refine wp_ite (fun c82 => ?_) (fun c82 => ?_)
            · exact wp_some (fun a i q0 => ((hg_M_5 a i (fun z8 => q0 ((fun z9 => Or.elim z9 (fun h9 => Or.inr (Or.inr (Or.inr (Or.inr (Or.inl h9))))) (fun h9 => Or.inr (Or.inr (Or.inr (Or.inr (Or.inr (Or.inl h9))))))) z8))).trans ((hg_M_2 a i (fun z8 => q0 ((fun z9 => Or.elim z9 (fun h9 => Or.inl h9) (fun z9 => Or.elim z9 (fun h9 => Or.inr (Or.inl h9)) (fun z9 => Or.elim z9 (fun h9 => Or.inr (Or.inr (Or.inl h9))) (fun h9 => Or.inr (Or.inr (Or.inr (Or.inl h9))))))) z8))).trans rfl)))
            · refine wp_bind2 (o_X0_match (Or.inl rfl) M_5 v1 (by omega)) (fun M_6 he97 hq97 => ?_)
              have hg_M_6 := hq97
              replace hg_M_6 : ∀ a i, ¬ (a = 40 ∨ a = 41 ∨ a = 42) → M_6 a i = M_5 a i := by exact fun a i q0 => hg_M_6 a i (by first | decide | (rcases hc0 with h | h <;> rw [h] <;> simp; done) | (rcases hb0 with h | h | h <;> rw [h] <;> simp; done) | (simp; done) | omega)
              refine wp_ite (fun c103 => ?_) (fun c103 => ?_)
              · refine wp_bind2 (o_X0_wayInAll M_6) (fun r_8 he110 hq110 => ?_)
                exact wp_some (fun a i q0 => ((hg_M_6 a i (fun z8 => q0 ((fun z9 => Or.elim z9 (fun h9 => Or.inr (Or.inr (Or.inr (Or.inr (Or.inr (Or.inr (Or.inl h9))))))) (fun z9 => Or.elim z9 (fun h9 => Or.inr (Or.inr (Or.inr (Or.inr (Or.inr (Or.inr (Or.inr (Or.inl h9)))))))) (fun h9 => Or.inr (Or.inr (Or.inr (Or.inr (Or.inr (Or.inr (Or.inr (Or.inr (h9))))))))))) z8))).trans ((hg_M_5 a i (fun z8 => q0 ((fun z9 => Or.elim z9 (fun h9 => Or.inr (Or.inr (Or.inr (Or.inr (Or.inl h9))))) (fun h9 => Or.inr (Or.inr (Or.inr (Or.inr (Or.inr (Or.inl h9))))))) z8))).trans ((hg_M_2 a i (fun z8 => q0 ((fun z9 => Or.elim z9 (fun h9 => Or.inl h9) (fun z9 => Or.elim z9 (fun h9 => Or.inr (Or.inl h9)) (fun z9 => Or.elim z9 (fun h9 => Or.inr (Or.inr (Or.inl h9))) (fun h9 => Or.inr (Or.inr (Or.inr (Or.inl h9))))))) z8))).trans rfl))))
              · refine wp_bind2 (o_X0_stoneOf M_6 v1 v2) (fun r_7 he122 hq122 => ?_)
                exact wp_some (fun a i q0 => ((hg_M_6 a i (fun z8 => q0 ((fun z9 => Or.elim z9 (fun h9 => Or.inr (Or.inr (Or.inr (Or.inr (Or.inr (Or.inr (Or.inl h9))))))) (fun z9 => Or.elim z9 (fun h9 => Or.inr (Or.inr (Or.inr (Or.inr (Or.inr (Or.inr (Or.inr (Or.inl h9)))))))) (fun h9 => Or.inr (Or.inr (Or.inr (Or.inr (Or.inr (Or.inr (Or.inr (Or.inr (h9))))))))))) z8))).trans ((hg_M_5 a i (fun z8 => q0 ((fun z9 => Or.elim z9 (fun h9 => Or.inr (Or.inr (Or.inr (Or.inr (Or.inl h9))))) (fun h9 => Or.inr (Or.inr (Or.inr (Or.inr (Or.inr (Or.inl h9))))))) z8))).trans ((hg_M_2 a i (fun z8 => q0 ((fun z9 => Or.elim z9 (fun h9 => Or.inl h9) (fun z9 => Or.elim z9 (fun h9 => Or.inr (Or.inl h9)) (fun z9 => Or.elim z9 (fun h9 => Or.inr (Or.inr (Or.inl h9))) (fun h9 => Or.inr (Or.inr (Or.inr (Or.inl h9))))))) z8))).trans rfl))))
          · exact wp_some (fun a i q0 => ((hg_M_2 a i (fun z8 => q0 ((fun z9 => Or.elim z9 (fun h9 => Or.inl h9) (fun z9 => Or.elim z9 (fun h9 => Or.inr (Or.inl h9)) (fun z9 => Or.elim z9 (fun h9 => Or.inr (Or.inr (Or.inl h9))) (fun h9 => Or.inr (Or.inr (Or.inr (Or.inl h9))))))) z8))).trans rfl))
        refine wp_ite (fun c32 => ?_) (fun c32 => ?_)
        · exact j46
        · refine wp_ite (fun c36 => ?_) (fun c36 => ?_)
          · exact wp_some (fun _ _ _ => rfl)
          · refine wp_ite (fun c41 => ?_) (fun c41 => ?_)
            · exact j46
            · exact wp_some (fun _ _ _ => rfl)
theorem o_X9_check (M : Mem) (v1 : Int32) : Wp (f_X9_check M v1) (fun q => (∀ a i, ¬ ((a = 19 ∧ i = 1) ∨ (a = 19 ∧ i = 2) ∨ (a = 19 ∧ i = 3) ∨ (a = 19 ∧ i = 4)) → q.2 a i = M a i)) := by
  refine wp_bind2 (o_X7_holds M v1 (nI 0) (nI 40)) (fun r_1 he8 hq8 => ?_)
  obtain ⟨hz_r_1, hr_8⟩ := hq8
  replace hr_8 : ¬ r_1.toInt = 0 → (nI 0).toInt ≤ v1.toInt ∧ v1.toInt ≤ (nI 40).toInt ∧ v1.toInt ≤ (M 19 1).toInt := hr_8
  have := t_lit 0
  have := t_lit 40
  refine wp_ite (fun c11 => ?_) (fun c11 => ?_)
  · exact wp_some (fun _ _ _ => rfl)
  · refine wp_bind2 (o_X7_open M v1) (fun M_2 he22 hq22 => ?_)
    have hg_M_2 := hq22
    replace hg_M_2 : ∀ a i, ¬ ((a = 19 ∧ i = 1) ∨ (a = 19 ∧ i = 2) ∨ (a = 19 ∧ i = 3) ∨ (a = 19 ∧ i = 4)) → M_2 a i = M a i := hg_M_2
    have ft1 := t_rng v1
    refine wp_lp1 (fun y2_27 => (0 ≤ y2_27.toInt)) (fun y2_27 => (v1.toInt - y2_27.toInt).toNat) (fun ag27 y2_27 hI27 ih27 => ?_) FU (nI 0) (by have f0 := t_lit 0; omega) (fu_lt (by have f0 := t_lit 0; omega))
    have hi27 := hI27
    refine wp_ite (fun c29 => ?_) (fun c29 => ?_)
    · exact wp_some (fun a i q0 => ((hg_M_2 a i (fun z8 => q0 ((fun z9 => Or.elim z9 (fun h9 => Or.inl h9) (fun z9 => Or.elim z9 (fun h9 => Or.inr (Or.inl h9)) (fun z9 => Or.elim z9 (fun h9 => Or.inr (Or.inr (Or.inl h9))) (fun h9 => Or.inr (Or.inr (Or.inr (h9))))))) z8))).trans rfl))
    · refine wp_bind2 (o_X2_isTold (Or.inl rfl) M_2 y2_27) (fun r_3 he37 hq37 => ?_)
      obtain ⟨hz_r_3, hr_37⟩ := hq37
      replace hr_37 : ¬ r_3.toInt = 0 → 0 ≤ y2_27.toInt ∧ y2_27.toInt < 40 := hr_37
      have j58 : ∀ (t0_58 : Int32), Wp (f_X9_check_L58 M_2 ag27 y2_27 t0_58) (fun q => (∀ a i, ¬ ((a = 19 ∧ i = 1) ∨ (a = 19 ∧ i = 2) ∨ (a = 19 ∧ i = 3) ∨ (a = 19 ∧ i = 4)) → q.2 a i = M a i)) := by
        intro t0_58
        unfold f_X9_check_L58
        refine wp_bind2 (o_X7_byteAt M_2 y2_27) (fun r_4 he64 hq64 => ?_)
        refine wp_ite (fun c68 => ?_) (fun c68 => ?_)
        · exact ih27 (y2_27 + (nI 1)) (by have f0 := t_lit 1; have f1 := t_add y2_27 (nI 1); omega) (by have f0 := t_lit 1; have f1 := t_add y2_27 (nI 1); omega)
        · exact wp_some (fun a i q0 => ((hg_M_2 a i (fun z8 => q0 ((fun z9 => Or.elim z9 (fun h9 => Or.inl h9) (fun z9 => Or.elim z9 (fun h9 => Or.inr (Or.inl h9)) (fun z9 => Or.elim z9 (fun h9 => Or.inr (Or.inr (Or.inl h9))) (fun h9 => Or.inr (Or.inr (Or.inr (h9))))))) z8))).trans rfl))
      refine wp_ite (fun c40 => ?_) (fun c40 => ?_)
      · exact j58 (nI 255)
      · refine wp_gd (by omega) ?_
        exact j58 (M_2 2 (ix y2_27))
theorem o_X9_toldPeople (M : Mem) : Wp (f_X9_toldPeople M) (fun q => True) := by
  refine wp_lp2 (fun y1_4 y2_4 => (0 ≤ y2_4.toInt)) (fun y1_4 y2_4 => (8 - y2_4.toInt).toNat) (fun ag4 y1_4 y2_4 hI4 ih4 => ?_) FU (nI 0) (nI 0) (by have f0 := t_lit 0; omega) (fu_lt (by have f0 := t_lit 0; omega))
  have hi4 := hI4
  refine wp_ite (fun c7 => ?_) (fun c7 => ?_)
  · exact wp_some trivial
  · refine wp_gd (by omega) ?_
    refine wp_ite (fun c16 => ?_) (fun c16 => ?_)
    · exact ih4 y1_4 (y2_4 + (nI 1)) (by have f0 := t_lit 1; have f1 := t_add y2_4 (nI 1); omega) (by have f0 := t_lit 1; have f1 := t_add y2_4 (nI 1); omega)
    · refine wp_bnd (fun x_1 ex_1 => ?_)
      exact ih4 x_1 (y2_4 + (nI 1)) (by have f0 := t_lit 1; have f1 := t_add y2_4 (nI 1); omega) (by have f0 := t_lit 1; have f1 := t_add y2_4 (nI 1); omega)
theorem o_X9_strideOf (M : Mem) (v1 : Int32) : Wp (f_X9_strideOf M v1) (fun q => True) := by
  refine wp_ite (fun c1 => ?_) (fun c1 => ?_)
  · exact wp_some trivial
  · refine wp_ite (fun c7 => ?_) (fun c7 => ?_)
    · exact wp_some trivial
    · refine wp_gd (by omega) ?_
      exact wp_some trivial
theorem o_X9_count (M : Mem) (v1 : Int32) (hL10 : (M 0 10).toInt = 44 ∨ (M 0 10).toInt = 52) : Wp (f_X9_count M v1) (fun q => True) := by
  refine wp_ite (fun c1 => ?_) (fun c1 => ?_)
  · exact wp_some trivial
  · refine wp_ite (fun c1 => ?_) (fun c1 => ?_)
    · refine wp_bind2 (o_X2_countTold (Or.inl rfl) M) (fun r_1 he56 hq56 => ?_)
      exact wp_some trivial
    · refine wp_ite (fun c2 => ?_) (fun c2 => ?_)
      · refine wp_bind2 (o_X2_countSunk (Or.inl rfl) M) (fun r_2 he64 hq64 => ?_)
        exact wp_some trivial
      · refine wp_ite (fun c3 => ?_) (fun c3 => ?_)
        · refine wp_bind2 (o_X9_toldPeople M) (fun r_3 he69 hq69 => ?_)
          exact wp_some trivial
        · refine wp_ite (fun c4 => ?_) (fun c4 => ?_)
          · refine wp_rl hL10 (fun c_4 hc_4 ecc_4 => ?_)
            have hc_40 : c_4 = 44 ∨ c_4 = 52 := hc_4
            exact wp_some trivial
          · refine wp_ite (fun c5 => ?_) (fun c5 => ?_)
            · exact wp_some trivial
            · refine wp_ite (fun c6 => ?_) (fun c6 => ?_)
              · exact wp_some trivial
              · refine wp_ite (fun c100 => ?_) (fun c100 => ?_)
                · exact wp_some trivial
                · refine wp_bind2 (o_X9_strideOf M (v1 - (nI 10))) (fun r_5 he108 hq108 => ?_)
                  refine wp_ite (fun c111 => ?_) (fun c111 => ?_)
                  · exact wp_some trivial
                  · refine wp_bind2 (o_X9_strideOf M (v1 - (nI 10))) (fun r_6 he119 hq119 => ?_)
                    exact wp_some trivial
theorem o_X9_isStone (M : Mem) (v0 : Int32) : Wp (f_X9_isStone v0) (fun q => (q = 0 ∨ q = 1)) := by
  refine wp_ite (fun c1 => ?_) (fun c1 => ?_)
  · exact wp_some b01_0
  · refine wp_ite (fun c7 => ?_) (fun c7 => ?_)
    · exact wp_some b01_0
    · exact wp_some b01_1
theorem o_X9_cross (M : Mem) (v1 : Int32) (v2 : Int32) : Wp (f_X9_cross M v1 v2) (fun q => (∀ a i, ¬ (a = 24 ∨ a = 25 ∨ a = 26 ∨ a = 27) → q.2 a i = M a i)) := by
  refine wp_bind2 (o_X9_strideOf M v1) (fun r_1 he2 hq2 => ?_)
  refine wp_ite (fun c7 => ?_) (fun c7 => ?_)
  · exact wp_some (fun _ _ _ => rfl)
  · refine wp_bind2 (o_X9_isStone M v2) (fun r_2 he11 hq11 => ?_)
    have hz_r_2 := hq11
    have j31 : Wp (f_X9_cross_L31 M v2 r_1) (fun q => (∀ a i, ¬ (a = 24 ∨ a = 25 ∨ a = 26 ∨ a = 27) → q.2 a i = M a i)) := by
      unfold f_X9_cross_L31
      refine wp_cb2 (o_X8_crossing (Or.inl rfl) M r_1 v2) (fun r_3 M_4 he41 hq41 => ?_)
      have hg_M_4 := hq41
      replace hg_M_4 : ∀ a i, ¬ (a = 24 ∨ a = 25 ∨ a = 26 ∨ a = 27) → M_4 a i = M a i := by exact fun a i q0 => hg_M_4 a i (by first | decide | (rcases hc0 with h | h <;> rw [h] <;> simp; done) | (rcases hb0 with h | h | h <;> rw [h] <;> simp; done) | (simp; done) | omega)
      exact wp_some (fun a i q0 => ((hg_M_4 a i (fun z8 => q0 ((fun z9 => Or.elim z9 (fun h9 => Or.inl h9) (fun z9 => Or.elim z9 (fun h9 => Or.inr (Or.inl h9)) (fun z9 => Or.elim z9 (fun h9 => Or.inr (Or.inr (Or.inl h9))) (fun h9 => Or.inr (Or.inr (Or.inr (h9))))))) z8))).trans rfl))
    refine wp_ite (fun c14 => ?_) (fun c14 => ?_)
    · refine wp_ite (fun c20 => ?_) (fun c20 => ?_)
      · exact j31
      · refine wp_ite (fun c26 => ?_) (fun c26 => ?_)
        · exact j31
        · exact wp_some (fun _ _ _ => rfl)
    · exact j31
theorem o_X9_isEither (M : Mem) (v0 : Int32) : Wp (f_X9_isEither v0) (fun q => (q = 0 ∨ q = 1)) := by
  refine wp_ite (fun c1 => ?_) (fun c1 => ?_)
  · exact wp_some b01_1
  · refine wp_ite (fun c6 => ?_) (fun c6 => ?_)
    · exact wp_some b01_1
    · exact wp_some b01_0
theorem o_X9_driest (M : Mem) (v1 : Int32) (v2 : Int32) : Wp (f_X9_driest M v1 v2) (fun q => (∀ a i, ¬ (a = 28 ∨ a = 29) → q.2 a i = M a i)) := by
  refine wp_bind2 (o_X9_strideOf M v1) (fun r_1 he2 hq2 => ?_)
  refine wp_ite (fun c7 => ?_) (fun c7 => ?_)
  · exact wp_some (fun _ _ _ => rfl)
  · refine wp_bind2 (o_X9_isEither M v2) (fun r_2 he11 hq11 => ?_)
    have hz_r_2 := hq11
    refine wp_ite (fun c14 => ?_) (fun c14 => ?_)
    · exact wp_some (fun _ _ _ => rfl)
    · refine wp_cb2 (o_X8_driestWay (Or.inl rfl) M r_1 v2) (fun r_3 M_4 he29 hq29 => ?_)
      have hg_M_4 := hq29
      replace hg_M_4 : ∀ a i, ¬ (a = 28 ∨ a = 29) → M_4 a i = M a i := by exact fun a i q0 => hg_M_4 a i (by first | decide | (rcases hc0 with h | h <;> rw [h] <;> simp; done) | (rcases hb0 with h | h | h <;> rw [h] <;> simp; done) | (simp; done) | omega)
      exact wp_some (fun a i q0 => ((hg_M_4 a i (fun z8 => q0 ((fun z9 => Or.elim z9 (fun h9 => Or.inl h9) (fun h9 => Or.inr (h9))) z8))).trans rfl))
theorem o_X9_unlike (M : Mem) (v1 : Int32) (v2 : Int32) : Wp (f_X9_unlike M v1 v2) (fun q => True) := by
  have ft1 := t_rng v2
  refine wp_lp2 (fun y3_5 y4_5 => (0 ≤ y4_5.toInt)) (fun y3_5 y4_5 => (v2.toInt - y4_5.toInt).toNat) (fun ag5 y3_5 y4_5 hI5 ih5 => ?_) FU (nI 0) (nI 0) (by have f0 := t_lit 0; omega) (fu_lt (by have f0 := t_lit 0; omega))
  have hi5 := hI5
  have j51 : Wp (f_X9_unlike_L51 y3_5) (fun q => True) := by
    unfold f_X9_unlike_L51
    exact wp_some trivial
  refine wp_ite (fun c8 => ?_) (fun c8 => ?_)
  · exact j51
  · refine wp_ite (fun c18 => ?_) (fun c18 => ?_)
    · refine wp_bind2 (o_X7_byteAt M y4_5) (fun r_1 he39 hq39 => ?_)
      refine wp_bnd (fun x_2 ex_2 => ?_)
      exact ih5 x_2 (y4_5 + (nI 1)) (by have f0 := t_lit 1; have f1 := t_add y4_5 (nI 1); omega) (by have f0 := t_lit 1; have f1 := t_add y4_5 (nI 1); omega)
    · refine wp_bind2 (o_X7_byteAt M y4_5) (fun r_3 he27 hq27 => ?_)
      refine wp_bnd (fun x_4 ex_4 => ?_)
      exact ih5 x_4 (y4_5 + (nI 1)) (by have f0 := t_lit 1; have f1 := t_add y4_5 (nI 1); omega) (by have f0 := t_lit 1; have f1 := t_add y4_5 (nI 1); omega)
theorem o_X9_evenBag (M : Mem) (v1 : Int32) (hn : 1 ≤ v1.toInt ∧ v1.toInt ≤ 8) : Wp (f_X9_evenBag M v1) (fun q => True) := by
  have hsh := shl8 hn.1 hn.2
  refine wp_lp2 (fun y2_4 y3_4 => (1 ≤ y3_4.toInt ∧ y3_4.toInt ≤ 300)) (fun y2_4 y3_4 => (300 - y3_4.toInt).toNat) (fun ag4 y2_4 y3_4 hI4 ih4 => ?_) FU (nI 1) (nI 1) (by decide) (fu_lt (by have f0 := t_lit 1; omega))
  have hy := hI4
  refine wp_ite (fun c8 => ?_) (fun c8 => ?_)
  · exact wp_some trivial
  · refine wp_bind2 (o_X9_unlike M y3_4 v1) (fun r_1 he14 hq14 => ?_)
    refine wp_bind2 (o_X9_unlike M y2_4 v1) (fun r_2 he20 hq20 => ?_)
    refine wp_ite (fun c23 => ?_) (fun c23 => ?_)
    · exact ih4 y2_4 (y3_4 + (nI 2)) (by have f0 := t_lit 2; have f1 := t_add y3_4 (nI 2); have f2 := t_lit 1; omega) (by have f0 := t_lit 2; have f1 := t_add y3_4 (nI 2); have f2 := t_lit 1; omega)
    · exact ih4 y3_4 (y3_4 + (nI 2)) (by have f0 := t_lit 2; have f1 := t_add y3_4 (nI 2); have f2 := t_lit 1; omega) (by have f0 := t_lit 2; have f1 := t_add y3_4 (nI 2); have f2 := t_lit 1; omega)
theorem o_X9_feed (M : Mem) (v1 : Int32) (v2 : Int32) (v3 : Int32) (v4 : Int32) (v5 : Int32) : Wp (f_X9_feed M v1 v2 v3 v4 v5) (fun q => (∀ a i, ¬ ((a = 19 ∧ i = 1) ∨ a = 20) → q.2 a i = M a i)) := by
  refine wp_ite (fun c13 => ?_) (fun c13 => ?_)
  · refine wp_bind2 (o_X7_append M v1) (fun M_1 he23 hq23 => ?_)
    have hg_M_1 := hq23
    replace hg_M_1 : ∀ a i, ¬ ((a = 19 ∧ i = 1) ∨ a = 20) → M_1 a i = M a i := hg_M_1
    refine wp_bind2 (o_X7_append M_1 v2) (fun M_2 he31 hq31 => ?_)
    have hg_M_2 := hq31
    replace hg_M_2 : ∀ a i, ¬ ((a = 19 ∧ i = 1) ∨ a = 20) → M_2 a i = M_1 a i := hg_M_2
    refine wp_bind2 (o_X7_append M_2 v3) (fun M_3 he39 hq39 => ?_)
    have hg_M_3 := hq39
    replace hg_M_3 : ∀ a i, ¬ ((a = 19 ∧ i = 1) ∨ a = 20) → M_3 a i = M_2 a i := hg_M_3
    refine wp_bind2 (o_X7_append M_3 v4) (fun M_4 he48 hq48 => ?_)
    have hg_M_4 := hq48
    replace hg_M_4 : ∀ a i, ¬ ((a = 19 ∧ i = 1) ∨ a = 20) → M_4 a i = M_3 a i := hg_M_4
    refine wp_bind2 (o_X7_append M_4 v5) (fun M_5 he57 hq57 => ?_)
    have hg_M_5 := hq57
    replace hg_M_5 : ∀ a i, ¬ ((a = 19 ∧ i = 1) ∨ a = 20) → M_5 a i = M_4 a i := hg_M_5
    exact wp_some (fun a i q0 => ((hg_M_5 a i (fun z8 => q0 ((fun z9 => Or.elim z9 (fun h9 => Or.inl h9) (fun h9 => Or.inr (h9))) z8))).trans ((hg_M_4 a i (fun z8 => q0 ((fun z9 => Or.elim z9 (fun h9 => Or.inl h9) (fun h9 => Or.inr (h9))) z8))).trans ((hg_M_3 a i (fun z8 => q0 ((fun z9 => Or.elim z9 (fun h9 => Or.inl h9) (fun h9 => Or.inr (h9))) z8))).trans ((hg_M_2 a i (fun z8 => q0 ((fun z9 => Or.elim z9 (fun h9 => Or.inl h9) (fun h9 => Or.inr (h9))) z8))).trans ((hg_M_1 a i (fun z8 => q0 ((fun z9 => Or.elim z9 (fun h9 => Or.inl h9) (fun h9 => Or.inr (h9))) z8))).trans rfl))))))
  · exact wp_some (fun _ _ _ => rfl)
theorem o_X9_firstNight (M : Mem) (v1 : Int32) (hL10 : (M 0 10).toInt = 44 ∨ (M 0 10).toInt = 52) : Wp (f_X9_firstNight M v1) (fun q => (∀ a i, ¬ ((a = 13 ∧ i = 5) ∨ (a = 13 ∧ i = 6) ∨ a = 14 ∨ a = 15 ∨ a = 16 ∨ a = 17 ∨ a = 18 ∨ (a = 21 ∧ i = 1) ∨ (a = 21 ∧ i = 2) ∨ a = 22 ∨ a = 24 ∨ a = 26 ∨ a = 47 ∨ a = 55) → q.2 a i = M a i)) := by
  refine wp_bind2 (o_X9_strideOf M v1) (fun r_1 he2 hq2 => ?_)
  refine wp_ite (fun c7 => ?_) (fun c7 => ?_)
  · exact wp_some (fun _ _ _ => rfl)
  · refine wp_bind2 (o_X2_copyAll (Or.inr (Or.inr rfl)) (Or.inl rfl) M) (fun M_2 he20 hq20 => ?_)
    have hg_M_2 := hq20
    replace hg_M_2 : ∀ a i, ¬ ((a = 13 ∧ i = 5) ∨ (a = 13 ∧ i = 6) ∨ a = 14 ∨ a = 15 ∨ a = 16 ∨ a = 17 ∨ a = 18) → M_2 a i = M a i := by exact fun a i q0 => hg_M_2 a i (by first | decide | (rcases hc0 with h | h <;> rw [h] <;> simp; done) | (rcases hb0 with h | h | h <;> rw [h] <;> simp; done) | (simp; done) | omega)
    refine wp_lp2 (fun M25 y3_25 => (0 ≤ y3_25.toInt) ∧ (∀ a i, ¬ ((a = 13 ∧ i = 5) ∨ (a = 13 ∧ i = 6) ∨ a = 14 ∨ a = 15 ∨ a = 18 ∨ (a = 21 ∧ i = 1) ∨ (a = 21 ∧ i = 2) ∨ a = 22 ∨ a = 24 ∨ a = 26 ∨ a = 47 ∨ a = 55) → M25 a i = M_2 a i)) (fun M25 y3_25 => (60 + 1 - y3_25.toInt).toNat) (fun ag25 M25 y3_25 hI25 ih25 => ?_) FU M_2 (nI 0) ⟨(by have f0 := t_lit 0; omega), (fun _ _ _ => rfl)⟩ (fu_lt (by have f0 := t_lit 0; omega))
    obtain ⟨hi25, hf_M25⟩ := hI25
    refine wp_ite (fun c28 => ?_) (fun c28 => ?_)
    · exact wp_some (fun a i q0 => ((hf_M25 a i (fun z8 => q0 ((fun z9 => Or.elim z9 (fun h9 => Or.inl h9) (fun z9 => Or.elim z9 (fun h9 => Or.inr (Or.inl h9)) (fun z9 => Or.elim z9 (fun h9 => Or.inr (Or.inr (Or.inl h9))) (fun z9 => Or.elim z9 (fun h9 => Or.inr (Or.inr (Or.inr (Or.inl h9)))) (fun z9 => Or.elim z9 (fun h9 => Or.inr (Or.inr (Or.inr (Or.inr (Or.inr (Or.inr (Or.inl h9))))))) (fun z9 => Or.elim z9 (fun h9 => Or.inr (Or.inr (Or.inr (Or.inr (Or.inr (Or.inr (Or.inr (Or.inl h9)))))))) (fun z9 => Or.elim z9 (fun h9 => Or.inr (Or.inr (Or.inr (Or.inr (Or.inr (Or.inr (Or.inr (Or.inr (Or.inl h9))))))))) (fun z9 => Or.elim z9 (fun h9 => Or.inr (Or.inr (Or.inr (Or.inr (Or.inr (Or.inr (Or.inr (Or.inr (Or.inr (Or.inl h9)))))))))) (fun z9 => Or.elim z9 (fun h9 => Or.inr (Or.inr (Or.inr (Or.inr (Or.inr (Or.inr (Or.inr (Or.inr (Or.inr (Or.inr (Or.inl h9))))))))))) (fun z9 => Or.elim z9 (fun h9 => Or.inr (Or.inr (Or.inr (Or.inr (Or.inr (Or.inr (Or.inr (Or.inr (Or.inr (Or.inr (Or.inr (Or.inl h9)))))))))))) (fun z9 => Or.elim z9 (fun h9 => Or.inr (Or.inr (Or.inr (Or.inr (Or.inr (Or.inr (Or.inr (Or.inr (Or.inr (Or.inr (Or.inr (Or.inr (Or.inl h9))))))))))))) (fun h9 => Or.inr (Or.inr (Or.inr (Or.inr (Or.inr (Or.inr (Or.inr (Or.inr (Or.inr (Or.inr (Or.inr (Or.inr (Or.inr (h9))))))))))))))))))))))))) z8))).trans ((hg_M_2 a i (fun z8 => q0 ((fun z9 => Or.elim z9 (fun h9 => Or.inl h9) (fun z9 => Or.elim z9 (fun h9 => Or.inr (Or.inl h9)) (fun z9 => Or.elim z9 (fun h9 => Or.inr (Or.inr (Or.inl h9))) (fun z9 => Or.elim z9 (fun h9 => Or.inr (Or.inr (Or.inr (Or.inl h9)))) (fun z9 => Or.elim z9 (fun h9 => Or.inr (Or.inr (Or.inr (Or.inr (Or.inl h9))))) (fun z9 => Or.elim z9 (fun h9 => Or.inr (Or.inr (Or.inr (Or.inr (Or.inr (Or.inl h9)))))) (fun h9 => Or.inr (Or.inr (Or.inr (Or.inr (Or.inr (Or.inr (Or.inl h9))))))))))))) z8))).trans rfl)))
    · refine wp_cb2 (o_X8_canCross (Or.inr (Or.inr rfl)) M25 r_1) (fun r_3 M_4 he40 hq40 => ?_)
      obtain ⟨hz_r_3, hg_M_4⟩ := hq40
      replace hg_M_4 : ∀ a i, ¬ (a = 24 ∨ a = 26) → M_4 a i = M25 a i := by exact fun a i q0 => hg_M_4 a i (by first | decide | (rcases hc0 with h | h <;> rw [h] <;> simp; done) | (rcases hb0 with h | h | h <;> rw [h] <;> simp; done) | (simp; done) | omega)
      refine wp_ite (fun c43 => ?_) (fun c43 => ?_)
      · refine wp_rl (by have f0 := congrArg Int32.toInt (hg_M_4 0 10 (by first | decide | (rcases hc0 with h | h <;> rw [h] <;> simp; done) | (rcases hb0 with h | h | h <;> rw [h] <;> simp; done) | (simp; done) | omega)); have f1 := congrArg Int32.toInt (hf_M25 0 10 (by first | decide | (rcases hc0 with h | h <;> rw [h] <;> simp; done) | (rcases hb0 with h | h | h <;> rw [h] <;> simp; done) | (simp; done) | omega)); have f2 := congrArg Int32.toInt (hg_M_2 0 10 (by first | decide | (rcases hc0 with h | h <;> rw [h] <;> simp; done) | (rcases hb0 with h | h | h <;> rw [h] <;> simp; done) | (simp; done) | omega)); omega) (fun c_5 hc_5 ecc_5 => ?_)
        have hc_50 : c_5 = 44 ∨ c_5 = 52 := hc_5
        refine wp_bind2 (o_X5_pass (Or.inr (Or.inr rfl)) hc_5 M_4 (nI 1)) (fun M_6 he61 hq61 => ?_)
        have hg_M_6 := hq61
        replace hg_M_6 : ∀ a i, ¬ ((a = 13 ∧ i = 5) ∨ (a = 13 ∧ i = 6) ∨ a = 14 ∨ a = 15 ∨ a = 18 ∨ (a = 21 ∧ i = 1) ∨ (a = 21 ∧ i = 2) ∨ a = 22 ∨ a = 47 ∨ a = 55) → M_6 a i = M_4 a i := by rcases hc_50 with e9 | e9 <;> subst e9 <;> exact fun a i q0 => hg_M_6 a i (by first | decide | (rcases hc0 with h | h <;> rw [h] <;> simp; done) | (rcases hb0 with h | h | h <;> rw [h] <;> simp; done) | (simp; done) | omega)
        exact ih25 M_6 (y3_25 + (nI 1)) ⟨(by have f0 := t_lit 1; have f1 := t_add y3_25 (nI 1); omega), (fun a i q0 => ((hg_M_6 a i (fun z8 => q0 ((fun z9 => Or.elim z9 (fun h9 => Or.inl h9) (fun z9 => Or.elim z9 (fun h9 => Or.inr (Or.inl h9)) (fun z9 => Or.elim z9 (fun h9 => Or.inr (Or.inr (Or.inl h9))) (fun z9 => Or.elim z9 (fun h9 => Or.inr (Or.inr (Or.inr (Or.inl h9)))) (fun z9 => Or.elim z9 (fun h9 => Or.inr (Or.inr (Or.inr (Or.inr (Or.inl h9))))) (fun z9 => Or.elim z9 (fun h9 => Or.inr (Or.inr (Or.inr (Or.inr (Or.inr (Or.inl h9)))))) (fun z9 => Or.elim z9 (fun h9 => Or.inr (Or.inr (Or.inr (Or.inr (Or.inr (Or.inr (Or.inl h9))))))) (fun z9 => Or.elim z9 (fun h9 => Or.inr (Or.inr (Or.inr (Or.inr (Or.inr (Or.inr (Or.inr (Or.inl h9)))))))) (fun z9 => Or.elim z9 (fun h9 => Or.inr (Or.inr (Or.inr (Or.inr (Or.inr (Or.inr (Or.inr (Or.inr (Or.inr (Or.inr (Or.inl h9))))))))))) (fun h9 => Or.inr (Or.inr (Or.inr (Or.inr (Or.inr (Or.inr (Or.inr (Or.inr (Or.inr (Or.inr (Or.inr (h9))))))))))))))))))))) z8))).trans ((hg_M_4 a i (fun z8 => q0 ((fun z9 => Or.elim z9 (fun h9 => Or.inr (Or.inr (Or.inr (Or.inr (Or.inr (Or.inr (Or.inr (Or.inr (Or.inl h9))))))))) (fun h9 => Or.inr (Or.inr (Or.inr (Or.inr (Or.inr (Or.inr (Or.inr (Or.inr (Or.inr (Or.inl h9))))))))))) z8))).trans ((hf_M25 a i (fun z8 => q0 ((fun z9 => Or.elim z9 (fun h9 => Or.inl h9) (fun z9 => Or.elim z9 (fun h9 => Or.inr (Or.inl h9)) (fun z9 => Or.elim z9 (fun h9 => Or.inr (Or.inr (Or.inl h9))) (fun z9 => Or.elim z9 (fun h9 => Or.inr (Or.inr (Or.inr (Or.inl h9)))) (fun z9 => Or.elim z9 (fun h9 => Or.inr (Or.inr (Or.inr (Or.inr (Or.inl h9))))) (fun z9 => Or.elim z9 (fun h9 => Or.inr (Or.inr (Or.inr (Or.inr (Or.inr (Or.inl h9)))))) (fun z9 => Or.elim z9 (fun h9 => Or.inr (Or.inr (Or.inr (Or.inr (Or.inr (Or.inr (Or.inl h9))))))) (fun z9 => Or.elim z9 (fun h9 => Or.inr (Or.inr (Or.inr (Or.inr (Or.inr (Or.inr (Or.inr (Or.inl h9)))))))) (fun z9 => Or.elim z9 (fun h9 => Or.inr (Or.inr (Or.inr (Or.inr (Or.inr (Or.inr (Or.inr (Or.inr (Or.inl h9))))))))) (fun z9 => Or.elim z9 (fun h9 => Or.inr (Or.inr (Or.inr (Or.inr (Or.inr (Or.inr (Or.inr (Or.inr (Or.inr (Or.inl h9)))))))))) (fun z9 => Or.elim z9 (fun h9 => Or.inr (Or.inr (Or.inr (Or.inr (Or.inr (Or.inr (Or.inr (Or.inr (Or.inr (Or.inr (Or.inl h9))))))))))) (fun h9 => Or.inr (Or.inr (Or.inr (Or.inr (Or.inr (Or.inr (Or.inr (Or.inr (Or.inr (Or.inr (Or.inr (h9))))))))))))))))))))))) z8))).trans rfl))))⟩ (by have f0 := t_lit 1; have f1 := t_add y3_25 (nI 1); omega)
      · exact wp_some (fun a i q0 => ((hg_M_4 a i (fun z8 => q0 ((fun z9 => Or.elim z9 (fun h9 => Or.inr (Or.inr (Or.inr (Or.inr (Or.inr (Or.inr (Or.inr (Or.inr (Or.inr (Or.inr (Or.inl h9))))))))))) (fun h9 => Or.inr (Or.inr (Or.inr (Or.inr (Or.inr (Or.inr (Or.inr (Or.inr (Or.inr (Or.inr (Or.inr (Or.inl h9))))))))))))) z8))).trans ((hf_M25 a i (fun z8 => q0 ((fun z9 => Or.elim z9 (fun h9 => Or.inl h9) (fun z9 => Or.elim z9 (fun h9 => Or.inr (Or.inl h9)) (fun z9 => Or.elim z9 (fun h9 => Or.inr (Or.inr (Or.inl h9))) (fun z9 => Or.elim z9 (fun h9 => Or.inr (Or.inr (Or.inr (Or.inl h9)))) (fun z9 => Or.elim z9 (fun h9 => Or.inr (Or.inr (Or.inr (Or.inr (Or.inr (Or.inr (Or.inl h9))))))) (fun z9 => Or.elim z9 (fun h9 => Or.inr (Or.inr (Or.inr (Or.inr (Or.inr (Or.inr (Or.inr (Or.inl h9)))))))) (fun z9 => Or.elim z9 (fun h9 => Or.inr (Or.inr (Or.inr (Or.inr (Or.inr (Or.inr (Or.inr (Or.inr (Or.inl h9))))))))) (fun z9 => Or.elim z9 (fun h9 => Or.inr (Or.inr (Or.inr (Or.inr (Or.inr (Or.inr (Or.inr (Or.inr (Or.inr (Or.inl h9)))))))))) (fun z9 => Or.elim z9 (fun h9 => Or.inr (Or.inr (Or.inr (Or.inr (Or.inr (Or.inr (Or.inr (Or.inr (Or.inr (Or.inr (Or.inl h9))))))))))) (fun z9 => Or.elim z9 (fun h9 => Or.inr (Or.inr (Or.inr (Or.inr (Or.inr (Or.inr (Or.inr (Or.inr (Or.inr (Or.inr (Or.inr (Or.inl h9)))))))))))) (fun z9 => Or.elim z9 (fun h9 => Or.inr (Or.inr (Or.inr (Or.inr (Or.inr (Or.inr (Or.inr (Or.inr (Or.inr (Or.inr (Or.inr (Or.inr (Or.inl h9))))))))))))) (fun h9 => Or.inr (Or.inr (Or.inr (Or.inr (Or.inr (Or.inr (Or.inr (Or.inr (Or.inr (Or.inr (Or.inr (Or.inr (Or.inr (h9))))))))))))))))))))))))) z8))).trans ((hg_M_2 a i (fun z8 => q0 ((fun z9 => Or.elim z9 (fun h9 => Or.inl h9) (fun z9 => Or.elim z9 (fun h9 => Or.inr (Or.inl h9)) (fun z9 => Or.elim z9 (fun h9 => Or.inr (Or.inr (Or.inl h9))) (fun z9 => Or.elim z9 (fun h9 => Or.inr (Or.inr (Or.inr (Or.inl h9)))) (fun z9 => Or.elim z9 (fun h9 => Or.inr (Or.inr (Or.inr (Or.inr (Or.inl h9))))) (fun z9 => Or.elim z9 (fun h9 => Or.inr (Or.inr (Or.inr (Or.inr (Or.inr (Or.inl h9)))))) (fun h9 => Or.inr (Or.inr (Or.inr (Or.inr (Or.inr (Or.inr (Or.inl h9))))))))))))) z8))).trans rfl))))
