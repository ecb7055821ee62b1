theorem o_X4_go {b : Nat} (hb : isF b) (M : Mem) (v2 : Int32) (v3 : Int32) : Wp (f_X4_go b M v2 v3) (fun q => (∀ a i, ¬ ((a = 34 ∧ i = 3) ∨ (a = 34 ∧ i = 4) ∨ (a = 34 ∧ i = 5)) → q a i = M a i)) := by
  have hb0 : b = 1 ∨ b = 7 ∨ b = 13 := hb
  refine wp_bnd (fun M_1 eM_1 => ?_)
  refine wp_bnd (fun M_2 eM_2 => ?_)
  refine wp_bnd (fun M_3 eM_3 => ?_)
  refine wp_lp2 (fun M18 y4_18 => (0 ≤ y4_18.toInt) ∧ (∀ a i, ¬ ((a = 34 ∧ i = 3) ∨ (a = 34 ∧ i = 4) ∨ (a = 34 ∧ i = 5)) → M18 a i = M_3 a i)) (fun M18 y4_18 => (60 - y4_18.toInt).toNat) (fun ag18 M18 y4_18 hI18 ih18 => ?_) FU M_3 (nI 0) ⟨(by have f0 := t_lit 0; omega), (fun _ _ _ => rfl)⟩ (fu_lt (by have f0 := t_lit 0; omega))
  obtain ⟨hi18, hf_M18⟩ := hI18
  refine wp_ite (fun c24 => ?_) (fun c24 => ?_)
  · exact wp_some (fun a i q0 => ((hf_M18 a i (fun z8 => q0 ((fun z9 => Or.elim z9 (fun h9 => Or.inl h9) (fun z9 => Or.elim z9 (fun h9 => Or.inr (Or.inl h9)) (fun h9 => Or.inr (Or.inr (h9))))) z8))).trans ((congrFun (congrFun eM_3 a) i).trans ((mset_ne (fun h9 => q0 (Or.inr (Or.inr (h9))))).trans ((congrFun (congrFun eM_2 a) i).trans ((mset_ne (fun h9 => q0 (Or.inr (Or.inl h9)))).trans ((congrFun (congrFun eM_1 a) i).trans ((mset_ne (fun h9 => q0 (Or.inl h9))).trans rfl))))))))
  · refine wp_ite (fun c31 => ?_) (fun c31 => ?_)
    · exact wp_some (fun a i q0 => ((hf_M18 a i (fun z8 => q0 ((fun z9 => Or.elim z9 (fun h9 => Or.inl h9) (fun z9 => Or.elim z9 (fun h9 => Or.inr (Or.inl h9)) (fun h9 => Or.inr (Or.inr (h9))))) z8))).trans ((congrFun (congrFun eM_3 a) i).trans ((mset_ne (fun h9 => q0 (Or.inr (Or.inr (h9))))).trans ((congrFun (congrFun eM_2 a) i).trans ((mset_ne (fun h9 => q0 (Or.inr (Or.inl h9)))).trans ((congrFun (congrFun eM_1 a) i).trans ((mset_ne (fun h9 => q0 (Or.inl h9))).trans rfl))))))))
    · refine wp_ite (fun c40 => ?_) (fun c40 => ?_)
      · exact wp_some (fun a i q0 => ((hf_M18 a i (fun z8 => q0 ((fun z9 => Or.elim z9 (fun h9 => Or.inl h9) (fun z9 => Or.elim z9 (fun h9 => Or.inr (Or.inl h9)) (fun h9 => Or.inr (Or.inr (h9))))) z8))).trans ((congrFun (congrFun eM_3 a) i).trans ((mset_ne (fun h9 => q0 (Or.inr (Or.inr (h9))))).trans ((congrFun (congrFun eM_2 a) i).trans ((mset_ne (fun h9 => q0 (Or.inr (Or.inl h9)))).trans ((congrFun (congrFun eM_1 a) i).trans ((mset_ne (fun h9 => q0 (Or.inl h9))).trans rfl))))))))
      · refine wp_gd (by have f0 := congrArg Int32.toInt (hf_M18 34 2 (by first | decide | (rcases hc0 with h | h <;> rw [h] <;> simp; done) | (rcases hb0 with h | h | h <;> rw [h] <;> simp; done) | (simp; done) | omega)); have f1 := congrArg Int32.toInt ((congrFun (congrFun eM_3 34) 2).trans (mset_ne (by first | exact nz1 (by decide) | exact nz2 (by decide) | exact nz1 (nzA hc0 (by decide)) | exact nz1 (nzE (by decide)) | exact nz1 (nzB hc0 (by decide)) | exact nz1 (nzC hc0 (by decide)) | exact nz1 (nzD hc0 (by decide)) | exact nz1 (nzF (by decide)) | exact nz1 (nzG (by decide)) | omega))); have f2 := congrArg Int32.toInt ((congrFun (congrFun eM_2 34) 2).trans (mset_ne (by first | exact nz1 (by decide) | exact nz2 (by decide) | exact nz1 (nzA hc0 (by decide)) | exact nz1 (nzE (by decide)) | exact nz1 (nzB hc0 (by decide)) | exact nz1 (nzC hc0 (by decide)) | exact nz1 (nzD hc0 (by decide)) | exact nz1 (nzF (by decide)) | exact nz1 (nzG (by decide)) | omega))); have f3 := congrArg Int32.toInt ((congrFun (congrFun eM_1 34) 2).trans (mset_ne (by first | exact nz1 (by decide) | exact nz2 (by decide) | exact nz1 (nzA hc0 (by decide)) | exact nz1 (nzE (by decide)) | exact nz1 (nzB hc0 (by decide)) | exact nz1 (nzC hc0 (by decide)) | exact nz1 (nzD hc0 (by decide)) | exact nz1 (nzF (by decide)) | exact nz1 (nzG (by decide)) | omega))); omega) ?_
        refine wp_bnd (fun x_4 ex_4 => ?_)
        refine wp_gd (by have f0 := congrArg Int32.toInt (hf_M18 34 2 (by first | decide | (rcases hc0 with h | h <;> rw [h] <;> simp; done) | (rcases hb0 with h | h | h <;> rw [h] <;> simp; done) | (simp; done) | omega)); have f1 := congrArg Int32.toInt ((congrFun (congrFun eM_3 34) 2).trans (mset_ne (by first | exact nz1 (by decide) | exact nz2 (by decide) | exact nz1 (nzA hc0 (by decide)) | exact nz1 (nzE (by decide)) | exact nz1 (nzB hc0 (by decide)) | exact nz1 (nzC hc0 (by decide)) | exact nz1 (nzD hc0 (by decide)) | exact nz1 (nzF (by decide)) | exact nz1 (nzG (by decide)) | omega))); have f2 := congrArg Int32.toInt ((congrFun (congrFun eM_2 34) 2).trans (mset_ne (by first | exact nz1 (by decide) | exact nz2 (by decide) | exact nz1 (nzA hc0 (by decide)) | exact nz1 (nzE (by decide)) | exact nz1 (nzB hc0 (by decide)) | exact nz1 (nzC hc0 (by decide)) | exact nz1 (nzD hc0 (by decide)) | exact nz1 (nzF (by decide)) | exact nz1 (nzG (by decide)) | omega))); have f3 := congrArg Int32.toInt ((congrFun (congrFun eM_1 34) 2).trans (mset_ne (by first | exact nz1 (by decide) | exact nz2 (by decide) | exact nz1 (nzA hc0 (by decide)) | exact nz1 (nzE (by decide)) | exact nz1 (nzB hc0 (by decide)) | exact nz1 (nzC hc0 (by decide)) | exact nz1 (nzD hc0 (by decide)) | exact nz1 (nzF (by decide)) | exact nz1 (nzG (by decide)) | omega))); omega) ?_
        refine wp_bnd (fun x_5 ex_5 => ?_)
        refine wp_gd (by have f0 := congrArg Int32.toInt (hf_M18 34 2 (by first | decide | (rcases hc0 with h | h <;> rw [h] <;> simp; done) | (rcases hb0 with h | h | h <;> rw [h] <;> simp; done) | (simp; done) | omega)); have f1 := congrArg Int32.toInt ((congrFun (congrFun eM_3 34) 2).trans (mset_ne (by first | exact nz1 (by decide) | exact nz2 (by decide) | exact nz1 (nzA hc0 (by decide)) | exact nz1 (nzE (by decide)) | exact nz1 (nzB hc0 (by decide)) | exact nz1 (nzC hc0 (by decide)) | exact nz1 (nzD hc0 (by decide)) | exact nz1 (nzF (by decide)) | exact nz1 (nzG (by decide)) | omega))); have f2 := congrArg Int32.toInt ((congrFun (congrFun eM_2 34) 2).trans (mset_ne (by first | exact nz1 (by decide) | exact nz2 (by decide) | exact nz1 (nzA hc0 (by decide)) | exact nz1 (nzE (by decide)) | exact nz1 (nzB hc0 (by decide)) | exact nz1 (nzC hc0 (by decide)) | exact nz1 (nzD hc0 (by decide)) | exact nz1 (nzF (by decide)) | exact nz1 (nzG (by decide)) | omega))); have f3 := congrArg Int32.toInt ((congrFun (congrFun eM_1 34) 2).trans (mset_ne (by first | exact nz1 (by decide) | exact nz2 (by decide) | exact nz1 (nzA hc0 (by decide)) | exact nz1 (nzE (by decide)) | exact nz1 (nzB hc0 (by decide)) | exact nz1 (nzC hc0 (by decide)) | exact nz1 (nzD hc0 (by decide)) | exact nz1 (nzF (by decide)) | exact nz1 (nzG (by decide)) | omega))); omega) ?_
        refine wp_gd (by have f0 := congrArg Int32.toInt (hf_M18 34 2 (by first | decide | (rcases hc0 with h | h <;> rw [h] <;> simp; done) | (rcases hb0 with h | h | h <;> rw [h] <;> simp; done) | (simp; done) | omega)); have f1 := congrArg Int32.toInt ((congrFun (congrFun eM_3 34) 2).trans (mset_ne (by first | exact nz1 (by decide) | exact nz2 (by decide) | exact nz1 (nzA hc0 (by decide)) | exact nz1 (nzE (by decide)) | exact nz1 (nzB hc0 (by decide)) | exact nz1 (nzC hc0 (by decide)) | exact nz1 (nzD hc0 (by decide)) | exact nz1 (nzF (by decide)) | exact nz1 (nzG (by decide)) | omega))); have f2 := congrArg Int32.toInt ((congrFun (congrFun eM_2 34) 2).trans (mset_ne (by first | exact nz1 (by decide) | exact nz2 (by decide) | exact nz1 (nzA hc0 (by decide)) | exact nz1 (nzE (by decide)) | exact nz1 (nzB hc0 (by decide)) | exact nz1 (nzC hc0 (by decide)) | exact nz1 (nzD hc0 (by decide)) | exact nz1 (nzF (by decide)) | exact nz1 (nzG (by decide)) | omega))); have f3 := congrArg Int32.toInt ((congrFun (congrFun eM_1 34) 2).trans (mset_ne (by first | exact nz1 (by decide) | exact nz2 (by decide) | exact nz1 (nzA hc0 (by decide)) | exact nz1 (nzE (by decide)) | exact nz1 (nzB hc0 (by decide)) | exact nz1 (nzC hc0 (by decide)) | exact nz1 (nzD hc0 (by decide)) | exact nz1 (nzF (by decide)) | exact nz1 (nzG (by decide)) | omega))); omega) ?_
        refine wp_gd (by have f0 := congrArg Int32.toInt (hf_M18 34 2 (by first | decide | (rcases hc0 with h | h <;> rw [h] <;> simp; done) | (rcases hb0 with h | h | h <;> rw [h] <;> simp; done) | (simp; done) | omega)); have f1 := congrArg Int32.toInt ((congrFun (congrFun eM_3 34) 2).trans (mset_ne (by first | exact nz1 (by decide) | exact nz2 (by decide) | exact nz1 (nzA hc0 (by decide)) | exact nz1 (nzE (by decide)) | exact nz1 (nzB hc0 (by decide)) | exact nz1 (nzC hc0 (by decide)) | exact nz1 (nzD hc0 (by decide)) | exact nz1 (nzF (by decide)) | exact nz1 (nzG (by decide)) | omega))); have f2 := congrArg Int32.toInt ((congrFun (congrFun eM_2 34) 2).trans (mset_ne (by first | exact nz1 (by decide) | exact nz2 (by decide) | exact nz1 (nzA hc0 (by decide)) | exact nz1 (nzE (by decide)) | exact nz1 (nzB hc0 (by decide)) | exact nz1 (nzC hc0 (by decide)) | exact nz1 (nzD hc0 (by decide)) | exact nz1 (nzF (by decide)) | exact nz1 (nzG (by decide)) | omega))); have f3 := congrArg Int32.toInt ((congrFun (congrFun eM_1 34) 2).trans (mset_ne (by first | exact nz1 (by decide) | exact nz2 (by decide) | exact nz1 (nzA hc0 (by decide)) | exact nz1 (nzE (by decide)) | exact nz1 (nzB hc0 (by decide)) | exact nz1 (nzC hc0 (by decide)) | exact nz1 (nzD hc0 (by decide)) | exact nz1 (nzF (by decide)) | exact nz1 (nzG (by decide)) | omega))); omega) ?_
        refine wp_gd (by have f0 := congrArg Int32.toInt (hf_M18 34 2 (by first | decide | (rcases hc0 with h | h <;> rw [h] <;> simp; done) | (rcases hb0 with h | h | h <;> rw [h] <;> simp; done) | (simp; done) | omega)); have f1 := congrArg Int32.toInt ((congrFun (congrFun eM_3 34) 2).trans (mset_ne (by first | exact nz1 (by decide) | exact nz2 (by decide) | exact nz1 (nzA hc0 (by decide)) | exact nz1 (nzE (by decide)) | exact nz1 (nzB hc0 (by decide)) | exact nz1 (nzC hc0 (by decide)) | exact nz1 (nzD hc0 (by decide)) | exact nz1 (nzF (by decide)) | exact nz1 (nzG (by decide)) | omega))); have f2 := congrArg Int32.toInt ((congrFun (congrFun eM_2 34) 2).trans (mset_ne (by first | exact nz1 (by decide) | exact nz2 (by decide) | exact nz1 (nzA hc0 (by decide)) | exact nz1 (nzE (by decide)) | exact nz1 (nzB hc0 (by decide)) | exact nz1 (nzC hc0 (by decide)) | exact nz1 (nzD hc0 (by decide)) | exact nz1 (nzF (by decide)) | exact nz1 (nzG (by decide)) | omega))); have f3 := congrArg Int32.toInt ((congrFun (congrFun eM_1 34) 2).trans (mset_ne (by first | exact nz1 (by decide) | exact nz2 (by decide) | exact nz1 (nzA hc0 (by decide)) | exact nz1 (nzE (by decide)) | exact nz1 (nzB hc0 (by decide)) | exact nz1 (nzC hc0 (by decide)) | exact nz1 (nzD hc0 (by decide)) | exact nz1 (nzF (by decide)) | exact nz1 (nzG (by decide)) | omega))); omega) ?_
        have j122 : ∀ (t0_122 : Int32), (t0_122 = 0 ∨ t0_122 = 1) → Wp (f_X4_go_L122 b ag18 M18 y4_18 x_4 x_5 t0_122) (fun q => (∀ a i, ¬ ((a = 34 ∧ i = 3) ∨ (a = 34 ∧ i = 4) ∨ (a = 34 ∧ i = 5)) → q a i = M a i)) := by
          intro t0_122 hb_t0_122
          unfold f_X4_go_L122
          refine wp_ite (fun c126 => ?_) (fun c126 => ?_)
          · exact wp_some (fun a i q0 => ((hf_M18 a i (fun z8 => q0 ((fun z9 => Or.elim z9 (fun h9 => Or.inl h9) (fun z9 => Or.elim z9 (fun h9 => Or.inr (Or.inl h9)) (fun h9 => Or.inr (Or.inr (h9))))) z8))).trans ((congrFun (congrFun eM_3 a) i).trans ((mset_ne (fun h9 => q0 (Or.inr (Or.inr (h9))))).trans ((congrFun (congrFun eM_2 a) i).trans ((mset_ne (fun h9 => q0 (Or.inr (Or.inl h9)))).trans ((congrFun (congrFun eM_1 a) i).trans ((mset_ne (fun h9 => q0 (Or.inl h9))).trans rfl))))))))
          · refine wp_bind2 (o_X4_isFooting hb M18 x_4 x_5) (fun r_6 he134 hq134 => ?_)
            have hz_r_6 := hq134
            refine wp_ite (fun c137 => ?_) (fun c137 => ?_)
            · exact wp_some (fun a i q0 => ((hf_M18 a i (fun z8 => q0 ((fun z9 => Or.elim z9 (fun h9 => Or.inl h9) (fun z9 => Or.elim z9 (fun h9 => Or.inr (Or.inl h9)) (fun h9 => Or.inr (Or.inr (h9))))) z8))).trans ((congrFun (congrFun eM_3 a) i).trans ((mset_ne (fun h9 => q0 (Or.inr (Or.inr (h9))))).trans ((congrFun (congrFun eM_2 a) i).trans ((mset_ne (fun h9 => q0 (Or.inr (Or.inl h9)))).trans ((congrFun (congrFun eM_1 a) i).trans ((mset_ne (fun h9 => q0 (Or.inl h9))).trans rfl))))))))
            · refine wp_bnd (fun M_7 eM_7 => ?_)
              refine wp_bnd (fun M_8 eM_8 => ?_)
              refine wp_bnd (fun M_9 eM_9 => ?_)
              exact ih18 M_9 (y4_18 + (nI 1)) ⟨(by have f0 := t_lit 1; have f1 := t_add y4_18 (nI 1); have f2 := congrArg Int32.toInt (hf_M18 34 2 (by first | decide | (rcases hc0 with h | h <;> rw [h] <;> simp; done) | (rcases hb0 with h | h | h <;> rw [h] <;> simp; done) | (simp; done) | omega)); have f3 := congrArg Int32.toInt ((congrFun (congrFun eM_3 34) 2).trans (mset_ne (by first | exact nz1 (by decide) | exact nz2 (by decide) | exact nz1 (nzA hc0 (by decide)) | exact nz1 (nzE (by decide)) | exact nz1 (nzB hc0 (by decide)) | exact nz1 (nzC hc0 (by decide)) | exact nz1 (nzD hc0 (by decide)) | exact nz1 (nzF (by decide)) | exact nz1 (nzG (by decide)) | omega))); have f4 := congrArg Int32.toInt ((congrFun (congrFun eM_2 34) 2).trans (mset_ne (by first | exact nz1 (by decide) | exact nz2 (by decide) | exact nz1 (nzA hc0 (by decide)) | exact nz1 (nzE (by decide)) | exact nz1 (nzB hc0 (by decide)) | exact nz1 (nzC hc0 (by decide)) | exact nz1 (nzD hc0 (by decide)) | exact nz1 (nzF (by decide)) | exact nz1 (nzG (by decide)) | omega))); have f5 := congrArg Int32.toInt ((congrFun (congrFun eM_1 34) 2).trans (mset_ne (by first | exact nz1 (by decide) | exact nz2 (by decide) | exact nz1 (nzA hc0 (by decide)) | exact nz1 (nzE (by decide)) | exact nz1 (nzB hc0 (by decide)) | exact nz1 (nzC hc0 (by decide)) | exact nz1 (nzD hc0 (by decide)) | exact nz1 (nzF (by decide)) | exact nz1 (nzG (by decide)) | omega))); omega), (fun a i q0 => ((congrFun (congrFun eM_9 a) i).trans ((mset_ne (fun h9 => q0 (Or.inl h9))).trans ((congrFun (congrFun eM_8 a) i).trans ((mset_ne (fun h9 => q0 (Or.inr (Or.inr (h9))))).trans ((congrFun (congrFun eM_7 a) i).trans ((mset_ne (fun h9 => q0 (Or.inr (Or.inl h9)))).trans ((hf_M18 a i (fun z8 => q0 ((fun z9 => Or.elim z9 (fun h9 => Or.inl h9) (fun z9 => Or.elim z9 (fun h9 => Or.inr (Or.inl h9)) (fun h9 => Or.inr (Or.inr (h9))))) z8))).trans rfl))))))))⟩ (by have f0 := t_lit 1; have f1 := t_add y4_18 (nI 1); have f2 := congrArg Int32.toInt (hf_M18 34 2 (by first | decide | (rcases hc0 with h | h <;> rw [h] <;> simp; done) | (rcases hb0 with h | h | h <;> rw [h] <;> simp; done) | (simp; done) | omega)); have f3 := congrArg Int32.toInt ((congrFun (congrFun eM_3 34) 2).trans (mset_ne (by first | exact nz1 (by decide) | exact nz2 (by decide) | exact nz1 (nzA hc0 (by decide)) | exact nz1 (nzE (by decide)) | exact nz1 (nzB hc0 (by decide)) | exact nz1 (nzC hc0 (by decide)) | exact nz1 (nzD hc0 (by decide)) | exact nz1 (nzF (by decide)) | exact nz1 (nzG (by decide)) | omega))); have f4 := congrArg Int32.toInt ((congrFun (congrFun eM_2 34) 2).trans (mset_ne (by first | exact nz1 (by decide) | exact nz2 (by decide) | exact nz1 (nzA hc0 (by decide)) | exact nz1 (nzE (by decide)) | exact nz1 (nzB hc0 (by decide)) | exact nz1 (nzC hc0 (by decide)) | exact nz1 (nzD hc0 (by decide)) | exact nz1 (nzF (by decide)) | exact nz1 (nzG (by decide)) | omega))); have f5 := congrArg Int32.toInt ((congrFun (congrFun eM_1 34) 2).trans (mset_ne (by first | exact nz1 (by decide) | exact nz2 (by decide) | exact nz1 (nzA hc0 (by decide)) | exact nz1 (nzE (by decide)) | exact nz1 (nzB hc0 (by decide)) | exact nz1 (nzC hc0 (by decide)) | exact nz1 (nzD hc0 (by decide)) | exact nz1 (nzF (by decide)) | exact nz1 (nzG (by decide)) | omega))); omega)
        refine wp_ite (fun c114 => ?_) (fun c114 => ?_)
        · exact j122 (nI 0) b01_0
        · exact j122 (nI 1) b01_1
theorem o_X4_isHop (M : Mem) (v0 : Int32) : Wp (f_X4_isHop v0) (fun q => (q = 0 ∨ q = 1)) := by
  refine wp_ite (fun c3 => ?_) (fun c3 => ?_)
  · exact wp_some b01_1
  · refine wp_ite (fun c9 => ?_) (fun c9 => ?_)
    · exact wp_some b01_1
    · refine wp_ite (fun c15 => ?_) (fun c15 => ?_)
      · exact wp_some b01_1
      · refine wp_ite (fun c21 => ?_) (fun c21 => ?_)
        · exact wp_some b01_1
        · exact wp_some b01_0
theorem o_X4_repeat (M : Mem) (v1 : Int32) (v2 : Int32) (hs : 0 ≤ (M 34 2).toInt ∧ (M 34 2).toInt ≤ 60) (ht : 1 ≤ v2.toInt ∧ v2.toInt ≤ 8) : Wp (f_X4_repeat M v1 v2) (fun q => (q.1 = 0 ∨ q.1 = 1) ∧ (∀ a i, ¬ ((a = 34 ∧ i = 2) ∨ a = 35 ∨ a = 36) → q.2 a i = M a i) ∧ (0 ≤ (q.2 34 2).toInt ∧ (q.2 34 2).toInt ≤ 60)) := by
  refine wp_bnd (fun x_1 ex_1 => ?_)
  refine wp_bnd (fun x_2 ex_2 => ?_)
  refine wp_ite (fun c18 => ?_) (fun c18 => ?_)
  · exact wp_some ⟨b01_0, (fun _ _ _ => rfl), hs⟩
  · refine wp_ite (fun c22 => ?_) (fun c22 => ?_)
    · exact wp_some ⟨b01_0, (fun _ _ _ => rfl), hs⟩
    · have hv1 := t_rng v1
      have hx1 := t_sub (M 34 2) v1
      have hx1e := congrArg Int32.toInt ex_1
      have hm9 := mul_b (a := x_1) (b := v2) (by omega) (by omega) ht.1 ht.2
      have hx2 := t_add (M 34 2) (x_1 * v2)
      have hx2e := congrArg Int32.toInt ex_2
      have hx2f : (M 34 2).toInt ≤ x_2.toInt := by omega
      refine wp_ite (fun c29 => ?_) (fun c29 => ?_)
      · refine wp_bnd (fun x_3 ex_3 => ?_)
        have ft1 := t_rng x_2
        have hx3e := congrArg Int32.toInt ex_3
        refine wp_lp2 (fun M40 y5_40 => (x_3.toInt ≤ y5_40.toInt) ∧ (∀ a i, ¬ (a = 35 ∨ a = 36) → M40 a i = M a i) ∧ (y5_40.toInt ≤ 60)) (fun M40 y5_40 => (x_2.toInt - y5_40.toInt).toNat) (fun ag40 M40 y5_40 hI40 ih40 => ?_) FU M x_3 ⟨(by have f0 := congrArg Int32.toInt ex_3; omega), (fun _ _ _ => rfl), (by have := congrArg Int32.toInt ex_3; omega)⟩ (fu_lt (by have f0 := congrArg Int32.toInt ex_3; omega))
        obtain ⟨hi40, hf_M40, hy⟩ := hI40
        refine wp_ite (fun c44 => ?_) (fun c44 => ?_)
        · refine wp_bnd (fun M_4 eM_4 => ?_)
          exact wp_some ⟨b01_1, (fun a i q0 => ((congrFun (congrFun eM_4 a) i).trans ((mset_ne (fun h9 => q0 (Or.inl h9))).trans ((hf_M40 a i (fun z8 => q0 ((fun z9 => Or.elim z9 (fun h9 => Or.inr (Or.inl h9)) (fun h9 => Or.inr (Or.inr (h9)))) z8))).trans rfl)))), (by show 0 ≤ (M_4 34 2).toInt ∧ (M_4 34 2).toInt ≤ 60; rw [eM_4, mset_eq]; omega)⟩
        · refine wp_gd (by have f0 := t_sub y5_40 x_1; have f1 := t_sub (M 34 2) v1; have f2 := congrArg Int32.toInt ex_1; have f3 := t_add (M 34 2) (x_1 * v2); have f4 := congrArg Int32.toInt ex_2; omega) ?_
          refine wp_gd (by have f0 := t_add (M 34 2) (x_1 * v2); have f1 := t_sub (M 34 2) v1; have f2 := congrArg Int32.toInt ex_1; have f3 := congrArg Int32.toInt ex_2; omega) ?_
          refine wp_bnd (fun M_5 eM_5 => ?_)
          refine wp_gd (by have f0 := t_sub y5_40 x_1; have f1 := t_sub (M 34 2) v1; have f2 := congrArg Int32.toInt ex_1; have f3 := t_add (M 34 2) (x_1 * v2); have f4 := congrArg Int32.toInt ex_2; omega) ?_
          refine wp_gd (by have f0 := t_add (M 34 2) (x_1 * v2); have f1 := t_sub (M 34 2) v1; have f2 := congrArg Int32.toInt ex_1; have f3 := congrArg Int32.toInt ex_2; omega) ?_
          refine wp_bnd (fun M_6 eM_6 => ?_)
          exact ih40 M_6 (y5_40 + (nI 1)) ⟨(by have f0 := t_lit 1; have f1 := t_add y5_40 (nI 1); have f2 := t_add (M 34 2) (x_1 * v2); have f3 := t_sub (M 34 2) v1; have f4 := congrArg Int32.toInt ex_1; have f5 := congrArg Int32.toInt ex_2; omega), (fun a i q0 => ((congrFun (congrFun eM_6 a) i).trans ((mset_ne (fun h9 => q0 (Or.inr ((h9).1)))).trans ((congrFun (congrFun eM_5 a) i).trans ((mset_ne (fun h9 => q0 (Or.inl (h9).1))).trans ((hf_M40 a i (fun z8 => q0 ((fun z9 => Or.elim z9 (fun h9 => Or.inl h9) (fun h9 => Or.inr (h9))) z8))).trans rfl)))))), (by have f0 := t_lit 1; have f1 := t_add y5_40 (nI 1); have f2 := t_add (M 34 2) (x_1 * v2); have f3 := t_sub (M 34 2) v1; have f4 := congrArg Int32.toInt ex_1; have f5 := congrArg Int32.toInt ex_2; omega)⟩ (by have f0 := t_lit 1; have f1 := t_add y5_40 (nI 1); have f2 := t_add (M 34 2) (x_1 * v2); have f3 := t_sub (M 34 2) v1; have f4 := congrArg Int32.toInt ex_1; have f5 := congrArg Int32.toInt ex_2; omega)
      · exact wp_some ⟨b01_0, (fun _ _ _ => rfl), hs⟩
theorem o_X4_readHops (M : Mem) (hs : 0 ≤ (M 34 2).toInt ∧ (M 34 2).toInt ≤ 60) : Wp (f_X4_readHops M) (fun q => (q.1 = 0 ∨ q.1 = 1) ∧ (∀ a i, ¬ ((a = 19 ∧ i = 3) ∨ (a = 19 ∧ i = 4) ∨ (a = 34 ∧ i = 2) ∨ a = 35 ∨ a = 36) → q.2 a i = M a i) ∧ (0 ≤ (q.2 34 2).toInt ∧ (q.2 34 2).toInt ≤ 60)) := by
  refine wp_bnd (fun x_1 ex_1 => ?_)
  refine wp_lp4 (fun M13 y3_13 y4_13 y5_13 => (0 ≤ y5_13.toInt) ∧ (∀ a i, ¬ ((a = 19 ∧ i = 3) ∨ (a = 19 ∧ i = 4)) → M13 a i = M a i)) (fun M13 y3_13 y4_13 y5_13 => (60 - y5_13.toInt).toNat) (fun ag13 M13 y3_13 y4_13 y5_13 hI13 ih13 => ?_) FU M (nI 0) (nI 0) (nI 0) ⟨(by have f0 := t_lit 0; omega), (fun _ _ _ => rfl)⟩ (fu_lt (by have f0 := t_lit 0; omega))
  obtain ⟨hi13, hf_M13⟩ := hI13
  have j141 : Wp (f_X4_readHops_L141 x_1 M13 y3_13 y4_13) (fun q => (q.1 = 0 ∨ q.1 = 1) ∧ (∀ a i, ¬ ((a = 19 ∧ i = 3) ∨ (a = 19 ∧ i = 4) ∨ (a = 34 ∧ i = 2) ∨ a = 35 ∨ a = 36) → q.2 a i = M a i) ∧ (0 ≤ (q.2 34 2).toInt ∧ (q.2 34 2).toInt ≤ 60)) := by
    unfold f_X4_readHops_L141
    refine wp_ite (fun c146 => ?_) (fun c146 => ?_)
    · refine wp_cb2 (o_X7_refuse M13 (nI 1) x_1) (fun r_7 M_8 he152 hq152 => ?_)
      obtain ⟨hz_r_7, hg_M_8⟩ := hq152
      replace hg_M_8 : ∀ a i, ¬ ((a = 19 ∧ i = 4)) → M_8 a i = M13 a i := hg_M_8
      refine wp_gb hz_r_7 ?_
      exact wp_some ⟨hz_r_7, (fun a i q0 => ((hg_M_8 a i (fun h9 => q0 (Or.inr (Or.inl h9)))).trans ((hf_M13 a i (fun z8 => q0 ((fun z9 => Or.elim z9 (fun h9 => Or.inl h9) (fun h9 => Or.inr (Or.inl h9))) z8))).trans rfl))), (by show 0 ≤ (M_8 34 2).toInt ∧ (M_8 34 2).toInt ≤ 60; have f0 := congrArg Int32.toInt (hg_M_8 34 2 (by first | decide | (rcases hc0 with h | h <;> rw [h] <;> simp; done) | (rcases hb0 with h | h | h <;> rw [h] <;> simp; done) | (simp; done) | omega)); have f1 := congrArg Int32.toInt (hf_M13 34 2 (by first | decide | (rcases hc0 with h | h <;> rw [h] <;> simp; done) | (rcases hb0 with h | h | h <;> rw [h] <;> simp; done) | (simp; done) | omega)); omega)⟩
    · have j172 : Wp (f_X4_readHops_L172 x_1 M13) (fun q => (q.1 = 0 ∨ q.1 = 1) ∧ (∀ a i, ¬ ((a = 19 ∧ i = 3) ∨ (a = 19 ∧ i = 4) ∨ (a = 34 ∧ i = 2) ∨ a = 35 ∨ a = 36) → q.2 a i = M a i) ∧ (0 ≤ (q.2 34 2).toInt ∧ (q.2 34 2).toInt ≤ 60)) := by
        unfold f_X4_readHops_L172
        refine wp_cb2 (o_X7_refuse M13 (nI 6) x_1) (fun r_2 M_3 he176 hq176 => ?_)
        obtain ⟨hz_r_2, hg_M_3⟩ := hq176
        replace hg_M_3 : ∀ a i, ¬ ((a = 19 ∧ i = 4)) → M_3 a i = M13 a i := hg_M_3
        refine wp_gb hz_r_2 ?_
        exact wp_some ⟨hz_r_2, (fun a i q0 => ((hg_M_3 a i (fun h9 => q0 (Or.inr (Or.inl h9)))).trans ((hf_M13 a i (fun z8 => q0 ((fun z9 => Or.elim z9 (fun h9 => Or.inl h9) (fun h9 => Or.inr (Or.inl h9))) z8))).trans rfl))), (by show 0 ≤ (M_3 34 2).toInt ∧ (M_3 34 2).toInt ≤ 60; have f0 := congrArg Int32.toInt (hg_M_3 34 2 (by first | decide | (rcases hc0 with h | h <;> rw [h] <;> simp; done) | (rcases hb0 with h | h | h <;> rw [h] <;> simp; done) | (simp; done) | omega)); have f1 := congrArg Int32.toInt (hf_M13 34 2 (by first | decide | (rcases hc0 with h | h <;> rw [h] <;> simp; done) | (rcases hb0 with h | h | h <;> rw [h] <;> simp; done) | (simp; done) | omega)); omega)⟩
      refine wp_ite (fun c160 => ?_) (fun c160 => ?_)
      · exact j172
      · refine wp_ite (fun c169 => ?_) (fun c169 => ?_)
        · refine wp_gd (by have f0 := congrArg Int32.toInt (hf_M13 34 2 (by first | decide | (rcases hc0 with h | h <;> rw [h] <;> simp; done) | (rcases hb0 with h | h | h <;> rw [h] <;> simp; done) | (simp; done) | omega)); have f1 := congrArg Int32.toInt ex_1; omega) ?_
          refine wp_bnd (fun M_4 eM_4 => ?_)
          refine wp_gd (by have f0 := congrArg Int32.toInt ((congrFun (congrFun eM_4 34) 2).trans (mset_ne (by first | exact nz1 (by decide) | exact nz2 (by decide) | exact nz1 (nzA hc0 (by decide)) | exact nz1 (nzE (by decide)) | exact nz1 (nzB hc0 (by decide)) | exact nz1 (nzC hc0 (by decide)) | exact nz1 (nzD hc0 (by decide)) | exact nz1 (nzF (by decide)) | exact nz1 (nzG (by decide)) | omega))); have f1 := congrArg Int32.toInt (hf_M13 34 2 (by first | decide | (rcases hc0 with h | h <;> rw [h] <;> simp; done) | (rcases hb0 with h | h | h <;> rw [h] <;> simp; done) | (simp; done) | omega)); omega) ?_
          refine wp_bnd (fun M_5 eM_5 => ?_)
          refine wp_bnd (fun M_6 eM_6 => ?_)
          exact wp_some ⟨b01_1, (fun a i q0 => ((congrFun (congrFun eM_6 a) i).trans ((mset_ne (fun h9 => q0 (Or.inr (Or.inr (Or.inl h9))))).trans ((congrFun (congrFun eM_5 a) i).trans ((mset_ne (fun h9 => q0 (Or.inr (Or.inr (Or.inr (Or.inr ((h9).1))))))).trans ((congrFun (congrFun eM_4 a) i).trans ((mset_ne (fun h9 => q0 (Or.inr (Or.inr (Or.inr (Or.inl (h9).1)))))).trans ((hf_M13 a i (fun z8 => q0 ((fun z9 => Or.elim z9 (fun h9 => Or.inl h9) (fun h9 => Or.inr (Or.inl h9))) z8))).trans rfl)))))))), (by show 0 ≤ (M_6 34 2).toInt ∧ (M_6 34 2).toInt ≤ 60; have f0 := congrArg Int32.toInt ((congrFun (congrFun eM_6 34) 2).trans mset_eq); have f1 := t_lit 1; have f2 := t_add (M_5 34 2) (nI 1); have f3 := congrArg Int32.toInt ((congrFun (congrFun eM_5 34) 2).trans (mset_ne (by first | exact nz1 (by decide) | exact nz2 (by decide) | exact nz1 (nzA hc0 (by decide)) | exact nz1 (nzE (by decide)) | exact nz1 (nzB hc0 (by decide)) | exact nz1 (nzC hc0 (by decide)) | exact nz1 (nzD hc0 (by decide)) | exact nz1 (nzF (by decide)) | exact nz1 (nzG (by decide)) | omega))); have f4 := congrArg Int32.toInt ((congrFun (congrFun eM_4 34) 2).trans (mset_ne (by first | exact nz1 (by decide) | exact nz2 (by decide) | exact nz1 (nzA hc0 (by decide)) | exact nz1 (nzE (by decide)) | exact nz1 (nzB hc0 (by decide)) | exact nz1 (nzC hc0 (by decide)) | exact nz1 (nzD hc0 (by decide)) | exact nz1 (nzF (by decide)) | exact nz1 (nzG (by decide)) | omega))); have f5 := congrArg Int32.toInt (hf_M13 34 2 (by first | decide | (rcases hc0 with h | h <;> rw [h] <;> simp; done) | (rcases hb0 with h | h | h <;> rw [h] <;> simp; done) | (simp; done) | omega)); omega)⟩
        · exact j172
  refine wp_ite (fun c17 => ?_) (fun c17 => ?_)
  · exact j141
  · refine wp_bind2 (o_X7_here M13) (fun r_9 he21 hq21 => ?_)
    refine wp_bind2 (o_X4_isHop M13 r_9) (fun r_10 he24 hq24 => ?_)
    have hz_r_10 := hq24
    refine wp_ite (fun c27 => ?_) (fun c27 => ?_)
    · exact j141
    · refine wp_bind2 (o_X7_here M13) (fun r_11 he31 hq31 => ?_)
      refine wp_bnd (fun M_12 eM_12 => ?_)
      refine wp_bind2 (o_X7_here M_12) (fun r_13 he47 hq47 => ?_)
      refine wp_bind2 (o_X7_isDigit M_12 r_13) (fun r_14 he50 hq50 => ?_)
      have hz_r_14 := hq50
      have j65 : ∀ (N65 : Mem), ∀ (t0_65 : Int32), (∀ a i, ¬ ((a = 19 ∧ i = 3) ∨ (a = 19 ∧ i = 4)) → N65 a i = M_12 a i) → Wp (f_X4_readHops_L65 ag13 y3_13 y4_13 y5_13 r_11 N65 t0_65) (fun q => (q.1 = 0 ∨ q.1 = 1) ∧ (∀ a i, ¬ ((a = 19 ∧ i = 3) ∨ (a = 19 ∧ i = 4) ∨ (a = 34 ∧ i = 2) ∨ a = 35 ∨ a = 36) → q.2 a i = M a i) ∧ (0 ≤ (q.2 34 2).toInt ∧ (q.2 34 2).toInt ≤ 60)) := by
        intro N65 t0_65 hf_N65
        unfold f_X4_readHops_L65
        refine wp_ite (fun c70 => ?_) (fun c70 => ?_)
        · exact wp_some ⟨b01_0, (fun a i q0 => ((hf_N65 a i (fun z8 => q0 ((fun z9 => Or.elim z9 (fun h9 => Or.inl h9) (fun h9 => Or.inr (Or.inl h9))) z8))).trans ((congrFun (congrFun eM_12 a) i).trans ((mset_ne (fun h9 => q0 (Or.inl h9))).trans ((hf_M13 a i (fun z8 => q0 ((fun z9 => Or.elim z9 (fun h9 => Or.inl h9) (fun h9 => Or.inr (Or.inl h9))) z8))).trans rfl))))), (by show 0 ≤ (N65 34 2).toInt ∧ (N65 34 2).toInt ≤ 60; have f0 := congrArg Int32.toInt (hf_N65 34 2 (by first | decide | (rcases hc0 with h | h <;> rw [h] <;> simp; done) | (rcases hb0 with h | h | h <;> rw [h] <;> simp; done) | (simp; done) | omega)); have f1 := congrArg Int32.toInt ((congrFun (congrFun eM_12 34) 2).trans (mset_ne (by first | exact nz1 (by decide) | exact nz2 (by decide) | exact nz1 (nzA hc0 (by decide)) | exact nz1 (nzE (by decide)) | exact nz1 (nzB hc0 (by decide)) | exact nz1 (nzC hc0 (by decide)) | exact nz1 (nzD hc0 (by decide)) | exact nz1 (nzF (by decide)) | exact nz1 (nzG (by decide)) | omega))); have f2 := congrArg Int32.toInt (hf_M13 34 2 (by first | decide | (rcases hc0 with h | h <;> rw [h] <;> simp; done) | (rcases hb0 with h | h | h <;> rw [h] <;> simp; done) | (simp; done) | omega)); have f3 := t_lit 0; omega)⟩
        · have j102 : ∀ (t0_102 : Int32), Wp (f_X4_readHops_L102 ag13 y3_13 y4_13 y5_13 r_11 N65 t0_65 t0_102) (fun q => (q.1 = 0 ∨ q.1 = 1) ∧ (∀ a i, ¬ ((a = 19 ∧ i = 3) ∨ (a = 19 ∧ i = 4) ∨ (a = 34 ∧ i = 2) ∨ a = 35 ∨ a = 36) → q.2 a i = M a i) ∧ (0 ≤ (q.2 34 2).toInt ∧ (q.2 34 2).toInt ≤ 60)) := by
            intro t0_102
            unfold f_X4_readHops_L102
            refine wp_bnd (fun x_15 ex_15 => ?_)
            refine wp_ite (fun c110 => ?_) (fun c110 => ?_)
            · refine wp_bnd (fun x_17 ex_17 => ?_)
              exact ih13 N65 x_15 x_17 (y5_13 + (nI 1)) ⟨(by have f0 := t_lit 1; have f1 := t_add y5_13 (nI 1); omega), (fun a i q0 => ((hf_N65 a i (fun z8 => q0 ((fun z9 => Or.elim z9 (fun h9 => Or.inl h9) (fun h9 => Or.inr (h9))) z8))).trans ((congrFun (congrFun eM_12 a) i).trans ((mset_ne (fun h9 => q0 (Or.inl h9))).trans ((hf_M13 a i (fun z8 => q0 ((fun z9 => Or.elim z9 (fun h9 => Or.inl h9) (fun h9 => Or.inr (h9))) z8))).trans rfl)))))⟩ (by have f0 := t_lit 1; have f1 := t_add y5_13 (nI 1); omega)
            · refine wp_ite (fun c122 => ?_) (fun c122 => ?_)
              · refine wp_bnd (fun x_16 ex_16 => ?_)
                exact ih13 N65 x_15 x_16 (y5_13 + (nI 1)) ⟨(by have f0 := t_lit 1; have f1 := t_add y5_13 (nI 1); omega), (fun a i q0 => ((hf_N65 a i (fun z8 => q0 ((fun z9 => Or.elim z9 (fun h9 => Or.inl h9) (fun h9 => Or.inr (h9))) z8))).trans ((congrFun (congrFun eM_12 a) i).trans ((mset_ne (fun h9 => q0 (Or.inl h9))).trans ((hf_M13 a i (fun z8 => q0 ((fun z9 => Or.elim z9 (fun h9 => Or.inl h9) (fun h9 => Or.inr (h9))) z8))).trans rfl)))))⟩ (by have f0 := t_lit 1; have f1 := t_add y5_13 (nI 1); omega)
              · exact ih13 N65 x_15 (y4_13 + (nI 0)) (y5_13 + (nI 1)) ⟨(by have f0 := t_lit 1; have f1 := t_add y5_13 (nI 1); omega), (fun a i q0 => ((hf_N65 a i (fun z8 => q0 ((fun z9 => Or.elim z9 (fun h9 => Or.inl h9) (fun h9 => Or.inr (h9))) z8))).trans ((congrFun (congrFun eM_12 a) i).trans ((mset_ne (fun h9 => q0 (Or.inl h9))).trans ((hf_M13 a i (fun z8 => q0 ((fun z9 => Or.elim z9 (fun h9 => Or.inl h9) (fun h9 => Or.inr (h9))) z8))).trans rfl)))))⟩ (by have f0 := t_lit 1; have f1 := t_add y5_13 (nI 1); omega)
          refine wp_ite (fun c80 => ?_) (fun c80 => ?_)
          · exact j102 t0_65
          · refine wp_ite (fun c92 => ?_) (fun c92 => ?_)
            · exact j102 (-t0_65)
            · exact j102 (nI 0)
      refine wp_ite (fun c53 => ?_) (fun c53 => ?_)
      · exact j65 M_12 (nI 1) (fun _ _ _ => rfl)
      · refine wp_cb2 (o_X7_number M_12 (nI 2)) (fun r_18 M_19 he58 hq58 => ?_)
        have hg_M_19 := hq58
        replace hg_M_19 : ∀ a i, ¬ ((a = 19 ∧ i = 3) ∨ (a = 19 ∧ i = 4)) → M_19 a i = M_12 a i := hg_M_19
        exact j65 M_19 r_18 (fun a i q0 => ((hg_M_19 a i (fun z8 => q0 ((fun z9 => Or.elim z9 (fun h9 => Or.inl h9) (fun h9 => Or.inr (h9))) z8))).trans rfl))
theorem o_X4_readSteps {KS : Int} {S_X4_readRound : Mem → Int32 → Option (Int32 × Mem)} (hS_X4_readRound : ∀ (M : Mem) (v2 : Int32) (ho : KS ≤ v2.toInt ∧ v2.toInt ≤ 2) (hs : 0 ≤ (M 34 2).toInt ∧ (M 34 2).toInt ≤ 60), Wp (S_X4_readRound M v2) (fun q => (q.1 = 0 ∨ q.1 = 1) ∧ (∀ a i, ¬ ((a = 19 ∧ i = 3) ∨ (a = 19 ∧ i = 4) ∨ (a = 34 ∧ i = 2) ∨ a = 35 ∨ a = 36) → q.2 a i = M a i) ∧ (0 ≤ (q.2 34 2).toInt ∧ (q.2 34 2).toInt ≤ 60))) (M : Mem) (v2 : Int32) (ho : KS ≤ v2.toInt ∧ v2.toInt ≤ 2) (hs : 0 ≤ (M 34 2).toInt ∧ (M 34 2).toInt ≤ 60) : Wp (f_X4_readSteps S_X4_readRound M v2) (fun q => (q.1 = 0 ∨ q.1 = 1) ∧ (∀ a i, ¬ ((a = 19 ∧ i = 3) ∨ (a = 19 ∧ i = 4) ∨ (a = 34 ∧ i = 2) ∨ a = 35 ∨ a = 36) → q.2 a i = M a i) ∧ (0 ≤ (q.2 34 2).toInt ∧ (q.2 34 2).toInt ≤ 60)) := by
  refine wp_lp2 (fun M2 y3_2 => (0 ≤ y3_2.toInt) ∧ (∀ a i, ¬ ((a = 19 ∧ i = 3) ∨ (a = 19 ∧ i = 4) ∨ (a = 34 ∧ i = 2) ∨ a = 35 ∨ a = 36) → M2 a i = M a i) ∧ (0 ≤ (M2 34 2).toInt ∧ (M2 34 2).toInt ≤ 60)) (fun M2 y3_2 => (60 - y3_2.toInt).toNat) (fun ag2 M2 y3_2 hI2 ih2 => ?_) FU M (nI 0) ⟨(by have f0 := t_lit 0; omega), (fun _ _ _ => rfl), hs⟩ (fu_lt (by have f0 := t_lit 0; omega))
  obtain ⟨hi2, hf_M2, hs2⟩ := hI2
  have j67 : Wp (f_X4_readSteps_L67 M2) (fun q => (q.1 = 0 ∨ q.1 = 1) ∧ (∀ a i, ¬ ((a = 19 ∧ i = 3) ∨ (a = 19 ∧ i = 4) ∨ (a = 34 ∧ i = 2) ∨ a = 35 ∨ a = 36) → q.2 a i = M a i) ∧ (0 ≤ (q.2 34 2).toInt ∧ (q.2 34 2).toInt ≤ 60)) := by
    unfold f_X4_readSteps_L67
    refine wp_cb2 (o_X7_refuse M2 (nI 1) (M2 19 3)) (fun r_1 M_2 he73 hq73 => ?_)
    obtain ⟨hz_r_1, hg_M_2⟩ := hq73
    replace hg_M_2 : ∀ a i, ¬ ((a = 19 ∧ i = 4)) → M_2 a i = M2 a i := hg_M_2
    refine wp_gb hz_r_1 ?_
    exact wp_some ⟨hz_r_1, (fun a i q0 => ((hg_M_2 a i (fun h9 => q0 (Or.inr (Or.inl h9)))).trans ((hf_M2 a i (fun z8 => q0 ((fun z9 => Or.elim z9 (fun h9 => Or.inl h9) (fun z9 => Or.elim z9 (fun h9 => Or.inr (Or.inl h9)) (fun z9 => Or.elim z9 (fun h9 => Or.inr (Or.inr (Or.inl h9))) (fun z9 => Or.elim z9 (fun h9 => Or.inr (Or.inr (Or.inr (Or.inl h9)))) (fun h9 => Or.inr (Or.inr (Or.inr (Or.inr (h9))))))))) z8))).trans rfl))), (by show 0 ≤ (M_2 34 2).toInt ∧ (M_2 34 2).toInt ≤ 60; have f0 := congrArg Int32.toInt (hg_M_2 34 2 (by first | decide | (rcases hc0 with h | h <;> rw [h] <;> simp; done) | (rcases hb0 with h | h | h <;> rw [h] <;> simp; done) | (simp; done) | omega)); omega)⟩
  refine wp_ite (fun c5 => ?_) (fun c5 => ?_)
  · exact j67
  · refine wp_bind2 (o_X7_here M2) (fun r_3 he9 hq9 => ?_)
    have j31 : ∀ (N31 : Mem), ∀ (t0_31 : Int32), (∀ a i, ¬ ((a = 19 ∧ i = 3) ∨ (a = 19 ∧ i = 4) ∨ (a = 34 ∧ i = 2) ∨ a = 35 ∨ a = 36) → N31 a i = M2 a i) → (0 ≤ (N31 34 2).toInt ∧ (N31 34 2).toInt ≤ 60) → Wp (f_X4_readSteps_L31 ag2 y3_2 N31 t0_31) (fun q => (q.1 = 0 ∨ q.1 = 1) ∧ (∀ a i, ¬ ((a = 19 ∧ i = 3) ∨ (a = 19 ∧ i = 4) ∨ (a = 34 ∧ i = 2) ∨ a = 35 ∨ a = 36) → q.2 a i = M a i) ∧ (0 ≤ (q.2 34 2).toInt ∧ (q.2 34 2).toInt ≤ 60)) := by
      intro N31 t0_31 hf_N31 hs31
      unfold f_X4_readSteps_L31
      refine wp_ite (fun c35 => ?_) (fun c35 => ?_)
      · exact wp_some ⟨b01_0, (fun a i q0 => ((hf_N31 a i (fun z8 => q0 ((fun z9 => Or.elim z9 (fun h9 => Or.inl h9) (fun z9 => Or.elim z9 (fun h9 => Or.inr (Or.inl h9)) (fun z9 => Or.elim z9 (fun h9 => Or.inr (Or.inr (Or.inl h9))) (fun z9 => Or.elim z9 (fun h9 => Or.inr (Or.inr (Or.inr (Or.inl h9)))) (fun h9 => Or.inr (Or.inr (Or.inr (Or.inr (h9))))))))) z8))).trans ((hf_M2 a i (fun z8 => q0 ((fun z9 => Or.elim z9 (fun h9 => Or.inl h9) (fun z9 => Or.elim z9 (fun h9 => Or.inr (Or.inl h9)) (fun z9 => Or.elim z9 (fun h9 => Or.inr (Or.inr (Or.inl h9))) (fun z9 => Or.elim z9 (fun h9 => Or.inr (Or.inr (Or.inr (Or.inl h9)))) (fun h9 => Or.inr (Or.inr (Or.inr (Or.inr (h9))))))))) z8))).trans rfl))), (by show 0 ≤ (N31 34 2).toInt ∧ (N31 34 2).toInt ≤ 60; have f0 := t_lit 0; omega)⟩
      · refine wp_bind2 (o_X7_here N31) (fun r_4 he41 hq41 => ?_)
        refine wp_ite (fun c46 => ?_) (fun c46 => ?_)
        · refine wp_bnd (fun M_5 eM_5 => ?_)
          exact ih2 M_5 (y3_2 + (nI 1)) ⟨(by have f0 := t_lit 1; have f1 := t_add y3_2 (nI 1); omega), (fun a i q0 => ((congrFun (congrFun eM_5 a) i).trans ((mset_ne (fun h9 => q0 (Or.inl h9))).trans ((hf_N31 a i (fun z8 => q0 ((fun z9 => Or.elim z9 (fun h9 => Or.inl h9) (fun z9 => Or.elim z9 (fun h9 => Or.inr (Or.inl h9)) (fun z9 => Or.elim z9 (fun h9 => Or.inr (Or.inr (Or.inl h9))) (fun z9 => Or.elim z9 (fun h9 => Or.inr (Or.inr (Or.inr (Or.inl h9)))) (fun h9 => Or.inr (Or.inr (Or.inr (Or.inr (h9))))))))) z8))).trans ((hf_M2 a i (fun z8 => q0 ((fun z9 => Or.elim z9 (fun h9 => Or.inl h9) (fun z9 => Or.elim z9 (fun h9 => Or.inr (Or.inl h9)) (fun z9 => Or.elim z9 (fun h9 => Or.inr (Or.inr (Or.inl h9))) (fun z9 => Or.elim z9 (fun h9 => Or.inr (Or.inr (Or.inr (Or.inl h9)))) (fun h9 => Or.inr (Or.inr (Or.inr (Or.inr (h9))))))))) z8))).trans rfl))))), (by have f0 := congrArg Int32.toInt ((congrFun (congrFun eM_5 34) 2).trans (mset_ne (by first | exact nz1 (by decide) | exact nz2 (by decide) | exact nz1 (nzA hc0 (by decide)) | exact nz1 (nzE (by decide)) | exact nz1 (nzB hc0 (by decide)) | exact nz1 (nzC hc0 (by decide)) | exact nz1 (nzD hc0 (by decide)) | exact nz1 (nzF (by decide)) | exact nz1 (nzG (by decide)) | omega))); omega)⟩ (by have f0 := t_lit 1; have f1 := t_add y3_2 (nI 1); omega)
        · exact wp_some ⟨b01_1, (fun a i q0 => ((hf_N31 a i (fun z8 => q0 ((fun z9 => Or.elim z9 (fun h9 => Or.inl h9) (fun z9 => Or.elim z9 (fun h9 => Or.inr (Or.inl h9)) (fun z9 => Or.elim z9 (fun h9 => Or.inr (Or.inr (Or.inl h9))) (fun z9 => Or.elim z9 (fun h9 => Or.inr (Or.inr (Or.inr (Or.inl h9)))) (fun h9 => Or.inr (Or.inr (Or.inr (Or.inr (h9))))))))) z8))).trans ((hf_M2 a i (fun z8 => q0 ((fun z9 => Or.elim z9 (fun h9 => Or.inl h9) (fun z9 => Or.elim z9 (fun h9 => Or.inr (Or.inl h9)) (fun z9 => Or.elim z9 (fun h9 => Or.inr (Or.inr (Or.inl h9))) (fun z9 => Or.elim z9 (fun h9 => Or.inr (Or.inr (Or.inr (Or.inl h9)))) (fun h9 => Or.inr (Or.inr (Or.inr (Or.inr (h9))))))))) z8))).trans rfl))), (by show 0 ≤ (N31 34 2).toInt ∧ (N31 34 2).toInt ≤ 60; have f0 := t_lit 1; omega)⟩
    refine wp_ite (fun c14 => ?_) (fun c14 => ?_)
    · refine wp_cb2 (hS_X4_readRound M2 v2 (by omega) (by omega)) (fun r_8 M_9 he20 hq20 => ?_)
      obtain ⟨hz_r_8, hg_M_9, hs_20⟩ := hq20
      replace hs_20 : 0 ≤ (M_9 34 2).toInt ∧ (M_9 34 2).toInt ≤ 60 := hs_20
      replace hg_M_9 : ∀ a i, ¬ ((a = 19 ∧ i = 3) ∨ (a = 19 ∧ i = 4) ∨ (a = 34 ∧ i = 2) ∨ a = 35 ∨ a = 36) → M_9 a i = M2 a i := hg_M_9
      exact j31 M_9 r_8 (fun a i q0 => ((hg_M_9 a i (fun z8 => q0 ((fun z9 => Or.elim z9 (fun h9 => Or.inl h9) (fun z9 => Or.elim z9 (fun h9 => Or.inr (Or.inl h9)) (fun z9 => Or.elim z9 (fun h9 => Or.inr (Or.inr (Or.inl h9))) (fun z9 => Or.elim z9 (fun h9 => Or.inr (Or.inr (Or.inr (Or.inl h9)))) (fun h9 => Or.inr (Or.inr (Or.inr (Or.inr (h9))))))))) z8))).trans rfl)) (by omega)
    · refine wp_cb2 (o_X4_readHops M2 (by omega)) (fun r_6 M_7 he28 hq28 => ?_)
      obtain ⟨hz_r_6, hg_M_7, hs_28⟩ := hq28
      replace hs_28 : 0 ≤ (M_7 34 2).toInt ∧ (M_7 34 2).toInt ≤ 60 := hs_28
      replace hg_M_7 : ∀ a i, ¬ ((a = 19 ∧ i = 3) ∨ (a = 19 ∧ i = 4) ∨ (a = 34 ∧ i = 2) ∨ a = 35 ∨ a = 36) → M_7 a i = M2 a i := hg_M_7
      exact j31 M_7 r_6 (fun a i q0 => ((hg_M_7 a i (fun z8 => q0 ((fun z9 => Or.elim z9 (fun h9 => Or.inl h9) (fun z9 => Or.elim z9 (fun h9 => Or.inr (Or.inl h9)) (fun z9 => Or.elim z9 (fun h9 => Or.inr (Or.inr (Or.inl h9))) (fun z9 => Or.elim z9 (fun h9 => Or.inr (Or.inr (Or.inr (Or.inl h9)))) (fun h9 => Or.inr (Or.inr (Or.inr (Or.inr (h9))))))))) z8))).trans rfl)) (by omega)
theorem o_X4_readRound {KS : Int} {S_X4_readSteps : Mem → Int32 → Option (Int32 × Mem)} (hS_X4_readSteps : ∀ (M : Mem) (v2 : Int32) (ho : KS ≤ v2.toInt ∧ v2.toInt ≤ 2) (hs : 0 ≤ (M 34 2).toInt ∧ (M 34 2).toInt ≤ 60), Wp (S_X4_readSteps M v2) (fun q => (q.1 = 0 ∨ q.1 = 1) ∧ (∀ a i, ¬ ((a = 19 ∧ i = 3) ∨ (a = 19 ∧ i = 4) ∨ (a = 34 ∧ i = 2) ∨ a = 35 ∨ a = 36) → q.2 a i = M a i) ∧ (0 ≤ (q.2 34 2).toInt ∧ (q.2 34 2).toInt ≤ 60))) (M : Mem) (v2 : Int32) (ho : KS ≤ v2.toInt + 1 ∧ 0 ≤ v2.toInt ∧ v2.toInt ≤ 2) (hs : 0 ≤ (M 34 2).toInt ∧ (M 34 2).toInt ≤ 60) : Wp (f_X4_readRound S_X4_readSteps M v2) (fun q => (q.1 = 0 ∨ q.1 = 1) ∧ (∀ a i, ¬ ((a = 19 ∧ i = 3) ∨ (a = 19 ∧ i = 4) ∨ (a = 34 ∧ i = 2) ∨ a = 35 ∨ a = 36) → q.2 a i = M a i) ∧ (0 ≤ (q.2 34 2).toInt ∧ (q.2 34 2).toInt ≤ 60)) := by
  refine wp_bnd (fun x_1 ex_1 => ?_)
  refine wp_bnd (fun x_2 ex_2 => ?_)
  refine wp_ite (fun c13 => ?_) (fun c13 => ?_)
  · refine wp_bnd (fun M_3 eM_3 => ?_)
    refine wp_cb2 (hS_X4_readSteps M_3 (v2 + (nI 1)) (by have f0 := t_lit 1; have f1 := t_add v2 (nI 1); omega) (by have f0 := congrArg Int32.toInt ((congrFun (congrFun eM_3 34) 2).trans (mset_ne (by first | exact nz1 (by decide) | exact nz2 (by decide) | exact nz1 (nzA hc0 (by decide)) | exact nz1 (nzE (by decide)) | exact nz1 (nzB hc0 (by decide)) | exact nz1 (nzC hc0 (by decide)) | exact nz1 (nzD hc0 (by decide)) | exact nz1 (nzF (by decide)) | exact nz1 (nzG (by decide)) | omega))); have f1 := t_lit 1; have f2 := t_add v2 (nI 1); omega)) (fun r_4 M_5 he38 hq38 => ?_)
    obtain ⟨hz_r_4, hg_M_5, hs_38⟩ := hq38
    replace hs_38 : 0 ≤ (M_5 34 2).toInt ∧ (M_5 34 2).toInt ≤ 60 := hs_38
    replace hg_M_5 : ∀ a i, ¬ ((a = 19 ∧ i = 3) ∨ (a = 19 ∧ i = 4) ∨ (a = 34 ∧ i = 2) ∨ a = 35 ∨ a = 36) → M_5 a i = M_3 a i := hg_M_5
    refine wp_ite (fun c41 => ?_) (fun c41 => ?_)
    · exact wp_some ⟨b01_0, (fun a i q0 => ((hg_M_5 a i (fun z8 => q0 ((fun z9 => Or.elim z9 (fun h9 => Or.inl h9) (fun z9 => Or.elim z9 (fun h9 => Or.inr (Or.inl h9)) (fun z9 => Or.elim z9 (fun h9 => Or.inr (Or.inr (Or.inl h9))) (fun z9 => Or.elim z9 (fun h9 => Or.inr (Or.inr (Or.inr (Or.inl h9)))) (fun h9 => Or.inr (Or.inr (Or.inr (Or.inr (h9))))))))) z8))).trans ((congrFun (congrFun eM_3 a) i).trans ((mset_ne (fun h9 => q0 (Or.inl h9))).trans rfl)))), (by show 0 ≤ (M_5 34 2).toInt ∧ (M_5 34 2).toInt ≤ 60; have f0 := t_lit 0; omega)⟩
    · refine wp_cb2 (o_X7_skip M_5 (nI 41)) (fun r_6 M_7 he47 hq47 => ?_)
      obtain ⟨hz_r_6, hg_M_7⟩ := hq47
      replace hg_M_7 : ∀ a i, ¬ ((a = 19 ∧ i = 3) ∨ (a = 19 ∧ i = 4)) → M_7 a i = M_5 a i := hg_M_7
      refine wp_ite (fun c50 => ?_) (fun c50 => ?_)
      · exact wp_some ⟨b01_0, (fun a i q0 => ((hg_M_7 a i (fun z8 => q0 ((fun z9 => Or.elim z9 (fun h9 => Or.inl h9) (fun h9 => Or.inr (Or.inl h9))) z8))).trans ((hg_M_5 a i (fun z8 => q0 ((fun z9 => Or.elim z9 (fun h9 => Or.inl h9) (fun z9 => Or.elim z9 (fun h9 => Or.inr (Or.inl h9)) (fun z9 => Or.elim z9 (fun h9 => Or.inr (Or.inr (Or.inl h9))) (fun z9 => Or.elim z9 (fun h9 => Or.inr (Or.inr (Or.inr (Or.inl h9)))) (fun h9 => Or.inr (Or.inr (Or.inr (Or.inr (h9))))))))) z8))).trans ((congrFun (congrFun eM_3 a) i).trans ((mset_ne (fun h9 => q0 (Or.inl h9))).trans rfl))))), (by show 0 ≤ (M_7 34 2).toInt ∧ (M_7 34 2).toInt ≤ 60; have f0 := congrArg Int32.toInt (hg_M_7 34 2 (by first | decide | (rcases hc0 with h | h <;> rw [h] <;> simp; done) | (rcases hb0 with h | h | h <;> rw [h] <;> simp; done) | (simp; done) | omega)); have f1 := t_lit 0; omega)⟩
      · refine wp_bind2 (o_X7_here M_7) (fun r_8 he56 hq56 => ?_)
        refine wp_ite (fun c61 => ?_) (fun c61 => ?_)
        · refine wp_bnd (fun M_9 eM_9 => ?_)
          refine wp_bind2 (o_X7_here M_9) (fun r_10 he77 hq77 => ?_)
          have j96 : Wp (f_X4_readRound_L96 M_9) (fun q => (q.1 = 0 ∨ q.1 = 1) ∧ (∀ a i, ¬ ((a = 19 ∧ i = 3) ∨ (a = 19 ∧ i = 4) ∨ (a = 34 ∧ i = 2) ∨ a = 35 ∨ a = 36) → q.2 a i = M a i) ∧ (0 ≤ (q.2 34 2).toInt ∧ (q.2 34 2).toInt ≤ 60)) := by
            unfold f_X4_readRound_L96
            refine wp_cb2 (o_X7_refuse M_9 (nI 1) (M_9 19 3)) (fun r_11 M_12 he102 hq102 => ?_)
            obtain ⟨hz_r_11, hg_M_12⟩ := hq102
            replace hg_M_12 : ∀ a i, ¬ ((a = 19 ∧ i = 4)) → M_12 a i = M_9 a i := hg_M_12
            refine wp_gb hz_r_11 ?_
            exact wp_some ⟨hz_r_11, (fun a i q0 => ((hg_M_12 a i (fun h9 => q0 (Or.inr (Or.inl h9)))).trans ((congrFun (congrFun eM_9 a) i).trans ((mset_ne (fun h9 => q0 (Or.inl h9))).trans ((hg_M_7 a i (fun z8 => q0 ((fun z9 => Or.elim z9 (fun h9 => Or.inl h9) (fun h9 => Or.inr (Or.inl h9))) z8))).trans ((hg_M_5 a i (fun z8 => q0 ((fun z9 => Or.elim z9 (fun h9 => Or.inl h9) (fun z9 => Or.elim z9 (fun h9 => Or.inr (Or.inl h9)) (fun z9 => Or.elim z9 (fun h9 => Or.inr (Or.inr (Or.inl h9))) (fun z9 => Or.elim z9 (fun h9 => Or.inr (Or.inr (Or.inr (Or.inl h9)))) (fun h9 => Or.inr (Or.inr (Or.inr (Or.inr (h9))))))))) z8))).trans ((congrFun (congrFun eM_3 a) i).trans ((mset_ne (fun h9 => q0 (Or.inl h9))).trans rfl)))))))), (by show 0 ≤ (M_12 34 2).toInt ∧ (M_12 34 2).toInt ≤ 60; have f0 := congrArg Int32.toInt (hg_M_12 34 2 (by first | decide | (rcases hc0 with h | h <;> rw [h] <;> simp; done) | (rcases hb0 with h | h | h <;> rw [h] <;> simp; done) | (simp; done) | omega)); have f1 := congrArg Int32.toInt ((congrFun (congrFun eM_9 34) 2).trans (mset_ne (by first | exact nz1 (by decide) | exact nz2 (by decide) | exact nz1 (nzA hc0 (by decide)) | exact nz1 (nzE (by decide)) | exact nz1 (nzB hc0 (by decide)) | exact nz1 (nzC hc0 (by decide)) | exact nz1 (nzD hc0 (by decide)) | exact nz1 (nzF (by decide)) | exact nz1 (nzG (by decide)) | omega))); have f2 := congrArg Int32.toInt (hg_M_7 34 2 (by first | decide | (rcases hc0 with h | h <;> rw [h] <;> simp; done) | (rcases hb0 with h | h | h <;> rw [h] <;> simp; done) | (simp; done) | omega)); omega)⟩
          refine wp_ite (fun c86 => ?_) (fun c86 => ?_)
          · exact j96
          · refine wp_ite (fun c93 => ?_) (fun c93 => ?_)
            · refine wp_bnd (fun M_13 eM_13 => ?_)
              refine wp_cb2 (o_X4_repeat M_13 x_2 (r_10 - (nI 49)) (by have f0 := congrArg Int32.toInt ((congrFun (congrFun eM_13 34) 2).trans (mset_ne (by first | exact nz1 (by decide) | exact nz2 (by decide) | exact nz1 (nzA hc0 (by decide)) | exact nz1 (nzE (by decide)) | exact nz1 (nzB hc0 (by decide)) | exact nz1 (nzC hc0 (by decide)) | exact nz1 (nzD hc0 (by decide)) | exact nz1 (nzF (by decide)) | exact nz1 (nzG (by decide)) | omega))); have f1 := congrArg Int32.toInt ((congrFun (congrFun eM_9 34) 2).trans (mset_ne (by first | exact nz1 (by decide) | exact nz2 (by decide) | exact nz1 (nzA hc0 (by decide)) | exact nz1 (nzE (by decide)) | exact nz1 (nzB hc0 (by decide)) | exact nz1 (nzC hc0 (by decide)) | exact nz1 (nzD hc0 (by decide)) | exact nz1 (nzF (by decide)) | exact nz1 (nzG (by decide)) | omega))); have f2 := congrArg Int32.toInt (hg_M_7 34 2 (by first | decide | (rcases hc0 with h | h <;> rw [h] <;> simp; done) | (rcases hb0 with h | h | h <;> rw [h] <;> simp; done) | (simp; done) | omega)); have f3 := congrArg Int32.toInt ex_2; have f4 := t_lit 49; have f5 := t_sub r_10 (nI 49); omega) (by have f0 := t_lit 49; have f1 := t_sub r_10 (nI 49); have f2 := congrArg Int32.toInt ex_2; omega)) (fun r_14 M_15 he124 hq124 => ?_)
              obtain ⟨hz_r_14, hg_M_15, hs_124⟩ := hq124
              replace hs_124 : 0 ≤ (M_15 34 2).toInt ∧ (M_15 34 2).toInt ≤ 60 := hs_124
              replace hg_M_15 : ∀ a i, ¬ ((a = 34 ∧ i = 2) ∨ a = 35 ∨ a = 36) → M_15 a i = M_13 a i := hg_M_15
              refine wp_ite (fun c127 => ?_) (fun c127 => ?_)
              · refine wp_cb2 (o_X7_refuse M_15 (nI 6) x_1) (fun r_16 M_17 he134 hq134 => ?_)
                obtain ⟨hz_r_16, hg_M_17⟩ := hq134
                replace hg_M_17 : ∀ a i, ¬ ((a = 19 ∧ i = 4)) → M_17 a i = M_15 a i := hg_M_17
                refine wp_ite (fun c137 => ?_) (fun c137 => ?_)
                · exact wp_some ⟨b01_0, (fun a i q0 => ((hg_M_17 a i (fun h9 => q0 (Or.inr (Or.inl h9)))).trans ((hg_M_15 a i (fun z8 => q0 ((fun z9 => Or.elim z9 (fun h9 => Or.inr (Or.inr (Or.inl h9))) (fun z9 => Or.elim z9 (fun h9 => Or.inr (Or.inr (Or.inr (Or.inl h9)))) (fun h9 => Or.inr (Or.inr (Or.inr (Or.inr (h9))))))) z8))).trans ((congrFun (congrFun eM_13 a) i).trans ((mset_ne (fun h9 => q0 (Or.inl h9))).trans ((congrFun (congrFun eM_9 a) i).trans ((mset_ne (fun h9 => q0 (Or.inl h9))).trans ((hg_M_7 a i (fun z8 => q0 ((fun z9 => Or.elim z9 (fun h9 => Or.inl h9) (fun h9 => Or.inr (Or.inl h9))) z8))).trans ((hg_M_5 a i (fun z8 => q0 ((fun z9 => Or.elim z9 (fun h9 => Or.inl h9) (fun z9 => Or.elim z9 (fun h9 => Or.inr (Or.inl h9)) (fun z9 => Or.elim z9 (fun h9 => Or.inr (Or.inr (Or.inl h9))) (fun z9 => Or.elim z9 (fun h9 => Or.inr (Or.inr (Or.inr (Or.inl h9)))) (fun h9 => Or.inr (Or.inr (Or.inr (Or.inr (h9))))))))) z8))).trans ((congrFun (congrFun eM_3 a) i).trans ((mset_ne (fun h9 => q0 (Or.inl h9))).trans rfl))))))))))), (by show 0 ≤ (M_17 34 2).toInt ∧ (M_17 34 2).toInt ≤ 60; have f0 := congrArg Int32.toInt (hg_M_17 34 2 (by first | decide | (rcases hc0 with h | h <;> rw [h] <;> simp; done) | (rcases hb0 with h | h | h <;> rw [h] <;> simp; done) | (simp; done) | omega)); have f1 := t_lit 0; omega)⟩
                · exact wp_some ⟨b01_1, (fun a i q0 => ((hg_M_17 a i (fun h9 => q0 (Or.inr (Or.inl h9)))).trans ((hg_M_15 a i (fun z8 => q0 ((fun z9 => Or.elim z9 (fun h9 => Or.inr (Or.inr (Or.inl h9))) (fun z9 => Or.elim z9 (fun h9 => Or.inr (Or.inr (Or.inr (Or.inl h9)))) (fun h9 => Or.inr (Or.inr (Or.inr (Or.inr (h9))))))) z8))).trans ((congrFun (congrFun eM_13 a) i).trans ((mset_ne (fun h9 => q0 (Or.inl h9))).trans ((congrFun (congrFun eM_9 a) i).trans ((mset_ne (fun h9 => q0 (Or.inl h9))).trans ((hg_M_7 a i (fun z8 => q0 ((fun z9 => Or.elim z9 (fun h9 => Or.inl h9) (fun h9 => Or.inr (Or.inl h9))) z8))).trans ((hg_M_5 a i (fun z8 => q0 ((fun z9 => Or.elim z9 (fun h9 => Or.inl h9) (fun z9 => Or.elim z9 (fun h9 => Or.inr (Or.inl h9)) (fun z9 => Or.elim z9 (fun h9 => Or.inr (Or.inr (Or.inl h9))) (fun z9 => Or.elim z9 (fun h9 => Or.inr (Or.inr (Or.inr (Or.inl h9)))) (fun h9 => Or.inr (Or.inr (Or.inr (Or.inr (h9))))))))) z8))).trans ((congrFun (congrFun eM_3 a) i).trans ((mset_ne (fun h9 => q0 (Or.inl h9))).trans rfl))))))))))), (by show 0 ≤ (M_17 34 2).toInt ∧ (M_17 34 2).toInt ≤ 60; have f0 := congrArg Int32.toInt (hg_M_17 34 2 (by first | decide | (rcases hc0 with h | h <;> rw [h] <;> simp; done) | (rcases hb0 with h | h | h <;> rw [h] <;> simp; done) | (simp; done) | omega)); have f1 := t_lit 1; omega)⟩
              · exact wp_some ⟨b01_1, (fun a i q0 => ((hg_M_15 a i (fun z8 => q0 ((fun z9 => Or.elim z9 (fun h9 => Or.inr (Or.inr (Or.inl h9))) (fun z9 => Or.elim z9 (fun h9 => Or.inr (Or.inr (Or.inr (Or.inl h9)))) (fun h9 => Or.inr (Or.inr (Or.inr (Or.inr (h9))))))) z8))).trans ((congrFun (congrFun eM_13 a) i).trans ((mset_ne (fun h9 => q0 (Or.inl h9))).trans ((congrFun (congrFun eM_9 a) i).trans ((mset_ne (fun h9 => q0 (Or.inl h9))).trans ((hg_M_7 a i (fun z8 => q0 ((fun z9 => Or.elim z9 (fun h9 => Or.inl h9) (fun h9 => Or.inr (Or.inl h9))) z8))).trans ((hg_M_5 a i (fun z8 => q0 ((fun z9 => Or.elim z9 (fun h9 => Or.inl h9) (fun z9 => Or.elim z9 (fun h9 => Or.inr (Or.inl h9)) (fun z9 => Or.elim z9 (fun h9 => Or.inr (Or.inr (Or.inl h9))) (fun z9 => Or.elim z9 (fun h9 => Or.inr (Or.inr (Or.inr (Or.inl h9)))) (fun h9 => Or.inr (Or.inr (Or.inr (Or.inr (h9))))))))) z8))).trans ((congrFun (congrFun eM_3 a) i).trans ((mset_ne (fun h9 => q0 (Or.inl h9))).trans rfl)))))))))), (by show 0 ≤ (M_15 34 2).toInt ∧ (M_15 34 2).toInt ≤ 60; have f0 := t_lit 1; omega)⟩
            · exact j96
        · exact wp_some ⟨b01_1, (fun a i q0 => ((hg_M_7 a i (fun z8 => q0 ((fun z9 => Or.elim z9 (fun h9 => Or.inl h9) (fun h9 => Or.inr (Or.inl h9))) z8))).trans ((hg_M_5 a i (fun z8 => q0 ((fun z9 => Or.elim z9 (fun h9 => Or.inl h9) (fun z9 => Or.elim z9 (fun h9 => Or.inr (Or.inl h9)) (fun z9 => Or.elim z9 (fun h9 => Or.inr (Or.inr (Or.inl h9))) (fun z9 => Or.elim z9 (fun h9 => Or.inr (Or.inr (Or.inr (Or.inl h9)))) (fun h9 => Or.inr (Or.inr (Or.inr (Or.inr (h9))))))))) z8))).trans ((congrFun (congrFun eM_3 a) i).trans ((mset_ne (fun h9 => q0 (Or.inl h9))).trans rfl))))), (by show 0 ≤ (M_7 34 2).toInt ∧ (M_7 34 2).toInt ≤ 60; have f0 := congrArg Int32.toInt (hg_M_7 34 2 (by first | decide | (rcases hc0 with h | h <;> rw [h] <;> simp; done) | (rcases hb0 with h | h | h <;> rw [h] <;> simp; done) | (simp; done) | omega)); have f1 := t_lit 1; omega)⟩
  · refine wp_cb2 (o_X7_refuse M (nI 5) x_1) (fun r_18 M_19 he19 hq19 => ?_)
    obtain ⟨hz_r_18, hg_M_19⟩ := hq19
    replace hg_M_19 : ∀ a i, ¬ ((a = 19 ∧ i = 4)) → M_19 a i = M a i := hg_M_19
    refine wp_gb hz_r_18 ?_
    exact wp_some ⟨hz_r_18, (fun a i q0 => ((hg_M_19 a i (fun h9 => q0 (Or.inr (Or.inl h9)))).trans rfl)), (by show 0 ≤ (M_19 34 2).toInt ∧ (M_19 34 2).toInt ≤ 60; have f0 := congrArg Int32.toInt (hg_M_19 34 2 (by first | decide | (rcases hc0 with h | h <;> rw [h] <;> simp; done) | (rcases hb0 with h | h | h <;> rw [h] <;> simp; done) | (simp; done) | omega)); omega)⟩
theorem og_steps : ∀ (n : Nat) (K : Int) (M : Mem) (v2 : Int32), 0 ≤ K → 3 - K ≤ n → K ≤ v2.toInt ∧ v2.toInt ≤ 2 → 0 ≤ (M 34 2).toInt ∧ (M 34 2).toInt ≤ 60 → Wp (g_steps n M v2) (fun q => (q.1 = 0 ∨ q.1 = 1) ∧ (∀ a i, ¬ ((a = 19 ∧ i = 3) ∨ (a = 19 ∧ i = 4) ∨ (a = 34 ∧ i = 2) ∨ a = 35 ∨ a = 36) → q.2 a i = M a i) ∧ (0 ≤ (q.2 34 2).toInt ∧ (q.2 34 2).toInt ≤ 60))
  | 0 => fun K M v2 h0 h1 h2 _ => absurd h1 (by omega)
  | n + 1 => fun K M v2 h0 h1 h2 h9 => o_X4_readSteps (KS := K) (fun M v h h8 => o_X4_readRound (KS := K + 1) (fun M w h3 h7 => og_steps n (K + 1) M w (by omega) (by omega) h3 h7) M v (by omega) h8) M v2 h2 h9
theorem og_steps4 (M : Mem) (v2 : Int32) (ho : 0 ≤ v2.toInt ∧ v2.toInt ≤ 2) (hs : 0 ≤ (M 34 2).toInt ∧ (M 34 2).toInt ≤ 60) : Wp (g_steps 4 M v2) (fun q => (q.1 = 0 ∨ q.1 = 1) ∧ (∀ a i, ¬ ((a = 19 ∧ i = 3) ∨ (a = 19 ∧ i = 4) ∨ (a = 34 ∧ i = 2) ∨ a = 35 ∨ a = 36) → q.2 a i = M a i) ∧ (0 ≤ (q.2 34 2).toInt ∧ (q.2 34 2).toInt ≤ 60)) := og_steps 4 0 M v2 (by omega) (by omega) ho hs
theorem o_X4_read (M : Mem) : Wp (f_X4_read M) (fun q => (q.1 = 0 ∨ q.1 = 1) ∧ (∀ a i, ¬ ((a = 19 ∧ i = 3) ∨ (a = 19 ∧ i = 4) ∨ (a = 34 ∧ i = 2) ∨ a = 35 ∨ a = 36) → q.2 a i = M a i)) := by
  refine wp_bnd (fun M_1 eM_1 => ?_)
  refine wp_cb2 (og_steps4 M_1 (nI 0) (by have f0 := t_lit 0; omega) (by have f0 := congrArg Int32.toInt ((congrFun (congrFun eM_1 34) 2).trans mset_eq); have f1 := t_lit 0; omega)) (fun r_2 M_3 he8 hq8 => ?_)
  obtain ⟨hz_r_2, hg_M_3, hs_8⟩ := hq8
  replace hs_8 : 0 ≤ (M_3 34 2).toInt ∧ (M_3 34 2).toInt ≤ 60 := hs_8
  have := t_lit 0
  replace hg_M_3 : ∀ a i, ¬ ((a = 19 ∧ i = 3) ∨ (a = 19 ∧ i = 4) ∨ (a = 34 ∧ i = 2) ∨ a = 35 ∨ a = 36) → M_3 a i = M_1 a i := hg_M_3
  refine wp_ite (fun c11 => ?_) (fun c11 => ?_)
  · exact wp_some ⟨b01_0, (fun a i q0 => ((hg_M_3 a i (fun z8 => q0 ((fun z9 => Or.elim z9 (fun h9 => Or.inl h9) (fun z9 => Or.elim z9 (fun h9 => Or.inr (Or.inl h9)) (fun z9 => Or.elim z9 (fun h9 => Or.inr (Or.inr (Or.inl h9))) (fun z9 => Or.elim z9 (fun h9 => Or.inr (Or.inr (Or.inr (Or.inl h9)))) (fun h9 => Or.inr (Or.inr (Or.inr (Or.inr (h9))))))))) z8))).trans ((congrFun (congrFun eM_1 a) i).trans ((mset_ne (fun h9 => q0 (Or.inr (Or.inr (Or.inl h9))))).trans rfl))))⟩
  · refine wp_bind2 (o_X7_here M_3) (fun r_4 he17 hq17 => ?_)
    refine wp_ite (fun c21 => ?_) (fun c21 => ?_)
    · exact wp_some ⟨b01_1, (fun a i q0 => ((hg_M_3 a i (fun z8 => q0 ((fun z9 => Or.elim z9 (fun h9 => Or.inl h9) (fun z9 => Or.elim z9 (fun h9 => Or.inr (Or.inl h9)) (fun z9 => Or.elim z9 (fun h9 => Or.inr (Or.inr (Or.inl h9))) (fun z9 => Or.elim z9 (fun h9 => Or.inr (Or.inr (Or.inr (Or.inl h9)))) (fun h9 => Or.inr (Or.inr (Or.inr (Or.inr (h9))))))))) z8))).trans ((congrFun (congrFun eM_1 a) i).trans ((mset_ne (fun h9 => q0 (Or.inr (Or.inr (Or.inl h9))))).trans rfl))))⟩
    · refine wp_cb2 (o_X7_refuse M_3 (nI 1) (M_3 19 3)) (fun r_5 M_6 he30 hq30 => ?_)
      obtain ⟨hz_r_5, hg_M_6⟩ := hq30
      replace hg_M_6 : ∀ a i, ¬ ((a = 19 ∧ i = 4)) → M_6 a i = M_3 a i := hg_M_6
      refine wp_ite (fun c33 => ?_) (fun c33 => ?_)
      · exact wp_some ⟨b01_0, (fun a i q0 => ((hg_M_6 a i (fun h9 => q0 (Or.inr (Or.inl h9)))).trans ((hg_M_3 a i (fun z8 => q0 ((fun z9 => Or.elim z9 (fun h9 => Or.inl h9) (fun z9 => Or.elim z9 (fun h9 => Or.inr (Or.inl h9)) (fun z9 => Or.elim z9 (fun h9 => Or.inr (Or.inr (Or.inl h9))) (fun z9 => Or.elim z9 (fun h9 => Or.inr (Or.inr (Or.inr (Or.inl h9)))) (fun h9 => Or.inr (Or.inr (Or.inr (Or.inr (h9))))))))) z8))).trans ((congrFun (congrFun eM_1 a) i).trans ((mset_ne (fun h9 => q0 (Or.inr (Or.inr (Or.inl h9))))).trans rfl)))))⟩
      · exact wp_some ⟨b01_1, (fun a i q0 => ((hg_M_6 a i (fun h9 => q0 (Or.inr (Or.inl h9)))).trans ((hg_M_3 a i (fun z8 => q0 ((fun z9 => Or.elim z9 (fun h9 => Or.inl h9) (fun z9 => Or.elim z9 (fun h9 => Or.inr (Or.inl h9)) (fun z9 => Or.elim z9 (fun h9 => Or.inr (Or.inr (Or.inl h9))) (fun z9 => Or.elim z9 (fun h9 => Or.inr (Or.inr (Or.inr (Or.inl h9)))) (fun h9 => Or.inr (Or.inr (Or.inr (Or.inr (h9))))))))) z8))).trans ((congrFun (congrFun eM_1 a) i).trans ((mset_ne (fun h9 => q0 (Or.inr (Or.inr (Or.inl h9))))).trans rfl)))))⟩
theorem o_X5_look {b : Nat} (hb : isF b) {c : Nat} (hc : isL c) (M : Mem) (v3 : Int32) : Wp (f_X5_look b c M v3) (fun q => (∀ a i, ¬ (a = 22) → q a i = M a i)) := by
  have hb0 : b = 1 ∨ b = 7 ∨ b = 13 := hb
  have hc0 : c = 44 ∨ c = 52 := hc
  refine wp_bind2 (o_X2_isTold hb M v3) (fun r_1 he2 hq2 => ?_)
  obtain ⟨hz_r_1, hr_2⟩ := hq2
  replace hr_2 : ¬ r_1.toInt = 0 → 0 ≤ v3.toInt ∧ v3.toInt < 40 := hr_2
  refine wp_ite (fun c5 => ?_) (fun c5 => ?_)
  · exact wp_some (fun _ _ _ => rfl)
  · refine wp_bnd (fun M_2 eM_2 => ?_)
    refine wp_gd (by omega) ?_
    refine wp_bnd (fun M_3 eM_3 => ?_)
    refine wp_gd (by omega) ?_
    refine wp_bnd (fun M_4 eM_4 => ?_)
    refine wp_gd (by omega) ?_
    refine wp_bnd (fun M_5 eM_5 => ?_)
    refine wp_gd (by omega) ?_
    have j71 : ∀ (t0_71 : Int32), (t0_71 = 0 ∨ t0_71 = 1) → Wp (f_X5_look_L71 b c v3 M_5 t0_71) (fun q => (∀ a i, ¬ (a = 22) → q a i = M a i)) := by
      intro t0_71 hb_t0_71
      unfold f_X5_look_L71
      refine wp_bnd (fun M_6 eM_6 => ?_)
      have j93 : ∀ (t0_93 : Int32), Wp (f_X5_look_L93 b M_6 t0_93) (fun q => (∀ a i, ¬ (a = 22) → q a i = M a i)) := by
        intro t0_93
        unfold f_X5_look_L93
        refine wp_bnd (fun M_7 eM_7 => ?_)
        refine wp_bnd (fun M_8 eM_8 => ?_)
        exact wp_some (fun a i q0 => ((congrFun (congrFun eM_8 a) i).trans ((mset_ne (fun h9 => q0 ((h9).1))).trans ((congrFun (congrFun eM_7 a) i).trans ((mset_ne (fun h9 => q0 ((h9).1))).trans ((congrFun (congrFun eM_6 a) i).trans ((mset_ne (fun h9 => q0 ((h9).1))).trans ((congrFun (congrFun eM_5 a) i).trans ((mset_ne (fun h9 => q0 ((h9).1))).trans ((congrFun (congrFun eM_4 a) i).trans ((mset_ne (fun h9 => q0 ((h9).1))).trans ((congrFun (congrFun eM_3 a) i).trans ((mset_ne (fun h9 => q0 ((h9).1))).trans ((congrFun (congrFun eM_2 a) i).trans ((mset_ne (fun h9 => q0 ((h9).1))).trans rfl)))))))))))))))
      refine wp_ite (fun c81 => ?_) (fun c81 => ?_)
      · exact j93 (nI 0)
      · refine wp_bind2 (o_X2_countClose hb M_6 v3) (fun r_9 he86 hq86 => ?_)
        exact j93 r_9
    refine wp_ite (fun c63 => ?_) (fun c63 => ?_)
    · exact j71 (nI 0) b01_0
    · exact j71 (nI 1) b01_1
theorem o_X5_shift {b : Nat} (hb : isF b) (M : Mem) (v2 : Int32) (v3 : Int32) (v4 : Int32) : Wp (f_X5_shift b M v2 v3 v4) (fun q => (∀ a i, ¬ ((a = 21 ∧ i = 1) ∨ (a = 21 ∧ i = 2) ∨ a = (b + 1) ∨ a = (b + 2)) → q a i = M a i)) := by
  have hb0 : b = 1 ∨ b = 7 ∨ b = 13 := hb
  refine wp_bind2 (o_X2_isTold hb M v2) (fun r_1 he2 hq2 => ?_)
  obtain ⟨hz_r_1, hr_2⟩ := hq2
  replace hr_2 : ¬ r_1.toInt = 0 → 0 ≤ v2.toInt ∧ v2.toInt < 40 := hr_2
  refine wp_ite (fun c5 => ?_) (fun c5 => ?_)
  · exact wp_some (fun _ _ _ => rfl)
  · refine wp_gd (by omega) ?_
    refine wp_bnd (fun x_2 ex_2 => ?_)
    refine wp_gd (by omega) ?_
    refine wp_bnd (fun x_3 ex_3 => ?_)
    refine wp_gd (by omega) ?_
    have j71 : Wp (f_X5_shift_L71 b M v2 x_2 x_3) (fun q => (∀ a i, ¬ ((a = 21 ∧ i = 1) ∨ (a = 21 ∧ i = 2) ∨ a = (b + 1) ∨ a = (b + 2)) → q a i = M a i)) := by
      unfold f_X5_shift_L71
      refine wp_bind2 (o_X2_stoneAt hb M x_2 x_3) (fun r_4 he76 hq76 => ?_)
      refine wp_ite (fun c80 => ?_) (fun c80 => ?_)
      · refine wp_gd (by omega) ?_
        refine wp_bnd (fun M_5 eM_5 => ?_)
        refine wp_gd (by omega) ?_
        refine wp_bnd (fun M_6 eM_6 => ?_)
        refine wp_bnd (fun M_7 eM_7 => ?_)
        exact wp_some (fun a i q0 => ((congrFun (congrFun eM_7 a) i).trans ((mset_ne (fun h9 => q0 (Or.inl h9))).trans ((congrFun (congrFun eM_6 a) i).trans ((mset_ne (fun h9 => q0 (Or.inr (Or.inr (Or.inr ((h9).1)))))).trans ((congrFun (congrFun eM_5 a) i).trans ((mset_ne (fun h9 => q0 (Or.inr (Or.inr (Or.inl (h9).1))))).trans rfl)))))))
      · refine wp_bnd (fun M_8 eM_8 => ?_)
        exact wp_some (fun a i q0 => ((congrFun (congrFun eM_8 a) i).trans ((mset_ne (fun h9 => q0 (Or.inr (Or.inl h9)))).trans rfl)))
    refine wp_ite (fun c56 => ?_) (fun c56 => ?_)
    · refine wp_gd (by have f0 := t_lit 0; have f1 := t_lit 39; have f2 := t_add (M (b + 1) (ix v2)) v3; have f3 := t_mn (nI 39) ((M (b + 1) (ix v2)) + v3); have f4 := t_mx (nI 0) (mn (nI 39) ((M (b + 1) (ix v2)) + v3)); have f5 := congrArg Int32.toInt ex_2; omega) ?_
      refine wp_ite (fun c67 => ?_) (fun c67 => ?_)
      · exact wp_some (fun _ _ _ => rfl)
      · exact j71
    · exact j71
theorem o_X5_turn {b : Nat} (hb : isF b) {c : Nat} (hc : isL c) (M : Mem) (v3 : Int32) : Wp (f_X5_turn b c M v3) (fun q => (∀ a i, ¬ ((a = 21 ∧ i = 1) ∨ (a = 21 ∧ i = 2) ∨ a = 22 ∨ a = (b + 1) ∨ a = (b + 2) ∨ a = (b + 5) ∨ a = (c + 3) ∨ (a = b ∧ i = 6)) → q a i = M a i)) := by
  have hb0 : b = 1 ∨ b = 7 ∨ b = 13 := hb
  have hc0 : c = 44 ∨ c = 52 := hc
  refine wp_bind2 (o_X2_isTold hb M v3) (fun r_1 he2 hq2 => ?_)
  obtain ⟨hz_r_1, hr_2⟩ := hq2
  replace hr_2 : ¬ r_1.toInt = 0 → 0 ≤ v3.toInt ∧ v3.toInt < 40 := hr_2
  refine wp_ite (fun c5 => ?_) (fun c5 => ?_)
  · exact wp_some (fun _ _ _ => rfl)
  · refine wp_cb2 (o_X2_draw hb M) (fun r_2 M_3 he16 hq16 => ?_)
    have hg_M_3 := hq16
    replace hg_M_3 : ∀ a i, ¬ ((a = b ∧ i = 6)) → M_3 a i = M a i := by exact fun a i q0 => hg_M_3 a i (by first | decide | (rcases hc0 with h | h <;> rw [h] <;> simp; done) | (rcases hb0 with h | h | h <;> rw [h] <;> simp; done) | (simp; done) | omega)
    refine wp_bnd (fun M_4 eM_4 => ?_)
    refine wp_bind2 (o_X5_look hb hc M_4 v3) (fun M_5 he24 hq24 => ?_)
    have hg_M_5 := hq24
    replace hg_M_5 : ∀ a i, ¬ (a = 22) → M_5 a i = M_4 a i := by exact fun a i q0 => hg_M_5 a i (by first | decide | (rcases hc0 with h | h <;> rw [h] <;> simp; done) | (rcases hb0 with h | h | h <;> rw [h] <;> simp; done) | (simp; done) | omega)
    refine wp_cb2 (o_X3_amountOf hc M_5 (nI 117)) (fun r_6 M_7 he34 hq34 => ?_)
    have hg_M_7 := hq34
    replace hg_M_7 : ∀ a i, ¬ (a = (c + 3)) → M_7 a i = M_5 a i := by exact fun a i q0 => hg_M_7 a i (by first | decide | (rcases hc0 with h | h <;> rw [h] <;> simp; done) | (rcases hb0 with h | h | h <;> rw [h] <;> simp; done) | (simp; done) | omega)
    refine wp_cb2 (o_X3_amountOf hc M_7 (nI 100)) (fun r_8 M_9 he44 hq44 => ?_)
    have hg_M_9 := hq44
    replace hg_M_9 : ∀ a i, ¬ (a = (c + 3)) → M_9 a i = M_7 a i := by exact fun a i q0 => hg_M_9 a i (by first | decide | (rcases hc0 with h | h <;> rw [h] <;> simp; done) | (rcases hb0 with h | h | h <;> rw [h] <;> simp; done) | (simp; done) | omega)
    refine wp_bnd (fun x_10 ex_10 => ?_)
    refine wp_cb2 (o_X3_amountOf hc M_9 (nI 111)) (fun r_11 M_12 he57 hq57 => ?_)
    have hg_M_12 := hq57
    replace hg_M_12 : ∀ a i, ¬ (a = (c + 3)) → M_12 a i = M_9 a i := by exact fun a i q0 => hg_M_12 a i (by first | decide | (rcases hc0 with h | h <;> rw [h] <;> simp; done) | (rcases hb0 with h | h | h <;> rw [h] <;> simp; done) | (simp; done) | omega)
    refine wp_cb2 (o_X3_amountOf hc M_12 (nI 98)) (fun r_13 M_14 he67 hq67 => ?_)
    have hg_M_14 := hq67
    replace hg_M_14 : ∀ a i, ¬ (a = (c + 3)) → M_14 a i = M_12 a i := by exact fun a i q0 => hg_M_14 a i (by first | decide | (rcases hc0 with h | h <;> rw [h] <;> simp; done) | (rcases hb0 with h | h | h <;> rw [h] <;> simp; done) | (simp; done) | omega)
    refine wp_bnd (fun x_15 ex_15 => ?_)
    refine wp_bind2 (o_X5_shift hb M_14 v3 x_10 x_15) (fun M_16 he80 hq80 => ?_)
    have hg_M_16 := hq80
    replace hg_M_16 : ∀ a i, ¬ ((a = 21 ∧ i = 1) ∨ (a = 21 ∧ i = 2) ∨ a = (b + 1) ∨ a = (b + 2)) → M_16 a i = M_14 a i := by exact fun a i q0 => hg_M_16 a i (by first | decide | (rcases hc0 with h | h <;> rw [h] <;> simp; done) | (rcases hb0 with h | h | h <;> rw [h] <;> simp; done) | (simp; done) | omega)
    refine wp_bind2 (o_X5_look hb hc M_16 v3) (fun M_17 he87 hq87 => ?_)
    have hg_M_17 := hq87
    replace hg_M_17 : ∀ a i, ¬ (a = 22) → M_17 a i = M_16 a i := by exact fun a i q0 => hg_M_17 a i (by first | decide | (rcases hc0 with h | h <;> rw [h] <;> simp; done) | (rcases hb0 with h | h | h <;> rw [h] <;> simp; done) | (simp; done) | omega)
    refine wp_cb2 (o_X3_doesSink hc M_17) (fun r_18 M_19 he100 hq100 => ?_)
    obtain ⟨hz_r_18, hg_M_19⟩ := hq100
    replace hg_M_19 : ∀ a i, ¬ (a = (c + 3)) → M_19 a i = M_17 a i := by exact fun a i q0 => hg_M_19 a i (by first | decide | (rcases hc0 with h | h <;> rw [h] <;> simp; done) | (rcases hb0 with h | h | h <;> rw [h] <;> simp; done) | (simp; done) | omega)
    refine wp_gd (by omega) ?_
    refine wp_bnd (fun M_20 eM_20 => ?_)
    exact wp_some (fun a i q0 => ((congrFun (congrFun eM_20 a) i).trans ((mset_ne (fun h9 => q0 (Or.inr (Or.inr (Or.inr (Or.inr (Or.inr (Or.inl (h9).1)))))))).trans ((hg_M_19 a i (fun h9 => q0 (Or.inr (Or.inr (Or.inr (Or.inr (Or.inr (Or.inr (Or.inl h9))))))))).trans ((hg_M_17 a i (fun h9 => q0 (Or.inr (Or.inr (Or.inl h9))))).trans ((hg_M_16 a i (fun z8 => q0 ((fun z9 => Or.elim z9 (fun h9 => Or.inl h9) (fun z9 => Or.elim z9 (fun h9 => Or.inr (Or.inl h9)) (fun z9 => Or.elim z9 (fun h9 => Or.inr (Or.inr (Or.inr (Or.inl h9)))) (fun h9 => Or.inr (Or.inr (Or.inr (Or.inr (Or.inl h9)))))))) z8))).trans ((hg_M_14 a i (fun h9 => q0 (Or.inr (Or.inr (Or.inr (Or.inr (Or.inr (Or.inr (Or.inl h9))))))))).trans ((hg_M_12 a i (fun h9 => q0 (Or.inr (Or.inr (Or.inr (Or.inr (Or.inr (Or.inr (Or.inl h9))))))))).trans ((hg_M_9 a i (fun h9 => q0 (Or.inr (Or.inr (Or.inr (Or.inr (Or.inr (Or.inr (Or.inl h9))))))))).trans ((hg_M_7 a i (fun h9 => q0 (Or.inr (Or.inr (Or.inr (Or.inr (Or.inr (Or.inr (Or.inl h9))))))))).trans ((hg_M_5 a i (fun h9 => q0 (Or.inr (Or.inr (Or.inl h9))))).trans ((congrFun (congrFun eM_4 a) i).trans ((mset_ne (fun h9 => q0 (Or.inr (Or.inr (Or.inl (h9).1))))).trans ((hg_M_3 a i (fun h9 => q0 (Or.inr (Or.inr (Or.inr (Or.inr (Or.inr (Or.inr (Or.inr (h9)))))))))).trans rfl))))))))))))))
theorem o_X5_pass {b : Nat} (hb : isF b) {c : Nat} (hc : isL c) (M : Mem) (v3 : Int32) : Wp (f_X5_pass b c M v3) (fun q => (∀ a i, ¬ ((a = 21 ∧ i = 1) ∨ (a = 21 ∧ i = 2) ∨ a = 22 ∨ a = (b + 1) ∨ a = (b + 2) ∨ a = (b + 5) ∨ a = (c + 3) ∨ (a = b ∧ i = 5) ∨ (a = b ∧ i = 6)) → q a i = M a i)) := by
  have hb0 : b = 1 ∨ b = 7 ∨ b = 13 := hb
  have hc0 : c = 44 ∨ c = 52 := hc
  refine wp_bnd (fun M_1 eM_1 => ?_)
  refine wp_bnd (fun M_2 eM_2 => ?_)
  have ft1 := t_rng v3
  refine wp_lp2 (fun M13 y4_13 => (0 ≤ y4_13.toInt) ∧ (∀ a i, ¬ ((a = 21 ∧ i = 1) ∨ (a = 21 ∧ i = 2) ∨ a = 22 ∨ a = (b + 1) ∨ a = (b + 2) ∨ a = (b + 5) ∨ a = (c + 3) ∨ (a = b ∧ i = 5) ∨ (a = b ∧ i = 6)) → M13 a i = M_2 a i)) (fun M13 y4_13 => (v3.toInt - y4_13.toInt).toNat) (fun ag13 M13 y4_13 hI13 ih13 => ?_) FU M_2 (nI 0) ⟨(by have f0 := t_lit 0; omega), (fun _ _ _ => rfl)⟩ (fu_lt (by have f0 := t_lit 0; omega))
  obtain ⟨hi13, hf_M13⟩ := hI13
  refine wp_ite (fun c16 => ?_) (fun c16 => ?_)
  · exact wp_some (fun a i q0 => ((hf_M13 a i (fun z8 => q0 ((fun z9 => Or.elim z9 (fun h9 => Or.inl h9) (fun z9 => Or.elim z9 (fun h9 => Or.inr (Or.inl h9)) (fun z9 => Or.elim z9 (fun h9 => Or.inr (Or.inr (Or.inl h9))) (fun z9 => Or.elim z9 (fun h9 => Or.inr (Or.inr (Or.inr (Or.inl h9)))) (fun z9 => Or.elim z9 (fun h9 => Or.inr (Or.inr (Or.inr (Or.inr (Or.inl h9))))) (fun z9 => Or.elim z9 (fun h9 => Or.inr (Or.inr (Or.inr (Or.inr (Or.inr (Or.inl h9)))))) (fun z9 => Or.elim z9 (fun h9 => Or.inr (Or.inr (Or.inr (Or.inr (Or.inr (Or.inr (Or.inl h9))))))) (fun z9 => Or.elim z9 (fun h9 => Or.inr (Or.inr (Or.inr (Or.inr (Or.inr (Or.inr (Or.inr (Or.inl h9)))))))) (fun h9 => Or.inr (Or.inr (Or.inr (Or.inr (Or.inr (Or.inr (Or.inr (Or.inr (h9))))))))))))))))) z8))).trans ((congrFun (congrFun eM_2 a) i).trans ((mset_ne (fun h9 => q0 (Or.inr (Or.inl h9)))).trans ((congrFun (congrFun eM_1 a) i).trans ((mset_ne (fun h9 => q0 (Or.inl h9))).trans rfl))))))
  · refine wp_ite (fun c26 => ?_) (fun c26 => ?_)
    · exact wp_some (fun a i q0 => ((hf_M13 a i (fun z8 => q0 ((fun z9 => Or.elim z9 (fun h9 => Or.inl h9) (fun z9 => Or.elim z9 (fun h9 => Or.inr (Or.inl h9)) (fun z9 => Or.elim z9 (fun h9 => Or.inr (Or.inr (Or.inl h9))) (fun z9 => Or.elim z9 (fun h9 => Or.inr (Or.inr (Or.inr (Or.inl h9)))) (fun z9 => Or.elim z9 (fun h9 => Or.inr (Or.inr (Or.inr (Or.inr (Or.inl h9))))) (fun z9 => Or.elim z9 (fun h9 => Or.inr (Or.inr (Or.inr (Or.inr (Or.inr (Or.inl h9)))))) (fun z9 => Or.elim z9 (fun h9 => Or.inr (Or.inr (Or.inr (Or.inr (Or.inr (Or.inr (Or.inl h9))))))) (fun z9 => Or.elim z9 (fun h9 => Or.inr (Or.inr (Or.inr (Or.inr (Or.inr (Or.inr (Or.inr (Or.inl h9)))))))) (fun h9 => Or.inr (Or.inr (Or.inr (Or.inr (Or.inr (Or.inr (Or.inr (Or.inr (h9))))))))))))))))) z8))).trans ((congrFun (congrFun eM_2 a) i).trans ((mset_ne (fun h9 => q0 (Or.inr (Or.inl h9)))).trans ((congrFun (congrFun eM_1 a) i).trans ((mset_ne (fun h9 => q0 (Or.inl h9))).trans rfl))))))
    · refine wp_lp2 (fun M32 y5_32 => (0 ≤ y5_32.toInt) ∧ (∀ a i, ¬ ((a = 21 ∧ i = 1) ∨ (a = 21 ∧ i = 2) ∨ a = 22 ∨ a = (b + 1) ∨ a = (b + 2) ∨ a = (b + 5) ∨ a = (c + 3) ∨ (a = b ∧ i = 6)) → M32 a i = M13 a i)) (fun M32 y5_32 => (40 - y5_32.toInt).toNat) (fun ag32 M32 y5_32 hI32 ih32 => ?_) FU M13 (nI 0) ⟨(by have f0 := t_lit 0; omega), (fun _ _ _ => rfl)⟩ (fu_lt (by have f0 := t_lit 0; omega))
      obtain ⟨hi32, hf_M32⟩ := hI32
      have j63 : Wp (f_X5_pass_L63 b ag13 y4_13 M32) (fun q => (∀ a i, ¬ ((a = 21 ∧ i = 1) ∨ (a = 21 ∧ i = 2) ∨ a = 22 ∨ a = (b + 1) ∨ a = (b + 2) ∨ a = (b + 5) ∨ a = (c + 3) ∨ (a = b ∧ i = 5) ∨ (a = b ∧ i = 6)) → q a i = M a i)) := by
        unfold f_X5_pass_L63
        refine wp_bnd (fun M_3 eM_3 => ?_)
        exact ih13 M_3 (y4_13 + (nI 1)) ⟨(by have f0 := t_lit 1; have f1 := t_add y4_13 (nI 1); omega), (fun a i q0 => ((congrFun (congrFun eM_3 a) i).trans ((mset_ne (fun h9 => q0 (Or.inr (Or.inr (Or.inr (Or.inr (Or.inr (Or.inr (Or.inr (Or.inl h9)))))))))).trans ((hf_M32 a i (fun z8 => q0 ((fun z9 => Or.elim z9 (fun h9 => Or.inl h9) (fun z9 => Or.elim z9 (fun h9 => Or.inr (Or.inl h9)) (fun z9 => Or.elim z9 (fun h9 => Or.inr (Or.inr (Or.inl h9))) (fun z9 => Or.elim z9 (fun h9 => Or.inr (Or.inr (Or.inr (Or.inl h9)))) (fun z9 => Or.elim z9 (fun h9 => Or.inr (Or.inr (Or.inr (Or.inr (Or.inl h9))))) (fun z9 => Or.elim z9 (fun h9 => Or.inr (Or.inr (Or.inr (Or.inr (Or.inr (Or.inl h9)))))) (fun z9 => Or.elim z9 (fun h9 => Or.inr (Or.inr (Or.inr (Or.inr (Or.inr (Or.inr (Or.inl h9))))))) (fun h9 => Or.inr (Or.inr (Or.inr (Or.inr (Or.inr (Or.inr (Or.inr (Or.inr (h9)))))))))))))))) z8))).trans ((hf_M13 a i (fun z8 => q0 ((fun z9 => Or.elim z9 (fun h9 => Or.inl h9) (fun z9 => Or.elim z9 (fun h9 => Or.inr (Or.inl h9)) (fun z9 => Or.elim z9 (fun h9 => Or.inr (Or.inr (Or.inl h9))) (fun z9 => Or.elim z9 (fun h9 => Or.inr (Or.inr (Or.inr (Or.inl h9)))) (fun z9 => Or.elim z9 (fun h9 => Or.inr (Or.inr (Or.inr (Or.inr (Or.inl h9))))) (fun z9 => Or.elim z9 (fun h9 => Or.inr (Or.inr (Or.inr (Or.inr (Or.inr (Or.inl h9)))))) (fun z9 => Or.elim z9 (fun h9 => Or.inr (Or.inr (Or.inr (Or.inr (Or.inr (Or.inr (Or.inl h9))))))) (fun z9 => Or.elim z9 (fun h9 => Or.inr (Or.inr (Or.inr (Or.inr (Or.inr (Or.inr (Or.inr (Or.inl h9)))))))) (fun h9 => Or.inr (Or.inr (Or.inr (Or.inr (Or.inr (Or.inr (Or.inr (Or.inr (h9))))))))))))))))) z8))).trans rfl)))))⟩ (by have f0 := t_lit 1; have f1 := t_add y4_13 (nI 1); omega)
      refine wp_ite (fun c36 => ?_) (fun c36 => ?_)
      · exact j63
      · refine wp_gd (by omega) ?_
        refine wp_ite (fun c46 => ?_) (fun c46 => ?_)
        · exact ih32 M32 (y5_32 + (nI 1)) ⟨(by have f0 := t_lit 1; have f1 := t_add y5_32 (nI 1); have f2 := congrArg Int32.toInt (hf_M32 (b + 4) (ix y5_32) (by first | decide | (rcases hc0 with h | h <;> rw [h] <;> simp; done) | (rcases hb0 with h | h | h <;> rw [h] <;> simp; done) | (simp; done) | omega)); have f3 := congrArg Int32.toInt (hf_M13 (b + 4) (ix y5_32) (by first | decide | (rcases hc0 with h | h <;> rw [h] <;> simp; done) | (rcases hb0 with h | h | h <;> rw [h] <;> simp; done) | (simp; done) | omega)); have f4 := congrArg Int32.toInt ((congrFun (congrFun eM_2 (b + 4)) (ix y5_32)).trans (mset_ne (by first | exact nz1 (by decide) | exact nz2 (by decide) | exact nz1 (nzA hc0 (by decide)) | exact nz1 (nzE (by decide)) | exact nz1 (nzB hc0 (by decide)) | exact nz1 (nzC hc0 (by decide)) | exact nz1 (nzD hc0 (by decide)) | exact nz1 (nzF (by decide)) | exact nz1 (nzG (by decide)) | omega))); have f5 := congrArg Int32.toInt ((congrFun (congrFun eM_1 (b + 4)) (ix y5_32)).trans (mset_ne (by first | exact nz1 (by decide) | exact nz2 (by decide) | exact nz1 (nzA hc0 (by decide)) | exact nz1 (nzE (by decide)) | exact nz1 (nzB hc0 (by decide)) | exact nz1 (nzC hc0 (by decide)) | exact nz1 (nzD hc0 (by decide)) | exact nz1 (nzF (by decide)) | exact nz1 (nzG (by decide)) | omega))); omega), (fun a i q0 => ((hf_M32 a i (fun z8 => q0 ((fun z9 => Or.elim z9 (fun h9 => Or.inl h9) (fun z9 => Or.elim z9 (fun h9 => Or.inr (Or.inl h9)) (fun z9 => Or.elim z9 (fun h9 => Or.inr (Or.inr (Or.inl h9))) (fun z9 => Or.elim z9 (fun h9 => Or.inr (Or.inr (Or.inr (Or.inl h9)))) (fun z9 => Or.elim z9 (fun h9 => Or.inr (Or.inr (Or.inr (Or.inr (Or.inl h9))))) (fun z9 => Or.elim z9 (fun h9 => Or.inr (Or.inr (Or.inr (Or.inr (Or.inr (Or.inl h9)))))) (fun z9 => Or.elim z9 (fun h9 => Or.inr (Or.inr (Or.inr (Or.inr (Or.inr (Or.inr (Or.inl h9))))))) (fun h9 => Or.inr (Or.inr (Or.inr (Or.inr (Or.inr (Or.inr (Or.inr (h9))))))))))))))) z8))).trans rfl))⟩ (by have f0 := t_lit 1; have f1 := t_add y5_32 (nI 1); have f2 := congrArg Int32.toInt (hf_M32 (b + 4) (ix y5_32) (by first | decide | (rcases hc0 with h | h <;> rw [h] <;> simp; done) | (rcases hb0 with h | h | h <;> rw [h] <;> simp; done) | (simp; done) | omega)); have f3 := congrArg Int32.toInt (hf_M13 (b + 4) (ix y5_32) (by first | decide | (rcases hc0 with h | h <;> rw [h] <;> simp; done) | (rcases hb0 with h | h | h <;> rw [h] <;> simp; done) | (simp; done) | omega)); have f4 := congrArg Int32.toInt ((congrFun (congrFun eM_2 (b + 4)) (ix y5_32)).trans (mset_ne (by first | exact nz1 (by decide) | exact nz2 (by decide) | exact nz1 (nzA hc0 (by decide)) | exact nz1 (nzE (by decide)) | exact nz1 (nzB hc0 (by decide)) | exact nz1 (nzC hc0 (by decide)) | exact nz1 (nzD hc0 (by decide)) | exact nz1 (nzF (by decide)) | exact nz1 (nzG (by decide)) | omega))); have f5 := congrArg Int32.toInt ((congrFun (congrFun eM_1 (b + 4)) (ix y5_32)).trans (mset_ne (by first | exact nz1 (by decide) | exact nz2 (by decide) | exact nz1 (nzA hc0 (by decide)) | exact nz1 (nzE (by decide)) | exact nz1 (nzB hc0 (by decide)) | exact nz1 (nzC hc0 (by decide)) | exact nz1 (nzD hc0 (by decide)) | exact nz1 (nzF (by decide)) | exact nz1 (nzG (by decide)) | omega))); omega)
        · refine wp_bind2 (o_X5_turn hb hc M32 y5_32) (fun M_4 he54 hq54 => ?_)
          have hg_M_4 := hq54
          replace hg_M_4 : ∀ a i, ¬ ((a = 21 ∧ i = 1) ∨ (a = 21 ∧ i = 2) ∨ a = 22 ∨ a = (b + 1) ∨ a = (b + 2) ∨ a = (b + 5) ∨ a = (c + 3) ∨ (a = b ∧ i = 6)) → M_4 a i = M32 a i := by exact fun a i q0 => hg_M_4 a i (by first | decide | (rcases hc0 with h | h <;> rw [h] <;> simp; done) | (rcases hb0 with h | h | h <;> rw [h] <;> simp; done) | (simp; done) | omega)
          exact ih32 M_4 (y5_32 + (nI 1)) ⟨(by have f0 := t_lit 1; have f1 := t_add y5_32 (nI 1); have f2 := congrArg Int32.toInt (hf_M32 (b + 4) (ix y5_32) (by first | decide | (rcases hc0 with h | h <;> rw [h] <;> simp; done) | (rcases hb0 with h | h | h <;> rw [h] <;> simp; done) | (simp; done) | omega)); have f3 := congrArg Int32.toInt (hf_M13 (b + 4) (ix y5_32) (by first | decide | (rcases hc0 with h | h <;> rw [h] <;> simp; done) | (rcases hb0 with h | h | h <;> rw [h] <;> simp; done) | (simp; done) | omega)); have f4 := congrArg Int32.toInt ((congrFun (congrFun eM_2 (b + 4)) (ix y5_32)).trans (mset_ne (by first | exact nz1 (by decide) | exact nz2 (by decide) | exact nz1 (nzA hc0 (by decide)) | exact nz1 (nzE (by decide)) | exact nz1 (nzB hc0 (by decide)) | exact nz1 (nzC hc0 (by decide)) | exact nz1 (nzD hc0 (by decide)) | exact nz1 (nzF (by decide)) | exact nz1 (nzG (by decide)) | omega))); have f5 := congrArg Int32.toInt ((congrFun (congrFun eM_1 (b + 4)) (ix y5_32)).trans (mset_ne (by first | exact nz1 (by decide) | exact nz2 (by decide) | exact nz1 (nzA hc0 (by decide)) | exact nz1 (nzE (by decide)) | exact nz1 (nzB hc0 (by decide)) | exact nz1 (nzC hc0 (by decide)) | exact nz1 (nzD hc0 (by decide)) | exact nz1 (nzF (by decide)) | exact nz1 (nzG (by decide)) | omega))); omega), (fun a i q0 => ((hg_M_4 a i (fun z8 => q0 ((fun z9 => Or.elim z9 (fun h9 => Or.inl h9) (fun z9 => Or.elim z9 (fun h9 => Or.inr (Or.inl h9)) (fun z9 => Or.elim z9 (fun h9 => Or.inr (Or.inr (Or.inl h9))) (fun z9 => Or.elim z9 (fun h9 => Or.inr (Or.inr (Or.inr (Or.inl h9)))) (fun z9 => Or.elim z9 (fun h9 => Or.inr (Or.inr (Or.inr (Or.inr (Or.inl h9))))) (fun z9 => Or.elim z9 (fun h9 => Or.inr (Or.inr (Or.inr (Or.inr (Or.inr (Or.inl h9)))))) (fun z9 => Or.elim z9 (fun h9 => Or.inr (Or.inr (Or.inr (Or.inr (Or.inr (Or.inr (Or.inl h9))))))) (fun h9 => Or.inr (Or.inr (Or.inr (Or.inr (Or.inr (Or.inr (Or.inr (h9))))))))))))))) z8))).trans ((hf_M32 a i (fun z8 => q0 ((fun z9 => Or.elim z9 (fun h9 => Or.inl h9) (fun z9 => Or.elim z9 (fun h9 => Or.inr (Or.inl h9)) (fun z9 => Or.elim z9 (fun h9 => Or.inr (Or.inr (Or.inl h9))) (fun z9 => Or.elim z9 (fun h9 => Or.inr (Or.inr (Or.inr (Or.inl h9)))) (fun z9 => Or.elim z9 (fun h9 => Or.inr (Or.inr (Or.inr (Or.inr (Or.inl h9))))) (fun z9 => Or.elim z9 (fun h9 => Or.inr (Or.inr (Or.inr (Or.inr (Or.inr (Or.inl h9)))))) (fun z9 => Or.elim z9 (fun h9 => Or.inr (Or.inr (Or.inr (Or.inr (Or.inr (Or.inr (Or.inl h9))))))) (fun h9 => Or.inr (Or.inr (Or.inr (Or.inr (Or.inr (Or.inr (Or.inr (h9))))))))))))))) z8))).trans rfl)))⟩ (by have f0 := t_lit 1; have f1 := t_add y5_32 (nI 1); have f2 := congrArg Int32.toInt (hf_M32 (b + 4) (ix y5_32) (by first | decide | (rcases hc0 with h | h <;> rw [h] <;> simp; done) | (rcases hb0 with h | h | h <;> rw [h] <;> simp; done) | (simp; done) | omega)); have f3 := congrArg Int32.toInt (hf_M13 (b + 4) (ix y5_32) (by first | decide | (rcases hc0 with h | h <;> rw [h] <;> simp; done) | (rcases hb0 with h | h | h <;> rw [h] <;> simp; done) | (simp; done) | omega)); have f4 := congrArg Int32.toInt ((congrFun (congrFun eM_2 (b + 4)) (ix y5_32)).trans (mset_ne (by first | exact nz1 (by decide) | exact nz2 (by decide) | exact nz1 (nzA hc0 (by decide)) | exact nz1 (nzE (by decide)) | exact nz1 (nzB hc0 (by decide)) | exact nz1 (nzC hc0 (by decide)) | exact nz1 (nzD hc0 (by decide)) | exact nz1 (nzF (by decide)) | exact nz1 (nzG (by decide)) | omega))); have f5 := congrArg Int32.toInt ((congrFun (congrFun eM_1 (b + 4)) (ix y5_32)).trans (mset_ne (by first | exact nz1 (by decide) | exact nz2 (by decide) | exact nz1 (nzA hc0 (by decide)) | exact nz1 (nzE (by decide)) | exact nz1 (nzB hc0 (by decide)) | exact nz1 (nzC hc0 (by decide)) | exact nz1 (nzD hc0 (by decide)) | exact nz1 (nzF (by decide)) | exact nz1 (nzG (by decide)) | omega))); omega)
theorem o_X6_nearest {b : Nat} (hb : isF b) (M : Mem) (v1 : Int32) : Wp (f_X6_nearest b M v1) (fun q => True) := by
  have hb0 : b = 1 ∨ b = 7 ∨ b = 13 := hb
  refine wp_lp2 (fun y2_4 y3_4 => (0 ≤ y3_4.toInt)) (fun y2_4 y3_4 => (40 - y3_4.toInt).toNat) (fun ag4 y2_4 y3_4 hI4 ih4 => ?_) FU (-1) (nI 0) (by have f0 := t_lit 0; omega) (fu_lt (by have f0 := t_lit 0; omega))
  have hi4 := hI4
  refine wp_ite (fun c7 => ?_) (fun c7 => ?_)
  · exact wp_some trivial
  · refine wp_bind2 (o_X2_isTold hb M v1) (fun r_1 he12 hq12 => ?_)
    obtain ⟨hz_r_1, hr_12⟩ := hq12
    replace hr_12 : ¬ r_1.toInt = 0 → 0 ≤ v1.toInt ∧ v1.toInt < 40 := hr_12
    refine wp_ite (fun c15 => ?_) (fun c15 => ?_)
    · exact wp_some trivial
    · refine wp_ite (fun c20 => ?_) (fun c20 => ?_)
      · exact ih4 y2_4 (y3_4 + (nI 1)) (by have f0 := t_lit 1; have f1 := t_add y3_4 (nI 1); omega) (by have f0 := t_lit 1; have f1 := t_add y3_4 (nI 1); omega)
      · refine wp_gd (by omega) ?_
        refine wp_ite (fun c29 => ?_) (fun c29 => ?_)
        · exact ih4 y2_4 (y3_4 + (nI 1)) (by have f0 := t_lit 1; have f1 := t_add y3_4 (nI 1); omega) (by have f0 := t_lit 1; have f1 := t_add y3_4 (nI 1); omega)
        · refine wp_ite (fun c34 => ?_) (fun c34 => ?_)
          · exact ih4 y3_4 (y3_4 + (nI 1)) (by have f0 := t_lit 1; have f1 := t_add y3_4 (nI 1); omega) (by have f0 := t_lit 1; have f1 := t_add y3_4 (nI 1); omega)
          · refine wp_bind2 (o_X2_squares hb M v1 y3_4) (fun r_2 he40 hq40 => ?_)
            refine wp_bind2 (o_X2_squares hb M v1 y2_4) (fun r_3 he46 hq46 => ?_)
            refine wp_ite (fun c49 => ?_) (fun c49 => ?_)
            · exact ih4 y2_4 (y3_4 + (nI 1)) (by have f0 := t_lit 1; have f1 := t_add y3_4 (nI 1); omega) (by have f0 := t_lit 1; have f1 := t_add y3_4 (nI 1); omega)
            · exact ih4 y3_4 (y3_4 + (nI 1)) (by have f0 := t_lit 1; have f1 := t_add y3_4 (nI 1); omega) (by have f0 := t_lit 1; have f1 := t_add y3_4 (nI 1); omega)
theorem o_X6_closest {b : Nat} (hb : isF b) (M : Mem) : Wp (f_X6_closest b M) (fun q => True) := by
  have hb0 : b = 1 ∨ b = 7 ∨ b = 13 := hb
  refine wp_lp2 (fun y1_5 y2_5 => (0 ≤ y2_5.toInt)) (fun y1_5 y2_5 => (40 - y2_5.toInt).toNat) (fun ag5 y1_5 y2_5 hI5 ih5 => ?_) FU (-2) (nI 0) (by have f0 := t_lit 0; omega) (fu_lt (by have f0 := t_lit 0; omega))
  have hi5 := hI5
  refine wp_ite (fun c8 => ?_) (fun c8 => ?_)
  · exact wp_some trivial
  · refine wp_bind2 (o_X6_nearest hb M y2_5) (fun r_1 he13 hq13 => ?_)
    refine wp_ite (fun c19 => ?_) (fun c19 => ?_)
    · exact ih5 y1_5 (y2_5 + (nI 1)) (by have f0 := t_lit 1; have f1 := t_add y2_5 (nI 1); omega) (by have f0 := t_lit 1; have f1 := t_add y2_5 (nI 1); omega)
    · have j38 : Wp (f_X6_closest_L38 b M ag5 y2_5 r_1) (fun q => True) := by
        unfold f_X6_closest_L38
        refine wp_bind2 (o_X2_squares hb M y2_5 r_1) (fun r_2 he41 hq41 => ?_)
        exact ih5 r_2 (y2_5 + (nI 1)) (by have f0 := t_lit 1; have f1 := t_add y2_5 (nI 1); omega) (by have f0 := t_lit 1; have f1 := t_add y2_5 (nI 1); omega)
      refine wp_ite (fun c25 => ?_) (fun c25 => ?_)
      · exact j38
      · refine wp_bind2 (o_X2_squares hb M y2_5 r_1) (fun r_3 he31 hq31 => ?_)
        refine wp_ite (fun c35 => ?_) (fun c35 => ?_)
        · exact ih5 y1_5 (y2_5 + (nI 1)) (by have f0 := t_lit 1; have f1 := t_add y2_5 (nI 1); omega) (by have f0 := t_lit 1; have f1 := t_add y2_5 (nI 1); omega)
        · exact j38
theorem o_X6_countOnLine {b : Nat} (hb : isF b) (M : Mem) (v1 : Int32) (v2 : Int32) : Wp (f_X6_countOnLine b M v1 v2) (fun q => True) := by
  have hb0 : b = 1 ∨ b = 7 ∨ b = 13 := hb
  refine wp_bind2 (o_X2_isTold hb M v1) (fun r_1 he2 hq2 => ?_)
  obtain ⟨hz_r_1, hr_2⟩ := hq2
  replace hr_2 : ¬ r_1.toInt = 0 → 0 ≤ v1.toInt ∧ v1.toInt < 40 := hr_2
  refine wp_ite (fun c5 => ?_) (fun c5 => ?_)
  · exact wp_some trivial
  · refine wp_bind2 (o_X2_isTold hb M v2) (fun r_2 he10 hq10 => ?_)
    obtain ⟨hz_r_2, hr_10⟩ := hq10
    replace hr_10 : ¬ r_2.toInt = 0 → 0 ≤ v2.toInt ∧ v2.toInt < 40 := hr_10
    refine wp_ite (fun c13 => ?_) (fun c13 => ?_)
    · exact wp_some trivial
    · refine wp_gd (by omega) ?_
      refine wp_gd (by omega) ?_
      refine wp_bnd (fun x_3 ex_3 => ?_)
      refine wp_gd (by omega) ?_
      refine wp_gd (by omega) ?_
      refine wp_bnd (fun x_4 ex_4 => ?_)
      refine wp_lp2 (fun y5_53 y6_53 => (0 ≤ y6_53.toInt)) (fun y5_53 y6_53 => (40 - y6_53.toInt).toNat) (fun ag53 y5_53 y6_53 hI53 ih53 => ?_) FU (nI 0) (nI 0) (by have f0 := t_lit 0; omega) (fu_lt (by have f0 := t_lit 0; omega))
      have hi53 := hI53
      refine wp_ite (fun c57 => ?_) (fun c57 => ?_)
      · exact wp_some trivial
      · refine wp_gd (by omega) ?_
        refine wp_ite (fun c67 => ?_) (fun c67 => ?_)
        · exact ih53 y5_53 (y6_53 + (nI 1)) (by have f0 := t_lit 1; have f1 := t_add y6_53 (nI 1); omega) (by have f0 := t_lit 1; have f1 := t_add y6_53 (nI 1); omega)
        · refine wp_gd (by omega) ?_
          refine wp_gd (by omega) ?_
          refine wp_gd (by omega) ?_
          refine wp_gd (by omega) ?_
          refine wp_ite (fun c103 => ?_) (fun c103 => ?_)
          · exact ih53 (y5_53 + (nI 1)) (y6_53 + (nI 1)) (by have f0 := t_lit 1; have f1 := t_add y6_53 (nI 1); have f2 := t_sub (M (b + 2) (ix y6_53)) (M (b + 2) (ix v1)); have f3 := t_sub (M (b + 1) (ix v2)) (M (b + 1) (ix v1)); have f4 := congrArg Int32.toInt ex_3; have f5 := t_sub (M (b + 1) (ix y6_53)) (M (b + 1) (ix v1)); have f6 := t_sub (M (b + 2) (ix v2)) (M (b + 2) (ix v1)); have f7 := congrArg Int32.toInt ex_4; omega) (by have f0 := t_lit 1; have f1 := t_add y6_53 (nI 1); have f2 := t_sub (M (b + 2) (ix y6_53)) (M (b + 2) (ix v1)); have f3 := t_sub (M (b + 1) (ix v2)) (M (b + 1) (ix v1)); have f4 := congrArg Int32.toInt ex_3; have f5 := t_sub (M (b + 1) (ix y6_53)) (M (b + 1) (ix v1)); have f6 := t_sub (M (b + 2) (ix v2)) (M (b + 2) (ix v1)); have f7 := congrArg Int32.toInt ex_4; omega)
          · exact ih53 y5_53 (y6_53 + (nI 1)) (by have f0 := t_lit 1; have f1 := t_add y6_53 (nI 1); have f2 := t_sub (M (b + 2) (ix y6_53)) (M (b + 2) (ix v1)); have f3 := t_sub (M (b + 1) (ix v2)) (M (b + 1) (ix v1)); have f4 := congrArg Int32.toInt ex_3; have f5 := t_sub (M (b + 1) (ix y6_53)) (M (b + 1) (ix v1)); have f6 := t_sub (M (b + 2) (ix v2)) (M (b + 2) (ix v1)); have f7 := congrArg Int32.toInt ex_4; omega) (by have f0 := t_lit 1; have f1 := t_add y6_53 (nI 1); have f2 := t_sub (M (b + 2) (ix y6_53)) (M (b + 2) (ix v1)); have f3 := t_sub (M (b + 1) (ix v2)) (M (b + 1) (ix v1)); have f4 := congrArg Int32.toInt ex_3; have f5 := t_sub (M (b + 1) (ix y6_53)) (M (b + 1) (ix v1)); have f6 := t_sub (M (b + 2) (ix v2)) (M (b + 2) (ix v1)); have f7 := congrArg Int32.toInt ex_4; omega)
theorem o_X6_line {b : Nat} (hb : isF b) (M : Mem) : Wp (f_X6_line b M) (fun q => True) := by
  have hb0 : b = 1 ∨ b = 7 ∨ b = 13 := hb
  refine wp_bind2 (o_X2_countTold hb M) (fun r_1 he2 hq2 => ?_)
  refine wp_bnd (fun x_2 ex_2 => ?_)
  refine wp_lp2 (fun y1_11 y2_11 => (0 ≤ y2_11.toInt)) (fun y1_11 y2_11 => (40 - y2_11.toInt).toNat) (fun ag11 y1_11 y2_11 hI11 ih11 => ?_) FU x_2 (nI 0) (by have f0 := t_lit 0; omega) (fu_lt (by have f0 := t_lit 0; omega))
  have hi11 := hI11
  refine wp_ite (fun c14 => ?_) (fun c14 => ?_)
  · exact wp_some trivial
  · refine wp_lp2 (fun y1_21 y3_21 => ((y2_11 + (nI 1)).toInt ≤ y3_21.toInt) ∧ (0 ≤ y3_21.toInt)) (fun y1_21 y3_21 => (40 - y3_21.toInt).toNat) (fun ag21 y1_21 y3_21 hI21 ih21 => ?_) FU y1_11 (y2_11 + (nI 1)) ⟨(by have f0 := t_lit 1; have f1 := t_add y2_11 (nI 1); omega), (by have f0 := t_lit 1; have f1 := t_add y2_11 (nI 1); omega)⟩ (fu_lt (by have f0 := t_lit 1; have f1 := t_add y2_11 (nI 1); omega))
    obtain ⟨hi21, hp⟩ := hI21
    refine wp_ite (fun c24 => ?_) (fun c24 => ?_)
    · exact ih11 y1_21 (y2_11 + (nI 1)) (by have f0 := t_lit 1; have f1 := t_add y2_11 (nI 1); omega) (by have f0 := t_lit 1; have f1 := t_add y2_11 (nI 1); omega)
    · refine wp_gd (by omega) ?_
      refine wp_ite (fun c33 => ?_) (fun c33 => ?_)
      · exact ih21 y1_21 (y3_21 + (nI 1)) ⟨(by have f0 := t_lit 1; have f1 := t_add y3_21 (nI 1); omega), (by have f0 := t_lit 1; have f1 := t_add y3_21 (nI 1); omega)⟩ (by have f0 := t_lit 1; have f1 := t_add y3_21 (nI 1); omega)
      · refine wp_gd (by omega) ?_
        refine wp_ite (fun c42 => ?_) (fun c42 => ?_)
        · exact ih21 y1_21 (y3_21 + (nI 1)) ⟨(by have f0 := t_lit 1; have f1 := t_add y3_21 (nI 1); omega), (by have f0 := t_lit 1; have f1 := t_add y3_21 (nI 1); omega)⟩ (by have f0 := t_lit 1; have f1 := t_add y3_21 (nI 1); omega)
        · refine wp_bind2 (o_X6_countOnLine hb M y2_11 y3_21) (fun r_3 he49 hq49 => ?_)
          refine wp_bnd (fun x_4 ex_4 => ?_)
          exact ih21 x_4 (y3_21 + (nI 1)) ⟨(by have f0 := t_lit 1; have f1 := t_add y3_21 (nI 1); omega), (by have f0 := t_lit 1; have f1 := t_add y3_21 (nI 1); omega)⟩ (by have f0 := t_lit 1; have f1 := t_add y3_21 (nI 1); omega)
theorem o_X6_pairs {b : Nat} (hb : isF b) (M : Mem) : Wp (f_X6_pairs b M) (fun q => True) := by
  have hb0 : b = 1 ∨ b = 7 ∨ b = 13 := hb
  refine wp_lp2 (fun y1_4 y2_4 => (0 ≤ y2_4.toInt)) (fun y1_4 y2_4 => (40 - y2_4.toInt).toNat) (fun ag4 y1_4 y2_4 hI4 ih4 => ?_) FU (nI 0) (nI 0) (by have f0 := t_lit 0; omega) (fu_lt (by have f0 := t_lit 0; omega))
  have hi4 := hI4
  refine wp_ite (fun c7 => ?_) (fun c7 => ?_)
  · exact wp_some trivial
  · refine wp_bind2 (o_X6_nearest hb M y2_4) (fun r_1 he12 hq12 => ?_)
    refine wp_ite (fun c18 => ?_) (fun c18 => ?_)
    · exact ih4 y1_4 (y2_4 + (nI 1)) (by have f0 := t_lit 1; have f1 := t_add y2_4 (nI 1); omega) (by have f0 := t_lit 1; have f1 := t_add y2_4 (nI 1); omega)
    · refine wp_bind2 (o_X6_nearest hb M r_1) (fun r_2 he23 hq23 => ?_)
      refine wp_ite (fun c27 => ?_) (fun c27 => ?_)
      · exact ih4 (y1_4 + (nI 1)) (y2_4 + (nI 1)) (by have f0 := t_lit 1; have f1 := t_add y2_4 (nI 1); omega) (by have f0 := t_lit 1; have f1 := t_add y2_4 (nI 1); omega)
      · exact ih4 y1_4 (y2_4 + (nI 1)) (by have f0 := t_lit 1; have f1 := t_add y2_4 (nI 1); omega) (by have f0 := t_lit 1; have f1 := t_add y2_4 (nI 1); omega)
theorem o_X6_yardApart {b : Nat} (hb : isF b) (M : Mem) : Wp (f_X6_yardApart b M) (fun q => True) := by
  have hb0 : b = 1 ∨ b = 7 ∨ b = 13 := hb
  refine wp_lp2 (fun y1_4 y2_4 => (0 ≤ y2_4.toInt)) (fun y1_4 y2_4 => (40 - y2_4.toInt).toNat) (fun ag4 y1_4 y2_4 hI4 ih4 => ?_) FU (nI 0) (nI 0) (by have f0 := t_lit 0; omega) (fu_lt (by have f0 := t_lit 0; omega))
  have hi4 := hI4
  refine wp_ite (fun c7 => ?_) (fun c7 => ?_)
  · exact wp_some trivial
  · refine wp_gd (by omega) ?_
    refine wp_ite (fun c16 => ?_) (fun c16 => ?_)
    · exact ih4 y1_4 (y2_4 + (nI 1)) (by have f0 := t_lit 1; have f1 := t_add y2_4 (nI 1); omega) (by have f0 := t_lit 1; have f1 := t_add y2_4 (nI 1); omega)
    · refine wp_lp1 (fun y3_21 => (1 ≤ y3_21.toInt)) (fun y3_21 => (20 - y3_21.toInt).toNat) (fun ag21 y3_21 hI21 ih21 => ?_) FU (nI 1) (by have f0 := t_lit 1; omega) (fu_lt (by have f0 := t_lit 1; omega))
      have hi21 := hI21
      have j55 : Wp (f_X6_yardApart_L55 ag4 y1_4 y2_4 y3_21) (fun q => True) := by
        unfold f_X6_yardApart_L55
        refine wp_bnd (fun x_1 ex_1 => ?_)
        exact ih4 x_1 (y2_4 + (nI 1)) (by have f0 := t_lit 1; have f1 := t_add y2_4 (nI 1); omega) (by have f0 := t_lit 1; have f1 := t_add y2_4 (nI 1); omega)
      refine wp_ite (fun c24 => ?_) (fun c24 => ?_)
      · exact j55
      · refine wp_gd (by omega) ?_
        refine wp_gd (by omega) ?_
        refine wp_bind2 (o_X2_stoneAt hb M (M (b + 1) (ix y2_4)) ((M (b + 2) (ix y2_4)) + y3_21)) (fun r_2 he42 hq42 => ?_)
        refine wp_ite (fun c46 => ?_) (fun c46 => ?_)
        · exact j55
        · exact ih21 (y3_21 + (nI 1)) (by have f0 := t_lit 1; have f1 := t_add y3_21 (nI 1); omega) (by have f0 := t_lit 1; have f1 := t_add y3_21 (nI 1); omega)
theorem o_X7_append (M : Mem) (v1 : Int32) : Wp (f_X7_append M v1) (fun q => (∀ a i, ¬ ((a = 19 ∧ i = 1) ∨ a = 20) → q a i = M a i)) := by
  refine wp_lp2 (fun M3 y2_3 => (y2_3.toInt ≤ 24) ∧ (∀ a i, ¬ ((a = 19 ∧ i = 1) ∨ a = 20) → M3 a i = M a i)) (fun M3 y2_3 => (y2_3.toInt - 0 + 1).toNat) (fun ag3 M3 y2_3 hI3 ih3 => ?_) FU M (nI 24) ⟨(by have f0 := t_lit 24; omega), (fun _ _ _ => rfl)⟩ (fu_lt (by have f0 := t_lit 24; omega))
  obtain ⟨hi3, hf_M3⟩ := hI3
  refine wp_ite (fun c4 => ?_) (fun c4 => ?_)
  · exact wp_some (fun a i q0 => ((hf_M3 a i (fun z8 => q0 ((fun z9 => Or.elim z9 (fun h9 => Or.inl h9) (fun h9 => Or.inr (h9))) z8))).trans rfl))
  · refine wp_ite (fun c11 => ?_) (fun c11 => ?_)
    · exact ih3 M3 (y2_3 + (-8)) ⟨(by have f0 := (by decide : ((-8 : Int32)).toInt = -8); have f1 := t_add y2_3 (-8); omega), (fun a i q0 => ((hf_M3 a i (fun z8 => q0 ((fun z9 => Or.elim z9 (fun h9 => Or.inl h9) (fun h9 => Or.inr (h9))) z8))).trans rfl))⟩ (by have f0 := (by decide : ((-8 : Int32)).toInt = -8); have f1 := t_add y2_3 (-8); omega)
    · refine wp_ite (fun c21 => ?_) (fun c21 => ?_)
      · exact ih3 M3 (y2_3 + (-8)) ⟨(by have f0 := (by decide : ((-8 : Int32)).toInt = -8); have f1 := t_add y2_3 (-8); omega), (fun a i q0 => ((hf_M3 a i (fun z8 => q0 ((fun z9 => Or.elim z9 (fun h9 => Or.inl h9) (fun h9 => Or.inr (h9))) z8))).trans rfl))⟩ (by have f0 := (by decide : ((-8 : Int32)).toInt = -8); have f1 := t_add y2_3 (-8); omega)
      · refine wp_gd (by omega) ?_
        refine wp_bnd (fun M_1 eM_1 => ?_)
        refine wp_bnd (fun M_2 eM_2 => ?_)
        exact ih3 M_2 (y2_3 + (-8)) ⟨(by have f0 := (by decide : ((-8 : Int32)).toInt = -8); have f1 := t_add y2_3 (-8); omega), (fun a i q0 => ((congrFun (congrFun eM_2 a) i).trans ((mset_ne (fun h9 => q0 (Or.inl h9))).trans ((congrFun (congrFun eM_1 a) i).trans ((mset_ne (fun h9 => q0 (Or.inr ((h9).1)))).trans ((hf_M3 a i (fun z8 => q0 ((fun z9 => Or.elim z9 (fun h9 => Or.inl h9) (fun h9 => Or.inr (h9))) z8))).trans rfl))))))⟩ (by have f0 := (by decide : ((-8 : Int32)).toInt = -8); have f1 := t_add y2_3 (-8); omega)
theorem o_X7_holds (M : Mem) (v1 : Int32) (v2 : Int32) (v3 : Int32) : Wp (f_X7_holds M v1 v2 v3) (fun q => (q = 0 ∨ q = 1) ∧ (¬ q.toInt = 0 → v2.toInt ≤ v1.toInt ∧ v1.toInt ≤ v3.toInt ∧ v1.toInt ≤ (M 19 1).toInt)) := by
  refine wp_ite (fun c2 => ?_) (fun c2 => ?_)
  · exact wp_some ⟨b01_0, (by show ¬ (nI 0).toInt = 0 → v2.toInt ≤ v1.toInt ∧ v1.toInt ≤ v3.toInt ∧ v1.toInt ≤ (M 19 1).toInt; have f0 := t_lit 0; omega)⟩
  · refine wp_ite (fun c7 => ?_) (fun c7 => ?_)
    · exact wp_some ⟨b01_0, (by show ¬ (nI 0).toInt = 0 → v2.toInt ≤ v1.toInt ∧ v1.toInt ≤ v3.toInt ∧ v1.toInt ≤ (M 19 1).toInt; have f0 := t_lit 0; omega)⟩
    · refine wp_ite (fun c15 => ?_) (fun c15 => ?_)
      · exact wp_some ⟨b01_0, (by show ¬ (nI 0).toInt = 0 → v2.toInt ≤ v1.toInt ∧ v1.toInt ≤ v3.toInt ∧ v1.toInt ≤ (M 19 1).toInt; have f0 := t_lit 0; omega)⟩
      · exact wp_some ⟨b01_1, (by show ¬ (nI 1).toInt = 0 → v2.toInt ≤ v1.toInt ∧ v1.toInt ≤ v3.toInt ∧ v1.toInt ≤ (M 19 1).toInt; have f0 := t_lit 1; omega)⟩
theorem o_X7_open (M : Mem) (v1 : Int32) : Wp (f_X7_open M v1) (fun q => (∀ a i, ¬ ((a = 19 ∧ i = 1) ∨ (a = 19 ∧ i = 2) ∨ (a = 19 ∧ i = 3) ∨ (a = 19 ∧ i = 4)) → q a i = M a i)) := by
  refine wp_bnd (fun M_1 eM_1 => ?_)
  refine wp_bnd (fun M_2 eM_2 => ?_)
  refine wp_bnd (fun M_3 eM_3 => ?_)
  refine wp_bnd (fun M_4 eM_4 => ?_)
  exact wp_some (fun a i q0 => ((congrFun (congrFun eM_4 a) i).trans ((mset_ne (fun h9 => q0 (Or.inl h9))).trans ((congrFun (congrFun eM_3 a) i).trans ((mset_ne (fun h9 => q0 (Or.inr (Or.inr (Or.inr (h9)))))).trans ((congrFun (congrFun eM_2 a) i).trans ((mset_ne (fun h9 => q0 (Or.inr (Or.inr (Or.inl h9))))).trans ((congrFun (congrFun eM_1 a) i).trans ((mset_ne (fun h9 => q0 (Or.inr (Or.inl h9)))).trans rfl)))))))))
theorem o_X8_spreadOn {b : Nat} (hb : isF b) {k len_k : Nat} (hlk : len_k < 2 ^ 31) (M : Mem) (v2 : Int32) (v3 : Int32) (v5 : Int32) : Wp (f_X8_spreadOn b k len_k M v2 v3 v5) (fun q => (∀ a i, ¬ (a = 26 ∨ a = k) → q.2 a i = M a i)) := by
  have hb0 : b = 1 ∨ b = 7 ∨ b = 13 := hb
  have hlk1 := nI_toInt hlk
  refine wp_ite (fun c1 => ?_) (fun c1 => ?_)
  · exact wp_some (fun _ _ _ => rfl)
  · refine wp_ite (fun c7 => ?_) (fun c7 => ?_)
    · exact wp_some (fun _ _ _ => rfl)
    · refine wp_ite (fun c15 => ?_) (fun c15 => ?_)
      · refine wp_gd (by omega) ?_
        refine wp_bnd (fun M_1 eM_1 => ?_)
        refine wp_bnd (fun M_2 eM_2 => ?_)
        refine wp_lp3 (fun M38 y6_38 y7_38 => (0 ≤ y7_38.toInt) ∧ (∀ a i, ¬ (a = 26 ∨ a = k) → M38 a i = M_2 a i) ∧ (0 ≤ y6_38.toInt)) (fun M38 y6_38 y7_38 => (42 - y7_38.toInt).toNat) (fun ag38 M38 y6_38 y7_38 hI38 ih38 => ?_) FU M_2 (nI 1) (nI 0) ⟨(by have f0 := t_lit 0; omega), (fun _ _ _ => rfl), (by decide)⟩ (fu_lt (by have f0 := t_lit 0; omega))
        obtain ⟨hi38, hf_M38, ht⟩ := hI38
        refine wp_ite (fun c42 => ?_) (fun c42 => ?_)
        · exact wp_some (fun a i q0 => ((hf_M38 a i (fun z8 => q0 ((fun z9 => Or.elim z9 (fun h9 => Or.inl h9) (fun h9 => Or.inr (h9))) z8))).trans ((congrFun (congrFun eM_2 a) i).trans ((mset_ne (fun h9 => q0 (Or.inl (h9).1))).trans ((congrFun (congrFun eM_1 a) i).trans ((mset_ne (fun h9 => q0 (Or.inr ((h9).1)))).trans rfl))))))
        · refine wp_ite (fun c49 => ?_) (fun c49 => ?_)
          · exact wp_some (fun a i q0 => ((hf_M38 a i (fun z8 => q0 ((fun z9 => Or.elim z9 (fun h9 => Or.inl h9) (fun h9 => Or.inr (h9))) z8))).trans ((congrFun (congrFun eM_2 a) i).trans ((mset_ne (fun h9 => q0 (Or.inl (h9).1))).trans ((congrFun (congrFun eM_1 a) i).trans ((mset_ne (fun h9 => q0 (Or.inr ((h9).1)))).trans rfl))))))
          · refine wp_gd (by omega) ?_
            refine wp_bnd (fun x_3 ex_3 => ?_)
            have j84 : ∀ (t0_84 : Int32), Wp (f_X8_spreadOn_L84 b k len_k v2 v5 ag38 M38 y6_38 y7_38 x_3 t0_84) (fun q => (∀ a i, ¬ (a = 26 ∨ a = k) → q.2 a i = M a i)) := by
              intro t0_84
              unfold f_X8_spreadOn_L84
              refine wp_lp3 (fun M89 y6_89 y10_89 => (0 ≤ y10_89.toInt) ∧ (∀ a i, ¬ (a = 26 ∨ a = k) → M89 a i = M38 a i) ∧ (0 ≤ y6_89.toInt)) (fun M89 y6_89 y10_89 => (42 - y10_89.toInt).toNat) (fun ag89 M89 y6_89 y10_89 hI89 ih89 => ?_) FU M38 y6_38 (nI 0) ⟨(by have f0 := t_lit 0; omega), (fun _ _ _ => rfl), ht⟩ (fu_lt (by have f0 := t_lit 0; omega))
              obtain ⟨hi89, hf_M89, ht9⟩ := hI89
              refine wp_ite (fun c93 => ?_) (fun c93 => ?_)
              · exact ih38 M89 y6_89 (y7_38 + (nI 1)) ⟨(by have f0 := t_lit 1; have f1 := t_add y7_38 (nI 1); omega), (fun a i q0 => ((hf_M89 a i (fun z8 => q0 ((fun z9 => Or.elim z9 (fun h9 => Or.inl h9) (fun h9 => Or.inr (h9))) z8))).trans ((hf_M38 a i (fun z8 => q0 ((fun z9 => Or.elim z9 (fun h9 => Or.inl h9) (fun h9 => Or.inr (h9))) z8))).trans rfl))), ht9⟩ (by have f0 := t_lit 1; have f1 := t_add y7_38 (nI 1); omega)
              · refine wp_ite (fun c100 => ?_) (fun c100 => ?_)
                · exact ih38 M89 y6_89 (y7_38 + (nI 1)) ⟨(by have f0 := t_lit 1; have f1 := t_add y7_38 (nI 1); omega), (fun a i q0 => ((hf_M89 a i (fun z8 => q0 ((fun z9 => Or.elim z9 (fun h9 => Or.inl h9) (fun h9 => Or.inr (h9))) z8))).trans ((hf_M38 a i (fun z8 => q0 ((fun z9 => Or.elim z9 (fun h9 => Or.inl h9) (fun h9 => Or.inr (h9))) z8))).trans rfl))), ht9⟩ (by have f0 := t_lit 1; have f1 := t_add y7_38 (nI 1); omega)
                · refine wp_gd (by omega) ?_
                  refine wp_ite (fun c109 => ?_) (fun c109 => ?_)
                  · refine wp_ite (fun c116 => ?_) (fun c116 => ?_)
                    · exact ih89 M89 y6_89 (y10_89 + (nI 1)) ⟨(by have f0 := t_lit 1; have f1 := t_add y10_89 (nI 1); omega), (fun a i q0 => ((hf_M89 a i (fun z8 => q0 ((fun z9 => Or.elim z9 (fun h9 => Or.inl h9) (fun h9 => Or.inr (h9))) z8))).trans rfl)), (by omega)⟩ (by have f0 := t_lit 1; have f1 := t_add y10_89 (nI 1); omega)
                    · refine wp_bind2 (o_X2_isStep hb M89 x_3 y10_89 v2) (fun r_4 he125 hq125 => ?_)
                      have hz_r_4 := hq125
                      refine wp_ite (fun c128 => ?_) (fun c128 => ?_)
                      · exact ih89 M89 y6_89 (y10_89 + (nI 1)) ⟨(by have f0 := t_lit 1; have f1 := t_add y10_89 (nI 1); omega), (fun a i q0 => ((hf_M89 a i (fun z8 => q0 ((fun z9 => Or.elim z9 (fun h9 => Or.inl h9) (fun h9 => Or.inr (h9))) z8))).trans rfl)), (by omega)⟩ (by have f0 := t_lit 1; have f1 := t_add y10_89 (nI 1); omega)
                      · refine wp_gd (by omega) ?_
                        refine wp_bnd (fun M_5 eM_5 => ?_)
                        refine wp_gd (by omega) ?_
                        refine wp_bnd (fun M_6 eM_6 => ?_)
                        exact ih89 M_6 (y6_89 + (nI 1)) (y10_89 + (nI 1)) ⟨(by have f0 := t_lit 1; have f1 := t_add y10_89 (nI 1); omega), (fun a i q0 => ((congrFun (congrFun eM_6 a) i).trans ((mset_ne (fun h9 => q0 (Or.inl (h9).1))).trans ((congrFun (congrFun eM_5 a) i).trans ((mset_ne (fun h9 => q0 (Or.inr ((h9).1)))).trans ((hf_M89 a i (fun z8 => q0 ((fun z9 => Or.elim z9 (fun h9 => Or.inl h9) (fun h9 => Or.inr (h9))) z8))).trans rfl)))))), (by have f0 := t_lit 1; have f1 := t_add y6_89 (nI 1); omega)⟩ (by have f0 := t_lit 1; have f1 := t_add y10_89 (nI 1); omega)
                  · exact ih89 M89 y6_89 (y10_89 + (nI 1)) ⟨(by have f0 := t_lit 1; have f1 := t_add y10_89 (nI 1); omega), (fun a i q0 => ((hf_M89 a i (fun z8 => q0 ((fun z9 => Or.elim z9 (fun h9 => Or.inl h9) (fun h9 => Or.inr (h9))) z8))).trans rfl)), (by omega)⟩ (by have f0 := t_lit 1; have f1 := t_add y10_89 (nI 1); omega)
            have j83 : Wp (f_X8_spreadOn_L83 b k len_k v2 v5 ag38 M38 y6_38 y7_38 x_3) (fun q => (∀ a i, ¬ (a = 26 ∨ a = k) → q.2 a i = M a i)) := by
              unfold f_X8_spreadOn_L83
              exact j84 (nI 0)
            refine wp_ite (fun c63 => ?_) (fun c63 => ?_)
            · exact j83
            · refine wp_ite (fun c70 => ?_) (fun c70 => ?_)
              · exact j83
              · refine wp_gd (by have f0 := congrArg Int32.toInt ex_3; omega) ?_
                exact j84 ((M38 k (ix x_3)) + (nI 1))
      · exact wp_some (fun _ _ _ => rfl)
theorem o_X8_spread {b : Nat} (hb : isF b) {k len_k : Nat} (hlk : len_k < 2 ^ 31) (M : Mem) (v2 : Int32) (v3 : Int32) (v5 : Int32) : Wp (f_X8_spread b k len_k M v2 v3 v5) (fun q => (∀ a i, ¬ (a = 26 ∨ a = k) → q.2 a i = M a i)) := by
  have hb0 : b = 1 ∨ b = 7 ∨ b = 13 := hb
  refine wp_bind2 (o_J7_fill_53178 hlk M (-1)) (fun M_1 he3 hq3 => ?_)
  have hg_M_1 := hq3
  replace hg_M_1 : ∀ a i, ¬ (a = k) → M_1 a i = M a i := by exact fun a i q0 => hg_M_1 a i (by first | decide | (rcases hc0 with h | h <;> rw [h] <;> simp; done) | (rcases hb0 with h | h | h <;> rw [h] <;> simp; done) | (simp; done) | omega)
  refine wp_cb2 (o_X8_spreadOn hb hlk M_1 v2 v3 v5) (fun r_2 M_3 he14 hq14 => ?_)
  have hg_M_3 := hq14
  replace hg_M_3 : ∀ a i, ¬ (a = 26 ∨ a = k) → M_3 a i = M_1 a i := by exact fun a i q0 => hg_M_3 a i (by first | decide | (rcases hc0 with h | h <;> rw [h] <;> simp; done) | (rcases hb0 with h | h | h <;> rw [h] <;> simp; done) | (simp; done) | omega)
  exact wp_some (fun a i q0 => ((hg_M_3 a i (fun z8 => q0 ((fun z9 => Or.elim z9 (fun h9 => Or.inl h9) (fun h9 => Or.inr (h9))) z8))).trans ((hg_M_1 a i (fun h9 => q0 (Or.inr (h9)))).trans rfl)))
