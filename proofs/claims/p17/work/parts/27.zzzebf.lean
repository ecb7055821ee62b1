theorem oh_X1_weave (M : Mem) (v1 : Int32) (g9 : Mem) (s9 : Int) (n9 : Nat) (p9 : Nat → Nat) (hp : PthP g9 s9 (bfM M) (cfM M) n9 p9) (hp0 : v1.toInt = (p9 0 : Int)) : Wp (f_X1_weave M v1) (fun q => (∀ a i, ¬ (a = 31) → q a i = M a i) ∧ (NwP (bfM M) (bfM q) n9 p9)) := by
  refine wp_lp4 (fun M8 y2_8 y3_8 y4_8 => (0 ≤ y4_8.toInt) ∧ (∀ a i, ¬ (a = 31) → M8 a i = M a i) ∧ (WvI n9 p9 (bfM M) (bfM M8) y2_8.toInt y3_8.toInt (ix y4_8))) (fun M8 y2_8 y3_8 y4_8 => (80 + 1 - y4_8.toInt).toNat) (fun ag8 M8 y2_8 y3_8 y4_8 hI8 ih8 => ?_) FU M v1 (nI 41) (nI 0) ⟨(by have f0 := t_lit 0; omega), (fun _ _ _ => rfl), (by rw [show ix (nI 0) = 0 from (by decide), show (nI 41).toInt = 41 from t_lit 41]; exact wv_0 hp0)⟩ (fu_lt (by have f0 := t_lit 0; omega))
  obtain ⟨hi8, hf_M8, hwv⟩ := hI8
  have c8 : ∀ j, (M8 32 j).toInt = cfM M j := fun j => congrArg Int32.toInt (hf_M8 32 j (by first | decide | (rcases hc0 with h | h <;> rw [h] <;> simp; done) | (rcases hb0 with h | h | h <;> rw [h] <;> simp; done) | (simp; done) | omega))
  refine wp_ite (fun c12 => ?_) (fun c12 => ?_)
  · exact wp_some ⟨(fun a i q0 => ((hf_M8 a i (fun h9 => q0 (h9))).trans rfl)), (wv_x hp hwv (by have z := t_ixn y4_8 (by omega); omega))⟩
  · have u := i_up (x := y4_8) (by omega)
    refine wp_ite (fun c16 => ?_) (fun c16 => ?_)
    · exact wp_some ⟨(fun a i q0 => ((hf_M8 a i (fun h9 => q0 (h9))).trans rfl)), (wv_x hp hwv (by have z := t_ixn y4_8 (by omega); omega))⟩
    · refine wp_ite (fun c22 => ?_) (fun c22 => ?_)
      · exact wp_some ⟨(fun a i q0 => ((hf_M8 a i (fun h9 => q0 (h9))).trans rfl)), (wv_x hp hwv (by have z := t_ixn y4_8 (by omega); omega))⟩
      · have j62 : ∀ (N62 : Mem), (∀ a i, ¬ (a = 31) → N62 a i = M8 a i) → (WvI n9 p9 (bfM M) (bfM N62) (cfM M (ix y2_8)) y2_8.toInt (ix y4_8 + 1)) → Wp (f_X1_weave_L62 ag8 y2_8 y4_8 N62) (fun q => (∀ a i, ¬ (a = 31) → q a i = M a i) ∧ (NwP (bfM M) (bfM q) n9 p9)) := by
          intro N62 hf_N62 h62
          unfold f_X1_weave_L62
          refine wp_gd (by omega) ?_
          refine wp_bnd (fun x_1 ex_1 => ?_)
          have x1 : x_1.toInt = cfM M (ix y2_8) := by
            rw [ex_1, hf_N62 32 (ix y2_8) (by first | decide | (rcases hc0 with h | h <;> rw [h] <;> simp; done) | (rcases hb0 with h | h | h <;> rw [h] <;> simp; done) | (simp; done) | omega)]
            exact c8 _
          exact ih8 N62 x_1 y2_8 (y4_8 + (nI 1)) ⟨(by have f0 := t_lit 1; have f1 := t_add y4_8 (nI 1); omega), (fun a i q0 => ((hf_N62 a i (fun h9 => q0 (h9))).trans ((hf_M8 a i (fun h9 => q0 (h9))).trans rfl))), (by rw [u.1, x1]; exact h62)⟩ (by have f0 := t_lit 1; have f1 := t_add y4_8 (nI 1); omega)
        refine wp_ite (fun c28 => ?_) (fun c28 => ?_)
        · refine wp_gd (by omega) ?_
          refine wp_ite (fun c51 => ?_) (fun c51 => ?_)
          · refine wp_gd (by have f0 := congrArg Int32.toInt (hf_M8 32 (ix y2_8) (by first | decide | (rcases hc0 with h | h <;> rw [h] <;> simp; done) | (rcases hb0 with h | h | h <;> rw [h] <;> simp; done) | (simp; done) | omega)); omega) ?_
            refine wp_bnd (fun M_2 eM_2 => ?_)
            exact j62 M_2 (fun a i q0 => ((congrFun (congrFun eM_2 a) i).trans ((mset_ne (fun h9 => q0 ((h9).1))).trans rfl))) (wv_2 hp hwv c16 c28 (by rw [← c8]; exact c51) eM_2)
          · exact j62 M8 (fun _ _ _ => rfl) (wv_1 hp hwv c16 c28 (by rw [← c8]; exact c51))
        · refine wp_bind2 (oh_X1_join M8 (y2_8 - (nI 40)) y3_8) (fun M_3 he37 hq37 => ?_)
          obtain ⟨hg_M_3, hjn_37⟩ := hq37
          replace hjn_37 : JnP M8 M_3 (y2_8 - (nI 40)) y3_8 := hjn_37
          replace hg_M_3 : ∀ a i, ¬ (a = 31) → M_3 a i = M8 a i := hg_M_3
          exact j62 M_3 (fun a i q0 => ((hg_M_3 a i (fun h9 => q0 (h9))).trans rfl)) (wv_3 hp hwv c16 c28 hjn_37)
