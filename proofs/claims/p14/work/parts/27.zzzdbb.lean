set_option maxHeartbeats 2000000 in
theorem od_X8_settle {b : Nat} (hb : isF b) (M : Mem) (v2 : Int32) (v3 : Int32) (hGd : GdF (FdC M b)) (hs : 1 ≤ v2.toInt ∧ v2.toInt ≤ 30) (hv3 : 0 ≤ v3.toInt ∧ v3.toInt < 42) (hD : ∀ v, v < 42 → -1 ≤ (M 28 v).toInt ∧ (M 28 v).toInt ≤ 37842) : Wp (f_X8_settle b M v2 v3) (fun q => (∀ a i, ¬ (a = 28 ∨ a = 29) → q a i = M a i) ∧ (SeP (FdC M b) v2.toInt (ix v3) 42 (M 28) (M 29) (q 28) (q 29))) := by
  have hb0 : b = 1 ∨ b = 7 ∨ b = 13 := hb
  refine wp_ite (fun c1 => ?_) (fun c1 => ?_)
  · exact wp_some ⟨(fun _ _ _ => rfl), (False.elim (by omega))⟩
  · refine wp_ite (fun c7 => ?_) (fun c7 => ?_)
    · refine wp_gd (by omega) ?_
      refine wp_bnd (fun M_1 eM_1 => ?_)
      refine wp_lp2 (fun M21 y4_21 => (0 ≤ y4_21.toInt) ∧ (∀ a i, ¬ (a = 28) → M21 a i = M_1 a i) ∧ (SeP (FdC M b) v2.toInt (ix v3) (ix y4_21) (M 28) (M 29) (M21 28) (M21 29)) ∧ (y4_21.toInt ≤ 42)) (fun M21 y4_21 => (42 - y4_21.toInt).toNat) (fun ag21 M21 y4_21 hI21 ih21 => ?_) FU M_1 (nI 0) ⟨(by have f0 := t_lit 0; omega), (fun _ _ _ => rfl), (by rw [show ix (nI 0) = 0 from (by decide), show M_1 28 = M 28 from funext (fun v => by rw [eM_1, mset_ne (by first | exact nz1 (by decide) | exact nz2 (by decide) | exact nz1 (nzA hc0 (by decide)) | exact nz1 (nzE (by decide)) | exact nz1 (nzB hc0 (by decide)) | exact nz1 (nzC hc0 (by decide)) | exact nz1 (nzD hc0 (by decide)) | exact nz1 (nzF (by decide)) | exact nz1 (nzG (by decide)) | omega)])]; exact se_0 (by rw [eM_1, mset_eq]; decide) (fun v hv => by rw [eM_1, mset_ne (fun z => hv z.2)])), (by decide)⟩ (fu_lt (by have f0 := t_lit 0; omega))
      obtain ⟨hi21, hf_M21, hse, y442⟩ := hI21
      refine wp_ite (fun c25 => ?_) (fun c25 => ?_)
      · exact wp_some ⟨(fun a i q0 => ((hf_M21 a i (fun h9 => q0 (Or.inl h9))).trans ((congrFun (congrFun eM_1 a) i).trans ((mset_ne (fun h9 => q0 (Or.inr ((h9).1)))).trans rfl)))), (by rw [show (42 : Nat) = ix y4_21 from (by have z := t_ixn y4_21 (by omega); omega)]; exact hse)⟩
      · have b9 : b + 5 < 28 := by unfold isF at hb; omega
        have u := i_up (x := y4_21) (by omega)
        have i4 := t_ixn y4_21 (by omega)
        have i3 := t_ixn v3 hv3.1
        have m1 : ∀ a i, ¬ a = 29 → M_1 a i = M a i := fun a i q => by rw [eM_1, mset_ne (fun z => q z.1)]
        have F21 : FdC M21 b = (FdC M b) := fdc_fr (fun a i z1 z2 => (hf_M21 a i (by first | decide | (rcases hc0 with h | h <;> rw [h] <;> simp; done) | (rcases hb0 with h | h | h <;> rw [h] <;> simp; done) | (simp; done) | omega)).trans (m1 a i (by omega)))
        have ef := congrArg Int32.toInt (se_f hse)
        have d3 := hD (ix v3) (by omega)
        refine wp_gd (by omega) ?_
        refine wp_ite (fun c35 => ?_) (fun c35 => ?_)
        · refine wp_bind2 (ow_X2_isStep hb M21 v3 y4_21 v2 (by rw [F21]; exact hGd) hv3 (by omega) hs) (fun r_2 he43 hq43 => ?_)
          obtain ⟨hz_r_2, hst_43⟩ := hq43
          replace hst_43 : ¬ r_2.toInt = 0 ↔ stC (FdC M21 b) v2.toInt (ix v3) (ix y4_21) := hst_43
          rw [F21] at hst_43
          refine wp_ite (fun c46 => ?_) (fun c46 => ?_)
          · exact ih21 M21 (y4_21 + (nI 1)) ⟨(by have f0 := t_lit 1; have f1 := t_add y4_21 (nI 1); have f2 := congrArg Int32.toInt (hf_M21 29 (ix y4_21) (by first | decide | (rcases hc0 with h | h <;> rw [h] <;> simp; done) | (rcases hb0 with h | h | h <;> rw [h] <;> simp; done) | (simp; done) | omega)); omega), (fun a i q0 => ((hf_M21 a i (fun h9 => q0 (h9))).trans rfl)), (by rw [u.1]; exact se_k hse (Or.inr (Or.inl (fun z => hst_43.mpr z c46)))), (by rw [u.2]; omega)⟩ (by have f0 := t_lit 1; have f1 := t_add y4_21 (nI 1); have f2 := congrArg Int32.toInt (hf_M21 29 (ix y4_21) (by first | decide | (rcases hc0 with h | h <;> rw [h] <;> simp; done) | (rcases hb0 with h | h | h <;> rw [h] <;> simp; done) | (simp; done) | omega)); omega)
          · have hst := hst_43.mp c46
            have wb := wd_b hGd hst
            refine wp_gd (by omega) ?_
            have j78 : ∀ (t0_78 : Int32), (t0_78.toInt = wD (FdC M b) (ix y4_21) - 1) → Wp (f_X8_settle_L78 v3 ag21 M21 y4_21 t0_78) (fun q => (∀ a i, ¬ (a = 28 ∨ a = 29) → q a i = M a i) ∧ (SeP (FdC M b) v2.toInt (ix v3) 42 (M 28) (M 29) (q 28) (q 29))) := by
              intro t0_78 h78
              unfold f_X8_settle_L78
              refine wp_bnd (fun x_3 ex_3 => ?_)
              have x3 : x_3.toInt = (M 28 (ix v3)).toInt + wD (FdC M b) (ix y4_21) := by
                rw [ex_3]
                have f1 := nI1
                have f2 := t_add (M21 28 (ix v3)) (nI 1)
                have f3 := t_add (M21 28 (ix v3) + nI 1) t0_78
                omega
              refine wp_gd (by have f0 := congrArg Int32.toInt (hf_M21 29 (ix y4_21) (by first | decide | (rcases hc0 with h | h <;> rw [h] <;> simp; done) | (rcases hb0 with h | h | h <;> rw [h] <;> simp; done) | (simp; done) | omega)); omega) ?_
              have j104 : ((M21 28 (ix y4_21)).toInt = -1 ∨ (M 28 (ix v3)).toInt + wD (FdC M b) (ix y4_21) < (M21 28 (ix y4_21)).toInt) → Wp (f_X8_settle_L104 ag21 M21 y4_21 x_3) (fun q => (∀ a i, ¬ (a = 28 ∨ a = 29) → q a i = M a i) ∧ (SeP (FdC M b) v2.toInt (ix v3) 42 (M 28) (M 29) (q 28) (q 29))) := by
                intro h104
                unfold f_X8_settle_L104
                refine wp_gd (by have f0 := congrArg Int32.toInt (hf_M21 29 (ix y4_21) (by first | decide | (rcases hc0 with h | h <;> rw [h] <;> simp; done) | (rcases hb0 with h | h | h <;> rw [h] <;> simp; done) | (simp; done) | omega)); omega) ?_
                refine wp_bnd (fun M_4 eM_4 => ?_)
                have e429 : M_4 29 = M21 29 := funext (fun v => by rw [eM_4, mset_ne (by first | exact nz1 (by decide) | exact nz2 (by decide) | exact nz1 (nzA hc0 (by decide)) | exact nz1 (nzE (by decide)) | exact nz1 (nzB hc0 (by decide)) | exact nz1 (nzC hc0 (by decide)) | exact nz1 (nzD hc0 (by decide)) | exact nz1 (nzF (by decide)) | exact nz1 (nzG (by decide)) | omega)])
                exact ih21 M_4 (y4_21 + (nI 1)) ⟨(by have f0 := t_lit 1; have f1 := t_add y4_21 (nI 1); have f2 := congrArg Int32.toInt (hf_M21 29 (ix y4_21) (by first | decide | (rcases hc0 with h | h <;> rw [h] <;> simp; done) | (rcases hb0 with h | h | h <;> rw [h] <;> simp; done) | (simp; done) | omega)); omega), (fun a i q0 => ((congrFun (congrFun eM_4 a) i).trans ((mset_ne (fun h9 => q0 ((h9).1))).trans ((hf_M21 a i (fun h9 => q0 (h9))).trans rfl)))), (by rw [u.1, e429]; exact se_u hse c35 hst h104 (by rw [eM_4, mset_eq]; exact x3) (fun v hv => by rw [eM_4, mset_ne (fun z => hv z.2)])), (by rw [u.2]; omega)⟩ (by have f0 := t_lit 1; have f1 := t_add y4_21 (nI 1); have f2 := congrArg Int32.toInt (hf_M21 29 (ix y4_21) (by first | decide | (rcases hc0 with h | h <;> rw [h] <;> simp; done) | (rcases hb0 with h | h | h <;> rw [h] <;> simp; done) | (simp; done) | omega)); omega)
              refine wp_ite (fun c89 => ?_) (fun c89 => ?_)
              · exact j104 (Or.inl c89)
              · refine wp_gd (by have f0 := congrArg Int32.toInt (hf_M21 29 (ix y4_21) (by first | decide | (rcases hc0 with h | h <;> rw [h] <;> simp; done) | (rcases hb0 with h | h | h <;> rw [h] <;> simp; done) | (simp; done) | omega)); omega) ?_
                refine wp_ite (fun c101 => ?_) (fun c101 => ?_)
                · exact ih21 M21 (y4_21 + (nI 1)) ⟨(by have f0 := t_lit 1; have f1 := t_add y4_21 (nI 1); have f2 := congrArg Int32.toInt (hf_M21 29 (ix y4_21) (by first | decide | (rcases hc0 with h | h <;> rw [h] <;> simp; done) | (rcases hb0 with h | h | h <;> rw [h] <;> simp; done) | (simp; done) | omega)); have f3 := t_add (M21 28 (ix v3)) (nI 1); have f4 := t_add ((M21 28 (ix v3)) + (nI 1)) t0_78; have f5 := congrArg Int32.toInt ex_3; omega), (fun a i q0 => ((hf_M21 a i (fun h9 => q0 (h9))).trans rfl)), (by rw [u.1]; exact se_k hse (Or.inr (Or.inr ⟨c89, by omega⟩))), (by rw [u.2]; omega)⟩ (by have f0 := t_lit 1; have f1 := t_add y4_21 (nI 1); have f2 := congrArg Int32.toInt (hf_M21 29 (ix y4_21) (by first | decide | (rcases hc0 with h | h <;> rw [h] <;> simp; done) | (rcases hb0 with h | h | h <;> rw [h] <;> simp; done) | (simp; done) | omega)); have f3 := t_add (M21 28 (ix v3)) (nI 1); have f4 := t_add ((M21 28 (ix v3)) + (nI 1)) t0_78; have f5 := congrArg Int32.toInt ex_3; omega)
                · exact j104 (Or.inr (by omega))
            refine wp_ite (fun c61 => ?_) (fun c61 => ?_)
            · exact j78 (nI 0) (by rw [wd_1 (by omega)]; exact nI0)
            · refine wp_gd (by have f0 := congrArg Int32.toInt (hf_M21 29 (ix y4_21) (by first | decide | (rcases hc0 with h | h <;> rw [h] <;> simp; done) | (rcases hb0 with h | h | h <;> rw [h] <;> simp; done) | (simp; done) | omega)); omega) ?_
              exact j78 ((nI 100) * (M21 (b + 3) (ix y4_21))) (by have dr := st_dry hst (by omega); have sl := (hGd.2.2 _ dr.1.1 dr.1.2).2.2; have fe : M21 (b + 3) (ix y4_21) = (FdC M b) 3 (ix y4_21) := ((hf_M21 _ _ (by first | decide | (rcases hc0 with h | h <;> rw [h] <;> simp; done) | (rcases hb0 with h | h | h <;> rw [h] <;> simp; done) | (simp; done) | omega)).trans (m1 _ _ (by omega))).trans (fdc_at (by omega) (by omega) dr.1.2).symm; rw [fe, wd_s (by omega), t_mulL _ 100 (by omega) (by omega)]; omega)
        · exact ih21 M21 (y4_21 + (nI 1)) ⟨(by have f0 := t_lit 1; have f1 := t_add y4_21 (nI 1); have f2 := congrArg Int32.toInt (hf_M21 29 (ix y4_21) (by first | decide | (rcases hc0 with h | h <;> rw [h] <;> simp; done) | (rcases hb0 with h | h | h <;> rw [h] <;> simp; done) | (simp; done) | omega)); omega), (fun a i q0 => ((hf_M21 a i (fun h9 => q0 (h9))).trans rfl)), (by rw [u.1]; exact se_k hse (Or.inl c35)), (by rw [u.2]; omega)⟩ (by have f0 := t_lit 1; have f1 := t_add y4_21 (nI 1); have f2 := congrArg Int32.toInt (hf_M21 29 (ix y4_21) (by first | decide | (rcases hc0 with h | h <;> rw [h] <;> simp; done) | (rcases hb0 with h | h | h <;> rw [h] <;> simp; done) | (simp; done) | omega)); omega)
    · exact wp_some ⟨(fun _ _ _ => rfl), (False.elim (by omega))⟩
