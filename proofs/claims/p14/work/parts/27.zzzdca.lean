set_option maxHeartbeats 4000000 in
theorem od_X10_dryCost (M : Mem) (v1 : Int32) (hGd : GdF (FdR M 1)) (hs : 1 ≤ v1.toInt ∧ v1.toInt ≤ 30) : Wp (f_X10_dryCost M v1) (fun q => (∀ a i, ¬ (a = 27) → q.2 a i = M a i) ∧ ((q.1.toInt < 1000000 → LcD (FdR M 1) v1.toInt 41 q.1.toInt ∧ 0 ≤ q.1.toInt) ∧ (¬ q.1.toInt < 1000000 → ∀ k d, RcN (FdR M 1) v1.toInt k 41 d → 1000000 ≤ d))) := by
  refine wp_ite (fun c3 => ?_) (fun c3 => ?_)
  · refine wp_lp2 (fun M10 y2_10 => (0 ≤ y2_10.toInt) ∧ (∀ a i, ¬ (a = 27) → M10 a i = M a i) ∧ (BfN (FdR M 1) v1.toInt (M10 27) (ix y2_10)) ∧ (y2_10.toInt ≤ 40)) (fun M10 y2_10 => (40 - y2_10.toInt).toNat) (fun ag10 M10 y2_10 hI10 ih10 => ?_) FU M (nI 0) ⟨(by have f0 := t_lit 0; omega), (fun _ _ _ => rfl), (by rw [show ix (nI 0) = 0 from (by decide)]; exact fun j hj => absurd hj (Nat.not_lt_zero _)), (by decide)⟩ (fu_lt (by have f0 := t_lit 0; omega))
    obtain ⟨hi10, hf_M10, hb10, y10⟩ := hI10
    have f10 : FdR M10 1 = (FdR M 1) := fdr_same (fun j hj => hf_M10 1 j (by first | decide | (rcases hc0 with h | h <;> rw [h] <;> simp; done) | (rcases hb0 with h | h | h <;> rw [h] <;> simp; done) | (simp; done) | omega))
    have j58 : (BfN (FdR M 1) v1.toInt (M10 27) 40) → Wp (f_X10_dryCost_L58 v1 M10) (fun q => (∀ a i, ¬ (a = 27) → q.2 a i = M a i) ∧ ((q.1.toInt < 1000000 → LcD (FdR M 1) v1.toInt 41 q.1.toInt ∧ 0 ≤ q.1.toInt) ∧ (¬ q.1.toInt < 1000000 → ∀ k d, RcN (FdR M 1) v1.toInt k 41 d → 1000000 ≤ d))) := by
      intro h58
      unfold f_X10_dryCost_L58
      refine wp_lp2 (fun M60 y2_60 => (∀ a i, ¬ (a = 27) → M60 a i = M10 a i) ∧ (BfN (FdR M 1) v1.toInt (M60 27) 40) ∧ (FxP (FdR M 1) v1.toInt (M60 27) y2_60)) (fun M60 y2_60 => (if y2_60.toInt = 0 then 0 else 1 + sumN (M60 27) 40)) (fun ag60 M60 y2_60 hI60 ih60 => ?_) FU M10 (nI 1) ⟨(fun _ _ _ => rfl), h58, (fun z => absurd z ne1)⟩ (fu_lt (mu_f3 (zsum_le (fun j hj => (h58 j (by omega)).1.2))))
      obtain ⟨hf_M60, hb60, hx60⟩ := hI60
      have f60 : FdR M60 1 = (FdR M 1) := (fdr_same (fun j hj => hf_M60 1 j (by first | decide | (rcases hc0 with h | h <;> rw [h] <;> simp; done) | (rcases hb0 with h | h | h <;> rw [h] <;> simp; done) | (simp; done) | omega))).trans f10
      have j175 : (FxP (FdR M 1) v1.toInt (M60 27) (nI 0)) → Wp (f_X10_dryCost_L175 v1 M60) (fun q => (∀ a i, ¬ (a = 27) → q.2 a i = M a i) ∧ ((q.1.toInt < 1000000 → LcD (FdR M 1) v1.toInt 41 q.1.toInt ∧ 0 ≤ q.1.toInt) ∧ (¬ q.1.toInt < 1000000 → ∀ k d, RcN (FdR M 1) v1.toInt k 41 d → 1000000 ≤ d))) := by
        intro h175
        unfold f_X10_dryCost_L175
        refine wp_lp2 (fun y3_182 y4_182 => (0 ≤ y4_182.toInt) ∧ (FrI (FdR M 1) v1.toInt (M60 27) (ix y4_182) y3_182.toInt) ∧ (y4_182.toInt ≤ 40)) (fun y3_182 y4_182 => (40 - y4_182.toInt).toNat) (fun ag182 y3_182 y4_182 hI182 ih182 => ?_) FU (nI 1000000) (nI 0) ⟨(by have f0 := t_lit 0; omega), (by rw [show ix (nI 0) = 0 from (by decide), t_lit 1000000]; exact fr_0), (by decide)⟩ (fu_lt (by have f0 := t_lit 0; omega))
        obtain ⟨hi182, hfr, y182⟩ := hI182
        refine wp_ite (fun c186 => ?_) (fun c186 => ?_)
        · exact wp_some ⟨(fun a i q0 => ((hf_M60 a i (fun h9 => q0 (h9))).trans ((hf_M10 a i (fun h9 => q0 (h9))).trans rfl))), (bf_e hGd (by omega) hb60 (h175 nI0) (by rw [show (40 : Nat) = ix y4_182 from (by have z := t_ixn y4_182 (by omega); omega)]; exact hfr))⟩
        · have u82 := i_up (x := y4_182) (by omega)
          have i82 := t_ixn y4_182 (by omega)
          have hc82 := (hb60 (ix y4_182) (by omega)).1
          refine wp_bind2 (ow_X10_isByBank M60 y4_182 (nI 0) v1 (by omega) (by rw [f60]; exact hGd)) (fun r_1 he194 hq194 => ?_)
          obtain ⟨hz_r_1, hnb_194⟩ := hq194
          replace hnb_194 : (¬ (nI 0).toInt = 0 → (¬ r_1.toInt = 0 ↔ nearG (FdR M60 1) v1.toInt (ix y4_182))) ∧ ((nI 0).toInt = 0 → (¬ r_1.toInt = 0 ↔ farG (FdR M60 1) v1.toInt (ix y4_182))) := hnb_194
          have := t_lit 0
          rw [f60] at hnb_194
          refine wp_ite (fun c197 => ?_) (fun c197 => ?_)
          · exact ih182 y3_182 (y4_182 + (nI 1)) ⟨(by have f0 := t_lit 1; have f1 := t_add y4_182 (nI 1); omega), (by rw [u82.1]; exact fr_n hfr (fun z => (hnb_194.2 nI0).mpr z c197)), (by rw [u82.2]; omega)⟩ (by have f0 := t_lit 1; have f1 := t_add y4_182 (nI 1); omega)
          · refine wp_gd (by omega) ?_
            refine wp_bind2 (o_X10_min M60 y3_182 ((M60 27 (ix y4_182)) + (nI 1))) (fun r_2 he210 hq210 => ?_)
            have hr_210 := hq210
            replace hr_210 : r_2.toInt = min y3_182.toInt ((M60 27 (ix y4_182)) + (nI 1)).toInt := hr_210
            exact ih182 r_2 (y4_182 + (nI 1)) ⟨(by have f0 := t_lit 1; have f1 := t_add y4_182 (nI 1); omega), (by rw [u82.1]; exact fr_y hfr ((hnb_194.2 nI0).mp c197) (by have z := t_inc (M60 27 (ix y4_182)) 1 (by omega); omega)), (by rw [u82.2]; omega)⟩ (by have f0 := t_lit 1; have f1 := t_add y4_182 (nI 1); omega)
      refine wp_ite (fun c61 => ?_) (fun c61 => ?_)
      · exact j175 (fun _ => hx60 c61)
      · refine wp_lp3 (fun M68 y2_68 y3_68 => (0 ≤ y3_68.toInt) ∧ (∀ a i, ¬ (a = 27) → M68 a i = M60 a i) ∧ (sumN (M68 27) 40 ≤ sumN (M60 27) 40 ∧ (¬ y2_68.toInt = 0 → sumN (M68 27) 40 < sumN (M60 27) 40)) ∧ (BfN (FdR M 1) v1.toInt (M68 27) 40) ∧ (PsP (FdR M 1) v1.toInt (M60 27) (M68 27) y2_68 (ix y3_68) 0) ∧ (y3_68.toInt ≤ 40)) (fun M68 y2_68 y3_68 => (40 - y3_68.toInt).toNat) (fun ag68 M68 y2_68 y3_68 hI68 ih68 => ?_) FU M60 (nI 0) (nI 0) ⟨(by have f0 := t_lit 0; omega), (fun _ _ _ => rfl), ⟨Nat.le_refl _, fun z => absurd nI0 z⟩, hb60, (by rw [show ix (nI 0) = 0 from (by decide)]; exact ps_0), (by decide)⟩ (fu_lt (by have f0 := t_lit 0; omega))
        obtain ⟨hi68, hf_M68, h68, hb68, hx68, y68⟩ := hI68
        refine wp_ite (fun c71 => ?_) (fun c71 => ?_)
        · exact ih60 M68 y2_68 ⟨(fun a i q0 => ((hf_M68 a i (fun h9 => q0 (h9))).trans ((hf_M60 a i (fun h9 => q0 (h9))).trans rfl))), hb68, (ps_e hx68 (by have z := t_ixn y3_68 (by omega); omega))⟩ (mu_d2 c61 h68.2)
        · have u3 := i_up (x := y3_68) (by omega)
          have i3 := t_ixn y3_68 (by omega)
          refine wp_lp3 (fun M77 y2_77 y4_77 => (0 ≤ y4_77.toInt) ∧ (∀ a i, ¬ (a = 27) → M77 a i = M68 a i) ∧ (sumN (M77 27) 40 ≤ sumN (M60 27) 40 ∧ (¬ y2_77.toInt = 0 → sumN (M77 27) 40 < sumN (M60 27) 40)) ∧ (BfN (FdR M 1) v1.toInt (M77 27) 40) ∧ (PsP (FdR M 1) v1.toInt (M60 27) (M77 27) y2_77 (ix y3_68) (ix y4_77)) ∧ (y4_77.toInt ≤ 40)) (fun M77 y2_77 y4_77 => (40 - y4_77.toInt).toNat) (fun ag77 M77 y2_77 y4_77 hI77 ih77 => ?_) FU M68 y2_68 (nI 0) ⟨(by have f0 := t_lit 0; omega), (fun _ _ _ => rfl), h68, hb68, (by rw [show ix (nI 0) = 0 from (by decide)]; exact hx68), (by decide)⟩ (fu_lt (by have f0 := t_lit 0; omega))
          obtain ⟨hi77, hf_M77, h77, hb77, hx77, y77⟩ := hI77
          refine wp_ite (fun c81 => ?_) (fun c81 => ?_)
          · exact ih68 M77 y2_77 (y3_68 + (nI 1)) ⟨(by have f0 := t_lit 1; have f1 := t_add y3_68 (nI 1); omega), (fun a i q0 => ((hf_M77 a i (fun h9 => q0 (h9))).trans ((hf_M68 a i (fun h9 => q0 (h9))).trans rfl))), h77, hb77, (by rw [u3.1]; exact ps_r hx77 (by have z := t_ixn y4_77 (by omega); omega)), (by rw [u3.2]; omega)⟩ (by have f0 := t_lit 1; have f1 := t_add y3_68 (nI 1); omega)
          · have u4 := i_up (x := y4_77) (by omega)
            have i4 := t_ixn y4_77 (by omega)
            have f77 : FdR M77 1 = (FdR M 1) := (fdr_same (fun j hj => (hf_M77 1 j (by first | decide | (rcases hc0 with h | h <;> rw [h] <;> simp; done) | (rcases hb0 with h | h | h <;> rw [h] <;> simp; done) | (simp; done) | omega)).trans (hf_M68 1 j (by first | decide | (rcases hc0 with h | h <;> rw [h] <;> simp; done) | (rcases hb0 with h | h | h <;> rw [h] <;> simp; done) | (simp; done) | omega)))).trans f60
            refine wp_gd (by omega) ?_
            refine wp_ite (fun c93 => ?_) (fun c93 => ?_)
            · exact ih77 M77 y2_77 (y4_77 + (nI 1)) ⟨(by have f0 := t_lit 1; have f1 := t_add y4_77 (nI 1); omega), (fun a i q0 => ((hf_M77 a i (fun h9 => q0 (h9))).trans rfl)), h77, hb77, (by rw [u4.1]; exact ps_s hx77 (fun q => absurd c93 q)), (by rw [u4.2]; omega)⟩ (by have f0 := t_lit 1; have f1 := t_add y4_77 (nI 1); omega)
            · refine wp_bind2 (ow_X10_canStep M77 y3_68 y4_77 v1 (by omega) (by omega) (by omega) (by rw [f77]; exact hGd)) (fun r_3 he101 hq101 => ?_)
              obtain ⟨hz_r_3, hcs_101⟩ := hq101
              replace hcs_101 : ¬ r_3.toInt = 0 ↔ adjG (FdR M77 1) v1.toInt (ix y3_68) (ix y4_77) := hcs_101
              rw [f77] at hcs_101
              refine wp_ite (fun c104 => ?_) (fun c104 => ?_)
              · exact ih77 M77 y2_77 (y4_77 + (nI 1)) ⟨(by have f0 := t_lit 1; have f1 := t_add y4_77 (nI 1); omega), (fun a i q0 => ((hf_M77 a i (fun h9 => q0 (h9))).trans rfl)), h77, hb77, (by rw [u4.1]; exact ps_s hx77 (fun _ q => (hcs_101.mpr q c104).elim)), (by rw [u4.2]; omega)⟩ (by have f0 := t_lit 1; have f1 := t_add y4_77 (nI 1); omega)
              · have ad := hcs_101.mp c104
                have dr := ad.2.1
                have sb := (hGd.2.2 _ dr.1.1 dr.1.2).2.2
                have fs := fdr_s (M := M77) (v := y4_77) (by omega) (by omega) (by rw [f77]; exact dr.1.2)
                rw [f77] at fs
                have fs8 : 0 ≤ (M77 1 (ix ((nI 120) + y4_77))).toInt ∧ (M77 1 (ix ((nI 120) + y4_77))).toInt ≤ 9 := by
                  rw [fs]
                  exact sb
                have hci := (hb77 (ix y3_68) (by omega)).1
                have hcj := (hb77 (ix y4_77) (by omega)).1
                refine wp_gd (by omega) ?_
                refine wp_gd (by have f0 := t_lit 120; have f1 := t_add (nI 120) y4_77; omega) ?_
                refine wp_bnd (fun x_4 ex_4 => ?_)
                have hx4 : x_4.toInt = (M77 27 (ix y3_68)).toInt + wD (FdR M 1) (ix y4_77) := by
                  rw [ex_4, fs, wd_s (by omega)]
                  have f0 := t_mulL ((FdR M 1) 3 (ix y4_77)) 100 (by omega) (by omega)
                  have f1 := t_add (M77 27 (ix y3_68)) ((nI 100) * ((FdR M 1) 3 (ix y4_77)))
                  have f2 := t_inc ((M77 27 (ix y3_68)) + ((nI 100) * ((FdR M 1) 3 (ix y4_77)))) 1 (by omega)
                  omega
                have wp9 : 1 ≤ wD (FdR M 1) (ix y4_77) := by
                  rw [wd_s (by omega)]
                  omega
                refine wp_gd (by omega) ?_
                refine wp_ite (fun c143 => ?_) (fun c143 => ?_)
                · refine wp_gd (by have f0 := t_lit 100; have f1 := t_lit 120; have f2 := t_add (nI 120) y4_77; have f3 := (t_mulL (M77 1 (ix ((nI 120) + y4_77))) 100 (by omega) (by omega)); have f4 := t_add (M77 27 (ix y3_68)) ((nI 100) * (M77 1 (ix ((nI 120) + y4_77)))); have f5 := t_lit 1; have f6 := t_add ((M77 27 (ix y3_68)) + ((nI 100) * (M77 1 (ix ((nI 120) + y4_77))))) (nI 1); have f7 := congrArg Int32.toInt (hf_M77 1 (ix ((nI 120) + y4_77)) (by first | decide | (rcases hc0 with h | h <;> rw [h] <;> simp; done) | (rcases hb0 with h | h | h <;> rw [h] <;> simp; done) | (simp; done) | omega)); have f8 := congrArg Int32.toInt (hf_M68 1 (ix ((nI 120) + y4_77)) (by first | decide | (rcases hc0 with h | h <;> rw [h] <;> simp; done) | (rcases hb0 with h | h | h <;> rw [h] <;> simp; done) | (simp; done) | omega)); have f9 := congrArg Int32.toInt (hf_M60 1 (ix ((nI 120) + y4_77)) (by first | decide | (rcases hc0 with h | h <;> rw [h] <;> simp; done) | (rcases hb0 with h | h | h <;> rw [h] <;> simp; done) | (simp; done) | omega)); have f10 := congrArg Int32.toInt (hf_M10 1 (ix ((nI 120) + y4_77)) (by first | decide | (rcases hc0 with h | h <;> rw [h] <;> simp; done) | (rcases hb0 with h | h | h <;> rw [h] <;> simp; done) | (simp; done) | omega)); have f11 := congrArg Int32.toInt ex_4; omega) ?_
                  refine wp_bnd (fun M_5 eM_5 => ?_)
                  exact ih77 M_5 (nI 1) (y4_77 + (nI 1)) ⟨(by have f0 := t_lit 1; have f1 := t_add y4_77 (nI 1); have f2 := t_lit 100; have f3 := t_lit 120; have f4 := t_add (nI 120) y4_77; have f5 := (t_mulL (M77 1 (ix ((nI 120) + y4_77))) 100 (by omega) (by omega)); have f6 := t_add (M77 27 (ix y3_68)) ((nI 100) * (M77 1 (ix ((nI 120) + y4_77)))); have f7 := t_add ((M77 27 (ix y3_68)) + ((nI 100) * (M77 1 (ix ((nI 120) + y4_77))))) (nI 1); have f8 := congrArg Int32.toInt (hf_M77 1 (ix ((nI 120) + y4_77)) (by first | decide | (rcases hc0 with h | h <;> rw [h] <;> simp; done) | (rcases hb0 with h | h | h <;> rw [h] <;> simp; done) | (simp; done) | omega)); have f9 := congrArg Int32.toInt (hf_M68 1 (ix ((nI 120) + y4_77)) (by first | decide | (rcases hc0 with h | h <;> rw [h] <;> simp; done) | (rcases hb0 with h | h | h <;> rw [h] <;> simp; done) | (simp; done) | omega)); have f10 := congrArg Int32.toInt (hf_M60 1 (ix ((nI 120) + y4_77)) (by first | decide | (rcases hc0 with h | h <;> rw [h] <;> simp; done) | (rcases hb0 with h | h | h <;> rw [h] <;> simp; done) | (simp; done) | omega)); have f11 := congrArg Int32.toInt (hf_M10 1 (ix ((nI 120) + y4_77)) (by first | decide | (rcases hc0 with h | h <;> rw [h] <;> simp; done) | (rcases hb0 with h | h | h <;> rw [h] <;> simp; done) | (simp; done) | omega)); have f12 := congrArg Int32.toInt ex_4; omega), (fun a i q0 => ((congrFun (congrFun eM_5 a) i).trans ((mset_ne (fun h9 => q0 ((h9).1))).trans ((hf_M77 a i (fun h9 => q0 (h9))).trans rfl)))), (by have hlt : sumN (M_5 27) 40 < sumN (M77 27) 40 := zsum_upd (j := ix y4_77) (by rw [eM_5, mset_eq]; omega) (by rw [eM_5, mset_eq]; omega) (fun i hi => by rw [eM_5, mset_ne (fun z => hi z.2)]) 40 (by omega); exact ⟨by omega, fun _ => by omega⟩), (rx_near hGd (by omega) hb77 (by omega) (by omega) c93 ad hx4 c143 (by rw [eM_5, mset_eq]) (fun v hv => by rw [eM_5, mset_ne (fun z => hv z.2)])), ps_c, (by rw [u4.2]; omega)⟩ (by have f0 := t_lit 1; have f1 := t_add y4_77 (nI 1); have f2 := t_lit 100; have f3 := t_lit 120; have f4 := t_add (nI 120) y4_77; have f5 := (t_mulL (M77 1 (ix ((nI 120) + y4_77))) 100 (by omega) (by omega)); have f6 := t_add (M77 27 (ix y3_68)) ((nI 100) * (M77 1 (ix ((nI 120) + y4_77)))); have f7 := t_add ((M77 27 (ix y3_68)) + ((nI 100) * (M77 1 (ix ((nI 120) + y4_77))))) (nI 1); have f8 := congrArg Int32.toInt (hf_M77 1 (ix ((nI 120) + y4_77)) (by first | decide | (rcases hc0 with h | h <;> rw [h] <;> simp; done) | (rcases hb0 with h | h | h <;> rw [h] <;> simp; done) | (simp; done) | omega)); have f9 := congrArg Int32.toInt (hf_M68 1 (ix ((nI 120) + y4_77)) (by first | decide | (rcases hc0 with h | h <;> rw [h] <;> simp; done) | (rcases hb0 with h | h | h <;> rw [h] <;> simp; done) | (simp; done) | omega)); have f10 := congrArg Int32.toInt (hf_M60 1 (ix ((nI 120) + y4_77)) (by first | decide | (rcases hc0 with h | h <;> rw [h] <;> simp; done) | (rcases hb0 with h | h | h <;> rw [h] <;> simp; done) | (simp; done) | omega)); have f11 := congrArg Int32.toInt (hf_M10 1 (ix ((nI 120) + y4_77)) (by first | decide | (rcases hc0 with h | h <;> rw [h] <;> simp; done) | (rcases hb0 with h | h | h <;> rw [h] <;> simp; done) | (simp; done) | omega)); have f12 := congrArg Int32.toInt ex_4; omega)
                · exact ih77 M77 y2_77 (y4_77 + (nI 1)) ⟨(by have f0 := t_lit 1; have f1 := t_add y4_77 (nI 1); have f2 := t_lit 100; have f3 := t_lit 120; have f4 := t_add (nI 120) y4_77; have f5 := (t_mulL (M77 1 (ix ((nI 120) + y4_77))) 100 (by omega) (by omega)); have f6 := t_add (M77 27 (ix y3_68)) ((nI 100) * (M77 1 (ix ((nI 120) + y4_77)))); have f7 := t_add ((M77 27 (ix y3_68)) + ((nI 100) * (M77 1 (ix ((nI 120) + y4_77))))) (nI 1); have f8 := congrArg Int32.toInt (hf_M77 1 (ix ((nI 120) + y4_77)) (by first | decide | (rcases hc0 with h | h <;> rw [h] <;> simp; done) | (rcases hb0 with h | h | h <;> rw [h] <;> simp; done) | (simp; done) | omega)); have f9 := congrArg Int32.toInt (hf_M68 1 (ix ((nI 120) + y4_77)) (by first | decide | (rcases hc0 with h | h <;> rw [h] <;> simp; done) | (rcases hb0 with h | h | h <;> rw [h] <;> simp; done) | (simp; done) | omega)); have f10 := congrArg Int32.toInt (hf_M60 1 (ix ((nI 120) + y4_77)) (by first | decide | (rcases hc0 with h | h <;> rw [h] <;> simp; done) | (rcases hb0 with h | h | h <;> rw [h] <;> simp; done) | (simp; done) | omega)); have f11 := congrArg Int32.toInt (hf_M10 1 (ix ((nI 120) + y4_77)) (by first | decide | (rcases hc0 with h | h <;> rw [h] <;> simp; done) | (rcases hb0 with h | h | h <;> rw [h] <;> simp; done) | (simp; done) | omega)); have f12 := congrArg Int32.toInt ex_4; omega), (fun a i q0 => ((hf_M77 a i (fun h9 => q0 (h9))).trans rfl)), h77, hb77, (by rw [u4.1]; exact ps_s hx77 (fun _ _ => by rw [← hx4]; omega)), (by rw [u4.2]; omega)⟩ (by have f0 := t_lit 1; have f1 := t_add y4_77 (nI 1); have f2 := t_lit 100; have f3 := t_lit 120; have f4 := t_add (nI 120) y4_77; have f5 := (t_mulL (M77 1 (ix ((nI 120) + y4_77))) 100 (by omega) (by omega)); have f6 := t_add (M77 27 (ix y3_68)) ((nI 100) * (M77 1 (ix ((nI 120) + y4_77)))); have f7 := t_add ((M77 27 (ix y3_68)) + ((nI 100) * (M77 1 (ix ((nI 120) + y4_77))))) (nI 1); have f8 := congrArg Int32.toInt (hf_M77 1 (ix ((nI 120) + y4_77)) (by first | decide | (rcases hc0 with h | h <;> rw [h] <;> simp; done) | (rcases hb0 with h | h | h <;> rw [h] <;> simp; done) | (simp; done) | omega)); have f9 := congrArg Int32.toInt (hf_M68 1 (ix ((nI 120) + y4_77)) (by first | decide | (rcases hc0 with h | h <;> rw [h] <;> simp; done) | (rcases hb0 with h | h | h <;> rw [h] <;> simp; done) | (simp; done) | omega)); have f10 := congrArg Int32.toInt (hf_M60 1 (ix ((nI 120) + y4_77)) (by first | decide | (rcases hc0 with h | h <;> rw [h] <;> simp; done) | (rcases hb0 with h | h | h <;> rw [h] <;> simp; done) | (simp; done) | omega)); have f11 := congrArg Int32.toInt (hf_M10 1 (ix ((nI 120) + y4_77)) (by first | decide | (rcases hc0 with h | h <;> rw [h] <;> simp; done) | (rcases hb0 with h | h | h <;> rw [h] <;> simp; done) | (simp; done) | omega)); have f12 := congrArg Int32.toInt ex_4; omega)
    refine wp_ite (fun c13 => ?_) (fun c13 => ?_)
    · exact j58 (by rw [show (40 : Nat) = ix y2_10 from (by have z := t_ixn y2_10 (by omega); omega)]; exact hb10)
    · have u10 := i_up (x := y2_10) (by omega)
      have i10 := t_ixn y2_10 (by omega)
      refine wp_bind2 (ow_X10_isByBank M10 y2_10 (nI 1) v1 (by omega) (by rw [f10]; exact hGd)) (fun r_6 he25 hq25 => ?_)
      obtain ⟨hz_r_6, hnb_25⟩ := hq25
      replace hnb_25 : (¬ (nI 1).toInt = 0 → (¬ r_6.toInt = 0 ↔ nearG (FdR M10 1) v1.toInt (ix y2_10))) ∧ ((nI 1).toInt = 0 → (¬ r_6.toInt = 0 ↔ farG (FdR M10 1) v1.toInt (ix y2_10))) := hnb_25
      have := t_lit 1
      rw [f10] at hnb_25
      have j51 : ∀ (t0_51 : Int32), ((t0_51.toInt = 1000000 ∧ ¬ nearG (FdR M 1) v1.toInt (ix y2_10)) ∨ (nearG (FdR M 1) v1.toInt (ix y2_10) ∧ t0_51.toInt = wD (FdR M 1) (ix y2_10))) → Wp (f_X10_dryCost_L51 ag10 M10 y2_10 t0_51) (fun q => (∀ a i, ¬ (a = 27) → q.2 a i = M a i) ∧ ((q.1.toInt < 1000000 → LcD (FdR M 1) v1.toInt 41 q.1.toInt ∧ 0 ≤ q.1.toInt) ∧ (¬ q.1.toInt < 1000000 → ∀ k d, RcN (FdR M 1) v1.toInt k 41 d → 1000000 ≤ d))) := by
        intro t0_51 h51
        unfold f_X10_dryCost_L51
        refine wp_gd (by omega) ?_
        refine wp_bnd (fun M_7 eM_7 => ?_)
        exact ih10 M_7 (y2_10 + (nI 1)) ⟨(by have f0 := t_lit 1; have f1 := t_add y2_10 (nI 1); omega), (fun a i q0 => ((congrFun (congrFun eM_7 a) i).trans ((mset_ne (fun h9 => q0 ((h9).1))).trans ((hf_M10 a i (fun h9 => q0 (h9))).trans rfl)))), (by rw [u10.1]; exact bfn_s hGd (by omega) hb10 (by omega) (fun j hj => by rw [eM_7, mset_ne (by first | exact nz1 (by decide) | exact nz2 (by decide) | exact nz1 (nzA hc0 (by decide)) | exact nz1 (nzE (by decide)) | exact nz1 (nzB hc0 (by decide)) | exact nz1 (nzC hc0 (by decide)) | exact nz1 (nzD hc0 (by decide)) | exact nz1 (nzF (by decide)) | exact nz1 (nzG (by decide)) | omega)]) (by rw [eM_7, mset_eq]) h51), (by rw [u10.2]; omega)⟩ (by have f0 := t_lit 1; have f1 := t_add y2_10 (nI 1); omega)
      refine wp_ite (fun c28 => ?_) (fun c28 => ?_)
      · exact j51 (nI 1000000) (Or.inl ⟨t_lit 1000000, fun z => (hnb_25.1 ne1).mpr z c28⟩)
      · have dr := ((hnb_25.1 ne1).mp c28).1
        have sb := (hGd.2.2 _ dr.1.1 dr.1.2).2.2
        have fs := fdr_s (M := M10) (v := y2_10) (by omega) (by omega) (by rw [f10]; exact dr.1.2)
        rw [f10] at fs
        have fs8 : 0 ≤ (M10 1 (ix ((nI 120) + y2_10))).toInt ∧ (M10 1 (ix ((nI 120) + y2_10))).toInt ≤ 9 := by
          rw [fs]
          exact sb
        have sl : (((nI 100) * (M10 1 (ix ((nI 120) + y2_10)))) + (nI 1)).toInt = wD (FdR M 1) (ix y2_10) := by
          rw [fs, wd_s (by omega)]
          have f0 := t_mulL ((FdR M 1) 3 (ix y2_10)) 100 (by omega) (by omega)
          have f1 := t_inc ((nI 100) * ((FdR M 1) 3 (ix y2_10))) 1 (by omega)
          omega
        refine wp_gd (by have f0 := t_lit 120; have f1 := t_add (nI 120) y2_10; omega) ?_
        exact j51 (((nI 100) * (M10 1 (ix ((nI 120) + y2_10)))) + (nI 1)) (Or.inr ⟨(hnb_25.1 ne1).mp c28, sl⟩)
  · exact wp_some ⟨(fun _ _ _ => rfl), ⟨fun _ => ⟨by rw [nI1]; exact bf_21 hGd (by omega), by rw [nI1]; decide⟩, fun z => absurd (by rw [nI1]; decide) z⟩⟩
