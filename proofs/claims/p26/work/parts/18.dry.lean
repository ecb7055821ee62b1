def sumN (f : Nat → Int32) : Nat → Nat
  | 0 => 0
  | n + 1 => sumN f n + (f n).toInt.toNat
termination_by n => n
theorem zsum_le {f : Nat → Int32} : ∀ {n : Nat}, (∀ j, j < n → (f j).toInt ≤ 1000000) → sumN f n ≤ n * 1000000
  | 0, _ => by simp [sumN]
  | n + 1, h => by
    have h1 := zsum_le (n := n) (fun j hj => h j (by omega))
    have h2 := h n (by omega)
    simp only [sumN]
    omega
theorem zsum_ext {f g : Nat → Int32} : ∀ n, (∀ j, j < n → f j = g j) → sumN f n = sumN g n
  | 0, _ => by simp only [sumN]
  | n + 1, h => by simp only [sumN]; rw [zsum_ext n (fun j hj => h j (by omega)), h n (by omega)]
theorem zsum_upd {f g : Nat → Int32} {j : Nat} (h0 : 0 ≤ (g j).toInt) (hl : (g j).toInt < (f j).toInt) (he : ∀ i, ¬ i = j → g i = f i) : ∀ n, j < n → sumN g n < sumN f n
  | 0, h => absurd h (Nat.not_lt_zero _)
  | n + 1, h => by
    simp only [sumN]
    by_cases e : j = n
    · rw [zsum_ext n (fun i hi => he i (by omega)), ← e]
      omega
    · have := zsum_upd h0 hl he n (by omega)
      rw [he n (fun z => e z.symm)]
      omega
theorem dry_back {M0 M1 A : Mem} {j : Nat} {x y : Int32} {v : Int32} (e : M1 = mset M0 27 j v) (h : (∀ j : Nat, j < 40 → 1 ≤ (M0 27 j).toInt ∧ (M0 27 j).toInt ≤ 1000000) ∧ sumN (M0 27) 40 ≤ sumN (A 27) 40 ∧ (¬ x.toInt = 0 → sumN (M0 27) 40 < sumN (A 27) 40)) (hj : j < 40) (h1 : 1 ≤ v.toInt) (h2 : v.toInt < (M0 27 j).toInt) : (∀ j : Nat, j < 40 → 1 ≤ (M1 27 j).toInt ∧ (M1 27 j).toInt ≤ 1000000) ∧ sumN (M1 27) 40 ≤ sumN (A 27) 40 ∧ (¬ y.toInt = 0 → sumN (M1 27) 40 < sumN (A 27) 40) := by
  have e1 : M1 27 j = v := by rw [e, mset_eq]
  have e2 : ∀ i, ¬ i = j → M1 27 i = M0 27 i := fun i hi => by rw [e, mset_ne (by first | exact nz1 (by decide) | exact nz2 (by decide) | exact nz1 (nzA hc0 (by decide)) | exact nz1 (nzE (by decide)) | exact nz1 (nzB hc0 (by decide)) | exact nz1 (nzC hc0 (by decide)) | exact nz1 (nzD hc0 (by decide)) | exact nz1 (nzF (by decide)) | exact nz1 (nzG (by decide)) | omega)]
  have hlt : sumN (M1 27) 40 < sumN (M0 27) 40 := zsum_upd (j := j) (by rw [e1]; omega) (by rw [e1]; omega) e2 40 hj
  obtain ⟨a1, a2, a3⟩ := h
  refine ⟨fun i hi => ?_, by omega, fun _ => by omega⟩
  by_cases hi2 : i = j
  · rw [hi2, e1]
    have := a1 j hj
    omega
  · rw [e2 i hi2]
    exact a1 i hi
theorem mu_f3 {y : Int32} {r : Nat} (h : r ≤ 40 * 1000000) : (if y.toInt = 0 then 0 else 1 + r) < 4294967296 := by
  by_cases h2 : y.toInt = 0
  · simp [h2]
  · simp only [if_neg h2]; omega
theorem mu_d2 {y z : Int32} {r s : Nat} (h : ¬ y.toInt = 0) (hr : ¬ z.toInt = 0 → s < r) : (if z.toInt = 0 then 0 else 1 + s) < (if y.toInt = 0 then 0 else 1 + r) := by
  rw [if_neg h]
  by_cases h2 : z.toInt = 0
  · rw [if_pos h2]; omega
  · rw [if_neg h2]
    have := hr h2
    omega
set_option maxHeartbeats 8000000 in
theorem o_X10_dryCost (M : Mem) (v1 : Int32) (hst : ST (M 1)) : Wp (f_X10_dryCost M v1) (fun q => (∀ a i, ¬ (a = 27) → q.2 a i = M a i)) := by
  refine wp_ite (fun c3 => ?_) (fun c3 => ?_)
  · refine wp_lp2 (fun M10 y2_10 => (0 ≤ y2_10.toInt) ∧ (∀ a i, ¬ (a = 27) → M10 a i = M a i) ∧ (∀ j : Nat, (j : Int) < y2_10.toInt → 1 ≤ (M10 27 j).toInt ∧ (M10 27 j).toInt ≤ 1000000)) (fun M10 y2_10 => (40 - y2_10.toInt).toNat) (fun ag10 M10 y2_10 hI10 ih10 => ?_) FU M (nI 0) ⟨(by have f0 := t_lit 0; omega), (fun _ _ _ => rfl), (fun j hj => absurd hj (by have := t_lit 0; omega))⟩ (fu_lt (by have f0 := t_lit 0; omega))
    obtain ⟨hi10, hf_M10, h10⟩ := hI10
    have j58 : (40 ≤ y2_10.toInt) → Wp (f_X10_dryCost_L58 v1 M10) (fun q => (∀ a i, ¬ (a = 27) → q.2 a i = M a i)) := by
      intro h58
      unfold f_X10_dryCost_L58
      refine wp_lp2 (fun M60 y2_60 => (∀ a i, ¬ (a = 27) → M60 a i = M10 a i) ∧ ((∀ j : Nat, j < 40 → 1 ≤ (M60 27 j).toInt ∧ (M60 27 j).toInt ≤ 1000000))) (fun M60 y2_60 => (if y2_60.toInt = 0 then 0 else 1 + sumN (M60 27) 40)) (fun ag60 M60 y2_60 hI60 ih60 => ?_) FU M10 (nI 1) ⟨(fun _ _ _ => rfl), (fun j hj => h10 j (by omega))⟩ (fu_lt (mu_f3 (zsum_le (fun j hj => (h10 j (by omega)).2))))
      obtain ⟨hf_M60, h60⟩ := hI60
      have j175 : Wp (f_X10_dryCost_L175 v1 M60) (fun q => (∀ a i, ¬ (a = 27) → q.2 a i = M a i)) := by
        unfold f_X10_dryCost_L175
        refine wp_lp2 (fun y3_182 y4_182 => (0 ≤ y4_182.toInt)) (fun y3_182 y4_182 => (40 - y4_182.toInt).toNat) (fun ag182 y3_182 y4_182 hI182 ih182 => ?_) FU (nI 1000000) (nI 0) (by have f0 := t_lit 0; omega) (fu_lt (by have f0 := t_lit 0; omega))
        have hi182 := hI182
        refine wp_ite (fun c186 => ?_) (fun c186 => ?_)
        · exact wp_some (fun a i q0 => ((hf_M60 a i (fun h9 => q0 (h9))).trans ((hf_M10 a i (fun h9 => q0 (h9))).trans rfl)))
        · refine wp_bind2 (o_X10_isByBank M60 y4_182 (nI 0) v1 (by have f0 := t_lit 0; omega)) (fun r_1 he194 hq194 => ?_)
          obtain ⟨hz_r_1, hr_194⟩ := hq194
          replace hr_194 : ¬ r_1.toInt = 0 → (M60 1 (ix y4_182)).toInt = 1 := hr_194
          have := t_lit 0
          refine wp_ite (fun c197 => ?_) (fun c197 => ?_)
          · exact ih182 y3_182 (y4_182 + (nI 1)) (by have f0 := t_lit 1; have f1 := t_add y4_182 (nI 1); omega) (by have f0 := t_lit 1; have f1 := t_add y4_182 (nI 1); omega)
          · refine wp_gd (by omega) ?_
            refine wp_bind2 (o_X10_min M60 y3_182 ((M60 27 (ix y4_182)) + (nI 1))) (fun r_2 he210 hq210 => ?_)
            have hr_210 := hq210
            replace hr_210 : r_2.toInt = min y3_182.toInt ((M60 27 (ix y4_182)) + (nI 1)).toInt := hr_210
            exact ih182 r_2 (y4_182 + (nI 1)) (by have f0 := t_lit 1; have f1 := t_add y4_182 (nI 1); omega) (by have f0 := t_lit 1; have f1 := t_add y4_182 (nI 1); omega)
      refine wp_ite (fun c61 => ?_) (fun c61 => ?_)
      · exact j175
      · refine wp_lp3 (fun M68 y2_68 y3_68 => (0 ≤ y3_68.toInt) ∧ (∀ a i, ¬ (a = 27) → M68 a i = M60 a i) ∧ ((∀ j : Nat, j < 40 → 1 ≤ (M68 27 j).toInt ∧ (M68 27 j).toInt ≤ 1000000) ∧ sumN (M68 27) 40 ≤ sumN (M60 27) 40 ∧ (¬ y2_68.toInt = 0 → sumN (M68 27) 40 < sumN (M60 27) 40))) (fun M68 y2_68 y3_68 => (40 - y3_68.toInt).toNat) (fun ag68 M68 y2_68 y3_68 hI68 ih68 => ?_) FU M60 (nI 0) (nI 0) ⟨(by have f0 := t_lit 0; omega), (fun _ _ _ => rfl), ⟨h60, Nat.le_refl _, fun z => absurd nI0 z⟩⟩ (fu_lt (by have f0 := t_lit 0; omega))
        obtain ⟨hi68, hf_M68, h68⟩ := hI68
        refine wp_ite (fun c71 => ?_) (fun c71 => ?_)
        · exact ih60 M68 y2_68 ⟨(fun a i q0 => ((hf_M68 a i (fun h9 => q0 (h9))).trans ((hf_M60 a i (fun h9 => q0 (h9))).trans rfl))), h68.1⟩ (mu_d2 c61 h68.2.2)
        · refine wp_lp3 (fun M77 y2_77 y4_77 => (0 ≤ y4_77.toInt) ∧ (∀ a i, ¬ (a = 27) → M77 a i = M68 a i) ∧ ((∀ j : Nat, j < 40 → 1 ≤ (M77 27 j).toInt ∧ (M77 27 j).toInt ≤ 1000000) ∧ sumN (M77 27) 40 ≤ sumN (M60 27) 40 ∧ (¬ y2_77.toInt = 0 → sumN (M77 27) 40 < sumN (M60 27) 40))) (fun M77 y2_77 y4_77 => (40 - y4_77.toInt).toNat) (fun ag77 M77 y2_77 y4_77 hI77 ih77 => ?_) FU M68 y2_68 (nI 0) ⟨(by have f0 := t_lit 0; omega), (fun _ _ _ => rfl), h68⟩ (fu_lt (by have f0 := t_lit 0; omega))
          obtain ⟨hi77, hf_M77, h77⟩ := hI77
          refine wp_ite (fun c81 => ?_) (fun c81 => ?_)
          · exact ih68 M77 y2_77 (y3_68 + (nI 1)) ⟨(by have f0 := t_lit 1; have f1 := t_add y3_68 (nI 1); omega), (fun a i q0 => ((hf_M77 a i (fun h9 => q0 (h9))).trans ((hf_M68 a i (fun h9 => q0 (h9))).trans rfl))), h77⟩ (by have f0 := t_lit 1; have f1 := t_add y3_68 (nI 1); omega)
          · refine wp_gd (by omega) ?_
            refine wp_ite (fun c93 => ?_) (fun c93 => ?_)
            · exact ih77 M77 y2_77 (y4_77 + (nI 1)) ⟨(by have f0 := t_lit 1; have f1 := t_add y4_77 (nI 1); omega), (fun a i q0 => ((hf_M77 a i (fun h9 => q0 (h9))).trans rfl)), h77⟩ (by have f0 := t_lit 1; have f1 := t_add y4_77 (nI 1); omega)
            · refine wp_bind2 (o_X10_canStep M77 y3_68 y4_77 v1 (by omega) (by omega)) (fun r_3 he101 hq101 => ?_)
              obtain ⟨hz_r_3, hr_101⟩ := hq101
              replace hr_101 : ¬ r_3.toInt = 0 → (M77 1 (ix y3_68)).toInt = 1 ∧ (M77 1 (ix y4_77)).toInt = 1 := hr_101
              have sl0 := t_ixn y4_77 (by omega)
              have sl1 := ix_add (x := y4_77) (n := 120) (by omega) (by omega)
              have e771 : ∀ i, M77 1 i = M 1 i := fun i => by rw [hf_M77 1 i (by first | decide | (rcases hc0 with h | h <;> rw [h] <;> simp; done) | (rcases hb0 with h | h | h <;> rw [h] <;> simp; done) | (simp; done) | omega), hf_M68 1 i (by first | decide | (rcases hc0 with h | h <;> rw [h] <;> simp; done) | (rcases hb0 with h | h | h <;> rw [h] <;> simp; done) | (simp; done) | omega), hf_M60 1 i (by first | decide | (rcases hc0 with h | h <;> rw [h] <;> simp; done) | (rcases hb0 with h | h | h <;> rw [h] <;> simp; done) | (simp; done) | omega), hf_M10 1 i (by first | decide | (rcases hc0 with h | h <;> rw [h] <;> simp; done) | (rcases hb0 with h | h | h <;> rw [h] <;> simp; done) | (simp; done) | omega)]
              refine wp_ite (fun c104 => ?_) (fun c104 => ?_)
              · exact ih77 M77 y2_77 (y4_77 + (nI 1)) ⟨(by have f0 := t_lit 1; have f1 := t_add y4_77 (nI 1); omega), (fun a i q0 => ((hf_M77 a i (fun h9 => q0 (h9))).trans rfl)), h77⟩ (by have f0 := t_lit 1; have f1 := t_add y4_77 (nI 1); omega)
              · have hs9 := hst (ix y4_77) (by omega) (by rw [← e771]; exact (hr_101 c104).2)
                have hs8 : 0 ≤ (M77 1 (ix ((nI 120) + y4_77))).toInt ∧ (M77 1 (ix ((nI 120) + y4_77))).toInt ≤ 9 := by (rw [sl1, e771]; exact hs9.2.2)
                have sl3 := t_ixn y3_68 (by omega)
                have hci := h77.1 (ix y3_68) (by omega)
                have hcj := h77.1 (ix y4_77) (by omega)
                refine wp_gd (by omega) ?_
                refine wp_gd (by have f0 := t_lit 120; have f1 := t_add (nI 120) y4_77; omega) ?_
                refine wp_bnd (fun x_4 ex_4 => ?_)
                have hx4 : x_4.toInt = (M77 27 (ix y3_68)).toInt + 100 * (M77 1 (ix ((nI 120) + y4_77))).toInt + 1 := by
                  have f0 := t_mulL (M77 1 (ix ((nI 120) + y4_77))) 100 (by omega) (by omega)
                  have f1 := t_add (M77 27 (ix y3_68)) ((nI 100) * (M77 1 (ix ((nI 120) + y4_77))))
                  have f2 := t_inc ((M77 27 (ix y3_68)) + ((nI 100) * (M77 1 (ix ((nI 120) + y4_77))))) 1 (by omega)
                  rw [ex_4]
                  omega
                refine wp_gd (by omega) ?_
                refine wp_ite (fun c143 => ?_) (fun c143 => ?_)
                · refine wp_gd (by have f0 := t_lit 100; have f1 := t_lit 120; have f2 := t_add (nI 120) y4_77; have f3 := (t_mulL (M77 1 (ix ((nI 120) + y4_77))) 100 (by omega) (by omega)); have f4 := t_add (M77 27 (ix y3_68)) ((nI 100) * (M77 1 (ix ((nI 120) + y4_77)))); have f5 := t_lit 1; have f6 := t_add ((M77 27 (ix y3_68)) + ((nI 100) * (M77 1 (ix ((nI 120) + y4_77))))) (nI 1); have f7 := congrArg Int32.toInt (hf_M77 1 (ix ((nI 120) + y4_77)) (by first | decide | (rcases hc0 with h | h <;> rw [h] <;> simp; done) | (rcases hb0 with h | h | h <;> rw [h] <;> simp; done) | (simp; done) | omega)); have f8 := congrArg Int32.toInt (hf_M68 1 (ix ((nI 120) + y4_77)) (by first | decide | (rcases hc0 with h | h <;> rw [h] <;> simp; done) | (rcases hb0 with h | h | h <;> rw [h] <;> simp; done) | (simp; done) | omega)); have f9 := congrArg Int32.toInt (hf_M60 1 (ix ((nI 120) + y4_77)) (by first | decide | (rcases hc0 with h | h <;> rw [h] <;> simp; done) | (rcases hb0 with h | h | h <;> rw [h] <;> simp; done) | (simp; done) | omega)); have f10 := congrArg Int32.toInt (hf_M10 1 (ix ((nI 120) + y4_77)) (by first | decide | (rcases hc0 with h | h <;> rw [h] <;> simp; done) | (rcases hb0 with h | h | h <;> rw [h] <;> simp; done) | (simp; done) | omega)); have f11 := congrArg Int32.toInt ex_4; omega) ?_
                  refine wp_bnd (fun M_5 eM_5 => ?_)
                  exact ih77 M_5 (nI 1) (y4_77 + (nI 1)) ⟨(by have f0 := t_lit 1; have f1 := t_add y4_77 (nI 1); have f2 := t_lit 100; have f3 := t_lit 120; have f4 := t_add (nI 120) y4_77; have f5 := (t_mulL (M77 1 (ix ((nI 120) + y4_77))) 100 (by omega) (by omega)); have f6 := t_add (M77 27 (ix y3_68)) ((nI 100) * (M77 1 (ix ((nI 120) + y4_77)))); have f7 := t_add ((M77 27 (ix y3_68)) + ((nI 100) * (M77 1 (ix ((nI 120) + y4_77))))) (nI 1); have f8 := congrArg Int32.toInt (hf_M77 1 (ix ((nI 120) + y4_77)) (by first | decide | (rcases hc0 with h | h <;> rw [h] <;> simp; done) | (rcases hb0 with h | h | h <;> rw [h] <;> simp; done) | (simp; done) | omega)); have f9 := congrArg Int32.toInt (hf_M68 1 (ix ((nI 120) + y4_77)) (by first | decide | (rcases hc0 with h | h <;> rw [h] <;> simp; done) | (rcases hb0 with h | h | h <;> rw [h] <;> simp; done) | (simp; done) | omega)); have f10 := congrArg Int32.toInt (hf_M60 1 (ix ((nI 120) + y4_77)) (by first | decide | (rcases hc0 with h | h <;> rw [h] <;> simp; done) | (rcases hb0 with h | h | h <;> rw [h] <;> simp; done) | (simp; done) | omega)); have f11 := congrArg Int32.toInt (hf_M10 1 (ix ((nI 120) + y4_77)) (by first | decide | (rcases hc0 with h | h <;> rw [h] <;> simp; done) | (rcases hb0 with h | h | h <;> rw [h] <;> simp; done) | (simp; done) | omega)); have f12 := congrArg Int32.toInt ex_4; omega), (fun a i q0 => ((congrFun (congrFun eM_5 a) i).trans ((mset_ne (fun h9 => q0 ((h9).1))).trans ((hf_M77 a i (fun h9 => q0 (h9))).trans rfl)))), (dry_back eM_5 h77 (by omega) (by omega) (by omega))⟩ (by have f0 := t_lit 1; have f1 := t_add y4_77 (nI 1); have f2 := t_lit 100; have f3 := t_lit 120; have f4 := t_add (nI 120) y4_77; have f5 := (t_mulL (M77 1 (ix ((nI 120) + y4_77))) 100 (by omega) (by omega)); have f6 := t_add (M77 27 (ix y3_68)) ((nI 100) * (M77 1 (ix ((nI 120) + y4_77)))); have f7 := t_add ((M77 27 (ix y3_68)) + ((nI 100) * (M77 1 (ix ((nI 120) + y4_77))))) (nI 1); have f8 := congrArg Int32.toInt (hf_M77 1 (ix ((nI 120) + y4_77)) (by first | decide | (rcases hc0 with h | h <;> rw [h] <;> simp; done) | (rcases hb0 with h | h | h <;> rw [h] <;> simp; done) | (simp; done) | omega)); have f9 := congrArg Int32.toInt (hf_M68 1 (ix ((nI 120) + y4_77)) (by first | decide | (rcases hc0 with h | h <;> rw [h] <;> simp; done) | (rcases hb0 with h | h | h <;> rw [h] <;> simp; done) | (simp; done) | omega)); have f10 := congrArg Int32.toInt (hf_M60 1 (ix ((nI 120) + y4_77)) (by first | decide | (rcases hc0 with h | h <;> rw [h] <;> simp; done) | (rcases hb0 with h | h | h <;> rw [h] <;> simp; done) | (simp; done) | omega)); have f11 := congrArg Int32.toInt (hf_M10 1 (ix ((nI 120) + y4_77)) (by first | decide | (rcases hc0 with h | h <;> rw [h] <;> simp; done) | (rcases hb0 with h | h | h <;> rw [h] <;> simp; done) | (simp; done) | omega)); have f12 := congrArg Int32.toInt ex_4; omega)
                · exact ih77 M77 y2_77 (y4_77 + (nI 1)) ⟨(by have f0 := t_lit 1; have f1 := t_add y4_77 (nI 1); have f2 := t_lit 100; have f3 := t_lit 120; have f4 := t_add (nI 120) y4_77; have f5 := (t_mulL (M77 1 (ix ((nI 120) + y4_77))) 100 (by omega) (by omega)); have f6 := t_add (M77 27 (ix y3_68)) ((nI 100) * (M77 1 (ix ((nI 120) + y4_77)))); have f7 := t_add ((M77 27 (ix y3_68)) + ((nI 100) * (M77 1 (ix ((nI 120) + y4_77))))) (nI 1); have f8 := congrArg Int32.toInt (hf_M77 1 (ix ((nI 120) + y4_77)) (by first | decide | (rcases hc0 with h | h <;> rw [h] <;> simp; done) | (rcases hb0 with h | h | h <;> rw [h] <;> simp; done) | (simp; done) | omega)); have f9 := congrArg Int32.toInt (hf_M68 1 (ix ((nI 120) + y4_77)) (by first | decide | (rcases hc0 with h | h <;> rw [h] <;> simp; done) | (rcases hb0 with h | h | h <;> rw [h] <;> simp; done) | (simp; done) | omega)); have f10 := congrArg Int32.toInt (hf_M60 1 (ix ((nI 120) + y4_77)) (by first | decide | (rcases hc0 with h | h <;> rw [h] <;> simp; done) | (rcases hb0 with h | h | h <;> rw [h] <;> simp; done) | (simp; done) | omega)); have f11 := congrArg Int32.toInt (hf_M10 1 (ix ((nI 120) + y4_77)) (by first | decide | (rcases hc0 with h | h <;> rw [h] <;> simp; done) | (rcases hb0 with h | h | h <;> rw [h] <;> simp; done) | (simp; done) | omega)); have f12 := congrArg Int32.toInt ex_4; omega), (fun a i q0 => ((hf_M77 a i (fun h9 => q0 (h9))).trans rfl)), h77⟩ (by have f0 := t_lit 1; have f1 := t_add y4_77 (nI 1); have f2 := t_lit 100; have f3 := t_lit 120; have f4 := t_add (nI 120) y4_77; have f5 := (t_mulL (M77 1 (ix ((nI 120) + y4_77))) 100 (by omega) (by omega)); have f6 := t_add (M77 27 (ix y3_68)) ((nI 100) * (M77 1 (ix ((nI 120) + y4_77)))); have f7 := t_add ((M77 27 (ix y3_68)) + ((nI 100) * (M77 1 (ix ((nI 120) + y4_77))))) (nI 1); have f8 := congrArg Int32.toInt (hf_M77 1 (ix ((nI 120) + y4_77)) (by first | decide | (rcases hc0 with h | h <;> rw [h] <;> simp; done) | (rcases hb0 with h | h | h <;> rw [h] <;> simp; done) | (simp; done) | omega)); have f9 := congrArg Int32.toInt (hf_M68 1 (ix ((nI 120) + y4_77)) (by first | decide | (rcases hc0 with h | h <;> rw [h] <;> simp; done) | (rcases hb0 with h | h | h <;> rw [h] <;> simp; done) | (simp; done) | omega)); have f10 := congrArg Int32.toInt (hf_M60 1 (ix ((nI 120) + y4_77)) (by first | decide | (rcases hc0 with h | h <;> rw [h] <;> simp; done) | (rcases hb0 with h | h | h <;> rw [h] <;> simp; done) | (simp; done) | omega)); have f11 := congrArg Int32.toInt (hf_M10 1 (ix ((nI 120) + y4_77)) (by first | decide | (rcases hc0 with h | h <;> rw [h] <;> simp; done) | (rcases hb0 with h | h | h <;> rw [h] <;> simp; done) | (simp; done) | omega)); have f12 := congrArg Int32.toInt ex_4; omega)
    refine wp_ite (fun c13 => ?_) (fun c13 => ?_)
    · exact j58 (by omega)
    · refine wp_bind2 (o_X10_isByBank M10 y2_10 (nI 1) v1 (by have f0 := t_lit 1; omega)) (fun r_6 he25 hq25 => ?_)
      obtain ⟨hz_r_6, hr_25⟩ := hq25
      replace hr_25 : ¬ r_6.toInt = 0 → (M10 1 (ix y2_10)).toInt = 1 := hr_25
      have := t_lit 1
      have j51 : ∀ (t0_51 : Int32), (1 ≤ t0_51.toInt ∧ t0_51.toInt ≤ 1000000) → Wp (f_X10_dryCost_L51 ag10 M10 y2_10 t0_51) (fun q => (∀ a i, ¬ (a = 27) → q.2 a i = M a i)) := by
        intro t0_51 h51
        unfold f_X10_dryCost_L51
        refine wp_gd (by omega) ?_
        refine wp_bnd (fun M_7 eM_7 => ?_)
        exact ih10 M_7 (y2_10 + (nI 1)) ⟨(by have f0 := t_lit 1; have f1 := t_add y2_10 (nI 1); omega), (fun a i q0 => ((congrFun (congrFun eM_7 a) i).trans ((mset_ne (fun h9 => q0 ((h9).1))).trans ((hf_M10 a i (fun h9 => q0 (h9))).trans rfl)))), (set_ext (P := fun _ x => 1 ≤ x.toInt ∧ x.toInt ≤ 1000000) eM_7 (by omega) (by omega) h10 h51)⟩ (by have f0 := t_lit 1; have f1 := t_add y2_10 (nI 1); omega)
      refine wp_ite (fun c28 => ?_) (fun c28 => ?_)
      · exact j51 (nI 1000000) (by have := t_lit 1000000; omega)
      · have sl0 := t_ixn y2_10 (by omega)
        have sl1 := ix_add (x := y2_10) (n := 120) (by omega) (by omega)
        have hs9 := hst (ix y2_10) (by omega) (by rw [← hf_M10 1 (ix y2_10) (by first | decide | (rcases hc0 with h | h <;> rw [h] <;> simp; done) | (rcases hb0 with h | h | h <;> rw [h] <;> simp; done) | (simp; done) | omega)]; exact hr_25 c28)
        have hs8 : 0 ≤ (M10 1 (ix ((nI 120) + y2_10))).toInt ∧ (M10 1 (ix ((nI 120) + y2_10))).toInt ≤ 9 := by (rw [sl1, hf_M10 1 _ (by first | decide | (rcases hc0 with h | h <;> rw [h] <;> simp; done) | (rcases hb0 with h | h | h <;> rw [h] <;> simp; done) | (simp; done) | omega)]; exact hs9.2.2)
        refine wp_gd (by have f0 := t_lit 120; have f1 := t_add (nI 120) y2_10; omega) ?_
        exact j51 (((nI 100) * (M10 1 (ix ((nI 120) + y2_10)))) + (nI 1)) (by have f0 := t_mulL (M10 1 (ix ((nI 120) + y2_10))) 100 (by omega) (by omega); have f1 := t_inc ((nI 100) * (M10 1 (ix ((nI 120) + y2_10)))) 1 (by omega); omega)
  · exact wp_some (fun _ _ _ => rfl)
theorem o_X10_driest (M : Mem) (v1 : Int32) (v2 : Int32) (hst : ST (M 1)) : Wp (f_X10_driest M v1 v2) (fun q => (∀ a i, ¬ (a = 27) → q.2 a i = M a i)) := by
  refine wp_bind2 (o_X10_isPerson M v1) (fun r_1 he2 hq2 => ?_)
  obtain ⟨hz_r_1, hr_2⟩ := hq2
  replace hr_2 : ¬ r_1.toInt = 0 → 0 ≤ v1.toInt ∧ v1.toInt < 8 := hr_2
  refine wp_ite (fun c5 => ?_) (fun c5 => ?_)
  · exact wp_some (fun _ _ _ => rfl)
  · refine wp_bind2 (o_X10_in M v2 (nI 0) (nI 1)) (fun r_2 he11 hq11 => ?_)
    obtain ⟨hz_r_2, hr_11⟩ := hq11
    replace hr_11 : ¬ r_2.toInt = 0 → (nI 0).toInt ≤ v2.toInt ∧ v2.toInt ≤ (nI 1).toInt := hr_11
    have := t_lit 0
    have := t_lit 1
    refine wp_ite (fun c14 => ?_) (fun c14 => ?_)
    · exact wp_some (fun _ _ _ => rfl)
    · refine wp_gd (by omega) ?_
      refine wp_cb2 (o_X10_dryCost M (M 4 (ix v1)) hst) (fun r_3 M_4 he26 hq26 => ?_)
      have hg_M_4 := hq26
      replace hg_M_4 : ∀ a i, ¬ (a = 27) → M_4 a i = M a i := hg_M_4
      refine wp_ite (fun c34 => ?_) (fun c34 => ?_)
      · refine wp_ite (fun c41 => ?_) (fun c41 => ?_)
        · exact wp_some (fun a i q0 => ((hg_M_4 a i (fun h9 => q0 (h9))).trans rfl))
        · exact wp_some (fun a i q0 => ((hg_M_4 a i (fun h9 => q0 (h9))).trans rfl))
      · exact wp_some (fun a i q0 => ((hg_M_4 a i (fun h9 => q0 (h9))).trans rfl))
