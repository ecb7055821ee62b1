theorem ow_X2_isDry {b : Nat} (hb : isF b) (M : Mem) (v1 : Int32) : Wp (f_X2_isDry b M v1) (fun q => (q = 0 ∨ q = 1) ∧ (¬ q.toInt = 0 → 0 ≤ v1.toInt ∧ v1.toInt < 40) ∧ (¬ q.toInt = 0 ↔ (0 ≤ v1.toInt ∧ v1.toInt < 40) ∧ dryG (FdC M b) (ix v1))) := by
  have hb0 : b = 1 ∨ b = 7 ∨ b = 13 := hb
  refine wp_ite (fun c1 => ?_) (fun c1 => ?_)
  · exact wp_some ⟨b01_0, (by show ¬ (nI 0).toInt = 0 → 0 ≤ v1.toInt ∧ v1.toInt < 40; have f0 := t_lit 0; omega), ⟨fun z => absurd nI0 z, fun z => absurd z.1 (by omega)⟩⟩
  · refine wp_ite (fun c7 => ?_) (fun c7 => ?_)
    · exact wp_some ⟨b01_0, (by show ¬ (nI 0).toInt = 0 → 0 ≤ v1.toInt ∧ v1.toInt < 40; have f0 := t_lit 0; omega), ⟨fun z => absurd nI0 z, fun z => absurd z.1 (by omega)⟩⟩
    · have u40 := ix40 (v := v1) (by omega) (by omega)
      refine wp_gd (by omega) ?_
      refine wp_ite (fun c16 => ?_) (fun c16 => ?_)
      · exact wp_some ⟨b01_0, (by show ¬ (nI 0).toInt = 0 → 0 ≤ v1.toInt ∧ v1.toInt < 40; have f0 := t_lit 0; omega), ⟨fun z => absurd nI0 z, fun z => (z.2.1.2 (by rw [fdc_4 u40]; exact c16)).elim⟩⟩
      · have ht : tld (FdC M b) (ix v1) := by
          unfold tld
          rw [fdc_4 u40]
          exact c16
        refine wp_gd (by omega) ?_
        refine wp_ite (fun c25 => ?_) (fun c25 => ?_)
        · exact wp_some ⟨b01_1, (by show ¬ (nI 1).toInt = 0 → 0 ≤ v1.toInt ∧ v1.toInt < 40; have f0 := t_lit 1; omega), ⟨fun _ => ⟨⟨by omega, by omega⟩, ⟨u40, ht⟩, by rw [fdc_at (a := 5) u40 (by omega) ht]; exact c25⟩, fun _ => ne1⟩⟩
        · exact wp_some ⟨b01_0, (by show ¬ (nI 0).toInt = 0 → 0 ≤ v1.toInt ∧ v1.toInt < 40; have f0 := t_lit 0; omega), ⟨fun z => absurd nI0 z, fun z => (c25 (by have y := z.2.2; rw [fdc_at (a := 5) u40 (by omega) ht] at y; exact y)).elim⟩⟩
theorem ow_X2_heightOf {b : Nat} (hb : isF b) (M : Mem) (v1 : Int32) : Wp (f_X2_heightOf b M v1) (fun q => ((v1.toInt = 40 ∨ v1.toInt = 41 ∨ ((0 ≤ v1.toInt ∧ v1.toInt < 40) ∧ dryG (FdC M b) (ix v1))) → q.toInt = hgt (FdC M b) (ix v1))) := by
  have hb0 : b = 1 ∨ b = 7 ∨ b = 13 := hb
  refine wp_ite (fun c3 => ?_) (fun c3 => ?_)
  · exact wp_some (fun _ => by rw [show ix v1 = 41 from (ix_eq (by omega) (by decide)).mpr c3, hg_41]; exact t_lit 21)
  · refine wp_ite (fun c10 => ?_) (fun c10 => ?_)
    · exact wp_some (fun z => by omega)
    · refine wp_ite (fun c16 => ?_) (fun c16 => ?_)
      · exact wp_some (fun z => by rw [show ix v1 = 40 from (ix_eq (by omega) (by decide)).mpr (by omega), hg_40]; exact nI0)
      · refine wp_gd (by omega) ?_
        exact wp_some (fun z => by have y := z.elim (fun q => absurd q (by omega)) (fun q => q.elim (fun q => absurd q (by omega)) id); rw [hg_s y.2.1.1, fdc_at (a := 2) y.2.1.1 (by omega) y.2.1.2])
theorem ow_X2_canStand {b : Nat} (hb : isF b) (M : Mem) (v1 : Int32) : Wp (f_X2_canStand b M v1) (fun q => (q = 0 ∨ q = 1) ∧ (¬ q.toInt = 0 ↔ v1.toInt = 40 ∨ v1.toInt = 41 ∨ ((0 ≤ v1.toInt ∧ v1.toInt < 40) ∧ dryG (FdC M b) (ix v1)))) := by
  have hb0 : b = 1 ∨ b = 7 ∨ b = 13 := hb
  refine wp_ite (fun c3 => ?_) (fun c3 => ?_)
  · exact wp_some ⟨b01_1, ⟨fun _ => Or.inl c3, fun _ => ne1⟩⟩
  · refine wp_ite (fun c9 => ?_) (fun c9 => ?_)
    · exact wp_some ⟨b01_1, ⟨fun _ => Or.inr (Or.inl c9), fun _ => ne1⟩⟩
    · refine wp_bind2 (ow_X2_isDry hb M v1) (fun r_1 he14 hq14 => ?_)
      obtain ⟨hz_r_1, hr_14, hd_14⟩ := hq14
      replace hr_14 : ¬ r_1.toInt = 0 → 0 ≤ v1.toInt ∧ v1.toInt < 40 := hr_14
      replace hd_14 : ¬ r_1.toInt = 0 ↔ (0 ≤ v1.toInt ∧ v1.toInt < 40) ∧ dryG (FdC M b) (ix v1) := hd_14
      refine wp_ite (fun c17 => ?_) (fun c17 => ?_)
      · exact wp_some ⟨b01_0, ⟨fun z => absurd nI0 z, fun z => (z.elim c3 (fun q => q.elim c9 (fun y => hd_14.mpr y c17)) : False).elim⟩⟩
      · exact wp_some ⟨b01_1, ⟨fun _ => Or.inr (Or.inr (hd_14.mp c17)), fun _ => ne1⟩⟩
set_option maxHeartbeats 2000000 in
theorem ow_X2_isStepFrom {b : Nat} (hb : isF b) (M : Mem) (v1 : Int32) (v2 : Int32) (v3 : Int32) (v4 : Int32) (hGd : GdF (FdC M b)) (hpn : v1.toInt = 40 ∨ v1.toInt = 41 ∨ ((0 ≤ v1.toInt ∧ v1.toInt < 40) ∧ dryG (FdC M b) (ix v1))) (hs : 1 ≤ v4.toInt ∧ v4.toInt ≤ 30) (hxy : (-100 ≤ v2.toInt ∧ v2.toInt ≤ 100) ∧ -100 ≤ v3.toInt ∧ v3.toInt ≤ 100) : Wp (f_X2_isStepFrom b M v1 v2 v3 v4) (fun q => (q = 0 ∨ q = 1) ∧ (¬ q.toInt = 0 ↔ stF (FdC M b) v4.toInt (ix v1) v2.toInt v3.toInt)) := by
  have hb0 : b = 1 ∨ b = 7 ∨ b = 13 := hb
  have bn : ¬ (0 ≤ v1.toInt ∧ v1.toInt < 40) ∨ ((0 ≤ v1.toInt ∧ v1.toInt < 40) ∧ dryG (FdC M b) (ix v1)) := by
    rcases hpn with z | z | z
    · exact Or.inl (by omega)
    · exact Or.inl (by omega)
    · exact Or.inr z
  have j22 : ∀ (t0_22 : Int32), (t0_22.toInt = alG (FdC M b) (ix v1) v2.toInt ∧ -1000 ≤ t0_22.toInt ∧ t0_22.toInt ≤ 1000) → Wp (f_X2_isStepFrom_L22 b M v1 v3 v4 t0_22) (fun q => (q = 0 ∨ q = 1) ∧ (¬ q.toInt = 0 ↔ stF (FdC M b) v4.toInt (ix v1) v2.toInt v3.toInt)) := by
    intro t0_22 h22
    unfold f_X2_isStepFrom_L22
    refine wp_bind2 (ow_X2_heightOf hb M v1) (fun r_1 he26 hq26 => ?_)
    have hh_26 := hq26
    replace hh_26 : (v1.toInt = 40 ∨ v1.toInt = 41 ∨ ((0 ≤ v1.toInt ∧ v1.toInt < 40) ∧ dryG (FdC M b) (ix v1))) → r_1.toInt = hgt (FdC M b) (ix v1) := hh_26
    have hh := hh_26 hpn
    have hb9 : 0 ≤ hgt (FdC M b) (ix v1) ∧ hgt (FdC M b) (ix v1) ≤ 21 := by
      rcases hpn with z | z | z
      · rw [show ix v1 = 40 from (ix_eq (by omega) (by decide)).mpr z, hg_40]; omega
      · rw [show ix v1 = 41 from (ix_eq (by omega) (by decide)).mpr z, hg_41]; omega
      · rw [hg_s z.2.1.1]; have y := (dry_b hGd z.2).2; omega
    refine wp_bnd (fun x_2 ex_2 => ?_)
    have q2 : x_2.toInt = hgt (FdC M b) (ix v1) - v3.toInt := by
      rw [ex_2, ← hh]
      have f := t_sub r_1 v3
      omega
    have sv := t_sq (x := v4) (by omega)
    have e := t_dd (x := t0_22) (y := x_2) (by omega) (by rw [q2]; omega)
    rw [h22.1, q2] at e
    refine wp_ite (fun c49 => ?_) (fun c49 => ?_)
    · exact wp_some ⟨b01_0, ⟨fun z => absurd nI0 z, fun z => by unfold stF at z; omega⟩⟩
    · exact wp_some ⟨b01_1, ⟨fun _ => by unfold stF; omega, fun _ => ne1⟩⟩
  have j21 : (¬ (0 ≤ v1.toInt ∧ v1.toInt < 40)) → (0 ≤ v1.toInt) → Wp (f_X2_isStepFrom_L21 b M v1 v3 v4) (fun q => (q = 0 ∨ q = 1) ∧ (¬ q.toInt = 0 ↔ stF (FdC M b) v4.toInt (ix v1) v2.toInt v3.toInt)) := by
    intro h21 h21b
    unfold f_X2_isStepFrom_L21
    exact j22 (nI 0) ⟨by rw [al_b (fun z => h21 ⟨h21b, by have := t_ixn v1 h21b; omega⟩)]; exact nI0, by decide⟩
  refine wp_ite (fun c1 => ?_) (fun c1 => ?_)
  · exact j21 (by omega) (by rcases hpn with z | z | z <;> omega)
  · refine wp_ite (fun c7 => ?_) (fun c7 => ?_)
    · exact j21 (by omega) (by rcases hpn with z | z | z <;> omega)
    · refine wp_gd (by omega) ?_
      exact j22 ((M (b + 1) (ix v1)) - v2) (by have d := (bn.resolve_left (fun z => z ⟨by omega, by omega⟩)).2; have y := (dry_b hGd d).1; rw [← fdc_at (a := 1) d.1.1 (by omega) d.1.2]; rw [al_s d.1.1]; have f := t_sub (FdC M b 1 (ix v1)) v2; omega)
set_option maxHeartbeats 4000000 in
theorem ow_X2_isStep {b : Nat} (hb : isF b) (M : Mem) (v1 : Int32) (v2 : Int32) (v3 : Int32) (hGd : GdF (FdC M b)) (hv1 : 0 ≤ v1.toInt ∧ v1.toInt < 42) (hv2 : 0 ≤ v2.toInt ∧ v2.toInt < 42) (hs : 1 ≤ v3.toInt ∧ v3.toInt ≤ 30) : Wp (f_X2_isStep b M v1 v2 v3) (fun q => (q = 0 ∨ q = 1) ∧ (¬ q.toInt = 0 ↔ stC (FdC M b) v3.toInt (ix v1) (ix v2))) := by
  have hb0 : b = 1 ∨ b = 7 ∨ b = 13 := hb
  refine wp_ite (fun c2 => ?_) (fun c2 => ?_)
  · exact wp_some ⟨b01_0, ⟨fun z => absurd nI0 z, fun z => absurd (ixx_of c2) z.1⟩⟩
  · have nij : ¬ ix v1 = ix v2 := ix_ne hv1.1 hv2.1 c2
    refine wp_bind2 (ow_X2_canStand hb M v1) (fun r_1 he7 hq7 => ?_)
    obtain ⟨hz_r_1, hc_7⟩ := hq7
    replace hc_7 : ¬ r_1.toInt = 0 ↔ v1.toInt = 40 ∨ v1.toInt = 41 ∨ ((0 ≤ v1.toInt ∧ v1.toInt < 40) ∧ dryG (FdC M b) (ix v1)) := hc_7
    refine wp_ite (fun c10 => ?_) (fun c10 => ?_)
    · exact wp_some ⟨b01_0, ⟨fun z => absurd nI0 z, fun z => absurd (hc_7.mpr (z.2.1.elim (fun q => Or.inl ((ix_eq hv1.1 (by decide)).mp q)) (fun q => q.elim (fun q => Or.inr (Or.inl ((ix_eq hv1.1 (by decide)).mp q))) (fun q => Or.inr (Or.inr ⟨⟨hv1.1, by have := t_ixn v1 hv1.1; have := q.1.1; omega⟩, q⟩))))) (fun q => q c10)⟩⟩
    · have hc := hc_7.mp c10
      have sj : ix v1 = 40 ∨ ix v1 = 41 ∨ dryG (FdC M b) (ix v1) := hc.elim (fun q => Or.inl ((ix_eq hv1.1 (by decide)).mpr q)) (fun q => q.elim (fun q => Or.inr (Or.inl ((ix_eq hv1.1 (by decide)).mpr q))) (fun q => Or.inr (Or.inr q.2)))
      have j60 : (40 ≤ v2.toInt) → Wp (f_X2_isStep_L60 b M v1 v2 v3) (fun q => (q = 0 ∨ q = 1) ∧ (¬ q.toInt = 0 ↔ stC (FdC M b) v3.toInt (ix v1) (ix v2))) := by
        intro h60
        unfold f_X2_isStep_L60
        have j72 : (v2.toInt = 40 ∨ v2.toInt = 41) → Wp (f_X2_isStep_L72 b M v1 v2 v3) (fun q => (q = 0 ∨ q = 1) ∧ (¬ q.toInt = 0 ↔ stC (FdC M b) v3.toInt (ix v1) (ix v2))) := by
          intro h72
          unfold f_X2_isStep_L72
          refine wp_bind2 (ow_X2_heightOf hb M v1) (fun r_2 he74 hq74 => ?_)
          have hh_74 := hq74
          replace hh_74 : (v1.toInt = 40 ∨ v1.toInt = 41 ∨ ((0 ≤ v1.toInt ∧ v1.toInt < 40) ∧ dryG (FdC M b) (ix v1))) → r_2.toInt = hgt (FdC M b) (ix v1) := hh_74
          refine wp_bind2 (ow_X2_heightOf hb M v2) (fun r_3 he79 hq79 => ?_)
          have hh_79 := hq79
          replace hh_79 : (v2.toInt = 40 ∨ v2.toInt = 41 ∨ ((0 ≤ v2.toInt ∧ v2.toInt < 40) ∧ dryG (FdC M b) (ix v2))) → r_3.toInt = hgt (FdC M b) (ix v2) := hh_79
          have h1 := hh_74 hc
          have h2 := hh_79 (h72.elim Or.inl (fun q => Or.inr (Or.inl q)))
          have bv1 : 0 ≤ hgt (FdC M b) (ix v1) ∧ hgt (FdC M b) (ix v1) ≤ 21 := by
            rcases hc with z | z | z
            · rw [show ix v1 = 40 from (ix_eq (by omega) (by decide)).mpr z, hg_40]; omega
            · rw [show ix v1 = 41 from (ix_eq (by omega) (by decide)).mpr z, hg_41]; omega
            · rw [hg_s z.2.1.1]; have y := (dry_b hGd z.2).2; omega
          have b2 : 0 ≤ hgt (FdC M b) (ix v2) ∧ hgt (FdC M b) (ix v2) ≤ 21 := by
            rcases h72 with z | z
            · rw [show ix v2 = 40 from (ix_eq (by omega) (by decide)).mpr z, hg_40]; omega
            · rw [show ix v2 = 41 from (ix_eq (by omega) (by decide)).mpr z, hg_41]; omega
          have fs := t_sub r_2 r_3
          have eab := t_ab (x := r_2 - r_3) (by omega)
          rw [show (r_2 - r_3).toInt = hgt (FdC M b) (ix v1) - hgt (FdC M b) (ix v2) from (by omega)] at eab
          refine wp_ite (fun c87 => ?_) (fun c87 => ?_)
          · exact wp_some ⟨b01_0, ⟨fun z => absurd nI0 z, fun z => by rw [eab] at c87; have w := z.2.2.elim (fun q => absurd q.1.1.1 (by have := t_ixn v2 hv2.1; omega)) id; have w2 := w.2; split at c87 <;> omega⟩⟩
          · exact wp_some ⟨b01_1, ⟨fun _ => ⟨nij, sj, Or.inr ⟨h72.elim (fun q => Or.inl ((ix_eq hv2.1 (by decide)).mpr q)) (fun q => Or.inr ((ix_eq hv2.1 (by decide)).mpr q)), by rw [eab] at c87; split at c87 <;> omega⟩⟩, fun _ => ne1⟩⟩
        refine wp_ite (fun c63 => ?_) (fun c63 => ?_)
        · exact j72 (Or.inl c63)
        · refine wp_ite (fun c69 => ?_) (fun c69 => ?_)
          · exact j72 (Or.inr c69)
          · exact wp_some ⟨b01_0, ⟨fun z => absurd nI0 z, fun z => (z.2.2.elim (fun q => by have := q.1.1.1; have := t_ixn v2 hv2.1; omega) (fun q => by have := t_ixn v2 hv2.1; omega) : False).elim⟩⟩
      refine wp_ite (fun c16 => ?_) (fun c16 => ?_)
      · exact j60 (by omega)
      · refine wp_ite (fun c22 => ?_) (fun c22 => ?_)
        · exact j60 (by omega)
        · refine wp_bind2 (ow_X2_isDry hb M v2) (fun r_4 he27 hq27 => ?_)
          obtain ⟨hz_r_4, hr_27, hd_27⟩ := hq27
          replace hr_27 : ¬ r_4.toInt = 0 → 0 ≤ v2.toInt ∧ v2.toInt < 40 := hr_27
          replace hd_27 : ¬ r_4.toInt = 0 ↔ (0 ≤ v2.toInt ∧ v2.toInt < 40) ∧ dryG (FdC M b) (ix v2) := hd_27
          refine wp_ite (fun c30 => ?_) (fun c30 => ?_)
          · exact wp_some ⟨b01_0, ⟨fun z => absurd nI0 z, fun z => (z.2.2.elim (fun q => hd_27.mpr ⟨⟨hv2.1, by omega⟩, q.1⟩ c30) (fun q => by have := t_ixn v2 hv2.1; omega) : False).elim⟩⟩
          · have d2 := hd_27.mp c30
            have ex2 := fdc_at (a := 1) d2.2.1.1 (by omega) d2.2.1.2
            have ey2 := fdc_at (a := 2) d2.2.1.1 (by omega) d2.2.1.2
            have bd := dry_b hGd d2.2
            refine wp_gd (by omega) ?_
            refine wp_gd (by omega) ?_
            refine wp_bind2 (ow_X2_isStepFrom hb M v1 (M (b + 1) (ix v2)) (M (b + 2) (ix v2)) v3 hGd hc hs (by have y1 : M (b + 1) (ix v2) = FdC M b 1 (ix v2) := ex2.symm; have y2 : M (b + 2) (ix v2) = FdC M b 2 (ix v2) := ey2.symm; rw [y1, y2]; omega)) (fun r_5 he48 hq48 => ?_)
            obtain ⟨hz_r_5, hf2_48⟩ := hq48
            replace hf2_48 : ¬ r_5.toInt = 0 ↔ stF (FdC M b) v3.toInt (ix v1) (M (b + 1) (ix v2)).toInt (M (b + 2) (ix v2)).toInt := hf2_48
            refine wp_ite (fun c51 => ?_) (fun c51 => ?_)
            · exact wp_some ⟨b01_0, ⟨fun z => absurd nI0 z, fun z => (z.2.2.elim (fun q => by have y := q.2; rw [ex2, ey2] at y; exact hf2_48.mpr y c51) (fun q => by have := t_ixn v2 hv2.1; omega) : False).elim⟩⟩
            · exact wp_some ⟨b01_1, ⟨fun _ => ⟨nij, sj, Or.inl ⟨d2.2, by rw [ex2, ey2]; exact hf2_48.mp c51⟩⟩, fun _ => ne1⟩⟩
theorem ow_J7_fill_53178 {k len_k : Nat} (hlk : len_k < 2 ^ 31) (M : Mem) (v1 : Int32) (hlen9 : len_k ≤ 1000) : Wp (f_J7_fill_53178 k len_k M v1) (fun q => (∀ a i, ¬ (a = k) → q a i = M a i) ∧ (∀ j, j < len_k → q k j = v1)) := by
  refine wp_bnd (fun x_1 ex_1 => ?_)
  have ft1 := t_rng x_1
  refine wp_lp2 (fun M5 y2_5 => (0 ≤ y2_5.toInt) ∧ (∀ a i, ¬ (a = k) → M5 a i = M a i) ∧ (∀ j : Nat, (j : Int) < y2_5.toInt → M5 k j = v1)) (fun M5 y2_5 => (x_1.toInt - y2_5.toInt).toNat) (fun ag5 M5 y2_5 hI5 ih5 => ?_) FU M (nI 0) ⟨(by have f0 := t_lit 0; omega), (fun _ _ _ => rfl), (fun j hj => absurd hj (by have := t_lit 0; omega))⟩ (fu_lt (by have f0 := t_lit 0; omega))
  obtain ⟨hi5, hf_M5, h5⟩ := hI5
  refine wp_ite (fun c7 => ?_) (fun c7 => ?_)
  · exact wp_some ⟨(fun a i q0 => ((hf_M5 a i (fun h9 => q0 (h9))).trans rfl)), (fun j hj => h5 j (by rw [ex_1, nI_toInt hlk] at c7; omega))⟩
  · refine wp_gd (by have f0 := nI_toInt hlk; have f1 := congrArg Int32.toInt ex_1; omega) ?_
    refine wp_bnd (fun M_2 eM_2 => ?_)
    exact ih5 M_2 (y2_5 + (nI 1)) ⟨(by have f0 := t_lit 1; have f1 := t_add y2_5 (nI 1); have f2 := nI_toInt hlk; have f3 := congrArg Int32.toInt ex_1; omega), (fun a i q0 => ((congrFun (congrFun eM_2 a) i).trans ((mset_ne (fun h9 => q0 ((h9).1))).trans ((hf_M5 a i (fun h9 => q0 (h9))).trans rfl)))), (set_ext (P := fun _ x => x = v1) eM_2 (by omega) (by have z := nI_toInt hlk; rw [ex_1, z] at c7; have := hlen9; omega) h5 rfl)⟩ (by have f0 := t_lit 1; have f1 := t_add y2_5 (nI 1); have f2 := nI_toInt hlk; have f3 := congrArg Int32.toInt ex_1; omega)
set_option maxHeartbeats 16000000 in
theorem ow_X8_spreadOn {b : Nat} (hb : isF b) {k len_k : Nat} (hlk : len_k < 2 ^ 31) (M : Mem) (v2 : Int32) (v3 : Int32) (v5 : Int32) (hlen : len_k = 42) (hk : k = 24 ∨ k = 25) (ms : Nat) (hm : ms ≤ 42 ∧ v5.toInt = (ms : Int)) (hst : 0 ≤ v3.toInt ∧ ix v3 < ms) (hs : 1 ≤ v2.toInt ∧ v2.toInt ≤ 30) (hGd : GdF (FdC M b)) (hfr : ∀ j, j < 42 → M k j = -1) : Wp (f_X8_spreadOn b k len_k M v2 v3 v5) (fun q => (∀ a i, ¬ (a = 26 ∨ a = k) → q.2 a i = M a i) ∧ (Bfs ms (fun j => j = ix v3) (stC (FdC M b) v2.toInt) (SPm q.2 k) (QUm q.2) (ix q.1) (ix q.1) ∧ VLm q.2 k)) := by
  have hb0 : b = 1 ∨ b = 7 ∨ b = 13 := hb
  have hlk1 := nI_toInt hlk
  refine wp_ite (fun c1 => ?_) (fun c1 => ?_)
  · exact wp_some ⟨(fun _ _ _ => rfl), (False.elim (by have z := nI_toInt hlk; have z2 := t_ixn v3 hst.1; rw [hlen] at z; omega))⟩
  · refine wp_ite (fun c7 => ?_) (fun c7 => ?_)
    · exact wp_some ⟨(fun _ _ _ => rfl), (False.elim (by have z := nI_toInt hlk; have z2 := t_ixn v3 hst.1; rw [hlen] at z; omega))⟩
    · refine wp_ite (fun c15 => ?_) (fun c15 => ?_)
      · refine wp_gd (by omega) ?_
        refine wp_bnd (fun M_1 eM_1 => ?_)
        refine wp_bnd (fun M_2 eM_2 => ?_)
        have s0 : ∀ j, SPm M k j = -1 ∨ 42 ≤ j := fun j => by
          by_cases c : j < 42
          · refine Or.inl ?_
            unfold SPm
            rw [hfr j c]
            decide
          · exact Or.inr (by omega)
        have v0 : VLm M_2 k := vl_oth (vl_set (fun j hj => by rw [hfr j hj]; decide) eM_1 (by decide)) eM_2 (by omega)
        have q0 : VQm M_2 (nI 1).toInt := fun t ht => by
          have f1 := t_lit 1
          rw [show t = 0 from (by omega), eM_2, mset_eq]
          exact hst.1
        have hF0 : Bfs ms (fun j => j = ix v3) (stC (FdC M b) v2.toInt) (SPm M_2 k) (QUm M_2) (ix (nI 1)) (ix (nI 0)) := by
          rw [show ix (nI 1) = 1 from (by decide), show ix (nI 0) = 0 from (by decide), spm_o eM_2 (by omega), spm_s eM_1, qum_s eM_2, qum_o eM_1 (by omega)]
          exact bfs_ext (bfs_one (s := fun _ => -1) (q := QUm M) hst.2 (fun _ => rfl)) (fun j hj => by
            unfold pu
            by_cases c : j = ix v3
            · rw [if_pos c, if_pos c]; decide
            · rw [if_neg c, if_neg c]; exact (s0 j).resolve_right (by omega)) (fun t ht => rfl)
        refine wp_lp3 (fun M38 y6_38 y7_38 => (0 ≤ y7_38.toInt) ∧ (∀ a i, ¬ (a = 26 ∨ a = k) → M38 a i = M_2 a i) ∧ (0 ≤ y6_38.toInt) ∧ (Bfs ms (fun j => j = ix v3) (stC (FdC M b) v2.toInt) (SPm M38 k) (QUm M38) (ix y6_38) (ix y7_38)) ∧ (y7_38.toInt ≤ y6_38.toInt ∧ y6_38.toInt ≤ (ms : Int)) ∧ (VQm M38 y6_38.toInt) ∧ (VLm M38 k)) (fun M38 y6_38 y7_38 => (42 - y7_38.toInt).toNat) (fun ag38 M38 y6_38 y7_38 hI38 ih38 => ?_) FU M_2 (nI 1) (nI 0) ⟨(by have f0 := t_lit 0; omega), (fun _ _ _ => rfl), (by decide), hF0, (by have f0 := t_lit 0; have f1 := t_lit 1; omega), q0, v0⟩ (fu_lt (by have f0 := t_lit 0; omega))
        obtain ⟨hi38, hf_M38, ht, hF, b38, q38, v38⟩ := hI38
        refine wp_ite (fun c42 => ?_) (fun c42 => ?_)
        · exact wp_some ⟨(fun a i q0 => ((hf_M38 a i (fun z8 => q0 ((fun z9 => Or.elim z9 (fun h9 => Or.inl h9) (fun h9 => Or.inr (h9))) z8))).trans ((congrFun (congrFun eM_2 a) i).trans ((mset_ne (fun h9 => q0 (Or.inl (h9).1))).trans ((congrFun (congrFun eM_1 a) i).trans ((mset_ne (fun h9 => q0 (Or.inr ((h9).1)))).trans rfl)))))), ⟨by have z1 := t_ixn y6_38 (by omega); have z2 := t_ixn y7_38 (by omega); have z3 : ix y7_38 = ix y6_38 := (by omega); rw [z3] at hF; exact hF, v38⟩⟩
        · refine wp_ite (fun c49 => ?_) (fun c49 => ?_)
          · exact wp_some ⟨(fun a i q0 => ((hf_M38 a i (fun z8 => q0 ((fun z9 => Or.elim z9 (fun h9 => Or.inl h9) (fun h9 => Or.inr (h9))) z8))).trans ((congrFun (congrFun eM_2 a) i).trans ((mset_ne (fun h9 => q0 (Or.inl (h9).1))).trans ((congrFun (congrFun eM_1 a) i).trans ((mset_ne (fun h9 => q0 (Or.inr ((h9).1)))).trans rfl)))))), ⟨by have z1 := t_ixn y6_38 (by omega); have z2 := t_ixn y7_38 (by omega); have z3 : ix y7_38 = ix y6_38 := (by omega); rw [z3] at hF; exact hF, v38⟩⟩
          · have hx := hF.1.1.2.1 (ix y7_38) (by have z1 := t_ixn y6_38 (by omega); have z2 := t_ixn y7_38 (by omega); omega)
            refine wp_gd (by omega) ?_
            refine wp_bnd (fun x_3 ex_3 => ?_)
            have x0 : 0 ≤ x_3.toInt := by
              rw [ex_3]
              exact q38 (ix y7_38) (by have z2 := t_ixn y7_38 (by omega); omega)
            have xq : QUm M38 (ix y7_38) = ix x_3 := by rw [ex_3]; rfl
            rw [xq] at hx
            have x42 : x_3.toInt < 42 := by have z := t_ixn x_3 x0; have z2 := hx.1; omega
            have j84 : ∀ (t0_84 : Int32), (t0_84 = M38 k (ix x_3) + nI 1) → Wp (f_X8_spreadOn_L84 b k len_k v2 v5 ag38 M38 y6_38 y7_38 x_3 t0_84) (fun q => (∀ a i, ¬ (a = 26 ∨ a = k) → q.2 a i = M a i) ∧ (Bfs ms (fun j => j = ix v3) (stC (FdC M b) v2.toInt) (SPm q.2 k) (QUm q.2) (ix q.1) (ix q.1) ∧ VLm q.2 k)) := by
              intro t0_84 h84
              unfold f_X8_spreadOn_L84
              refine wp_lp3 (fun M89 y6_89 y10_89 => (0 ≤ y10_89.toInt) ∧ (∀ a i, ¬ (a = 26 ∨ a = k) → M89 a i = M38 a i) ∧ (0 ≤ y6_89.toInt) ∧ (Bin ms (fun j => j = ix v3) (stC (FdC M b) v2.toInt) (SPm M89 k) (QUm M89) (ix y6_89) (ix y7_38) (ix y10_89)) ∧ (y7_38.toInt < y6_89.toInt ∧ y6_89.toInt ≤ (ms : Int) ∧ y10_89.toInt ≤ 42) ∧ (VQm M89 y6_89.toInt) ∧ (VLm M89 k) ∧ (M89 k (ix x_3) = M38 k (ix x_3)) ∧ (M89 26 (ix y7_38) = x_3)) (fun M89 y6_89 y10_89 => (42 - y10_89.toInt).toNat) (fun ag89 M89 y6_89 y10_89 hI89 ih89 => ?_) FU M38 y6_38 (nI 0) ⟨(by have f0 := t_lit 0; omega), (fun _ _ _ => rfl), ht, (by rw [show ix (nI 0) = 0 from (by decide)]; exact bfs_in hF (by have z1 := t_ixn y6_38 (by omega); have z2 := t_ixn y7_38 (by omega); omega)), ⟨by omega, by omega, by have := t_lit 0; omega⟩, q38, v38, rfl, ex_3.symm⟩ (fu_lt (by have f0 := t_lit 0; omega))
              obtain ⟨hi89, hf_M89, ht9, hN, b89, q89, v89, k89, x89⟩ := hI89
              have f89 : FdC M89 b = FdC M b := fdc_fr (fun a i h1 h2 => by rw [hf_M89 a i (by first | decide | (rcases hc0 with h | h <;> rw [h] <;> simp; done) | (rcases hb0 with h | h | h <;> rw [h] <;> simp; done) | (simp; done) | omega), hf_M38 a i (by first | decide | (rcases hc0 with h | h <;> rw [h] <;> simp; done) | (rcases hb0 with h | h | h <;> rw [h] <;> simp; done) | (simp; done) | omega), eM_2, mset_ne (by first | exact nz1 (by decide) | exact nz2 (by decide) | exact nz1 (nzA hc0 (by decide)) | exact nz1 (nzE (by decide)) | exact nz1 (nzB hc0 (by decide)) | exact nz1 (nzC hc0 (by decide)) | exact nz1 (nzD hc0 (by decide)) | exact nz1 (nzF (by decide)) | exact nz1 (nzG (by decide)) | omega), eM_1, mset_ne (by first | exact nz1 (by decide) | exact nz2 (by decide) | exact nz1 (nzA hc0 (by decide)) | exact nz1 (nzE (by decide)) | exact nz1 (nzB hc0 (by decide)) | exact nz1 (nzC hc0 (by decide)) | exact nz1 (nzD hc0 (by decide)) | exact nz1 (nzF (by decide)) | exact nz1 (nzG (by decide)) | omega)])
              have i10 := t_ixn y10_89 (by omega)
              refine wp_ite (fun c93 => ?_) (fun c93 => ?_)
              · exact ih38 M89 y6_89 (y7_38 + (nI 1)) ⟨(by have f0 := t_lit 1; have f1 := t_add y7_38 (nI 1); omega), (fun a i q0 => ((hf_M89 a i (fun z8 => q0 ((fun z9 => Or.elim z9 (fun h9 => Or.inl h9) (fun h9 => Or.inr (h9))) z8))).trans ((hf_M38 a i (fun z8 => q0 ((fun z9 => Or.elim z9 (fun h9 => Or.inl h9) (fun h9 => Or.inr (h9))) z8))).trans rfl))), ht9, (by rw [(i_up (x := y7_38) (by omega)).1]; exact bin_out hN (by have := hm.2; omega)), ⟨by rw [(i_up (x := y7_38) (by omega)).2]; omega, b89.2.1⟩, q89, v89⟩ (by have f0 := t_lit 1; have f1 := t_add y7_38 (nI 1); omega)
              · refine wp_ite (fun c100 => ?_) (fun c100 => ?_)
                · exact ih38 M89 y6_89 (y7_38 + (nI 1)) ⟨(by have f0 := t_lit 1; have f1 := t_add y7_38 (nI 1); omega), (fun a i q0 => ((hf_M89 a i (fun z8 => q0 ((fun z9 => Or.elim z9 (fun h9 => Or.inl h9) (fun h9 => Or.inr (h9))) z8))).trans ((hf_M38 a i (fun z8 => q0 ((fun z9 => Or.elim z9 (fun h9 => Or.inl h9) (fun h9 => Or.inr (h9))) z8))).trans rfl))), ht9, (by rw [(i_up (x := y7_38) (by omega)).1]; exact bin_out hN (by have := hm.2; omega)), ⟨by rw [(i_up (x := y7_38) (by omega)).2]; omega, b89.2.1⟩, q89, v89⟩ (by have f0 := t_lit 1; have f1 := t_add y7_38 (nI 1); omega)
                · have iy := i_up (x := y10_89) (by omega)
                  have hj : ix y10_89 < ms := by omega
                  refine wp_gd (by omega) ?_
                  refine wp_ite (fun c109 => ?_) (fun c109 => ?_)
                  · refine wp_ite (fun c116 => ?_) (fun c116 => ?_)
                    · exact ih89 M89 y6_89 (y10_89 + (nI 1)) ⟨(by have f0 := t_lit 1; have f1 := t_add y10_89 (nI 1); omega), (fun a i q0 => ((hf_M89 a i (fun z8 => q0 ((fun z9 => Or.elim z9 (fun h9 => Or.inl h9) (fun h9 => Or.inr (h9))) z8))).trans rfl)), (by omega), (False.elim (by have z := bin_room hN (show sp (M89 k (ix y10_89)).toInt = -1 by rw [c109, sp_n]) hj; have z2 := t_ixn y6_89 (by omega); omega)), ⟨b89.1, b89.2.1, by rw [iy.2]; omega⟩, q89, v89, k89, x89⟩ (by have f0 := t_lit 1; have f1 := t_add y10_89 (nI 1); omega)
                    · refine wp_bind2 (ow_X2_isStep hb M89 x_3 y10_89 v2 (by rw [f89]; exact hGd) ⟨x0, x42⟩ ⟨by omega, by omega⟩ hs) (fun r_4 he125 hq125 => ?_)
                      obtain ⟨hz_r_4, hst_125⟩ := hq125
                      replace hst_125 : ¬ r_4.toInt = 0 ↔ stC (FdC M89 b) v2.toInt (ix x_3) (ix y10_89) := hst_125
                      rw [f89] at hst_125
                      have xq9 : QUm M89 (ix y7_38) = ix x_3 := congrArg ix x89
                      refine wp_ite (fun c128 => ?_) (fun c128 => ?_)
                      · have hcn : ¬ (stC (FdC M b) v2.toInt) (QUm M89 (ix y7_38)) (ix y10_89) := fun z => hst_125.mpr (by rw [xq9] at z; exact z) c128
                        exact ih89 M89 y6_89 (y10_89 + (nI 1)) ⟨(by have f0 := t_lit 1; have f1 := t_add y10_89 (nI 1); omega), (fun a i q0 => ((hf_M89 a i (fun z8 => q0 ((fun z9 => Or.elim z9 (fun h9 => Or.inl h9) (fun h9 => Or.inr (h9))) z8))).trans rfl)), (by omega), (by rw [iy.1]; exact bin_skip hN (Or.inr (fun z => hcn z)) hj), ⟨b89.1, b89.2.1, by rw [iy.2]; omega⟩, q89, v89, k89, x89⟩ (by have f0 := t_lit 1; have f1 := t_add y10_89 (nI 1); omega)
                      · have hcc : (stC (FdC M b) v2.toInt) (QUm M89 (ix y7_38)) (ix y10_89) := by
                          rw [xq9]
                          exact hst_125.mp c128
                        have nx : ¬ ix x_3 = ix y10_89 := fun z => by
                          have y := hx.2.1
                          rw [z] at y
                          have w : M38 k (ix y10_89) = M89 k (ix y10_89) := by rw [← z]; exact k89.symm
                          exact y (by show sp (M38 k (ix y10_89)).toInt = -1; rw [w, c109, sp_n])
                        have h84s : sp t0_84.toInt = SPm M89 k (QUm M89 (ix y7_38)) + 1 := by
                          rw [xq9]
                          show sp t0_84.toInt = sp (M89 k (ix x_3)).toInt + 1
                          have vx := v89 (ix x_3) (by have := t_ixn x_3 x0; omega)
                          have nn : ¬ (M89 k (ix x_3)).toInt = -1 := fun z => hx.2.1 (by show sp (M38 k (ix x_3)).toInt = -1; rw [← k89, z, sp_n])
                          rw [h84, ← k89, t_inc _ 1 (by omega), sp_s (by omega), sp_s nn]
                          omega
                        have vx := v89 (ix x_3) (by have := t_ixn x_3 x0; omega)
                        have v84 : -1 ≤ t0_84.toInt ∧ t0_84.toInt ≤ 1000 := by
                          have w := hN.1.1.2.1 (ix y7_38) (by have z1 := t_ixn y6_89 (by omega); have z2 := t_ixn y7_38 (by omega); omega)
                          rw [xq9] at w
                          have w3 : sp (M89 k (ix x_3)).toInt ≤ ((ix y7_38 : Nat) : Int) + 1 := w.2.2
                          have nn : ¬ (M89 k (ix x_3)).toInt = -1 := fun z => w.2.1 (by show sp (M89 k (ix x_3)).toInt = -1; rw [z, sp_n])
                          rw [sp_s nn] at w3
                          have z2 := t_ixn y7_38 (by omega)
                          rw [h84, ← k89, t_inc _ 1 (by omega)]
                          omega
                        have iy6 := i_up (x := y6_89) (by omega)
                        have room : ix y6_89 < ms := bin_room hN (show sp (M89 k (ix y10_89)).toInt = -1 by rw [c109, sp_n]) hj
                        have i6 := t_ixn y6_89 (by omega)
                        refine wp_gd (by omega) ?_
                        refine wp_bnd (fun M_5 eM_5 => ?_)
                        refine wp_gd (by omega) ?_
                        refine wp_bnd (fun M_6 eM_6 => ?_)
                        exact ih89 M_6 (y6_89 + (nI 1)) (y10_89 + (nI 1)) ⟨(by have f0 := t_lit 1; have f1 := t_add y10_89 (nI 1); omega), (fun a i q0 => ((congrFun (congrFun eM_6 a) i).trans ((mset_ne (fun h9 => q0 (Or.inl (h9).1))).trans ((congrFun (congrFun eM_5 a) i).trans ((mset_ne (fun h9 => q0 (Or.inr ((h9).1)))).trans ((hf_M89 a i (fun z8 => q0 ((fun z9 => Or.elim z9 (fun h9 => Or.inl h9) (fun h9 => Or.inr (h9))) z8))).trans rfl)))))), (by have f0 := t_lit 1; have f1 := t_add y6_89 (nI 1); omega), (by rw [iy.1, iy6.1, spm_o eM_6 (by omega), spm_s eM_5, qum_s eM_6, qum_o eM_5 (by omega), h84s]; exact bin_push hN (by show sp (M89 k (ix y10_89)).toInt = -1; rw [c109, sp_n]) hcc hj), ⟨by rw [iy6.2]; omega, by rw [iy6.2]; omega, by rw [iy.2]; omega⟩, (vq_set (vq_oth q89 eM_5 (by omega)) eM_6 (t_ixn y6_89 (by omega)) iy6.2 (by omega)), (vl_oth (vl_set v89 eM_5 (by omega)) eM_6 (by omega)), (by rw [eM_6, mset_ne (by first | exact nz1 (by decide) | exact nz2 (by decide) | exact nz1 (nzA hc0 (by decide)) | exact nz1 (nzE (by decide)) | exact nz1 (nzB hc0 (by decide)) | exact nz1 (nzC hc0 (by decide)) | exact nz1 (nzD hc0 (by decide)) | exact nz1 (nzF (by decide)) | exact nz1 (nzG (by decide)) | omega), eM_5, mset_ne (fun z => nx z.2)]; exact k89), (by rw [eM_6, mset_ne (fun z => by have z2 := z.2; have z3 := t_ixn y6_89 (by omega); have z4 := t_ixn y7_38 (by omega); omega), eM_5, mset_ne (by first | exact nz1 (by decide) | exact nz2 (by decide) | exact nz1 (nzA hc0 (by decide)) | exact nz1 (nzE (by decide)) | exact nz1 (nzB hc0 (by decide)) | exact nz1 (nzC hc0 (by decide)) | exact nz1 (nzD hc0 (by decide)) | exact nz1 (nzF (by decide)) | exact nz1 (nzG (by decide)) | omega)]; exact x89)⟩ (by have f0 := t_lit 1; have f1 := t_add y10_89 (nI 1); omega)
                  · exact ih89 M89 y6_89 (y10_89 + (nI 1)) ⟨(by have f0 := t_lit 1; have f1 := t_add y10_89 (nI 1); omega), (fun a i q0 => ((hf_M89 a i (fun z8 => q0 ((fun z9 => Or.elim z9 (fun h9 => Or.inl h9) (fun h9 => Or.inr (h9))) z8))).trans rfl)), (by omega), (by rw [iy.1]; exact bin_skip hN (Or.inl (fun z => c109 ((sp_1 (v89 _ (by omega)).1).mp z))) hj), ⟨b89.1, b89.2.1, by rw [iy.2]; omega⟩, q89, v89, k89, x89⟩ (by have f0 := t_lit 1; have f1 := t_add y10_89 (nI 1); omega)
            have j83 : (False) → Wp (f_X8_spreadOn_L83 b k len_k v2 v5 ag38 M38 y6_38 y7_38 x_3) (fun q => (∀ a i, ¬ (a = 26 ∨ a = k) → q.2 a i = M a i) ∧ (Bfs ms (fun j => j = ix v3) (stC (FdC M b) v2.toInt) (SPm q.2 k) (QUm q.2) (ix q.1) (ix q.1) ∧ VLm q.2 k)) := by
              intro h83
              unfold f_X8_spreadOn_L83
              exact j84 (nI 0) h83.elim
            refine wp_ite (fun c63 => ?_) (fun c63 => ?_)
            · exact j83 (by omega)
            · refine wp_ite (fun c70 => ?_) (fun c70 => ?_)
              · exact j83 (by omega)
              · refine wp_gd (by have f0 := congrArg Int32.toInt ex_3; omega) ?_
                exact j84 ((M38 k (ix x_3)) + (nI 1)) rfl
      · exact wp_some ⟨(fun _ _ _ => rfl), (False.elim (by have z := nI_toInt hlk; have z2 := t_ixn v3 hst.1; rw [hlen] at z; omega))⟩
theorem ow_X8_spread {b : Nat} (hb : isF b) {k len_k : Nat} (hlk : len_k < 2 ^ 31) (M : Mem) (v2 : Int32) (v3 : Int32) (v5 : Int32) (hlen : len_k = 42) (hk : k = 24 ∨ k = 25) (ms : Nat) (hm : ms ≤ 42 ∧ v5.toInt = (ms : Int)) (hst : 0 ≤ v3.toInt ∧ ix v3 < ms) (hs : 1 ≤ v2.toInt ∧ v2.toInt ≤ 30) (hGd : GdF (FdC M b)) : Wp (f_X8_spread b k len_k M v2 v3 v5) (fun q => (∀ a i, ¬ (a = 26 ∨ a = k) → q.2 a i = M a i) ∧ (Bfs ms (fun j => j = ix v3) (stC (FdC M b) v2.toInt) (SPm q.2 k) (QUm q.2) (ix q.1) (ix q.1) ∧ VLm q.2 k)) := by
  have hb0 : b = 1 ∨ b = 7 ∨ b = 13 := hb
  refine wp_bind2 (ow_J7_fill_53178 hlk M (-1) (by omega)) (fun M_1 he3 hq3 => ?_)
  obtain ⟨hg_M_1, hfl_3⟩ := hq3
  replace hfl_3 : ∀ j, j < len_k → M_1 k j = (-1) := hfl_3
  replace hg_M_1 : ∀ a i, ¬ (a = k) → M_1 a i = M a i := by exact fun a i q0 => hg_M_1 a i (by first | decide | (rcases hc0 with h | h <;> rw [h] <;> simp; done) | (rcases hb0 with h | h | h <;> rw [h] <;> simp; done) | (simp; done) | omega)
  refine wp_cb2 (ow_X8_spreadOn hb hlk M_1 v2 v3 v5 hlen hk ms hm hst hs (by rw [show FdC M_1 b = FdC M b from fdc_fr (fun a i h1 h2 => hg_M_1 a i (by first | decide | (rcases hc0 with h | h <;> rw [h] <;> simp; done) | (rcases hb0 with h | h | h <;> rw [h] <;> simp; done) | (simp; done) | omega))]; exact hGd) (fun j hj => hfl_3 j (by omega))) (fun r_2 M_3 he14 hq14 => ?_)
  obtain ⟨hg_M_3, hB_14⟩ := hq14
  replace hB_14 : Bfs ms (fun j => j = ix v3) (stC (FdC M_1 b) v2.toInt) (SPm M_3 k) (QUm M_3) (ix r_2) (ix r_2) ∧ VLm M_3 k := hB_14
  replace hg_M_3 : ∀ a i, ¬ (a = 26 ∨ a = k) → M_3 a i = M_1 a i := by exact fun a i q0 => hg_M_3 a i (by first | decide | (rcases hc0 with h | h <;> rw [h] <;> simp; done) | (rcases hb0 with h | h | h <;> rw [h] <;> simp; done) | (simp; done) | omega)
  exact wp_some ⟨(fun a i q0 => ((hg_M_3 a i (fun z8 => q0 ((fun z9 => Or.elim z9 (fun h9 => Or.inl h9) (fun h9 => Or.inr (h9))) z8))).trans ((hg_M_1 a i (fun h9 => q0 (Or.inr (h9)))).trans rfl))), (by rw [show FdC M_1 b = FdC M b from fdc_fr (fun a i h1 h2 => hg_M_1 a i (by first | decide | (rcases hc0 with h | h <;> rw [h] <;> simp; done) | (rcases hb0 with h | h | h <;> rw [h] <;> simp; done) | (simp; done) | omega))] at hB_14; exact hB_14)⟩
theorem ow_X8_canCross {b : Nat} (hb : isF b) (M : Mem) (v2 : Int32) (hs : 1 ≤ v2.toInt ∧ v2.toInt ≤ 30) (hGd : GdF (FdC M b)) : Wp (f_X8_canCross b M v2) (fun q => (q.1 = 0 ∨ q.1 = 1) ∧ (∀ a i, ¬ (a = 24 ∨ a = 26) → q.2 a i = M a i) ∧ (∃ r : Int, CrK (FdC M b) v2.toInt r ∧ (q.1.toInt = 0 ↔ r = -1))) := by
  have hb0 : b = 1 ∨ b = 7 ∨ b = 13 := hb
  refine wp_cb2 (ow_X8_spread hb (by decide) M v2 (nI 40) (nI 42) rfl (Or.inl rfl) 42 ⟨by omega, t_lit 42⟩ (by decide) hs hGd) (fun r_1 M_2 he11 hq11 => ?_)
  obtain ⟨hg_M_2, hB_11⟩ := hq11
  replace hB_11 : Bfs 42 (fun j => j = ix (nI 40)) (stC (FdC M b) v2.toInt) (SPm M_2 24) (QUm M_2) (ix r_1) (ix r_1) ∧ VLm M_2 24 := hB_11
  have := t_lit 40
  have := t_lit 42
  replace hg_M_2 : ∀ a i, ¬ (a = 24 ∨ a = 26) → M_2 a i = M a i := by exact fun a i q0 => hg_M_2 a i (by first | decide | (rcases hc0 with h | h <;> rw [h] <;> simp; done) | (rcases hb0 with h | h | h <;> rw [h] <;> simp; done) | (simp; done) | omega)
  have hE := bfs_end hB_11.1 (Nat.le_refl _)
  rw [show ix (nI 40) = 40 from (by decide)] at hE
  have hcr := crk_c hGd (by omega) hE (show SPm M_2 24 41 = sp (M_2 24 41).toInt from rfl) (hB_11.2 41 (by omega)).1
  refine wp_ite (fun c23 => ?_) (fun c23 => ?_)
  · exact wp_some ⟨b01_0, (fun a i q0 => ((hg_M_2 a i (fun z8 => q0 ((fun z9 => Or.elim z9 (fun h9 => Or.inl h9) (fun h9 => Or.inr (h9))) z8))).trans rfl)), ⟨_, hcr, ⟨fun _ => c23, fun _ => nI0⟩⟩⟩
  · exact wp_some ⟨b01_1, (fun a i q0 => ((hg_M_2 a i (fun z8 => q0 ((fun z9 => Or.elim z9 (fun h9 => Or.inl h9) (fun h9 => Or.inr (h9))) z8))).trans rfl)), ⟨_, hcr, ⟨fun z => absurd z ne1, fun z => absurd z c23⟩⟩⟩
