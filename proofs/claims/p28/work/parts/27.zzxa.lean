theorem ot_X2_nextDry {b : Nat} (hb : isF b) (M : Mem) (v1 : Int32) (x9 : Int32) (hx9 : x9 = v1 ∧ 0 ≤ v1.toInt ∧ v1.toInt ≤ 40) : Wp (f_X2_nextDry b M v1) (fun q => (NdP (dryG (FdC M b)) x9 q)) := by
  have hb0 : b = 1 ∨ b = 7 ∨ b = 13 := hb
  refine wp_bnd (fun x_1 ex_1 => ?_)
  refine wp_lp1 (fun y2_6 => ((v1.toInt ≤ y2_6.toInt ∧ y2_6.toInt ≤ 40) ∧ ∀ i : Nat, v1.toInt ≤ (i : Int) → i < ix y2_6 → ¬ (dryG (FdC M b)) i)) (fun y2_6 => (40 - y2_6.toInt).toNat) (fun ag6 y2_6 hI6 ih6 => ?_) FU x_1 ⟨by have z := t_mx v1 (nI 0); have z2 := nI0; rw [ex_1]; omega, fun i h1 h2 => by have z := t_mx v1 (nI 0); have z2 := nI0; have z3 := t_ix x_1; rw [ex_1] at z3 h2; omega⟩ (fu_lt (by have f0 := t_lit 0; have f1 := t_mx v1 (nI 0); have f2 := congrArg Int32.toInt ex_1; omega))
  have h6 := hI6
  refine wp_ite (fun c9 => ?_) (fun c9 => ?_)
  · exact wp_some (by rw [hx9.1]; exact Or.inl ⟨(show (-1 : Int32).toInt = -1 by decide), fun i h1 h2 => h6.2 i h1 (by have z := t_ixn y2_6 (by omega); omega)⟩)
  · have u := i_up (x := y2_6) (by omega)
    have iy := t_ixn y2_6 (by omega)
    refine wp_bind2 (ow_X2_isDry hb M y2_6) (fun r_2 he14 hq14 => ?_)
    obtain ⟨hz_r_2, hr_14, hd_14⟩ := hq14
    replace hr_14 : ¬ r_2.toInt = 0 → 0 ≤ y2_6.toInt ∧ y2_6.toInt < 40 := hr_14
    replace hd_14 : ¬ r_2.toInt = 0 ↔ (0 ≤ y2_6.toInt ∧ y2_6.toInt < 40) ∧ dryG (FdC M b) (ix y2_6) := hd_14
    refine wp_ite (fun c17 => ?_) (fun c17 => ?_)
    · exact ih6 (y2_6 + (nI 1)) ⟨by rw [u.2]; omega, fun i h1 h2 => by by_cases c : i = ix y2_6; (rw [c]; exact fun z => hd_14.mpr ⟨⟨by omega, by omega⟩, z⟩ c17); (exact h6.2 i h1 (by rw [u.1] at h2; omega))⟩ (by rw [u.2]; omega)
    · exact wp_some (by rw [hx9.1]; exact Or.inr ⟨⟨by omega, by omega⟩, h6.1.1, (hd_14.mp c17).2, h6.2⟩)
