theorem oq5_X2_nextTold {b : Nat} (hb : isF b) (M : Mem) (v1 : Int32) (x9 : Int32) (hx9 : x9 = v1 ∧ 0 ≤ v1.toInt ∧ v1.toInt ≤ 40) : Wp (f_X2_nextTold b M v1) (fun q => (NdP (tldP (FdC M b)) x9 q)) := by
  have hb0 : b = 1 ∨ b = 7 ∨ b = 13 := hb
  refine wp_bnd (fun x_1 ex_1 => ?_)
  refine wp_lp1 (fun y2_6 => ((v1.toInt ≤ y2_6.toInt ∧ y2_6.toInt ≤ 40) ∧ ∀ i : Nat, v1.toInt ≤ (i : Int) → i < ix y2_6 → ¬ (tldP (FdC M b)) i)) (fun y2_6 => (40 - y2_6.toInt).toNat) (fun ag6 y2_6 hI6 ih6 => ?_) FU x_1 ⟨by have z := t_mx v1 (nI 0); have z2 := nI0; rw [ex_1]; omega, fun i h1 h2 => by have z := t_mx v1 (nI 0); have z2 := nI0; have z3 := t_ix x_1; rw [ex_1] at z3 h2; omega⟩ (fu_lt (by have f0 := t_lit 0; have f1 := t_mx v1 (nI 0); have f2 := congrArg Int32.toInt ex_1; omega))
  have h6 := hI6
  refine wp_ite (fun c9 => ?_) (fun c9 => ?_)
  · exact wp_some (by rw [hx9.1]; exact Or.inl ⟨(show (-1 : Int32).toInt = -1 by decide), fun i h1 h2 => h6.2 i h1 (by have z := t_ixn y2_6 (by omega); omega)⟩)
  · have u := i_up (x := y2_6) (by omega)
    have iy := t_ixn y2_6 (by omega)
    have e4 := fdc_4 (M := M) (b := b) (i := ix y2_6) (by omega)
    refine wp_gd (by omega) ?_
    refine wp_ite (fun c18 => ?_) (fun c18 => ?_)
    · exact ih6 (y2_6 + (nI 1)) ⟨by rw [u.2]; omega, fun i h1 h2 => by by_cases c : i = ix y2_6; (rw [c]; exact fun z => z.2 (by rw [e4]; exact c18)); (exact h6.2 i h1 (by rw [u.1] at h2; omega))⟩ (by rw [u.2]; omega)
    · exact wp_some (by rw [hx9.1]; exact Or.inr ⟨⟨by omega, by omega⟩, h6.1.1, ⟨by omega, fun z => c18 (by rw [← e4]; exact z)⟩, h6.2⟩)
