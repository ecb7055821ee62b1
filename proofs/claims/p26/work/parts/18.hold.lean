def R01 (M : Mem) : Prop := ∀ j : Nat, j < 6724 → 0 ≤ (M 28 j).toInt ∧ (M 28 j).toInt ≤ 1
def Q80 (M : Mem) : Prop := ∀ j : Nat, j < 82 → 0 ≤ (M 28 (6560 + j)).toInt ∧ (M 28 (6560 + j)).toInt ≤ 1
theorem nar_0 : 0 ≤ (vp_nar .byte (nI 0)).toInt ∧ (vp_nar .byte (nI 0)).toInt ≤ 1 := by decide
theorem nar_1 : 0 ≤ (vp_nar .byte (nI 1)).toInt ∧ (vp_nar .byte (nI 1)).toInt ≤ 1 := by decide
theorem nar_10 : (vp_nar .byte (i2b (nI 1 - nI 1))).toInt = 0 := by decide
theorem q80_of {M : Mem} (h : R01 M) : Q80 M := fun j hj => h (6560 + j) (by omega)
theorem r01_set {M0 M1 : Mem} {i : Nat} (e : M1 = mset M0 28 i (vp_nar .byte (nI 1))) (h : R01 M0) : R01 M1 := fun j hj => by
  rw [e, mset_get]
  by_cases h2 : j = i
  · rw [if_pos ⟨rfl, h2⟩]; exact nar_1
  · rw [if_neg (fun z => h2 z.2)]; exact h j hj
def Acr (M : Mem) (n : Nat) : Prop := n ≤ cN (fun j => (M 29 j).toInt) 82 ∧ (∀ t, t < n → 0 ≤ (M 30 t).toInt ∧ (M 30 t).toInt < 82 ∧ ¬ (M 29 (ix (M 30 t))).toInt = -1) ∧ ∃ ρ : Nat → Nat, ∀ j, j < 82 → ¬ (M 29 j).toInt = -1 → ρ j < n ∧ (j = 80 ∨ (0 ≤ (M 29 j).toInt ∧ (M 29 j).toInt < 82 ∧ ¬ (M 29 (ix (M 29 j))).toInt = -1 ∧ ρ (ix (M 29 j)) < ρ j ∧ ((M 29 j).toInt = 80 → ¬ (M 28 (6560 + j)).toInt = 0)))
theorem acr_le {M : Mem} {n : Nat} (h : Acr M n) : n ≤ 82 := Nat.le_trans h.1 (cN_le _ 82)
theorem acr_begin {M M1 M2 : Mem} (h : ∀ j : Nat, j < 82 → (M 29 j).toInt = -1) (e1 : M1 = mset M 30 0 (nI 80)) (e2 : M2 = mset M1 29 80 (nI 80)) : Acr M2 (ix (nI 1)) := by
  have e0 : ix (nI 1) = 1 := by decide
  have e8 : (nI 80).toInt = 80 := t_lit 80
  have e9 : ix (nI 80) = 80 := by decide
  have a1 : ∀ j, ¬ j = 80 → M2 29 j = M 29 j := fun j hj => by rw [e2, mset_ne (by first | exact nz1 (by decide) | exact nz2 (by decide) | exact nz1 (nzA hc0 (by decide)) | exact nz1 (nzE (by decide)) | exact nz1 (nzB hc0 (by decide)) | exact nz1 (nzC hc0 (by decide)) | exact nz1 (nzD hc0 (by decide)) | exact nz1 (nzF (by decide)) | exact nz1 (nzG (by decide)) | omega), e1, mset_ne (by first | exact nz1 (by decide) | exact nz2 (by decide) | exact nz1 (nzA hc0 (by decide)) | exact nz1 (nzE (by decide)) | exact nz1 (nzB hc0 (by decide)) | exact nz1 (nzC hc0 (by decide)) | exact nz1 (nzD hc0 (by decide)) | exact nz1 (nzF (by decide)) | exact nz1 (nzG (by decide)) | omega)]
  have a2 : M2 29 80 = nI 80 := by rw [e2, mset_eq]
  have a3 : M2 30 0 = nI 80 := by rw [e2, mset_ne (by first | exact nz1 (by decide) | exact nz2 (by decide) | exact nz1 (nzA hc0 (by decide)) | exact nz1 (nzE (by decide)) | exact nz1 (nzB hc0 (by decide)) | exact nz1 (nzC hc0 (by decide)) | exact nz1 (nzD hc0 (by decide)) | exact nz1 (nzF (by decide)) | exact nz1 (nzG (by decide)) | omega), e1, mset_eq]
  rw [e0]
  refine ⟨?_, fun t ht => ?_, fun _ => 0, fun j hj hv => ?_⟩
  · rw [row_pu e2, cN_in (s := fun j => (M1 29 j).toInt) (j := 80) (by show (M1 29 80).toInt = -1; rw [e1, mset_ne (by first | exact nz1 (by decide) | exact nz2 (by decide) | exact nz1 (nzA hc0 (by decide)) | exact nz1 (nzE (by decide)) | exact nz1 (nzB hc0 (by decide)) | exact nz1 (nzC hc0 (by decide)) | exact nz1 (nzD hc0 (by decide)) | exact nz1 (nzF (by decide)) | exact nz1 (nzG (by decide)) | omega)]; exact h 80 (by omega)) (by omega) 82 (by omega)]
    omega
  · rw [show t = 0 from by omega, a3, e9, a2]
    omega
  · by_cases e : j = 80
    · exact ⟨by show 0 < 1; omega, Or.inl e⟩
    · rw [a1 j e] at hv
      exact absurd (h j hj) hv
theorem acr_push {M M1 M2 : Mem} {n k : Nat} {y : Int32} (h : Acr M n) (hk : k < n) (hy : 0 ≤ y.toInt ∧ y.toInt < 82) (hv : (M 29 (ix y)).toInt = -1) (hn : n < 82) (hr : ¬ (M 28 (82 * ix (M 30 k) + ix y)).toInt = 0) (e1 : M1 = mset M 29 (ix y) (M 30 k)) (e2 : M2 = mset M1 30 n y) : Acr M2 (n + 1) := by
  obtain ⟨h1, h2, ρ, h3⟩ := h
  have fy := t_ixn y hy.1
  have hx := h2 k hk
  have fx := t_ixn (M 30 k) hx.1
  have a1 : ∀ j, ¬ j = ix y → M2 29 j = M 29 j := fun j hj => by rw [e2, mset_ne (by first | exact nz1 (by decide) | exact nz2 (by decide) | exact nz1 (nzA hc0 (by decide)) | exact nz1 (nzE (by decide)) | exact nz1 (nzB hc0 (by decide)) | exact nz1 (nzC hc0 (by decide)) | exact nz1 (nzD hc0 (by decide)) | exact nz1 (nzF (by decide)) | exact nz1 (nzG (by decide)) | omega), e1, mset_ne (by first | exact nz1 (by decide) | exact nz2 (by decide) | exact nz1 (nzA hc0 (by decide)) | exact nz1 (nzE (by decide)) | exact nz1 (nzB hc0 (by decide)) | exact nz1 (nzC hc0 (by decide)) | exact nz1 (nzD hc0 (by decide)) | exact nz1 (nzF (by decide)) | exact nz1 (nzG (by decide)) | omega)]
  have a2 : M2 29 (ix y) = M 30 k := by rw [e2, mset_ne (by first | exact nz1 (by decide) | exact nz2 (by decide) | exact nz1 (nzA hc0 (by decide)) | exact nz1 (nzE (by decide)) | exact nz1 (nzB hc0 (by decide)) | exact nz1 (nzC hc0 (by decide)) | exact nz1 (nzD hc0 (by decide)) | exact nz1 (nzF (by decide)) | exact nz1 (nzG (by decide)) | omega), e1, mset_eq]
  have a3 : ∀ t, ¬ t = n → M2 30 t = M 30 t := fun t ht => by rw [e2, mset_ne (by first | exact nz1 (by decide) | exact nz2 (by decide) | exact nz1 (nzA hc0 (by decide)) | exact nz1 (nzE (by decide)) | exact nz1 (nzB hc0 (by decide)) | exact nz1 (nzC hc0 (by decide)) | exact nz1 (nzD hc0 (by decide)) | exact nz1 (nzF (by decide)) | exact nz1 (nzG (by decide)) | omega), e1, mset_ne (by first | exact nz1 (by decide) | exact nz2 (by decide) | exact nz1 (nzA hc0 (by decide)) | exact nz1 (nzE (by decide)) | exact nz1 (nzB hc0 (by decide)) | exact nz1 (nzC hc0 (by decide)) | exact nz1 (nzD hc0 (by decide)) | exact nz1 (nzF (by decide)) | exact nz1 (nzG (by decide)) | omega)]
  have a4 : M2 30 n = y := by rw [e2, mset_eq]
  have a5 : ∀ i, M2 28 i = M 28 i := fun i => by rw [e2, mset_ne (by first | exact nz1 (by decide) | exact nz2 (by decide) | exact nz1 (nzA hc0 (by decide)) | exact nz1 (nzE (by decide)) | exact nz1 (nzB hc0 (by decide)) | exact nz1 (nzC hc0 (by decide)) | exact nz1 (nzD hc0 (by decide)) | exact nz1 (nzF (by decide)) | exact nz1 (nzG (by decide)) | omega), e1, mset_ne (by first | exact nz1 (by decide) | exact nz2 (by decide) | exact nz1 (nzA hc0 (by decide)) | exact nz1 (nzE (by decide)) | exact nz1 (nzB hc0 (by decide)) | exact nz1 (nzC hc0 (by decide)) | exact nz1 (nzD hc0 (by decide)) | exact nz1 (nzF (by decide)) | exact nz1 (nzG (by decide)) | omega)]
  have hne : ¬ ix (M 30 k) = ix y := fun z => hx.2.2 (by rw [z]; exact hv)
  refine ⟨?_, fun t ht => ?_, pu ρ (ix y) n, fun j hj hj2 => ?_⟩
  · rw [row_sn e2 (by omega), row_pu e1, cN_in (s := fun j => (M 29 j).toInt) (j := ix y) hv (by omega) 82 (by omega)]
    omega
  · by_cases e : t = n
    · rw [e, a4, a2]
      omega
    · rw [a3 t e]
      have ht2 := h2 t (by omega)
      rw [a1 _ (fun z => ht2.2.2 (by rw [z]; exact hv))]
      exact ht2
  · by_cases e : j = ix y
    · rw [e, a2, pu_s]
      refine ⟨by omega, Or.inr ⟨hx.1, hx.2.1, ?_, ?_, fun z => ?_⟩⟩
      · rw [a1 _ hne]; exact hx.2.2
      · rw [pu_n hne]
        exact (h3 (ix (M 30 k)) (by omega) hx.2.2).1
      · rw [a5, show 6560 + ix y = 82 * ix (M 30 k) + ix y from by omega]
        exact hr
    · rw [a1 j e] at hj2 ⊢
      obtain ⟨b1, b2⟩ := h3 j hj hj2
      rw [pu_n e]
      refine ⟨by omega, b2.elim Or.inl (fun b => Or.inr ?_)⟩
      obtain ⟨c1, c2, c3, c4, c5⟩ := b
      have hne2 : ¬ ix (M 29 j) = ix y := fun z => c3 (by rw [z]; exact hv)
      rw [a1 _ hne2, pu_n hne2, a5]
      exact ⟨c1, c2, c3, c4, c5⟩
theorem ix_room {x y : Int32} (hx : 0 ≤ x.toInt ∧ x.toInt < 82) (hy : 0 ≤ y.toInt ∧ y.toInt < 82) : ix ((nI 82) * x + y) = 82 * ix x + ix y ∧ 0 ≤ ((nI 82) * x + y).toInt ∧ ((nI 82) * x + y).toInt < 6724 := by
  have f0 := t_mulL x 82 (by omega) (by omega)
  have f1 := t_add ((nI 82) * x) y
  have f2 : ((nI 82) * x + y).toInt = 82 * x.toInt + y.toInt := by omega
  have f3 := t_ixn x hx.1
  have f4 := t_ixn y hy.1
  have f5 := t_ixn ((nI 82) * x + y) (by omega)
  omega
theorem across_back {M M0 M4 M5 : Mem} {x y w : Int32} (h : Q80 M ∧ (y.toInt = 80 → sumN (fun j => M 28 (6560 + j)) 82 < sumN (fun j => M0 28 (6560 + j)) 82) ∧ (¬ y.toInt = 80 → ∀ j : Nat, j < 82 → M 28 (6560 + j) = M0 28 (6560 + j))) (hx : 0 ≤ x.toInt ∧ x.toInt < 82) (hy : 0 ≤ y.toInt ∧ y.toInt < 82) (hy2 : ¬ y.toInt = 80) (_hu : True) (hr : x.toInt = 80 → ¬ (M0 28 (6560 + ix y)).toInt = 0) (e4 : M4 = mset M 28 (82 * ix x + ix y) (vp_nar .byte (i2b (M 28 (82 * ix x + ix y) - nI 1)))) (e5 : M5 = mset M4 28 (82 * ix y + ix x) w) : Q80 M5 ∧ (x.toInt = 80 → sumN (fun j => M5 28 (6560 + j)) 82 < sumN (fun j => M0 28 (6560 + j)) 82) ∧ (¬ x.toInt = 80 → ∀ j : Nat, j < 82 → M5 28 (6560 + j) = M0 28 (6560 + j)) := by
  obtain ⟨h1, -, h3⟩ := h
  have h3 := h3 hy2
  have fx := t_ixn x hx.1
  have fy := t_ixn y hy.1
  have a5 : ∀ j, j < 82 → M5 28 (6560 + j) = M4 28 (6560 + j) := fun j hj => by rw [e5, mset_ne (by first | exact nz1 (by decide) | exact nz2 (by decide) | exact nz1 (nzA hc0 (by decide)) | exact nz1 (nzE (by decide)) | exact nz1 (nzB hc0 (by decide)) | exact nz1 (nzC hc0 (by decide)) | exact nz1 (nzD hc0 (by decide)) | exact nz1 (nzF (by decide)) | exact nz1 (nzG (by decide)) | omega)]
  by_cases e : x.toInt = 80
  · have b1 : ∀ j, j < 82 → ¬ j = ix y → M5 28 (6560 + j) = M0 28 (6560 + j) := fun j hj hne => by rw [a5 j hj, e4, mset_ne (by first | exact nz1 (by decide) | exact nz2 (by decide) | exact nz1 (nzA hc0 (by decide)) | exact nz1 (nzE (by decide)) | exact nz1 (nzB hc0 (by decide)) | exact nz1 (nzC hc0 (by decide)) | exact nz1 (nzD hc0 (by decide)) | exact nz1 (nzF (by decide)) | exact nz1 (nzG (by decide)) | omega)]; exact h3 j hj
    have b2 : (M0 28 (6560 + ix y)) = nI 1 := by
      have q := h1 (ix y) (by omega)
      have q2 := hr e
      rw [h3 (ix y) (by omega)] at q
      exact t_nI (by omega) (by omega)
    have b3 : (M5 28 (6560 + ix y)).toInt = 0 := by
      rw [a5 _ (by omega), show 6560 + ix y = 82 * ix x + ix y from by omega, e4, mset_eq, show 82 * ix x + ix y = 6560 + ix y from by omega, h3 _ (by omega), b2]
      exact nar_10
    have b4 : (M0 28 (6560 + ix y)).toInt = 1 := by rw [b2]; exact nI1
    refine ⟨fun j hj => ?_, fun _ => ?_, fun z => absurd e z⟩
    · by_cases e2 : j = ix y
      · rw [e2, b3]; omega
      · rw [b1 j hj e2, ← h3 j hj]; exact h1 j hj
    · have hz : sumN (fun j => M5 28 (6560 + j)) 82 = sumN (fun j => if j = ix y then M5 28 (6560 + j) else M0 28 (6560 + j)) 82 := zsum_ext 82 (fun j hj => by
        show M5 28 (6560 + j) = if j = ix y then M5 28 (6560 + j) else M0 28 (6560 + j)
        by_cases e2 : j = ix y
        · rw [if_pos e2]
        · rw [if_neg e2]; exact b1 j hj e2)
      rw [hz]
      exact zsum_upd (f := fun j => M0 28 (6560 + j)) (g := fun j => if j = ix y then M5 28 (6560 + j) else M0 28 (6560 + j)) (j := ix y) (by show 0 ≤ (if ix y = ix y then M5 28 (6560 + ix y) else M0 28 (6560 + ix y)).toInt; rw [if_pos rfl]; omega) (by show (if ix y = ix y then M5 28 (6560 + ix y) else M0 28 (6560 + ix y)).toInt < (M0 28 (6560 + ix y)).toInt; rw [if_pos rfl]; omega) (fun i hi => if_neg hi) 82 (by omega)
  · have b1 : ∀ j, j < 82 → M5 28 (6560 + j) = M 28 (6560 + j) := fun j hj => by rw [a5 j hj, e4, mset_ne (by first | exact nz1 (by decide) | exact nz2 (by decide) | exact nz1 (nzA hc0 (by decide)) | exact nz1 (nzE (by decide)) | exact nz1 (nzB hc0 (by decide)) | exact nz1 (nzC hc0 (by decide)) | exact nz1 (nzD hc0 (by decide)) | exact nz1 (nzF (by decide)) | exact nz1 (nzG (by decide)) | omega)]
    exact ⟨fun j hj => by rw [b1 j hj]; exact h1 j hj, fun z => absurd z e, fun _ j hj => by rw [b1 j hj]; exact h3 j hj⟩
set_option maxHeartbeats 8000000 in
theorem o_X10_goesAcross (M : Mem) (hQ0 : Q80 M) : Wp (f_X10_goesAcross M) (fun q => (q.1 = 0 ∨ q.1 = 1) ∧ (∀ a i, ¬ (a = 28 ∨ a = 29 ∨ a = 30) → q.2 a i = M a i) ∧ (Q80 q.2) ∧ (¬ q.1.toInt = 0 → sumN (fun j => q.2 28 (6560 + j)) 82 < sumN (fun j => M 28 (6560 + j)) 82)) := by
  refine wp_lp2 (fun M2 y1_2 => (0 ≤ y1_2.toInt) ∧ (∀ a i, ¬ (a = 29) → M2 a i = M a i) ∧ (∀ j : Nat, (j : Int) < y1_2.toInt → (M2 29 j).toInt = -1)) (fun M2 y1_2 => (82 - y1_2.toInt).toNat) (fun ag2 M2 y1_2 hI2 ih2 => ?_) FU M (nI 0) ⟨(by have f0 := t_lit 0; omega), (fun _ _ _ => rfl), (fun j hj => absurd hj (by have := t_lit 0; omega))⟩ (fu_lt (by have f0 := t_lit 0; omega))
  obtain ⟨hi2, hf_M2, h2⟩ := hI2
  have j21 : (82 ≤ y1_2.toInt) → Wp (f_X10_goesAcross_L21 M2) (fun q => (q.1 = 0 ∨ q.1 = 1) ∧ (∀ a i, ¬ (a = 28 ∨ a = 29 ∨ a = 30) → q.2 a i = M a i) ∧ (Q80 q.2) ∧ (¬ q.1.toInt = 0 → sumN (fun j => q.2 28 (6560 + j)) 82 < sumN (fun j => M 28 (6560 + j)) 82)) := by
    intro h21
    unfold f_X10_goesAcross_L21
    refine wp_bnd (fun M_1 eM_1 => ?_)
    refine wp_bnd (fun M_2 eM_2 => ?_)
    refine wp_lp3 (fun M42 y1_42 y2_42 => (∀ a i, ¬ (a = 29 ∨ a = 30) → M42 a i = M_2 a i) ∧ (0 ≤ y2_42.toInt ∧ y2_42.toInt ≤ y1_42.toInt) ∧ (Acr M42 (ix y1_42))) (fun M42 y1_42 y2_42 => (83 - y2_42.toInt).toNat) (fun ag42 M42 y1_42 y2_42 hI42 ih42 => ?_) FU M_2 (nI 1) (nI 0) ⟨(fun _ _ _ => rfl), (by have := t_lit 0; have := t_lit 1; omega), (acr_begin (fun j hj => h2 j (by omega)) eM_1 eM_2)⟩ (fu_lt (by have f0 := t_lit 0; have f1 := t_lit 1; omega))
    obtain ⟨hf_M42, h42, hA42⟩ := hI42
    have hn42 := acr_le hA42
    have fy1 := t_ixn y1_42 (by omega)
    have e28 : ∀ i, M42 28 i = M 28 i := fun i => by rw [hf_M42 28 i (by first | decide | (rcases hc0 with h | h <;> rw [h] <;> simp; done) | (rcases hb0 with h | h | h <;> rw [h] <;> simp; done) | (simp; done) | omega), eM_2, mset_ne (by first | exact nz1 (by decide) | exact nz2 (by decide) | exact nz1 (nzA hc0 (by decide)) | exact nz1 (nzE (by decide)) | exact nz1 (nzB hc0 (by decide)) | exact nz1 (nzC hc0 (by decide)) | exact nz1 (nzD hc0 (by decide)) | exact nz1 (nzF (by decide)) | exact nz1 (nzG (by decide)) | omega), eM_1, mset_ne (by first | exact nz1 (by decide) | exact nz2 (by decide) | exact nz1 (nzA hc0 (by decide)) | exact nz1 (nzE (by decide)) | exact nz1 (nzB hc0 (by decide)) | exact nz1 (nzC hc0 (by decide)) | exact nz1 (nzD hc0 (by decide)) | exact nz1 (nzF (by decide)) | exact nz1 (nzG (by decide)) | omega), hf_M2 28 i (by first | decide | (rcases hc0 with h | h <;> rw [h] <;> simp; done) | (rcases hb0 with h | h | h <;> rw [h] <;> simp; done) | (simp; done) | omega)]
    have hQ42 : Q80 M42 := fun j hj => by rw [e28]; exact hQ0 j hj
    have j133 : Wp (f_X10_goesAcross_L133 M42) (fun q => (q.1 = 0 ∨ q.1 = 1) ∧ (∀ a i, ¬ (a = 28 ∨ a = 29 ∨ a = 30) → q.2 a i = M a i) ∧ (Q80 q.2) ∧ (¬ q.1.toInt = 0 → sumN (fun j => q.2 28 (6560 + j)) 82 < sumN (fun j => M 28 (6560 + j)) 82)) := by
      unfold f_X10_goesAcross_L133
      refine wp_ite (fun c141 => ?_) (fun c141 => ?_)
      · exact wp_some ⟨b01_0, (fun a i q0 => ((hf_M42 a i (fun z8 => q0 ((fun z9 => Or.elim z9 (fun h9 => Or.inr (Or.inl h9)) (fun h9 => Or.inr (Or.inr (h9)))) z8))).trans ((congrFun (congrFun eM_2 a) i).trans ((mset_ne (fun h9 => q0 (Or.inr (Or.inl (h9).1)))).trans ((congrFun (congrFun eM_1 a) i).trans ((mset_ne (fun h9 => q0 (Or.inr (Or.inr ((h9).1))))).trans ((hf_M2 a i (fun h9 => q0 (Or.inr (Or.inl h9)))).trans rfl))))))), hQ42, (fun z => absurd nI0 z)⟩
      · obtain ⟨ρ, hρ⟩ := hA42.2.2
        refine wp_lp2 (fun M149 y2_149 => (∀ a i, ¬ (a = 28) → M149 a i = M42 a i) ∧ (0 ≤ y2_149.toInt ∧ y2_149.toInt < 82 ∧ ¬ (M42 29 (ix y2_149)).toInt = -1) ∧ (Q80 M149 ∧ (y2_149.toInt = 80 → sumN (fun j => M149 28 (6560 + j)) 82 < sumN (fun j => M42 28 (6560 + j)) 82) ∧ (¬ y2_149.toInt = 80 → ∀ j : Nat, j < 82 → M149 28 (6560 + j) = M42 28 (6560 + j)))) (fun M149 y2_149 => ρ (ix y2_149)) (fun ag149 M149 y2_149 hI149 ih149 => ?_) FU M42 (nI 81) ⟨(fun _ _ _ => rfl), (by rw [show ix (nI 81) = 81 from (by decide)]; have := t_lit 81; exact ⟨by omega, by omega, c141⟩), ⟨hQ42, fun z => absurd z (by have := t_lit 81; omega), fun _ _ _ => rfl⟩⟩ (fu_lt ((by rw [show ix (nI 81) = 81 from (by decide)]; have h9 := (hρ 81 (by omega) c141).1; omega)))
        obtain ⟨hf_M149, h149, hS149⟩ := hI149
        refine wp_ite (fun c152 => ?_) (fun c152 => ?_)
        · exact wp_some ⟨b01_1, (fun a i q0 => ((hf_M149 a i (fun h9 => q0 (Or.inl h9))).trans ((hf_M42 a i (fun z8 => q0 ((fun z9 => Or.elim z9 (fun h9 => Or.inr (Or.inl h9)) (fun h9 => Or.inr (Or.inr (h9)))) z8))).trans ((congrFun (congrFun eM_2 a) i).trans ((mset_ne (fun h9 => q0 (Or.inr (Or.inl (h9).1)))).trans ((congrFun (congrFun eM_1 a) i).trans ((mset_ne (fun h9 => q0 (Or.inr (Or.inr ((h9).1))))).trans ((hf_M2 a i (fun h9 => q0 (Or.inr (Or.inl h9)))).trans rfl)))))))), hS149.1, (fun _ => by (have h9 := hS149.2.1 c152); (have h8 : (fun j => M42 28 (6560 + j)) = (fun j => M 28 (6560 + j)) := funext (fun j => e28 _)); rw [h8] at h9; exact h9)⟩
        · have fy2 := t_ixn y2_149 (by omega)
          have hk := (hρ (ix y2_149) (by omega) h149.2.2).2.resolve_left (by omega)
          refine wp_gd (by omega) ?_
          refine wp_bnd (fun x_3 ex_3 => ?_)
          have hx3 : x_3 = M42 29 (ix y2_149) := by rw [ex_3, hf_M149 29 _ (by first | decide | (rcases hc0 with h | h <;> rw [h] <;> simp; done) | (rcases hb0 with h | h | h <;> rw [h] <;> simp; done) | (simp; done) | omega)]
          rw [← hx3] at hk
          have hr1 := ix_room (x := x_3) (y := y2_149) (by omega) (by omega)
          have hr2 := ix_room (x := y2_149) (y := x_3) (by omega) (by omega)
          refine wp_gd (by have f0 := t_lit 82; have f1 := (t_mulL x_3 82 (by omega) (by omega)); have f2 := t_add ((nI 82) * x_3) y2_149; have f3 := congrArg Int32.toInt (hf_M149 29 (ix y2_149) (by first | decide | (rcases hc0 with h | h <;> rw [h] <;> simp; done) | (rcases hb0 with h | h | h <;> rw [h] <;> simp; done) | (simp; done) | omega)); have f4 := congrArg Int32.toInt ex_3; omega) ?_
          refine wp_gd (by have f0 := t_lit 82; have f1 := (t_mulL x_3 82 (by omega) (by omega)); have f2 := t_add ((nI 82) * x_3) y2_149; have f3 := congrArg Int32.toInt (hf_M149 29 (ix y2_149) (by first | decide | (rcases hc0 with h | h <;> rw [h] <;> simp; done) | (rcases hb0 with h | h | h <;> rw [h] <;> simp; done) | (simp; done) | omega)); have f4 := congrArg Int32.toInt ex_3; omega) ?_
          refine wp_bnd (fun M_4 eM_4 => ?_)
          have eM4 := eM_4
          rw [hr1.1] at eM4
          refine wp_gd (by have f0 := t_lit 82; have f1 := (t_mulL y2_149 82 (by omega) (by omega)); have f2 := t_add ((nI 82) * y2_149) x_3; have f3 := congrArg Int32.toInt (hf_M149 29 (ix y2_149) (by first | decide | (rcases hc0 with h | h <;> rw [h] <;> simp; done) | (rcases hb0 with h | h | h <;> rw [h] <;> simp; done) | (simp; done) | omega)); have f4 := congrArg Int32.toInt ex_3; omega) ?_
          refine wp_gd (by have f0 := t_lit 82; have f1 := (t_mulL y2_149 82 (by omega) (by omega)); have f2 := t_add ((nI 82) * y2_149) x_3; have f3 := congrArg Int32.toInt (hf_M149 29 (ix y2_149) (by first | decide | (rcases hc0 with h | h <;> rw [h] <;> simp; done) | (rcases hb0 with h | h | h <;> rw [h] <;> simp; done) | (simp; done) | omega)); have f4 := congrArg Int32.toInt ex_3; omega) ?_
          refine wp_bnd (fun M_5 eM_5 => ?_)
          have eM5 := eM_5
          rw [hr2.1] at eM5
          exact ih149 M_5 x_3 ⟨(fun a i q0 => ((congrFun (congrFun eM_5 a) i).trans ((mset_ne (fun h9 => q0 ((h9).1))).trans ((congrFun (congrFun eM_4 a) i).trans ((mset_ne (fun h9 => q0 ((h9).1))).trans ((hf_M149 a i (fun h9 => q0 (h9))).trans rfl)))))), ⟨by omega, by omega, hk.2.2.1⟩, (across_back hS149 (by omega) (by omega) c152 trivial (fun z => hk.2.2.2.2 z) eM4 eM5)⟩ hk.2.2.2.1
    refine wp_ite (fun c44 => ?_) (fun c44 => ?_)
    · exact j133
    · refine wp_ite (fun c55 => ?_) (fun c55 => ?_)
      · refine wp_lp3 (fun M60 y1_60 y3_60 => (0 ≤ y3_60.toInt) ∧ (∀ a i, ¬ (a = 29 ∨ a = 30) → M60 a i = M42 a i) ∧ (y2_42.toInt < y1_60.toInt) ∧ (Acr M60 (ix y1_60))) (fun M60 y1_60 y3_60 => (82 - y3_60.toInt).toNat) (fun ag60 M60 y1_60 y3_60 hI60 ih60 => ?_) FU M42 y1_42 (nI 0) ⟨(by have f0 := t_lit 0; omega), (fun _ _ _ => rfl), (by omega), hA42⟩ (fu_lt (by have f0 := t_lit 0; omega))
        obtain ⟨hi60, hf_M60, h60, hA60⟩ := hI60
        have hn60 := acr_le hA60
        have fy1 := t_ixn y1_60 (by omega)
        have fy2 := t_ixn y2_42 (by omega)
        have hx := hA60.2.1 (ix y2_42) (by omega)
        refine wp_ite (fun c63 => ?_) (fun c63 => ?_)
        · exact ih42 M60 y1_60 (y2_42 + (nI 1)) ⟨(fun a i q0 => ((hf_M60 a i (fun z8 => q0 ((fun z9 => Or.elim z9 (fun h9 => Or.inl h9) (fun h9 => Or.inr (h9))) z8))).trans ((hf_M42 a i (fun z8 => q0 ((fun z9 => Or.elim z9 (fun h9 => Or.inl h9) (fun h9 => Or.inr (h9))) z8))).trans rfl))), (by rw [t_inc y2_42 1 (by omega)]; omega), hA60⟩ (by rw [t_inc y2_42 1 (by omega)]; omega)
        · have fy3 := t_ixn y3_60 (by omega)
          have hrm := ix_room (x := M60 30 (ix y2_42)) (y := y3_60) (by omega) (by omega)
          refine wp_gd (by omega) ?_
          refine wp_ite (fun c73 => ?_) (fun c73 => ?_)
          · have hlt := cN_lt (s := fun j => (M60 29 j).toInt) (j := ix y3_60) c73 82 (by omega)
            have hlt2 := hA60.1
            refine wp_gd (by omega) ?_
            refine wp_gd (by have f0 := t_lit 82; have f1 := (t_mulL (M60 30 (ix y2_42)) 82 (by omega) (by omega)); have f2 := t_add ((nI 82) * (M60 30 (ix y2_42))) y3_60; omega) ?_
            refine wp_ite (fun c92 => ?_) (fun c92 => ?_)
            · exact ih60 M60 y1_60 (y3_60 + (nI 1)) ⟨(by have f0 := t_lit 1; have f1 := t_add y3_60 (nI 1); have f2 := t_lit 82; have f3 := (t_mulL (M60 30 (ix y2_42)) 82 (by omega) (by omega)); have f4 := t_add ((nI 82) * (M60 30 (ix y2_42))) y3_60; have f5 := congrArg Int32.toInt (hf_M60 28 (ix (((nI 82) * (M60 30 (ix y2_42))) + y3_60)) (by first | decide | (rcases hc0 with h | h <;> rw [h] <;> simp; done) | (rcases hb0 with h | h | h <;> rw [h] <;> simp; done) | (simp; done) | omega)); have f6 := congrArg Int32.toInt (hf_M42 28 (ix (((nI 82) * (M60 30 (ix y2_42))) + y3_60)) (by first | decide | (rcases hc0 with h | h <;> rw [h] <;> simp; done) | (rcases hb0 with h | h | h <;> rw [h] <;> simp; done) | (simp; done) | omega)); have f7 := congrArg Int32.toInt ((congrFun (congrFun eM_2 28) (ix (((nI 82) * (M60 30 (ix y2_42))) + y3_60))).trans (mset_ne (by first | exact nz1 (by decide) | exact nz2 (by decide) | exact nz1 (nzA hc0 (by decide)) | exact nz1 (nzE (by decide)) | exact nz1 (nzB hc0 (by decide)) | exact nz1 (nzC hc0 (by decide)) | exact nz1 (nzD hc0 (by decide)) | exact nz1 (nzF (by decide)) | exact nz1 (nzG (by decide)) | omega))); have f8 := congrArg Int32.toInt ((congrFun (congrFun eM_1 28) (ix (((nI 82) * (M60 30 (ix y2_42))) + y3_60))).trans (mset_ne (by first | exact nz1 (by decide) | exact nz2 (by decide) | exact nz1 (nzA hc0 (by decide)) | exact nz1 (nzE (by decide)) | exact nz1 (nzB hc0 (by decide)) | exact nz1 (nzC hc0 (by decide)) | exact nz1 (nzD hc0 (by decide)) | exact nz1 (nzF (by decide)) | exact nz1 (nzG (by decide)) | omega))); have f9 := congrArg Int32.toInt (hf_M2 28 (ix (((nI 82) * (M60 30 (ix y2_42))) + y3_60)) (by first | decide | (rcases hc0 with h | h <;> rw [h] <;> simp; done) | (rcases hb0 with h | h | h <;> rw [h] <;> simp; done) | (simp; done) | omega)); omega), (fun a i q0 => ((hf_M60 a i (fun z8 => q0 ((fun z9 => Or.elim z9 (fun h9 => Or.inl h9) (fun h9 => Or.inr (h9))) z8))).trans rfl)), h60, hA60⟩ (by have f0 := t_lit 1; have f1 := t_add y3_60 (nI 1); have f2 := t_lit 82; have f3 := (t_mulL (M60 30 (ix y2_42)) 82 (by omega) (by omega)); have f4 := t_add ((nI 82) * (M60 30 (ix y2_42))) y3_60; have f5 := congrArg Int32.toInt (hf_M60 28 (ix (((nI 82) * (M60 30 (ix y2_42))) + y3_60)) (by first | decide | (rcases hc0 with h | h <;> rw [h] <;> simp; done) | (rcases hb0 with h | h | h <;> rw [h] <;> simp; done) | (simp; done) | omega)); have f6 := congrArg Int32.toInt (hf_M42 28 (ix (((nI 82) * (M60 30 (ix y2_42))) + y3_60)) (by first | decide | (rcases hc0 with h | h <;> rw [h] <;> simp; done) | (rcases hb0 with h | h | h <;> rw [h] <;> simp; done) | (simp; done) | omega)); have f7 := congrArg Int32.toInt ((congrFun (congrFun eM_2 28) (ix (((nI 82) * (M60 30 (ix y2_42))) + y3_60))).trans (mset_ne (by first | exact nz1 (by decide) | exact nz2 (by decide) | exact nz1 (nzA hc0 (by decide)) | exact nz1 (nzE (by decide)) | exact nz1 (nzB hc0 (by decide)) | exact nz1 (nzC hc0 (by decide)) | exact nz1 (nzD hc0 (by decide)) | exact nz1 (nzF (by decide)) | exact nz1 (nzG (by decide)) | omega))); have f8 := congrArg Int32.toInt ((congrFun (congrFun eM_1 28) (ix (((nI 82) * (M60 30 (ix y2_42))) + y3_60))).trans (mset_ne (by first | exact nz1 (by decide) | exact nz2 (by decide) | exact nz1 (nzA hc0 (by decide)) | exact nz1 (nzE (by decide)) | exact nz1 (nzB hc0 (by decide)) | exact nz1 (nzC hc0 (by decide)) | exact nz1 (nzD hc0 (by decide)) | exact nz1 (nzF (by decide)) | exact nz1 (nzG (by decide)) | omega))); have f9 := congrArg Int32.toInt (hf_M2 28 (ix (((nI 82) * (M60 30 (ix y2_42))) + y3_60)) (by first | decide | (rcases hc0 with h | h <;> rw [h] <;> simp; done) | (rcases hb0 with h | h | h <;> rw [h] <;> simp; done) | (simp; done) | omega)); omega)
            · refine wp_gd (by have f0 := t_lit 82; have f1 := (t_mulL (M60 30 (ix y2_42)) 82 (by omega) (by omega)); have f2 := t_add ((nI 82) * (M60 30 (ix y2_42))) y3_60; have f3 := congrArg Int32.toInt (hf_M60 28 (ix (((nI 82) * (M60 30 (ix y2_42))) + y3_60)) (by first | decide | (rcases hc0 with h | h <;> rw [h] <;> simp; done) | (rcases hb0 with h | h | h <;> rw [h] <;> simp; done) | (simp; done) | omega)); have f4 := congrArg Int32.toInt (hf_M42 28 (ix (((nI 82) * (M60 30 (ix y2_42))) + y3_60)) (by first | decide | (rcases hc0 with h | h <;> rw [h] <;> simp; done) | (rcases hb0 with h | h | h <;> rw [h] <;> simp; done) | (simp; done) | omega)); have f5 := congrArg Int32.toInt ((congrFun (congrFun eM_2 28) (ix (((nI 82) * (M60 30 (ix y2_42))) + y3_60))).trans (mset_ne (by first | exact nz1 (by decide) | exact nz2 (by decide) | exact nz1 (nzA hc0 (by decide)) | exact nz1 (nzE (by decide)) | exact nz1 (nzB hc0 (by decide)) | exact nz1 (nzC hc0 (by decide)) | exact nz1 (nzD hc0 (by decide)) | exact nz1 (nzF (by decide)) | exact nz1 (nzG (by decide)) | omega))); have f6 := congrArg Int32.toInt ((congrFun (congrFun eM_1 28) (ix (((nI 82) * (M60 30 (ix y2_42))) + y3_60))).trans (mset_ne (by first | exact nz1 (by decide) | exact nz2 (by decide) | exact nz1 (nzA hc0 (by decide)) | exact nz1 (nzE (by decide)) | exact nz1 (nzB hc0 (by decide)) | exact nz1 (nzC hc0 (by decide)) | exact nz1 (nzD hc0 (by decide)) | exact nz1 (nzF (by decide)) | exact nz1 (nzG (by decide)) | omega))); have f7 := congrArg Int32.toInt (hf_M2 28 (ix (((nI 82) * (M60 30 (ix y2_42))) + y3_60)) (by first | decide | (rcases hc0 with h | h <;> rw [h] <;> simp; done) | (rcases hb0 with h | h | h <;> rw [h] <;> simp; done) | (simp; done) | omega)); omega) ?_
              refine wp_gd (by have f0 := t_lit 82; have f1 := (t_mulL (M60 30 (ix y2_42)) 82 (by omega) (by omega)); have f2 := t_add ((nI 82) * (M60 30 (ix y2_42))) y3_60; have f3 := congrArg Int32.toInt (hf_M60 28 (ix (((nI 82) * (M60 30 (ix y2_42))) + y3_60)) (by first | decide | (rcases hc0 with h | h <;> rw [h] <;> simp; done) | (rcases hb0 with h | h | h <;> rw [h] <;> simp; done) | (simp; done) | omega)); have f4 := congrArg Int32.toInt (hf_M42 28 (ix (((nI 82) * (M60 30 (ix y2_42))) + y3_60)) (by first | decide | (rcases hc0 with h | h <;> rw [h] <;> simp; done) | (rcases hb0 with h | h | h <;> rw [h] <;> simp; done) | (simp; done) | omega)); have f5 := congrArg Int32.toInt ((congrFun (congrFun eM_2 28) (ix (((nI 82) * (M60 30 (ix y2_42))) + y3_60))).trans (mset_ne (by first | exact nz1 (by decide) | exact nz2 (by decide) | exact nz1 (nzA hc0 (by decide)) | exact nz1 (nzE (by decide)) | exact nz1 (nzB hc0 (by decide)) | exact nz1 (nzC hc0 (by decide)) | exact nz1 (nzD hc0 (by decide)) | exact nz1 (nzF (by decide)) | exact nz1 (nzG (by decide)) | omega))); have f6 := congrArg Int32.toInt ((congrFun (congrFun eM_1 28) (ix (((nI 82) * (M60 30 (ix y2_42))) + y3_60))).trans (mset_ne (by first | exact nz1 (by decide) | exact nz2 (by decide) | exact nz1 (nzA hc0 (by decide)) | exact nz1 (nzE (by decide)) | exact nz1 (nzB hc0 (by decide)) | exact nz1 (nzC hc0 (by decide)) | exact nz1 (nzD hc0 (by decide)) | exact nz1 (nzF (by decide)) | exact nz1 (nzG (by decide)) | omega))); have f7 := congrArg Int32.toInt (hf_M2 28 (ix (((nI 82) * (M60 30 (ix y2_42))) + y3_60)) (by first | decide | (rcases hc0 with h | h <;> rw [h] <;> simp; done) | (rcases hb0 with h | h | h <;> rw [h] <;> simp; done) | (simp; done) | omega)); omega) ?_
              refine wp_bnd (fun M_6 eM_6 => ?_)
              refine wp_gd (by omega) ?_
              refine wp_bnd (fun M_7 eM_7 => ?_)
              exact ih60 M_7 (y1_60 + (nI 1)) (y3_60 + (nI 1)) ⟨(by have f0 := t_lit 1; have f1 := t_add y3_60 (nI 1); have f2 := t_lit 82; have f3 := (t_mulL (M60 30 (ix y2_42)) 82 (by omega) (by omega)); have f4 := t_add ((nI 82) * (M60 30 (ix y2_42))) y3_60; have f5 := congrArg Int32.toInt (hf_M60 28 (ix (((nI 82) * (M60 30 (ix y2_42))) + y3_60)) (by first | decide | (rcases hc0 with h | h <;> rw [h] <;> simp; done) | (rcases hb0 with h | h | h <;> rw [h] <;> simp; done) | (simp; done) | omega)); have f6 := congrArg Int32.toInt (hf_M42 28 (ix (((nI 82) * (M60 30 (ix y2_42))) + y3_60)) (by first | decide | (rcases hc0 with h | h <;> rw [h] <;> simp; done) | (rcases hb0 with h | h | h <;> rw [h] <;> simp; done) | (simp; done) | omega)); have f7 := congrArg Int32.toInt ((congrFun (congrFun eM_2 28) (ix (((nI 82) * (M60 30 (ix y2_42))) + y3_60))).trans (mset_ne (by first | exact nz1 (by decide) | exact nz2 (by decide) | exact nz1 (nzA hc0 (by decide)) | exact nz1 (nzE (by decide)) | exact nz1 (nzB hc0 (by decide)) | exact nz1 (nzC hc0 (by decide)) | exact nz1 (nzD hc0 (by decide)) | exact nz1 (nzF (by decide)) | exact nz1 (nzG (by decide)) | omega))); have f8 := congrArg Int32.toInt ((congrFun (congrFun eM_1 28) (ix (((nI 82) * (M60 30 (ix y2_42))) + y3_60))).trans (mset_ne (by first | exact nz1 (by decide) | exact nz2 (by decide) | exact nz1 (nzA hc0 (by decide)) | exact nz1 (nzE (by decide)) | exact nz1 (nzB hc0 (by decide)) | exact nz1 (nzC hc0 (by decide)) | exact nz1 (nzD hc0 (by decide)) | exact nz1 (nzF (by decide)) | exact nz1 (nzG (by decide)) | omega))); have f9 := congrArg Int32.toInt (hf_M2 28 (ix (((nI 82) * (M60 30 (ix y2_42))) + y3_60)) (by first | decide | (rcases hc0 with h | h <;> rw [h] <;> simp; done) | (rcases hb0 with h | h | h <;> rw [h] <;> simp; done) | (simp; done) | omega)); omega), (fun a i q0 => ((congrFun (congrFun eM_7 a) i).trans ((mset_ne (fun h9 => q0 (Or.inr ((h9).1)))).trans ((congrFun (congrFun eM_6 a) i).trans ((mset_ne (fun h9 => q0 (Or.inl (h9).1))).trans ((hf_M60 a i (fun z8 => q0 ((fun z9 => Or.elim z9 (fun h9 => Or.inl h9) (fun h9 => Or.inr (h9))) z8))).trans rfl)))))), (by rw [t_inc y1_60 1 (by omega)]; omega), (by rw [ix_inc (by omega)]; exact acr_push hA60 (by omega) (by omega) c73 (by omega) (by rw [← hrm.1]; exact c92) eM_6 eM_7)⟩ (by have f0 := t_lit 1; have f1 := t_add y3_60 (nI 1); have f2 := t_lit 82; have f3 := (t_mulL (M60 30 (ix y2_42)) 82 (by omega) (by omega)); have f4 := t_add ((nI 82) * (M60 30 (ix y2_42))) y3_60; have f5 := congrArg Int32.toInt (hf_M60 28 (ix (((nI 82) * (M60 30 (ix y2_42))) + y3_60)) (by first | decide | (rcases hc0 with h | h <;> rw [h] <;> simp; done) | (rcases hb0 with h | h | h <;> rw [h] <;> simp; done) | (simp; done) | omega)); have f6 := congrArg Int32.toInt (hf_M42 28 (ix (((nI 82) * (M60 30 (ix y2_42))) + y3_60)) (by first | decide | (rcases hc0 with h | h <;> rw [h] <;> simp; done) | (rcases hb0 with h | h | h <;> rw [h] <;> simp; done) | (simp; done) | omega)); have f7 := congrArg Int32.toInt ((congrFun (congrFun eM_2 28) (ix (((nI 82) * (M60 30 (ix y2_42))) + y3_60))).trans (mset_ne (by first | exact nz1 (by decide) | exact nz2 (by decide) | exact nz1 (nzA hc0 (by decide)) | exact nz1 (nzE (by decide)) | exact nz1 (nzB hc0 (by decide)) | exact nz1 (nzC hc0 (by decide)) | exact nz1 (nzD hc0 (by decide)) | exact nz1 (nzF (by decide)) | exact nz1 (nzG (by decide)) | omega))); have f8 := congrArg Int32.toInt ((congrFun (congrFun eM_1 28) (ix (((nI 82) * (M60 30 (ix y2_42))) + y3_60))).trans (mset_ne (by first | exact nz1 (by decide) | exact nz2 (by decide) | exact nz1 (nzA hc0 (by decide)) | exact nz1 (nzE (by decide)) | exact nz1 (nzB hc0 (by decide)) | exact nz1 (nzC hc0 (by decide)) | exact nz1 (nzD hc0 (by decide)) | exact nz1 (nzF (by decide)) | exact nz1 (nzG (by decide)) | omega))); have f9 := congrArg Int32.toInt (hf_M2 28 (ix (((nI 82) * (M60 30 (ix y2_42))) + y3_60)) (by first | decide | (rcases hc0 with h | h <;> rw [h] <;> simp; done) | (rcases hb0 with h | h | h <;> rw [h] <;> simp; done) | (simp; done) | omega)); omega)
          · exact ih60 M60 y1_60 (y3_60 + (nI 1)) ⟨(by have f0 := t_lit 1; have f1 := t_add y3_60 (nI 1); omega), (fun a i q0 => ((hf_M60 a i (fun z8 => q0 ((fun z9 => Or.elim z9 (fun h9 => Or.inl h9) (fun h9 => Or.inr (h9))) z8))).trans rfl)), h60, hA60⟩ (by have f0 := t_lit 1; have f1 := t_add y3_60 (nI 1); omega)
      · exact j133
  refine wp_ite (fun c5 => ?_) (fun c5 => ?_)
  · exact j21 (by omega)
  · refine wp_gd (by omega) ?_
    refine wp_bnd (fun M_8 eM_8 => ?_)
    exact ih2 M_8 (y1_2 + (nI 1)) ⟨(by have f0 := t_lit 1; have f1 := t_add y1_2 (nI 1); omega), (fun a i q0 => ((congrFun (congrFun eM_8 a) i).trans ((mset_ne (fun h9 => q0 ((h9).1))).trans ((hf_M2 a i (fun h9 => q0 (h9))).trans rfl)))), (set_ext (P := fun _ x => x.toInt = -1) eM_8 (by omega) (by omega) h2 (by decide))⟩ (by have f0 := t_lit 1; have f1 := t_add y1_2 (nI 1); omega)
set_option maxHeartbeats 4000000 in
theorem o2_X10_laysRoom (M : Mem) (v1 : Int32) : Wp (f_X10_laysRoom M v1) (fun q => (∀ a i, ¬ (a = 28) → q a i = M a i) ∧ (R01 q)) := by
  refine wp_lp2 (fun M2 y2_2 => (0 ≤ y2_2.toInt) ∧ (∀ a i, ¬ (a = 28) → M2 a i = M a i) ∧ (∀ j : Nat, (j : Int) < y2_2.toInt → 0 ≤ (M2 28 j).toInt ∧ (M2 28 j).toInt ≤ 1)) (fun M2 y2_2 => (6724 - y2_2.toInt).toNat) (fun ag2 M2 y2_2 hI2 ih2 => ?_) FU M (nI 0) ⟨(by have f0 := t_lit 0; omega), (fun _ _ _ => rfl), (fun j hj => absurd hj (by have := t_lit 0; omega))⟩ (fu_lt (by have f0 := t_lit 0; omega))
  obtain ⟨hi2, hf_M2, h2⟩ := hI2
  have j22 : (6724 ≤ y2_2.toInt) → Wp (f_X10_laysRoom_L22 v1 M2) (fun q => (∀ a i, ¬ (a = 28) → q a i = M a i) ∧ (R01 q)) := by
    intro h22
    unfold f_X10_laysRoom_L22
    refine wp_lp2 (fun M24 y2_24 => (0 ≤ y2_24.toInt) ∧ (∀ a i, ¬ (a = 28) → M24 a i = M2 a i) ∧ (R01 M24)) (fun M24 y2_24 => (40 - y2_24.toInt).toNat) (fun ag24 M24 y2_24 hI24 ih24 => ?_) FU M2 (nI 0) ⟨(by have f0 := t_lit 0; omega), (fun _ _ _ => rfl), (fun j hj => h2 j (by omega))⟩ (fu_lt (by have f0 := t_lit 0; omega))
    obtain ⟨hi24, hf_M24, h24⟩ := hI24
    refine wp_ite (fun c27 => ?_) (fun c27 => ?_)
    · exact wp_some ⟨(fun a i q0 => ((hf_M24 a i (fun h9 => q0 (h9))).trans ((hf_M2 a i (fun h9 => q0 (h9))).trans rfl))), h24⟩
    · refine wp_bind2 (o_X10_isDry M24 y2_24 (by omega)) (fun r_1 he32 hq32 => ?_)
      obtain ⟨hz_r_1, hr_32⟩ := hq32
      replace hr_32 : ¬ r_1.toInt = 0 → (M24 1 (ix y2_24)).toInt = 1 := hr_32
      refine wp_ite (fun c35 => ?_) (fun c35 => ?_)
      · exact ih24 M24 (y2_24 + (nI 1)) ⟨(by have f0 := t_lit 1; have f1 := t_add y2_24 (nI 1); omega), (fun a i q0 => ((hf_M24 a i (fun h9 => q0 (h9))).trans rfl)), h24⟩ (by have f0 := t_lit 1; have f1 := t_add y2_24 (nI 1); omega)
      · refine wp_gd (by have f0 := t_lit 82; have f1 := (t_mulL y2_24 82 (by omega) (by omega)); have f2 := t_lit 40; have f3 := t_add ((nI 82) * y2_24) (nI 40); have f4 := t_add (((nI 82) * y2_24) + (nI 40)) y2_24; omega) ?_
        refine wp_bnd (fun M_2 eM_2 => ?_)
        refine wp_bind2 (o_X10_isByBank M_2 y2_24 (nI 1) v1 (by have f0 := t_lit 1; omega)) (fun r_3 he60 hq60 => ?_)
        obtain ⟨hz_r_3, hr_60⟩ := hq60
        replace hr_60 : ¬ r_3.toInt = 0 → (M_2 1 (ix y2_24)).toInt = 1 := hr_60
        have := t_lit 1
        have j77 : ∀ (N77 : Mem), (∀ a i, ¬ (a = 28) → N77 a i = M_2 a i) → (R01 N77) → Wp (f_X10_laysRoom_L77 v1 ag24 y2_24 N77) (fun q => (∀ a i, ¬ (a = 28) → q a i = M a i) ∧ (R01 q)) := by
          intro N77 hf_N77 h77
          unfold f_X10_laysRoom_L77
          refine wp_bind2 (o_X10_isByBank N77 y2_24 (nI 0) v1 (by have f0 := t_lit 0; omega)) (fun r_4 he81 hq81 => ?_)
          obtain ⟨hz_r_4, hr_81⟩ := hq81
          replace hr_81 : ¬ r_4.toInt = 0 → (N77 1 (ix y2_24)).toInt = 1 := hr_81
          have := t_lit 0
          have j103 : ∀ (N103 : Mem), (∀ a i, ¬ (a = 28) → N103 a i = N77 a i) → (R01 N103) → Wp (f_X10_laysRoom_L103 v1 ag24 y2_24 N103) (fun q => (∀ a i, ¬ (a = 28) → q a i = M a i) ∧ (R01 q)) := by
            intro N103 hf_N103 h103
            unfold f_X10_laysRoom_L103
            refine wp_lp2 (fun M105 y3_105 => (0 ≤ y3_105.toInt) ∧ (∀ a i, ¬ (a = 28) → M105 a i = N103 a i) ∧ (R01 M105)) (fun M105 y3_105 => (40 - y3_105.toInt).toNat) (fun ag105 M105 y3_105 hI105 ih105 => ?_) FU N103 (nI 0) ⟨(by have f0 := t_lit 0; omega), (fun _ _ _ => rfl), h103⟩ (fu_lt (by have f0 := t_lit 0; omega))
            obtain ⟨hi105, hf_M105, h105⟩ := hI105
            refine wp_ite (fun c108 => ?_) (fun c108 => ?_)
            · exact ih24 M105 (y2_24 + (nI 1)) ⟨(by have f0 := t_lit 1; have f1 := t_add y2_24 (nI 1); omega), (fun a i q0 => ((hf_M105 a i (fun h9 => q0 (h9))).trans ((hf_N103 a i (fun h9 => q0 (h9))).trans ((hf_N77 a i (fun h9 => q0 (h9))).trans ((congrFun (congrFun eM_2 a) i).trans ((mset_ne (fun h9 => q0 ((h9).1))).trans ((hf_M24 a i (fun h9 => q0 (h9))).trans rfl))))))), h105⟩ (by have f0 := t_lit 1; have f1 := t_add y2_24 (nI 1); omega)
            · refine wp_ite (fun c113 => ?_) (fun c113 => ?_)
              · exact ih105 M105 (y3_105 + (nI 1)) ⟨(by have f0 := t_lit 1; have f1 := t_add y3_105 (nI 1); omega), (fun a i q0 => ((hf_M105 a i (fun h9 => q0 (h9))).trans rfl)), h105⟩ (by have f0 := t_lit 1; have f1 := t_add y3_105 (nI 1); omega)
              · refine wp_bind2 (o_X10_canStep M105 y2_24 y3_105 v1 (by omega) (by omega)) (fun r_5 he120 hq120 => ?_)
                obtain ⟨hz_r_5, hr_120⟩ := hq120
                replace hr_120 : ¬ r_5.toInt = 0 → (M105 1 (ix y2_24)).toInt = 1 ∧ (M105 1 (ix y3_105)).toInt = 1 := hr_120
                refine wp_ite (fun c123 => ?_) (fun c123 => ?_)
                · exact ih105 M105 (y3_105 + (nI 1)) ⟨(by have f0 := t_lit 1; have f1 := t_add y3_105 (nI 1); omega), (fun a i q0 => ((hf_M105 a i (fun h9 => q0 (h9))).trans rfl)), h105⟩ (by have f0 := t_lit 1; have f1 := t_add y3_105 (nI 1); omega)
                · refine wp_gd (by have f0 := t_lit 82; have f1 := t_lit 40; have f2 := t_add (nI 40) y2_24; have f3 := (t_mulL ((nI 40) + y2_24) 82 (by omega) (by omega)); have f4 := t_add ((nI 82) * ((nI 40) + y2_24)) y3_105; omega) ?_
                  refine wp_bnd (fun M_6 eM_6 => ?_)
                  exact ih105 M_6 (y3_105 + (nI 1)) ⟨(by have f0 := t_lit 1; have f1 := t_add y3_105 (nI 1); omega), (fun a i q0 => ((congrFun (congrFun eM_6 a) i).trans ((mset_ne (fun h9 => q0 ((h9).1))).trans ((hf_M105 a i (fun h9 => q0 (h9))).trans rfl)))), (r01_set eM_6 h105)⟩ (by have f0 := t_lit 1; have f1 := t_add y3_105 (nI 1); omega)
          refine wp_ite (fun c84 => ?_) (fun c84 => ?_)
          · exact j103 N77 (fun _ _ _ => rfl) h77
          · refine wp_gd (by have f0 := t_lit 82; have f1 := t_lit 40; have f2 := t_add (nI 40) y2_24; have f3 := (t_mulL ((nI 40) + y2_24) 82 (by omega) (by omega)); have f4 := t_lit 81; have f5 := t_add ((nI 82) * ((nI 40) + y2_24)) (nI 81); omega) ?_
            refine wp_bnd (fun M_7 eM_7 => ?_)
            exact j103 M_7 (fun a i q0 => ((congrFun (congrFun eM_7 a) i).trans ((mset_ne (fun h9 => q0 ((h9).1))).trans rfl))) (r01_set eM_7 h77)
        refine wp_ite (fun c63 => ?_) (fun c63 => ?_)
        · exact j77 M_2 (fun _ _ _ => rfl) (r01_set eM_2 h24)
        · refine wp_gd (by have f0 := t_lit 6560; have f1 := t_add (nI 6560) y2_24; omega) ?_
          refine wp_bnd (fun M_8 eM_8 => ?_)
          exact j77 M_8 (fun a i q0 => ((congrFun (congrFun eM_8 a) i).trans ((mset_ne (fun h9 => q0 ((h9).1))).trans rfl))) (r01_set eM_8 (r01_set eM_2 h24))
  refine wp_ite (fun c6 => ?_) (fun c6 => ?_)
  · exact j22 (by omega)
  · refine wp_gd (by omega) ?_
    refine wp_bnd (fun M_9 eM_9 => ?_)
    exact ih2 M_9 (y2_2 + (nI 1)) ⟨(by have f0 := t_lit 1; have f1 := t_add y2_2 (nI 1); omega), (fun a i q0 => ((congrFun (congrFun eM_9 a) i).trans ((mset_ne (fun h9 => q0 ((h9).1))).trans ((hf_M2 a i (fun h9 => q0 (h9))).trans rfl)))), (set_ext (P := fun _ x => 0 ≤ x.toInt ∧ x.toInt ≤ 1) eM_9 (by omega) (by omega) h2 nar_0)⟩ (by have f0 := t_lit 1; have f1 := t_add y2_2 (nI 1); omega)
theorem o_X10_hold (M : Mem) (v1 : Int32) : Wp (f_X10_hold M v1) (fun q => (∀ a i, ¬ (a = 28 ∨ a = 29 ∨ a = 30) → q.2 a i = M a i)) := by
  refine wp_bind2 (o_X10_isPerson M v1) (fun r_1 he2 hq2 => ?_)
  obtain ⟨hz_r_1, hr_2⟩ := hq2
  replace hr_2 : ¬ r_1.toInt = 0 → 0 ≤ v1.toInt ∧ v1.toInt < 8 := hr_2
  refine wp_ite (fun c5 => ?_) (fun c5 => ?_)
  · exact wp_some (fun _ _ _ => rfl)
  · refine wp_gd (by omega) ?_
    refine wp_ite (fun c18 => ?_) (fun c18 => ?_)
    · refine wp_gd (by omega) ?_
      refine wp_bind2 (o2_X10_laysRoom M (M 4 (ix v1))) (fun M_2 he31 hq31 => ?_)
      obtain ⟨hg_M_2, hR_31⟩ := hq31
      replace hR_31 : R01 M_2 := hR_31
      replace hg_M_2 : ∀ a i, ¬ (a = 28) → M_2 a i = M a i := hg_M_2
      refine wp_lp2 (fun M36 y2_36 => (∀ a i, ¬ (a = 28 ∨ a = 29 ∨ a = 30) → M36 a i = M_2 a i) ∧ (Q80 M36)) (fun M36 y2_36 => sumN (fun j => M36 28 (6560 + j)) 82) (fun ag36 M36 y2_36 hI36 ih36 => ?_) FU M_2 (nI 0) ⟨(fun _ _ _ => rfl), (q80_of hR_31)⟩ (fu_lt ((by have h9 := zsum_le (f := (fun j => M_2 28 (6560 + j))) (n := 82) (fun j hj => by have := q80_of hR_31 j hj; omega); omega)))
      obtain ⟨hf_M36, h36⟩ := hI36
      refine wp_cb2 (o_X10_goesAcross M36 h36) (fun r_3 M_4 he37 hq37 => ?_)
      obtain ⟨hz_r_3, hg_M_4, hQ_37, hS_37⟩ := hq37
      replace hQ_37 : Q80 M_4 := hQ_37
      replace hS_37 : ¬ r_3.toInt = 0 → sumN (fun j => M_4 28 (6560 + j)) 82 < sumN (fun j => M36 28 (6560 + j)) 82 := hS_37
      replace hg_M_4 : ∀ a i, ¬ (a = 28 ∨ a = 29 ∨ a = 30) → M_4 a i = M36 a i := hg_M_4
      refine wp_ite (fun c40 => ?_) (fun c40 => ?_)
      · exact wp_some (fun a i q0 => ((hg_M_4 a i (fun z8 => q0 ((fun z9 => Or.elim z9 (fun h9 => Or.inl h9) (fun z9 => Or.elim z9 (fun h9 => Or.inr (Or.inl h9)) (fun h9 => Or.inr (Or.inr (h9))))) z8))).trans ((hf_M36 a i (fun z8 => q0 ((fun z9 => Or.elim z9 (fun h9 => Or.inl h9) (fun z9 => Or.elim z9 (fun h9 => Or.inr (Or.inl h9)) (fun h9 => Or.inr (Or.inr (h9))))) z8))).trans ((hg_M_2 a i (fun h9 => q0 (Or.inl h9))).trans rfl))))
      · exact ih36 M_4 (y2_36 + (nI 1)) ⟨(fun a i q0 => ((hg_M_4 a i (fun z8 => q0 ((fun z9 => Or.elim z9 (fun h9 => Or.inl h9) (fun z9 => Or.elim z9 (fun h9 => Or.inr (Or.inl h9)) (fun h9 => Or.inr (Or.inr (h9))))) z8))).trans ((hf_M36 a i (fun z8 => q0 ((fun z9 => Or.elim z9 (fun h9 => Or.inl h9) (fun z9 => Or.elim z9 (fun h9 => Or.inr (Or.inl h9)) (fun h9 => Or.inr (Or.inr (h9))))) z8))).trans rfl))), hQ_37⟩ (hS_37 c40)
    · exact wp_some (fun _ _ _ => rfl)
