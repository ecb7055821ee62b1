/-! pure rows: a model that comes to something with a property -/
def Wp {α : Type} (o : Option α) (P : α → Prop) : Prop := ∃ r, o = some r ∧ P r
theorem wp_some {α : Type} {a : α} {P : α → Prop} (h : P a) : Wp (some a) P := ⟨a, rfl, h⟩
theorem wp_mono {α : Type} {e : Option α} {P Q : α → Prop} (h : Wp e P) (k : ∀ a, P a → Q a) : Wp e Q := by
  obtain ⟨r, e1, e2⟩ := h
  exact ⟨r, e1, k r e2⟩
theorem wp_ite {α : Type} {p : Prop} {dp : Decidable p} {A B : Option α} {P : α → Prop} (ht : p → Wp A P) (hf : ¬ p → Wp B P) : Wp (@ite _ p dp A B) P := by
  by_cases h : p
  · rw [if_pos h]; exact ht h
  · rw [if_neg h]; exact hf h
theorem wp_gd {α : Type} {i : Int32} {len : Nat} {e : Option α} {P : α → Prop} (h : 0 ≤ i.toInt ∧ i.toInt < (len : Int)) (k : Wp e P) : Wp (gd i len e) P := by
  unfold gd
  rw [if_pos h]; exact k
theorem wp_gb {α : Type} {x : Int32} {e : Option α} {P : α → Prop} (h : x = 0 ∨ x = 1) (k : Wp e P) : Wp (gb x e) P := by
  unfold gb
  rw [if_pos h]; exact k
theorem wp_dz {α : Type} {y : Int32} {e : Option α} {P : α → Prop} (h : ¬ y.toInt = 0) (k : Wp e P) : Wp (dz y e) P := by
  unfold dz
  rw [if_neg h]; exact k
theorem wp_bnd {A α : Type} {a : A} {f : A → Option α} {P : α → Prop} (k : ∀ x, x = a → Wp (f x) P) : Wp (bnd a f) P := k a rfl
theorem wp_bind {A α : Type} {e : Option A} {f : A → Option α} {Q : A → Prop} {P : α → Prop} (h : Wp e Q) (k : ∀ r, Q r → Wp (f r) P) : Wp (e.bind f) P := by
  obtain ⟨r, e1, e2⟩ := h
  rw [e1]; exact k r e2
theorem wp_cb {α : Type} {e : Option (Int32 × Mem)} {f : Int32 → Mem → Option α} {Q : Int32 × Mem → Prop} {P : α → Prop} (h : Wp e Q) (k : ∀ r M, Q (r, M) → Wp (f r M) P) : Wp (cb e f) P := by
  obtain ⟨⟨r, M⟩, e1, e2⟩ := h
  rw [e1]; exact k r M e2
theorem wp_bind2 {A α : Type} {e : Option A} {f : A → Option α} {Q : A → Prop} {P : α → Prop} (h : Wp e Q) (k : ∀ r, e = some r → Q r → Wp (f r) P) : Wp (e.bind f) P := by
  obtain ⟨r, e1, e2⟩ := h
  rw [e1]; exact k r e1 e2
theorem wp_cb2 {α : Type} {e : Option (Int32 × Mem)} {f : Int32 → Mem → Option α} {Q : Int32 × Mem → Prop} {P : α → Prop} (h : Wp e Q) (k : ∀ r M, e = some (r, M) → Q (r, M) → Wp (f r M) P) : Wp (cb e f) P := by
  obtain ⟨⟨r, M⟩, e1, e2⟩ := h
  rw [e1]; exact k r M e1 e2
theorem wp_rl {α : Type} {x : Int32} {f : Nat → Option α} {P : α → Prop} (h : x.toInt = 44 ∨ x.toInt = 52) (k : ∀ c, isL c → x.toInt = (c : Int) → Wp (f c) P) : Wp (rl x f) P := by
  unfold rl
  rcases h with h | h
  · rw [if_pos h]; exact k 44 (Or.inl rfl) h
  · rw [if_neg (by omega), if_pos h]; exact k 52 (Or.inr rfl) h
theorem wp_lp1 {A0 α : Type} {b : (A0 → Option α) → A0 → Option α} {P : α → Prop} (I : A0 → Prop) (μ : A0 → Nat) (st : ∀ (ag : A0 → Option α) (a0 : A0), I a0 → (∀ (b0 : A0), I b0 → μ b0 < μ a0 → Wp (ag b0) P) → Wp (b ag a0) P) : ∀ (N : Nat) (a0 : A0), I a0 → μ a0 < N → Wp (wlp1 b N a0) P := by
  intro N
  induction N with
  | zero => intro a0 h1 h2; exact absurd h2 (Nat.not_lt_zero _)
  | succ N ih => intro a0 h1 h2; exact st (wlp1 b N) a0 h1 (fun b0 h3 h4 => ih b0 h3 (by omega))
theorem wp_lp2 {A0 A1 α : Type} {b : (A0 → A1 → Option α) → A0 → A1 → Option α} {P : α → Prop} (I : A0 → A1 → Prop) (μ : A0 → A1 → Nat) (st : ∀ (ag : A0 → A1 → Option α) (a0 : A0) (a1 : A1), I a0 a1 → (∀ (b0 : A0) (b1 : A1), I b0 b1 → μ b0 b1 < μ a0 a1 → Wp (ag b0 b1) P) → Wp (b ag a0 a1) P) : ∀ (N : Nat) (a0 : A0) (a1 : A1), I a0 a1 → μ a0 a1 < N → Wp (wlp2 b N a0 a1) P := by
  intro N
  induction N with
  | zero => intro a0 a1 h1 h2; exact absurd h2 (Nat.not_lt_zero _)
  | succ N ih => intro a0 a1 h1 h2; exact st (wlp2 b N) a0 a1 h1 (fun b0 b1 h3 h4 => ih b0 b1 h3 (by omega))
theorem wp_lp3 {A0 A1 A2 α : Type} {b : (A0 → A1 → A2 → Option α) → A0 → A1 → A2 → Option α} {P : α → Prop} (I : A0 → A1 → A2 → Prop) (μ : A0 → A1 → A2 → Nat) (st : ∀ (ag : A0 → A1 → A2 → Option α) (a0 : A0) (a1 : A1) (a2 : A2), I a0 a1 a2 → (∀ (b0 : A0) (b1 : A1) (b2 : A2), I b0 b1 b2 → μ b0 b1 b2 < μ a0 a1 a2 → Wp (ag b0 b1 b2) P) → Wp (b ag a0 a1 a2) P) : ∀ (N : Nat) (a0 : A0) (a1 : A1) (a2 : A2), I a0 a1 a2 → μ a0 a1 a2 < N → Wp (wlp3 b N a0 a1 a2) P := by
  intro N
  induction N with
  | zero => intro a0 a1 a2 h1 h2; exact absurd h2 (Nat.not_lt_zero _)
  | succ N ih => intro a0 a1 a2 h1 h2; exact st (wlp3 b N) a0 a1 a2 h1 (fun b0 b1 b2 h3 h4 => ih b0 b1 b2 h3 (by omega))
theorem wp_lp4 {A0 A1 A2 A3 α : Type} {b : (A0 → A1 → A2 → A3 → Option α) → A0 → A1 → A2 → A3 → Option α} {P : α → Prop} (I : A0 → A1 → A2 → A3 → Prop) (μ : A0 → A1 → A2 → A3 → Nat) (st : ∀ (ag : A0 → A1 → A2 → A3 → Option α) (a0 : A0) (a1 : A1) (a2 : A2) (a3 : A3), I a0 a1 a2 a3 → (∀ (b0 : A0) (b1 : A1) (b2 : A2) (b3 : A3), I b0 b1 b2 b3 → μ b0 b1 b2 b3 < μ a0 a1 a2 a3 → Wp (ag b0 b1 b2 b3) P) → Wp (b ag a0 a1 a2 a3) P) : ∀ (N : Nat) (a0 : A0) (a1 : A1) (a2 : A2) (a3 : A3), I a0 a1 a2 a3 → μ a0 a1 a2 a3 < N → Wp (wlp4 b N a0 a1 a2 a3) P := by
  intro N
  induction N with
  | zero => intro a0 a1 a2 a3 h1 h2; exact absurd h2 (Nat.not_lt_zero _)
  | succ N ih => intro a0 a1 a2 a3 h1 h2; exact st (wlp4 b N) a0 a1 a2 a3 h1 (fun b0 b1 b2 b3 h3 h4 => ih b0 b1 b2 b3 h3 (by omega))
theorem wp_lp5 {A0 A1 A2 A3 A4 α : Type} {b : (A0 → A1 → A2 → A3 → A4 → Option α) → A0 → A1 → A2 → A3 → A4 → Option α} {P : α → Prop} (I : A0 → A1 → A2 → A3 → A4 → Prop) (μ : A0 → A1 → A2 → A3 → A4 → Nat) (st : ∀ (ag : A0 → A1 → A2 → A3 → A4 → Option α) (a0 : A0) (a1 : A1) (a2 : A2) (a3 : A3) (a4 : A4), I a0 a1 a2 a3 a4 → (∀ (b0 : A0) (b1 : A1) (b2 : A2) (b3 : A3) (b4 : A4), I b0 b1 b2 b3 b4 → μ b0 b1 b2 b3 b4 < μ a0 a1 a2 a3 a4 → Wp (ag b0 b1 b2 b3 b4) P) → Wp (b ag a0 a1 a2 a3 a4) P) : ∀ (N : Nat) (a0 : A0) (a1 : A1) (a2 : A2) (a3 : A3) (a4 : A4), I a0 a1 a2 a3 a4 → μ a0 a1 a2 a3 a4 < N → Wp (wlp5 b N a0 a1 a2 a3 a4) P := by
  intro N
  induction N with
  | zero => intro a0 a1 a2 a3 a4 h1 h2; exact absurd h2 (Nat.not_lt_zero _)
  | succ N ih => intro a0 a1 a2 a3 a4 h1 h2; exact st (wlp5 b N) a0 a1 a2 a3 a4 h1 (fun b0 b1 b2 b3 b4 h3 h4 => ih b0 b1 b2 b3 b4 h3 (by omega))
theorem wp_lp6 {A0 A1 A2 A3 A4 A5 α : Type} {b : (A0 → A1 → A2 → A3 → A4 → A5 → Option α) → A0 → A1 → A2 → A3 → A4 → A5 → Option α} {P : α → Prop} (I : A0 → A1 → A2 → A3 → A4 → A5 → Prop) (μ : A0 → A1 → A2 → A3 → A4 → A5 → Nat) (st : ∀ (ag : A0 → A1 → A2 → A3 → A4 → A5 → Option α) (a0 : A0) (a1 : A1) (a2 : A2) (a3 : A3) (a4 : A4) (a5 : A5), I a0 a1 a2 a3 a4 a5 → (∀ (b0 : A0) (b1 : A1) (b2 : A2) (b3 : A3) (b4 : A4) (b5 : A5), I b0 b1 b2 b3 b4 b5 → μ b0 b1 b2 b3 b4 b5 < μ a0 a1 a2 a3 a4 a5 → Wp (ag b0 b1 b2 b3 b4 b5) P) → Wp (b ag a0 a1 a2 a3 a4 a5) P) : ∀ (N : Nat) (a0 : A0) (a1 : A1) (a2 : A2) (a3 : A3) (a4 : A4) (a5 : A5), I a0 a1 a2 a3 a4 a5 → μ a0 a1 a2 a3 a4 a5 < N → Wp (wlp6 b N a0 a1 a2 a3 a4 a5) P := by
  intro N
  induction N with
  | zero => intro a0 a1 a2 a3 a4 a5 h1 h2; exact absurd h2 (Nat.not_lt_zero _)
  | succ N ih => intro a0 a1 a2 a3 a4 a5 h1 h2; exact st (wlp6 b N) a0 a1 a2 a3 a4 a5 h1 (fun b0 b1 b2 b3 b4 b5 h3 h4 => ih b0 b1 b2 b3 b4 b5 h3 (by omega))
theorem wp_lp7 {A0 A1 A2 A3 A4 A5 A6 α : Type} {b : (A0 → A1 → A2 → A3 → A4 → A5 → A6 → Option α) → A0 → A1 → A2 → A3 → A4 → A5 → A6 → Option α} {P : α → Prop} (I : A0 → A1 → A2 → A3 → A4 → A5 → A6 → Prop) (μ : A0 → A1 → A2 → A3 → A4 → A5 → A6 → Nat) (st : ∀ (ag : A0 → A1 → A2 → A3 → A4 → A5 → A6 → Option α) (a0 : A0) (a1 : A1) (a2 : A2) (a3 : A3) (a4 : A4) (a5 : A5) (a6 : A6), I a0 a1 a2 a3 a4 a5 a6 → (∀ (b0 : A0) (b1 : A1) (b2 : A2) (b3 : A3) (b4 : A4) (b5 : A5) (b6 : A6), I b0 b1 b2 b3 b4 b5 b6 → μ b0 b1 b2 b3 b4 b5 b6 < μ a0 a1 a2 a3 a4 a5 a6 → Wp (ag b0 b1 b2 b3 b4 b5 b6) P) → Wp (b ag a0 a1 a2 a3 a4 a5 a6) P) : ∀ (N : Nat) (a0 : A0) (a1 : A1) (a2 : A2) (a3 : A3) (a4 : A4) (a5 : A5) (a6 : A6), I a0 a1 a2 a3 a4 a5 a6 → μ a0 a1 a2 a3 a4 a5 a6 < N → Wp (wlp7 b N a0 a1 a2 a3 a4 a5 a6) P := by
  intro N
  induction N with
  | zero => intro a0 a1 a2 a3 a4 a5 a6 h1 h2; exact absurd h2 (Nat.not_lt_zero _)
  | succ N ih => intro a0 a1 a2 a3 a4 a5 a6 h1 h2; exact st (wlp7 b N) a0 a1 a2 a3 a4 a5 a6 h1 (fun b0 b1 b2 b3 b4 b5 b6 h3 h4 => ih b0 b1 b2 b3 b4 b5 b6 h3 (by omega))
theorem wp_lp8 {A0 A1 A2 A3 A4 A5 A6 A7 α : Type} {b : (A0 → A1 → A2 → A3 → A4 → A5 → A6 → A7 → Option α) → A0 → A1 → A2 → A3 → A4 → A5 → A6 → A7 → Option α} {P : α → Prop} (I : A0 → A1 → A2 → A3 → A4 → A5 → A6 → A7 → Prop) (μ : A0 → A1 → A2 → A3 → A4 → A5 → A6 → A7 → Nat) (st : ∀ (ag : A0 → A1 → A2 → A3 → A4 → A5 → A6 → A7 → Option α) (a0 : A0) (a1 : A1) (a2 : A2) (a3 : A3) (a4 : A4) (a5 : A5) (a6 : A6) (a7 : A7), I a0 a1 a2 a3 a4 a5 a6 a7 → (∀ (b0 : A0) (b1 : A1) (b2 : A2) (b3 : A3) (b4 : A4) (b5 : A5) (b6 : A6) (b7 : A7), I b0 b1 b2 b3 b4 b5 b6 b7 → μ b0 b1 b2 b3 b4 b5 b6 b7 < μ a0 a1 a2 a3 a4 a5 a6 a7 → Wp (ag b0 b1 b2 b3 b4 b5 b6 b7) P) → Wp (b ag a0 a1 a2 a3 a4 a5 a6 a7) P) : ∀ (N : Nat) (a0 : A0) (a1 : A1) (a2 : A2) (a3 : A3) (a4 : A4) (a5 : A5) (a6 : A6) (a7 : A7), I a0 a1 a2 a3 a4 a5 a6 a7 → μ a0 a1 a2 a3 a4 a5 a6 a7 < N → Wp (wlp8 b N a0 a1 a2 a3 a4 a5 a6 a7) P := by
  intro N
  induction N with
  | zero => intro a0 a1 a2 a3 a4 a5 a6 a7 h1 h2; exact absurd h2 (Nat.not_lt_zero _)
  | succ N ih => intro a0 a1 a2 a3 a4 a5 a6 a7 h1 h2; exact st (wlp8 b N) a0 a1 a2 a3 a4 a5 a6 a7 h1 (fun b0 b1 b2 b3 b4 b5 b6 b7 h3 h4 => ih b0 b1 b2 b3 b4 b5 b6 b7 h3 (by omega))
theorem wp_lp9 {A0 A1 A2 A3 A4 A5 A6 A7 A8 α : Type} {b : (A0 → A1 → A2 → A3 → A4 → A5 → A6 → A7 → A8 → Option α) → A0 → A1 → A2 → A3 → A4 → A5 → A6 → A7 → A8 → Option α} {P : α → Prop} (I : A0 → A1 → A2 → A3 → A4 → A5 → A6 → A7 → A8 → Prop) (μ : A0 → A1 → A2 → A3 → A4 → A5 → A6 → A7 → A8 → Nat) (st : ∀ (ag : A0 → A1 → A2 → A3 → A4 → A5 → A6 → A7 → A8 → Option α) (a0 : A0) (a1 : A1) (a2 : A2) (a3 : A3) (a4 : A4) (a5 : A5) (a6 : A6) (a7 : A7) (a8 : A8), I a0 a1 a2 a3 a4 a5 a6 a7 a8 → (∀ (b0 : A0) (b1 : A1) (b2 : A2) (b3 : A3) (b4 : A4) (b5 : A5) (b6 : A6) (b7 : A7) (b8 : A8), I b0 b1 b2 b3 b4 b5 b6 b7 b8 → μ b0 b1 b2 b3 b4 b5 b6 b7 b8 < μ a0 a1 a2 a3 a4 a5 a6 a7 a8 → Wp (ag b0 b1 b2 b3 b4 b5 b6 b7 b8) P) → Wp (b ag a0 a1 a2 a3 a4 a5 a6 a7 a8) P) : ∀ (N : Nat) (a0 : A0) (a1 : A1) (a2 : A2) (a3 : A3) (a4 : A4) (a5 : A5) (a6 : A6) (a7 : A7) (a8 : A8), I a0 a1 a2 a3 a4 a5 a6 a7 a8 → μ a0 a1 a2 a3 a4 a5 a6 a7 a8 < N → Wp (wlp9 b N a0 a1 a2 a3 a4 a5 a6 a7 a8) P := by
  intro N
  induction N with
  | zero => intro a0 a1 a2 a3 a4 a5 a6 a7 a8 h1 h2; exact absurd h2 (Nat.not_lt_zero _)
  | succ N ih => intro a0 a1 a2 a3 a4 a5 a6 a7 a8 h1 h2; exact st (wlp9 b N) a0 a1 a2 a3 a4 a5 a6 a7 a8 h1 (fun b0 b1 b2 b3 b4 b5 b6 b7 b8 h3 h4 => ih b0 b1 b2 b3 b4 b5 b6 b7 b8 h3 (by omega))
theorem t_rng (x : Int32) : -2147483648 ≤ x.toInt ∧ x.toInt ≤ 2147483647 := by
  have h1 := Int32.le_toInt x
  have h2 := Int32.toInt_lt x
  omega
theorem t_add (x y : Int32) : (-2147483648 ≤ (x + y).toInt ∧ (x + y).toInt ≤ 2147483647) ∧ (-2147483648 ≤ x.toInt ∧ x.toInt ≤ 2147483647) ∧ (-2147483648 ≤ y.toInt ∧ y.toInt ≤ 2147483647) ∧ ((x + y).toInt = x.toInt + y.toInt ∨ (x + y).toInt = x.toInt + y.toInt - 4294967296 ∨ (x + y).toInt = x.toInt + y.toInt + 4294967296) := by
  refine ⟨t_rng _, t_rng _, t_rng _, ?_⟩
  have h1 := t_rng x
  have h2 := t_rng y
  have h3 := t_rng (x + y)
  rw [Int32.toInt_add] at *
  unfold Int.bmod at *
  simp only [Nat.reducePow] at *
  omega
theorem t_sub (x y : Int32) : (-2147483648 ≤ (x - y).toInt ∧ (x - y).toInt ≤ 2147483647) ∧ (-2147483648 ≤ x.toInt ∧ x.toInt ≤ 2147483647) ∧ (-2147483648 ≤ y.toInt ∧ y.toInt ≤ 2147483647) ∧ ((x - y).toInt = x.toInt - y.toInt ∨ (x - y).toInt = x.toInt - y.toInt - 4294967296 ∨ (x - y).toInt = x.toInt - y.toInt + 4294967296) := by
  refine ⟨t_rng _, t_rng _, t_rng _, ?_⟩
  have h1 := t_rng x
  have h2 := t_rng y
  have h3 := t_rng (x - y)
  rw [Int32.toInt_sub] at *
  unfold Int.bmod at *
  simp only [Nat.reducePow] at *
  omega
theorem t_mul {x y : Int32} (h : -2147483648 ≤ x.toInt * y.toInt ∧ x.toInt * y.toInt ≤ 2147483647) : (x * y).toInt = x.toInt * y.toInt := by
  rw [Int32.toInt_mul, Int.bmod_eq_of_le (by omega) (by omega)]
theorem t_mulL (x : Int32) (n : Nat) (h1 : -1000000 ≤ x.toInt ∧ x.toInt ≤ 1000000) (h2 : n ≤ 2000) : (nI n * x).toInt = n * x.toInt := by
  have hn : (nI n).toInt = (n : Int) := nI_toInt (by omega)
  have h3 : -2000000000 ≤ (n : Int) * x.toInt ∧ (n : Int) * x.toInt ≤ 2000000000 := by
    obtain ⟨h4, h5⟩ := h1
    have h6 : (0 : Int) ≤ n := by omega
    have h7 : (n : Int) ≤ 2000 := by omega
    constructor
    · have := Int.mul_le_mul_of_nonneg_left h4 h6
      omega
    · have := Int.mul_le_mul_of_nonneg_left h5 h6
      omega
  rw [t_mul (by rw [hn]; omega), hn]
theorem t_mulR (x : Int32) (n : Nat) (h1 : -1000000 ≤ x.toInt ∧ x.toInt ≤ 1000000) (h2 : n ≤ 2000) : (x * nI n).toInt = n * x.toInt := by
  rw [Int32.mul_comm]
  exact t_mulL x n h1 h2
theorem t_neg (x : Int32) : (-x).toInt = - x.toInt ∨ x.toInt = -2147483648 := by
  by_cases h : x.toInt = -2147483648
  · exact Or.inr h
  · refine Or.inl ?_
    have h1 := t_rng x
    rw [Int32.toInt_neg, Int.bmod_eq_of_le (by omega) (by omega)]
theorem t_lit (n : Nat) (h : n < 2147483648 := by decide) : (nI n).toInt = (n : Int) := nI_toInt h
theorem t_of {x y : Int32} (h : x.toInt = y.toInt) : x = y := Int32.toInt_inj.mp h
theorem t_nI {x : Int32} {n : Nat} (h : x.toInt = (n : Int)) (hn : n < 2147483648) : x = nI n := t_of (by rw [h, t_lit n hn])
theorem t_mx (x y : Int32) : (mx x y).toInt = max x.toInt y.toInt := by
  unfold mx
  by_cases h : x < y
  · rw [if_pos h]; rw [Int32.lt_iff_toInt_lt] at h; omega
  · rw [if_neg h]; rw [Int32.lt_iff_toInt_lt] at h; omega
theorem t_mn (x y : Int32) : (mn x y).toInt = min x.toInt y.toInt := by
  unfold mn
  by_cases h : y < x
  · rw [if_pos h]; rw [Int32.lt_iff_toInt_lt] at h; omega
  · rw [if_neg h]; rw [Int32.lt_iff_toInt_lt] at h; omega
theorem mset_ne {M : Mem} {k i a j : Nat} {x : Int32} (h : ¬ (a = k ∧ j = i)) : mset M k i x a j = M a j := by rw [mset_get, if_neg h]
theorem mset_eq {M : Mem} {k i : Nat} {x : Int32} : mset M k i x k i = x := by rw [mset_get, if_pos ⟨rfl, rfl⟩]
theorem fr_set {M M0 M1 : Mem} {k i : Nat} {x : Int32} {D : Nat → Nat → Prop} (e : M1 = mset M0 k i x) (hf : ∀ a j, ¬ D a j → M0 a j = M a j) (hd : D k i) : ∀ a j, ¬ D a j → M1 a j = M a j := fun a j q => by
  rw [e, mset_ne (fun z => q (by rw [z.1, z.2]; exact hd))]
  exact hf a j q
theorem fr_call {M M0 M1 : Mem} {D D' : Nat → Nat → Prop} (hc : ∀ a j, ¬ D' a j → M1 a j = M0 a j) (hf : ∀ a j, ¬ D a j → M0 a j = M a j) (hd : ∀ a j, D' a j → D a j) : ∀ a j, ¬ D a j → M1 a j = M a j := fun a j q => (hc a j (fun z => q (hd a j z))).trans (hf a j q)
theorem fr_rf {M : Mem} {D : Nat → Nat → Prop} : ∀ a j, ¬ D a j → M a j = M a j := fun _ _ _ => rfl
theorem or_nn {a b : Int32} (ha : 0 ≤ a.toInt) (hb : 0 ≤ b.toInt) : 0 ≤ (a ||| b).toInt := by
  have h1 : a.toBitVec.msb = false := by
    rw [BitVec.msb_eq_toInt]; exact decide_eq_false (by show ¬ a.toInt < 0; omega)
  have h2 : b.toBitVec.msb = false := by
    rw [BitVec.msb_eq_toInt]; exact decide_eq_false (by show ¬ b.toInt < 0; omega)
  have h3 : (a ||| b).toBitVec.msb = false := by rw [Int32.toBitVec_or, BitVec.msb_or, h1, h2]; rfl
  rw [BitVec.msb_eq_toInt] at h3
  have h4 : ¬ (a ||| b).toInt < 0 := of_decide_eq_false h3
  omega
theorem shl_nn {k : Int32} (h0 : 0 ≤ k.toInt) (h1 : k.toInt < 30) : 0 ≤ (shl (nI 1) k).toInt := by
  obtain ⟨j, hj, rfl⟩ := ixi (x := k) (n := 30) h0 h1
  have : ∀ j, j < 30 → 0 ≤ (shl (nI 1) (nI j)).toInt := by decide +kernel
  exact this j hj
theorem shl8 {k : Int32} (h0 : 1 ≤ k.toInt) (h1 : k.toInt ≤ 8) : 2 ≤ (shl (nI 1) k).toInt ∧ (shl (nI 1) k).toInt ≤ 256 := by
  obtain ⟨j, hj, rfl⟩ := ixi (x := k) (n := 9) (by omega) (by omega)
  have hj1 := nI_toInt (n := j) (by omega)
  have : ∀ j, j < 9 → 1 ≤ j → 2 ≤ (shl (nI 1) (nI j)).toInt ∧ (shl (nI 1) (nI j)).toInt ≤ 256 := by decide +kernel
  exact this j hj (by omega)
theorem mul_b {a b : Int32} (h1 : 0 ≤ a.toInt) (h2 : a.toInt ≤ 60) (h3 : 1 ≤ b.toInt) (h4 : b.toInt ≤ 8) : a.toInt ≤ (a * b).toInt ∧ (a * b).toInt ≤ 480 := by
  have e1 : a.toInt * 1 ≤ a.toInt * b.toInt := Int.mul_le_mul_of_nonneg_left h3 h1
  have e2 : a.toInt * b.toInt ≤ a.toInt * 8 := Int.mul_le_mul_of_nonneg_left h4 h1
  rw [t_mul (by omega)]
  omega
theorem b01_or {a b : Int32} (ha : a = 0 ∨ a = 1) (hb : b = 0 ∨ b = 1) : (a ||| b) = 0 ∨ (a ||| b) = 1 := by
  rcases ha with rfl | rfl <;> rcases hb with rfl | rfl <;> decide
theorem b01_of {a : Int32} (h : a.toInt = 0 ∨ a.toInt = 1) : a = 0 ∨ a = 1 := by
  rcases h with h | h
  · exact Or.inl (t_of (by rw [h]; decide))
  · exact Or.inr (t_of (by rw [h]; decide))
theorem b01_to {a : Int32} (h : a = 0 ∨ a = 1) : a.toInt = 0 ∨ a.toInt = 1 := by
  rcases h with rfl | rfl <;> decide
theorem and255 (x : Int32) : 0 ≤ (x &&& nI 255).toInt ∧ (x &&& nI 255).toInt ≤ 255 := by
  have h : (x &&& nI 255).toInt = ((x.toBitVec &&& (255 : BitVec 32)).toNat : Int) := by
    show (x.toBitVec &&& (nI 255).toBitVec).toInt = _
    have e : (nI 255).toBitVec = (255 : BitVec 32) := by decide +kernel
    rw [e]
    have hl : (x.toBitVec &&& (255 : BitVec 32)).toNat ≤ 255 := by
      rw [BitVec.toNat_and]
      exact Nat.and_le_right
    rw [BitVec.toInt_eq_toNat_cond, if_pos (by omega)]
  have hl : (x.toBitVec &&& (255 : BitVec 32)).toNat ≤ 255 := by
    rw [BitVec.toNat_and]
    exact Nat.and_le_right
  rw [h]
  omega
theorem t_ix (x : Int32) : ((ix x : Nat) : Int) = max x.toInt 0 := by
  show ((x.toInt.toNat : Nat) : Int) = _
  omega
theorem t_ixn (x : Int32) (h : 0 ≤ x.toInt) : ((ix x : Nat) : Int) = x.toInt := by
  show ((x.toInt.toNat : Nat) : Int) = _
  omega
theorem t_inc (x : Int32) (n : Nat) (h1 : x.toInt + n ≤ 2147483647) (h2 : n < 2147483648 := by decide) : (x + nI n).toInt = x.toInt + n := by
  have f0 := t_add x (nI n)
  have f1 := t_lit n h2
  omega
theorem t_dec (x : Int32) (h1 : -2147483647 ≤ x.toInt) : (x + (-1)).toInt = x.toInt - 1 := by
  have f0 := t_add x (-1)
  have f1 : ((-1 : Int32)).toInt = -1 := by decide
  omega
theorem set_ext {M2 M1 : Mem} {r : Nat} {y v : Int32} {P : Nat → Int32 → Prop} (e : M1 = mset M2 r (ix y) v) (hy : 0 ≤ y.toInt) (hy2 : y.toInt < 1000000) (h : ∀ j : Nat, (j : Int) < y.toInt → P j (M2 r j)) (hv : P (ix y) v) : ∀ j : Nat, (j : Int) < (y + nI 1).toInt → P j (M1 r j) := by
  intro j hj
  have f0 := t_lit 1
  have f1 := t_add y (nI 1)
  have f2 := t_ix y
  rw [e, mset_get]
  by_cases hj2 : j = ix y
  · rw [if_pos ⟨rfl, hj2⟩, hj2]
    exact hv
  · rw [if_neg (fun z => hj2 z.2)]
    exact h j (by omega)
theorem nI0 : (nI 0).toInt = 0 := by decide
theorem nI1 : (nI 1).toInt = 1 := by decide
theorem num_step {a r : Int32} (ha : 0 ≤ a.toInt ∧ a.toInt ≤ 100000) (hr : 48 ≤ r.toInt ∧ r.toInt ≤ 57) : ((((nI 10) * a) + r) - (nI 48)).toInt = 10 * a.toInt + (r.toInt - 48) := by
  have f0 := t_mulL a 10 (by omega) (by omega)
  have f1 := t_add ((nI 10) * a) r
  have f2 := t_sub (((nI 10) * a) + r) (nI 48)
  have f3 := t_lit 48
  omega
theorem pow10_le {c n : Nat} (h : c ≤ n) : (10 : Int) ^ c ≤ (10 : Int) ^ n ∧ 1 ≤ (10 : Int) ^ c := by
  have h1 : 10 ^ c ≤ 10 ^ n := Nat.pow_le_pow_right (by omega) h
  have h2 : 1 ≤ 10 ^ c := Nat.pow_pos (by omega)
  have e1 : ((10 : Int) ^ c) = ((10 ^ c : Nat) : Int) := by simp
  have e2 : ((10 : Int) ^ n) = ((10 ^ n : Nat) : Int) := by simp
  rw [e1, e2]
  omega
theorem mu_fu {y : Int32} {r : Nat} : (if y.toInt = 0 then 0 else 900000 - r) < 4294967296 := by
  by_cases h : y.toInt = 0
  · simp [h]
  · simp only [if_neg h]; omega
theorem mul_c {a b : Int32} (h1 : 0 ≤ a.toInt) (h2 : a.toInt ≤ 60) (h3 : 1 ≤ b.toInt) (h4 : b.toInt ≤ 9) : a.toInt ≤ (a * b).toInt ∧ (a * b).toInt ≤ 540 := by
  have e1 : a.toInt * 1 ≤ a.toInt * b.toInt := Int.mul_le_mul_of_nonneg_left h3 h1
  have e2 : a.toInt * b.toInt ≤ a.toInt * 9 := Int.mul_le_mul_of_nonneg_left h4 h1
  rw [t_mul (by omega)]
  omega
theorem b01_0 : nI 0 = 0 ∨ nI 0 = 1 := by decide
theorem b01_1 : nI 1 = 0 ∨ nI 1 = 1 := by decide
/-! places that are not the same, without omega -/
theorem nz1 {a k j i : Nat} (h : ¬ a = k) : ¬ (a = k ∧ j = i) := fun z => h z.1
theorem nz2 {a k j i : Nat} (h : ¬ j = i) : ¬ (a = k ∧ j = i) := fun z => h z.2
theorem nzA {a c n : Nat} (hc : c = 44 ∨ c = 52) (h : a < 44) : ¬ a = c + n := by omega
theorem nzB {a c n : Nat} (hc : c = 44 ∨ c = 52) (h : a < 44) : ¬ c + n = a := by omega
theorem nzC {a c : Nat} (hc : c = 44 ∨ c = 52) (h : a < 44) : ¬ a = c := by omega
theorem nzD {a c : Nat} (hc : c = 44 ∨ c = 52) (h : a < 44) : ¬ c = a := by omega
theorem nzE {c n m : Nat} (h : ¬ n = m) : ¬ c + n = c + m := by omega
theorem nzF {c m : Nat} (h : ¬ 0 = m) : ¬ c = c + m := by omega
theorem nzG {c m : Nat} (h : ¬ m = 0) : ¬ c + m = c := by omega
