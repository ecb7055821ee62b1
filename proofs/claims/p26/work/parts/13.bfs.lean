/-! how many places of a row are not -1 -/
def cN (s : Nat → Int) : Nat → Nat
  | 0 => 0
  | n + 1 => cN s n + (if s n = -1 then 0 else 1)
def pu {A : Type} (f : Nat → A) (j : Nat) (v : A) : Nat → A := fun x => if x = j then v else f x
theorem pu_s {A : Type} {f : Nat → A} {j : Nat} {v : A} : pu f j v j = v := if_pos rfl
theorem pu_n {A : Type} {f : Nat → A} {j x : Nat} {v : A} (h : ¬ x = j) : pu f j v x = f x := if_neg h
theorem cN_le (s : Nat → Int) : ∀ n, cN s n ≤ n
  | 0 => Nat.le_refl _
  | n + 1 => by
    have h := cN_le s n
    simp only [cN]
    by_cases e : s n = -1
    · rw [if_pos e]; omega
    · rw [if_neg e]; omega
theorem cN_lt {s : Nat → Int} {j : Nat} (hs : s j = -1) : ∀ n, j < n → cN s n < n
  | 0, h => absurd h (Nat.not_lt_zero _)
  | n + 1, h => by
    simp only [cN]
    by_cases e : j = n
    · rw [← e, if_pos hs]
      have := cN_le s j
      omega
    · have := cN_lt hs n (by omega)
      by_cases e2 : s n = -1
      · rw [if_pos e2]; omega
      · rw [if_neg e2]; omega
theorem cN_out {s : Nat → Int} {j : Nat} {v : Int} : ∀ n, n ≤ j → cN (pu s j v) n = cN s n
  | 0, _ => rfl
  | n + 1, h => by
    simp only [cN]
    rw [cN_out n (by omega), pu_n (by omega)]
theorem cN_in {s : Nat → Int} {j : Nat} {v : Int} (hs : s j = -1) (hv : ¬ v = -1) : ∀ n, j < n → cN (pu s j v) n = cN s n + 1
  | 0, h => absurd h (Nat.not_lt_zero _)
  | n + 1, h => by
    simp only [cN]
    by_cases e : j = n
    · rw [← e, cN_out j (Nat.le_refl _), pu_s, if_neg hv, if_pos hs]
    · rw [cN_in hs hv n (by omega), pu_n (fun z => e z.symm)]
      omega
theorem cN_ext {s s' : Nat → Int} : ∀ n, (∀ j, j < n → s j = s' j) → cN s n = cN s' n
  | 0, _ => rfl
  | n + 1, h => by
    simp only [cN]
    rw [cN_ext n (fun j hj => h j (by omega)), h n (by omega)]
/-! ring by ring -/
/-- the queue's places ahead of n are the nodes that have been come to, by growing steps -/
def Bq (m : Nat) (s : Nat → Int) (q : Nat → Nat) (n : Nat) : Prop :=
  n = cN s m ∧ (∀ t, t < n → q t < m ∧ ¬ s (q t) = -1 ∧ s (q t) ≤ (t : Int) + 1) ∧ (∀ j, j < m → ¬ s j = -1 → ∃ t, t < n ∧ q t = j)
def Bs (m : Nat) (B : Nat → Prop) (C : Nat → Nat → Prop) (s : Nat → Int) (q : Nat → Nat) (n : Nat) : Prop :=
  Bq m s q n ∧ (∀ j, j < m → s j = -1 ∨ 1 ≤ s j) ∧ (∀ t t', t ≤ t' → t' < n → s (q t) ≤ s (q t')) ∧ (∀ j, j < m → (s j = 1 ↔ B j)) ∧ (∀ j, j < m → 2 ≤ s j → ∃ i, i < m ∧ s i = s j - 1 ∧ C i j)
def Bd (m : Nat) (C : Nat → Nat → Prop) (s : Nat → Int) (q : Nat → Nat) (k : Nat) : Prop := ∀ t, t < k → ∀ j, j < m → C (q t) j → ¬ s j = -1 ∧ s j ≤ s (q t) + 1
/-- k nodes are done -/
def Bfs (m : Nat) (B : Nat → Prop) (C : Nat → Nat → Prop) (s : Nat → Int) (q : Nat → Nat) (n k : Nat) : Prop :=
  Bs m B C s q n ∧ k ≤ n ∧ Bd m C s q k ∧ (∀ t, t < n → k < n → s (q t) ≤ s (q k) + 1)
/-- of node k the places ahead of j are done -/
def Bin (m : Nat) (B : Nat → Prop) (C : Nat → Nat → Prop) (s : Nat → Int) (q : Nat → Nat) (n k j : Nat) : Prop :=
  Bs m B C s q n ∧ k < n ∧ Bd m C s q k ∧ (∀ t, t < n → s (q t) ≤ s (q k) + 1) ∧ (∀ i, i < j → i < m → C (q k) i → ¬ s i = -1 ∧ s i ≤ s (q k) + 1)
theorem bfs_in {m : Nat} {B : Nat → Prop} {C : Nat → Nat → Prop} {s : Nat → Int} {q : Nat → Nat} {n k : Nat} (h : Bfs m B C s q n k) (hk : k < n) : Bin m B C s q n k 0 :=
  ⟨h.1, hk, h.2.2.1, fun t ht => h.2.2.2 t ht hk, fun i hi => absurd hi (Nat.not_lt_zero _)⟩
theorem bin_skip {m : Nat} {B : Nat → Prop} {C : Nat → Nat → Prop} {s : Nat → Int} {q : Nat → Nat} {n k j : Nat} (h : Bin m B C s q n k j) (hj : ¬ s j = -1 ∨ ¬ C (q k) j) (hm : j < m) : Bin m B C s q n k (j + 1) := by
  refine ⟨h.1, h.2.1, h.2.2.1, h.2.2.2.1, fun i hi hi2 hc => ?_⟩
  by_cases e : i = j
  · subst e
    rcases hj with hj | hj
    · obtain ⟨t, ht, e⟩ := h.1.1.2.2 i hm hj
      have := h.2.2.2.1 t ht
      rw [e] at this
      exact ⟨hj, this⟩
    · exact absurd hc hj
  · exact h.2.2.2.2 i (by omega) hi2 hc
theorem bin_room {m : Nat} {B : Nat → Prop} {C : Nat → Nat → Prop} {s : Nat → Int} {q : Nat → Nat} {n k j : Nat} (h : Bin m B C s q n k j) (hs : s j = -1) (hm : j < m) : n < m := by
  rw [h.1.1.1]
  exact cN_lt hs m hm
theorem bin_push {m : Nat} {B : Nat → Prop} {C : Nat → Nat → Prop} {s : Nat → Int} {q : Nat → Nat} {n k j : Nat} (h : Bin m B C s q n k j) (hs : s j = -1) (hc : C (q k) j) (hm : j < m) : Bin m B C (pu s j (s (q k) + 1)) (pu q n j) (n + 1) k (j + 1) := by
  obtain ⟨⟨⟨h1, h2, h3⟩, h4, h5, h6, h7⟩, h8, h9, h10, h11⟩ := h
  have hx := h2 k h8
  have hx1 : 1 ≤ s (q k) := by
    rcases h4 (q k) hx.1 with e | e
    · exact absurd e hx.2.1
    · exact e
  have hne : ∀ t, t < n → ¬ q t = j := fun t ht z => (h2 t ht).2.1 (by rw [z]; exact hs)
  have hq : ∀ t, t < n → pu q n j t = q t := fun t ht => pu_n (by omega)
  have hsq : ∀ t, t < n → pu s j (s (q k) + 1) (q t) = s (q t) := fun t ht => pu_n (hne t ht)
  have hqn : pu q n j n = j := pu_s
  have hsj : pu s j (s (q k) + 1) j = s (q k) + 1 := pu_s
  have hkk := hsq k h8
  have hqk := hq k h8
  refine ⟨⟨⟨?_, ?_, ?_⟩, ?_, ?_, ?_, ?_⟩, by omega, ?_, ?_, ?_⟩
  · rw [cN_in hs (by omega) m hm, h1]
  · intro t ht
    by_cases e : t = n
    · rw [e, hqn, hsj]
      exact ⟨hm, by omega, by omega⟩
    · rw [hq t (by omega), hsq t (by omega)]
      exact h2 t (by omega)
  · intro i hi hi2
    by_cases e : i = j
    · exact ⟨n, by omega, by rw [hqn, e]⟩
    · rw [pu_n e] at hi2
      obtain ⟨t, ht, e2⟩ := h3 i hi hi2
      exact ⟨t, by omega, by rw [hq t ht]; exact e2⟩
  · intro i hi
    by_cases e : i = j
    · rw [e, hsj]; exact Or.inr (by omega)
    · rw [pu_n e]; exact h4 i hi
  · intro t t' h12 h13
    by_cases e : t' = n
    · rw [e, hqn, hsj]
      by_cases e2 : t = n
      · rw [e2, hqn, hsj]; omega
      · rw [hq t (by omega), hsq t (by omega)]
        exact h10 t (by omega)
    · rw [hq t (by omega), hsq t (by omega), hq t' (by omega), hsq t' (by omega)]
      exact h5 t t' h12 (by omega)
  · intro i hi
    by_cases e : i = j
    · rw [e, hsj]
      refine ⟨fun z => absurd z (by omega), fun z => ?_⟩
      have := (h6 j hm).mpr z
      omega
    · rw [pu_n e]; exact h6 i hi
  · intro i hi h2i
    by_cases e : i = j
    · refine ⟨q k, hx.1, ?_, by rw [e]; exact hc⟩
      rw [e, hsj, hkk]
      omega
    · rw [pu_n e] at h2i ⊢
      obtain ⟨p, hp, ep, cp⟩ := h7 i hi h2i
      refine ⟨p, hp, ?_, cp⟩
      rw [pu_n (fun z => by rw [z] at ep; omega)]
      exact ep
  · intro t ht i hi hci
    rw [hq t (by omega)] at hci ⊢
    rw [hsq t (by omega)]
    have h12 := h9 t ht i hi hci
    by_cases e : i = j
    · exact absurd (e ▸ hs) h12.1
    · rw [pu_n e]; exact h12
  · intro t ht
    rw [hqk, hkk]
    by_cases e : t = n
    · rw [e, hqn, hsj]; omega
    · rw [hq t (by omega), hsq t (by omega)]
      exact h10 t (by omega)
  · intro i hi hi2 hci
    rw [hqk] at hci ⊢
    rw [hkk]
    by_cases e : i = j
    · rw [e, hsj]; exact ⟨by omega, by omega⟩
    · rw [pu_n e]; exact h11 i (by omega) hi2 hci
theorem bin_out {m : Nat} {B : Nat → Prop} {C : Nat → Nat → Prop} {s : Nat → Int} {q : Nat → Nat} {n k j : Nat} (h : Bin m B C s q n k j) (hj : m ≤ j) : Bfs m B C s q n (k + 1) := by
  obtain ⟨h1, h8, h9, h10, h11⟩ := h
  refine ⟨h1, by omega, fun t ht i hi hc => ?_, fun t ht hk => ?_⟩
  · by_cases e : t = k
    · subst e
      exact h11 i (by omega) hi hc
    · exact h9 t (by omega) i hi hc
  · have h12 := h10 t ht
    have h13 := h1.2.2.1 k (k + 1) (by omega) hk
    omega
/-- what stands at the end -/
def Bend (m : Nat) (B : Nat → Prop) (C : Nat → Nat → Prop) (s : Nat → Int) : Prop :=
  (∀ j, j < m → s j = -1 ∨ (1 ≤ s j ∧ s j ≤ m)) ∧ (∀ j, j < m → (s j = 1 ↔ B j)) ∧ (∀ j, j < m → 2 ≤ s j → ∃ i, i < m ∧ s i = s j - 1 ∧ C i j) ∧ ∀ i j, i < m → j < m → ¬ s i = -1 → C i j → ¬ s j = -1 ∧ s j ≤ s i + 1
theorem bfs_end {m : Nat} {B : Nat → Prop} {C : Nat → Nat → Prop} {s : Nat → Int} {q : Nat → Nat} {n k : Nat} (h : Bfs m B C s q n k) (hk : n ≤ k) : Bend m B C s := by
  obtain ⟨⟨⟨h1, h2, h3⟩, h4, h5, h6, h7⟩, h8, h9, h10⟩ := h
  refine ⟨fun j hj => ?_, h6, h7, fun i j hi hj hs hc => ?_⟩
  · rcases h4 j hj with e | e
    · exact Or.inl e
    · obtain ⟨t, ht, e2⟩ := h3 j hj (by omega)
      have := (h2 t ht).2.2
      have h11 := cN_le s m
      rw [e2] at this
      exact Or.inr ⟨e, by omega⟩
  · obtain ⟨t, ht, e⟩ := h3 i hi hs
    have := h9 t (by omega) j hj (by rw [e]; exact hc)
    rw [e] at this
    exact this
/-- the first ring, ahead of place i -/
def Bini (B : Nat → Prop) (s : Nat → Int) (q : Nat → Nat) (n i : Nat) : Prop :=
  n = cN s i ∧ (∀ t, t < n → q t < i ∧ s (q t) = 1) ∧ (∀ j, j < i → ¬ s j = -1 → ∃ t, t < n ∧ q t = j) ∧ ∀ j, j < i → (s j = -1 ∧ ¬ B j) ∨ (s j = 1 ∧ B j)
theorem bini_no {B : Nat → Prop} {s : Nat → Int} {q : Nat → Nat} {n i : Nat} (h : Bini B s q n i) (hb : ¬ B i) : Bini B (pu s i (-1)) q n (i + 1) := by
  obtain ⟨h1, h2, h3, h4⟩ := h
  refine ⟨?_, fun t ht => ?_, fun j hj hs => ?_, fun j hj => ?_⟩
  · simp only [cN]
    rw [cN_out i (Nat.le_refl _), pu_s, if_pos rfl, ← h1]; rfl
  · have := h2 t ht
    rw [pu_n (by omega)]
    exact ⟨by omega, this.2⟩
  · by_cases e : j = i
    · rw [e, pu_s] at hs; exact absurd rfl hs
    · rw [pu_n e] at hs; exact h3 j (by omega) hs
  · by_cases e : j = i
    · rw [e, pu_s]; exact Or.inl ⟨rfl, hb⟩
    · rw [pu_n e]; exact h4 j (by omega)
theorem bini_yes {B : Nat → Prop} {s : Nat → Int} {q : Nat → Nat} {n i : Nat} (h : Bini B s q n i) (hb : B i) : Bini B (pu s i 1) (pu q n i) (n + 1) (i + 1) := by
  obtain ⟨h1, h2, h3, h4⟩ := h
  refine ⟨?_, fun t ht => ?_, fun j hj hs => ?_, fun j hj => ?_⟩
  · simp only [cN]
    rw [cN_out i (Nat.le_refl _), pu_s, if_neg (by omega), ← h1]
  · by_cases e : t = n
    · rw [e, pu_s, pu_s]; exact ⟨by omega, rfl⟩
    · have := h2 t (by omega)
      rw [pu_n e, pu_n (by omega)]
      exact ⟨by omega, this.2⟩
  · by_cases e : j = i
    · exact ⟨n, by omega, by rw [pu_s, e]⟩
    · rw [pu_n e] at hs
      obtain ⟨t, ht, e2⟩ := h3 j (by omega) hs
      exact ⟨t, by omega, by rw [pu_n (by omega)]; exact e2⟩
  · by_cases e : j = i
    · rw [e, pu_s]; exact Or.inr ⟨rfl, hb⟩
    · rw [pu_n e]; exact h4 j (by omega)
theorem bini_end {m : Nat} {B : Nat → Prop} {C : Nat → Nat → Prop} {s : Nat → Int} {q : Nat → Nat} {n : Nat} (h : Bini B s q n m) : Bfs m B C s q n 0 := by
  obtain ⟨h1, h2, h3, h4⟩ := h
  refine ⟨⟨⟨h1, fun t ht => ?_, h3⟩, fun j hj => ?_, fun t t' ht ht' => ?_, fun j hj => ?_, fun j hj h2j => ?_⟩, by omega, fun t ht => absurd ht (Nat.not_lt_zero _), fun t ht h0 => ?_⟩
  · have := h2 t ht
    exact ⟨this.1, by omega, by omega⟩
  · rcases h4 j hj with e | e
    · exact Or.inl e.1
    · exact Or.inr (by omega)
  · have := h2 t (by omega)
    have := h2 t' ht'
    omega
  · rcases h4 j hj with e | e
    · exact ⟨fun z => absurd z (by omega), fun z => absurd z e.2⟩
    · exact ⟨fun _ => e.2, fun _ => e.1⟩
  · rcases h4 j hj with e | e <;> omega
  · have := h2 t ht
    have := h2 0 h0
    omega
