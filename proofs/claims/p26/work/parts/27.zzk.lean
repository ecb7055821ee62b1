/-- how many ahead of n there are of whom P holds -/
def CtI (P : Nat → Prop) : Nat → Int → Prop
  | 0, c => c = 0
  | n + 1, c => ∃ c', CtI P n c' ∧ ((P n ∧ c = c' + 1) ∨ (¬ P n ∧ c = c'))
theorem ct_fn {P : Nat → Prop} : ∀ {n : Nat} {c c2 : Int}, CtI P n c → CtI P n c2 → c = c2
  | 0, _, _, h, h' => h.trans h'.symm
  | n + 1, c, c2, ⟨a, h, q⟩, ⟨a2, h2, q2⟩ => by
    have e := ct_fn h h2
    rcases q with ⟨q1, q3⟩ | ⟨q1, q3⟩ <;> rcases q2 with ⟨p1, p3⟩ | ⟨p1, p3⟩
    · omega
    · exact absurd q1 p1
    · exact absurd p1 q1
    · omega
theorem ct_y {P : Nat → Prop} {n : Nat} {c c1 : Int} (h : CtI P n c) (hp : P n) (e : c1 = c + 1) : CtI P (n + 1) c1 := ⟨c, h, Or.inl ⟨hp, e⟩⟩
theorem ct_n {P : Nat → Prop} {n : Nat} {c : Int} (h : CtI P n c) (hp : ¬ P n) : CtI P (n + 1) c := ⟨c, h, Or.inr ⟨hp, rfl⟩⟩
theorem ct_z {P : Nat → Prop} (h : ∀ j, ¬ P j) : ∀ n, CtI P n 0
  | 0 => rfl
  | n + 1 => ct_n (ct_z h n) (h n)
theorem ct_c {P : Nat → Prop} {s : Nat → Int} : ∀ {n : Nat}, (∀ j, j < n → (P j ↔ ¬ s j = -1)) → CtI P n ((cN s n : Nat) : Int)
  | 0, _ => rfl
  | n + 1, h => by
    have z := ct_c (n := n) (fun j hj => h j (by omega))
    by_cases e : s n = -1
    · have y := ct_n z (fun p => (h n (by omega)).mp p e)
      have w : cN s (n + 1) = cN s n := by
        simp only [cN]
        rw [if_pos e]
        omega
      rw [w]
      exact y
    · refine ct_y z ((h n (by omega)).mpr e) ?_
      have w : cN s (n + 1) = cN s n + 1 := by
        simp only [cN]
        rw [if_neg e]
      rw [w]
      omega
def CtQ (P : Nat → Prop) (c : Int) : Prop := ∃ n, n = 40 ∧ CtI P n c
theorem cq_fn {P : Nat → Prop} {c c2 : Int} (h : CtQ P c) (h' : CtQ P c2) : c = c2 := by
  obtain ⟨n, e, h⟩ := h
  obtain ⟨n', e', h'⟩ := h'
  rw [e] at h
  rw [e'] at h'
  exact ct_fn h h'
/-! the shape of a ford -/
theorem pb9 {a b : Int} (ha : -1000 ≤ a ∧ a ≤ 1000) (hb : -1000 ≤ b ∧ b ≤ 1000) : -3000000 ≤ a * b ∧ a * b ≤ 3000000 := by
  have h1 := Int.mul_nonneg (show 0 ≤ a + 1000 by omega) (show 0 ≤ b + 1000 by omega)
  have h2 := Int.mul_nonneg (show 0 ≤ 1000 - a by omega) (show 0 ≤ b + 1000 by omega)
  rw [Int.add_mul, Int.mul_add a] at h1
  rw [Int.sub_mul, Int.mul_add a] at h2
  omega
theorem t_m9 {x y : Int32} (hx : -1000 ≤ x.toInt ∧ x.toInt ≤ 1000) (hy : -1000 ≤ y.toInt ∧ y.toInt ≤ 1000) : (x * y).toInt = x.toInt * y.toInt := t_mul (by
  have b := pb9 hx hy
  omega)
theorem sq_0 (a : Int) : 0 ≤ a * a := by
  rcases Int.le_total 0 a with h | h
  · exact Int.mul_nonneg h h
  · have z := Int.mul_nonneg (show 0 ≤ -a by omega) (show 0 ≤ -a by omega)
    rw [Int.neg_mul_neg] at z
    exact z
def sqI (G : Mem) (i j : Nat) : Int := (sqF G i j).toInt
theorem sqi_b {G : Mem} {i j : Nat} (hG : GdF G) (hi : i < 40) (hj : j < 40) (ti : tld G i) (tj : tld G j) : 0 ≤ sqI G i j := by
  have a := hG.2.2 i hi ti
  have b := hG.2.2 j hj tj
  have f1 := t_sub (G 1 i) (G 1 j)
  have f2 := t_sub (G 2 i) (G 2 j)
  have e1 : (G 1 i - G 1 j).toInt = (G 1 i).toInt - (G 1 j).toInt := by omega
  have e2 : (G 2 i - G 2 j).toInt = (G 2 i).toInt - (G 2 j).toInt := by omega
  have s1 := t_m9 (x := G 1 i - G 1 j) (y := G 1 i - G 1 j) (by omega) (by omega)
  have s2 := t_m9 (x := G 2 i - G 2 j) (y := G 2 i - G 2 j) (by omega) (by omega)
  have p1 := pb9 (a := (G 1 i - G 1 j).toInt) (b := (G 1 i - G 1 j).toInt) (by omega) (by omega)
  have p2 := pb9 (a := (G 2 i - G 2 j).toInt) (b := (G 2 i - G 2 j).toInt) (by omega) (by omega)
  have z1 := sq_0 (G 1 i - G 1 j).toInt
  have z2 := sq_0 (G 2 i - G 2 j).toInt
  clear e1 e2 f1 f2 a b
  have f := t_add ((G 1 i - G 1 j) * (G 1 i - G 1 j)) ((G 2 i - G 2 j) * (G 2 i - G 2 j))
  unfold sqI sqF
  omega
/-- the nearest of i ahead of n -/
def NsP (G : Mem) (i n : Nat) (r : Int) : Prop := (r = -1 ∧ ∀ j, j < n → ¬ j = i → ¬ tld G j) ∨ ∃ k : Nat, k < n ∧ r = (k : Int) ∧ (¬ k = i ∧ tld G k) ∧ (∀ j, j < n → ¬ j = i → tld G j → sqI G i k ≤ sqI G i j) ∧ ∀ j, j < k → ¬ j = i → tld G j → sqI G i k < sqI G i j
theorem ns_0 {G : Mem} {i : Nat} : NsP G i 0 (-1) := Or.inl ⟨rfl, fun j hj => absurd hj (Nat.not_lt_zero _)⟩
theorem ns_k {G : Mem} {i n : Nat} {r : Int} (h : NsP G i n r) (hn : n = i ∨ ¬ tld G n) : NsP G i (n + 1) r := by
  rcases h with ⟨a, b⟩ | ⟨k, a, b, d, e, f⟩
  · refine Or.inl ⟨a, fun j hj hji => ?_⟩
    by_cases c : j = n
    · rw [c] at hji ⊢
      exact hn.resolve_left hji
    · exact b j (by omega) hji
  · refine Or.inr ⟨k, by omega, b, d, fun j hj hji ht => ?_, f⟩
    by_cases c : j = n
    · rw [c] at hji ht
      exact absurd ht (hn.resolve_left hji)
    · exact e j (by omega) hji ht
theorem ns_f {G : Mem} {i n : Nat} {r : Int} (h : NsP G i n r) (hr : r = -1) (hn : ¬ n = i) (ht : tld G n) : NsP G i (n + 1) (n : Int) := by
  rcases h with ⟨a, b⟩ | ⟨k, a, b, d, e, f⟩
  · refine Or.inr ⟨n, by omega, rfl, ⟨hn, ht⟩, fun j hj hji tj => ?_, fun j hj hji tj => absurd tj (b j hj hji)⟩
    by_cases c : j = n
    · rw [c]
      exact Int.le_refl _
    · exact absurd tj (b j (by omega) hji)
  · omega
theorem ns_s {G : Mem} {i n k : Nat} {r : Int} (h : NsP G i n r) (hr : r = (k : Int)) (hle : sqI G i k ≤ sqI G i n) : NsP G i (n + 1) r := by
  rcases h with ⟨a, b⟩ | ⟨k', a, b, d, e, f⟩
  · omega
  · have ek : k' = k := by omega
    rw [ek] at a d e f
    refine Or.inr ⟨k, by omega, hr, d, fun j hj hji tj => ?_, f⟩
    by_cases c : j = n
    · rw [c]
      exact hle
    · exact e j (by omega) hji tj
theorem ns_t {G : Mem} {i n k : Nat} {r : Int} (h : NsP G i n r) (hr : r = (k : Int)) (hn : ¬ n = i) (ht : tld G n) (hle : ¬ sqI G i k ≤ sqI G i n) : NsP G i (n + 1) (n : Int) := by
  rcases h with ⟨a, b⟩ | ⟨k', a, b, d, e, f⟩
  · omega
  · have ek : k' = k := by omega
    rw [ek] at e
    refine Or.inr ⟨n, by omega, rfl, ⟨hn, ht⟩, fun j hj hji tj => ?_, fun j hj hji tj => ?_⟩
    · by_cases c : j = n
      · rw [c]
        exact Int.le_refl _
      · have := e j (by omega) hji tj
        omega
    · have := e j hj hji tj
      omega
theorem ns_q {G : Mem} {i n : Nat} {r : Int} (h : NsP G i n r) (hr : ¬ r = -1) : ∃ k : Nat, k < n ∧ r = (k : Int) ∧ tld G k := by
  rcases h with ⟨a, b⟩ | ⟨k, a, b, d, -, -⟩
  · exact absurd a hr
  · exact ⟨k, a, b, d.2⟩
theorem ns_fn {G : Mem} {i n : Nat} {r r' : Int} (h : NsP G i n r) (h' : NsP G i n r') : r = r' := by
  rcases h with ⟨a, b⟩ | ⟨k, a, b, d, e, f⟩ <;> rcases h' with ⟨a', b'⟩ | ⟨k', a', b', d', e', f'⟩
  · omega
  · exact absurd d'.2 (b k' a' d'.1)
  · exact absurd d.2 (b' k a d.1)
  · have x := e k' a' d'.1 d'.2
    have y := e' k a d.1 d.2
    rcases Nat.lt_trichotomy k k' with c | c | c
    · have := f' k c d.1 d.2
      omega
    · omega
    · have := f k' c d'.1 d'.2
      omega
def Nst (G : Mem) (i : Nat) (r : Int) : Prop := ∃ n, n = 40 ∧ NsP G i n r
theorem nst_fn {G : Mem} {i : Nat} {r r' : Int} (h : Nst G i r) (h' : Nst G i r') : r = r' := by
  obtain ⟨n, e, h⟩ := h
  obtain ⟨n', e', h'⟩ := h'
  rw [e] at h
  rw [e'] at h'
  exact ns_fn h h'
theorem nst_t {G : Mem} {i : Nat} {r : Int} (h : Nst G i r) (hr : ¬ r = -1) : ∃ k : Nat, k < 40 ∧ r = (k : Int) ∧ ¬ k = i ∧ tld G k := by
  obtain ⟨n, e, h⟩ := h
  rcases h with ⟨a, b⟩ | ⟨k, a, b, d, -, -⟩
  · exact absurd a hr
  · exact ⟨k, by omega, b, d⟩
/-- of those that aren't told there is none -/
def NrQ (G : Mem) (i : Nat) (r : Int) : Prop := (tld G i → Nst G i r) ∧ (¬ tld G i → r = -1)
/-! pairs -/
def PrG (G : Mem) (i : Nat) : Prop := tld G i ∧ ∃ o : Nat, Nst G i (o : Int) ∧ i < o ∧ Nst G o (i : Int)
theorem pr_n1 {G : Mem} {i : Nat} {r : Int} (h : NrQ G i r) (hr : r ≤ (i : Int)) : ¬ PrG G i := fun ⟨t, o, a, b, _⟩ => by
  have := nst_fn (h.1 t) a
  omega
theorem pr_n2 {G : Mem} {i : Nat} {r r2 : Int} (h : NrQ G i r) (h2 : ∀ o : Nat, r = (o : Int) → Nst G o r2) (hr : ¬ r2 = (i : Int)) : ¬ PrG G i := fun ⟨t, o, a, b, d⟩ => hr (nst_fn (h2 o (nst_fn (h.1 t) a)) d)
/-! the closest -/
def ClP (G : Mem) (n : Nat) (y : Int) : Prop := (y = -2 ∧ ∀ i, i < n → tld G i → Nst G i (-1)) ∨ ∃ i o : Nat, i < n ∧ tld G i ∧ Nst G i (o : Int) ∧ (y = sqI G i o ∧ 0 ≤ y) ∧ ∀ i' o' : Nat, i' < n → tld G i' → Nst G i' (o' : Int) → y ≤ sqI G i' o'
theorem cl_0 {G : Mem} : ClP G 0 (-2) := Or.inl ⟨rfl, fun j hj => absurd hj (Nat.not_lt_zero _)⟩
theorem cl_n {G : Mem} {n : Nat} {y : Int} (h : ClP G n y) (hn : tld G n → Nst G n (-1)) : ClP G (n + 1) y := by
  rcases h with ⟨a, b⟩ | ⟨i, o, a, b, d, e, f⟩
  · refine Or.inl ⟨a, fun j hj tj => ?_⟩
    by_cases c : j = n
    · rw [c] at tj ⊢
      exact hn tj
    · exact b j (by omega) tj
  · refine Or.inr ⟨i, o, by omega, b, d, e, fun i' o' hi ti hs => ?_⟩
    by_cases c : i' = n
    · rw [c] at ti hs
      have := nst_fn (hn ti) hs
      omega
    · exact f i' o' (by omega) ti hs
theorem cl_s {G : Mem} {n o : Nat} {y : Int} (h : ClP G n y) (hs : Nst G n (o : Int)) (hy : ¬ y = -2) (hle : y ≤ sqI G n o) : ClP G (n + 1) y := by
  rcases h with ⟨a, b⟩ | ⟨i, o2, a, b, d, e, f⟩
  · exact absurd a hy
  · refine Or.inr ⟨i, o2, by omega, b, d, e, fun i' o' hi ti hs' => ?_⟩
    by_cases c : i' = n
    · rw [c] at hs' ⊢
      have z := nst_fn hs hs'
      have z2 : o = o' := by omega
      rw [← z2]
      exact hle
    · exact f i' o' (by omega) ti hs'
theorem cl_t {G : Mem} {n o : Nat} {y y1 : Int} (h : ClP G n y) (tn : tld G n) (hs : Nst G n (o : Int)) (hy : y = -2 ∨ ¬ y ≤ sqI G n o) (e1 : y1 = sqI G n o) (h0 : 0 ≤ y1) : ClP G (n + 1) y1 := by
  refine Or.inr ⟨n, o, by omega, tn, hs, ⟨e1, h0⟩, fun i' o' hi ti hs' => ?_⟩
  by_cases c : i' = n
  · rw [c] at hs' ⊢
    have z := nst_fn hs hs'
    have z2 : o = o' := by omega
    rw [← z2, e1]
    exact Int.le_refl _
  · rcases h with ⟨a, b⟩ | ⟨i, o2, a, b, d, e, f⟩
    · have z := nst_fn (b i' (by omega) ti) hs'
      omega
    · have z := f i' o' (by omega) ti hs'
      have z2 := e.2
      omega
def ClQ (G : Mem) (y : Int) : Prop := ∃ n, n = 40 ∧ ClP G n y
theorem clq_fn {G : Mem} {y y' : Int} (h : ClQ G y) (h' : ClQ G y') : y = y' := by
  obtain ⟨n, e, h⟩ := h
  obtain ⟨n', e', h'⟩ := h'
  rw [e] at h
  rw [e'] at h'
  rcases h with ⟨a, b⟩ | ⟨i, o, a, b, d, e, f⟩ <;> rcases h' with ⟨a', b'⟩ | ⟨i', o', a', b', d', e', f'⟩
  · omega
  · have := nst_fn (b i' a' b') d'
    omega
  · have := nst_fn (b' i a b) d
    omega
  · have := f i' o' a' b' d'
    have := f' i o a b d
    omega
/-! a yard apart -/
theorem sta_own {G : Mem} {i : Nat} (hG : GdF G) (hi : i < 40) (ht : tld G i) : ¬ stA G (G 1 i).toInt (G 2 i).toInt 40 0 = -1 := fun z => by
  rw [st_own hG.1.2.2 hi ht] at z
  have w := congrArg Int32.toInt z
  rw [t_lit i (by omega)] at w
  have w2 : ((-1 : Int32)).toInt = -1 := by decide
  omega
theorem sta_hi {G : Mem} {x y : Int} (hG : GdF G) (hy : 20 < y) : stA G x y 40 0 = -1 := by
  rcases stA_is (F := G) (x := x) (y := y) 40 0 rfl with z | ⟨k, -, a, -, b, -, d⟩
  · exact z.1
  · have := (hG.2.2 k a b).2.1
    omega
def RuP (G : Mem) (x y : Int) (L : Nat) : Prop := (∀ l : Nat, l < L → ¬ stA G x (y + (l : Int)) 40 0 = -1) ∧ stA G x (y + (L : Int)) 40 0 = -1
theorem ru_fn {G : Mem} {x y : Int} {L L' : Nat} (h : RuP G x y L) (h' : RuP G x y L') : L = L' := by
  rcases Nat.lt_trichotomy L L' with c | c | c
  · exact absurd h.2 (h'.1 L c)
  · exact c
  · exact absurd h'.2 (h.1 L' c)
/-- steps of a row that begins at i -/
def RuQ (G : Mem) (i n : Nat) : Prop := ∀ l : Nat, l < n → ¬ stA G (G 1 i).toInt ((G 2 i).toInt + (l : Int)) 40 0 = -1
theorem rq_0 {G : Mem} {i : Nat} : RuQ G i 0 := fun l hl => absurd hl (Nat.not_lt_zero _)
theorem rq_1 {G : Mem} {i : Nat} (hG : GdF G) (hi : i < 40) (ht : tld G i) : RuQ G i 1 := fun l hl => by
  have e : l = 0 := by omega
  rw [e, show (G 2 i).toInt + ((0 : Nat) : Int) = (G 2 i).toInt from by omega]
  exact sta_own hG hi ht
theorem rq_s {G : Mem} {i n : Nat} {y : Int} (h : RuQ G i n) (e : y = (G 2 i).toInt + (n : Int)) (hn : ¬ stA G (G 1 i).toInt y 40 0 = -1) : RuQ G i (n + 1) := fun l hl => by
  by_cases c : l = n
  · rw [c, ← e]
    exact hn
  · exact h l (by omega)
def YmP (G : Mem) (n : Nat) (m : Int) : Prop := (0 ≤ m ∧ ∀ i, i < n → tld G i → ∀ L, RuP G (G 1 i).toInt (G 2 i).toInt L → (L : Int) ≤ m) ∧ (m = 0 ∨ ∃ i, i < n ∧ tld G i ∧ ∃ L, RuP G (G 1 i).toInt (G 2 i).toInt L ∧ m = (L : Int))
theorem ym_0 {G : Mem} : YmP G 0 0 := ⟨⟨Int.le_refl _, fun j hj => absurd hj (Nat.not_lt_zero _)⟩, Or.inl rfl⟩
theorem ym_n {G : Mem} {n : Nat} {m : Int} (h : YmP G n m) (hn : ¬ tld G n) : YmP G (n + 1) m := by
  refine ⟨⟨h.1.1, fun i hi ti L hL => ?_⟩, h.2.elim Or.inl (fun ⟨i, a, b⟩ => Or.inr ⟨i, by omega, b⟩)⟩
  by_cases c : i = n
  · rw [c] at ti
    exact absurd ti hn
  · exact h.1.2 i (by omega) ti L hL
theorem ym_y {G : Mem} {n L : Nat} {m m1 : Int} (h : YmP G n m) (ht : tld G n) (hL : RuP G (G 1 n).toInt (G 2 n).toInt L) (e : m1 = max m (L : Int)) : YmP G (n + 1) m1 := by
  have h0 := h.1.1
  refine ⟨⟨by omega, fun i hi ti L' hL' => ?_⟩, ?_⟩
  · by_cases c : i = n
    · rw [c] at hL'
      have := ru_fn hL hL'
      omega
    · have := h.1.2 i (by omega) ti L' hL'
      omega
  · by_cases c : (L : Int) ≤ m
    · have e2 : m1 = m := by omega
      rw [e2]
      exact h.2.elim Or.inl (fun ⟨i, a, b⟩ => Or.inr ⟨i, by omega, b⟩)
    · exact Or.inr ⟨n, by omega, ht, L, hL, by omega⟩
/-- a row of no stone makes nothing longer -/
theorem ym_z {G : Mem} {n : Nat} {m m1 : Int} (h : YmP G n m) (ht : ¬ tld G n) (e : m1 = max m 0) : YmP G (n + 1) m1 := by
  have h0 := h.1.1
  have e2 : m1 = m := by omega
  rw [e2]
  exact ym_n h ht
def YmQ (G : Mem) (m : Int) : Prop := ∃ n, n = 40 ∧ YmP G n m
theorem ymq_fn {G : Mem} {m m' : Int} (h : YmQ G m) (h' : YmQ G m') : m = m' := by
  obtain ⟨n, e, h⟩ := h
  obtain ⟨n', e', h'⟩ := h'
  rw [e] at h
  rw [e'] at h'
  have a : ∀ u v, YmP G 40 u → YmP G 40 v → u ≤ v := fun u v hu hv => by
    rcases hu.2 with z | ⟨i, z1, z2, L, z3, z4⟩
    · have := hv.1.1
      omega
    · have := hv.1.2 i z1 z2 L z3
      omega
  have := a m m' h h'
  have := a m' m h' h
  omega
/-! a line -/
def OnL (G : Mem) (i j k : Nat) : Prop := tld G k ∧ ((G 1 j).toInt - (G 1 i).toInt) * ((G 2 k).toInt - (G 2 i).toInt) = ((G 2 j).toInt - (G 2 i).toInt) * ((G 1 k).toInt - (G 1 i).toInt)
theorem det_0 (A B C D : Int) (h : A * D = B * C) : -A * (D - B) = -B * (C - A) := by
  rw [Int.neg_mul, Int.neg_mul, Int.mul_sub, Int.mul_sub, h, Int.mul_comm A B]
theorem det_sy (a b c d e f : Int) (h : (c - a) * (f - b) = (d - b) * (e - a)) : (a - c) * (f - d) = (b - d) * (e - c) := by
  rw [show a - c = -(c - a) from by omega, show b - d = -(d - b) from by omega, show f - d = (f - b) - (d - b) from by omega, show e - c = (e - a) - (c - a) from by omega]
  exact det_0 _ _ _ _ h
theorem onl_sy {G : Mem} {i j k : Nat} : OnL G i j k ↔ OnL G j i k := ⟨fun h => ⟨h.1, det_sy _ _ _ _ _ _ h.2⟩, fun h => ⟨h.1, det_sy _ _ _ _ _ _ h.2⟩⟩
theorem ct_cg {P P' : Nat → Prop} (e : ∀ j, P j ↔ P' j) : ∀ {n : Nat} {c : Int}, CtI P n c → CtI P' n c
  | 0, _, h => h
  | n + 1, _, ⟨c', h, q⟩ => ⟨c', ct_cg e h, q.elim (fun z => Or.inl ⟨(e n).mp z.1, z.2⟩) (fun z => Or.inr ⟨fun w => z.1 ((e n).mpr w), z.2⟩)⟩
theorem cq_sy {G : Mem} {i j : Nat} {c : Int} (h : CtQ (OnL G i j) c) : CtQ (OnL G j i) c := by
  obtain ⟨n, e, h⟩ := h
  exact ⟨n, e, ct_cg (fun k => onl_sy) h⟩
def MxP (Pr : Nat → Nat → Prop) (G : Mem) (b y : Int) : Prop := (b ≤ y ∧ ∀ i j c, Pr i j → (i < j ∧ j < 40) → tld G i → tld G j → CtQ (OnL G i j) c → c ≤ y) ∧ (y = b ∨ ∃ i j c, (i < j ∧ j < 40) ∧ tld G i ∧ tld G j ∧ CtQ (OnL G i j) c ∧ y = c)
theorem mp_0 {Pr : Nat → Nat → Prop} {G : Mem} {b : Int} (h : ∀ i j, Pr i j → i < j → j < 40 → False) : MxP Pr G b b := ⟨⟨Int.le_refl _, fun i j c p q => (h i j p q.1 q.2).elim⟩, Or.inl rfl⟩
theorem mp_k {Pr Pr' : Nat → Nat → Prop} {G : Mem} {b y : Int} (h : MxP Pr G b y) (e : ∀ i j, Pr' i j → i < j → j < 40 → tld G i → tld G j → Pr i j) : MxP Pr' G b y := ⟨⟨h.1.1, fun i j c p q ti tj hc => h.1.2 i j c (e i j p q.1 q.2 ti tj) q ti tj hc⟩, h.2⟩
theorem mp_s {Pr Pr' : Nat → Nat → Prop} {G : Mem} {b y y1 c0 : Int} {a d : Nat} (h : MxP Pr G b y) (ha : a < d ∧ d < 40) (ta : tld G a) (td : tld G d) (hc : CtQ (OnL G a d) c0) (e1 : y1 = max y c0) (e : ∀ i j, Pr' i j → i < j → j < 40 → Pr i j ∨ (i = a ∧ j = d)) : MxP Pr' G b y1 := by
  have h0 := h.1.1
  refine ⟨⟨by omega, fun i j c p q ti tj hc' => ?_⟩, ?_⟩
  · rcases e i j p q.1 q.2 with z | z
    · have := h.1.2 i j c z q ti tj hc'
      omega
    · rw [z.1, z.2] at hc'
      have := cq_fn hc hc'
      omega
  · by_cases w : c0 ≤ y
    · have e2 : y1 = y := by omega
      rw [e2]
      exact h.2
    · exact Or.inr ⟨a, d, c0, ha, ta, td, hc, by omega⟩
def LnP (G : Mem) (y : Int) : Prop := ∃ b : Int, b = min 2 (smT 4 G 40).toInt ∧ MxP (fun _ _ => True) G b y
theorem ln_fn {G : Mem} {y y' : Int} (h : LnP G y) (h' : LnP G y') : y = y' := by
  obtain ⟨b, e, h⟩ := h
  obtain ⟨b', e', h'⟩ := h'
  rw [← e] at e'
  rw [e'] at h'
  have a : ∀ u v, MxP (fun _ _ => True) G b u → MxP (fun _ _ => True) G b v → u ≤ v := fun u v hu hv => by
    rcases hu.2 with z | ⟨i, j, c, z1, z2, z3, z4, z5⟩
    · have := hv.1.1
      omega
    · have := hv.1.2 i j c trivial z1 z2 z3 z4
      omega
  have := a y y' h h'
  have := a y' y h' h
  omega
def ShP (G : Mem) (w r : Int) : Prop := (w = 0 ∧ LnP G r) ∨ (w = 1 ∧ YmQ G r) ∨ (w = 2 ∧ CtQ (PrG G) r) ∨ (w = 3 ∧ ClQ G r) ∨ (¬ (w = 0 ∨ w = 1 ∨ w = 2 ∨ w = 3) ∧ r = -1)
theorem sh_fn {G : Mem} {w r r' : Int} (h : ShP G w r) (h' : ShP G w r') : r = r' := by
  rcases h with ⟨a, b⟩ | ⟨a, b⟩ | ⟨a, b⟩ | ⟨a, b⟩ | ⟨a, b⟩ <;> rcases h' with ⟨a', b'⟩ | ⟨a', b'⟩ | ⟨a', b'⟩ | ⟨a', b'⟩ | ⟨a', b'⟩ <;> first | exact ln_fn b b' | exact ymq_fn b b' | exact cq_fn b b' | exact clq_fn b b' | omega
theorem ff_sh {MC MM : Mem} {r r' w : Int32} (h : FF MC MM) (h1 : ShP (FdC MC 1) w.toInt r.toInt) (h2 : ShP (FdR MM 1) w.toInt r'.toInt) : r = r' := by
  rw [h.1.1] at h1
  exact t_of (sh_fn h1 h2)

set_option maxHeartbeats 4000000 in
theorem os_X6_nearest {b : Nat} (hb : isF b) (M : Mem) (v1 : Int32) (hv1 : 0 ≤ v1.toInt ∧ v1.toInt < 40) (hGd : GdF (FdC M b)) : Wp (f_X6_nearest b M v1) (fun q => (NrQ (FdC M b) (ix v1) q.toInt) ∧ (q.toInt = -1 ∨ (0 ≤ q.toInt ∧ q.toInt < 40))) := by
  have hb0 : b = 1 ∨ b = 7 ∨ b = 13 := hb
  refine wp_lp2 (fun y2_4 y3_4 => (0 ≤ y3_4.toInt) ∧ (NsP (FdC M b) (ix v1) (ix y3_4) y2_4.toInt) ∧ (y3_4.toInt ≤ 40) ∧ (y2_4.toInt = -1 ∨ (0 ≤ y2_4.toInt ∧ y2_4.toInt < 40)) ∧ (¬ tld (FdC M b) (ix v1) → y2_4.toInt = -1)) (fun y2_4 y3_4 => (40 - y3_4.toInt).toNat) (fun ag4 y2_4 y3_4 hI4 ih4 => ?_) FU (-1) (nI 0) ⟨(by have f0 := t_lit 0; omega), (by rw [show ix (nI 0) = 0 from (by decide), show (-1 : Int32).toInt = -1 from (by decide)]; exact ns_0), (by decide), (Or.inl (by decide)), (fun _ => by decide)⟩ (fu_lt (by have f0 := t_lit 0; omega))
  obtain ⟨hi4, hn, h40, hb2, hz⟩ := hI4
  refine wp_ite (fun c7 => ?_) (fun c7 => ?_)
  · exact wp_some ⟨⟨fun _ => ⟨ix y3_4, (by have := t_ixn y3_4 (by omega); omega), hn⟩, hz⟩, hb2⟩
  · have u := i_up (x := y3_4) (by omega)
    have i40 := ix40 (v := y3_4) (by omega) (by omega)
    have t3 := t_ixn y3_4 (by omega)
    refine wp_bind2 (o8_X2_isTold hb M v1) (fun r_1 he12 hq12 => ?_)
    obtain ⟨hz_r_1, hr_12, htd_12⟩ := hq12
    replace hr_12 : ¬ r_1.toInt = 0 → 0 ≤ v1.toInt ∧ v1.toInt < 40 := hr_12
    replace htd_12 : TdP r_1.toInt (FdC M b) v1 := htd_12
    refine wp_ite (fun c15 => ?_) (fun c15 => ?_)
    · exact wp_some ⟨⟨fun t => (htd_12.mpr ⟨hv1, t⟩ c15 : False).elim, hz⟩, hb2⟩
    · have t1 := (htd_12.mp c15).2
      refine wp_ite (fun c20 => ?_) (fun c20 => ?_)
      · exact ih4 y2_4 (y3_4 + (nI 1)) ⟨(by have f0 := t_lit 1; have f1 := t_add y3_4 (nI 1); omega), (by rw [u.1]; exact ns_k hn (Or.inl (ixx_of c20))), (by rw [u.2]; omega), (by omega), (fun z => absurd t1 z)⟩ (by have f0 := t_lit 1; have f1 := t_add y3_4 (nI 1); omega)
      · have nij : ¬ ix y3_4 = ix v1 := ix_ne (by omega) hv1.1 c20
        refine wp_gd (by omega) ?_
        refine wp_ite (fun c29 => ?_) (fun c29 => ?_)
        · have nt : ¬ tld (FdC M b) (ix y3_4) := fun z => z (by rw [fdc_4 i40]; exact c29)
          exact ih4 y2_4 (y3_4 + (nI 1)) ⟨(by have f0 := t_lit 1; have f1 := t_add y3_4 (nI 1); omega), (by rw [u.1]; exact ns_k hn (Or.inr nt)), (by rw [u.2]; omega), (by omega), (fun z => absurd t1 z)⟩ (by have f0 := t_lit 1; have f1 := t_add y3_4 (nI 1); omega)
        · have tj : tld (FdC M b) (ix y3_4) := by
            unfold tld
            rw [fdc_4 i40]
            exact c29
          refine wp_ite (fun c34 => ?_) (fun c34 => ?_)
          · exact ih4 y3_4 (y3_4 + (nI 1)) ⟨(by have f0 := t_lit 1; have f1 := t_add y3_4 (nI 1); omega), (by rw [u.1, ← t3]; exact ns_f hn c34 nij tj), (by rw [u.2]; omega), (by omega), (fun z => absurd t1 z)⟩ (by have f0 := t_lit 1; have f1 := t_add y3_4 (nI 1); omega)
          · refine wp_bind2 (o8_X2_squares hb M v1 y3_4) (fun r_2 he40 hq40 => ?_)
            have hsq_40 := hq40
            replace hsq_40 : tld (FdC M b) (ix v1) → tld (FdC M b) (ix y3_4) → 0 ≤ v1.toInt → v1.toInt < 40 → 0 ≤ y3_4.toInt → y3_4.toInt < 40 → r_2 = sqF (FdC M b) (ix v1) (ix y3_4) := hsq_40
            refine wp_bind2 (o8_X2_squares hb M v1 y2_4) (fun r_3 he46 hq46 => ?_)
            have hsq_46 := hq46
            replace hsq_46 : tld (FdC M b) (ix v1) → tld (FdC M b) (ix y2_4) → 0 ≤ v1.toInt → v1.toInt < 40 → 0 ≤ y2_4.toInt → y2_4.toInt < 40 → r_3 = sqF (FdC M b) (ix v1) (ix y2_4) := hsq_46
            obtain ⟨k, k1, k2, k4⟩ := ns_q hn c34
            have t2 := t_ixn y2_4 (by omega)
            have ek : ix y2_4 = k := by omega
            have e2 := hsq_40 t1 tj hv1.1 hv1.2 (by omega) (by omega)
            have e3 := hsq_46 t1 (by rw [ek]; exact k4) hv1.1 hv1.2 (by omega) (by omega)
            refine wp_ite (fun c49 => ?_) (fun c49 => ?_)
            · rw [e2, e3] at c49
              exact ih4 y2_4 (y3_4 + (nI 1)) ⟨(by have f0 := t_lit 1; have f1 := t_add y3_4 (nI 1); omega), (by rw [u.1]; exact ns_s hn t2.symm c49), (by rw [u.2]; omega), (by omega), (fun z => absurd t1 z)⟩ (by have f0 := t_lit 1; have f1 := t_add y3_4 (nI 1); omega)
            · rw [e2, e3] at c49
              exact ih4 y3_4 (y3_4 + (nI 1)) ⟨(by have f0 := t_lit 1; have f1 := t_add y3_4 (nI 1); omega), (by rw [u.1, ← t3]; exact ns_t hn t2.symm nij tj c49), (by rw [u.2]; omega), (by omega), (fun z => absurd t1 z)⟩ (by have f0 := t_lit 1; have f1 := t_add y3_4 (nI 1); omega)
set_option maxHeartbeats 4000000 in
theorem os_X6_pairs {b : Nat} (hb : isF b) (M : Mem) (hGd : GdF (FdC M b)) : Wp (f_X6_pairs b M) (fun q => (CtQ (PrG (FdC M b)) q.toInt)) := by
  have hb0 : b = 1 ∨ b = 7 ∨ b = 13 := hb
  refine wp_lp2 (fun y1_4 y2_4 => (0 ≤ y2_4.toInt) ∧ (CtI (PrG (FdC M b)) (ix y2_4) y1_4.toInt) ∧ (y2_4.toInt ≤ 40) ∧ (0 ≤ y1_4.toInt ∧ y1_4.toInt ≤ y2_4.toInt)) (fun y1_4 y2_4 => (40 - y2_4.toInt).toNat) (fun ag4 y1_4 y2_4 hI4 ih4 => ?_) FU (nI 0) (nI 0) ⟨(by have f0 := t_lit 0; omega), (by rw [show ix (nI 0) = 0 from (by decide)]; exact nI0), (by decide), (by decide)⟩ (fu_lt (by have f0 := t_lit 0; omega))
  obtain ⟨hi4, ct, h40, y1b⟩ := hI4
  refine wp_ite (fun c7 => ?_) (fun c7 => ?_)
  · exact wp_some ⟨ix y2_4, (by have := t_ixn y2_4 (by omega); omega), ct⟩
  · have u := i_up (x := y2_4) (by omega)
    have i40 := ix40 (v := y2_4) (by omega) (by omega)
    have t2 := t_ixn y2_4 (by omega)
    have uc := i_up (x := y1_4) (by omega)
    refine wp_bind2 (os_X6_nearest hb M y2_4 ⟨by omega, by omega⟩ hGd) (fun r_1 he12 hq12 => ?_)
    obtain ⟨hns_12, hrr_12⟩ := hq12
    replace hns_12 : NrQ (FdC M b) (ix y2_4) r_1.toInt := hns_12
    replace hrr_12 : r_1.toInt = -1 ∨ (0 ≤ r_1.toInt ∧ r_1.toInt < 40) := hrr_12
    refine wp_ite (fun c18 => ?_) (fun c18 => ?_)
    · exact ih4 y1_4 (y2_4 + (nI 1)) ⟨(by have f0 := t_lit 1; have f1 := t_add y2_4 (nI 1); omega), (by rw [u.1]; exact ct_n ct (pr_n1 hns_12 (by omega))), (by rw [u.2]; omega), (by rw [u.2]; omega)⟩ (by have f0 := t_lit 1; have f1 := t_add y2_4 (nI 1); omega)
    · have ty : tld (FdC M b) (ix y2_4) := by
        by_cases q : tld (FdC M b) (ix y2_4)
        · exact q
        · exact absurd (hns_12.2 q) (by omega)
      have ns1 := hns_12.1 ty
      obtain ⟨k, k1, k2, k3, k4⟩ := nst_t ns1 (by omega)
      have tr := t_ixn r_1 (by omega)
      have ek : ix r_1 = k := by omega
      refine wp_bind2 (os_X6_nearest hb M r_1 ⟨by omega, by omega⟩ hGd) (fun r_2 he23 hq23 => ?_)
      obtain ⟨hns_23, hrr_23⟩ := hq23
      replace hns_23 : NrQ (FdC M b) (ix r_1) r_2.toInt := hns_23
      replace hrr_23 : r_2.toInt = -1 ∨ (0 ≤ r_2.toInt ∧ r_2.toInt < 40) := hrr_23
      have ns2 := hns_23.1 (by rw [ek]; exact k4)
      rw [ek] at ns2
      refine wp_ite (fun c27 => ?_) (fun c27 => ?_)
      · exact ih4 (y1_4 + (nI 1)) (y2_4 + (nI 1)) ⟨(by have f0 := t_lit 1; have f1 := t_add y2_4 (nI 1); omega), (by rw [u.1]; exact ct_y ct ⟨ty, k, by rw [← k2]; exact ns1, by omega, by rw [t2, ← c27]; exact ns2⟩ uc.2), (by rw [u.2]; omega), (by rw [u.2, uc.2]; omega)⟩ (by have f0 := t_lit 1; have f1 := t_add y2_4 (nI 1); omega)
      · exact ih4 y1_4 (y2_4 + (nI 1)) ⟨(by have f0 := t_lit 1; have f1 := t_add y2_4 (nI 1); omega), (by rw [u.1]; exact ct_n ct (pr_n2 hns_12 (fun o ho => by rw [show o = k from by omega]; exact ns2) (by omega))), (by rw [u.2]; omega), (by rw [u.2]; omega)⟩ (by have f0 := t_lit 1; have f1 := t_add y2_4 (nI 1); omega)
set_option maxHeartbeats 4000000 in
theorem os_X6_closest {b : Nat} (hb : isF b) (M : Mem) (hGd : GdF (FdC M b)) : Wp (f_X6_closest b M) (fun q => (ClQ (FdC M b) q.toInt)) := by
  have hb0 : b = 1 ∨ b = 7 ∨ b = 13 := hb
  refine wp_lp2 (fun y1_5 y2_5 => (0 ≤ y2_5.toInt) ∧ (ClP (FdC M b) (ix y2_5) y1_5.toInt) ∧ (y2_5.toInt ≤ 40)) (fun y1_5 y2_5 => (40 - y2_5.toInt).toNat) (fun ag5 y1_5 y2_5 hI5 ih5 => ?_) FU (-2) (nI 0) ⟨(by have f0 := t_lit 0; omega), (by rw [show ix (nI 0) = 0 from (by decide), show (-2 : Int32).toInt = -2 from (by decide)]; exact cl_0), (by decide)⟩ (fu_lt (by have f0 := t_lit 0; omega))
  obtain ⟨hi5, hm, h40⟩ := hI5
  refine wp_ite (fun c8 => ?_) (fun c8 => ?_)
  · exact wp_some ⟨ix y2_5, (by have := t_ixn y2_5 (by omega); omega), hm⟩
  · have u := i_up (x := y2_5) (by omega)
    have i40 := ix40 (v := y2_5) (by omega) (by omega)
    have t2 := t_ixn y2_5 (by omega)
    refine wp_bind2 (os_X6_nearest hb M y2_5 ⟨by omega, by omega⟩ hGd) (fun r_1 he13 hq13 => ?_)
    obtain ⟨hns_13, hrr_13⟩ := hq13
    replace hns_13 : NrQ (FdC M b) (ix y2_5) r_1.toInt := hns_13
    replace hrr_13 : r_1.toInt = -1 ∨ (0 ≤ r_1.toInt ∧ r_1.toInt < 40) := hrr_13
    refine wp_ite (fun c19 => ?_) (fun c19 => ?_)
    · exact ih5 y1_5 (y2_5 + (nI 1)) ⟨(by have f0 := t_lit 1; have f1 := t_add y2_5 (nI 1); omega), (by rw [u.1]; exact cl_n hm (fun t => by have z := hns_13.1 t; rw [c19] at z; exact z)), (by rw [u.2]; omega)⟩ (by have f0 := t_lit 1; have f1 := t_add y2_5 (nI 1); omega)
    · have ty : tld (FdC M b) (ix y2_5) := by
        by_cases q : tld (FdC M b) (ix y2_5)
        · exact q
        · exact absurd (hns_13.2 q) (by omega)
      have ns1 := hns_13.1 ty
      obtain ⟨k, k1, k2, k3, k4⟩ := nst_t ns1 (by omega)
      have tr := t_ixn r_1 (by omega)
      have ek : ix r_1 = k := by omega
      have ns2 : Nst (FdC M b) (ix y2_5) ((ix r_1 : Nat) : Int) := by
        rw [tr]
        exact ns1
      have tk : tld (FdC M b) (ix r_1) := by
        rw [ek]
        exact k4
      have j38 : (y1_5.toInt = -2 ∨ ¬ y1_5.toInt ≤ sqI (FdC M b) (ix y2_5) (ix r_1)) → Wp (f_X6_closest_L38 b M ag5 y2_5 r_1) (fun q => (ClQ (FdC M b) q.toInt)) := by
        intro h38
        unfold f_X6_closest_L38
        refine wp_bind2 (o8_X2_squares hb M y2_5 r_1) (fun r_2 he41 hq41 => ?_)
        have hsq_41 := hq41
        replace hsq_41 : tld (FdC M b) (ix y2_5) → tld (FdC M b) (ix r_1) → 0 ≤ y2_5.toInt → y2_5.toInt < 40 → 0 ≤ r_1.toInt → r_1.toInt < 40 → r_2 = sqF (FdC M b) (ix y2_5) (ix r_1) := hsq_41
        have e41 := hsq_41 ty tk (by omega) (by omega) (by omega) (by omega)
        exact ih5 r_2 (y2_5 + (nI 1)) ⟨(by have f0 := t_lit 1; have f1 := t_add y2_5 (nI 1); omega), (by rw [u.1]; exact cl_t hm ty ns2 h38 (by rw [e41]; rfl) (by rw [e41]; exact sqi_b hGd i40 (by omega) ty tk)), (by rw [u.2]; omega)⟩ (by have f0 := t_lit 1; have f1 := t_add y2_5 (nI 1); omega)
      refine wp_ite (fun c25 => ?_) (fun c25 => ?_)
      · exact j38 (Or.inl c25)
      · refine wp_bind2 (o8_X2_squares hb M y2_5 r_1) (fun r_3 he31 hq31 => ?_)
        have hsq_31 := hq31
        replace hsq_31 : tld (FdC M b) (ix y2_5) → tld (FdC M b) (ix r_1) → 0 ≤ y2_5.toInt → y2_5.toInt < 40 → 0 ≤ r_1.toInt → r_1.toInt < 40 → r_3 = sqF (FdC M b) (ix y2_5) (ix r_1) := hsq_31
        have e31 := hsq_31 ty tk (by omega) (by omega) (by omega) (by omega)
        refine wp_ite (fun c35 => ?_) (fun c35 => ?_)
        · rw [e31] at c35
          exact ih5 y1_5 (y2_5 + (nI 1)) ⟨(by have f0 := t_lit 1; have f1 := t_add y2_5 (nI 1); omega), (by rw [u.1]; exact cl_s hm ns2 c25 c35), (by rw [u.2]; omega)⟩ (by have f0 := t_lit 1; have f1 := t_add y2_5 (nI 1); omega)
        · rw [e31] at c35
          exact j38 (Or.inr c35)
set_option maxHeartbeats 4000000 in
theorem os_X6_yardApart {b : Nat} (hb : isF b) (M : Mem) (hGd : GdF (FdC M b)) : Wp (f_X6_yardApart b M) (fun q => (YmQ (FdC M b) q.toInt)) := by
  have hb0 : b = 1 ∨ b = 7 ∨ b = 13 := hb
  refine wp_lp2 (fun y1_4 y2_4 => (0 ≤ y2_4.toInt) ∧ (YmP (FdC M b) (ix y2_4) y1_4.toInt) ∧ (y2_4.toInt ≤ 40)) (fun y1_4 y2_4 => (40 - y2_4.toInt).toNat) (fun ag4 y1_4 y2_4 hI4 ih4 => ?_) FU (nI 0) (nI 0) ⟨(by have f0 := t_lit 0; omega), (by rw [show ix (nI 0) = 0 from (by decide), nI0]; exact ym_0), (by decide)⟩ (fu_lt (by have f0 := t_lit 0; omega))
  obtain ⟨hi4, hm, h40⟩ := hI4
  refine wp_ite (fun c7 => ?_) (fun c7 => ?_)
  · exact wp_some ⟨ix y2_4, (by have := t_ixn y2_4 (by omega); omega), hm⟩
  · have u := i_up (x := y2_4) (by omega)
    have i40 := ix40 (v := y2_4) (by omega) (by omega)
    have t2 := t_ixn y2_4 (by omega)
    refine wp_gd (by omega) ?_
    refine wp_ite (fun c16 => ?_) (fun c16 => ?_)
    · have nt : ¬ tld (FdC M b) (ix y2_4) := fun z => z (by rw [fdc_4 i40]; exact c16)
      exact ih4 y1_4 (y2_4 + (nI 1)) ⟨(by have f0 := t_lit 1; have f1 := t_add y2_4 (nI 1); omega), (by rw [u.1]; exact ym_n hm nt), (by rw [u.2]; omega)⟩ (by have f0 := t_lit 1; have f1 := t_add y2_4 (nI 1); omega)
    · have tj : tld (FdC M b) (ix y2_4) := by
        unfold tld
        rw [fdc_4 i40]
        exact c16
      have yb := (hGd.2.2 _ i40 tj).2.1
      refine wp_lp1 (fun y3_21 => (1 ≤ y3_21.toInt) ∧ (RuQ (FdC M b) (ix y2_4) (ix y3_21)) ∧ (1 ≤ y3_21.toInt ∧ y3_21.toInt ≤ 20)) (fun y3_21 => (20 - y3_21.toInt).toNat) (fun ag21 y3_21 hI21 ih21 => ?_) FU (nI 1) ⟨(by have f0 := t_lit 1; omega), (by rw [show ix (nI 1) = 1 from (by decide)]; exact rq_1 hGd i40 tj), (by decide)⟩ (fu_lt (by have f0 := t_lit 1; omega))
      obtain ⟨hi21, rq, h3⟩ := hI21
      have t3 := t_ixn y3_21 (by omega)
      have j55 : (RuP (FdC M b) ((FdC M b) 1 (ix y2_4)).toInt ((FdC M b) 2 (ix y2_4)).toInt (ix y3_21)) → Wp (f_X6_yardApart_L55 ag4 y1_4 y2_4 y3_21) (fun q => (YmQ (FdC M b) q.toInt)) := by
        intro h55
        unfold f_X6_yardApart_L55
        refine wp_bnd (fun x_1 ex_1 => ?_)
        exact ih4 x_1 (y2_4 + (nI 1)) ⟨(by have f0 := t_lit 1; have f1 := t_add y2_4 (nI 1); omega), (by rw [u.1, ex_1]; exact ym_y hm tj h55 (by rw [t_mx, t3])), (by rw [u.2]; omega)⟩ (by have f0 := t_lit 1; have f1 := t_add y2_4 (nI 1); omega)
      refine wp_ite (fun c24 => ?_) (fun c24 => ?_)
      · exact j55 ⟨rq, sta_hi hGd (by omega)⟩
      · have u3 := i_up (x := y3_21) (by omega)
        refine wp_gd (by omega) ?_
        refine wp_gd (by omega) ?_
        refine wp_bind2 (o8_X2_stoneAt hb M (M (b + 1) (ix y2_4)) ((M (b + 2) (ix y2_4)) + y3_21)) (fun r_2 he42 hq42 => ?_)
        have hsa_42 := hq42
        replace hsa_42 : r_2 = stA (FdC M b) (M (b + 1) (ix y2_4)).toInt ((M (b + 2) (ix y2_4)) + y3_21).toInt 40 0 := hsa_42
        have e9 : ((M (b + 2) (ix y2_4)) + y3_21).toInt = ((FdC M b) 2 (ix y2_4)).toInt + ((ix y3_21 : Nat) : Int) := by
          rw [← fdc_at (a := 2) i40 (by omega) tj, t3]
          have f := t_add ((FdC M b) 2 (ix y2_4)) y3_21
          omega
        rw [e9, ← fdc_at (a := 1) i40 (by omega) tj] at hsa_42
        refine wp_ite (fun c46 => ?_) (fun c46 => ?_)
        · exact j55 ⟨rq, t_of (by rw [← hsa_42, c46]; decide)⟩
        · exact ih21 (y3_21 + (nI 1)) ⟨(by have f0 := t_lit 1; have f1 := t_add y3_21 (nI 1); omega), (by rw [u3.1]; exact rq_s rq rfl (fun z => c46 (by rw [hsa_42, z]; decide))), (by rw [u3.2]; omega)⟩ (by have f0 := t_lit 1; have f1 := t_add y3_21 (nI 1); omega)
set_option maxHeartbeats 4000000 in
theorem os_X6_countOnLine {b : Nat} (hb : isF b) (M : Mem) (v1 : Int32) (v2 : Int32) (hv1 : 0 ≤ v1.toInt ∧ v1.toInt < 40) (hv2 : 0 ≤ v2.toInt ∧ v2.toInt < 40) (hGd : GdF (FdC M b)) (ht1 : tld (FdC M b) (ix v1)) (ht2 : tld (FdC M b) (ix v2)) : Wp (f_X6_countOnLine b M v1 v2) (fun q => (CtQ (OnL (FdC M b) (ix v1) (ix v2)) q.toInt)) := by
  have hb0 : b = 1 ∨ b = 7 ∨ b = 13 := hb
  refine wp_bind2 (o8_X2_isTold hb M v1) (fun r_1 he2 hq2 => ?_)
  obtain ⟨hz_r_1, hr_2, htd_2⟩ := hq2
  replace hr_2 : ¬ r_1.toInt = 0 → 0 ≤ v1.toInt ∧ v1.toInt < 40 := hr_2
  replace htd_2 : TdP r_1.toInt (FdC M b) v1 := htd_2
  refine wp_ite (fun c5 => ?_) (fun c5 => ?_)
  · exact wp_some (htd_2.mpr ⟨hv1, ht1⟩ c5 : False).elim
  · refine wp_bind2 (o8_X2_isTold hb M v2) (fun r_2 he10 hq10 => ?_)
    obtain ⟨hz_r_2, hr_10, htd_10⟩ := hq10
    replace hr_10 : ¬ r_2.toInt = 0 → 0 ≤ v2.toInt ∧ v2.toInt < 40 := hr_10
    replace htd_10 : TdP r_2.toInt (FdC M b) v2 := htd_10
    refine wp_ite (fun c13 => ?_) (fun c13 => ?_)
    · exact wp_some (htd_10.mpr ⟨hv2, ht2⟩ c13 : False).elim
    · refine wp_gd (by omega) ?_
      refine wp_gd (by omega) ?_
      refine wp_bnd (fun x_3 ex_3 => ?_)
      have i1 := ix40 hv1.1 hv1.2
      have i2 := ix40 hv2.1 hv2.2
      have b1 := hGd.2.2 _ i1 ht1
      have b2 := hGd.2.2 _ i2 ht2
      have q3 : ((M (b + 1) (ix v2)) - (M (b + 1) (ix v1))).toInt = ((FdC M b) 1 (ix v2)).toInt - ((FdC M b) 1 (ix v1)).toInt := by
        rw [← fdc_at (a := 1) i2 (by omega) ht2, ← fdc_at (a := 1) i1 (by omega) ht1]
        have f := t_sub ((FdC M b) 1 (ix v2)) ((FdC M b) 1 (ix v1))
        omega
      rw [← ex_3] at q3
      refine wp_gd (by omega) ?_
      refine wp_gd (by omega) ?_
      refine wp_bnd (fun x_4 ex_4 => ?_)
      have q4 : ((M (b + 2) (ix v2)) - (M (b + 2) (ix v1))).toInt = ((FdC M b) 2 (ix v2)).toInt - ((FdC M b) 2 (ix v1)).toInt := by
        rw [← fdc_at (a := 2) i2 (by omega) ht2, ← fdc_at (a := 2) i1 (by omega) ht1]
        have f := t_sub ((FdC M b) 2 (ix v2)) ((FdC M b) 2 (ix v1))
        omega
      rw [← ex_4] at q4
      refine wp_lp2 (fun y5_53 y6_53 => (0 ≤ y6_53.toInt) ∧ (CtI (OnL (FdC M b) (ix v1) (ix v2)) (ix y6_53) y5_53.toInt) ∧ (y6_53.toInt ≤ 40) ∧ (0 ≤ y5_53.toInt ∧ y5_53.toInt ≤ y6_53.toInt)) (fun y5_53 y6_53 => (40 - y6_53.toInt).toNat) (fun ag53 y5_53 y6_53 hI53 ih53 => ?_) FU (nI 0) (nI 0) ⟨(by have f0 := t_lit 0; omega), (by rw [show ix (nI 0) = 0 from (by decide)]; exact nI0), (by decide), (by decide)⟩ (fu_lt (by have f0 := t_lit 0; omega))
      obtain ⟨hi53, ct, h40, y5b⟩ := hI53
      refine wp_ite (fun c57 => ?_) (fun c57 => ?_)
      · exact wp_some ⟨ix y6_53, (by have := t_ixn y6_53 (by omega); omega), ct⟩
      · have u := i_up (x := y6_53) (by omega)
        have uc := i_up (x := y5_53) (by omega)
        have i40 := ix40 (v := y6_53) (by omega) (by omega)
        refine wp_gd (by omega) ?_
        refine wp_ite (fun c67 => ?_) (fun c67 => ?_)
        · have nt : ¬ tld (FdC M b) (ix y6_53) := fun z => z (by rw [fdc_4 i40]; exact c67)
          exact ih53 y5_53 (y6_53 + (nI 1)) ⟨(by have f0 := t_lit 1; have f1 := t_add y6_53 (nI 1); omega), (by rw [u.1]; exact ct_n ct (fun z => nt z.1)), (by rw [u.2]; omega), (by rw [u.2]; omega)⟩ (by have f0 := t_lit 1; have f1 := t_add y6_53 (nI 1); omega)
        · have tj : tld (FdC M b) (ix y6_53) := by
            unfold tld
            rw [fdc_4 i40]
            exact c67
          have b3 := hGd.2.2 _ i40 tj
          have q5 : ((M (b + 2) (ix y6_53)) - (M (b + 2) (ix v1))).toInt = ((FdC M b) 2 (ix y6_53)).toInt - ((FdC M b) 2 (ix v1)).toInt := by
            rw [← fdc_at (a := 2) i40 (by omega) tj, ← fdc_at (a := 2) i1 (by omega) ht1]
            have f := t_sub ((FdC M b) 2 (ix y6_53)) ((FdC M b) 2 (ix v1))
            omega
          have q6 : ((M (b + 1) (ix y6_53)) - (M (b + 1) (ix v1))).toInt = ((FdC M b) 1 (ix y6_53)).toInt - ((FdC M b) 1 (ix v1)).toInt := by
            rw [← fdc_at (a := 1) i40 (by omega) tj, ← fdc_at (a := 1) i1 (by omega) ht1]
            have f := t_sub ((FdC M b) 1 (ix y6_53)) ((FdC M b) 1 (ix v1))
            omega
          have m1 := t_m9 (x := x_3) (y := M (b + 2) (ix y6_53) - M (b + 2) (ix v1)) (by omega) (by omega)
          have m2 := t_m9 (x := x_4) (y := M (b + 1) (ix y6_53) - M (b + 1) (ix v1)) (by omega) (by omega)
          rw [q3, q5] at m1
          rw [q4, q6] at m2
          refine wp_gd (by omega) ?_
          refine wp_gd (by omega) ?_
          refine wp_gd (by omega) ?_
          refine wp_gd (by omega) ?_
          refine wp_ite (fun c103 => ?_) (fun c103 => ?_)
          · rw [m1, m2] at c103
            exact ih53 (y5_53 + (nI 1)) (y6_53 + (nI 1)) ⟨(by have f0 := t_lit 1; have f1 := t_add y6_53 (nI 1); have f2 := t_sub (M (b + 2) (ix y6_53)) (M (b + 2) (ix v1)); have f3 := t_sub (M (b + 1) (ix v2)) (M (b + 1) (ix v1)); have f4 := congrArg Int32.toInt ex_3; have f5 := t_sub (M (b + 1) (ix y6_53)) (M (b + 1) (ix v1)); have f6 := t_sub (M (b + 2) (ix v2)) (M (b + 2) (ix v1)); have f7 := congrArg Int32.toInt ex_4; omega), (by rw [u.1]; exact ct_y ct ⟨tj, c103⟩ uc.2), (by rw [u.2]; omega), (by rw [u.2, uc.2]; omega)⟩ (by have f0 := t_lit 1; have f1 := t_add y6_53 (nI 1); have f2 := t_sub (M (b + 2) (ix y6_53)) (M (b + 2) (ix v1)); have f3 := t_sub (M (b + 1) (ix v2)) (M (b + 1) (ix v1)); have f4 := congrArg Int32.toInt ex_3; have f5 := t_sub (M (b + 1) (ix y6_53)) (M (b + 1) (ix v1)); have f6 := t_sub (M (b + 2) (ix v2)) (M (b + 2) (ix v1)); have f7 := congrArg Int32.toInt ex_4; omega)
          · rw [m1, m2] at c103
            exact ih53 y5_53 (y6_53 + (nI 1)) ⟨(by have f0 := t_lit 1; have f1 := t_add y6_53 (nI 1); have f2 := t_sub (M (b + 2) (ix y6_53)) (M (b + 2) (ix v1)); have f3 := t_sub (M (b + 1) (ix v2)) (M (b + 1) (ix v1)); have f4 := congrArg Int32.toInt ex_3; have f5 := t_sub (M (b + 1) (ix y6_53)) (M (b + 1) (ix v1)); have f6 := t_sub (M (b + 2) (ix v2)) (M (b + 2) (ix v1)); have f7 := congrArg Int32.toInt ex_4; omega), (by rw [u.1]; exact ct_n ct (fun z => c103 z.2)), (by rw [u.2]; omega), (by rw [u.2]; omega)⟩ (by have f0 := t_lit 1; have f1 := t_add y6_53 (nI 1); have f2 := t_sub (M (b + 2) (ix y6_53)) (M (b + 2) (ix v1)); have f3 := t_sub (M (b + 1) (ix v2)) (M (b + 1) (ix v1)); have f4 := congrArg Int32.toInt ex_3; have f5 := t_sub (M (b + 1) (ix y6_53)) (M (b + 1) (ix v1)); have f6 := t_sub (M (b + 2) (ix v2)) (M (b + 2) (ix v1)); have f7 := congrArg Int32.toInt ex_4; omega)
set_option maxHeartbeats 4000000 in
theorem os_X6_line {b : Nat} (hb : isF b) (M : Mem) (hGd : GdF (FdC M b)) : Wp (f_X6_line b M) (fun q => (LnP (FdC M b) q.toInt)) := by
  have hb0 : b = 1 ∨ b = 7 ∨ b = 13 := hb
  refine wp_bind2 (o9_X2_countTold hb M hGd.1.1) (fun r_1 he2 hq2 => ?_)
  have hsm_2 := hq2
  replace hsm_2 : r_1 = smT 4 (FdC M b) 40 := hsm_2
  refine wp_bnd (fun x_2 ex_2 => ?_)
  refine wp_lp2 (fun y1_11 y2_11 => (0 ≤ y2_11.toInt) ∧ (MxP (fun i _ => i < ix y2_11) (FdC M b) (min 2 (smT 4 (FdC M b) 40).toInt) y1_11.toInt) ∧ (y2_11.toInt ≤ 40)) (fun y1_11 y2_11 => (40 - y2_11.toInt).toNat) (fun ag11 y1_11 y2_11 hI11 ih11 => ?_) FU x_2 (nI 0) ⟨(by have f0 := t_lit 0; omega), (by rw [ex_2, t_mn, hsm_2, show (nI 2).toInt = 2 from (by decide), show ix (nI 0) = 0 from (by decide)]; exact mp_0 (fun i j p _ _ => absurd p (Nat.not_lt_zero _))), (by decide)⟩ (fu_lt (by have f0 := t_lit 0; omega))
  obtain ⟨hi11, hm, h40⟩ := hI11
  refine wp_ite (fun c14 => ?_) (fun c14 => ?_)
  · exact wp_some ⟨_, rfl, mp_k hm (fun i j _ h1 h2 _ _ => by have := t_ixn y2_11 (by omega); omega)⟩
  · have u := i_up (x := y2_11) (by omega)
    have iy := ix40 (v := y2_11) (by omega) (by omega)
    have ty2 := t_ixn y2_11 (by omega)
    refine wp_lp2 (fun y1_21 y3_21 => ((y2_11 + (nI 1)).toInt ≤ y3_21.toInt) ∧ (MxP (fun i j => i < ix y2_11 ∨ (i = ix y2_11 ∧ j < ix y3_21)) (FdC M b) (min 2 (smT 4 (FdC M b) 40).toInt) y1_21.toInt) ∧ (y3_21.toInt ≤ 40) ∧ (y2_11.toInt < y3_21.toInt)) (fun y1_21 y3_21 => (40 - y3_21.toInt).toNat) (fun ag21 y1_21 y3_21 hI21 ih21 => ?_) FU y1_11 (y2_11 + (nI 1)) ⟨(by have f0 := t_lit 1; have f1 := t_add y2_11 (nI 1); omega), (mp_k hm (fun i j p h1 h2 _ _ => p.elim id (fun q => by have q2 := q.2; rw [u.1] at q2; omega))), (by rw [u.2]; omega), (by rw [u.2]; omega)⟩ (fu_lt (by have f0 := t_lit 1; have f1 := t_add y2_11 (nI 1); omega))
    obtain ⟨hi21, hx, h40b, hlt⟩ := hI21
    have t3 := t_ixn y3_21 (by omega)
    refine wp_ite (fun c24 => ?_) (fun c24 => ?_)
    · exact ih11 y1_21 (y2_11 + (nI 1)) ⟨(by have f0 := t_lit 1; have f1 := t_add y2_11 (nI 1); omega), (mp_k hx (fun i j p h1 h2 _ _ => by rw [u.1] at p; by_cases w : i = ix y2_11; (exact Or.inr ⟨w, by omega⟩); (exact Or.inl (by omega)))), (by rw [u.2]; omega)⟩ (by have f0 := t_lit 1; have f1 := t_add y2_11 (nI 1); omega)
    · have u3 := i_up (x := y3_21) (by omega)
      have i40 := ix40 (v := y3_21) (by omega) (by omega)
      refine wp_gd (by omega) ?_
      refine wp_ite (fun c33 => ?_) (fun c33 => ?_)
      · have nt : ¬ tld (FdC M b) (ix y2_11) := fun z => z (by rw [fdc_4 iy]; exact c33)
        exact ih21 y1_21 (y3_21 + (nI 1)) ⟨(by have f0 := t_lit 1; have f1 := t_add y3_21 (nI 1); omega), (mp_k hx (fun i j p h1 h2 ti tj => p.elim Or.inl (fun q => by rw [q.1] at ti; exact absurd ti nt))), (by rw [u3.2]; omega), (by rw [u3.2]; omega)⟩ (by have f0 := t_lit 1; have f1 := t_add y3_21 (nI 1); omega)
      · have ty : tld (FdC M b) (ix y2_11) := by
          unfold tld
          rw [fdc_4 iy]
          exact c33
        refine wp_gd (by omega) ?_
        refine wp_ite (fun c42 => ?_) (fun c42 => ?_)
        · have nz : ¬ tld (FdC M b) (ix y3_21) := fun z => z (by rw [fdc_4 i40]; exact c42)
          exact ih21 y1_21 (y3_21 + (nI 1)) ⟨(by have f0 := t_lit 1; have f1 := t_add y3_21 (nI 1); omega), (mp_k hx (fun i j p h1 h2 ti tj => p.elim Or.inl (fun q => by have q2 := q.2; rw [u3.1] at q2; by_cases w : j = ix y3_21; (rw [w] at tj; exact absurd tj nz); (exact Or.inr ⟨q.1, by omega⟩)))), (by rw [u3.2]; omega), (by rw [u3.2]; omega)⟩ (by have f0 := t_lit 1; have f1 := t_add y3_21 (nI 1); omega)
        · have tz : tld (FdC M b) (ix y3_21) := by
            unfold tld
            rw [fdc_4 i40]
            exact c42
          refine wp_bind2 (os_X6_countOnLine hb M y2_11 y3_21 ⟨by omega, by omega⟩ ⟨by omega, by omega⟩ hGd ty tz) (fun r_3 he49 hq49 => ?_)
          have hq_49 := hq49
          replace hq_49 : CtQ (OnL (FdC M b) (ix y2_11) (ix y3_21)) r_3.toInt := hq_49
          refine wp_bnd (fun x_4 ex_4 => ?_)
          exact ih21 x_4 (y3_21 + (nI 1)) ⟨(by have f0 := t_lit 1; have f1 := t_add y3_21 (nI 1); omega), (mp_s hx ⟨by omega, by omega⟩ ty tz hq_49 (by rw [ex_4, t_mx]) (fun i j p h1 h2 => p.elim (fun q => Or.inl (Or.inl q)) (fun q => by have q2 := q.2; rw [u3.1] at q2; by_cases w : j = ix y3_21; (exact Or.inr ⟨q.1, w⟩); (exact Or.inl (Or.inr ⟨q.1, by omega⟩))))), (by rw [u3.2]; omega), (by rw [u3.2]; omega)⟩ (by have f0 := t_lit 1; have f1 := t_add y3_21 (nI 1); omega)
theorem os_X9_shape (M : Mem) (v1 : Int32) (hGd : GdF (FdC M 1)) : Wp (f_X9_shape M v1) (fun q => (ShP (FdC M 1) v1.toInt q.toInt)) := by
  refine wp_ite (fun c1 => ?_) (fun c1 => ?_)
  · refine wp_bind2 (os_X6_line (Or.inl rfl) M hGd) (fun r_1 he36 hq36 => ?_)
    have hq_36 := hq36
    replace hq_36 : LnP (FdC M 1) r_1.toInt := hq_36
    exact wp_some (Or.inl ⟨c1, hq_36⟩)
  · refine wp_ite (fun c1 => ?_) (fun c1 => ?_)
    · refine wp_bind2 (os_X6_yardApart (Or.inl rfl) M hGd) (fun r_2 he44 hq44 => ?_)
      have hq_44 := hq44
      replace hq_44 : YmQ (FdC M 1) r_2.toInt := hq_44
      exact wp_some (Or.inr (Or.inl ⟨by omega, hq_44⟩))
    · refine wp_ite (fun c2 => ?_) (fun c2 => ?_)
      · refine wp_bind2 (os_X6_pairs (Or.inl rfl) M hGd) (fun r_3 he52 hq52 => ?_)
        have hq_52 := hq52
        replace hq_52 : CtQ (PrG (FdC M 1)) r_3.toInt := hq_52
        exact wp_some (Or.inr (Or.inr (Or.inl ⟨by omega, hq_52⟩)))
      · refine wp_ite (fun c3 => ?_) (fun c3 => ?_)
        · refine wp_bind2 (os_X6_closest (Or.inl rfl) M hGd) (fun r_4 he60 hq60 => ?_)
          have hq_60 := hq60
          replace hq_60 : ClQ (FdC M 1) r_4.toInt := hq_60
          exact wp_some (Or.inr (Or.inr (Or.inr (Or.inl ⟨by omega, hq_60⟩))))
        · exact wp_some (Or.inr (Or.inr (Or.inr (Or.inr ⟨by omega, by decide⟩))))
set_option maxHeartbeats 4000000 in
theorem os_X10_nearestTo (M : Mem) (v1 : Int32) (hv1 : 0 ≤ v1.toInt ∧ v1.toInt < 40) (hGd : GdF (FdR M 1)) (ht : tld (FdR M 1) (ix v1)) : Wp (f_X10_nearestTo M v1) (fun q => (Nst (FdR M 1) (ix v1) q.toInt) ∧ (q.toInt = -1 ∨ (0 ≤ q.toInt ∧ q.toInt < 40))) := by
  refine wp_lp2 (fun y2_4 y3_4 => (0 ≤ y3_4.toInt) ∧ (NsP (FdR M 1) (ix v1) (ix y3_4) y2_4.toInt) ∧ (y3_4.toInt ≤ 40) ∧ (y2_4.toInt = -1 ∨ (0 ≤ y2_4.toInt ∧ y2_4.toInt < 40))) (fun y2_4 y3_4 => (40 - y3_4.toInt).toNat) (fun ag4 y2_4 y3_4 hI4 ih4 => ?_) FU (-1) (nI 0) ⟨(by have f0 := t_lit 0; omega), (by rw [show ix (nI 0) = 0 from (by decide), show (-1 : Int32).toInt = -1 from (by decide)]; exact ns_0), (by decide), (Or.inl (by decide))⟩ (fu_lt (by have f0 := t_lit 0; omega))
  obtain ⟨hi4, hn, h40, hb2⟩ := hI4
  refine wp_ite (fun c7 => ?_) (fun c7 => ?_)
  · exact wp_some ⟨⟨ix y3_4, (by have := t_ixn y3_4 (by omega); omega), hn⟩, hb2⟩
  · have u := up40 hi4 c7
    have t3 := t_ixn y3_4 (by omega)
    refine wp_ite (fun c12 => ?_) (fun c12 => ?_)
    · exact ih4 y2_4 (y3_4 + (nI 1)) ⟨(by have f0 := t_lit 1; have f1 := t_add y3_4 (nI 1); omega), (by rw [u.1]; exact ns_k hn (Or.inl (ixx_of c12))), (le40 hi4 c7), hb2⟩ (by have f0 := t_lit 1; have f1 := t_add y3_4 (nI 1); omega)
    · have nij : ¬ ix y3_4 = ix v1 := ix_ne (by omega) hv1.1 c12
      refine wp_bind2 (o8_X10_isStone M y3_4 hGd.1.1) (fun r_1 he17 hq17 => ?_)
      obtain ⟨hz_r_1, hr_17, htd_17⟩ := hq17
      replace hr_17 : ¬ r_1.toInt = 0 → (0 ≤ y3_4.toInt ∧ y3_4.toInt < 40) ∧ (M 1 (ix y3_4)).toInt = 1 := hr_17
      replace htd_17 : TdP r_1.toInt (FdR M 1) y3_4 := htd_17
      refine wp_ite (fun c20 => ?_) (fun c20 => ?_)
      · have nt : ¬ tld (FdR M 1) (ix y3_4) := fun z => htd_17.mpr ⟨⟨hi4, u.2.2⟩, z⟩ c20
        exact ih4 y2_4 (y3_4 + (nI 1)) ⟨(by have f0 := t_lit 1; have f1 := t_add y3_4 (nI 1); omega), (by rw [u.1]; exact ns_k hn (Or.inr nt)), (le40 hi4 c7), hb2⟩ (by have f0 := t_lit 1; have f1 := t_add y3_4 (nI 1); omega)
      · have tj := (htd_17.mp c20).2
        refine wp_ite (fun c25 => ?_) (fun c25 => ?_)
        · exact ih4 y3_4 (y3_4 + (nI 1)) ⟨(by have f0 := t_lit 1; have f1 := t_add y3_4 (nI 1); omega), (by rw [u.1, ← t3]; exact ns_f hn c25 nij tj), (le40 hi4 c7), (Or.inr ⟨by omega, by omega⟩)⟩ (by have f0 := t_lit 1; have f1 := t_add y3_4 (nI 1); omega)
        · refine wp_bind2 (o8_X10_apart M v1 y3_4 hv1 ⟨hi4, u.2.2⟩) (fun r_2 he31 hq31 => ?_)
          have hsq_31 := hq31
          replace hsq_31 : tld (FdR M 1) (ix v1) → tld (FdR M 1) (ix y3_4) → r_2 = sqF (FdR M 1) (ix v1) (ix y3_4) := hsq_31
          refine wp_bind2 (o8_X10_apart M v1 y2_4 hv1 ⟨by omega, by omega⟩) (fun r_3 he37 hq37 => ?_)
          have hsq_37 := hq37
          replace hsq_37 : tld (FdR M 1) (ix v1) → tld (FdR M 1) (ix y2_4) → r_3 = sqF (FdR M 1) (ix v1) (ix y2_4) := hsq_37
          obtain ⟨k, k1, k2, k4⟩ := ns_q hn c25
          have t2 := t_ixn y2_4 (by omega)
          have ek : ix y2_4 = k := by omega
          have e2 := hsq_31 ht tj
          have e3 := hsq_37 ht (by rw [ek]; exact k4)
          refine wp_ite (fun c40 => ?_) (fun c40 => ?_)
          · rw [e2, e3] at c40
            exact ih4 y2_4 (y3_4 + (nI 1)) ⟨(by have f0 := t_lit 1; have f1 := t_add y3_4 (nI 1); omega), (by rw [u.1]; exact ns_s hn t2.symm c40), (le40 hi4 c7), hb2⟩ (by have f0 := t_lit 1; have f1 := t_add y3_4 (nI 1); omega)
          · rw [e2, e3] at c40
            exact ih4 y3_4 (y3_4 + (nI 1)) ⟨(by have f0 := t_lit 1; have f1 := t_add y3_4 (nI 1); omega), (by rw [u.1, ← t3]; exact ns_t hn t2.symm nij tj c40), (le40 hi4 c7), (Or.inr ⟨by omega, by omega⟩)⟩ (by have f0 := t_lit 1; have f1 := t_add y3_4 (nI 1); omega)
set_option maxHeartbeats 4000000 in
theorem os_X10_pairsOf (M : Mem) (hGd : GdF (FdR M 1)) : Wp (f_X10_pairsOf M) (fun q => (CtQ (PrG (FdR M 1)) q.toInt)) := by
  refine wp_lp2 (fun y1_4 y2_4 => (0 ≤ y2_4.toInt) ∧ (CtI (PrG (FdR M 1)) (ix y2_4) y1_4.toInt) ∧ (y2_4.toInt ≤ 40) ∧ (0 ≤ y1_4.toInt ∧ y1_4.toInt ≤ y2_4.toInt)) (fun y1_4 y2_4 => (40 - y2_4.toInt).toNat) (fun ag4 y1_4 y2_4 hI4 ih4 => ?_) FU (nI 0) (nI 0) ⟨(by have f0 := t_lit 0; omega), (by rw [show ix (nI 0) = 0 from (by decide)]; exact nI0), (by decide), (by decide)⟩ (fu_lt (by have f0 := t_lit 0; omega))
  obtain ⟨hi4, ct, h40, y1b⟩ := hI4
  refine wp_ite (fun c7 => ?_) (fun c7 => ?_)
  · exact wp_some ⟨ix y2_4, (by have := t_ixn y2_4 (by omega); omega), ct⟩
  · have u := up40 hi4 c7
    have u9 := i_up (x := y2_4) (by omega)
    have t2 := t_ixn y2_4 (by omega)
    have uc := i_up (x := y1_4) (by omega)
    refine wp_bind2 (o8_X10_isStone M y2_4 hGd.1.1) (fun r_1 he12 hq12 => ?_)
    obtain ⟨hz_r_1, hr_12, htd_12⟩ := hq12
    replace hr_12 : ¬ r_1.toInt = 0 → (0 ≤ y2_4.toInt ∧ y2_4.toInt < 40) ∧ (M 1 (ix y2_4)).toInt = 1 := hr_12
    replace htd_12 : TdP r_1.toInt (FdR M 1) y2_4 := htd_12
    refine wp_ite (fun c15 => ?_) (fun c15 => ?_)
    · have nt : ¬ tld (FdR M 1) (ix y2_4) := fun z => htd_12.mpr ⟨⟨hi4, u.2.2⟩, z⟩ c15
      exact ih4 y1_4 (y2_4 + (nI 1)) ⟨(by have f0 := t_lit 1; have f1 := t_add y2_4 (nI 1); omega), (by rw [u.1]; exact ct_n ct (fun z => nt z.1)), (le40 hi4 c7), (by rw [u9.2]; omega)⟩ (by have f0 := t_lit 1; have f1 := t_add y2_4 (nI 1); omega)
    · have ty := (htd_12.mp c15).2
      refine wp_bind2 (os_X10_nearestTo M y2_4 ⟨hi4, u.2.2⟩ hGd ty) (fun r_2 he23 hq23 => ?_)
      obtain ⟨hns_23, hrr_23⟩ := hq23
      replace hns_23 : Nst (FdR M 1) (ix y2_4) r_2.toInt := hns_23
      replace hrr_23 : r_2.toInt = -1 ∨ (0 ≤ r_2.toInt ∧ r_2.toInt < 40) := hrr_23
      have nq : NrQ (FdR M 1) (ix y2_4) r_2.toInt := ⟨fun _ => hns_23, fun z => absurd ty z⟩
      refine wp_ite (fun c29 => ?_) (fun c29 => ?_)
      · exact ih4 y1_4 (y2_4 + (nI 1)) ⟨(by have f0 := t_lit 1; have f1 := t_add y2_4 (nI 1); omega), (by rw [u.1]; exact ct_n ct (pr_n1 nq (by omega))), (le40 hi4 c7), (by rw [u9.2]; omega)⟩ (by have f0 := t_lit 1; have f1 := t_add y2_4 (nI 1); omega)
      · obtain ⟨k, k1, k2, k3, k4⟩ := nst_t hns_23 (by omega)
        have tr := t_ixn r_2 (by omega)
        have ek : ix r_2 = k := by omega
        refine wp_bind2 (os_X10_nearestTo M r_2 ⟨by omega, by omega⟩ hGd (by rw [ek]; exact k4)) (fun r_3 he34 hq34 => ?_)
        obtain ⟨hns_34, hrr_34⟩ := hq34
        replace hns_34 : Nst (FdR M 1) (ix r_2) r_3.toInt := hns_34
        replace hrr_34 : r_3.toInt = -1 ∨ (0 ≤ r_3.toInt ∧ r_3.toInt < 40) := hrr_34
        have ns2 := hns_34
        rw [ek] at ns2
        refine wp_ite (fun c38 => ?_) (fun c38 => ?_)
        · exact ih4 (y1_4 + (nI 1)) (y2_4 + (nI 1)) ⟨(by have f0 := t_lit 1; have f1 := t_add y2_4 (nI 1); omega), (by rw [u.1]; exact ct_y ct ⟨ty, k, by rw [← k2]; exact hns_23, by omega, by rw [t2, ← c38]; exact ns2⟩ uc.2), (le40 hi4 c7), (by rw [u9.2, uc.2]; omega)⟩ (by have f0 := t_lit 1; have f1 := t_add y2_4 (nI 1); omega)
        · exact ih4 y1_4 (y2_4 + (nI 1)) ⟨(by have f0 := t_lit 1; have f1 := t_add y2_4 (nI 1); omega), (by rw [u.1]; exact ct_n ct (pr_n2 nq (fun o ho => by rw [show o = k from by omega]; exact ns2) (by omega))), (le40 hi4 c7), (by rw [u9.2]; omega)⟩ (by have f0 := t_lit 1; have f1 := t_add y2_4 (nI 1); omega)
set_option maxHeartbeats 4000000 in
theorem os_X10_closest (M : Mem) (hGd : GdF (FdR M 1)) : Wp (f_X10_closest M) (fun q => (ClQ (FdR M 1) q.toInt)) := by
  refine wp_lp2 (fun y1_5 y2_5 => (0 ≤ y2_5.toInt) ∧ (ClP (FdR M 1) (ix y2_5) y1_5.toInt) ∧ (y2_5.toInt ≤ 40)) (fun y1_5 y2_5 => (40 - y2_5.toInt).toNat) (fun ag5 y1_5 y2_5 hI5 ih5 => ?_) FU (-2) (nI 0) ⟨(by have f0 := t_lit 0; omega), (by rw [show ix (nI 0) = 0 from (by decide), show (-2 : Int32).toInt = -2 from (by decide)]; exact cl_0), (by decide)⟩ (fu_lt (by have f0 := t_lit 0; omega))
  obtain ⟨hi5, hm, h40⟩ := hI5
  refine wp_ite (fun c8 => ?_) (fun c8 => ?_)
  · exact wp_some ⟨ix y2_5, (by have := t_ixn y2_5 (by omega); omega), hm⟩
  · have u := up40 hi5 c8
    have t2 := t_ixn y2_5 (by omega)
    refine wp_bind2 (o8_X10_isStone M y2_5 hGd.1.1) (fun r_1 he13 hq13 => ?_)
    obtain ⟨hz_r_1, hr_13, htd_13⟩ := hq13
    replace hr_13 : ¬ r_1.toInt = 0 → (0 ≤ y2_5.toInt ∧ y2_5.toInt < 40) ∧ (M 1 (ix y2_5)).toInt = 1 := hr_13
    replace htd_13 : TdP r_1.toInt (FdR M 1) y2_5 := htd_13
    have j28 : ∀ (t0_28 : Int32), ((t0_28.toInt = -1 ∨ (0 ≤ t0_28.toInt ∧ t0_28.toInt < 40)) ∧ NrQ (FdR M 1) (ix y2_5) t0_28.toInt) → Wp (f_X10_closest_L28 M ag5 y1_5 y2_5 t0_28) (fun q => (ClQ (FdR M 1) q.toInt)) := by
      intro t0_28 h28
      unfold f_X10_closest_L28
      refine wp_ite (fun c31 => ?_) (fun c31 => ?_)
      · exact ih5 y1_5 (y2_5 + (nI 1)) ⟨(by have f0 := t_lit 1; have f1 := t_add y2_5 (nI 1); omega), (by rw [u.1]; exact cl_n hm (fun t => by have z := h28.2.1 t; rw [c31] at z; exact z)), (le40 hi5 c8)⟩ (by have f0 := t_lit 1; have f1 := t_add y2_5 (nI 1); omega)
      · have ty : tld (FdR M 1) (ix y2_5) := by
          by_cases q : tld (FdR M 1) (ix y2_5)
          · exact q
          · exact absurd (h28.2.2 q) c31
        have ns1 := h28.2.1 ty
        obtain ⟨k, k1, k2, k3, k4⟩ := nst_t ns1 c31
        have tb : 0 ≤ t0_28.toInt ∧ t0_28.toInt < 40 := h28.1.resolve_left c31
        have tr := t_ixn t0_28 tb.1
        have ek : ix t0_28 = k := by omega
        have ns2 : Nst (FdR M 1) (ix y2_5) ((ix t0_28 : Nat) : Int) := by
          rw [tr]
          exact ns1
        have tk : tld (FdR M 1) (ix t0_28) := by
          rw [ek]
          exact k4
        have j50 : (y1_5.toInt = -2 ∨ ¬ y1_5.toInt ≤ sqI (FdR M 1) (ix y2_5) (ix t0_28)) → Wp (f_X10_closest_L50 M ag5 y2_5 t0_28) (fun q => (ClQ (FdR M 1) q.toInt)) := by
          intro h50
          unfold f_X10_closest_L50
          refine wp_bind2 (o8_X10_apart M y2_5 t0_28 ⟨hi5, u.2.2⟩ tb) (fun r_2 he53 hq53 => ?_)
          have hsq_53 := hq53
          replace hsq_53 : tld (FdR M 1) (ix y2_5) → tld (FdR M 1) (ix t0_28) → r_2 = sqF (FdR M 1) (ix y2_5) (ix t0_28) := hsq_53
          have e53 := hsq_53 ty tk
          exact ih5 r_2 (y2_5 + (nI 1)) ⟨(by have f0 := t_lit 1; have f1 := t_add y2_5 (nI 1); omega), (by rw [u.1]; exact cl_t hm ty ns2 h50 (by rw [e53]; rfl) (by rw [e53]; exact sqi_b hGd u.2.1 (by omega) ty tk)), (le40 hi5 c8)⟩ (by have f0 := t_lit 1; have f1 := t_add y2_5 (nI 1); omega)
        refine wp_ite (fun c37 => ?_) (fun c37 => ?_)
        · exact j50 (Or.inl c37)
        · refine wp_bind2 (o8_X10_apart M y2_5 t0_28 ⟨hi5, u.2.2⟩ tb) (fun r_3 he43 hq43 => ?_)
          have hsq_43 := hq43
          replace hsq_43 : tld (FdR M 1) (ix y2_5) → tld (FdR M 1) (ix t0_28) → r_3 = sqF (FdR M 1) (ix y2_5) (ix t0_28) := hsq_43
          have e43 := hsq_43 ty tk
          refine wp_ite (fun c47 => ?_) (fun c47 => ?_)
          · rw [e43] at c47
            exact ih5 y1_5 (y2_5 + (nI 1)) ⟨(by have f0 := t_lit 1; have f1 := t_add y2_5 (nI 1); omega), (by rw [u.1]; exact cl_s hm ns2 c37 c47), (le40 hi5 c8)⟩ (by have f0 := t_lit 1; have f1 := t_add y2_5 (nI 1); omega)
          · rw [e43] at c47
            exact j50 (Or.inr c47)
    refine wp_ite (fun c16 => ?_) (fun c16 => ?_)
    · have nt : ¬ tld (FdR M 1) (ix y2_5) := fun z => htd_13.mpr ⟨⟨hi5, u.2.2⟩, z⟩ c16
      exact j28 (-1) ⟨Or.inl (by decide), fun t => absurd t nt, fun _ => by decide⟩
    · have ty0 := (htd_13.mp c16).2
      refine wp_bind2 (os_X10_nearestTo M y2_5 ⟨hi5, u.2.2⟩ hGd ty0) (fun r_4 he21 hq21 => ?_)
      obtain ⟨hns_21, hrr_21⟩ := hq21
      replace hns_21 : Nst (FdR M 1) (ix y2_5) r_4.toInt := hns_21
      replace hrr_21 : r_4.toInt = -1 ∨ (0 ≤ r_4.toInt ∧ r_4.toInt < 40) := hrr_21
      exact j28 r_4 ⟨hrr_21, fun _ => hns_21, fun z => absurd ty0 z⟩
set_option maxHeartbeats 4000000 in
theorem os_X10_yardRow (M : Mem) (hy : ∀ j : Nat, j < 40 → (M 1 j).toInt = 1 → 1 ≤ (M 1 (80 + j)).toInt ∧ (M 1 (80 + j)).toInt ≤ 20) (hGd : GdF (FdR M 1)) : Wp (f_X10_yardRow M) (fun q => (YmQ (FdR M 1) q.toInt)) := by
  refine wp_lp2 (fun y1_4 y2_4 => (0 ≤ y2_4.toInt) ∧ (YmP (FdR M 1) (ix y2_4) y1_4.toInt) ∧ (y2_4.toInt ≤ 40)) (fun y1_4 y2_4 => (40 - y2_4.toInt).toNat) (fun ag4 y1_4 y2_4 hI4 ih4 => ?_) FU (nI 0) (nI 0) ⟨(by have f0 := t_lit 0; omega), (by rw [show ix (nI 0) = 0 from (by decide), nI0]; exact ym_0), (by decide)⟩ (fu_lt (by have f0 := t_lit 0; omega))
  obtain ⟨hi4, hm, h40⟩ := hI4
  refine wp_ite (fun c7 => ?_) (fun c7 => ?_)
  · exact wp_some ⟨ix y2_4, (by have := t_ixn y2_4 (by omega); omega), hm⟩
  · have u := up40 hi4 c7
    refine wp_lp1 (fun y3_12 => (0 ≤ y3_12.toInt ∧ y3_12.toInt ≤ 20) ∧ (tld (FdR M 1) (ix y2_4) → RuQ (FdR M 1) (ix y2_4) (ix y3_12)) ∧ (¬ tld (FdR M 1) (ix y2_4) → y3_12.toInt = 0)) (fun y3_12 => (20 - y3_12.toInt).toNat) (fun ag12 y3_12 hI12 ih12 => ?_) FU (nI 0) ⟨(by decide), (fun _ => by rw [show ix (nI 0) = 0 from (by decide)]; exact rq_0), (fun _ => nI0)⟩ (fu_lt (by have f0 := t_lit 0; omega))
    obtain ⟨h3, rq, rz⟩ := hI12
    have t3 := t_ixn y3_12 (by omega)
    refine wp_bind2 (o8_X10_isStone M y2_4 hGd.1.1) (fun r_1 he14 hq14 => ?_)
    obtain ⟨hz_r_1, hr_14, htd_14⟩ := hq14
    replace hr_14 : ¬ r_1.toInt = 0 → (0 ≤ y2_4.toInt ∧ y2_4.toInt < 40) ∧ (M 1 (ix y2_4)).toInt = 1 := hr_14
    replace htd_14 : TdP r_1.toInt (FdR M 1) y2_4 := htd_14
    have hys : ¬ r_1.toInt = 0 → 1 ≤ (M 1 (ix ((nI 80) + y2_4))).toInt ∧ (M 1 (ix ((nI 80) + y2_4))).toInt ≤ 20 := fun hne => by
      have f0 := t_lit 80
      have f1 := t_add (nI 80) y2_4
      have f3 := t_ixn y2_4 (by omega)
      have f4 := t_ixn ((nI 80) + y2_4) (by omega)
      rw [show ix ((nI 80) + y2_4) = 80 + ix y2_4 from (by omega)]
      exact hy (ix y2_4) (by omega) (hr_14 hne).2
    have j55 : ((tld (FdR M 1) (ix y2_4) ∧ RuP (FdR M 1) ((FdR M 1) 1 (ix y2_4)).toInt ((FdR M 1) 2 (ix y2_4)).toInt (ix y3_12)) ∨ (¬ tld (FdR M 1) (ix y2_4) ∧ y3_12.toInt = 0)) → Wp (f_X10_yardRow_L55 ag4 y1_4 y2_4 y3_12) (fun q => (YmQ (FdR M 1) q.toInt)) := by
      intro h55
      unfold f_X10_yardRow_L55
      refine wp_bind2 (o_X10_max M y1_4 y3_12) (fun r_2 he57 hq57 => ?_)
      have hr_57 := hq57
      replace hr_57 : r_2.toInt = max y1_4.toInt y3_12.toInt := hr_57
      exact ih4 r_2 (y2_4 + (nI 1)) ⟨(by have f0 := t_lit 1; have f1 := t_add y2_4 (nI 1); omega), (by rw [u.1]; exact h55.elim (fun q => ym_y hm q.1 q.2 (by rw [hr_57, t3])) (fun q => ym_z hm q.1 (by rw [hr_57, q.2]))), (le40 hi4 c7)⟩ (by have f0 := t_lit 1; have f1 := t_add y2_4 (nI 1); omega)
    refine wp_ite (fun c17 => ?_) (fun c17 => ?_)
    · have nt : ¬ tld (FdR M 1) (ix y2_4) := fun z => htd_14.mpr ⟨⟨hi4, u.2.2⟩, z⟩ c17
      exact j55 (Or.inr ⟨nt, rz nt⟩)
    · have tj := (htd_14.mp c17).2
      have yb := (hGd.2.2 _ u.2.1 tj).2.1
      refine wp_gd (by have f0 := t_lit 40; have f1 := t_add (nI 40) y2_4; omega) ?_
      refine wp_gd (by have f0 := t_lit 80; have f1 := t_add (nI 80) y2_4; omega) ?_
      refine wp_bind2 (o8_X10_stoneAt M (M 1 (ix ((nI 40) + y2_4))) ((M 1 (ix ((nI 80) + y2_4))) + y3_12) hGd.1.1) (fun r_3 he41 hq41 => ?_)
      obtain ⟨hr_41, hsa_41⟩ := hq41
      replace hr_41 : r_3.toInt = -1 ∨ ((0 ≤ r_3.toInt ∧ r_3.toInt < 40) ∧ (M 1 (ix r_3)).toInt = 1 ∧ (M 1 (ix (nI 40 + r_3))).toInt = (M 1 (ix ((nI 40) + y2_4))).toInt ∧ (M 1 (ix (nI 80 + r_3))).toInt = ((M 1 (ix ((nI 80) + y2_4))) + y3_12).toInt) := hr_41
      replace hsa_41 : r_3 = stA (FdR M 1) (M 1 (ix ((nI 40) + y2_4))).toInt ((M 1 (ix ((nI 80) + y2_4))) + y3_12).toInt 40 0 := hsa_41
      have hyt : ¬ r_3.toInt = -1 → y3_12.toInt ≤ 19 := fun hne => by
        have hs := hys (by omega)
        have f2 := t_add (M 1 (ix ((nI 80) + y2_4))) y3_12
        obtain ⟨h1, h2, h3, h4⟩ := hr_41.resolve_left hne
        have f0 := t_lit 80
        have f1 := t_add (nI 80) r_3
        have f3 := t_ixn r_3 (by omega)
        have f4 := t_ixn ((nI 80) + r_3) (by omega)
        rw [show ix ((nI 80) + r_3) = 80 + ix r_3 from (by omega)] at h4
        have h5 := hy (ix r_3) (by omega) h2
        omega
      have e9 : ((M 1 (ix ((nI 80) + y2_4))) + y3_12).toInt = ((FdR M 1) 2 (ix y2_4)).toInt + ((ix y3_12 : Nat) : Int) := by
        rw [fdr_y hi4 u.2.2 tj, t3]
        have f := t_add ((FdR M 1) 2 (ix y2_4)) y3_12
        omega
      rw [e9, fdr_x hi4 u.2.2 tj] at hsa_41
      refine wp_ite (fun c45 => ?_) (fun c45 => ?_)
      · exact j55 (Or.inl ⟨tj, rq tj, t_of (by rw [← hsa_41, c45]; decide)⟩)
      · have u3 := i_up (x := y3_12) (by omega)
        exact ih12 (y3_12 + (nI 1)) ⟨(by have f0 := t_lit 1; have f1 := t_add y3_12 (nI 1); omega), (fun t => by rw [u3.1]; exact rq_s (rq t) rfl (fun z => c45 (by rw [hsa_41, z]; decide))), (fun z => absurd tj z)⟩ (by have f0 := t_lit 1; have f1 := t_add y3_12 (nI 1); omega)
set_option maxHeartbeats 4000000 in
theorem os_X10_areInLine (M : Mem) (v1 : Int32) (v2 : Int32) (v3 : Int32) (hv1 : 0 ≤ v1.toInt ∧ v1.toInt < 40) (hv2 : 0 ≤ v2.toInt ∧ v2.toInt < 40) (hv3 : 0 ≤ v3.toInt ∧ v3.toInt < 40) (hGd : GdF (FdR M 1)) (ht1 : tld (FdR M 1) (ix v1)) (ht2 : tld (FdR M 1) (ix v2)) (ht3 : tld (FdR M 1) (ix v3)) : Wp (f_X10_areInLine M v1 v2 v3) (fun q => (q = 0 ∨ q = 1) ∧ (¬ q.toInt = 0 ↔ OnL (FdR M 1) (ix v1) (ix v2) (ix v3))) := by
  have b1 := hGd.2.2 _ (ix40 hv1.1 hv1.2) ht1
  have b2 := hGd.2.2 _ (ix40 hv2.1 hv2.2) ht2
  have b3 := hGd.2.2 _ (ix40 hv3.1 hv3.2) ht3
  refine wp_gd (by have f0 := t_lit 40; have f1 := t_add (nI 40) v2; omega) ?_
  refine wp_gd (by have f0 := t_lit 40; have f1 := t_add (nI 40) v1; omega) ?_
  refine wp_bnd (fun x_1 ex_1 => ?_)
  have q3 : ((M 1 (ix ((nI 40) + v2))) - (M 1 (ix ((nI 40) + v1)))).toInt = ((FdR M 1) 1 (ix v2)).toInt - ((FdR M 1) 1 (ix v1)).toInt := by
    rw [fdr_x hv2.1 hv2.2 ht2, fdr_x hv1.1 hv1.2 ht1]
    have f := t_sub ((FdR M 1) 1 (ix v2)) ((FdR M 1) 1 (ix v1))
    omega
  rw [← ex_1] at q3
  refine wp_gd (by have f0 := t_lit 80; have f1 := t_add (nI 80) v2; omega) ?_
  refine wp_gd (by have f0 := t_lit 80; have f1 := t_add (nI 80) v1; omega) ?_
  refine wp_bnd (fun x_2 ex_2 => ?_)
  have q4 : ((M 1 (ix ((nI 80) + v2))) - (M 1 (ix ((nI 80) + v1)))).toInt = ((FdR M 1) 2 (ix v2)).toInt - ((FdR M 1) 2 (ix v1)).toInt := by
    rw [fdr_y hv2.1 hv2.2 ht2, fdr_y hv1.1 hv1.2 ht1]
    have f := t_sub ((FdR M 1) 2 (ix v2)) ((FdR M 1) 2 (ix v1))
    omega
  rw [← ex_2] at q4
  have q5 : ((M 1 (ix ((nI 80) + v3))) - (M 1 (ix ((nI 80) + v1)))).toInt = ((FdR M 1) 2 (ix v3)).toInt - ((FdR M 1) 2 (ix v1)).toInt := by
    rw [fdr_y hv3.1 hv3.2 ht3, fdr_y hv1.1 hv1.2 ht1]
    have f := t_sub ((FdR M 1) 2 (ix v3)) ((FdR M 1) 2 (ix v1))
    omega
  have q6 : ((M 1 (ix ((nI 40) + v3))) - (M 1 (ix ((nI 40) + v1)))).toInt = ((FdR M 1) 1 (ix v3)).toInt - ((FdR M 1) 1 (ix v1)).toInt := by
    rw [fdr_x hv3.1 hv3.2 ht3, fdr_x hv1.1 hv1.2 ht1]
    have f := t_sub ((FdR M 1) 1 (ix v3)) ((FdR M 1) 1 (ix v1))
    omega
  have m1 := t_m9 (x := x_1) (y := M 1 (ix ((nI 80) + v3)) - M 1 (ix ((nI 80) + v1))) (by omega) (by omega)
  have m2 := t_m9 (x := x_2) (y := M 1 (ix ((nI 40) + v3)) - M 1 (ix ((nI 40) + v1))) (by omega) (by omega)
  rw [q3, q5] at m1
  rw [q4, q6] at m2
  refine wp_gd (by have f0 := t_lit 80; have f1 := t_add (nI 80) v3; omega) ?_
  refine wp_gd (by have f0 := t_lit 80; have f1 := t_add (nI 80) v1; omega) ?_
  refine wp_gd (by have f0 := t_lit 40; have f1 := t_add (nI 40) v3; omega) ?_
  refine wp_gd (by have f0 := t_lit 40; have f1 := t_add (nI 40) v1; omega) ?_
  refine wp_ite (fun c86 => ?_) (fun c86 => ?_)
  · rw [m1, m2] at c86
    exact wp_some ⟨b01_1, ⟨fun _ => ⟨ht3, c86⟩, fun _ => ne1⟩⟩
  · rw [m1, m2] at c86
    exact wp_some ⟨b01_0, ⟨fun z => absurd nI0 z, fun z => absurd z.2 c86⟩⟩
set_option maxHeartbeats 4000000 in
theorem os_X10_mostInLine (M : Mem) (hGd : GdF (FdR M 1)) : Wp (f_X10_mostInLine M) (fun q => (LnP (FdR M 1) q.toInt)) := by
  refine wp_bind2 (o9_X10_sumOf M (nI 0) (by decide) 4 (Or.inl ⟨rfl, rfl⟩) hGd) (fun r_1 he3 hq3 => ?_)
  have hsm_3 := hq3
  replace hsm_3 : r_1 = smT 4 (FdR M 1) 40 := hsm_3
  have := t_lit 0
  refine wp_bind2 (o_X10_min M (nI 2) r_1) (fun r_2 he6 hq6 => ?_)
  have hr_6 := hq6
  replace hr_6 : r_2.toInt = min (nI 2).toInt r_1.toInt := hr_6
  have := t_lit 2
  refine wp_lp2 (fun y1_12 y2_12 => (0 ≤ y2_12.toInt) ∧ (MxP (fun _ j => j < ix y2_12) (FdR M 1) (min 2 (smT 4 (FdR M 1) 40).toInt) y1_12.toInt) ∧ (y2_12.toInt ≤ 40)) (fun y1_12 y2_12 => (40 - y2_12.toInt).toNat) (fun ag12 y1_12 y2_12 hI12 ih12 => ?_) FU r_2 (nI 0) ⟨(by have f0 := t_lit 0; omega), (by rw [hr_6, hsm_3, show (nI 2).toInt = 2 from (by decide), show ix (nI 0) = 0 from (by decide)]; exact mp_0 (fun i j p _ _ => absurd p (Nat.not_lt_zero _))), (by decide)⟩ (fu_lt (by have f0 := t_lit 0; omega))
  obtain ⟨hi12, hm, h40⟩ := hI12
  refine wp_ite (fun c15 => ?_) (fun c15 => ?_)
  · exact wp_some ⟨_, rfl, mp_k hm (fun i j _ h1 h2 _ _ => by have := t_ixn y2_12 (by omega); omega)⟩
  · have u := up40 hi12 c15
    have ty2 := t_ixn y2_12 (by omega)
    have u9 := i_up (x := y2_12) (by omega)
    have ft1 := t_rng y2_12
    refine wp_lp2 (fun y1_20 y3_20 => (0 ≤ y3_20.toInt) ∧ (MxP (fun i j => j < ix y2_12 ∨ (j = ix y2_12 ∧ i < ix y3_20)) (FdR M 1) (min 2 (smT 4 (FdR M 1) 40).toInt) y1_20.toInt) ∧ (y3_20.toInt ≤ y2_12.toInt)) (fun y1_20 y3_20 => (y2_12.toInt - y3_20.toInt).toNat) (fun ag20 y1_20 y3_20 hI20 ih20 => ?_) FU y1_12 (nI 0) ⟨(by have f0 := t_lit 0; omega), (mp_k hm (fun i j p h1 h2 _ _ => p.elim id (fun q => by have q2 := q.2; rw [show ix (nI 0) = 0 from (by decide)] at q2; omega))), (by have := t_lit 0; omega)⟩ (fu_lt (by have f0 := t_lit 0; omega))
    obtain ⟨hi20, hx, h20⟩ := hI20
    have t3 := t_ixn y3_20 (by omega)
    refine wp_ite (fun c22 => ?_) (fun c22 => ?_)
    · exact ih12 y1_20 (y2_12 + (nI 1)) ⟨(by have f0 := t_lit 1; have f1 := t_add y2_12 (nI 1); omega), (mp_k hx (fun i j p h1 h2 _ _ => by rw [u.1] at p; by_cases w : j = ix y2_12; (exact Or.inr ⟨w, by omega⟩); (exact Or.inl (by omega)))), (le40 hi12 c15)⟩ (by have f0 := t_lit 1; have f1 := t_add y2_12 (nI 1); omega)
    · have u3 := i_up (x := y3_20) (by omega)
      refine wp_bind2 (o8_X10_isStone M y2_12 hGd.1.1) (fun r_3 he27 hq27 => ?_)
      obtain ⟨hz_r_3, hr_27, htd_27⟩ := hq27
      replace hr_27 : ¬ r_3.toInt = 0 → (0 ≤ y2_12.toInt ∧ y2_12.toInt < 40) ∧ (M 1 (ix y2_12)).toInt = 1 := hr_27
      replace htd_27 : TdP r_3.toInt (FdR M 1) y2_12 := htd_27
      refine wp_ite (fun c30 => ?_) (fun c30 => ?_)
      · have nt : ¬ tld (FdR M 1) (ix y2_12) := fun z => htd_27.mpr ⟨⟨by omega, by omega⟩, z⟩ c30
        exact ih20 y1_20 (y3_20 + (nI 1)) ⟨(by have f0 := t_lit 1; have f1 := t_add y3_20 (nI 1); omega), (mp_k hx (fun i j p h1 h2 ti tj => p.elim Or.inl (fun q => by rw [q.1] at tj; exact absurd tj nt))), (by rw [u3.2]; omega)⟩ (by have f0 := t_lit 1; have f1 := t_add y3_20 (nI 1); omega)
      · have ty := (htd_27.mp c30).2
        refine wp_bind2 (o8_X10_isStone M y3_20 hGd.1.1) (fun r_4 he35 hq35 => ?_)
        obtain ⟨hz_r_4, hr_35, htd_35⟩ := hq35
        replace hr_35 : ¬ r_4.toInt = 0 → (0 ≤ y3_20.toInt ∧ y3_20.toInt < 40) ∧ (M 1 (ix y3_20)).toInt = 1 := hr_35
        replace htd_35 : TdP r_4.toInt (FdR M 1) y3_20 := htd_35
        refine wp_ite (fun c38 => ?_) (fun c38 => ?_)
        · have nz : ¬ tld (FdR M 1) (ix y3_20) := fun z => htd_35.mpr ⟨⟨by omega, by omega⟩, z⟩ c38
          exact ih20 y1_20 (y3_20 + (nI 1)) ⟨(by have f0 := t_lit 1; have f1 := t_add y3_20 (nI 1); omega), (mp_k hx (fun i j p h1 h2 ti tj => p.elim Or.inl (fun q => by have q2 := q.2; rw [u3.1] at q2; by_cases w : i = ix y3_20; (rw [w] at ti; exact absurd ti nz); (exact Or.inr ⟨q.1, by omega⟩)))), (by rw [u3.2]; omega)⟩ (by have f0 := t_lit 1; have f1 := t_add y3_20 (nI 1); omega)
        · have tz := (htd_35.mp c38).2
          refine wp_lp2 (fun y4_50 y5_50 => (0 ≤ y5_50.toInt) ∧ (CtI (OnL (FdR M 1) (ix y2_12) (ix y3_20)) (ix y5_50) y4_50.toInt) ∧ (y5_50.toInt ≤ 40) ∧ (0 ≤ y4_50.toInt ∧ y4_50.toInt ≤ y5_50.toInt)) (fun y4_50 y5_50 => (40 - y5_50.toInt).toNat) (fun ag50 y4_50 y5_50 hI50 ih50 => ?_) FU (nI 0) (nI 0) ⟨(by have f0 := t_lit 0; omega), (by rw [show ix (nI 0) = 0 from (by decide)]; exact nI0), (by decide), (by decide)⟩ (fu_lt (by have f0 := t_lit 0; omega))
          obtain ⟨hi50, ct, h50, y4b⟩ := hI50
          have j89 : (CtQ (OnL (FdR M 1) (ix y2_12) (ix y3_20)) y4_50.toInt) → Wp (f_X10_mostInLine_L89 ag20 y1_20 y3_20 y4_50) (fun q => (LnP (FdR M 1) q.toInt)) := by
            intro h89
            unfold f_X10_mostInLine_L89
            refine wp_bind2 (o_X10_max M y1_20 y4_50) (fun r_5 he92 hq92 => ?_)
            have hr_92 := hq92
            replace hr_92 : r_5.toInt = max y1_20.toInt y4_50.toInt := hr_92
            exact ih20 r_5 (y3_20 + (nI 1)) ⟨(by have f0 := t_lit 1; have f1 := t_add y3_20 (nI 1); omega), (mp_s hx ⟨by omega, by omega⟩ tz ty (cq_sy h89) hr_92 (fun i j p h1 h2 => p.elim (fun q => Or.inl (Or.inl q)) (fun q => by have q2 := q.2; rw [u3.1] at q2; by_cases w : i = ix y3_20; (exact Or.inr ⟨w, q.1⟩); (exact Or.inl (Or.inr ⟨q.1, by omega⟩))))), (by rw [u3.2]; omega)⟩ (by have f0 := t_lit 1; have f1 := t_add y3_20 (nI 1); omega)
          refine wp_ite (fun c54 => ?_) (fun c54 => ?_)
          · exact j89 ⟨ix y5_50, (by have := t_ixn y5_50 (by omega); omega), ct⟩
          · have u5 := up40 hi50 c54
            have u59 := i_up (x := y5_50) (by omega)
            have uc := i_up (x := y4_50) (by omega)
            refine wp_bind2 (o8_X10_isStone M y5_50 hGd.1.1) (fun r_6 he60 hq60 => ?_)
            obtain ⟨hz_r_6, hr_60, htd_60⟩ := hq60
            replace hr_60 : ¬ r_6.toInt = 0 → (0 ≤ y5_50.toInt ∧ y5_50.toInt < 40) ∧ (M 1 (ix y5_50)).toInt = 1 := hr_60
            replace htd_60 : TdP r_6.toInt (FdR M 1) y5_50 := htd_60
            refine wp_ite (fun c63 => ?_) (fun c63 => ?_)
            · have n5 : ¬ tld (FdR M 1) (ix y5_50) := fun z => htd_60.mpr ⟨⟨hi50, u5.2.2⟩, z⟩ c63
              exact ih50 y4_50 (y5_50 + (nI 1)) ⟨(by have f0 := t_lit 1; have f1 := t_add y5_50 (nI 1); omega), (by rw [u5.1]; exact ct_n ct (fun z => n5 z.1)), (le40 hi50 c54), (by rw [u59.2]; omega)⟩ (by have f0 := t_lit 1; have f1 := t_add y5_50 (nI 1); omega)
            · have t5 := (htd_60.mp c63).2
              refine wp_bind2 (os_X10_areInLine M y2_12 y3_20 y5_50 ⟨by omega, by omega⟩ ⟨by omega, by omega⟩ ⟨hi50, u5.2.2⟩ hGd ty tz t5) (fun r_7 he71 hq71 => ?_)
              obtain ⟨hz_r_7, hal_71⟩ := hq71
              replace hal_71 : ¬ r_7.toInt = 0 ↔ OnL (FdR M 1) (ix y2_12) (ix y3_20) (ix y5_50) := hal_71
              refine wp_ite (fun c74 => ?_) (fun c74 => ?_)
              · exact ih50 y4_50 (y5_50 + (nI 1)) ⟨(by have f0 := t_lit 1; have f1 := t_add y5_50 (nI 1); omega), (by rw [u5.1]; exact ct_n ct (fun z => hal_71.mpr z c74)), (le40 hi50 c54), (by rw [u59.2]; omega)⟩ (by have f0 := t_lit 1; have f1 := t_add y5_50 (nI 1); omega)
              · exact ih50 (y4_50 + (nI 1)) (y5_50 + (nI 1)) ⟨(by have f0 := t_lit 1; have f1 := t_add y5_50 (nI 1); omega), (by rw [u5.1]; exact ct_y ct (hal_71.mp c74) uc.2), (le40 hi50 c54), (by rw [u59.2, uc.2]; omega)⟩ (by have f0 := t_lit 1; have f1 := t_add y5_50 (nI 1); omega)
theorem os_X10_shape (M : Mem) (v1 : Int32) (hy : ∀ j : Nat, j < 40 → (M 1 j).toInt = 1 → 1 ≤ (M 1 (80 + j)).toInt ∧ (M 1 (80 + j)).toInt ≤ 20) (hGd : GdF (FdR M 1)) : Wp (f_X10_shape M v1) (fun q => (ShP (FdR M 1) v1.toInt q.toInt)) := by
  refine wp_ite (fun c1 => ?_) (fun c1 => ?_)
  · refine wp_bind2 (os_X10_mostInLine M hGd) (fun r_1 he33 hq33 => ?_)
    have hq_33 := hq33
    replace hq_33 : LnP (FdR M 1) r_1.toInt := hq_33
    exact wp_some (Or.inl ⟨c1, hq_33⟩)
  · refine wp_ite (fun c1 => ?_) (fun c1 => ?_)
    · refine wp_bind2 (os_X10_yardRow M hy hGd) (fun r_2 he38 hq38 => ?_)
      have hq_38 := hq38
      replace hq_38 : YmQ (FdR M 1) r_2.toInt := hq_38
      exact wp_some (Or.inr (Or.inl ⟨by omega, hq_38⟩))
    · refine wp_ite (fun c2 => ?_) (fun c2 => ?_)
      · refine wp_bind2 (os_X10_pairsOf M hGd) (fun r_3 he43 hq43 => ?_)
        have hq_43 := hq43
        replace hq_43 : CtQ (PrG (FdR M 1)) r_3.toInt := hq_43
        exact wp_some (Or.inr (Or.inr (Or.inl ⟨by omega, hq_43⟩)))
      · refine wp_ite (fun c3 => ?_) (fun c3 => ?_)
        · refine wp_bind2 (os_X10_closest M hGd) (fun r_4 he48 hq48 => ?_)
          have hq_48 := hq48
          replace hq_48 : ClQ (FdR M 1) r_4.toInt := hq_48
          exact wp_some (Or.inr (Or.inr (Or.inr (Or.inl ⟨by omega, hq_48⟩))))
        · exact wp_some (Or.inr (Or.inr (Or.inr (Or.inr ⟨by omega, by decide⟩))))
