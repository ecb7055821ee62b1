/-! sets as numbers -/
def bcN (s : Nat) : Nat := sQ (fun k => if s.testBit k = true then 1 else 0) 7
theorem ck_in : ∀ s, s < 128 → ∀ k, k < 7 → (s ||| 2 ^ k = s ↔ s.testBit k = true) := by decide +kernel
theorem ck_lt : ∀ s, s < 128 → ∀ k, k < 7 → s < s ||| 2 ^ k ∨ s.testBit k = true := by decide +kernel
theorem ck_bc : ∀ s, s < 128 → ∀ k, k < 7 → s.testBit k = true ∨ bcN (s ||| 2 ^ k) = bcN s + 1 := by decide +kernel
theorem ck_n : ∀ n, n < 8 → ∀ s, s < 2 ^ n → bcN s ≤ n ∧ (bcN s = n → ∀ k, k < n → s.testBit k = true) ∧ ((∀ k, k < n → s.testBit k = true) → bcN s = n) := by decide +kernel
theorem ck_jb : ∀ s, s < 128 → f_J6_bitCount_0f7a4 (nI s) = some (nI (bcN s)) := by decide +kernel
theorem ck_or2 : ∀ s, s < 128 → ∀ k, k < 7 → (nI s ||| shl (nI 1) (nI k)) = nI (s ||| 2 ^ k) := by decide +kernel
theorem ck_shl : ∀ n, n < 8 → ((mn (shl (nI 1) (nI n)) (nI 128)) - nI 1) = nI (2 ^ n - 1) := by decide +kernel
theorem ck_p : ∀ n, n < 8 → 1 ≤ 2 ^ n ∧ 2 ^ n ≤ 128 := by decide +kernel
theorem ck_2 {n s k : Nat} (hs : s < 2 ^ n) (hk : k < n) : s ||| 2 ^ k < 2 ^ n := Nat.or_lt_two_pow hs (Nat.pow_lt_pow_right (by omega) hk)
theorem ck_tb {s k j : Nat} : (s ||| 2 ^ k).testBit j = true ↔ s.testBit j = true ∨ j = k := by
  rw [Nat.testBit_or, Nat.testBit_two_pow]
  by_cases c : k = j
  · rw [c]
    simp
  · have d : ¬ j = k := fun z => c z.symm
    simp [c, d]
theorem ck_b0 : bcN 0 = 0 := by decide
theorem ck_t0 (k : Nat) : ¬ (0 : Nat).testBit k = true := by
  rw [Nat.zero_testBit]
  decide
/-! orders of what is left -/
def tlS (g : Nat → Nat → Int) (c : Nat → Nat) (p n : Nat) : Int := sI (fun j => g (p + j) (c (p + j))) (n - p)
theorem tl_h9 {g : Nat → Nat → Int} {c : Nat → Nat} {p n : Nat} (h : p < n) : tlS g c p n = g p (c p) + tlS g c (p + 1) n := by
  unfold tlS
  rw [show n - p = (n - (p + 1)) + 1 from by omega, sI_h]
  show g (p + 0) (c (p + 0)) + _ = _
  rw [Nat.add_zero, sI_cg (g := fun j => g (p + 1 + j) (c (p + 1 + j))) (fun j hj => by
    show g (p + (j + 1)) (c (p + (j + 1))) = g (p + 1 + j) (c (p + 1 + j))
    rw [show p + (j + 1) = p + 1 + j from by omega])]
theorem tl_n9 {g : Nat → Nat → Int} {c : Nat → Nat} {n : Nat} : tlS g c n n = 0 := by
  unfold tlS
  rw [Nat.sub_self]
  rfl
theorem tl_cg9 {g : Nat → Nat → Int} {c d : Nat → Nat} {p n : Nat} (h : ∀ j, p ≤ j → j < n → c j = d j) : tlS g c p n = tlS g d p n := sI_cg (fun j hj => by rw [h (p + j) (by omega) (by omega)])
/-- the places ahead of p have just the set s -/
def ArS (n s p : Nat) (c : Nat → Nat) : Prop := Pm c n ∧ ∀ m, m < n → (s.testBit m = true ↔ ∃ t, t < p ∧ c t = m)
def LeS (g : Nat → Nat → Int) (n s p : Nat) (L : Int) : Prop := (∃ c, ArS n s p c ∧ tlS g c p n = L) ∧ ∀ c, ArS n s p c → L ≤ tlS g c p n
theorem ar_u {n s p : Nat} {c : Nat → Nat} (h : ArS n s p c) (hp : p < n) : c p < n ∧ ¬ s.testBit (c p) = true ∧ ArS n (s ||| 2 ^ (c p)) (p + 1) c := by
  refine ⟨h.1.1 p hp, fun z => ?_, h.1, fun m hm => ?_⟩
  · obtain ⟨t, ht, e⟩ := (h.2 (c p) (h.1.1 p hp)).mp z
    have := h.1.2 t p (by omega) hp e
    omega
  · rw [ck_tb, h.2 m hm]
    refine ⟨fun z => ?_, fun ⟨t, ht, e⟩ => ?_⟩
    · rcases z with ⟨t, ht, e⟩ | z
      · exact ⟨t, by omega, e⟩
      · exact ⟨p, by omega, z.symm⟩
    · by_cases d : t = p
      · rw [d] at e
        exact Or.inr e.symm
      · exact Or.inl ⟨t, by omega, e⟩
/-- back: m comes to place p -/
theorem ar_d {n s p m : Nat} {c : Nat → Nat} (h : ArS n (s ||| 2 ^ m) (p + 1) c) (hp : p < n) (hm : m < n) (hn : ¬ s.testBit m = true) : ∃ d, ArS n s p d ∧ d p = m ∧ ∀ j, p < j → d j = c j := by
  obtain ⟨r, hr, er⟩ := (h.2 m hm).mp (ck_tb.mpr (Or.inr rfl))
  refine ⟨fun j => if j = p then c r else if j = r then c p else c j, ⟨pm_sw h.1 hp (by omega), fun x hx => ?_⟩, ?_, fun j hj => ?_⟩
  · have e := h.2 x hx
    rw [ck_tb] at e
    refine ⟨fun z => ?_, fun ⟨t, ht, e2⟩ => ?_⟩
    · have nx : ¬ x = m := fun q => hn (by rw [← q]; exact z)
      obtain ⟨t, ht, e2⟩ := e.mp (Or.inl z)
      by_cases a : t = p
      · refine ⟨r, ?_, ?_⟩
        · by_cases q : r = p
          · rw [a, ← q, er] at e2
            exact absurd e2.symm nx
          · omega
        · show (if r = p then c r else if r = r then c p else c r) = x
          by_cases q : r = p
          · rw [if_pos q, er]
            rw [a, ← q, er] at e2
            exact e2
          · rw [if_neg q, if_pos rfl, ← a]
            exact e2
      · refine ⟨t, by omega, ?_⟩
        show (if t = p then c r else if t = r then c p else c t) = x
        rw [if_neg a]
        by_cases q : t = r
        · rw [q, er] at e2
          exact absurd e2.symm nx
        · rw [if_neg q]
          exact e2
    · have e3 : (if t = p then c r else if t = r then c p else c t) = x := e2
      rw [if_neg (by omega)] at e3
      by_cases q : t = r
      · rw [if_pos q] at e3
        refine (e.mpr ⟨p, by omega, e3⟩).resolve_right (fun w => ?_)
        have := h.1.2 p r hp (by omega) (by rw [e3, w, er])
        omega
      · rw [if_neg q] at e3
        refine (e.mpr ⟨t, by omega, e3⟩).resolve_right (fun w => ?_)
        have := h.1.2 t r (by omega) (by omega) (by rw [e3, w, er])
        omega
  · show (if p = p then c r else if p = r then c p else c p) = m
    rw [if_pos rfl]
    exact er
  · show (if j = p then c r else if j = r then c p else c j) = c j
    rw [if_neg (by omega), if_neg (by omega)]
def LkI (g : Nat → Nat → Int) (n s p k : Nat) (y : Int) : Prop := (y = 2147483647 ∧ ∀ m, m < k → s.testBit m = true) ∨ ((∃ m, m < k ∧ ¬ s.testBit m = true ∧ ∃ L, LeS g n (s ||| 2 ^ m) (p + 1) L ∧ y = g p m + L) ∧ ∀ m, m < k → ¬ s.testBit m = true → ∃ L, LeS g n (s ||| 2 ^ m) (p + 1) L ∧ y ≤ g p m + L)
theorem lk_0 {g : Nat → Nat → Int} {n s p : Nat} : LkI g n s p 0 (nI 2147483647).toInt := Or.inl ⟨t_lit 2147483647, fun m h => absurd h (Nat.not_lt_zero _)⟩
theorem lk_nn {g : Nat → Nat → Int} {n s p k : Nat} {y : Int} (h : LkI g n s p k y) (hk : s.testBit k = true) : LkI g n s p (k + 1) y := by
  rcases h with ⟨a, b⟩ | ⟨⟨m, h1, h2, h3⟩, b⟩
  · refine Or.inl ⟨a, fun m hm => ?_⟩
    by_cases c : m = k
    · rw [c]
      exact hk
    · exact b m (by omega)
  · refine Or.inr ⟨⟨m, by omega, h2, h3⟩, fun m hm hu => ?_⟩
    by_cases c : m = k
    · rw [c] at hu
      exact absurd hk hu
    · exact b m (by omega) hu
theorem lk_yy {g : Nat → Nat → Int} {n s p k : Nat} {y y' L : Int} (h : LkI g n s p k y) (hk : ¬ s.testBit k = true) (hL : LeS g n (s ||| 2 ^ k) (p + 1) L) (hb : g p k + L < 2147483647) (hy : y' = min y (g p k + L)) : LkI g n s p (k + 1) y' := by
  refine Or.inr ⟨?_, fun m hm hu => ?_⟩
  · by_cases c : y' = g p k + L
    · exact ⟨k, by omega, hk, L, hL, c⟩
    · rcases h with ⟨a, b⟩ | ⟨⟨m1, h1, h2, L1, h4, h5⟩, b⟩
      · omega
      · exact ⟨m1, by omega, h2, L1, h4, by omega⟩
  · by_cases c : m = k
    · rw [c]
      exact ⟨L, hL, by omega⟩
    · rcases h with ⟨a, b⟩ | ⟨-, b⟩
      · exact absurd (b m (by omega)) hu
      · obtain ⟨L2, h1, h2⟩ := b m (by omega) hu
        exact ⟨L2, h1, by omega⟩
theorem lk_e9 {g : Nat → Nat → Int} {n s p : Nat} {y : Int} (h : LkI g n s p n y) (hp : p < n) (hu : ∃ k, k < n ∧ ¬ s.testBit k = true) : LeS g n s p y := by
  rcases h with ⟨a, b⟩ | ⟨⟨m, h1, h2, L, h4, h5⟩, b⟩
  · obtain ⟨k, q1, q2⟩ := hu
    exact absurd (b k q1) q2
  · refine ⟨?_, fun c hc => ?_⟩
    · obtain ⟨⟨c, g1, g2⟩, -⟩ := h4
      obtain ⟨d, d1, d2, d3⟩ := ar_d g1 hp h1 h2
      exact ⟨d, d1, by rw [tl_h9 hp, d2, tl_cg9 (d := c) (fun j h1 h2 => d3 j (by omega)), g2, h5]⟩
    · have u := ar_u hc hp
      obtain ⟨L2, g1, g2⟩ := b _ u.1 u.2.1
      have := g1.2 c u.2.2
      rw [tl_h9 hp]
      omega
theorem ls_full {g : Nat → Nat → Int} {n s : Nat} (h : ∀ k, k < n → s.testBit k = true) : LeS g n s n 0 := ⟨⟨fun j => j, ⟨pm_i, fun m hm => ⟨fun _ => ⟨m, hm, rfl⟩, fun _ => h m hm⟩⟩, tl_n9⟩, fun _ _ => by rw [tl_n9]; exact Int.le_refl _⟩
theorem les_b {g : Nat → Nat → Int} {n s p : Nat} {L : Int} (hg : ∀ i j, i < n → j < n → 0 ≤ g i j ∧ g i j ≤ 1000) (hn : n ≤ 7) (h : LeS g n s p L) : 0 ≤ L ∧ L ≤ 7000 := by
  obtain ⟨⟨c, h1, h2⟩, -⟩ := h
  have z := sI_b (f := fun j => g (p + j) (c (p + j))) (B := 1000) (by omega) (m := n - p) (fun j hj => hg _ _ (by omega) (h1.1.1 _ (by omega))) (by omega)
  rw [← h2]
  unfold tlS
  omega
theorem les_fn {g : Nat → Nat → Int} {n s p : Nat} {L L' : Int} (h : LeS g n s p L) (h' : LeS g n s p L') : L = L' := by
  obtain ⟨⟨c, a1, a2⟩, a3⟩ := h
  obtain ⟨⟨d, b1, b2⟩, b3⟩ := h'
  have := a3 d b1
  have := b3 c a1
  omega
theorem ar_0 {n : Nat} {c : Nat → Nat} (h : Pm c n) : ArS n 0 0 c := ⟨h, fun m _ => ⟨fun z => absurd z (ck_t0 m), fun ⟨t, ht, _⟩ => absurd ht (Nat.not_lt_zero _)⟩⟩
/-! the best rows, the least of them -/
def OpE (g : Nat → Nat → Int) (n : Nat) (q : Nat → Nat) (p : Nat) : Prop := ∃ c, ExR n q p c ∧ ∀ d, Pm d n → tlS g c 0 n ≤ tlS g d 0 n
/-- the row of which each place has the lowest that can still be best -/
def GrR (g : Nat → Nat → Int) (n : Nat) (r : Nat → Nat) (p : Nat) : Prop := ∀ t, t < p → r t < n ∧ OpE g n (exq r t (r t)) (t + 1) ∧ ∀ k, k < r t → ¬ OpE g n (exq r t k) (t + 1)
theorem ope_cg {g : Nat → Nat → Int} {n p : Nat} {q q' : Nat → Nat} (h : ∀ j, j < p → q j = q' j) (ho : OpE g n q p) : OpE g n q' p := by
  obtain ⟨c, h1, h2⟩ := ho
  exact ⟨c, ⟨h1.1, fun j hj => (h1.2 j hj).trans (h j hj)⟩, h2⟩
theorem gr_fn {g : Nat → Nat → Int} {n p : Nat} {r r' : Nat → Nat} (h : GrR g n r p) (h' : GrR g n r' p) : ∀ t, t < p → r t = r' t := fun t => by
  induction t using Nat.strongRecOn with
  | ind t ih =>
    intro ht
    have a := h t ht
    have b := h' t ht
    have ag : ∀ k j, j < t + 1 → exq r t k j = exq r' t k j := fun k j hj => by
      by_cases c : j = t
      · rw [c, exq_k, exq_k]
      · rw [exq_o c, exq_o c]
        exact ih j (by omega) (by omega)
    rcases Nat.lt_trichotomy (r t) (r' t) with c | c | c
    · exact absurd (ope_cg (ag _) a.2.1) (b.2.2 _ c)
    · exact c
    · exact absurd (ope_cg (fun j hj => (ag _ j hj).symm) b.2.1) (a.2.2 _ c)
theorem exq_s {r : Nat → Nat} {t j : Nat} : exq r t (r t) j = r j := by
  by_cases c : j = t
  · rw [c, exq_k]
  · exact exq_o c
/-- of the reference: a best row, none of the best is less -/
theorem gr_of {g : Nat → Nat → Int} {n : Nat} {r : Nat → Nat} (hr : Pm r n) (hb : ∀ d, Pm d n → tlS g r 0 n ≤ tlS g d 0 n) (hl : ∀ d, Pm d n → tlS g d 0 n = tlS g r 0 n → ¬ Lx d r n) : GrR g n r n := fun t ht => by
  refine ⟨hr.1 t ht, ⟨r, ⟨hr, fun j _ => exq_s.symm⟩, hb⟩, fun k hk ⟨c, h1, h2⟩ => ?_⟩
  have e : tlS g c 0 n = tlS g r 0 n := by
    have := h2 r hr
    have := hb c h1.1
    omega
  refine hl c h1.1 e ⟨t, ht, fun j hj => ?_, ?_⟩
  · rw [h1.2 j (by omega), exq_o (by omega)]
  · rw [h1.2 t (by omega), exq_k]
    exact hk
/-- sums of the places ahead of p -/
theorem tl_sp {g : Nat → Nat → Int} {c : Nat → Nat} {n : Nat} : ∀ p, p ≤ n → tlS g c 0 n = sI (fun j => g j (c j)) p + tlS g c p n
  | 0, _ => by
    show _ = 0 + tlS g c 0 n
    omega
  | p + 1, hp => by
    rw [tl_sp p (by omega), tl_h9 (show p < n by omega)]
    show _ = sI (fun j => g j (c j)) p + g p (c p) + tlS g c (p + 1) n
    omega
/-- two rows of which the places ahead of p have the same set: put together -/
def mixR (a c : Nat → Nat) (p : Nat) : Nat → Nat := fun j => if j < p then a j else c j
theorem mix_a {a c : Nat → Nat} {p j : Nat} (h : j < p) : mixR a c p j = a j := if_pos h
theorem mix_c {a c : Nat → Nat} {p j : Nat} (h : ¬ j < p) : mixR a c p j = c j := if_neg h
theorem mix_m {n s p : Nat} {a c : Nat → Nat} (ha : ArS n s p a) (hc : ArS n s p c) (hp : p ≤ n) : Pm (mixR a c p) n := by
  have cr : ∀ i j, i < p → p ≤ j → j < n → a i = c j → False := fun i j h1 h2 h3 e => by
    have z := (ha.2 (a i) (ha.1.1 i (by omega))).mpr ⟨i, h1, rfl⟩
    rw [e] at z
    obtain ⟨t, ht, e2⟩ := (hc.2 (c j) (hc.1.1 j h3)).mp z
    have := hc.1.2 t j (by omega) h3 e2
    omega
  refine ⟨fun j hj => ?_, fun i j hi hj e => ?_⟩
  · by_cases d : j < p
    · rw [mix_a d]
      exact ha.1.1 j hj
    · rw [mix_c d]
      exact hc.1.1 j hj
  · by_cases d : i < p
    · rw [mix_a d] at e
      by_cases f : j < p
      · rw [mix_a f] at e
        exact ha.1.2 i j hi hj e
      · rw [mix_c f] at e
        exact (cr i j d (by omega) hj e).elim
    · rw [mix_c d] at e
      by_cases f : j < p
      · rw [mix_a f] at e
        exact (cr j i f (by omega) hi e.symm).elim
      · rw [mix_c f] at e
        exact hc.1.2 i j hi hj e
theorem mix_t {g : Nat → Nat → Int} {n p : Nat} {a c : Nat → Nat} (hp : p ≤ n) : tlS g (mixR a c p) 0 n = sI (fun j => g j (a j)) p + tlS g c p n := by
  rw [tl_sp p hp, sI_cg (g := fun j => g j (a j)) (fun j hj => by
    show g j (mixR a c p j) = g j (a j)
    rw [mix_a hj]), tl_cg9 (d := c) (fun j h1 h2 => mix_c (by omega))]
/-- the class's step: the lowest k by which what is left is still least -/
theorem op_iff {g : Nat → Nat → Int} {n s p k : Nat} {r : Nat → Nat} {L L1 : Int} (hp : p < n) (ho : OpE g n r p) (hs : ∀ c, ExR n r p c → ArS n s p c) (hk : k < n) (hn : ¬ s.testBit k = true) (hL : LeS g n s p L) (hL1 : LeS g n (s ||| 2 ^ k) (p + 1) L1) : g p k + L1 = L ↔ OpE g n (exq r p k) (p + 1) := by
  obtain ⟨c0, hc0, hb0⟩ := ho
  have a0 := hs c0 hc0
  obtain ⟨⟨c1, f1, f2⟩, f3⟩ := hL
  have e0 := tl_sp (g := g) (c := c0) (n := n) p (by omega)
  have x0 : tlS g c0 p n = L := by
    have u := f3 c0 a0
    have v := hb0 _ (mix_m a0 f1 (by omega))
    rw [mix_t (by omega)] at v
    omega
  refine ⟨fun z => ?_, fun ⟨c, h1, h2⟩ => ?_⟩
  · obtain ⟨⟨c2, g1, g2⟩, -⟩ := hL1
    obtain ⟨d, d1, d2, d3⟩ := ar_d g1 hp hk hn
    refine ⟨mixR c0 d p, ⟨mix_m a0 d1 (by omega), fun j hj => ?_⟩, fun b hb => ?_⟩
    · by_cases q : j = p
      · rw [q, exq_k, mix_c (by omega)]
        exact d2
      · rw [exq_o q, mix_a (by omega)]
        exact hc0.2 j (by omega)
    · have v := hb0 b hb
      rw [mix_t (by omega), tl_h9 hp, d2, tl_cg9 (d := c2) (fun j h1 h2 => d3 j (by omega)), g2]
      omega
  · have hc : ExR n r p c := ⟨h1.1, fun j hj => by rw [h1.2 j (by omega), exq_o (by omega)]⟩
    have ck : c p = k := by
      have z := h1.2 p (by omega)
      rw [exq_k] at z
      exact z
    have ac := hs c hc
    have u := (ar_u ac hp).2.2
    rw [ck] at u
    have w1 := hL1.2 c u
    have w2 : ∃ c2, ArS n (s ||| 2 ^ k) (p + 1) c2 ∧ tlS g c2 (p + 1) n = L1 := hL1.1
    obtain ⟨c2, g1, g2⟩ := w2
    obtain ⟨d, d1, d2, d3⟩ := ar_d g1 hp hk hn
    have w3 := f3 d d1
    rw [tl_h9 hp, d2, tl_cg9 (d := c2) (fun j h1 h2 => d3 j (by omega)), g2] at w3
    have e1 := tl_sp (g := g) (c := c) (n := n) p (by omega)
    rw [tl_h9 hp, ck] at e1
    have e2 : sI (fun j => g j (c j)) p = sI (fun j => g j (c0 j)) p := sI_cg (fun j hj => by
      show g j (c j) = g j (c0 j)
      rw [hc.2 j hj, hc0.2 j hj])
    have v := h2 c0 hc0.1
    have v2 := hb0 c h1.1
    omega
/-! what is answered -/
def tldP (G : Mem) (i : Nat) : Prop := i < 40 ∧ tld G i
def ckG (G : Mem) (B : Nat → Int) (w : Nat → Nat) (j k : Nat) : Int := iab ((G 1 (w k)).toInt - B (2 * j)) + iab ((G 2 (w k)).toInt - B (2 * j + 1))
def CkW (n v S : Int) : Prop := (1 ≤ n ∧ n ≤ 7) ∧ (v = 100 ∨ (0 ≤ v ∧ v < n)) ∧ 2 * n ≤ S
def MbN (B : Nat → Int) (n : Nat) : Prop := ∀ j, j < n → B (2 * j) ≤ 39 ∧ B (2 * j + 1) ≤ 20
def CkA (G : Mem) (B : Nat → Int) (w : Nat → Nat) (n : Nat) (v r : Int) : Prop := (v = 100 ∧ LeS (ckG G B w) n 0 0 r) ∨ (¬ v = 100 ∧ ∃ q, GrR (ckG G B w) n q (v.toNat + 1) ∧ r = ((w (q v.toNat) : Nat) : Int))
def CkL (G : Mem) (B : Nat → Int) (n : Nat) (v r : Int) : Prop := ((∃ m w, m < n ∧ LsI (tldP G) m 40 w) ∧ r = -2) ∨ ∃ i w, (i ≤ 40 ∧ LsI (tldP G) n i w) ∧ ((¬ MbN B n ∧ r = -3) ∨ (MbN B n ∧ CkA G B w n v r))
def CkQ (G : Mem) (B : Nat → Int) (n v S r : Int) : Prop := (¬ CkW n v S ∧ r = -1) ∨ (CkW n v S ∧ CkL G B n.toNat v r)
theorem tl_g9 {g g' : Nat → Nat → Int} {c : Nat → Nat} {n p : Nat} (hp : Pm c n) (h : ∀ j k, j < n → k < n → g j k = g' j k) : tlS g c p n = tlS g' c p n := sI_cg (fun j hj => h _ _ (by omega) (hp.1 _ (by omega)))
theorem les_g {g g' : Nat → Nat → Int} {n s p : Nat} {L : Int} (h : LeS g n s p L) (e : ∀ j k, j < n → k < n → g j k = g' j k) : LeS g' n s p L := by
  obtain ⟨⟨c, a1, a2⟩, a3⟩ := h
  exact ⟨⟨c, a1, by rw [← tl_g9 a1.1 e]; exact a2⟩, fun d hd => by rw [← tl_g9 hd.1 e]; exact a3 d hd⟩
theorem ope_g {g g' : Nat → Nat → Int} {n p : Nat} {q : Nat → Nat} (h : OpE g n q p) (e : ∀ j k, j < n → k < n → g j k = g' j k) : OpE g' n q p := by
  obtain ⟨c, h1, h2⟩ := h
  exact ⟨c, h1, fun d hd => by rw [← tl_g9 h1.1 e, ← tl_g9 hd e]; exact h2 d hd⟩
theorem gr_g {g g' : Nat → Nat → Int} {n p : Nat} {r : Nat → Nat} (h : GrR g n r p) (e : ∀ j k, j < n → k < n → g j k = g' j k) : GrR g' n r p := fun t ht => ⟨(h t ht).1, ope_g (h t ht).2.1 e, fun k hk z => (h t ht).2.2 k hk (ope_g z (fun i j hi hj => (e i j hi hj).symm))⟩
theorem ckg_e {G : Mem} {B B' : Nat → Int} {w w' : Nat → Nat} {n : Nat} (hw : ∀ k, k < n → w k = w' k) (hB : ∀ j, j < 2 * n → B j = B' j) : ∀ j k, j < n → k < n → ckG G B w j k = ckG G B' w' j k := fun j k hj hk => by
  unfold ckG
  rw [hw k hk, hB (2 * j) (by omega), hB (2 * j + 1) (by omega)]
theorem mkb_e {B B' : Nat → Int} {n : Nat} (h : MbN B n) (hB : ∀ j, j < 2 * n → B j = B' j) : MbN B' n := fun j hj => by
  rw [← hB (2 * j) (by omega), ← hB (2 * j + 1) (by omega)]
  exact h j hj
theorem ck_fn {G : Mem} {B B' : Nat → Int} {n : Nat} {v r r' : Int} (hB : ∀ j, j < 2 * n → B j = B' j) (hv : v = 100 ∨ (0 ≤ v ∧ v < n)) (h : CkL G B n v r) (h' : CkL G B' n v r') : r = r' := by
  rcases h with ⟨⟨m, w, a1, a2⟩, a3⟩ | ⟨i, w, ⟨b1, b2⟩, b3⟩
  · rcases h' with ⟨-, c3⟩ | ⟨i', w', ⟨d1, d2⟩, -⟩
    · rw [a3, c3]
    · exact (ls_no d2 d1 a2 a1).elim
  · rcases h' with ⟨⟨m, w', a1, a2⟩, a3⟩ | ⟨i', w', ⟨d1, d2⟩, d3⟩
    · exact (ls_no b2 b1 a2 a1).elim
    · have ew : ∀ k, k < n → w k = w' k := fun k hk => ls_eq b2 d2 k hk hk
      have eg := ckg_e (G := G) ew hB
      rcases b3 with ⟨x1, x2⟩ | ⟨x1, x2⟩
      · rcases d3 with ⟨y1, y2⟩ | ⟨y1, y2⟩
        · rw [x2, y2]
        · exact absurd (mkb_e y1 (fun j hj => (hB j hj).symm)) x1
      · rcases d3 with ⟨y1, y2⟩ | ⟨y1, y2⟩
        · exact absurd (mkb_e x1 hB) y1
        · rcases x2 with ⟨z1, z2⟩ | ⟨z1, q, z2, z3⟩
          · rcases y2 with ⟨-, u2⟩ | ⟨u1, -⟩
            · exact les_fn (les_g z2 eg) u2
            · exact absurd z1 u1
          · rcases y2 with ⟨u1, -⟩ | ⟨-, q', u2, u3⟩
            · exact absurd u1 z1
            · have e := gr_fn (gr_g z2 eg) u2 v.toNat (by omega)
              rw [z3, u3, ← e, ew _ (z2 v.toNat (by omega)).1]
theorem ff_chk {MC MM : Mem} {r r' n v : Int32} (h : FF MC MM) (eS : (MC 19 1).toInt = (MM 0 6).toInt) (hT : ∀ j : Nat, (j : Int) < (MM 0 6).toInt → (MC 20 j).toInt = ((MM 5 j) &&& (nI 255)).toInt) (h1 : CkQ (FdC MC 1) (fun j => (MC 20 j).toInt) n.toInt v.toInt (MC 19 1).toInt r.toInt) (h2 : CkQ (FdR MM 1) (fun j => ((MM 5 j) &&& (nI 255)).toInt) n.toInt v.toInt (MM 0 6).toInt r'.toInt) : r = r' := by
  rw [h.1.1, eS] at h1
  rcases h1 with ⟨a, b⟩ | ⟨a, b⟩
  · rcases h2 with ⟨-, d⟩ | ⟨c, -⟩
    · exact t_of (b.trans d.symm)
    · exact absurd c a
  · rcases h2 with ⟨c, -⟩ | ⟨-, d⟩
    · exact absurd a c
    · obtain ⟨a1, a2, a3⟩ := a
      exact t_of (ck_fn (fun j hj => hT j (by omega)) (a2.imp id (fun z => ⟨z.1, by omega⟩)) b d)
/-! how many are told -/
theorem sm_ls {G : Mem} (h : TdB G) : ∀ i, i ≤ 40 → ∃ m w, LsI (tldP G) m i w ∧ (smT 4 G i).toInt = ((m : Nat) : Int) ∧ m ≤ i
  | 0, _ => ⟨0, fun _ => 0, ls_0, nI0, Nat.le_refl _⟩
  | i + 1, hi => by
    obtain ⟨m, w, h1, h2, h3⟩ := sm_ls h i (by omega)
    rcases h i (by omega) with c | c
    · refine ⟨m, w, ls_n h1 (fun z => z.2 c), ?_, by omega⟩
      rw [← sm_n (v := smT 4 G i) c rfl]
      have f := t_add (smT 4 G i) (nI 0)
      have z := nI0
      omega
    · have nz : ¬ (G 4 i).toInt = 0 := by omega
      refine ⟨m + 1, fun k => if k = m then i else w k, ls_y h1 ⟨by omega, nz⟩ (fun k hk => if_neg (by omega)) (if_pos rfl), ?_, by omega⟩
      rw [← sm_y (v := smT 4 G i) (w := G 4 i) nz rfl rfl]
      have f := t_add (smT 4 G i) (G 4 i)
      omega
theorem ls_tk {P : Nat → Prop} {m i n : Nat} {w : Nat → Nat} (h : LsI P m i w) (hn : 1 ≤ n) (hm : n ≤ m) : w (n - 1) + 1 ≤ i ∧ LsI P n (w (n - 1) + 1) w := by
  refine ⟨(h.1 (n - 1) (by omega)).1, fun k hk => ⟨?_, (h.1 k (by omega)).2⟩, fun k l a b => h.2.1 k l a (by omega), fun t ht hp => ?_⟩
  · by_cases c : k = n - 1
    · rw [c]
      omega
    · have := h.2.1 k (n - 1) (by omega) (by omega)
      omega
  · obtain ⟨k, hk, e⟩ := h.2.2 t (by have := (h.1 (n - 1) (by omega)).1; omega) hp
    refine ⟨k, ?_, e⟩
    by_cases c : k < n
    · exact c
    · have := h.2.1 (n - 1) k (by omega) hk
      omega
theorem cnt_y {G : Mem} (h : TdB G) {n : Nat} {r : Int32} (hr : r = smT 4 G 40) (hn : 1 ≤ n) (c : (n : Int) ≤ r.toInt) : ∃ i w, i ≤ 40 ∧ LsI (tldP G) n i w := by
  obtain ⟨m, w, h1, h2, h3⟩ := sm_ls h 40 (Nat.le_refl _)
  rw [hr] at c
  have z := ls_tk h1 hn (by omega)
  exact ⟨_, w, z.1, z.2⟩
theorem cnt_n {G : Mem} (h : TdB G) {n : Nat} {r : Int32} (hr : r = smT 4 G 40) (c : ¬ (n : Int) ≤ r.toInt) : ∃ m w, m < n ∧ LsI (tldP G) m 40 w := by
  obtain ⟨m, w, h1, h2, h3⟩ := sm_ls h 40 (Nat.le_refl _)
  rw [hr] at c
  exact ⟨m, w, by omega, h1⟩
theorem ml_s {P : Nat → Prop} {n i m : Nat} {w w1 : Nat → Nat} {y r : Int32} (hl : LsI P n i w) (hi : i ≤ 40) (h : LsI P m (ix y) w1) (hm : m < n) (hy : 0 ≤ y.toInt ∧ y.toInt ≤ 40) (hr : NdP P y r) : (0 ≤ r.toInt ∧ r.toInt < 40) ∧ P (ix r) ∧ ∀ w2 : Nat → Nat, (∀ k, k < m → w2 k = w1 k) → w2 m = ix r → LsI P (m + 1) (ix r + 1) w2 := by
  have iy := t_ixn y hy.1
  rcases hr with ⟨a, b⟩ | ⟨a, d, e, g⟩
  · exact (ls_no hl hi (ls_up h (by omega) (fun t h1 h2 => b t (by omega) h2)) hm).elim
  · have ir := t_ixn r a.1
    exact ⟨a, e, fun w2 e1 e2 => ls_y (ls_up h (by omega) (fun t h1 h2 => g t (by omega) h2)) e e1 e2⟩
/-! what is measured -/
def ckM (G : Mem) (X Y : Nat → Int32) (w : Nat → Nat) (j k : Nat) : Int := iab ((G 1 (w k)).toInt - (X j).toInt) + iab ((G 2 (w k)).toInt - (Y j).toInt)
def MkC (X Y : Nat → Int32) (n : Nat) : Prop := ∀ j, j < n → (0 ≤ (X j).toInt ∧ (X j).toInt ≤ 39) ∧ 0 ≤ (Y j).toInt ∧ (Y j).toInt ≤ 20
theorem iab_w {a b : Int} (ha : 0 ≤ a ∧ a ≤ 255) (hb : 0 ≤ b ∧ b ≤ 255) : 0 ≤ iab (a - b) ∧ iab (a - b) ≤ 255 := by
  have z := iab_bd (a - b)
  omega
theorem ab_iab {a b : Int32} (ha : 0 ≤ a.toInt ∧ a.toInt ≤ 255) (hb : 0 ≤ b.toInt ∧ b.toInt ≤ 255) : (ab (a - b)).toInt = iab (a.toInt - b.toInt) := by
  have e : (a - b).toInt = a.toInt - b.toInt := by
    have f := t_sub a b
    omega
  rw [t_ab (by omega), e]
  rfl
theorem me_v {a b x y : Int32} (ha : 0 ≤ a.toInt ∧ a.toInt ≤ 255) (hb : 0 ≤ b.toInt ∧ b.toInt ≤ 255) (hx : 0 ≤ x.toInt ∧ x.toInt ≤ 255) (hy : 0 ≤ y.toInt ∧ y.toInt ≤ 255) : (ab (a - x) + ab (b - y)).toInt = iab (a.toInt - x.toInt) + iab (b.toInt - y.toInt) := by
  have e1 := ab_iab ha hx
  have e2 := ab_iab hb hy
  have z1 := iab_w ha hx
  have z2 := iab_w hb hy
  have f := t_add (ab (a - x)) (ab (b - y))
  omega
theorem me_ix {y k : Int32} (hy : 0 ≤ y.toInt ∧ y.toInt < 7) (hk : 0 ≤ k.toInt ∧ k.toInt < 7) : ix (y * (nI 7) + k) = ix y * 7 + ix k := by
  have a := t_mulR y 7 (by omega) (by omega)
  have f := t_add (y * (nI 7)) k
  have i1 := t_ixn y hy.1
  have i2 := t_ixn k hk.1
  have i3 := t_ix (y * (nI 7) + k)
  omega
theorem told_b {G : Mem} {i : Nat} (hG : GdF G) (h : tldP G i) : (0 ≤ (G 1 i).toInt ∧ (G 1 i).toInt ≤ 39) ∧ 0 ≤ (G 2 i).toInt ∧ (G 2 i).toInt ≤ 20 := by
  have z := hG.2.2 i h.1 h.2
  exact ⟨z.1, by omega, z.2.1.2⟩
theorem ckm_b {G : Mem} {X Y : Nat → Int32} {w : Nat → Nat} {n i : Nat} (hG : GdF G) (hl : LsI (tldP G) n i w) (hm : MkC X Y n) : ∀ j k, j < n → k < n → 0 ≤ ckM G X Y w j k ∧ ckM G X Y w j k ≤ 1000 := fun j k hj hk => by
  have a := told_b hG (hl.1 k hk).2
  have b := hm j hj
  have z1 := iab_w (a := (G 1 (w k)).toInt) (b := (X j).toInt) (by omega) (by omega)
  have z2 := iab_w (a := (G 2 (w k)).toInt) (b := (Y j).toInt) (by omega) (by omega)
  unfold ckM
  omega
theorem mt_s {G : Mem} {X Y A A2 : Nat → Int32} {w w2 : Nat → Nat} {m N : Nat} (h : ∀ j k, j < N → k < m → (A (j * 7 + k)).toInt = ckM G X Y w j k) (hN : N ≤ 7) (hm : m < 7) (e1 : ∀ k, k < m → w2 k = w k) (h2 : ∀ j, j < N → (A2 (j * 7 + m)).toInt = ckM G X Y w2 j m) (h3 : ∀ j k, j < 7 → k < 7 → ¬ k = m → A2 (j * 7 + k) = A (j * 7 + k)) : ∀ j k, j < N → k < m + 1 → (A2 (j * 7 + k)).toInt = ckM G X Y w2 j k := fun j k hj hk => by
  by_cases c : k = m
  · rw [c]
    exact h2 j hj
  · rw [h3 j k (by omega) (by omega) c, h j k hj (by omega)]
    unfold ckM
    rw [e1 k (by omega)]
/-! the class's rows -/
theorem ww_x {a k : Int32} (ha : 0 ≤ a.toInt ∧ a.toInt < 128) (hk : 0 ≤ k.toInt ∧ k.toInt < 7) : (a ||| shl (nI 1) k) = nI (ix a ||| 2 ^ ix k) ∧ (a ||| shl (nI 1) k).toInt = ((ix a ||| 2 ^ ix k : Nat) : Int) ∧ (ix a ||| 2 ^ ix k) < 128 := by
  have i1 := t_ixn a ha.1
  have i2 := t_ixn k hk.1
  have e := ck_or2 (ix a) (by omega) (ix k) (by omega)
  rw [nI_ixx ha.1, nI_ixx hk.1] at e
  have l : ix a ||| 2 ^ ix k < 128 := ck_2 (n := 7) (show ix a < 128 by omega) (by omega)
  exact ⟨e, by rw [e]; exact t_lit _ (by omega), l⟩
theorem ww_t {a k : Int32} (ha : 0 ≤ a.toInt ∧ a.toInt < 128) (hk : 0 ≤ k.toInt ∧ k.toInt < 7) : (a ||| shl (nI 1) k).toInt = a.toInt ↔ (ix a).testBit (ix k) = true := by
  have i1 := t_ixn a ha.1
  have i2 := t_ixn k hk.1
  have z := ww_x ha hk
  rw [← ck_in (ix a) (by omega) (ix k) (by omega), z.2.1]
  omega
theorem ck_un {n s : Nat} (hn : n ≤ 7) (hs : s < 2 ^ n) (h : bcN s < n) : ∃ k, k < n ∧ ¬ s.testBit k = true := Classical.byContradiction (fun z => by
  have y := (ck_n n (by omega) s hs).2.2 (fun k hk => Classical.byContradiction (fun q => z ⟨k, hk, q⟩))
  omega)
theorem fb_s {g : Nat → Nat → Int} {n s p k : Nat} {A R : Nat → Int32} {y y' r : Int32} (h : LkI g n s p k y.toInt) (hn : n ≤ 7) (hs : s < 2 ^ n) (hp : p = bcN s) (hpn : p < n) (hk : k < n) (hg : ∀ j k, j < n → k < n → (A (j * 7 + k)).toInt = g j k ∧ 0 ≤ g j k ∧ g j k ≤ 1000) (hL : ∀ s', s < s' → s' < 2 ^ n → LeS g n s' (bcN s') (R s').toInt) (hr : r = if s.testBit k = true then nI 2147483647 else A (p * 7 + k) + R (s ||| 2 ^ k)) (hy : y' = mn y r) : LkI g n s p (k + 1) y'.toInt := by
  have l := (ck_p n (by omega)).2
  have m := t_mn y r
  by_cases c : s.testBit k = true
  · rw [if_pos c] at hr
    have e : y' = y := t_of (by
      rw [hy, m, hr]
      have z := t_rng y
      have z2 := t_lit 2147483647
      omega)
    rw [e]
    exact lk_nn h c
  · rw [if_neg c] at hr
    have lt := (ck_lt s (by omega) k (by omega)).resolve_right c
    have L1 := hL _ lt (ck_2 hs hk)
    rw [(ck_bc s (by omega) k (by omega)).resolve_left c, ← hp] at L1
    have b := les_b (fun i j hi hj => (hg i j hi hj).2) hn L1
    have gk := hg p k hpn hk
    have e : r.toInt = g p k + (R (s ||| 2 ^ k)).toInt := by
      rw [hr]
      have f := t_add (A (p * 7 + k)) (R (s ||| 2 ^ k))
      omega
    exact lk_yy h c L1 (by omega) (by rw [hy, m, e])
/-! step by step -/
def SoI (g : Nat → Nat → Int) (n s p : Nat) (A : Nat → Int32) (y : Int32) : Prop := (s < 2 ^ n ∧ bcN s = p) ∧ ∃ r, GrR g n r p ∧ (∀ c, ExR n r p c → ArS n s p c) ∧ OpE g n r p ∧ (1 ≤ p → y = A (r (p - 1)))
def HtI (g : Nat → Nat → Int) (s p : Nat) (R : Nat → Int32) (k : Nat) : Prop := ¬ s.testBit k = true ∧ g p k + (R (s ||| 2 ^ k)).toInt = (R s).toInt
theorem so_0 {g : Nat → Nat → Int} {n : Nat} {A : Nat → Int32} {y : Int32} {L : Int} (hn : n ≤ 7) (hL : LeS g n 0 0 L) : SoI g n 0 0 A y := by
  obtain ⟨⟨c, h1, h2⟩, h3⟩ := hL
  exact ⟨⟨(ck_p n (by omega)).1, ck_b0⟩, fun j => j, fun t ht => absurd ht (Nat.not_lt_zero _), fun c hc => ar_0 hc.1, ⟨c, ⟨h1.1, fun j hj => absurd hj (Nat.not_lt_zero _)⟩, fun d hd => by rw [h2]; exact h3 d (ar_0 hd)⟩, fun z => absurd z (by omega)⟩
theorem so_s {g : Nat → Nat → Int} {n s p k : Nat} {A R : Nat → Int32} {y y' : Int32} (hn : n ≤ 7) (h : SoI g n s p A y) (hp : p < n) (hL : ∀ s, s < 2 ^ n → LeS g n s (bcN s) (R s).toInt) (hk : k < n) (ht : HtI g s p R k) (hlow : ∀ j, j < k → ¬ HtI g s p R j) (hy : y' = A k) : SoI g n (s ||| 2 ^ k) (p + 1) A y' := by
  obtain ⟨⟨h1, h2⟩, r, h3, h4, h5, -⟩ := h
  have l := (ck_p n (by omega)).2
  have L0 := hL s h1
  rw [h2] at L0
  have bc : ∀ j, j < n → ¬ s.testBit j = true → bcN (s ||| 2 ^ j) = p + 1 := fun j hj q => by rw [(ck_bc s (by omega) j (by omega)).resolve_left q, h2]
  have hit : ∀ j, j < n → ¬ s.testBit j = true → (g p j + (R (s ||| 2 ^ j)).toInt = (R s).toInt ↔ OpE g n (exq r p j) (p + 1)) := fun j hj q => op_iff hp h5 h4 hj q L0 (by
    have z := hL _ (ck_2 h1 hj)
    rw [bc j hj q] at z
    exact z)
  refine ⟨⟨ck_2 h1 hk, bc k hk ht.1⟩, exq r p k, fun t ht2 => ?_, fun c hc => ?_, (hit k hk ht.1).mp ht.2, fun _ => by rw [Nat.add_sub_cancel, exq_k]; exact hy⟩
  · by_cases c : t = p
    · rw [c, exq_k]
      have ag : ∀ (i j : Nat), exq (exq r p k) p i j = exq r p i j := fun i j => by
        by_cases d : j = p
        · rw [d, exq_k, exq_k]
        · rw [exq_o d, exq_o d, exq_o d]
      refine ⟨hk, ope_cg (fun j _ => (ag k j).symm) ((hit k hk ht.1).mp ht.2), fun j hj z => ?_⟩
      have z2 : OpE g n (exq r p j) (p + 1) := ope_cg (fun i _ => ag j i) z
      by_cases d : s.testBit j = true
      · obtain ⟨x, x1, -⟩ := z2
        have xj : x p = j := by
          have q := x1.2 p (by omega)
          rw [exq_k] at q
          exact q
        have u := (ar_u (h4 x ⟨x1.1, fun i hi => by rw [x1.2 i (by omega), exq_o (by omega)]⟩) hp).2.1
        rw [xj] at u
        exact u d
      · exact hlow j hj ⟨d, (hit j (by omega) d).mpr z2⟩
    · have z := h3 t (by omega)
      have ag : ∀ (i j : Nat), j < t + 1 → exq r t i j = exq (exq r p k) t i j := fun i j hj => by
        by_cases d : j = t
        · rw [d, exq_k, exq_k]
        · rw [exq_o d, exq_o d, exq_o (by omega)]
      rw [exq_o c]
      exact ⟨z.1, ope_cg (ag _) z.2.1, fun i hi q => z.2.2 i hi (ope_cg (fun j hj => (ag i j hj).symm) q)⟩
  · have u := (ar_u (h4 c ⟨hc.1, fun i hi => by rw [hc.2 i (by omega), exq_o (by omega)]⟩) hp).2.2
    have ck : c p = k := by
      have q := hc.2 p (by omega)
      rw [exq_k] at q
      exact q
    rw [ck] at u
    exact u
theorem so_n {g : Nat → Nat → Int} {n s p : Nat} {A R : Nat → Int32} {y : Int32} (hn : n ≤ 7) (h : SoI g n s p A y) (hp : p < n) (hL : ∀ s, s < 2 ^ n → LeS g n s (bcN s) (R s).toInt) (hlow : ∀ j, j < n → ¬ HtI g s p R j) : False := by
  obtain ⟨⟨h1, h2⟩, -⟩ := h
  have l := (ck_p n (by omega)).2
  have L0 := hL s h1
  rw [h2] at L0
  obtain ⟨⟨c, c1, c2⟩, c3⟩ := L0
  have u := ar_u c1 hp
  have z := hL _ (ck_2 h1 u.1)
  rw [(ck_bc s (by omega) (c p) (by omega)).resolve_left u.2.1, h2] at z
  obtain ⟨⟨d, d1, d2⟩, d3⟩ := z
  have a := d3 c u.2.2
  obtain ⟨x, x1, x2, x3⟩ := ar_d d1 hp u.1 u.2.1
  have b := c3 x x1
  rw [tl_h9 hp, x2, tl_cg9 (d := d) (fun j q1 q2 => x3 j (by omega)), d2] at b
  rw [tl_h9 hp] at c2
  exact hlow (c p) u.1 ⟨u.2.1, by omega⟩
theorem so_e {G : Mem} {B : Nat → Int} {g : Nat → Nat → Int} {n s p : Nat} {A : Nat → Int32} {y : Int32} {v : Int} (h : SoI g n s p A y) (hp : p = v.toNat + 1) (hv : ¬ v = 100) (hA : ∀ k, k < n → 0 ≤ (A k).toInt) (hg : ∀ j k, j < n → k < n → g j k = ckG G B (RwN A) j k) : CkA G B (RwN A) n v y.toInt := by
  obtain ⟨-, r, h3, -, -, h6⟩ := h
  rw [hp] at h3 h6
  have z := h6 (by omega)
  rw [Nat.add_sub_cancel] at z
  refine Or.inr ⟨hv, r, gr_g h3 hg, ?_⟩
  rw [z]
  exact (t_ixn _ (hA _ (h3 v.toNat (by omega)).1)).symm
/-! the reference: the first of the best rows -/
def BsR (C : (Nat → Nat) → Int) (n : Nat) (L A : Nat → Int32) (y : Int32) (b : Nat → Nat) : Prop := Pm b n ∧ y.toInt = C b ∧ (∀ d, Pm d n → Lx d b n → C b < C d) ∧ ∀ j, j < n → A j = L (b j)
def CmR (C : (Nat → Nat) → Int) (n : Nat) (L A : Nat → Int32) (r : Nat → Nat) (y g : Int32) : Prop := Pm r n ∧ (¬ g.toInt = 0 → (∀ b, Pm b n → Lx b r n → y.toInt ≤ C b) ∧ (y.toInt = 1000000 ∨ ∃ b, BsR C n L A y b)) ∧ (g.toInt = 0 → (∀ b, Pm b n → y.toInt ≤ C b) ∧ ∃ b, BsR C n L A y b)
theorem cmr_0 {C : (Nat → Nat) → Int} {n : Nat} {L A : Nat → Int32} {r : Nat → Nat} (hr : Pm r n) (h : ∀ j, j < n → r j = j) : CmR C n L A r (nI 1000000) (nI 1) := by
  refine ⟨hr, fun _ => ⟨fun b hb hl => ?_, Or.inl (t_lit 1000000)⟩, fun z => absurd z ne1⟩
  exact absurd hl (as_le (s := 0) hr hb (fun i j _ h2 h3 => by rw [h i (by omega), h j h3]; exact h2) (fun j hj => absurd hj (Nat.not_lt_zero _)))
theorem cmr_s {C : (Nat → Nat) → Int} {n : Nat} {L A A' : Nat → Int32} {r r' : Nat → Nat} {y g y' g' : Int32} {v : Int} (h : CmR C n L A r y g) (hg : ¬ g.toInt = 0) (hC : ∀ b b', (∀ j, j < n → b j = b' j) → C b = C b') (hv : v = C r) (hb : 0 ≤ v ∧ v < 1000000) (hy : (y.toInt ≤ v ∧ y' = y ∧ ∀ j, j < n → A' j = A j) ∨ (¬ y.toInt ≤ v ∧ y'.toInt = v ∧ ∀ j, j < n → A' j = L (r j))) (hr' : Pm r' n) (h1 : ¬ g'.toInt = 0 → NxR r r' n 0) (h2 : g'.toInt = 0 → DsR r n 0 ∧ r' = r) : CmR C n L A' r' y' g' := by
  obtain ⟨p1, a, -⟩ := h
  have a1 := (a hg).1
  have a2 := (a hg).2
  clear a
  have all : ∀ b, Pm b n → ¬ Lx r b n → y'.toInt ≤ C b := fun b q1 q3 => by
    have le : y'.toInt ≤ v ∧ y'.toInt ≤ y.toInt := by
      rcases hy with ⟨z1, z2, -⟩ | ⟨z1, z2, -⟩
      · rw [z2]
        omega
      · omega
    rcases lx_tri r b n with c | c | c
    · exact absurd c q3
    · have := a1 b q1 c
      omega
    · rw [← hC r b c, ← hv]
      exact le.1
  have at9 : ∃ b, BsR C n L A' y' b := by
    rcases hy with ⟨z1, z2, z3⟩ | ⟨z1, z2, z3⟩
    · rcases a2 with z | ⟨b, q1, q2, q3, q4⟩
      · omega
      · exact ⟨b, q1, by rw [z2]; exact q2, q3, fun j hj => (z3 j hj).trans (q4 j hj)⟩
    · refine ⟨r, p1, z2.trans hv, fun d hd hl => ?_, z3⟩
      have := a1 d hd hl
      omega
  exact ⟨hr', fun z => ⟨fun b q1 q3 => all b q1 (fun w => (h1 z).2.2 b q1 w q3), Or.inr at9⟩, fun z => ⟨fun b q1 => all b q1 (ds_ge p1 q1 (h2 z).1 (fun j hj => absurd hj (Nat.not_lt_zero _))), at9⟩⟩
theorem cmr_e {G : Mem} {B : Nat → Int} {n : Nat} {L A : Nat → Int32} {r : Nat → Nat} {y g : Int32} {v : Int} (h : CmR (fun c => tlS (ckG G B (RwN L)) c 0 n) n L A r y g) (hg : g.toInt = 0) : (v = 100 → CkA G B (RwN L) n v y.toInt) ∧ (¬ v = 100 → v.toNat < n → (∀ k, k < n → 0 ≤ (L k).toInt) → CkA G B (RwN L) n v (A v.toNat).toInt) := by
  obtain ⟨h1, b, q1, q2, q3, q4⟩ := h.2.2 hg
  refine ⟨fun z => Or.inl ⟨z, ⟨b, ar_0 q1, q2.symm⟩, fun c hc => h1 c hc.1⟩, fun z z2 z3 => Or.inr ⟨z, b, fun t ht => ?_, ?_⟩⟩
  · exact gr_of q1 (fun d hd => by have := h1 d hd; rw [q2] at this; exact this) (fun d hd e hl => by
      have z9 : tlS (ckG G B (RwN L)) b 0 n < tlS (ckG G B (RwN L)) d 0 n := q3 d hd hl
      omega) t (by omega)
  · rw [q4 _ z2]
    exact (t_ixn _ (z3 _ (q1.1 _ z2))).symm
theorem tl_0 {g : Nat → Nat → Int} {c : Nat → Nat} {n : Nat} : tlS g c 0 n = sI (fun j => g j (c j)) n := sI_cg (fun j hj => by rw [Nat.zero_add])
theorem rd_ix {y : Int32} (h : 0 ≤ y.toInt ∧ y.toInt < 7) : ((nI 2) * y).toInt = 2 * y.toInt ∧ ix ((nI 2) * y) = 2 * ix y ∧ (((nI 2) * y) + (nI 1)).toInt = 2 * y.toInt + 1 ∧ ix (((nI 2) * y) + (nI 1)) = 2 * ix y + 1 := by
  have a := t_mulL y 2 (by omega) (by omega)
  have u := i_up (x := (nI 2) * y) (by omega)
  have i1 := t_ixn y h.1
  have i2 := t_ix ((nI 2) * y)
  omega
def RdI (A X Y : Nat → Int32) (m : Nat) : Prop := ∀ j, j < m → X j = A (2 * j) ∧ Y j = A (2 * j + 1) ∧ (A (2 * j)).toInt ≤ 39 ∧ (A (2 * j + 1)).toInt ≤ 20
theorem rd_s {A X Y X' Y' : Nat → Int32} {m : Nat} (h : RdI A X Y m) (e1 : ∀ j, j < m → X' j = X j) (e2 : ∀ j, j < m → Y' j = Y j) (e3 : X' m = A (2 * m)) (e4 : Y' m = A (2 * m + 1)) (b1 : (X' m).toInt ≤ 39) (b2 : (Y' m).toInt ≤ 20) : RdI A X' Y' (m + 1) := fun j hj => by
  by_cases c : j = m
  · rw [c, ← e3, ← e4]
    exact ⟨rfl, rfl, b1, b2⟩
  · rw [e1 j (by omega), e2 j (by omega)]
    exact h j (by omega)
theorem rd_k {A X Y : Nat → Int32} {m : Nat} (h : RdI A X Y m) (hB : ∀ j, j < 2 * m → 0 ≤ (A j).toInt ∧ (A j).toInt ≤ 255) : MbN (fun j => (A j).toInt) m ∧ MkC X Y m := ⟨fun j hj => ⟨(h j hj).2.2.1, (h j hj).2.2.2⟩, fun j hj => by
  rw [(h j hj).1, (h j hj).2.1]
  exact ⟨⟨(hB (2 * j) (by omega)).1, (h j hj).2.2.1⟩, (hB (2 * j + 1) (by omega)).1, (h j hj).2.2.2⟩⟩
theorem rd_g {G : Mem} {A X Y : Nat → Int32} {w : Nat → Nat} {m : Nat} (h : RdI A X Y m) : ∀ j k, j < m → k < m → ckM G X Y w j k = ckG G (fun j => (A j).toInt) w j k := fun j k hj hk => by
  unfold ckM ckG
  rw [(h j hj).1, (h j hj).2.1]
theorem me_s {A A' A0 : Nat → Int32} {f : Nat → Int} {m k : Nat} {v : Int32} (h : (∀ j, j < m → (A (j * 7 + k)).toInt = f j) ∧ ∀ j q, j < 7 → q < 7 → ¬ q = k → A (j * 7 + q) = A0 (j * 7 + q)) (hm : m < 7) (hk : k < 7) (e : A' (m * 7 + k) = v) (hv : v.toInt = f m) (e2 : ∀ i, ¬ i = m * 7 + k → A' i = A i) : (∀ j, j < m + 1 → (A' (j * 7 + k)).toInt = f j) ∧ ∀ j q, j < 7 → q < 7 → ¬ q = k → A' (j * 7 + q) = A0 (j * 7 + q) := ⟨fun j hj => by
  by_cases c : j = m
  · rw [c, e]
    exact hv
  · rw [e2 _ (by omega)]
    exact h.1 j (by omega), fun j q h1 h2 h3 => by
  rw [e2 _ (by omega)]
  exact h.2 j q h1 h2 h3⟩
theorem ht_i {g : Nat → Nat → Int} {n s p k : Nat} {A R : Nat → Int32} {r : Int32} (hn : n ≤ 7) (hs : s < 2 ^ n) (hp : bcN s = p) (hpn : p < n) (hk : k < n) (hg : ∀ j k, j < n → k < n → (A (j * 7 + k)).toInt = g j k ∧ 0 ≤ g j k ∧ g j k ≤ 1000) (hL : ∀ s', s' < 2 ^ n → LeS g n s' (bcN s') (R s').toInt) (hr : r = if s.testBit k = true then nI 2147483647 else A (p * 7 + k) + R (s ||| 2 ^ k)) : r.toInt = (R s).toInt ↔ HtI g s p R k := by
  have l := (ck_p n (by omega)).2
  have gb := fun i j hi hj => (hg i j hi hj).2
  have b0 := les_b gb hn (hL s hs)
  by_cases c : s.testBit k = true
  · rw [if_pos c] at hr
    have z := t_lit 2147483647
    rw [hr]
    exact ⟨fun q => by omega, fun q => absurd c q.1⟩
  · rw [if_neg c] at hr
    have b1 := les_b gb hn (hL _ (ck_2 hs hk))
    have gk := hg p k hpn hk
    have e : r.toInt = g p k + (R (s ||| 2 ^ k)).toInt := by
      rw [hr]
      have f := t_add (A (p * 7 + k)) (R (s ||| 2 ^ k))
      omega
    rw [e]
    exact ⟨fun q => ⟨c, q⟩, fun q => q.2⟩
theorem so_p {g : Nat → Nat → Int} {n s p : Nat} {A : Nat → Int32} {y : Int32} (h : SoI g n s p A y) : s < 2 ^ n ∧ bcN s = p := h.1
theorem co_v {a o r : Int32} (ha : 0 ≤ a.toInt ∧ a.toInt ≤ 39) (ho : 0 ≤ o.toInt ∧ o.toInt ≤ 255) (h : -1000000 ≤ (a - o).toInt → r.toInt = iab (a - o).toInt) : r.toInt = iab (a.toInt - o.toInt) ∧ 0 ≤ r.toInt ∧ r.toInt ≤ 255 := by
  have e : (a - o).toInt = a.toInt - o.toInt := by
    have f := t_sub a o
    omega
  rw [e] at h
  have z := h (by omega)
  have w := iab_w (a := a.toInt) (b := o.toInt) (by omega) ho
  omega
theorem bc_w {s : Int32} (hs : 0 ≤ s.toInt ∧ s.toInt < 128) : Wp (f_J6_bitCount_0f7a4 s) (fun q => q = nI (bcN (ix s))) := ⟨_, by
  have z := ck_jb (ix s) (by have := t_ixn s hs.1; omega)
  rw [nI_ixx hs.1] at z
  exact z, rfl⟩
theorem oq5_J6_bitCount_0f7a4 (M : Mem) (v0 : Int32) (hs : 0 ≤ v0.toInt ∧ v0.toInt < 128) : Wp (f_J6_bitCount_0f7a4 v0) (fun q => q = nI (bcN (ix v0))) := bc_w hs
theorem ck_top {n : Nat} (h : 1 ≤ n ∧ n ≤ 7) {v : Int32} (hv : v.toInt = (n : Int)) : ((mn (shl (nI 1) v) (nI 128)) - (nI 1)) = nI (2 ^ n - 1) := by
  have z := ck_shl n (by omega)
  rw [← t_nI hv (by omega)] at z
  exact z
theorem mt_1 {x : Int32} {p : Nat} (hp : 1 ≤ p ∧ p ≤ 128) (h : x.toInt = ((p - 1 : Nat) : Int)) : (∀ s' : Nat, x.toInt < (s' : Int) → s' < p → False) ∧ (-1 ≤ x.toInt ∧ ix x < p) ∧ (x.toInt + 1).toNat < 4294967296 := by
  have z := t_ix x
  exact ⟨fun s' h1 h2 => by omega, by omega, by omega⟩
theorem mt_2 {y : Int32} {p : Nat} (hp : 1 ≤ p ∧ p ≤ 128) (h0 : 0 ≤ y.toInt) (h : ix y < p) : (0 ≤ y.toInt ∧ y.toInt < 128) ∧ (-1 ≤ (y + (-1)).toInt ∧ ix (y + (-1)) < p) ∧ ((y + (-1)).toInt + 1).toNat < (y.toInt + 1).toNat ∧ ∀ s' : Nat, (y + (-1)).toInt < (s' : Int) → ¬ s' = ix y → y.toInt < (s' : Int) := by
  have i := t_ixn y h0
  have d := t_dec y (by omega)
  have z := t_ix (y + (-1))
  exact ⟨by omega, by omega, by omega, fun s' h1 h2 => by omega⟩
