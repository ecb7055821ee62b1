/-! rows across: sums -/
def sQ (f : Nat → Nat) : Nat → Nat
  | 0 => 0
  | n + 1 => sQ f n + f n
theorem zq_cg {f g : Nat → Nat} : ∀ {n : Nat}, (∀ j, j < n → f j = g j) → sQ f n = sQ g n
  | 0, _ => rfl
  | n + 1, h => by
    show sQ f n + f n = sQ g n + g n
    rw [zq_cg (n := n) (fun j hj => h j (by omega)), h n (by omega)]
theorem zq_z {f : Nat → Nat} {n : Nat} (h : ∀ j, j < n → f j = 0) : sQ f n = 0 := by
  have z : ∀ m, sQ (fun _ => 0) m = 0 := fun m => by
    induction m with
    | zero => rfl
    | succ m ih => exact ih
  rw [zq_cg (g := fun _ => 0) h]
  exact z n
theorem zq_add (f g : Nat → Nat) : ∀ n, sQ (fun j => f j + g j) n = sQ f n + sQ g n
  | 0 => rfl
  | n + 1 => by
    show sQ (fun j => f j + g j) n + (f n + g n) = sQ f n + f n + (sQ g n + g n)
    rw [zq_add f g n]
    omega
theorem zq_mul (c : Nat) (f : Nat → Nat) : ∀ n, sQ (fun j => f j * c) n = sQ f n * c
  | 0 => (Nat.zero_mul c).symm
  | n + 1 => by
    show sQ (fun j => f j * c) n + f n * c = (sQ f n + f n) * c
    rw [zq_mul c f n, Nat.add_mul]
theorem zq_swap (f : Nat → Nat → Nat) (m : Nat) : ∀ n, sQ (fun i => sQ (fun j => f i j) m) n = sQ (fun j => sQ (fun i => f i j) n) m
  | 0 => (zq_z (fun _ _ => rfl)).symm
  | n + 1 => by
    show sQ (fun i => sQ (fun j => f i j) m) n + sQ (fun j => f n j) m = sQ (fun j => sQ (fun i => f i j) n + f n j) m
    rw [zq_swap f m n, ← zq_add]
theorem zq_le {f g : Nat → Nat} : ∀ {n : Nat}, (∀ j, j < n → f j ≤ g j) → sQ f n ≤ sQ g n
  | 0, _ => Nat.le_refl _
  | n + 1, h => by
    show sQ f n + f n ≤ sQ g n + g n
    have := zq_le (n := n) (fun j hj => h j (by omega))
    have := h n (by omega)
    omega
/-- sums that are alike over places that are each at most the other's are alike place by place -/
theorem zq_eq {f g : Nat → Nat} : ∀ {n : Nat}, (∀ j, j < n → f j ≤ g j) → sQ f n = sQ g n → ∀ j, j < n → f j = g j
  | 0, _, _, _, hj => absurd hj (Nat.not_lt_zero _)
  | n + 1, h, e, j, hj => by
    have e1 : sQ f n + f n = sQ g n + g n := e
    have a := zq_le (n := n) (fun j hj => h j (by omega))
    have b := h n (by omega)
    by_cases c : j = n
    · rw [c]
      omega
    · exact zq_eq (n := n) (fun j hj => h j (by omega)) (by omega) j (by omega)
def eN (a b : Nat) : Nat := if a = b then 1 else 0
theorem en_y {a : Nat} : eN a a = 1 := if_pos rfl
theorem en_n {a b : Nat} (h : ¬ a = b) : eN a b = 0 := if_neg h
/-- one place out of a sum -/
theorem zq_one {g : Nat → Nat} {v : Nat} : ∀ {m : Nat}, v < m → sQ (fun x => eN v x * g x) m = g v
  | 0, h => absurd h (Nat.not_lt_zero _)
  | m + 1, h => by
    show sQ (fun x => eN v x * g x) m + eN v m * g m = g v
    by_cases c : v = m
    · rw [zq_z (fun j hj => by rw [en_n (by omega), Nat.zero_mul]), c, en_y, Nat.one_mul, Nat.zero_add]
    · rw [zq_one (m := m) (by omega), en_n c, Nat.zero_mul, Nat.add_zero]
theorem zq_1 : ∀ n, sQ (fun _ => 1) n = n
  | 0 => rfl
  | n + 1 => by
    show sQ (fun _ => 1) n + 1 = n + 1
    rw [zq_1 n]
theorem zq_p {f : Nat → Nat} : ∀ {n : Nat}, ¬ sQ f n = 0 → ∃ j, j < n ∧ ¬ f j = 0
  | 0, h => absurd rfl h
  | n + 1, h => by
    by_cases c : f n = 0
    · have h2 : ¬ sQ f n + f n = 0 := h
      obtain ⟨j, a, b⟩ := zq_p (n := n) (f := f) (by omega)
      exact ⟨j, by omega, b⟩
    · exact ⟨n, by omega, c⟩
/-! rows that are orders of 0 to n - 1 -/
def Pm (r : Nat → Nat) (n : Nat) : Prop := (∀ j, j < n → r j < n) ∧ ∀ i j, i < n → j < n → r i = r j → i = j
theorem cnt_le {r : Nat → Nat} {v : Nat} : ∀ {m : Nat}, (∀ i j, i < m → j < m → r i = r j → i = j) → sQ (fun j => eN (r j) v) m ≤ 1
  | 0, _ => Nat.zero_le _
  | m + 1, h => by
    show sQ (fun j => eN (r j) v) m + eN (r m) v ≤ 1
    by_cases c : r m = v
    · have z : sQ (fun j => eN (r j) v) m = 0 := zq_z (fun j hj => en_n (fun q => by
        have := h j m (by omega) (by omega) (q.trans c.symm)
        omega))
      rw [z, c, en_y]
      exact Nat.le_refl _
    · rw [en_n c, Nat.add_zero]
      exact cnt_le (fun i j hi hj e => h i j (by omega) (by omega) e)
theorem pm_on {r : Nat → Nat} {n v : Nat} (h : Pm r n) (hv : v < n) : ∃ j, j < n ∧ r j = v := by
  have a : ∀ j, j < n → sQ (fun x => eN (r j) x) n = 1 := fun j hj => by
    have z := zq_one (g := fun _ => 1) (h.1 j hj)
    rw [zq_cg (g := fun x => eN (r j) x) (fun x hx => Nat.mul_one _)] at z
    exact z
  have b : sQ (fun x => sQ (fun j => eN (r j) x) n) n = sQ (fun _ => 1) n := by
    rw [zq_swap (fun x j => eN (r j) x) n n]
    exact zq_cg a
  have e := zq_eq (f := fun x => sQ (fun j => eN (r j) x) n) (g := fun _ => 1) (fun x hx => cnt_le h.2) b v hv
  have e2 : sQ (fun j => eN (r j) v) n = 1 := e
  obtain ⟨j, hj, hn⟩ := zq_p (n := n) (f := fun j => eN (r j) v) (by omega)
  refine ⟨j, hj, ?_⟩
  by_cases c : r j = v
  · exact c
  · exact absurd (en_n c) hn
def Lx (a b : Nat → Nat) (n : Nat) : Prop := ∃ i, i < n ∧ (∀ j, j < i → a j = b j) ∧ a i < b i
theorem lx_tri (a b : Nat → Nat) : ∀ n, Lx a b n ∨ Lx b a n ∨ ∀ j, j < n → a j = b j
  | 0 => Or.inr (Or.inr (fun j hj => absurd hj (Nat.not_lt_zero _)))
  | n + 1 => by
    rcases lx_tri a b n with ⟨i, h1, h2, h3⟩ | ⟨i, h1, h2, h3⟩ | h
    · exact Or.inl ⟨i, by omega, h2, h3⟩
    · exact Or.inr (Or.inl ⟨i, by omega, h2, h3⟩)
    · rcases Nat.lt_trichotomy (a n) (b n) with c | c | c
      · exact Or.inl ⟨n, by omega, h, c⟩
      · refine Or.inr (Or.inr (fun j hj => ?_))
        by_cases q : j = n
        · rw [q]
          exact c
        · exact h j (by omega)
      · exact Or.inr (Or.inl ⟨n, by omega, fun j hj => (h j hj).symm, c⟩)
theorem lx_ir {a b : Nat → Nat} {n : Nat} (h : Lx a b n) (h' : Lx b a n) : False := by
  obtain ⟨i, h1, h2, h3⟩ := h
  obtain ⟨k, g1, g2, g3⟩ := h'
  rcases Nat.lt_trichotomy i k with c | c | c
  · have := g2 i c
    omega
  · rw [c] at h3
    omega
  · have := h2 k c
    omega
theorem pm_rest {a b : Nat → Nat} {n k : Nat} (ha : Pm a n) (hb : Pm b n) (he : ∀ j, j < k → a j = b j) (hk : k < n) : ∃ m, k ≤ m ∧ m < n ∧ b k = a m := by
  obtain ⟨m, h1, h2⟩ := pm_on ha (hb.1 k hk)
  refine ⟨m, ?_, h1, h2.symm⟩
  by_cases c : k ≤ m
  · exact c
  · have e := he m (by omega)
    have := hb.2 m k (by omega) hk (e.symm.trans h2)
    omega
def DsR (a : Nat → Nat) (n s : Nat) : Prop := ∀ i j, s ≤ i → i < j → j < n → a j < a i
def AsR (a : Nat → Nat) (n s : Nat) : Prop := ∀ i j, s ≤ i → i < j → j < n → a i < a j
theorem ds_mo {a : Nat → Nat} {n s t : Nat} (h : DsR a n s) (hs : s ≤ t) : DsR a n t := fun i j h1 h2 h3 => h i j (by omega) h2 h3
theorem ds_dn {a : Nat → Nat} {n k : Nat} (h : DsR a n (k + 1)) (hk : k + 1 < n) (ha : a (k + 1) < a k) : DsR a n k := fun i j h1 h2 h3 => by
  by_cases c : i = k
  · by_cases d : j = k + 1
    · rw [c, d]
      exact ha
    · have := h (k + 1) j (by omega) (by omega) h3
      rw [c]
      omega
  · exact h i j (by omega) h2 h3
theorem ds_ge {a b : Nat → Nat} {n s : Nat} (ha : Pm a n) (hb : Pm b n) (hd : DsR a n s) (he : ∀ j, j < s → a j = b j) : ¬ Lx a b n := fun ⟨i, h1, h2, h3⟩ => by
  have hi : s ≤ i := by
    by_cases c : s ≤ i
    · exact c
    · have := he i (by omega)
      omega
  obtain ⟨m, g1, g2, g3⟩ := pm_rest ha hb h2 h1
  by_cases c : m = i
  · rw [c] at g3
    omega
  · have := hd i m hi (by omega) g2
    omega
theorem as_le {c b : Nat → Nat} {n s : Nat} (hc : Pm c n) (hb : Pm b n) (hd : AsR c n s) (he : ∀ j, j < s → c j = b j) : ¬ Lx b c n := fun ⟨i, h1, h2, h3⟩ => by
  have hi : s ≤ i := by
    by_cases q : s ≤ i
    · exact q
    · have := he i (by omega)
      omega
  obtain ⟨m, g1, g2, g3⟩ := pm_rest hc hb (fun j hj => (h2 j hj).symm) h1
  by_cases q : m = i
  · rw [q] at g3
    omega
  · have := hd i m hi (by omega) g2
    omega
/-- none is between -/
theorem nx_step {a r : Nat → Nat} {n i : Nat} (ha : Pm a n) (hr : Pm r n) (hd : DsR a n (i + 1)) (hi : i < n) (hp : ∀ j, j < i → r j = a j) (hg : a i < r i) (hl : ∀ m, i < m → m < n → a i < a m → r i ≤ a m) (hs : AsR r n (i + 1)) : ∀ b, Pm b n → Lx a b n → ¬ Lx b r n := fun b hb ⟨k, h1, h2, h3⟩ hbr => by
  rcases Nat.lt_trichotomy k i with c | c | c
  · exact lx_ir hbr ⟨k, h1, fun j hj => (hp j (by omega)).trans (h2 j hj), by rw [hp k c]; exact h3⟩
  · subst c
    obtain ⟨m, g1, g2, g3⟩ := pm_rest ha hb h2 h1
    have nm : ¬ m = k := fun q => by
      rw [q] at g3
      omega
    have l := hl m (by omega) g2 (by omega)
    by_cases e : r k = b k
    · exact as_le hr hb hs (fun j hj => by
        by_cases q : j = k
        · rw [q]
          exact e
        · exact (hp j (by omega)).trans (h2 j (by omega))) hbr
    · exact lx_ir hbr ⟨k, h1, fun j hj => (hp j hj).trans (h2 j hj), by omega⟩
  · obtain ⟨m, g1, g2, g3⟩ := pm_rest ha hb h2 h1
    by_cases q : m = k
    · rw [q] at g3
      omega
    · have := hd k m (by omega) (by omega) g2
      omega
def NxR (a r : Nat → Nat) (n s : Nat) : Prop := (∀ j, j < s → r j = a j) ∧ Lx a r n ∧ ∀ b, Pm b n → Lx a b n → ¬ Lx b r n
/-! rows of the reference -/
def RwN (f : Nat → Int32) : Nat → Nat := fun j => ix (f j)
theorem rwn_t {f : Nat → Int32} {n j : Nat} (h : PermN f n) (hj : j < n) : ((RwN f j : Nat) : Int) = (f j).toInt := t_ixn _ (h.1 j hj).1
theorem pm_of {f : Nat → Int32} {n : Nat} (h : PermN f n) : Pm (RwN f) n := by
  refine ⟨fun j hj => ?_, fun i j hi hj e => ?_⟩
  · have a := rwn_t h hj
    have b := h.1 j hj
    omega
  · have a := rwn_t h hi
    have b := rwn_t h hj
    exact h.2 i j hi hj (by omega)
/-- from p on upwards and from q on downwards it has been turned -/
def RvI (s r : Nat → Nat) (i n p q : Nat) : Prop := p + q = i + n ∧ ∀ t, t < n → ((i < t ∧ (t < p ∨ q < t)) → r t = s (i + n - t)) ∧ (¬ (i < t ∧ (t < p ∨ q < t)) → r t = s t)
theorem rv_0 {s : Nat → Nat} {i n : Nat} (h : i + 1 < n) : RvI s s i n (i + 1) (n - 1) := ⟨by omega, fun t ht => ⟨fun z => by omega, fun _ => rfl⟩⟩
theorem rv_s {s r r' : Nat → Nat} {i n p q : Nat} (h : RvI s r i n p q) (hip : i < p) (hpq : p < q) (hq : q < n) (e1 : r' p = r q) (e2 : r' q = r p) (e3 : ∀ t, ¬ t = p → ¬ t = q → r' t = r t) : RvI s r' i n (p + 1) (q - 1) := by
  obtain ⟨h1, h2⟩ := h
  have rp : r p = s p := (h2 p (by omega)).2 (by omega)
  have rq : r q = s q := (h2 q hq).2 (by omega)
  refine ⟨by omega, fun t ht => ?_⟩
  by_cases c : t = p
  · rw [c, e1, rq]
    exact ⟨fun _ => by rw [show i + n - p = q from by omega], fun z => by omega⟩
  · by_cases d : t = q
    · rw [d, e2, rp]
      exact ⟨fun _ => by rw [show i + n - q = p from by omega], fun z => by omega⟩
    · rw [e3 t c d]
      exact ⟨fun z => (h2 t ht).1 (by omega), fun z => (h2 t ht).2 (by omega)⟩
theorem rv_e {s r : Nat → Nat} {i n p q : Nat} (h : RvI s r i n p q) (hpq : q ≤ p) : (∀ t, t ≤ i → t < n → r t = s t) ∧ ∀ t, i < t → t < n → r t = s (i + n - t) := by
  obtain ⟨h1, h2⟩ := h
  refine ⟨fun t h3 h4 => (h2 t h4).2 (by omega), fun t h3 h4 => ?_⟩
  by_cases c : t < p ∨ q < t
  · exact (h2 t h4).1 ⟨h3, c⟩
  · rw [(h2 t h4).2 (fun z => c z.2), show i + n - t = t from by omega]
theorem nx_all {a r : Nat → Nat} {n i j s : Nat} (ha : Pm a n) (hr : Pm r n) (hd : DsR a n (i + 1)) (hij : i < j) (hj : j < n) (hle : a i ≤ a j) (h45 : ∀ m, j < m → m < n → a m < a i) {sw : Nat → Nat} (w1 : sw i = a j) (w2 : sw j = a i) (w3 : ∀ t, ¬ t = i → ¬ t = j → sw t = a t) (e1 : ∀ t, t ≤ i → t < n → r t = sw t) (e2 : ∀ t, i < t → t < n → r t = sw (i + n - t)) (hs : s ≤ i) : NxR a r n s := by
  have lt : a i < a j := by
    by_cases c : a i = a j
    · have := ha.2 i j (by omega) hj c
      omega
    · omega
  have pre : ∀ t, t < i → r t = a t := fun t ht => by rw [e1 t (by omega) (by omega), w3 t (by omega) (by omega)]
  have ri : r i = a j := by rw [e1 i (Nat.le_refl _) (by omega), w1]
  have dsc : ∀ p q, i < p → p < q → q < n → sw q < sw p := fun p q h1 h2 h3 => by
    by_cases c : p = j
    · rw [c, w2, w3 q (by omega) (by omega)]
      exact h45 q (by omega) h3
    · by_cases d : q = j
      · have := hd p j (by omega) (by omega) hj
        rw [d, w2, w3 p (by omega) c]
        omega
      · rw [w3 p (by omega) c, w3 q (by omega) d]
        exact hd p q (by omega) h2 h3
  refine ⟨fun t ht => pre t (by omega), ⟨i, by omega, fun t ht => (pre t ht).symm, by rw [ri]; exact lt⟩, nx_step ha hr hd (by omega) pre (by rw [ri]; exact lt) (fun m h1 h2 h3 => ?_) (fun p q h1 h2 h3 => ?_)⟩
  · rw [ri]
    by_cases c : m = j
    · rw [c]
      exact Nat.le_refl _
    · by_cases d : j < m
      · have := h45 m d h2
        omega
      · have := hd m j (by omega) (by omega) hj
        omega
  · rw [e2 p (by omega) (by omega), e2 q (by omega) h3]
    exact dsc _ _ (by omega) (by omega) (by omega)
theorem swp_n {f : Nat → Int32} {i j : Nat} (hij : ¬ i = j) : RwN (swp f i j) i = RwN f j ∧ RwN (swp f i j) j = RwN f i ∧ ∀ t, ¬ t = i → ¬ t = j → RwN (swp f i j) t = RwN f t := by
  refine ⟨?_, ?_, fun t h1 h2 => ?_⟩
  · show ix (swp f i j i) = ix (f j)
    rw [swp_get, if_neg hij, if_pos rfl]
  · show ix (swp f i j j) = ix (f i)
    rw [swp_get, if_pos rfl]
  · show ix (swp f i j t) = ix (f t)
    rw [swp_get, if_neg h2, if_neg h1]
/-! the least of all rows (that begin alike) by going through them -/
def MnR (C : (Nat → Nat) → Int) (n s : Nat) (r : Nat → Nat) (y g : Int32) : Prop := (Pm r n ∧ ∀ j, j < s → r j = j) ∧ (¬ g.toInt = 0 → (∀ b, Pm b n → (∀ j, j < s → b j = j) → Lx b r n → y.toInt ≤ C b) ∧ (y.toInt = 1000000 ∨ ∃ b, Pm b n ∧ (∀ j, j < s → b j = j) ∧ y.toInt = C b)) ∧ (g.toInt = 0 → (∀ b, Pm b n → (∀ j, j < s → b j = j) → y.toInt ≤ C b) ∧ ∃ b, Pm b n ∧ (∀ j, j < s → b j = j) ∧ y.toInt = C b)
theorem mnr_0 {C : (Nat → Nat) → Int} {n s : Nat} {r : Nat → Nat} (hr : Pm r n) (h : ∀ j, j < n → r j = j) (hs : s ≤ n) : MnR C n s r (nI 1000000) (nI 1) := by
  refine ⟨⟨hr, fun j hj => h j (by omega)⟩, fun _ => ⟨fun b hb _ hl => ?_, Or.inl (t_lit 1000000)⟩, fun z => absurd z ne1⟩
  exact absurd hl (as_le (s := 0) hr hb (fun i j _ h2 h3 => by rw [h i (by omega), h j h3]; exact h2) (fun j hj => absurd hj (Nat.not_lt_zero _)))
theorem mnr_s {C : (Nat → Nat) → Int} {n s : Nat} {r r' : Nat → Nat} {y g y' g' : Int32} {v : Int} (h : MnR C n s r y g) (hg : ¬ g.toInt = 0) (hC : ∀ b b', (∀ j, j < n → b j = b' j) → C b = C b') (hv : v = C r) (hb : 0 ≤ v ∧ v < 1000000) (hy : y'.toInt = min y.toInt v) (hr' : Pm r' n) (h1 : ¬ g'.toInt = 0 → NxR r r' n s) (h2 : g'.toInt = 0 → DsR r n s ∧ r' = r) : MnR C n s r' y' g' := by
  obtain ⟨⟨p1, p2⟩, a, -⟩ := h
  have a1 := (a hg).1
  have a2 := (a hg).2
  clear a
  have all : ∀ b, Pm b n → (∀ j, j < s → b j = j) → ¬ Lx r b n → y'.toInt ≤ C b := fun b q1 q2 q3 => by
    clear a2 h1 h2
    rcases lx_tri r b n with c | c | c
    · exact absurd c q3
    · have := a1 b q1 q2 c
      omega
    · rw [← hC r b c, ← hv]
      omega
  have at9 : ∃ b, Pm b n ∧ (∀ j, j < s → b j = j) ∧ y'.toInt = C b := by
    clear h1 h2
    rcases a2 with z | ⟨b, q1, q2, q3⟩
    · exact ⟨r, p1, p2, by omega⟩
    · by_cases c : y'.toInt = v
      · exact ⟨r, p1, p2, c.trans hv⟩
      · exact ⟨b, q1, q2, by omega⟩
  refine ⟨⟨hr', fun j hj => ?_⟩, fun z => ⟨fun b q1 q2 q3 => all b q1 q2 (fun w => (h1 z).2.2 b q1 w q3), Or.inr at9⟩, fun z => ⟨fun b q1 q2 => all b q1 q2 (ds_ge p1 q1 (h2 z).1 (fun j hj => (p2 j hj).trans (q2 j hj).symm)), at9⟩⟩
  by_cases z : g'.toInt = 0
  · rw [(h2 z).2]
    exact p2 j hj
  · rw [(h1 z).1 j hj]
    exact p2 j hj
/-! lists of stones, the lowest first -/
def LsI (P : Nat → Prop) (m i : Nat) (w : Nat → Nat) : Prop := (∀ k, k < m → w k < i ∧ P (w k)) ∧ (∀ k l, k < l → l < m → w k < w l) ∧ ∀ t, t < i → P t → ∃ k, k < m ∧ w k = t
theorem ls_0 {P : Nat → Prop} {w : Nat → Nat} : LsI P 0 0 w := ⟨fun k hk => absurd hk (Nat.not_lt_zero _), fun k l _ hl => absurd hl (Nat.not_lt_zero _), fun t ht => absurd ht (Nat.not_lt_zero _)⟩
theorem ls_n {P : Nat → Prop} {m i : Nat} {w : Nat → Nat} (h : LsI P m i w) (hi : ¬ P i) : LsI P m (i + 1) w := ⟨fun k hk => ⟨by have := (h.1 k hk).1; omega, (h.1 k hk).2⟩, h.2.1, fun t ht hp => by
  by_cases c : t = i
  · rw [c] at hp
    exact absurd hp hi
  · exact h.2.2 t (by omega) hp⟩
theorem ls_y {P : Nat → Prop} {m i : Nat} {w w' : Nat → Nat} (h : LsI P m i w) (hi : P i) (e1 : ∀ k, k < m → w' k = w k) (e2 : w' m = i) : LsI P (m + 1) (i + 1) w' := by
  refine ⟨fun k hk => ?_, fun k l h1 h2 => ?_, fun t ht hp => ?_⟩
  · by_cases c : k = m
    · rw [c, e2]
      exact ⟨by omega, hi⟩
    · rw [e1 k (by omega)]
      exact ⟨by have := (h.1 k (by omega)).1; omega, (h.1 k (by omega)).2⟩
  · by_cases c : l = m
    · rw [c, e2, e1 k (by omega)]
      exact (h.1 k (by omega)).1
    · rw [e1 k (by omega), e1 l (by omega)]
      exact h.2.1 k l h1 (by omega)
  · by_cases c : t = i
    · exact ⟨m, by omega, by rw [e2, c]⟩
    · obtain ⟨k, hk, e⟩ := h.2.2 t (by omega) hp
      exact ⟨k, by omega, by rw [e1 k hk]; exact e⟩
theorem ls_up {P : Nat → Prop} {m i j : Nat} {w : Nat → Nat} (h : LsI P m i w) (hij : i ≤ j) (hn : ∀ t, i ≤ t → t < j → ¬ P t) : LsI P m j w := ⟨fun k hk => ⟨by have := (h.1 k hk).1; omega, (h.1 k hk).2⟩, h.2.1, fun t ht hp => by
  by_cases c : t < i
  · exact h.2.2 t c hp
  · exact absurd hp (hn t (by omega) ht)⟩
theorem ls_eq {P : Nat → Prop} {m i m' i' : Nat} {w w' : Nat → Nat} (h : LsI P m i w) (h' : LsI P m' i' w') : ∀ k, k < m → k < m' → w k = w' k := fun k => by
  induction k using Nat.strongRecOn with
  | ind k ih =>
    intro h1 h2
    rcases Nat.lt_trichotomy (w k) (w' k) with c | c | c
    · obtain ⟨t, ht, e⟩ := h'.2.2 (w k) (by have := (h'.1 k h2).1; omega) (h.1 k h1).2
      by_cases q : t < k
      · have e2 := ih t q (by omega) ht
        have := h.2.1 t k q h1
        omega
      · by_cases q2 : t = k
        · rw [q2] at e
          omega
        · have := h'.2.1 k t (by omega) ht
          omega
    · exact c
    · obtain ⟨t, ht, e⟩ := h.2.2 (w' k) (by have := (h.1 k h1).1; omega) (h'.1 k h2).2
      by_cases q : t < k
      · have e2 := ih t q ht (by omega)
        have := h'.2.1 t k q h2
        omega
      · by_cases q2 : t = k
        · rw [q2] at e
          omega
        · have := h.2.1 k t (by omega) ht
          omega
theorem ls_no {P : Nat → Prop} {n i m : Nat} {w w' : Nat → Nat} (h : LsI P n i w) (hi : i ≤ 40) (h' : LsI P m 40 w') (hm : m < n) : False := by
  obtain ⟨k, hk, e⟩ := h'.2.2 (w m) (by have := (h.1 m hm).1; omega) (h.1 m hm).2
  have e2 := ls_eq h h' k (by omega) hk
  have := h.2.1 k m hk hm
  omega
/-! what the row of the next row wants -/
theorem nr_1 {f : Nat → Int32} {v1 : Int32} (hv : 1 ≤ v1.toInt ∧ v1.toInt ≤ 7) : DsR (RwN f) v1.toInt.toNat (ix ((v1 - nI 2) + nI 1)) := fun i j h1 h2 h3 => by
  have z := t_sub v1 (nI 2)
  have z2 := t_lit 2
  have z3 := t_inc (v1 - nI 2) 1 (by omega)
  have z4 := t_ix (v1 - nI 2 + nI 1)
  omega
theorem nr_2 {f : Nat → Int32} {n : Nat} {y : Int32} (hr : PermN f n) (h0 : 0 ≤ y.toInt) (h1 : y.toInt + 1 < (n : Int)) (hn : n ≤ 7) (hd : DsR (RwN f) n (ix (y + nI 1))) (c : ¬ (f (ix y)).toInt ≤ (f (ix (y + nI 1))).toInt) : DsR (RwN f) n (ix ((y - nI 1) + nI 1)) := by
  have u := i_up (x := y) (by omega)
  have iy := t_ixn y h0
  have e : (y - nI 1) + nI 1 = y := by
    have z := t_sub y (nI 1)
    have z2 := nI1
    have z3 := t_inc (y - nI 1) 1 (by omega)
    exact t_of (by omega)
  rw [u.1] at hd c
  rw [e]
  have a := rwn_t hr (j := ix y) (by omega)
  have b := rwn_t hr (j := ix y + 1) (by omega)
  exact ds_dn hd (by omega) (by omega)
theorem nr_3 {f : Nat → Int32} {v1 v2 y : Int32} (hd : DsR (RwN f) v1.toInt.toNat (ix (y + nI 1))) (h0 : -1 ≤ y.toInt ∧ y.toInt ≤ 7) (hv : y.toInt < v2.toInt) : DsR (RwN f) v1.toInt.toNat (ix v2) := ds_mo hd (by
  have z := t_ix (y + nI 1)
  have z2 := t_ix v2
  have z3 := t_inc y 1 (by omega)
  omega)
theorem nr_4 {f : Nat → Int32} {v1 y : Int32} (hv : 1 ≤ v1.toInt ∧ v1.toInt ≤ 7) : ∀ m, ix (v1 - nI 1) < m → m < v1.toInt.toNat → RwN f m < RwN f (ix y) := fun m h1 h2 => by
  have z := t_sub v1 (nI 1)
  have z2 := nI1
  have z4 := t_ix (v1 - nI 1)
  omega
theorem nr_5 {f : Nat → Int32} {n : Nat} {y3 y4 : Int32} (hr : PermN f n) (hn : n ≤ 7) (h0 : 0 ≤ y3.toInt) (h1 : y3.toInt + 1 ≤ y4.toInt) (h2 : y4.toInt < (n : Int)) (h : ∀ m, ix y4 < m → m < n → RwN f m < RwN f (ix y3)) (c : ¬ (f (ix y3)).toInt ≤ (f (ix y4)).toInt) : ∀ m, ix (y4 - nI 1) < m → m < n → RwN f m < RwN f (ix y3) := fun m h3 h4 => by
  have q3 := t_ixn y3 h0
  have q4 := t_ixn y4 (by omega)
  have a := rwn_t hr (j := ix y3) (by omega)
  have b := rwn_t hr (j := ix y4) (by omega)
  by_cases d : m = ix y4
  · rw [d]
    omega
  · refine h m ?_ h4
    have z := t_sub y4 (nI 1)
    have z2 := nI1
    have z4 := t_ixn (y4 - nI 1) (by omega)
    omega
theorem nr_6 {s : Nat → Nat} {v1 y3 : Int32} (hv : 1 ≤ v1.toInt ∧ v1.toInt ≤ 7) (h0 : 0 ≤ y3.toInt) (h1 : y3.toInt + 1 < v1.toInt) : RvI s s (ix y3) v1.toInt.toNat (ix (y3 + nI 1)) (ix (v1 - nI 1)) := by
  have u := i_up (x := y3) (by omega)
  have q3 := t_ixn y3 h0
  have z := t_sub v1 (nI 1)
  have z2 := nI1
  have z4 := t_ixn (v1 - nI 1) (by omega)
  rw [u.1, show ix (v1 - nI 1) = v1.toInt.toNat - 1 from by omega]
  exact rv_0 (by omega)
theorem nr_7 {s : Nat → Nat} {f g : Nat → Int32} {v1 y3 y5 y6 : Int32} (h : RvI s (RwN f) (ix y3) v1.toInt.toNat (ix y5) (ix y6)) (hv : 1 ≤ v1.toInt ∧ v1.toInt ≤ 7) (h0 : 0 ≤ y3.toInt) (h5 : y3.toInt + 1 ≤ y5.toInt) (h56 : y5.toInt < y6.toInt) (h6 : y6.toInt ≤ v1.toInt - 1) (hg : g = swp f (ix y5) (ix y6)) : RvI s (RwN g) (ix y3) v1.toInt.toNat (ix (y5 + nI 1)) (ix (y6 + (-1))) := by
  have q3 := t_ixn y3 h0
  have q5 := t_ixn y5 (by omega)
  have q6 := t_ixn y6 (by omega)
  have u := i_up (x := y5) (by omega)
  have d := t_dec y6 (by omega)
  have q7 := t_ixn (y6 + (-1)) (by omega)
  rw [u.1, show ix (y6 + (-1)) = ix y6 - 1 from by omega]
  have sw := swp_n (f := f) (i := ix y5) (j := ix y6) (by omega)
  rw [← hg] at sw
  exact rv_s h (by omega) (by omega) (by omega) sw.1 sw.2.1 sw.2.2
theorem nr_8 {f g k : Nat → Int32} {v1 v2 y3 y4 y5 y6 : Int32} (hr : PermN f v1.toInt.toNat) (hk : PermN k v1.toInt.toNat) (hv : 1 ≤ v1.toInt ∧ v1.toInt ≤ 7) (hd : DsR (RwN f) v1.toInt.toNat (ix (y3 + nI 1))) (h45 : ∀ m, ix y4 < m → m < v1.toInt.toNat → RwN f m < RwN f (ix y3)) (h70 : (f (ix y3)).toInt ≤ (f (ix y4)).toInt) (hg : g = swp f (ix y3) (ix y4)) (hrv : RvI (RwN g) (RwN k) (ix y3) v1.toInt.toNat (ix y5) (ix y6)) (h0 : 0 ≤ v2.toInt ∧ v2.toInt ≤ y3.toInt) (h4 : y3.toInt + 1 ≤ y4.toInt ∧ y4.toInt ≤ v1.toInt - 1) (h5 : y3.toInt + 1 ≤ y5.toInt) (h56 : y6.toInt ≤ y5.toInt) : NxR (RwN f) (RwN k) v1.toInt.toNat (ix v2) := by
  have q2 := t_ixn v2 h0.1
  have q3 := t_ixn y3 (by omega)
  have q4 := t_ixn y4 (by omega)
  have q5 := t_ixn y5 (by omega)
  have q6 := t_ix y6
  have u := i_up (x := y3) (by omega)
  rw [u.1] at hd
  have a := rwn_t hr (j := ix y3) (by omega)
  have b := rwn_t hr (j := ix y4) (by omega)
  have e := rv_e hrv (by omega)
  have sw := swp_n (f := f) (i := ix y3) (j := ix y4) (by omega)
  rw [← hg] at sw
  exact nx_all (pm_of hr) (pm_of hk) hd (by omega) (by omega) (by omega) h45 sw.1 sw.2.1 sw.2.2 e.1 e.2 (by omega)
