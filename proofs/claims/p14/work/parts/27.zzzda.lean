/-! rows across: sums -/
def sQ (f : Nat → Nat) : Nat → Nat
  | 0 => 0
  | n + 1 => sQ f n + f n
theorem zq_cg {f g : Nat → Nat} : ∀ {n : Nat}, (∀ j, j < n → f j = g j) → sQ f n = sQ g n
  | 0, _ => rfl
  | n + 1, h => by
    show sQ f n + f n = sQ g n + g n
    rw [zq_cg (n := n) (fun j hj => h j (by omega)), h n (by omega)]
theorem zq_z {f : Nat → Nat} {n : Nat} (h : ∀ j, j < n → f j = 0) : sQ f n = 0 := by
  have z : ∀ m, sQ (fun _ => 0) m = 0 := fun m => by
    induction m with
    | zero => rfl
    | succ m ih => exact ih
  rw [zq_cg (g := fun _ => 0) h]
  exact z n
theorem zq_add (f g : Nat → Nat) : ∀ n, sQ (fun j => f j + g j) n = sQ f n + sQ g n
  | 0 => rfl
  | n + 1 => by
    show sQ (fun j => f j + g j) n + (f n + g n) = sQ f n + f n + (sQ g n + g n)
    rw [zq_add f g n]
    omega
theorem zq_mul (c : Nat) (f : Nat → Nat) : ∀ n, sQ (fun j => f j * c) n = sQ f n * c
  | 0 => (Nat.zero_mul c).symm
  | n + 1 => by
    show sQ (fun j => f j * c) n + f n * c = (sQ f n + f n) * c
    rw [zq_mul c f n, Nat.add_mul]
theorem zq_swap (f : Nat → Nat → Nat) (m : Nat) : ∀ n, sQ (fun i => sQ (fun j => f i j) m) n = sQ (fun j => sQ (fun i => f i j) n) m
  | 0 => (zq_z (fun _ _ => rfl)).symm
  | n + 1 => by
    show sQ (fun i => sQ (fun j => f i j) m) n + sQ (fun j => f n j) m = sQ (fun j => sQ (fun i => f i j) n + f n j) m
    rw [zq_swap f m n, ← zq_add]
theorem zq_le {f g : Nat → Nat} : ∀ {n : Nat}, (∀ j, j < n → f j ≤ g j) → sQ f n ≤ sQ g n
  | 0, _ => Nat.le_refl _
  | n + 1, h => by
    show sQ f n + f n ≤ sQ g n + g n
    have := zq_le (n := n) (fun j hj => h j (by omega))
    have := h n (by omega)
    omega
/-- sums that are alike over places that are each at most the other's are alike place by place -/
theorem zq_eq {f g : Nat → Nat} : ∀ {n : Nat}, (∀ j, j < n → f j ≤ g j) → sQ f n = sQ g n → ∀ j, j < n → f j = g j
  | 0, _, _, _, hj => absurd hj (Nat.not_lt_zero _)
  | n + 1, h, e, j, hj => by
    have e1 : sQ f n + f n = sQ g n + g n := e
    have a := zq_le (n := n) (fun j hj => h j (by omega))
    have b := h n (by omega)
    by_cases c : j = n
    · rw [c]
      omega
    · exact zq_eq (n := n) (fun j hj => h j (by omega)) (by omega) j (by omega)
def eN (a b : Nat) : Nat := if a = b then 1 else 0
theorem en_y {a : Nat} : eN a a = 1 := if_pos rfl
theorem en_n {a b : Nat} (h : ¬ a = b) : eN a b = 0 := if_neg h
/-- one place out of a sum -/
theorem zq_one {g : Nat → Nat} {v : Nat} : ∀ {m : Nat}, v < m → sQ (fun x => eN v x * g x) m = g v
  | 0, h => absurd h (Nat.not_lt_zero _)
  | m + 1, h => by
    show sQ (fun x => eN v x * g x) m + eN v m * g m = g v
    by_cases c : v = m
    · rw [zq_z (fun j hj => by rw [en_n (by omega), Nat.zero_mul]), c, en_y, Nat.one_mul, Nat.zero_add]
    · rw [zq_one (m := m) (by omega), en_n c, Nat.zero_mul, Nat.add_zero]
theorem zq_1 : ∀ n, sQ (fun _ => 1) n = n
  | 0 => rfl
  | n + 1 => by
    show sQ (fun _ => 1) n + 1 = n + 1
    rw [zq_1 n]
/-! driest ways -/
def wD (G : Mem) (v : Nat) : Int := if v < 40 then 1 + 100 * (G 3 v).toInt else 1
/-- a walk of so many steps from the near bank, and what it costs -/
def RcN (G : Mem) (s : Int) : Nat → Nat → Int → Prop
  | 0, v, c => v = 40 ∧ c = 0
  | k + 1, v, c => ∃ u d, RcN G s k u d ∧ u < 42 ∧ stC G s u v ∧ v < 42 ∧ c = d + wD G v
def LcD (G : Mem) (s : Int) (v : Nat) (c : Int) : Prop := (∃ k, RcN G s k v c) ∧ ∀ k d, RcN G s k v d → c ≤ d
theorem wd_b {G : Mem} {s : Int} {u v : Nat} (hG : GdF G) (h : stC G s u v) : 1 ≤ wD G v ∧ wD G v ≤ 901 := by
  unfold wD
  by_cases c : v < 40
  · rw [if_pos c]
    rcases h.2.2 with z | z
    · have := hG.2.2 v z.1.1.1 z.1.1.2
      omega
    · omega
  · rw [if_neg c]
    omega
theorem rcn_b {G : Mem} {s : Int} (hG : GdF G) : ∀ {k v : Nat} {c : Int}, RcN G s k v c → 0 ≤ c
  | 0, _, _, h => by
    rw [h.2]
    exact Int.le_refl _
  | k + 1, v, c, h => by
    obtain ⟨u, d, h1, -, h3, -, h5⟩ := h
    have := rcn_b hG h1
    have := wd_b hG h3
    omega
/-- what is answered of the least cost -/
def DrP (G : Mem) (s w r : Int) : Prop := (∃ c, (LcD G s 41 c ∧ c < 1000000) ∧ r = (if w = 0 then c / 100 else c % 100)) ∨ ((∀ k d, RcN G s k 41 d → 1000000 ≤ d) ∧ r = -2)
theorem lcd_fn {G : Mem} {s c d : Int} {v : Nat} (h : LcD G s v c) (h' : LcD G s v d) : c = d := by
  obtain ⟨⟨k, a⟩, b⟩ := h
  obtain ⟨⟨l, e⟩, f⟩ := h'
  have := b l d e
  have := f k c a
  omega
theorem dr_fn {G : Mem} {s w r r' : Int} (h : DrP G s w r) (h' : DrP G s w r') : r = r' := by
  rcases h with ⟨c, ⟨a, b⟩, e⟩ | ⟨a, e⟩
  · rcases h' with ⟨c', ⟨a', b'⟩, e'⟩ | ⟨a', e'⟩
    · rw [e, e', lcd_fn a a']
    · obtain ⟨⟨k, z⟩, -⟩ := a
      have := a' k c z
      omega
  · rcases h' with ⟨c', ⟨⟨⟨k, z⟩, -⟩, b'⟩, e'⟩ | ⟨a', e'⟩
    · have := a k c' z
      omega
    · rw [e, e']
/-! the class: banks and stones that are settled -/
def cS (S : Nat → Int32) (v : Nat) : Nat := if (S v).toInt = 0 then 0 else 1
def DjI (G : Mem) (s : Int) (D S : Nat → Int32) (t : Nat) : Prop := (∀ v, v < 42 → ¬ (D v).toInt = -1 → (∃ k, RcN G s k v (D v).toInt) ∧ (D v).toInt ≤ 901 * (t : Int)) ∧ (∀ v, v < 42 → ¬ (S v).toInt = 0 → ¬ (D v).toInt = -1 ∧ ∀ k d, RcN G s k v d → (D v).toInt ≤ d) ∧ (∀ u v, u < 42 → v < 42 → ¬ (S u).toInt = 0 → (S v).toInt = 0 → stC G s u v → ¬ (D v).toInt = -1 ∧ (D v).toInt ≤ (D u).toInt + wD G v) ∧ (D 40).toInt = 0 ∧ sQ (cS S) 42 = t
theorem dj_0 {G : Mem} {s : Int} {D S : Nat → Int32} (h1 : ∀ v, v < 42 → (S v).toInt = 0) (h2 : ∀ v, v < 42 → ¬ v = 40 → (D v).toInt = -1) (h3 : (D 40).toInt = 0) : DjI G s D S 0 := by
  refine ⟨fun v hv hd => ?_, fun v hv hs => absurd (h1 v hv) hs, fun u v hu _ hs => absurd (h1 u hu) hs, h3, ?_⟩
  · by_cases c : v = 40
    · rw [c, h3]
      exact ⟨⟨0, rfl, rfl⟩, by omega⟩
    · exact absurd (h2 v hv c) hd
  · exact (zq_cg (g := fun _ => 0) (fun v hv => if_pos (h1 v hv))).trans (by decide)
theorem dj_w {G : Mem} {s : Int} {D S : Nat → Int32} {t : Nat} (hG : GdF G) (h : DjI G s D S t) : ∀ (k v : Nat) (d : Int), RcN G s k v d → v < 42 → (S v).toInt = 0 → ∃ x, x < 42 ∧ (S x).toInt = 0 ∧ ¬ (D x).toInt = -1 ∧ (D x).toInt ≤ d
  | 0, v, d, hr, hv, hs => by
    obtain ⟨a, b⟩ := hr
    have z := h.2.2.2.1
    refine ⟨v, hv, hs, ?_, ?_⟩
    · rw [a, z]
      decide
    · rw [a, z, b]
      exact Int.le_refl _
  | k + 1, v, d, hr, hv, hs => by
    obtain ⟨u, d1, h1, h2, h3, -, h5⟩ := hr
    have wb := wd_b hG h3
    by_cases c : (S u).toInt = 0
    · obtain ⟨x, x1, x2, x3, x4⟩ := dj_w hG h k u d1 h1 h2 c
      exact ⟨x, x1, x2, x3, by omega⟩
    · have a := h.2.2.1 u v h2 hv c hs h3
      have b := (h.2.1 u h2 c).2 k d1 h1
      exact ⟨v, hv, hs, a.1, by omega⟩
def ChP (D S : Nat → Int32) (r : Int32) : Prop := (r.toInt = -1 ∧ ∀ x, x < 42 → (S x).toInt = 0 → (D x).toInt = -1) ∨ ((0 ≤ r.toInt ∧ r.toInt < 42) ∧ (S (ix r)).toInt = 0 ∧ ¬ (D (ix r)).toInt = -1 ∧ ∀ x, x < 42 → (S x).toInt = 0 → ¬ (D x).toInt = -1 → (D (ix r)).toInt ≤ (D x).toInt)
/-- the steps from f are looked at up to n -/
def SeP (G : Mem) (s : Int) (f n : Nat) (D S D' S' : Nat → Int32) : Prop := (¬ (S' f).toInt = 0 ∧ ∀ v, ¬ v = f → S' v = S v) ∧ (∀ v, n ≤ v → D' v = D v) ∧ ∀ v, v < n → (¬ (S' v).toInt = 0 → D' v = D v) ∧ ((S' v).toInt = 0 → (¬ stC G s f v → D' v = D v) ∧ (stC G s f v → ((D' v).toInt = (D f).toInt + wD G v ∧ ((D v).toInt = -1 ∨ (D f).toInt + wD G v < (D v).toInt)) ∨ (D' v = D v ∧ ¬ (D v).toInt = -1 ∧ (D v).toInt ≤ (D f).toInt + wD G v)))
theorem sq_1 {a b : Nat → Nat} {f : Nat} (h : ∀ j, ¬ j = f → b j = a j) (ha : a f = 0) (hb : b f = 1) : ∀ n, f < n → sQ b n = sQ a n + 1
  | 0, hf => absurd hf (Nat.not_lt_zero _)
  | n + 1, hf => by
    show sQ b n + b n = sQ a n + a n + 1
    by_cases c : n = f
    · rw [zq_cg (f := b) (g := a) (fun j hj => h j (by omega)), c, ha, hb]
    · rw [sq_1 h ha hb n (by omega), h n c]
      omega
theorem dj_s {G : Mem} {s : Int} {D S D' S' : Nat → Int32} {t f : Nat} (hG : GdF G) (h : DjI G s D S t) (hf : f < 42) (hs : (S f).toInt = 0) (hd : ¬ (D f).toInt = -1) (hm : ∀ x, x < 42 → (S x).toInt = 0 → ¬ (D x).toInt = -1 → (D f).toInt ≤ (D x).toInt) (hS : SeP G s f 42 D S D' S') : DjI G s D' S' (t + 1) := by
  obtain ⟨⟨e1, e2⟩, -, e3⟩ := hS
  have least : ∀ k d, RcN G s k f d → (D f).toInt ≤ d := fun k d hr => by
    obtain ⟨x, x1, x2, x3, x4⟩ := dj_w hG h k f d hr hf hs
    have := hm x x1 x2 x3
    omega
  have ff : D' f = D f := (e3 f hf).1 e1
  have old : ∀ v, v < 42 → ¬ (S v).toInt = 0 → D' v = D v := fun v hv q => by
    by_cases c : v = f
    · rw [c]
      exact ff
    · exact (e3 v hv).1 (by rw [e2 v c]; exact q)
  have un : ∀ v, (S' v).toInt = 0 → (S v).toInt = 0 ∧ ¬ v = f := fun v q => by
    have c : ¬ v = f := fun z => e1 (by rw [← z]; exact q)
    rw [e2 v c] at q
    exact ⟨q, c⟩
  obtain ⟨⟨kf, hkf⟩, bf⟩ := h.1 f hf hd
  have step : ∀ v, v < 42 → stC G s f v → RcN G s (kf + 1) v ((D f).toInt + wD G v) := fun v hv q => ⟨f, _, hkf, hf, q, hv, rfl⟩
  refine ⟨fun v hv q => ?_, fun v hv q => ?_, fun u v hu hv q1 q2 q3 => ?_, ?_, ?_⟩
  · have keep : D' v = D v → (∃ k, RcN G s k v (D' v).toInt) ∧ (D' v).toInt ≤ 901 * ((t + 1 : Nat) : Int) := fun e => by
      rw [e] at q ⊢
      have z := h.1 v hv q
      exact ⟨z.1, by have := z.2; omega⟩
    by_cases c : (S' v).toInt = 0
    · by_cases c2 : stC G s f v
      · rcases ((e3 v hv).2 c).2 c2 with ⟨z, -⟩ | ⟨z, -⟩
        · have wb := wd_b hG c2
          rw [z]
          exact ⟨⟨kf + 1, step v hv c2⟩, by omega⟩
        · exact keep z
      · exact keep (((e3 v hv).2 c).1 c2)
    · exact keep ((e3 v hv).1 c)
  · by_cases c : v = f
    · rw [c, ff]
      exact ⟨hd, least⟩
    · rw [e2 v c] at q
      rw [old v hv q]
      exact h.2.1 v hv q
  · have uv := un v q2
    by_cases c : u = f
    · rw [c] at q3 ⊢
      rw [ff]
      have rb := rcn_b hG hkf
      have wb := wd_b hG q3
      rcases ((e3 v hv).2 q2).2 q3 with ⟨z, -⟩ | ⟨z, z2, z3⟩
      · omega
      · rw [z]
        exact ⟨z2, z3⟩
    · rw [e2 u c] at q1
      rw [old u hu q1]
      have a := h.2.2.1 u v hu hv q1 uv.1 q3
      by_cases c2 : stC G s f v
      · have rb := rcn_b hG hkf
        have wb := wd_b hG c2
        rcases ((e3 v hv).2 q2).2 c2 with ⟨z, z2⟩ | ⟨z, z2, z3⟩
        · omega
        · rw [z]
          exact a
      · rw [((e3 v hv).2 q2).1 c2]
        exact a
  · by_cases c : (S' 40).toInt = 0
    · by_cases c2 : stC G s f 40
      · rcases ((e3 40 (by omega)).2 c).2 c2 with ⟨z, z2⟩ | ⟨z, -⟩
        · have rb := rcn_b hG hkf
          have wb := wd_b hG c2
          have := h.2.2.2.1
          omega
        · rw [z]
          exact h.2.2.2.1
      · rw [((e3 40 (by omega)).2 c).1 c2]
        exact h.2.2.2.1
    · rw [(e3 40 (by omega)).1 c]
      exact h.2.2.2.1
  · rw [sq_1 (a := cS S) (b := cS S') (f := f) (fun j hj => by
      unfold cS
      rw [e2 j hj]) (if_pos hs) (if_neg e1) 42 hf, h.2.2.2.2]
theorem dj_t {G : Mem} {s : Int} {D S : Nat → Int32} {t : Nat} (h : DjI G s D S t) : t ≤ 42 := by
  have z := zq_le (f := cS S) (g := fun _ => 1) (n := 42) (fun j _ => by
    unfold cS
    by_cases c : (S j).toInt = 0
    · rw [if_pos c]
      exact Nat.zero_le _
    · rw [if_neg c]
      exact Nat.le_refl _)
  rw [h.2.2.2.2] at z
  exact z
/-- at the end -/
theorem dj_e {G : Mem} {s : Int} {D S : Nat → Int32} {t : Nat} (hG : GdF G) (h : DjI G s D S t) (he : 42 ≤ t ∨ ∀ x, x < 42 → (S x).toInt = 0 → (D x).toInt = -1) : ((D 41).toInt = -1 → ∀ k d, RcN G s k 41 d → 1000000 ≤ d) ∧ (¬ (D 41).toInt = -1 → LcD G s 41 (D 41).toInt ∧ 0 ≤ (D 41).toInt ∧ (D 41).toInt < 1000000) := by
  have e9 : ∀ x, x < 42 → (S x).toInt = 0 → (D x).toInt = -1 := by
    rcases he with z | z
    · intro x hx q
      have t42 := dj_t h
      have y := zq_eq (f := cS S) (g := fun _ => 1) (n := 42) (fun j _ => by
        unfold cS
        by_cases c : (S j).toInt = 0
        · rw [if_pos c]
          exact Nat.zero_le _
        · rw [if_neg c]
          exact Nat.le_refl _) (by rw [h.2.2.2.2, show t = 42 from by omega]; decide) x hx
      have y2 : cS S x = 1 := y
      unfold cS at y2
      rw [if_pos q] at y2
      omega
    · exact z
  have t42 := dj_t h
  refine ⟨fun q k d hr => ?_, fun q => ?_⟩
  · have s41 : (S 41).toInt = 0 := Classical.byContradiction (fun c => (h.2.1 41 (by omega) c).1 q)
    obtain ⟨x, x1, x2, x3, -⟩ := dj_w hG h k 41 d hr (by omega) s41
    exact absurd (e9 x x1 x2) x3
  · have s41 : ¬ (S 41).toInt = 0 := fun c => q (e9 41 (by omega) c)
    have a := h.1 41 (by omega) q
    obtain ⟨⟨k, hk⟩, b⟩ := a
    have rb := rcn_b hG hk
    exact ⟨⟨⟨k, hk⟩, (h.2.1 41 (by omega) s41).2⟩, rb, by omega⟩
/-! the reference: costs are made less until none changes -/
def BfI (G : Mem) (s : Int) (C : Nat → Int32) : Prop := ∀ j, j < 40 → (1 ≤ (C j).toInt ∧ (C j).toInt ≤ 1000000) ∧ (¬ (C j).toInt = 1000000 → ∃ k, RcN G s k j (C j).toInt) ∧ (nearG G s j → (C j).toInt ≤ wD G j)
def RxP (G : Mem) (s : Int) (C : Nat → Int32) (i j : Nat) : Prop := ¬ (C i).toInt = 1000000 → adjG G s i j → (C j).toInt ≤ (C i).toInt + wD G j
def FrI (G : Mem) (s : Int) (C : Nat → Int32) (n : Nat) (y : Int) : Prop := (∀ j, j < n → farG G s j → y ≤ (C j).toInt + 1) ∧ y ≤ 1000000 ∧ (y = 1000000 ∨ ∃ j, j < n ∧ farG G s j ∧ ¬ (C j).toInt = 1000000 ∧ y = (C j).toInt + 1)
theorem fr_n {G : Mem} {s : Int} {C : Nat → Int32} {n : Nat} {y : Int} (h : FrI G s C n y) (hn : ¬ farG G s n) : FrI G s C (n + 1) y := by
  refine ⟨fun j hj q => ?_, h.2.1, h.2.2.imp id (fun ⟨j, a, b⟩ => ⟨j, by omega, b⟩)⟩
  by_cases c : j = n
  · rw [c] at q
    exact absurd q hn
  · exact h.1 j (by omega) q
theorem fr_y {G : Mem} {s : Int} {C : Nat → Int32} {n : Nat} {y y' : Int} (h : FrI G s C n y) (hn : farG G s n) (hy : y' = min y ((C n).toInt + 1)) : FrI G s C (n + 1) y' := by
  refine ⟨fun j hj q => ?_, by have := h.2.1; omega, ?_⟩
  · by_cases c : j = n
    · rw [c]
      omega
    · have := h.1 j (by omega) q
      omega
  · by_cases c : y ≤ (C n).toInt + 1
    · have e : y' = y := by omega
      rw [e]
      exact h.2.2.imp id (fun ⟨j, a, b⟩ => ⟨j, by omega, b⟩)
    · refine Or.inr ⟨n, by omega, hn, ?_, by omega⟩
      have := h.2.1
      omega
theorem bf_w {G : Mem} {s : Int} {C : Nat → Int32} {F : Int} (hG : GdF G) (hs : 0 ≤ s ∧ s < 21) (h : BfI G s C) (hx : ∀ i j, i < 40 → j < 40 → RxP G s C i j) (hF : FrI G s C 40 F) : ∀ (k v : Nat) (d : Int), RcN G s k v d → (v < 40 → (C v).toInt ≤ d ∨ F ≤ d) ∧ (v = 41 → F ≤ d)
  | 0, v, d, hr => by
    have a := hr.1
    exact ⟨fun z => by omega, fun z => by omega⟩
  | k + 1, v, d, hr => by
    obtain ⟨u, d1, h1, h2, h3, h4, h5⟩ := hr
    have ih := bf_w hG hs h hx hF k u d1 h1
    have wb := wd_b hG h3
    have rb := rcn_b hG h1
    refine ⟨fun z => ?_, fun z => ?_⟩
    · by_cases c : u = 40
      · rw [c] at h3
        have a := (h v z).2.2 ((st_n hG hs.1 z).mp h3)
        exact Or.inl (by omega)
      · by_cases c2 : u = 41
        · have := ih.2 c2
          exact Or.inr (by omega)
        · rcases ih.1 (by omega) with y | y
          · by_cases c3 : (C u).toInt = 1000000
            · have := (h v z).1
              exact Or.inl (by omega)
            · have a := hx u v (by omega) z c3 ((st_s (by omega) z h3.1).mp h3)
              exact Or.inl (by omega)
          · exact Or.inr (by omega)
    · rw [z] at h3
      by_cases c : u = 40
      · rw [c] at h3
        have := st_b.mp h3
        omega
      · by_cases c2 : u = 41
        · exact absurd c2 h3.1
        · have fr := (st_f hG hs.1 (by omega)).mp h3
          have a := hF.1 u (by omega) fr
          have w1 : wD G 41 = 1 := if_neg (by omega)
          rw [z] at h5
          rcases ih.1 (by omega) with y | y
          · omega
          · omega
theorem bf_e {G : Mem} {s : Int} {C : Nat → Int32} {F : Int} (hG : GdF G) (hs : 0 ≤ s ∧ s < 21) (h : BfI G s C) (hx : ∀ i j, i < 40 → j < 40 → RxP G s C i j) (hF : FrI G s C 40 F) : (F < 1000000 → LcD G s 41 F ∧ 0 ≤ F) ∧ (¬ F < 1000000 → ∀ k d, RcN G s k 41 d → 1000000 ≤ d) := by
  have lo : ∀ k d, RcN G s k 41 d → F ≤ d := fun k d hr => (bf_w hG hs h hx hF k 41 d hr).2 rfl
  refine ⟨fun q => ?_, fun q k d hr => by have := lo k d hr; omega⟩
  rcases hF.2.2 with z | ⟨j, j1, j2, j3, j4⟩
  · omega
  · obtain ⟨k, hk⟩ := (h j j1).2.1 j3
    have w1 : wD G 41 = 1 := if_neg (by omega)
    have b := (h j j1).1
    exact ⟨⟨⟨k + 1, j, _, hk, by omega, (st_f hG hs.1 j1).mpr j2, by omega, by rw [j4, w1]⟩, lo⟩, by omega⟩
theorem bf_21 {G : Mem} {s : Int} (hG : GdF G) (hs : 21 ≤ s) : LcD G s 41 1 := by
  have w1 : wD G 41 = 1 := if_neg (by omega)
  refine ⟨⟨1, 40, 0, ⟨rfl, rfl⟩, by omega, st_b.mpr hs, by omega, by rw [w1]; rfl⟩, fun k d hr => ?_⟩
  cases k with
  | zero =>
    have := hr.1
    omega
  | succ k =>
    obtain ⟨u, d1, h1, -, h3, -, h5⟩ := hr
    have := rcn_b hG h1
    have := wd_b hG h3
    omega
/-- of a pass: while none has changed -/
theorem rx_near {G : Mem} {s : Int} {C C' : Nat → Int32} {i j : Nat} {x : Int} (hG : GdF G) (hs : 0 ≤ s) (h : BfI G s C) (hi : i < 40) (hj : j < 40) (ci : ¬ (C i).toInt = 1000000) (ha : adjG G s i j) (hx : x = (C i).toInt + wD G j) (hl : x < (C j).toInt) (e : (C' j).toInt = x) (e2 : ∀ v, ¬ v = j → C' v = C v) : BfI G s C' := fun v hv => by
  by_cases c : v = j
  · have a := h j hj
    have b := h i hi
    have ne : ¬ i = j := fun z => by
      rw [z] at hx
      have wb : 1 ≤ wD G j := by
        unfold wD
        rw [if_pos hj]
        have := hG.2.2 j ha.2.1.1.1 ha.2.1.1.2
        omega
      omega
    have st := (st_s (s := s) hi hj ne).mpr ha
    have wb := wd_b hG st
    rw [c, e]
    refine ⟨by omega, fun _ => ?_, fun q => by have := a.2.2 q; omega⟩
    obtain ⟨k, hk⟩ := b.2.1 ci
    exact ⟨k + 1, i, _, hk, by omega, st, by omega, hx⟩
  · rw [e2 v c]
    exact h v hv
def PqD (P Q : Prop) (r : Int) : Prop := (¬ P ∧ r = -1) ∨ (P ∧ Q)
theorem ff_dr {MC MM : Mem} {r r' v w : Int32} (h : FF MC MM) (hq : QQ MC MM) (hP : PP MC MM) (h1 : PqP (TpC MC v ∧ (0 ≤ w.toInt ∧ w.toInt ≤ 1)) (DrP (FdC MC 1) (MC 43 (ix v)).toInt w.toInt r.toInt) r) (h2 : PqP (TpR MM v ∧ (0 ≤ w.toInt ∧ w.toInt ≤ 1)) (DrP (FdR MM 1) (MM 4 (ix v)).toInt w.toInt r'.toInt) r') : r = r' := pq_fn h1 h2 ⟨fun z => ⟨(tp_iff hP).mp z.1, z.2⟩, fun z => ⟨(tp_iff hP).mpr z.1, z.2⟩⟩ (fun t a b => by
  rw [h.1.1, qq_e hq t.1] at a
  exact t_of (dr_fn a b))
/-! what the rows want -/
def ChI (D S : Nat → Int32) (n : Nat) (r : Int32) : Prop := (r.toInt = -1 ∧ ∀ x, x < n → (S x).toInt = 0 → (D x).toInt = -1) ∨ ((0 ≤ r.toInt ∧ r.toInt < 42) ∧ (S (ix r)).toInt = 0 ∧ ¬ (D (ix r)).toInt = -1 ∧ ∀ x, x < n → (S x).toInt = 0 → ¬ (D x).toInt = -1 → (D (ix r)).toInt ≤ (D x).toInt)
theorem ch_0 {D S : Nat → Int32} : ChI D S 0 (-1) := Or.inl ⟨by decide, fun x hx => absurd hx (Nat.not_lt_zero _)⟩
theorem ch_n {D S : Nat → Int32} {n : Nat} {r : Int32} (h : ChI D S n r) (hn : (S n).toInt = 0 → (D n).toInt = -1) : ChI D S (n + 1) r := by
  rcases h with ⟨a, b⟩ | ⟨a, b, c, d⟩
  · refine Or.inl ⟨a, fun x hx q => ?_⟩
    by_cases e : x = n
    · rw [e] at q ⊢
      exact hn q
    · exact b x (by omega) q
  · refine Or.inr ⟨a, b, c, fun x hx q1 q2 => ?_⟩
    by_cases e : x = n
    · rw [e] at q1 q2
      exact absurd (hn q1) q2
    · exact d x (by omega) q1 q2
theorem ch_k {D S : Nat → Int32} {n : Nat} {r : Int32} (h : ChI D S n r) (hr : ¬ r.toInt = -1) (hn : (D (ix r)).toInt ≤ (D n).toInt) : ChI D S (n + 1) r := by
  obtain ⟨a, b, c, d⟩ := h.resolve_left (fun z => hr z.1)
  refine Or.inr ⟨a, b, c, fun x hx q1 q2 => ?_⟩
  by_cases e : x = n
  · rw [e]
    exact hn
  · exact d x (by omega) q1 q2
theorem ch_m {D S : Nat → Int32} {r y : Int32} (h : ChI D S (ix y) r) (hy : 0 ≤ y.toInt ∧ y.toInt < 42) (hs : (S (ix y)).toInt = 0) (hd : ¬ (D (ix y)).toInt = -1) (hc : r.toInt = -1 ∨ ¬ (D (ix r)).toInt ≤ (D (ix y)).toInt) : ChI D S (ix y + 1) y := by
  refine Or.inr ⟨hy, hs, hd, fun x hx q1 q2 => ?_⟩
  by_cases e : x = ix y
  · rw [e]
    exact Int.le_refl _
  · rcases h with ⟨a, b⟩ | ⟨a, b, c, d⟩
    · exact absurd (b x (by omega) q1) q2
    · have := d x (by omega) q1 q2
      omega
theorem ch_e {D S : Nat → Int32} {n : Nat} {r : Int32} (h : ChI D S n r) (hn : n = 42) : ChP D S r := by
  rw [hn] at h
  exact h
theorem ch_b {D S : Nat → Int32} {n : Nat} {r : Int32} (h : ChI D S n r) (hr : ¬ r.toInt = -1) : 0 ≤ r.toInt ∧ r.toInt < 42 := (h.resolve_left (fun z => hr z.1)).1
theorem se_0 {G : Mem} {s : Int} {f : Nat} {D S S' : Nat → Int32} (h1 : ¬ (S' f).toInt = 0) (h2 : ∀ v, ¬ v = f → S' v = S v) : SeP G s f 0 D S D S' := ⟨⟨h1, h2⟩, fun _ _ => rfl, fun v hv => absurd hv (Nat.not_lt_zero _)⟩
theorem se_f {G : Mem} {s : Int} {f n : Nat} {D S D' S' : Nat → Int32} (h : SeP G s f n D S D' S') : D' f = D f := by
  by_cases c : f < n
  · exact (h.2.2 f c).1 h.1.1
  · exact h.2.1 f (by omega)
theorem se_k {G : Mem} {s : Int} {f n : Nat} {D S D' S' : Nat → Int32} (h : SeP G s f n D S D' S') (hc : ¬ (S' n).toInt = 0 ∨ ¬ stC G s f n ∨ (¬ (D' n).toInt = -1 ∧ (D' n).toInt ≤ (D f).toInt + wD G n)) : SeP G s f (n + 1) D S D' S' := by
  have e := h.2.1 n (Nat.le_refl _)
  refine ⟨h.1, fun v hv => h.2.1 v (by omega), fun v hv => ?_⟩
  by_cases c : v = n
  · rw [c]
    refine ⟨fun _ => e, fun q => ⟨fun _ => e, fun q2 => Or.inr ?_⟩⟩
    rcases hc with z | z | z
    · exact absurd q z
    · exact absurd q2 z
    · rw [e] at z
      exact ⟨e, z⟩
  · exact h.2.2 v (by omega)
theorem se_u {G : Mem} {s : Int} {f n : Nat} {D S D' S' D2 : Nat → Int32} (h : SeP G s f n D S D' S') (h0 : (S' n).toInt = 0) (hst : stC G s f n) (hl : (D' n).toInt = -1 ∨ (D f).toInt + wD G n < (D' n).toInt) (e1 : (D2 n).toInt = (D f).toInt + wD G n) (e2 : ∀ v, ¬ v = n → D2 v = D' v) : SeP G s f (n + 1) D S D2 S' := by
  have e := h.2.1 n (Nat.le_refl _)
  refine ⟨h.1, fun v hv => by rw [e2 v (by omega)]; exact h.2.1 v (by omega), fun v hv => ?_⟩
  by_cases c : v = n
  · rw [c]
    rw [e] at hl
    exact ⟨fun q => absurd h0 q, fun _ => ⟨fun q => absurd hst q, fun _ => Or.inl ⟨e1, hl⟩⟩⟩
  · rw [e2 v c]
    exact h.2.2 v (by omega)
theorem wd_1 {G : Mem} {v : Nat} (h : ¬ v < 40) : wD G v = 1 := if_neg h
theorem wd_s {G : Mem} {v : Nat} (h : v < 40) : wD G v = 1 + 100 * (G 3 v).toInt := if_pos h
theorem st_dry {G : Mem} {s : Int} {u v : Nat} (h : stC G s u v) (hv : v < 40) : dryG G v := by
  rcases h.2.2 with z | z
  · exact z.1
  · omega
def DjX (G : Mem) (s : Int) (D S : Nat → Int32) : Prop := ∃ t, DjI G s D S t ∧ (42 ≤ t ∨ ∀ x, x < 42 → (S x).toInt = 0 → (D x).toInt = -1)
theorem dj_b {G : Mem} {s : Int} {D S : Nat → Int32} {t : Nat} (hG : GdF G) (h : DjI G s D S t) : ∀ v, v < 42 → -1 ≤ (D v).toInt ∧ (D v).toInt ≤ 37842 := fun v hv => by
  by_cases c : (D v).toInt = -1
  · omega
  · have a := h.1 v hv c
    have t42 := dj_t h
    obtain ⟨⟨k, hk⟩, b⟩ := a
    have := rcn_b hG hk
    omega
theorem dj_x {G : Mem} {s : Int} {D S : Nat → Int32} (hG : GdF G) (h : DjX G s D S) : ((D 41).toInt = -1 → ∀ k d, RcN G s k 41 d → 1000000 ≤ d) ∧ (¬ (D 41).toInt = -1 → LcD G s 41 (D 41).toInt ∧ 0 ≤ (D 41).toInt ∧ (D 41).toInt < 1000000) := by
  obtain ⟨t, a, b⟩ := h
  exact dj_e hG a b
theorem dr_v {G : Mem} {s w : Int} {x y : Int32} (h : LcD G s 41 x.toInt ∧ 0 ≤ x.toInt ∧ x.toInt < 1000000) (hy : y = if w = 0 then x / nI 100 else rm x (nI 100)) : DrP G s w y.toInt := by
  refine Or.inl ⟨x.toInt, ⟨h.1, h.2.2⟩, ?_⟩
  rw [hy]
  by_cases c : w = 0
  · rw [if_pos c, if_pos c]
    exact t_divn x 100 h.2.1 (by omega)
  · rw [if_neg c, if_neg c]
    exact t_rmn x 100 h.2.1 (by omega)
def BfN (G : Mem) (s : Int) (C : Nat → Int32) (n : Nat) : Prop := ∀ j, j < n → (1 ≤ (C j).toInt ∧ (C j).toInt ≤ 1000000) ∧ (¬ (C j).toInt = 1000000 → ∃ k, RcN G s k j (C j).toInt) ∧ (nearG G s j → (C j).toInt ≤ wD G j)
theorem bfn_s {G : Mem} {s : Int} {C C' : Nat → Int32} {n : Nat} {t : Int32} (hG : GdF G) (hs : 0 ≤ s) (h : BfN G s C n) (hn : n < 40) (e1 : ∀ j, j < n → C' j = C j) (e2 : C' n = t) (ht : (t.toInt = 1000000 ∧ ¬ nearG G s n) ∨ (nearG G s n ∧ t.toInt = wD G n)) : BfN G s C' (n + 1) := fun j hj => by
  by_cases c : j = n
  · rw [c, e2]
    rcases ht with ⟨a, b⟩ | ⟨a, b⟩
    · exact ⟨by omega, fun q => absurd a q, fun q => absurd q b⟩
    · have st := (st_n hG hs hn).mpr a
      have wb := wd_b hG st
      exact ⟨by omega, fun _ => ⟨1, 40, 0, ⟨rfl, rfl⟩, by omega, st, by omega, by omega⟩, fun _ => by omega⟩
  · rw [e1 j (by omega)]
    exact h j (by omega)
def FxP (G : Mem) (s : Int) (C : Nat → Int32) (y : Int32) : Prop := y.toInt = 0 → ∀ i j, i < 40 → j < 40 → RxP G s C i j
def PsP (G : Mem) (s : Int) (C C' : Nat → Int32) (y : Int32) (n m : Nat) : Prop := y.toInt = 0 → (∀ v, C' v = C v) ∧ ∀ i j, (i < n ∨ (i = n ∧ j < m)) → i < 40 → j < 40 → RxP G s C' i j
theorem ps_0 {G : Mem} {s : Int} {C : Nat → Int32} {y : Int32} : PsP G s C C y 0 0 := fun _ => ⟨fun _ => rfl, fun i j h => by omega⟩
theorem ps_r {G : Mem} {s : Int} {C C' : Nat → Int32} {y : Int32} {n m : Nat} (h : PsP G s C C' y n m) (hm : 40 ≤ m) : PsP G s C C' y (n + 1) 0 := fun q => ⟨(h q).1, fun i j z h1 h2 => (h q).2 i j (by omega) h1 h2⟩
theorem ps_s {G : Mem} {s : Int} {C C' : Nat → Int32} {y : Int32} {n m : Nat} (h : PsP G s C C' y n m) (hr : RxP G s C' n m) : PsP G s C C' y n (m + 1) := fun q => ⟨(h q).1, fun i j z h1 h2 => by
  by_cases c : i = n ∧ j = m
  · rw [c.1, c.2]
    exact hr
  · exact (h q).2 i j (by omega) h1 h2⟩
theorem ps_c {G : Mem} {s : Int} {C C' : Nat → Int32} {n m : Nat} : PsP G s C C' (nI 1) n m := fun q => absurd q ne1
theorem ps_e {G : Mem} {s : Int} {C C' : Nat → Int32} {y : Int32} {n : Nat} (h : PsP G s C C' y n 0) (hn : 40 ≤ n) : FxP G s C' y := fun q i j h1 h2 => (h q).2 i j (Or.inl (by omega)) h1 h2
theorem fr_0 {G : Mem} {s : Int} {C : Nat → Int32} : FrI G s C 0 1000000 := ⟨fun j hj => absurd hj (Nat.not_lt_zero _), Int.le_refl _, Or.inl rfl⟩
