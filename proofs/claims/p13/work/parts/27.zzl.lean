/-! one more stone -/
theorem za_l {a b c : Prop} (h : a ↔ b) : a ∧ c ↔ b ∧ c := ⟨fun z => ⟨h.mp z.1, z.2⟩, fun z => ⟨h.mpr z.1, z.2⟩⟩
theorem za_2 {a b c d : Prop} (h : a ↔ c) (k : b ↔ d) : a ∧ b ↔ c ∧ d := ⟨fun z => ⟨h.mp z.1, k.mp z.2⟩, fun z => ⟨h.mpr z.1, k.mpr z.2⟩⟩
theorem za_o {a b c : Prop} (h : b ↔ c) : a ∨ b ↔ a ∨ c := ⟨fun z => z.elim Or.inl (fun q => Or.inr (h.mp q)), fun z => z.elim Or.inl (fun q => Or.inr (h.mpr q))⟩
def RF (G : Mem) (s : Int) : Nat → Nat → Prop
  | 0, i => farG G s i
  | k + 1, i => ∃ j, RF G s k j ∧ adjG G s j i
theorem rf_d {G : Mem} {s : Int} : ∀ {k i : Nat}, RF G s k i → dryG G i
  | 0, _, h => h.1
  | _ + 1, _, ⟨_, _, h⟩ => h.2.1
theorem rf_r {G : Mem} {s : Int} {sR : Nat → Int} (h : Bend 40 (farG G s) (adjG G s) sR) : (∀ k i, RF G s k i → ¬ sR i = -1 ∧ sR i ≤ (k : Int) + 1) ∧ ∀ k i : Nat, i < 40 → sR i = (k : Int) + 1 → RF G s k i := by
  obtain ⟨h1, h2, h3, h4⟩ := h
  refine ⟨fun k => ?_, fun k => ?_⟩
  · induction k with
    | zero =>
      intro i hi
      have z := (h2 i (rf_d hi).1.1).mpr hi
      omega
    | succ k ih =>
      intro i hi
      obtain ⟨j, hj, ha⟩ := hi
      have z := ih j hj
      have y := h4 j i ha.1.1.1 ha.2.1.1.1 z.1 ha
      omega
  · induction k with
    | zero => exact fun i hi e => (h2 i hi).mp (by omega)
    | succ k ih =>
      intro i hi e
      obtain ⟨p, hp, ep, cp⟩ := h3 i hi (by omega)
      exact ⟨p, ih p hp (by omega), cp⟩
theorem dd_sy (a b c d : Int) : dd (a - b) (c - d) = dd (b - a) (d - c) := by
  unfold dd
  rw [show a - b = -(b - a) from by omega, show c - d = -(d - c) from by omega, Int.neg_mul_neg, Int.neg_mul_neg]
theorem adj_sy {G : Mem} {s : Int} {i j : Nat} (h : adjG G s i j) : adjG G s j i := ⟨h.2.1, h.1, by
  have z := h.2.2
  rw [dd_sy] at z
  exact z⟩
theorem nc_d {G : Mem} {s : Int} (h : NCr G s) : ¬ 21 ≤ s ∧ ∀ k i, RK G s k i → ¬ farG G s i := by
  rcases h with ⟨a, b⟩ | ⟨a, b⟩
  · omega
  · rcases b with ⟨b1, b2⟩ | ⟨k, i, b1, b2, b3, b4⟩
    · exact ⟨a, b2⟩
    · omega
theorem rf_no {G : Mem} {s : Int} (h : NCr G s) : ∀ {k m i : Nat}, RF G s k i → RK G s m i → False
  | 0, m, i, hf, hk => (nc_d h).2 m i hk hf
  | _ + 1, m, _, ⟨j, hj, ha⟩, hk => rf_no h (m := m + 1) hj ⟨_, hk, adj_sy ha⟩
/-! steps of the class from the far bank -/
theorem st_fn {G : Mem} {s : Int} {j : Nat} (hG : GdF G) (hs : 0 ≤ s) (hj : j < 40) : stC G s 41 j ↔ farG G s j := by
  unfold stC farG stF
  rw [al_b (by omega), hg_41, dd_0]
  refine ⟨fun h => ?_, fun h => ⟨by omega, Or.inr (Or.inl rfl), Or.inl ⟨h.1, ?_⟩⟩⟩
  · rcases h.2.2 with z | z
    · refine ⟨z.1, ?_⟩
      exact (sq_iff (by have := (dry_b hG z.1).2; omega) hs).mp z.2
    · omega
  · exact (sq_iff (by have := (dry_b hG h.1).2; omega) hs).mpr h.2
theorem st_nb {G : Mem} {s : Int} {i : Nat} (hG : GdF G) (hi : i < 40) (h : stC G s i 40) : nearG G s i := by
  unfold stC at h
  rw [hg_40, hg_s hi] at h
  rcases h.2.2 with z | z
  · exact absurd z.1.1.1 (by omega)
  · exact ⟨h.2.1.elim (fun q => absurd q (by omega)) (fun q => q.elim (fun q => absurd q (by omega)) id), by have := z.2.1; omega⟩
theorem st_fb {G : Mem} {s : Int} (h : stC G s 41 40) : 21 ≤ s := by
  unfold stC at h
  rw [hg_40, hg_41] at h
  rcases h.2.2 with z | z
  · exact absurd z.1.1.1 (by omega)
  · have := z.2.1
    omega
theorem rf_c {G : Mem} {s : Int} {sC : Nat → Int} (hG : GdF G) (hs : 0 ≤ s) (hn : NCr G s) (h : Bend 42 (fun j => j = 41) (stC G s) sC) : ∀ i : Nat, i < 40 → (¬ sC i = -1 ↔ ∃ k, RF G s k i) := by
  obtain ⟨h1, h2, h3, h4⟩ := h
  have e41 : sC 41 = 1 := (h2 41 (by omega)).mpr rfl
  have up : ∀ k i, RF G s k i → ¬ sC i = -1 := fun k => by
    induction k with
    | zero =>
      intro i hi
      have hd := (rf_d hi).1.1
      exact (h4 41 i (by omega) (by omega) (by omega) ((st_fn hG hs hd).mpr hi)).1
    | succ k ih =>
      intro i hi
      obtain ⟨j, hj, ha⟩ := hi
      have z := ih j hj
      by_cases c : j = i
      · rw [← c]
        exact z
      · exact (h4 j i (by have := ha.1.1.1; omega) (by have := ha.2.1.1.1; omega) z ((st_s ha.1.1.1 ha.2.1.1.1 c).mpr ha)).1
  have dn : ∀ (n : Nat) (i : Nat), i < 42 → sC i = (n : Int) + 1 → (i < 40 → ∃ k, RF G s k i) ∧ ¬ i = 40 := fun n => by
    induction n with
    | zero =>
      intro i hi e
      have z : i = 41 := (h2 i hi).mp (by omega)
      exact ⟨fun q => by omega, by omega⟩
    | succ n ih =>
      intro i hi e
      obtain ⟨p, hp, ep, cp⟩ := h3 i hi (by omega)
      have q := ih p hp (by omega)
      have ni : ¬ p = i := fun z => by
        rw [z] at ep
        omega
      by_cases c41 : p = 41
      · rw [c41] at cp
        refine ⟨fun hi2 => ⟨0, (st_fn hG hs hi2).mp cp⟩, fun z => ?_⟩
        rw [z] at cp
        exact (nc_d hn).1 (st_fb cp)
      · obtain ⟨k, hk⟩ := q.1 (by have := q.2; omega)
        refine ⟨fun hi2 => ⟨k + 1, p, hk, (st_s (rf_d hk).1.1 hi2 ni).mp cp⟩, fun z => ?_⟩
        rw [z] at cp
        exact rf_no hn (m := 0) hk (st_nb hG (rf_d hk).1.1 cp)
  intro i hi
  refine ⟨fun z => ?_, fun ⟨k, hk⟩ => up k i hk⟩
  have z1 := (h1 i (by omega)).resolve_left z
  exact (dn (sC i - 1).toNat i (by omega) (by omega)).1 hi
theorem rf_40 {G : Mem} {s : Int} {sC : Nat → Int} (hG : GdF G) (hs : 0 ≤ s) (hn : NCr G s) (h : Bend 42 (fun j => j = 41) (stC G s) sC) : sC 40 = -1 := by
  have hc := rf_c hG hs hn h
  obtain ⟨h1, h2, h3, h4⟩ := h
  rcases h1 40 (by omega) with z | z
  · exact z
  · have n1 : ¬ sC 40 = 1 := fun e => by
      have q : (40 : Nat) = 41 := (h2 40 (by omega)).mp e
      omega
    obtain ⟨p, hp, ep, cp⟩ := h3 40 (by omega) (by omega)
    by_cases c41 : p = 41
    · rw [c41] at cp
      exact ((nc_d hn).1 (st_fb cp)).elim
    · have c40 : ¬ p = 40 := fun q => by
        rw [q] at ep
        omega
      obtain ⟨k, hk⟩ := (hc p (by omega)).mp (by have := z.1; omega)
      exact (rf_no hn (m := 0) hk (st_nb hG (by omega) cp)).elim
theorem rk_n {G : Mem} {s : Int} {sC : Nat → Int} (hG : GdF G) (hs : 0 ≤ s) (hn : NCr G s) (h : Bend 42 (fun j => j = 40) (stC G s) sC) (hz : sC 41 = sp (-1)) : ∀ i : Nat, i < 40 → (¬ sC i = -1 ↔ ∃ k, RK G s k i) := by
  have hk := rk_c hG hs h
  rw [sp_n] at hz
  intro i hi
  refine ⟨fun z => ?_, fun ⟨k, q⟩ => (hk.1 k i q).1⟩
  have z1 := (h.1 i (by omega)).resolve_left z
  have n1 : ¬ sC i = 1 := fun e => by
    have q : i = 40 := (h.2.1 i (by omega)).mp e
    omega
  exact ⟨(sC i - 2).toNat, hk.2 _ i hi (by omega) (Or.inl hz)⟩
theorem rc_dry {G : Mem} {s : Int} {a : Nat} {sC : Nat → Int} (ha : a = 40 ∨ a = 41) (h : Bend 42 (fun j => j = a) (stC G s) sC) : ∀ i, i < 42 → ¬ sC i = -1 → i = 40 ∨ i = 41 ∨ dryG G i := fun i hi hn => by
  obtain ⟨h1, h2, h3, h4⟩ := h
  have z := (h1 i hi).resolve_left hn
  by_cases c : sC i = 1
  · have e : i = a := (h2 i hi).mp c
    exact ha.elim (fun q => Or.inl (e.trans q)) (fun q => Or.inr (Or.inl (e.trans q)))
  · obtain ⟨p, hp, ep, cp⟩ := h3 i hi (by omega)
    rcases cp.2.2 with q | q
    · exact Or.inr (Or.inr q.1)
    · exact q.1.elim Or.inl (fun t => Or.inr (Or.inl t))
/-! rows across: sums -/
def sQ (f : Nat → Nat) : Nat → Nat
  | 0 => 0
  | n + 1 => sQ f n + f n
theorem zq_cg {f g : Nat → Nat} : ∀ {n : Nat}, (∀ j, j < n → f j = g j) → sQ f n = sQ g n
  | 0, _ => rfl
  | n + 1, h => by
    show sQ f n + f n = sQ g n + g n
    rw [zq_cg (n := n) (fun j hj => h j (by omega)), h n (by omega)]
theorem zq_z {f : Nat → Nat} {n : Nat} (h : ∀ j, j < n → f j = 0) : sQ f n = 0 := by
  have z : ∀ m, sQ (fun _ => 0) m = 0 := fun m => by
    induction m with
    | zero => rfl
    | succ m ih => exact ih
  rw [zq_cg (g := fun _ => 0) h]
  exact z n
theorem zq_add (f g : Nat → Nat) : ∀ n, sQ (fun j => f j + g j) n = sQ f n + sQ g n
  | 0 => rfl
  | n + 1 => by
    show sQ (fun j => f j + g j) n + (f n + g n) = sQ f n + f n + (sQ g n + g n)
    rw [zq_add f g n]
    omega
theorem zq_mul (c : Nat) (f : Nat → Nat) : ∀ n, sQ (fun j => f j * c) n = sQ f n * c
  | 0 => (Nat.zero_mul c).symm
  | n + 1 => by
    show sQ (fun j => f j * c) n + f n * c = (sQ f n + f n) * c
    rw [zq_mul c f n, Nat.add_mul]
theorem zq_swap (f : Nat → Nat → Nat) (m : Nat) : ∀ n, sQ (fun i => sQ (fun j => f i j) m) n = sQ (fun j => sQ (fun i => f i j) n) m
  | 0 => (zq_z (fun _ _ => rfl)).symm
  | n + 1 => by
    show sQ (fun i => sQ (fun j => f i j) m) n + sQ (fun j => f n j) m = sQ (fun j => sQ (fun i => f i j) n + f n j) m
    rw [zq_swap f m n, ← zq_add]
theorem zq_le {f g : Nat → Nat} : ∀ {n : Nat}, (∀ j, j < n → f j ≤ g j) → sQ f n ≤ sQ g n
  | 0, _ => Nat.le_refl _
  | n + 1, h => by
    show sQ f n + f n ≤ sQ g n + g n
    have := zq_le (n := n) (fun j hj => h j (by omega))
    have := h n (by omega)
    omega
/-- sums that are alike over places that are each at most the other's are alike place by place -/
theorem zq_eq {f g : Nat → Nat} : ∀ {n : Nat}, (∀ j, j < n → f j ≤ g j) → sQ f n = sQ g n → ∀ j, j < n → f j = g j
  | 0, _, _, _, hj => absurd hj (Nat.not_lt_zero _)
  | n + 1, h, e, j, hj => by
    have e1 : sQ f n + f n = sQ g n + g n := e
    have a := zq_le (n := n) (fun j hj => h j (by omega))
    have b := h n (by omega)
    by_cases c : j = n
    · rw [c]
      omega
    · exact zq_eq (n := n) (fun j hj => h j (by omega)) (by omega) j (by omega)
def eN (a b : Nat) : Nat := if a = b then 1 else 0
theorem en_y {a : Nat} : eN a a = 1 := if_pos rfl
theorem en_n {a b : Nat} (h : ¬ a = b) : eN a b = 0 := if_neg h
/-- one place out of a sum -/
theorem zq_one {g : Nat → Nat} {v : Nat} : ∀ {m : Nat}, v < m → sQ (fun x => eN v x * g x) m = g v
  | 0, h => absurd h (Nat.not_lt_zero _)
  | m + 1, h => by
    show sQ (fun x => eN v x * g x) m + eN v m * g m = g v
    by_cases c : v = m
    · rw [zq_z (fun j hj => by rw [en_n (by omega), Nat.zero_mul]), c, en_y, Nat.one_mul, Nat.zero_add]
    · rw [zq_one (m := m) (by omega), en_n c, Nat.zero_mul, Nat.add_zero]
theorem zq_1 : ∀ n, sQ (fun _ => 1) n = n
  | 0 => rfl
  | n + 1 => by
    show sQ (fun _ => 1) n + 1 = n + 1
    rw [zq_1 n]
def vN (s : Nat → Int) (x : Nat) : Nat := if s x = -1 then 0 else 1
theorem vn_c {s : Nat → Int} : ∀ n, sQ (vN s) n = cN s n
  | 0 => rfl
  | n + 1 => by
    show sQ (vN s) n + vN s n = cN s n + (if s n = -1 then 0 else 1)
    rw [vn_c n]
    rfl
/-- over the queue or over the nodes that have been come to: the same sum -/
theorem zq_q {m n : Nat} {s : Nat → Int} {q : Nat → Nat} {g : Nat → Nat} (h : Bq m s q n) : sQ (fun t => g (q t)) n = sQ (fun x => vN s x * g x) m := by
  obtain ⟨h1, h2, h3⟩ := h
  have a : sQ (fun t => g (q t)) n = sQ (fun x => sQ (fun t => eN (q t) x) n * g x) m := by
    rw [zq_cg (g := fun t => sQ (fun x => eN (q t) x * g x) m) (fun t ht => (zq_one (h2 t ht).1).symm), zq_swap]
    exact zq_cg (fun x hx => zq_mul (g x) (fun t => eN (q t) x) n)
  have b : sQ (vN s) m = sQ (fun x => sQ (fun t => eN (q t) x) n) m := by
    rw [vn_c, ← h1, ← zq_swap (fun t x => eN (q t) x) m n, zq_cg (g := fun _ => 1) (fun t ht => ?_), zq_1]
    have z := zq_one (g := fun _ => 1) (h2 t ht).1
    rw [zq_cg (g := fun x => eN (q t) x) (fun x hx => Nat.mul_one _)] at z
    exact z
  have e := zq_eq (f := vN s) (g := fun x => sQ (fun t => eN (q t) x) n) (fun x hx => ?_) b
  · rw [a]
    exact zq_cg (fun x hx => by rw [e x hx])
  · unfold vN
    by_cases c : s x = -1
    · rw [if_pos c]
      exact Nat.zero_le _
    · rw [if_neg c]
      obtain ⟨t, ht, et⟩ := h3 x hx c
      have z : sQ (fun u => eN t u * 1) n = 1 := zq_one (g := fun _ => 1) ht
      rw [← z]
      refine zq_le (fun u hu => ?_)
      by_cases w : t = u
      · rw [← w, et, en_y, en_y]
        exact Nat.le_refl _
      · rw [en_n w, Nat.zero_mul]
        exact Nat.zero_le _
/-! walks -/
def decA (G : Mem) (s : Int) (i j : Nat) : Decidable (adjG G s i j) := by
  unfold adjG dryG tld
  exact inferInstance
def decN (G : Mem) (s : Int) (i : Nat) : Decidable (nearG G s i) := by
  unfold nearG dryG tld
  exact inferInstance
def decF (G : Mem) (s : Int) (i : Nat) : Decidable (farG G s i) := by
  unfold farG dryG tld
  exact inferInstance
def lkN (G : Mem) (s : Int) (i j : Nat) : Nat := @ite Nat (adjG G s i j) (decA G s i j) 1 0
def nN (G : Mem) (s : Int) (i : Nat) : Nat := @ite Nat (nearG G s i) (decN G s i) 1 0
def fN (G : Mem) (s : Int) (i : Nat) : Nat := @ite Nat (farG G s i) (decF G s i) 1 0
theorem lk_y9 {G : Mem} {s : Int} {i j : Nat} (h : adjG G s i j) : lkN G s i j = 1 := if_pos h
theorem lk_n9 {G : Mem} {s : Int} {i j : Nat} (h : ¬ adjG G s i j) : lkN G s i j = 0 := if_neg h
theorem nn_y {G : Mem} {s : Int} {i : Nat} (h : nearG G s i) : nN G s i = 1 := if_pos h
theorem nn_n {G : Mem} {s : Int} {i : Nat} (h : ¬ nearG G s i) : nN G s i = 0 := if_neg h
theorem fn_y {G : Mem} {s : Int} {i : Nat} (h : farG G s i) : fN G s i = 1 := if_pos h
theorem fn_n {G : Mem} {s : Int} {i : Nat} (h : ¬ farG G s i) : fN G s i = 0 := if_neg h
theorem lk_sy {G : Mem} {s : Int} {i j : Nat} : lkN G s i j = lkN G s j i := by
  by_cases c : adjG G s i j
  · rw [lk_y9 c, lk_y9 (adj_sy c)]
  · rw [lk_n9 c, lk_n9 (fun z => c (adj_sy z))]
def Wn (G : Mem) (s : Int) (m : Nat) : Nat → Nat → Nat
  | 0, i => nN G s i
  | k + 1, i => sQ (fun j => Wn G s m k j * lkN G s j i) m
def Wf (G : Mem) (s : Int) (m : Nat) : Nat → Nat → Nat
  | 0, i => fN G s i
  | k + 1, i => sQ (fun j => Wf G s m k j * lkN G s j i) m
theorem w_mv {G : Mem} {s : Int} {m a b : Nat} : sQ (fun i => Wn G s m (a + 1) i * Wf G s m b i) m = sQ (fun i => Wn G s m a i * Wf G s m (b + 1) i) m := by
  have l : sQ (fun i => Wn G s m (a + 1) i * Wf G s m b i) m = sQ (fun i => sQ (fun j => Wn G s m a j * lkN G s j i * Wf G s m b i) m) m := zq_cg (fun i _ => (zq_mul (Wf G s m b i) (fun j => Wn G s m a j * lkN G s j i) m).symm)
  have r : sQ (fun j => Wn G s m a j * Wf G s m (b + 1) j) m = sQ (fun j => sQ (fun i => Wn G s m a j * lkN G s j i * Wf G s m b i) m) m := zq_cg (fun j _ => by
    show Wn G s m a j * sQ (fun i => Wf G s m b i * lkN G s i j) m = _
    rw [Nat.mul_comm, ← zq_mul]
    exact zq_cg (fun i _ => by rw [lk_sy (i := i) (j := j), Nat.mul_comm (Wf G s m b i), Nat.mul_right_comm, Nat.mul_comm (lkN G s j i)]))
  rw [l, r]
  exact zq_swap (fun i j => Wn G s m a j * lkN G s j i * Wf G s m b i) m m
theorem w_all {G : Mem} {s : Int} {m : Nat} : ∀ a b, sQ (fun i => Wn G s m a i * Wf G s m b i) m = sQ (fun i => nN G s i * Wf G s m (a + b) i) m
  | 0, b => by
    rw [Nat.zero_add]
    rfl
  | a + 1, b => by
    rw [w_mv, w_all a (b + 1), show a + 1 + b = a + (b + 1) from by omega]
/-- as many rows of n steps between stones from the near bank's side as from the far one's -/
theorem w_eq {G : Mem} {s : Int} {m : Nat} (n : Nat) : sQ (fun i => Wn G s m n i * fN G s i) m = sQ (fun i => nN G s i * Wf G s m n i) m := w_all n 0
theorem zq_p {f : Nat → Nat} : ∀ {n : Nat}, ¬ sQ f n = 0 → ∃ j, j < n ∧ ¬ f j = 0
  | 0, h => absurd rfl h
  | n + 1, h => by
    by_cases c : f n = 0
    · have h2 : ¬ sQ f n + f n = 0 := h
      obtain ⟨j, a, b⟩ := zq_p (n := n) (f := f) (by omega)
      exact ⟨j, by omega, b⟩
    · exact ⟨n, by omega, c⟩
theorem wn_k {G : Mem} {s : Int} {m : Nat} : ∀ {k i : Nat}, ¬ Wn G s m k i = 0 → RK G s k i
  | 0, i, h => by
    by_cases c : nearG G s i
    · exact c
    · exact absurd (nn_n c) h
  | k + 1, i, h => by
    obtain ⟨j, a, b⟩ := zq_p h
    have h1 : ¬ Wn G s m k j = 0 := fun z => b (by rw [z, Nat.zero_mul])
    by_cases c : adjG G s j i
    · exact ⟨j, wn_k h1, c⟩
    · exact absurd (by rw [lk_n9 c, Nat.mul_zero]) b
theorem wf_k {G : Mem} {s : Int} {m : Nat} : ∀ {k i : Nat}, ¬ Wf G s m k i = 0 → RF G s k i
  | 0, i, h => by
    by_cases c : farG G s i
    · exact c
    · exact absurd (fn_n c) h
  | k + 1, i, h => by
    obtain ⟨j, a, b⟩ := zq_p h
    have h1 : ¬ Wf G s m k j = 0 := fun z => b (by rw [z, Nat.zero_mul])
    by_cases c : adjG G s j i
    · exact ⟨j, wf_k h1, c⟩
    · exact absurd (by rw [lk_n9 c, Nat.mul_zero]) b
/-! at most -/
def sat (n : Nat) : Nat := min 1000000000 n
theorem sat_a (a b : Nat) : sat (sat a + b) = sat (a + b) := by
  unfold sat
  omega
theorem sat_b (a b : Nat) : sat (a + sat b) = sat (a + b) := by
  unfold sat
  omega
/-! the far rings, the least row -/
def XF (G : Mem) (s : Int) (k i : Nat) : Prop := RF G s k i ∧ ∀ k', k' < k → ¬ RF G s k' i
theorem xf_r {G : Mem} {s : Int} {sR : Nat → Int} (h : Bend 40 (farG G s) (adjG G s) sR) {k i : Nat} (hi : i < 40) : sR i = (k : Int) + 1 ↔ XF G s k i := by
  have hk := rf_r h
  refine ⟨fun z => ⟨hk.2 k i hi z, fun k' h' q => ?_⟩, fun z => ?_⟩
  · have := (hk.1 k' i q).2
    omega
  · have a := hk.1 k i z.1
    have b := (h.1 i hi).resolve_left a.1
    by_cases c : sR i = (k : Int) + 1
    · exact c
    · exact absurd (hk.2 (sR i - 1).toNat i hi (by omega)) (z.2 _ (by omega))
theorem rf_rev {G : Mem} {s : Int} : ∀ {k j i : Nat}, RF G s k i → RK G s j i → ∃ q, RK G s (j + k) q ∧ farG G s q
  | 0, j, i, hf, hk => ⟨i, hk, hf⟩
  | k + 1, j, _, ⟨p, hp, ha⟩, hk => by
    obtain ⟨q, a, b⟩ := rf_rev (j := j + 1) hp ⟨_, hk, adj_sy ha⟩
    rw [show j + 1 + k = j + (k + 1) from by omega] at a
    exact ⟨q, a, b⟩
theorem rk_rev {G : Mem} {s : Int} : ∀ {k j i : Nat}, RK G s k i → RF G s j i → ∃ q, RF G s (j + k) q ∧ nearG G s q
  | 0, j, i, hk, hf => ⟨i, hf, hk⟩
  | k + 1, j, _, ⟨p, hp, ha⟩, hf => by
    obtain ⟨q, a, b⟩ := rk_rev (j := j + 1) hp ⟨_, hf, adj_sy ha⟩
    rw [show j + 1 + k = j + (k + 1) from by omega] at a
    exact ⟨q, a, b⟩
def LeP (P : Nat → Prop) (i : Nat) : Prop := P i ∧ ∀ j, j < i → ¬ P j
theorem le_fn {P : Nat → Prop} {i i' : Nat} (h : LeP P i) (h' : LeP P i') : i = i' := by
  rcases Nat.lt_trichotomy i i' with c | c | c
  · exact absurd h.1 (h'.2 i c)
  · exact c
  · exact absurd h'.1 (h.2 i' c)
def LrP (G : Mem) (s : Int) (n : Nat) : Nat → Nat → Prop
  | 0, i => LeP (fun j => nearG G s j ∧ XF G s n j) i
  | t + 1, i => ∃ p, LrP G s n t p ∧ LeP (fun j => adjG G s p j ∧ XF G s (n - (t + 1)) j) i
theorem lr_fn {G : Mem} {s : Int} {n : Nat} : ∀ {t i i' : Nat}, LrP G s n t i → LrP G s n t i' → i = i'
  | 0, _, _, h, h' => le_fn h h'
  | t + 1, _, _, ⟨p, a, b⟩, ⟨p', a', b'⟩ => by
    have e := lr_fn a a'
    rw [e] at b
    exact le_fn b b'
theorem lr_x {G : Mem} {s : Int} {n : Nat} : ∀ {t i : Nat}, LrP G s n t i → XF G s (n - t) i
  | 0, _, h => h.1.2
  | _ + 1, _, ⟨_, _, h⟩ => h.1.2
/-- one can go on -/
theorem lr_on {G : Mem} {s : Int} {k p : Nat} (h : XF G s (k + 1) p) : ∃ j, adjG G s p j ∧ XF G s k j := by
  obtain ⟨⟨j, a, b⟩, c⟩ := h
  exact ⟨j, adj_sy b, a, fun k' hk z => c (k' + 1) (by omega) ⟨j, z, b⟩⟩
