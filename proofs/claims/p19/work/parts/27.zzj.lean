/-! one more stone -/
theorem za_l {a b c : Prop} (h : a ↔ b) : a ∧ c ↔ b ∧ c := ⟨fun z => ⟨h.mp z.1, z.2⟩, fun z => ⟨h.mpr z.1, z.2⟩⟩
theorem za_2 {a b c d : Prop} (h : a ↔ c) (k : b ↔ d) : a ∧ b ↔ c ∧ d := ⟨fun z => ⟨h.mp z.1, k.mp z.2⟩, fun z => ⟨h.mpr z.1, k.mpr z.2⟩⟩
theorem za_o {a b c : Prop} (h : b ↔ c) : a ∨ b ↔ a ∨ c := ⟨fun z => z.elim Or.inl (fun q => Or.inr (h.mp q)), fun z => z.elim Or.inl (fun q => Or.inr (h.mpr q))⟩
def RF (G : Mem) (s : Int) : Nat → Nat → Prop
  | 0, i => farG G s i
  | k + 1, i => ∃ j, RF G s k j ∧ adjG G s j i
theorem rf_d {G : Mem} {s : Int} : ∀ {k i : Nat}, RF G s k i → dryG G i
  | 0, _, h => h.1
  | _ + 1, _, ⟨_, _, h⟩ => h.2.1
theorem rf_r {G : Mem} {s : Int} {sR : Nat → Int} (h : Bend 40 (farG G s) (adjG G s) sR) : (∀ k i, RF G s k i → ¬ sR i = -1 ∧ sR i ≤ (k : Int) + 1) ∧ ∀ k i : Nat, i < 40 → sR i = (k : Int) + 1 → RF G s k i := by
  obtain ⟨h1, h2, h3, h4⟩ := h
  refine ⟨fun k => ?_, fun k => ?_⟩
  · induction k with
    | zero =>
      intro i hi
      have z := (h2 i (rf_d hi).1.1).mpr hi
      omega
    | succ k ih =>
      intro i hi
      obtain ⟨j, hj, ha⟩ := hi
      have z := ih j hj
      have y := h4 j i ha.1.1.1 ha.2.1.1.1 z.1 ha
      omega
  · induction k with
    | zero => exact fun i hi e => (h2 i hi).mp (by omega)
    | succ k ih =>
      intro i hi e
      obtain ⟨p, hp, ep, cp⟩ := h3 i hi (by omega)
      exact ⟨p, ih p hp (by omega), cp⟩
theorem dd_sy (a b c d : Int) : dd (a - b) (c - d) = dd (b - a) (d - c) := by
  unfold dd
  rw [show a - b = -(b - a) from by omega, show c - d = -(d - c) from by omega, Int.neg_mul_neg, Int.neg_mul_neg]
theorem adj_sy {G : Mem} {s : Int} {i j : Nat} (h : adjG G s i j) : adjG G s j i := ⟨h.2.1, h.1, by
  have z := h.2.2
  rw [dd_sy] at z
  exact z⟩
/-! islands -/
def RsI (G : Mem) (s : Int) (i : Nat) : Nat → Nat → Prop
  | 0, j => j = i ∧ dryG G i
  | k + 1, j => ∃ p, RsI G s i k p ∧ adjG G s p j
def IsC (G : Mem) (s : Int) (i j : Nat) : Prop := ∃ k, RsI G s i k j
theorem isl_r {G : Mem} {s : Int} {i : Nat} (h : dryG G i) : IsC G s i i := ⟨0, rfl, h⟩
theorem isl_s {G : Mem} {s : Int} {i p j : Nat} (h : IsC G s i p) (a : adjG G s p j) : IsC G s i j := by
  obtain ⟨k, h⟩ := h
  exact ⟨k + 1, p, h, a⟩
theorem rs_d {G : Mem} {s : Int} {i : Nat} : ∀ {k j : Nat}, RsI G s i k j → dryG G j
  | 0, _, h => by
    rw [h.1]
    exact h.2
  | _ + 1, _, ⟨_, _, h⟩ => h.2.1
theorem rs_di {G : Mem} {s : Int} {i : Nat} : ∀ {k j : Nat}, RsI G s i k j → dryG G i
  | 0, _, h => h.2
  | _ + 1, _, ⟨_, h, _⟩ => rs_di h
theorem isl_d {G : Mem} {s : Int} {i j : Nat} (h : IsC G s i j) : dryG G i ∧ dryG G j := by
  obtain ⟨k, h⟩ := h
  exact ⟨rs_di h, rs_d h⟩
theorem isl_t0 {G : Mem} {s : Int} {i j : Nat} (h : IsC G s i j) : ∀ {k l : Nat}, RsI G s j k l → IsC G s i l
  | 0, _, z => by
    rw [z.1]
    exact h
  | _ + 1, _, ⟨_, z, a⟩ => isl_s (isl_t0 h z) a
theorem isl_t {G : Mem} {s : Int} {i j l : Nat} (h : IsC G s i j) (h2 : IsC G s j l) : IsC G s i l := by
  obtain ⟨k, z⟩ := h2
  exact isl_t0 h z
theorem isl_y0 {G : Mem} {s : Int} {i : Nat} : ∀ {k j : Nat}, RsI G s i k j → IsC G s j i
  | 0, _, z => by
    rw [z.1]
    exact isl_r z.2
  | _ + 1, _, ⟨_, z, a⟩ => isl_t (isl_s (isl_r a.2.1) (adj_sy a)) (isl_y0 z)
theorem isl_y {G : Mem} {s : Int} {i j : Nat} (h : IsC G s i j) : IsC G s j i := by
  obtain ⟨k, z⟩ := h
  exact isl_y0 z
/-- how many ahead of n there are of whom P holds -/
def CtI (P : Nat → Prop) : Nat → Int → Prop
  | 0, c => c = 0
  | n + 1, c => ∃ c', CtI P n c' ∧ ((P n ∧ c = c' + 1) ∨ (¬ P n ∧ c = c'))
theorem ct_fn {P : Nat → Prop} : ∀ {n : Nat} {c c2 : Int}, CtI P n c → CtI P n c2 → c = c2
  | 0, _, _, h, h' => h.trans h'.symm
  | n + 1, c, c2, ⟨a, h, q⟩, ⟨a2, h2, q2⟩ => by
    have e := ct_fn h h2
    rcases q with ⟨q1, q3⟩ | ⟨q1, q3⟩ <;> rcases q2 with ⟨p1, p3⟩ | ⟨p1, p3⟩
    · omega
    · exact absurd q1 p1
    · exact absurd p1 q1
    · omega
theorem ct_y {P : Nat → Prop} {n : Nat} {c c1 : Int} (h : CtI P n c) (hp : P n) (e : c1 = c + 1) : CtI P (n + 1) c1 := ⟨c, h, Or.inl ⟨hp, e⟩⟩
theorem ct_n {P : Nat → Prop} {n : Nat} {c : Int} (h : CtI P n c) (hp : ¬ P n) : CtI P (n + 1) c := ⟨c, h, Or.inr ⟨hp, rfl⟩⟩
theorem ct_z {P : Nat → Prop} (h : ∀ j, ¬ P j) : ∀ n, CtI P n 0
  | 0 => rfl
  | n + 1 => ct_n (ct_z h n) (h n)
theorem ct_c {P : Nat → Prop} {s : Nat → Int} : ∀ {n : Nat}, (∀ j, j < n → (P j ↔ ¬ s j = -1)) → CtI P n ((cN s n : Nat) : Int)
  | 0, _ => rfl
  | n + 1, h => by
    have z := ct_c (n := n) (fun j hj => h j (by omega))
    by_cases e : s n = -1
    · have y := ct_n z (fun p => (h n (by omega)).mp p e)
      have w : cN s (n + 1) = cN s n := by
        simp only [cN]
        rw [if_pos e]
        omega
      rw [w]
      exact y
    · refine ct_y z ((h n (by omega)).mpr e) ?_
      have w : cN s (n + 1) = cN s n + 1 := by
        simp only [cN]
        rw [if_neg e]
      rw [w]
      omega
def CtQ (P : Nat → Prop) (c : Int) : Prop := ∃ n, n = 40 ∧ CtI P n c
theorem cq_fn {P : Nat → Prop} {c c2 : Int} (h : CtQ P c) (h' : CtQ P c2) : c = c2 := by
  obtain ⟨n, e, h⟩ := h
  obtain ⟨n', e', h'⟩ := h'
  rw [e] at h
  rw [e'] at h'
  exact ct_fn h h'
/-! one island, stone by stone; L: those that are of islands met before -/
def ClL (G : Mem) (s : Int) (L : Nat → Prop) : Prop := ∀ a b, a < 40 → b < 40 → L a → adjG G s a b → L b
def FlC (G : Mem) (s : Int) (L : Nat → Prop) (a b : Nat) : Prop := adjG G s a b ∧ ¬ L b
def FlB (G : Mem) (s : Int) (i : Nat) (L V : Nat → Prop) (q : Nat → Nat) (n k : Nat) : Prop := ∃ st : Nat → Int, Bfs 40 (fun a => a = i) (FlC G s L) st q n k ∧ ∀ b, b < 40 → (V b ↔ ¬ st b = -1)
def FlI (G : Mem) (s : Int) (i : Nat) (L V : Nat → Prop) (q : Nat → Nat) (n k j : Nat) : Prop := ∃ st : Nat → Int, Bin 40 (fun a => a = i) (FlC G s L) st q n k j ∧ ∀ b, b < 40 → (V b ↔ ¬ st b = -1)
theorem fl_one {G : Mem} {s : Int} {i : Nat} {L V : Nat → Prop} {q : Nat → Nat} (hi : i < 40) (hV : ∀ b, b < 40 → (V b ↔ b = i)) : FlB G s i L V (pu q 0 i) 1 0 := by
  refine ⟨pu (fun _ => -1) i 1, bfs_one hi (fun _ => rfl), fun b hb => (hV b hb).trans ?_⟩
  by_cases c : b = i
  · rw [c, pu_s]
    exact ⟨fun _ => by decide, fun _ => rfl⟩
  · rw [pu_n c]
    exact ⟨fun z => absurd z c, fun z => absurd rfl z⟩
theorem fl_in {G : Mem} {s : Int} {i n k : Nat} {L V : Nat → Prop} {q : Nat → Nat} (h : FlB G s i L V q n k) (hk : k < n) : FlI G s i L V q n k 0 := by
  obtain ⟨st, a, b⟩ := h
  exact ⟨st, bfs_in a hk, b⟩
theorem fl_skip {G : Mem} {s : Int} {i n k j : Nat} {L V : Nat → Prop} {q : Nat → Nat} (h : FlI G s i L V q n k j) (hs : V j ∨ ¬ FlC G s L (q k) j) (hj : j < 40) : FlI G s i L V q n k (j + 1) := by
  obtain ⟨st, a, b⟩ := h
  exact ⟨st, bin_skip a (hs.elim (fun z => Or.inl ((b j hj).mp z)) Or.inr) hj, b⟩
theorem fl_no {s : Int} {V : Prop} (h : V ↔ ¬ s = -1) (hv : ¬ V) : s = -1 := by
  by_cases c : s = -1
  · exact c
  · exact absurd (h.mpr c) hv
theorem fl_push {G : Mem} {s : Int} {i n k j : Nat} {L V V' : Nat → Prop} {q : Nat → Nat} (h : FlI G s i L V q n k j) (hv : ¬ V j) (hc : FlC G s L (q k) j) (hj : j < 40) (hV : ∀ b, b < 40 → (V' b ↔ V b ∨ b = j)) : FlI G s i L V' (pu q n j) (n + 1) k (j + 1) := by
  obtain ⟨st, a, b⟩ := h
  have e := fl_no (b j hj) hv
  have z := a.1.1.2.1 k a.2.1
  have z2 := (a.1.2.1 (q k) z.1).resolve_left z.2.1
  refine ⟨pu st j (st (q k) + 1), bin_push a e hc hj, fun x hx => (hV x hx).trans ?_⟩
  by_cases c : x = j
  · rw [c, pu_s]
    exact ⟨fun _ => by omega, fun _ => Or.inr rfl⟩
  · rw [pu_n c]
    exact ⟨fun w => (b x hx).mp (w.resolve_right c), fun w => Or.inl ((b x hx).mpr w)⟩
theorem fl_room {G : Mem} {s : Int} {i n k j : Nat} {L V : Nat → Prop} {q : Nat → Nat} (h : FlI G s i L V q n k j) (hv : ¬ V j) (hj : j < 40) : n < 40 := by
  obtain ⟨st, a, b⟩ := h
  exact bin_room a (fl_no (b j hj) hv) hj
theorem fl_q {G : Mem} {s : Int} {i n k : Nat} {L V : Nat → Prop} {q : Nat → Nat} (h : FlB G s i L V q n k) {t : Nat} (ht : t < n) : q t < 40 ∧ V (q t) := by
  obtain ⟨st, a, b⟩ := h
  have z := a.1.1.2.1 t ht
  exact ⟨z.1, (b _ z.1).mpr z.2.1⟩
theorem fl_qi {G : Mem} {s : Int} {i n k j : Nat} {L V : Nat → Prop} {q : Nat → Nat} (h : FlI G s i L V q n k j) {t : Nat} (ht : t < n) : q t < 40 ∧ V (q t) := by
  obtain ⟨st, a, b⟩ := h
  have z := a.1.1.2.1 t ht
  exact ⟨z.1, (b _ z.1).mpr z.2.1⟩
theorem fl_out {G : Mem} {s : Int} {i n k j : Nat} {L V : Nat → Prop} {q : Nat → Nat} (h : FlI G s i L V q n k j) (hj : 40 ≤ j) : FlB G s i L V q n (k + 1) := by
  obtain ⟨st, a, b⟩ := h
  exact ⟨st, bin_out a hj, b⟩
theorem fl_end {G : Mem} {s : Int} {i n k : Nat} {L V : Nat → Prop} {q : Nat → Nat} (h : FlB G s i L V q n k) (hk : n ≤ k) (hL : ClL G s L) (hd : dryG G i) (hn : ¬ L i) : (∀ b, b < 40 → (V b ↔ IsC G s i b)) ∧ CtQ (IsC G s i) (n : Int) := by
  obtain ⟨st, a, b⟩ := h
  obtain ⟨h1, h2, h3, h4⟩ := bfs_end a hk
  have up : ∀ k j, RsI G s i k j → ¬ L j ∧ ¬ st j = -1 := fun k => by
    induction k with
    | zero =>
      intro j hj
      obtain ⟨e, _⟩ := hj
      have z : st i = 1 := (h2 i hd.1.1).mpr rfl
      rw [e, z]
      exact ⟨hn, by decide⟩
    | succ k ih =>
      intro j hj
      obtain ⟨p, hp, ha⟩ := hj
      have z := ih p hp
      have nl : ¬ L j := fun w => z.1 (hL j p ha.2.1.1.1 ha.1.1.1 w (adj_sy ha))
      exact ⟨nl, (h4 p j ha.1.1.1 ha.2.1.1.1 z.2 ⟨ha, nl⟩).1⟩
  have dn : ∀ (m : Nat) (j : Nat), j < 40 → st j = (m : Int) + 1 → IsC G s i j := fun m => by
    induction m with
    | zero =>
      intro j hj e
      have z : j = i := (h2 j hj).mp (by omega)
      rw [z]
      exact isl_r hd
    | succ m ih =>
      intro j hj e
      obtain ⟨p, hp, ep, cp⟩ := h3 j hj (by omega)
      exact isl_s (ih p hp (by omega)) cp.1
  have io : ∀ j, j < 40 → (IsC G s i j ↔ ¬ st j = -1) := fun j hj => ⟨fun ⟨k, z⟩ => (up k j z).2, fun z => dn (st j - 1).toNat j hj (by have := (h1 j hj).resolve_left z; omega)⟩
  refine ⟨fun j hj => (b j hj).trans (io j hj).symm, 40, rfl, ?_⟩
  rw [a.1.1.1]
  exact ct_c io
/-! islands one by one -/
def LsG (G : Mem) (s : Int) (i : Nat) : Prop := dryG G i ∧ ∀ j, j < i → ¬ IsC G s j i
def IlV (G : Mem) (s : Int) (n : Nat) (V : Nat → Prop) : Prop := ∀ b, b < 40 → (V b ↔ ∃ i, i < n ∧ IsC G s i b)
theorem il_0 {G : Mem} {s : Int} {V : Nat → Prop} (h : ∀ b, b < 40 → ¬ V b) : IlV G s 0 V := fun b hb => ⟨fun z => absurd z (h b hb), fun ⟨i, hi, _⟩ => absurd hi (Nat.not_lt_zero _)⟩
theorem il_x {G : Mem} {s : Int} {n : Nat} {V : Nat → Prop} (h : IlV G s n V) (hn : ∀ b, IsC G s n b → ∃ i, i < n ∧ IsC G s i b) : IlV G s (n + 1) V := fun b hb => (h b hb).trans ⟨fun ⟨i, hi, z⟩ => ⟨i, by omega, z⟩, fun ⟨i, hi, z⟩ => by
  by_cases c : i = n
  · rw [c] at z
    exact hn b z
  · exact ⟨i, by omega, z⟩⟩
theorem il_d {G : Mem} {s : Int} {n : Nat} {V : Nat → Prop} (h : IlV G s n V) (hn : ¬ dryG G n) : IlV G s (n + 1) V := il_x h (fun _ z => absurd (isl_d z).1 hn)
theorem il_v {G : Mem} {s : Int} {n : Nat} {V : Nat → Prop} (h : IlV G s n V) (hi : n < 40) (hn : V n) : IlV G s (n + 1) V := il_x h (fun b z => by
  obtain ⟨i, a, c⟩ := (h n hi).mp hn
  exact ⟨i, a, isl_t c z⟩)
theorem il_y {G : Mem} {s : Int} {n : Nat} {V V' : Nat → Prop} (h : IlV G s n V) (e : ∀ b, b < 40 → (V' b ↔ V b ∨ IsC G s n b)) : IlV G s (n + 1) V' := fun b hb => (e b hb).trans ⟨fun z => z.elim (fun w => by
  obtain ⟨i, a, c⟩ := (h b hb).mp w
  exact ⟨i, by omega, c⟩) (fun w => ⟨n, by omega, w⟩), fun ⟨i, hi, z⟩ => by
  by_cases c : i = n
  · rw [c] at z
    exact Or.inr z
  · exact Or.inl ((h b hb).mpr ⟨i, by omega, z⟩)⟩
theorem il_cl {G : Mem} {s : Int} {n : Nat} {V : Nat → Prop} (h : IlV G s n V) : ClL G s V := fun a b ha hb z w => by
  obtain ⟨i, c, d⟩ := (h a ha).mp z
  exact (h b hb).mpr ⟨i, c, isl_s d w⟩
theorem ls_0 {G : Mem} {s : Int} {n : Nat} (hn : ¬ dryG G n) : ¬ LsG G s n := fun z => hn z.1
theorem ls_v {G : Mem} {s : Int} {n : Nat} {V : Nat → Prop} (h : IlV G s n V) (hi : n < 40) (hn : V n) : ¬ LsG G s n := fun z => by
  obtain ⟨i, a, c⟩ := (h n hi).mp hn
  exact z.2 i a c
theorem ls_y {G : Mem} {s : Int} {n : Nat} {V : Nat → Prop} (h : IlV G s n V) (hi : n < 40) (hd : dryG G n) (hn : ¬ V n) : LsG G s n := ⟨hd, fun j hj z => hn ((h n hi).mpr ⟨j, hj, z⟩)⟩
/-! of the class: a row of steps, n: the queue's length -/
def SpK (L : Nat → Prop) (M : Mem) (k : Nat) (n : Int) : Prop := VLm M k ∧ ∀ b, b < 40 → (¬ L b → (M k b).toInt ≤ n) ∧ (L b → ¬ (M k b).toInt = -1)
def vC (L : Nat → Prop) (M : Mem) (k : Nat) (b : Nat) : Prop := ¬ L b ∧ ¬ (M k b).toInt = -1
theorem spk_set {L : Nat → Prop} {M0 M1 M2 : Mem} {k j i : Nat} {n n1 : Int} {v w : Int32} (h : SpK L M0 k n) (e1 : M1 = mset M0 k j v) (e2 : M2 = mset M1 26 i w) (hk : ¬ k = 26) (hn : n1 = n + 1) (hv : 0 ≤ v.toInt ∧ v.toInt ≤ n1) (h9 : n1 ≤ 1000) (hL : ¬ L j) : SpK L M2 k n1 := by
  refine ⟨vl_oth (vl_set h.1 e1 (by omega)) e2 hk, fun b hb => ?_⟩
  rw [e2, mset_ne (fun z => hk z.1), e1, mset_get]
  by_cases c : b = j
  · rw [if_pos ⟨rfl, c⟩, c]
    exact ⟨fun _ => hv.2, fun z => absurd z hL⟩
  · rw [if_neg (fun z => c z.2)]
    exact ⟨fun z => by have := (h.2 b hb).1 z; omega, (h.2 b hb).2⟩
theorem vc_set {L : Nat → Prop} {M0 M1 M2 : Mem} {k j i : Nat} {v w : Int32} (e1 : M1 = mset M0 k j v) (e2 : M2 = mset M1 26 i w) (hk : ¬ k = 26) (hv : 0 ≤ v.toInt) (hL : ¬ L j) (b : Nat) : vC L M2 k b ↔ vC L M0 k b ∨ b = j := by
  unfold vC
  rw [e2, mset_ne (fun z => hk z.1), e1, mset_get]
  by_cases c : b = j
  · rw [if_pos ⟨rfl, c⟩, c]
    exact ⟨fun _ => Or.inr rfl, fun _ => ⟨hL, by omega⟩⟩
  · rw [if_neg (fun z => c z.2)]
    exact ⟨Or.inl, fun z => z.resolve_right c⟩
/-! of the reference: labels -/
def IlR (G : Mem) (s : Int) (n : Nat) (c : Int) (R : Nat → Int) : Prop := IlV G s n (fun b => ¬ R b = -1) ∧ CtI (LsG G s) n c ∧ (0 ≤ c ∧ ∀ b, b < 40 → -1 ≤ R b ∧ R b < c) ∧ ∀ a b, a < 40 → b < 40 → ¬ R a = -1 → ¬ R b = -1 → (R a = R b ↔ IsC G s a b)
theorem ir_0 {G : Mem} {s : Int} {R : Nat → Int} (h : ∀ b, b < 40 → R b = -1) : IlR G s 0 0 R := ⟨il_0 (fun b hb z => z (h b hb)), rfl, ⟨by omega, fun b hb => by rw [h b hb]; omega⟩, fun a b ha hb z => absurd (h a ha) z⟩
theorem ir_d {G : Mem} {s : Int} {n : Nat} {c : Int} {R : Nat → Int} (h : IlR G s n c R) (hn : ¬ dryG G n) : IlR G s (n + 1) c R := ⟨il_d h.1 hn, ct_n h.2.1 (ls_0 hn), h.2.2⟩
theorem ir_v {G : Mem} {s : Int} {n : Nat} {c : Int} {R : Nat → Int} (h : IlR G s n c R) (hi : n < 40) (hn : ¬ R n = -1) : IlR G s (n + 1) c R := ⟨il_v h.1 hi hn, ct_n h.2.1 (ls_v h.1 hi hn), h.2.2⟩
theorem ir_y {G : Mem} {s : Int} {n : Nat} {c c1 : Int} {R R' : Nat → Int} (h : IlR G s n c R) (hi : n < 40) (hd : dryG G n) (hn : R n = -1) (e : c1 = c + 1) (h1 : ∀ b, b < 40 → (R' b = c ↔ IsC G s n b)) (h2 : ∀ b, b < 40 → ¬ R' b = c → R' b = R b) : IlR G s (n + 1) c1 R' := by
  obtain ⟨a1, a2, ⟨a3, a4⟩, a5⟩ := h
  have no : ∀ b, b < 40 → IsC G s n b → R b = -1 := fun b hb z => by
    by_cases q : R b = -1
    · exact q
    · obtain ⟨i, p1, p2⟩ := (a1 b hb).mp q
      exact absurd hn ((a1 n hi).mpr ⟨i, p1, isl_t p2 (isl_y z)⟩)
  refine ⟨il_y a1 (fun b hb => ?_), ct_y a2 (ls_y a1 hi hd (fun z => z hn)) e, ⟨by omega, fun b hb => ?_⟩, fun a b ha hb na nb => ?_⟩
  · by_cases q : R' b = c
    · exact ⟨fun _ => Or.inr ((h1 b hb).mp q), fun _ => by omega⟩
    · rw [h2 b hb q]
      exact ⟨Or.inl, fun z => z.resolve_right (fun w => q ((h1 b hb).mpr w))⟩
  · by_cases q : R' b = c
    · omega
    · have := a4 b hb
      have := h2 b hb q
      omega
  · by_cases qa : R' a = c <;> by_cases qb : R' b = c
    · exact ⟨fun _ => isl_t (isl_y ((h1 a ha).mp qa)) ((h1 b hb).mp qb), fun _ => qa.trans qb.symm⟩
    · exact ⟨fun z => absurd (z.symm.trans qa) qb, fun z => absurd ((h1 b hb).mpr (isl_t ((h1 a ha).mp qa) z)) qb⟩
    · exact ⟨fun z => absurd (z.trans qb) qa, fun z => absurd ((h1 a ha).mpr (isl_t ((h1 b hb).mp qb) (isl_y z))) qa⟩
    · rw [h2 a ha qa] at na ⊢
      rw [h2 b hb qb] at nb ⊢
      exact a5 a b ha hb na nb
/-- one's own island among labels -/
theorem ir_e {G : Mem} {s : Int} {m : Nat} {c : Int} {R : Nat → Int} (h : IlR G s m c R) (hm : m = 40) {w j : Nat} (hw : w < 40) (hj : j < 40) : IsC G s w j ↔ ¬ R w = -1 ∧ R j = R w := by
  have lab : ∀ b, b < 40 → dryG G b → ¬ R b = -1 := fun b hb d => (h.1 b hb).mpr ⟨b, by omega, isl_r d⟩
  refine ⟨fun z => ?_, fun z => ?_⟩
  · have a := lab w hw (isl_d z).1
    have b := lab j hj (isl_d z).2
    exact ⟨a, (h.2.2.2 j w hj hw b a).mpr (isl_y z)⟩
  · exact isl_y ((h.2.2.2 j w hj hw (by rw [z.2]; exact z.1) z.1).mp z.2)
def IlQ (G : Mem) (s : Int) (w : Int32) (r : Int) : Prop := (w.toInt = 100 ∧ CtQ (LsG G s) r) ∨ (¬ w.toInt = 100 ∧ CtQ (IsC G s (ix w)) r)
theorem ilq_fn {G : Mem} {s : Int} {w : Int32} {r r' : Int} (h : IlQ G s w r) (h' : IlQ G s w r') : r = r' := by
  rcases h with ⟨a, b⟩ | ⟨a, b⟩ <;> rcases h' with ⟨a', b'⟩ | ⟨a', b'⟩
  · exact cq_fn b b'
  · exact absurd a a'
  · exact absurd a' a
  · exact cq_fn b b'
def IlT (G : Mem) (v w : Int32) : Prop := (1 ≤ v.toInt ∧ v.toInt ≤ 30) ∧ (w.toInt = 100 ∨ ((0 ≤ w.toInt ∧ w.toInt < 40) ∧ tld G (ix w)))
theorem ff_il {MC MM : Mem} {r r' v w : Int32} (h : FF MC MM) (h1 : PqP (IlT (FdC MC 1) v w) (IlQ (FdC MC 1) v.toInt w r.toInt) r) (h2 : PqP (IlT (FdR MM 1) v w) (IlQ (FdR MM 1) v.toInt w r'.toInt) r') : r = r' := by
  rw [h.1.1] at h1
  exact pq_fn h1 h2 Iff.rfl (fun _ a b => t_of (ilq_fn a b))

set_option maxHeartbeats 16000000 in
theorem oi_X8_spreadOn {b : Nat} (hb : isF b) {k len_k : Nat} (hlk : len_k < 2 ^ 31) (M : Mem) (v2 : Int32) (v3 : Int32) (v5 : Int32) (hlen : len_k = 42) (hk : k = 24 ∨ k = 25) (hm : v5.toInt = 40) (hst : 0 ≤ v3.toInt ∧ v3.toInt < 40) (hs : 1 ≤ v2.toInt ∧ v2.toInt ≤ 30) (hGd : GdF (FdC M b)) (L : Nat → Prop) (hL : ∀ x, x < 40 → (L x ↔ ¬ (M k x).toInt = -1)) (hcl : ClL (FdC M b) v2.toInt L) (hv : VLm M k) (hd : dryG (FdC M b) (ix v3)) (hn : ¬ L (ix v3)) : Wp (f_X8_spreadOn b k len_k M v2 v3 v5) (fun q => (∀ a i, ¬ (a = 26 ∨ a = k) → q.2 a i = M a i) ∧ ((∀ x, x < 40 → (¬ (q.2 k x).toInt = -1 ↔ L x ∨ IsC (FdC M b) v2.toInt (ix v3) x)) ∧ VLm q.2 k ∧ CtQ (IsC (FdC M b) v2.toInt (ix v3)) q.1.toInt)) := by
  have hb0 : b = 1 ∨ b = 7 ∨ b = 13 := hb
  have hlk1 := nI_toInt hlk
  refine wp_ite (fun c1 => ?_) (fun c1 => ?_)
  · exact wp_some ⟨(fun _ _ _ => rfl), (False.elim (by have z := nI_toInt hlk; rw [hlen] at z; omega))⟩
  · refine wp_ite (fun c7 => ?_) (fun c7 => ?_)
    · exact wp_some ⟨(fun _ _ _ => rfl), (False.elim (by have z := nI_toInt hlk; rw [hlen] at z; omega))⟩
    · refine wp_ite (fun c15 => ?_) (fun c15 => ?_)
      · refine wp_gd (by omega) ?_
        refine wp_bnd (fun M_1 eM_1 => ?_)
        refine wp_bnd (fun M_2 eM_2 => ?_)
        have i3 := ix40 hst.1 hst.2
        have e1 : (nI 0).toInt = 0 := nI0
        have s0 : SpK L M_2 k (nI 1).toInt := by
          refine spk_set (n := 0) ⟨hv, fun x hx => ⟨fun z => ?_, fun z => (hL x hx).mp z⟩⟩ eM_1 eM_2 (by omega) (by decide) (by decide) (by decide) hn
          have w : (M k x).toInt = -1 := by
            by_cases q : (M k x).toInt = -1
            · exact q
            · exact absurd ((hL x hx).mpr q) z
          omega
        have q0 : VQm M_2 (nI 1).toInt := fun t ht => by
          have f1 := t_lit 1
          rw [show t = 0 from (by omega), eM_2, mset_eq]
          exact hst.1
        have hF0 : FlB (FdC M b) v2.toInt (ix v3) L (vC L M_2 k) (QUm M_2) (ix (nI 1)) (ix (nI 0)) := by
          rw [show ix (nI 1) = 1 from (by decide), show ix (nI 0) = 0 from (by decide), qum_s eM_2, qum_o eM_1 (by omega)]
          exact fl_one i3 (fun x hx => (vc_set eM_1 eM_2 (by omega) (by decide) hn x).trans ⟨fun z => z.resolve_left (fun q => q.1 ((hL x hx).mpr q.2)), Or.inr⟩)
        refine wp_lp3 (fun M38 y6_38 y7_38 => (0 ≤ y7_38.toInt) ∧ (∀ a i, ¬ (a = 26 ∨ a = k) → M38 a i = M_2 a i) ∧ (0 ≤ y6_38.toInt) ∧ (FlB (FdC M b) v2.toInt (ix v3) L (vC L M38 k) (QUm M38) (ix y6_38) (ix y7_38)) ∧ (y7_38.toInt ≤ y6_38.toInt ∧ y6_38.toInt ≤ 40) ∧ (VQm M38 y6_38.toInt) ∧ (SpK L M38 k y6_38.toInt)) (fun M38 y6_38 y7_38 => (42 - y7_38.toInt).toNat) (fun ag38 M38 y6_38 y7_38 hI38 ih38 => ?_) FU M_2 (nI 1) (nI 0) ⟨(by have f0 := t_lit 0; omega), (fun _ _ _ => rfl), (by decide), hF0, (by have f0 := t_lit 0; have f1 := t_lit 1; omega), q0, s0⟩ (fu_lt (by have f0 := t_lit 0; omega))
        obtain ⟨hi38, hf_M38, ht, hF, b38, q38, s38⟩ := hI38
        refine wp_ite (fun c42 => ?_) (fun c42 => ?_)
        · exact wp_some ⟨(fun a i q0 => ((hf_M38 a i (fun z8 => q0 ((fun z9 => Or.elim z9 (fun h9 => Or.inl h9) (fun h9 => Or.inr (h9))) z8))).trans ((congrFun (congrFun eM_2 a) i).trans ((mset_ne (fun h9 => q0 (Or.inl (h9).1))).trans ((congrFun (congrFun eM_1 a) i).trans ((mset_ne (fun h9 => q0 (Or.inr ((h9).1)))).trans rfl)))))), (by have z1 := t_ixn y6_38 (by omega); have z2 := t_ixn y7_38 (by omega); have e := fl_end hF (by omega) hcl hd hn; exact ⟨fun x hx => ⟨fun z => by by_cases q : L x; (exact Or.inl q); (exact Or.inr ((e.1 x hx).mp ⟨q, z⟩)), fun z => z.elim (fun q => (s38.2 x hx).2 q) (fun q => ((e.1 x hx).mpr q).2)⟩, s38.1, by rw [z1] at e; exact e.2⟩)⟩
        · refine wp_ite (fun c49 => ?_) (fun c49 => ?_)
          · exact wp_some ⟨(fun a i q0 => ((hf_M38 a i (fun z8 => q0 ((fun z9 => Or.elim z9 (fun h9 => Or.inl h9) (fun h9 => Or.inr (h9))) z8))).trans ((congrFun (congrFun eM_2 a) i).trans ((mset_ne (fun h9 => q0 (Or.inl (h9).1))).trans ((congrFun (congrFun eM_1 a) i).trans ((mset_ne (fun h9 => q0 (Or.inr ((h9).1)))).trans rfl)))))), (by have z1 := t_ixn y6_38 (by omega); have z2 := t_ixn y7_38 (by omega); have e := fl_end hF (by omega) hcl hd hn; exact ⟨fun x hx => ⟨fun z => by by_cases q : L x; (exact Or.inl q); (exact Or.inr ((e.1 x hx).mp ⟨q, z⟩)), fun z => z.elim (fun q => (s38.2 x hx).2 q) (fun q => ((e.1 x hx).mpr q).2)⟩, s38.1, by rw [z1] at e; exact e.2⟩)⟩
          · have hx := fl_q hF (t := ix y7_38) (by have z1 := t_ixn y6_38 (by omega); have z2 := t_ixn y7_38 (by omega); omega)
            refine wp_gd (by omega) ?_
            refine wp_bnd (fun x_3 ex_3 => ?_)
            have x0 : 0 ≤ x_3.toInt := by
              rw [ex_3]
              exact q38 (ix y7_38) (by have z2 := t_ixn y7_38 (by omega); omega)
            have xq : QUm M38 (ix y7_38) = ix x_3 := by rw [ex_3]; rfl
            rw [xq] at hx
            have x40 : x_3.toInt < 40 := by have z := t_ixn x_3 x0; have z2 := hx.1; omega
            have j84 : ∀ (t0_84 : Int32), (t0_84 = M38 k (ix x_3) + nI 1) → Wp (f_X8_spreadOn_L84 b k len_k v2 v5 ag38 M38 y6_38 y7_38 x_3 t0_84) (fun q => (∀ a i, ¬ (a = 26 ∨ a = k) → q.2 a i = M a i) ∧ ((∀ x, x < 40 → (¬ (q.2 k x).toInt = -1 ↔ L x ∨ IsC (FdC M b) v2.toInt (ix v3) x)) ∧ VLm q.2 k ∧ CtQ (IsC (FdC M b) v2.toInt (ix v3)) q.1.toInt)) := by
              intro t0_84 h84
              unfold f_X8_spreadOn_L84
              refine wp_lp3 (fun M89 y6_89 y10_89 => (0 ≤ y10_89.toInt) ∧ (∀ a i, ¬ (a = 26 ∨ a = k) → M89 a i = M38 a i) ∧ (0 ≤ y6_89.toInt) ∧ (FlI (FdC M b) v2.toInt (ix v3) L (vC L M89 k) (QUm M89) (ix y6_89) (ix y7_38) (ix y10_89)) ∧ (y7_38.toInt < y6_89.toInt ∧ y6_89.toInt ≤ 40 ∧ y10_89.toInt ≤ 40) ∧ (VQm M89 y6_89.toInt) ∧ (SpK L M89 k y6_89.toInt) ∧ (M89 k (ix x_3) = M38 k (ix x_3)) ∧ (M89 26 (ix y7_38) = x_3) ∧ (y6_38.toInt ≤ y6_89.toInt)) (fun M89 y6_89 y10_89 => (42 - y10_89.toInt).toNat) (fun ag89 M89 y6_89 y10_89 hI89 ih89 => ?_) FU M38 y6_38 (nI 0) ⟨(by have f0 := t_lit 0; omega), (fun _ _ _ => rfl), ht, (by rw [show ix (nI 0) = 0 from (by decide)]; exact fl_in hF (by have z1 := t_ixn y6_38 (by omega); have z2 := t_ixn y7_38 (by omega); omega)), ⟨by omega, by omega, by have := t_lit 0; omega⟩, q38, s38, rfl, ex_3.symm, (Int.le_refl _)⟩ (fu_lt (by have f0 := t_lit 0; omega))
              obtain ⟨hi89, hf_M89, ht9, hN, b89, q89, s89, k89, x89, b96⟩ := hI89
              have f89 : FdC M89 b = FdC M b := fdc_fr (fun a i h1 h2 => by rw [hf_M89 a i (by first | decide | (rcases hc0 with h | h <;> rw [h] <;> simp; done) | (rcases hb0 with h | h | h <;> rw [h] <;> simp; done) | (simp; done) | omega), hf_M38 a i (by first | decide | (rcases hc0 with h | h <;> rw [h] <;> simp; done) | (rcases hb0 with h | h | h <;> rw [h] <;> simp; done) | (simp; done) | omega), eM_2, mset_ne (by first | exact nz1 (by decide) | exact nz2 (by decide) | exact nz1 (nzA hc0 (by decide)) | exact nz1 (nzE (by decide)) | exact nz1 (nzB hc0 (by decide)) | exact nz1 (nzC hc0 (by decide)) | exact nz1 (nzD hc0 (by decide)) | exact nz1 (nzF (by decide)) | exact nz1 (nzG (by decide)) | omega), eM_1, mset_ne (by first | exact nz1 (by decide) | exact nz2 (by decide) | exact nz1 (nzA hc0 (by decide)) | exact nz1 (nzE (by decide)) | exact nz1 (nzB hc0 (by decide)) | exact nz1 (nzC hc0 (by decide)) | exact nz1 (nzD hc0 (by decide)) | exact nz1 (nzF (by decide)) | exact nz1 (nzG (by decide)) | omega)])
              have i10 := t_ixn y10_89 (by omega)
              refine wp_ite (fun c93 => ?_) (fun c93 => ?_)
              · exact ih38 M89 y6_89 (y7_38 + (nI 1)) ⟨(by have f0 := t_lit 1; have f1 := t_add y7_38 (nI 1); omega), (fun a i q0 => ((hf_M89 a i (fun z8 => q0 ((fun z9 => Or.elim z9 (fun h9 => Or.inl h9) (fun h9 => Or.inr (h9))) z8))).trans ((hf_M38 a i (fun z8 => q0 ((fun z9 => Or.elim z9 (fun h9 => Or.inl h9) (fun h9 => Or.inr (h9))) z8))).trans rfl))), ht9, (by rw [(i_up (x := y7_38) (by omega)).1]; exact fl_out hN (by omega)), ⟨by rw [(i_up (x := y7_38) (by omega)).2]; omega, b89.2.1⟩, q89, s89⟩ (by have f0 := t_lit 1; have f1 := t_add y7_38 (nI 1); omega)
              · refine wp_ite (fun c100 => ?_) (fun c100 => ?_)
                · exact ih38 M89 y6_89 (y7_38 + (nI 1)) ⟨(by have f0 := t_lit 1; have f1 := t_add y7_38 (nI 1); omega), (fun a i q0 => ((hf_M89 a i (fun z8 => q0 ((fun z9 => Or.elim z9 (fun h9 => Or.inl h9) (fun h9 => Or.inr (h9))) z8))).trans ((hf_M38 a i (fun z8 => q0 ((fun z9 => Or.elim z9 (fun h9 => Or.inl h9) (fun h9 => Or.inr (h9))) z8))).trans rfl))), ht9, (by rw [(i_up (x := y7_38) (by omega)).1]; exact fl_out hN (by omega)), ⟨by rw [(i_up (x := y7_38) (by omega)).2]; omega, b89.2.1⟩, q89, s89⟩ (by have f0 := t_lit 1; have f1 := t_add y7_38 (nI 1); omega)
                · have iy := i_up (x := y10_89) (by omega)
                  have j40 : ix y10_89 < 40 := by omega
                  refine wp_gd (by omega) ?_
                  refine wp_ite (fun c109 => ?_) (fun c109 => ?_)
                  · have nl : ¬ L (ix y10_89) := fun z => ((s89.2 _ j40).2 z) c109
                    have nv : ¬ vC L M89 k (ix y10_89) := fun z => z.2 c109
                    have nx : ¬ ix x_3 = ix y10_89 := fun z => hx.2.2 (by rw [← k89, z]; exact c109)
                    refine wp_ite (fun c116 => ?_) (fun c116 => ?_)
                    · exact ih89 M89 y6_89 (y10_89 + (nI 1)) ⟨(by have f0 := t_lit 1; have f1 := t_add y10_89 (nI 1); omega), (fun a i q0 => ((hf_M89 a i (fun z8 => q0 ((fun z9 => Or.elim z9 (fun h9 => Or.inl h9) (fun h9 => Or.inr (h9))) z8))).trans rfl)), (by omega), (False.elim (by have z := fl_room hN nv j40; have z2 := t_ixn y6_89 (by omega); omega)), ⟨b89.1, b89.2.1, by rw [iy.2]; omega⟩, q89, s89, k89, x89, b96⟩ (by have f0 := t_lit 1; have f1 := t_add y10_89 (nI 1); omega)
                    · refine wp_bind2 (ow_X2_isStep hb M89 x_3 y10_89 v2 (by rw [f89]; exact hGd) ⟨x0, by omega⟩ ⟨by omega, by omega⟩ hs) (fun r_4 he125 hq125 => ?_)
                      obtain ⟨hz_r_4, hst_125⟩ := hq125
                      replace hst_125 : ¬ r_4.toInt = 0 ↔ stC (FdC M89 b) v2.toInt (ix x_3) (ix y10_89) := hst_125
                      rw [f89] at hst_125
                      have xq9 : QUm M89 (ix y7_38) = ix x_3 := congrArg ix x89
                      rw [st_s hx.1 j40 nx] at hst_125
                      refine wp_ite (fun c128 => ?_) (fun c128 => ?_)
                      · have hcn : ¬ adjG (FdC M b) v2.toInt (QUm M89 (ix y7_38)) (ix y10_89) := fun z => hst_125.mpr (by rw [xq9] at z; exact z) c128
                        exact ih89 M89 y6_89 (y10_89 + (nI 1)) ⟨(by have f0 := t_lit 1; have f1 := t_add y10_89 (nI 1); omega), (fun a i q0 => ((hf_M89 a i (fun z8 => q0 ((fun z9 => Or.elim z9 (fun h9 => Or.inl h9) (fun h9 => Or.inr (h9))) z8))).trans rfl)), (by omega), (by rw [iy.1]; exact fl_skip hN (Or.inr (fun z => hcn z.1)) j40), ⟨b89.1, b89.2.1, by rw [iy.2]; omega⟩, q89, s89, k89, x89, b96⟩ (by have f0 := t_lit 1; have f1 := t_add y10_89 (nI 1); omega)
                      · have hcc : FlC (FdC M b) v2.toInt L (QUm M89 (ix y7_38)) (ix y10_89) := by
                          rw [xq9]
                          exact ⟨hst_125.mp c128, nl⟩
                        have vx := (s38.2 (ix x_3) hx.1).1 hx.2.1
                        have vx2 := (s38.1 (ix x_3) (by omega)).1
                        have vx3 := hx.2.2
                        have e84 : t0_84.toInt = (M38 k (ix x_3)).toInt + 1 := by
                          rw [h84]
                          exact t_inc _ 1 (by omega)
                        have iy6 := i_up (x := y6_89) (by omega)
                        have b6 : y6_38.toInt ≤ y6_89.toInt := b96
                        have v84 : 0 ≤ t0_84.toInt ∧ t0_84.toInt ≤ y6_89.toInt + 1 := by omega
                        have room : ix y6_89 < 40 := fl_room hN nv j40
                        have i6 := t_ixn y6_89 (by omega)
                        refine wp_gd (by omega) ?_
                        refine wp_bnd (fun M_5 eM_5 => ?_)
                        refine wp_gd (by omega) ?_
                        refine wp_bnd (fun M_6 eM_6 => ?_)
                        exact ih89 M_6 (y6_89 + (nI 1)) (y10_89 + (nI 1)) ⟨(by have f0 := t_lit 1; have f1 := t_add y10_89 (nI 1); omega), (fun a i q0 => ((congrFun (congrFun eM_6 a) i).trans ((mset_ne (fun h9 => q0 (Or.inl (h9).1))).trans ((congrFun (congrFun eM_5 a) i).trans ((mset_ne (fun h9 => q0 (Or.inr ((h9).1)))).trans ((hf_M89 a i (fun z8 => q0 ((fun z9 => Or.elim z9 (fun h9 => Or.inl h9) (fun h9 => Or.inr (h9))) z8))).trans rfl)))))), (by have f0 := t_lit 1; have f1 := t_add y6_89 (nI 1); omega), (by rw [iy.1, iy6.1, qum_s eM_6, qum_o eM_5 (by omega)]; exact fl_push hN nv hcc j40 (fun x hx => vc_set eM_5 eM_6 (by omega) v84.1 nl x)), ⟨by rw [iy6.2]; omega, by rw [iy6.2]; omega, by rw [iy.2]; omega⟩, (vq_set (vq_oth q89 eM_5 (by omega)) eM_6 (t_ixn y6_89 (by omega)) iy6.2 (by omega)), (spk_set s89 eM_5 eM_6 (by omega) iy6.2 (by rw [iy6.2]; exact v84) (by rw [iy6.2]; omega) nl), (by rw [eM_6, mset_ne (by first | exact nz1 (by decide) | exact nz2 (by decide) | exact nz1 (nzA hc0 (by decide)) | exact nz1 (nzE (by decide)) | exact nz1 (nzB hc0 (by decide)) | exact nz1 (nzC hc0 (by decide)) | exact nz1 (nzD hc0 (by decide)) | exact nz1 (nzF (by decide)) | exact nz1 (nzG (by decide)) | omega), eM_5, mset_ne (fun z => nx z.2)]; exact k89), (by rw [eM_6, mset_ne (fun z => by have z2 := z.2; have z3 := t_ixn y6_89 (by omega); have z4 := t_ixn y7_38 (by omega); omega), eM_5, mset_ne (by first | exact nz1 (by decide) | exact nz2 (by decide) | exact nz1 (nzA hc0 (by decide)) | exact nz1 (nzE (by decide)) | exact nz1 (nzB hc0 (by decide)) | exact nz1 (nzC hc0 (by decide)) | exact nz1 (nzD hc0 (by decide)) | exact nz1 (nzF (by decide)) | exact nz1 (nzG (by decide)) | omega)]; exact x89), (by rw [iy6.2]; omega)⟩ (by have f0 := t_lit 1; have f1 := t_add y10_89 (nI 1); omega)
                  · exact ih89 M89 y6_89 (y10_89 + (nI 1)) ⟨(by have f0 := t_lit 1; have f1 := t_add y10_89 (nI 1); omega), (fun a i q0 => ((hf_M89 a i (fun z8 => q0 ((fun z9 => Or.elim z9 (fun h9 => Or.inl h9) (fun h9 => Or.inr (h9))) z8))).trans rfl)), (by omega), (by rw [iy.1]; exact fl_skip hN (by by_cases q : L (ix y10_89); (exact Or.inr (fun z => z.2 q)); (exact Or.inl ⟨q, c109⟩)) j40), ⟨b89.1, b89.2.1, by rw [iy.2]; omega⟩, q89, s89, k89, x89, b96⟩ (by have f0 := t_lit 1; have f1 := t_add y10_89 (nI 1); omega)
            have j83 : (False) → Wp (f_X8_spreadOn_L83 b k len_k v2 v5 ag38 M38 y6_38 y7_38 x_3) (fun q => (∀ a i, ¬ (a = 26 ∨ a = k) → q.2 a i = M a i) ∧ ((∀ x, x < 40 → (¬ (q.2 k x).toInt = -1 ↔ L x ∨ IsC (FdC M b) v2.toInt (ix v3) x)) ∧ VLm q.2 k ∧ CtQ (IsC (FdC M b) v2.toInt (ix v3)) q.1.toInt)) := by
              intro h83
              unfold f_X8_spreadOn_L83
              exact j84 (nI 0) h83.elim
            refine wp_ite (fun c63 => ?_) (fun c63 => ?_)
            · exact j83 (by omega)
            · refine wp_ite (fun c70 => ?_) (fun c70 => ?_)
              · exact j83 (by omega)
              · refine wp_gd (by have f0 := congrArg Int32.toInt ex_3; omega) ?_
                exact j84 ((M38 k (ix x_3)) + (nI 1)) rfl
      · exact wp_some ⟨(fun _ _ _ => rfl), (False.elim (by have z := nI_toInt hlk; rw [hlen] at z; omega))⟩
theorem oi_X8_spread {b : Nat} (hb : isF b) {k len_k : Nat} (hlk : len_k < 2 ^ 31) (M : Mem) (v2 : Int32) (v3 : Int32) (v5 : Int32) (hlen : len_k = 42) (hk : k = 24 ∨ k = 25) (hm : v5.toInt = 40) (hst : 0 ≤ v3.toInt ∧ v3.toInt < 40) (hs : 1 ≤ v2.toInt ∧ v2.toInt ≤ 30) (hGd : GdF (FdC M b)) (hd : dryG (FdC M b) (ix v3)) : Wp (f_X8_spread b k len_k M v2 v3 v5) (fun q => (∀ a i, ¬ (a = 26 ∨ a = k) → q.2 a i = M a i) ∧ ((∀ x, x < 40 → (¬ (q.2 k x).toInt = -1 ↔ IsC (FdC M b) v2.toInt (ix v3) x)) ∧ VLm q.2 k ∧ CtQ (IsC (FdC M b) v2.toInt (ix v3)) q.1.toInt)) := by
  have hb0 : b = 1 ∨ b = 7 ∨ b = 13 := hb
  refine wp_bind2 (ow_J7_fill_53178 hlk M (-1) (by omega)) (fun M_1 he3 hq3 => ?_)
  obtain ⟨hg_M_1, hfl_3⟩ := hq3
  replace hfl_3 : ∀ j, j < len_k → M_1 k j = (-1) := hfl_3
  replace hg_M_1 : ∀ a i, ¬ (a = k) → M_1 a i = M a i := by exact fun a i q0 => hg_M_1 a i (by first | decide | (rcases hc0 with h | h <;> rw [h] <;> simp; done) | (rcases hb0 with h | h | h <;> rw [h] <;> simp; done) | (simp; done) | omega)
  refine wp_cb2 (oi_X8_spreadOn hb hlk M_1 v2 v3 v5 hlen hk hm hst hs (by rw [(show FdC M_1 b = FdC M b from fdc_fr (fun a i h1 h2 => hg_M_1 a i (by first | decide | (rcases hc0 with h | h <;> rw [h] <;> simp; done) | (rcases hb0 with h | h | h <;> rw [h] <;> simp; done) | (simp; done) | omega)))]; exact hGd) (fun _ => False) (fun x hx => ⟨fun z => z.elim, fun z => z (by rw [hfl_3 x (by omega)]; decide)⟩) (fun a b9 h1 h2 z => z.elim) (fun x hx => by rw [hfl_3 x (by omega)]; decide) (by rw [(show FdC M_1 b = FdC M b from fdc_fr (fun a i h1 h2 => hg_M_1 a i (by first | decide | (rcases hc0 with h | h <;> rw [h] <;> simp; done) | (rcases hb0 with h | h | h <;> rw [h] <;> simp; done) | (simp; done) | omega)))]; exact hd) id) (fun r_2 M_3 he14 hq14 => ?_)
  obtain ⟨hg_M_3, hI_14⟩ := hq14
  replace hI_14 : (∀ x, x < 40 → (¬ (M_3 k x).toInt = -1 ↔ (fun _ => False) x ∨ IsC (FdC M_1 b) v2.toInt (ix v3) x)) ∧ VLm M_3 k ∧ CtQ (IsC (FdC M_1 b) v2.toInt (ix v3)) r_2.toInt := hI_14
  replace hg_M_3 : ∀ a i, ¬ (a = 26 ∨ a = k) → M_3 a i = M_1 a i := by exact fun a i q0 => hg_M_3 a i (by first | decide | (rcases hc0 with h | h <;> rw [h] <;> simp; done) | (rcases hb0 with h | h | h <;> rw [h] <;> simp; done) | (simp; done) | omega)
  rw [(show FdC M_1 b = FdC M b from fdc_fr (fun a i h1 h2 => hg_M_1 a i (by first | decide | (rcases hc0 with h | h <;> rw [h] <;> simp; done) | (rcases hb0 with h | h | h <;> rw [h] <;> simp; done) | (simp; done) | omega)))] at hI_14
  exact wp_some ⟨(fun a i q0 => ((hg_M_3 a i (fun z8 => q0 ((fun z9 => Or.elim z9 (fun h9 => Or.inl h9) (fun h9 => Or.inr (h9))) z8))).trans ((hg_M_1 a i (fun h9 => q0 (Or.inr (h9)))).trans rfl))), ⟨fun x hx => ((hI_14.1 x hx).trans ⟨fun z => z.resolve_left id, Or.inr⟩), hI_14.2⟩⟩
theorem oi_X8_islandSize {b : Nat} (hb : isF b) (M : Mem) (v2 : Int32) (v3 : Int32) (hs : 1 ≤ v2.toInt ∧ v2.toInt ≤ 30) (hGd : GdF (FdC M b)) (hv3 : 0 ≤ v3.toInt ∧ v3.toInt < 40) : Wp (f_X8_islandSize b M v2 v3) (fun q => (∀ a i, ¬ (a = 24 ∨ a = 26) → q.2 a i = M a i) ∧ (CtQ (IsC (FdC M b) v2.toInt (ix v3)) q.1.toInt)) := by
  have hb0 : b = 1 ∨ b = 7 ∨ b = 13 := hb
  refine wp_bind2 (ow_X2_isDry hb M v3) (fun r_1 he2 hq2 => ?_)
  obtain ⟨hz_r_1, hr_2, hd_2⟩ := hq2
  replace hr_2 : ¬ r_1.toInt = 0 → 0 ≤ v3.toInt ∧ v3.toInt < 40 := hr_2
  replace hd_2 : ¬ r_1.toInt = 0 ↔ (0 ≤ v3.toInt ∧ v3.toInt < 40) ∧ dryG (FdC M b) (ix v3) := hd_2
  refine wp_ite (fun c5 => ?_) (fun c5 => ?_)
  · exact wp_some ⟨(fun _ _ _ => rfl), ⟨40, rfl, by rw [nI0]; exact ct_z (fun j z => hd_2.mpr ⟨hv3, (isl_d z).1⟩ c5) 40⟩⟩
  · refine wp_cb2 (oi_X8_spread hb (by decide) M v2 v3 (nI 40) rfl (Or.inl rfl) (t_lit 40) (hd_2.mp c5).1 hs hGd (hd_2.mp c5).2) (fun r_2 M_3 he18 hq18 => ?_)
    obtain ⟨hg_M_3, hI_18⟩ := hq18
    replace hI_18 : (∀ x, x < 40 → (¬ (M_3 24 x).toInt = -1 ↔ IsC (FdC M b) v2.toInt (ix v3) x)) ∧ VLm M_3 24 ∧ CtQ (IsC (FdC M b) v2.toInt (ix v3)) r_2.toInt := hI_18
    have := t_lit 40
    replace hg_M_3 : ∀ a i, ¬ (a = 24 ∨ a = 26) → M_3 a i = M a i := by exact fun a i q0 => hg_M_3 a i (by first | decide | (rcases hc0 with h | h <;> rw [h] <;> simp; done) | (rcases hb0 with h | h | h <;> rw [h] <;> simp; done) | (simp; done) | omega)
    exact wp_some ⟨(fun a i q0 => ((hg_M_3 a i (fun z8 => q0 ((fun z9 => Or.elim z9 (fun h9 => Or.inl h9) (fun h9 => Or.inr (h9))) z8))).trans rfl)), hI_18.2.2⟩
set_option maxHeartbeats 4000000 in
theorem oi_X8_countIslands {b : Nat} (hb : isF b) (M : Mem) (v2 : Int32) (hs : 1 ≤ v2.toInt ∧ v2.toInt ≤ 30) (hGd : GdF (FdC M b)) : Wp (f_X8_countIslands b M v2) (fun q => (∀ a i, ¬ (a = 24 ∨ a = 26) → q.2 a i = M a i) ∧ (CtQ (LsG (FdC M b) v2.toInt) q.1.toInt)) := by
  have hb0 : b = 1 ∨ b = 7 ∨ b = 13 := hb
  refine wp_bind2 (ow_J7_fill_53178 (by decide) M (-1) (by omega)) (fun M_1 he5 hq5 => ?_)
  obtain ⟨hg_M_1, hfl_5⟩ := hq5
  replace hfl_5 : ∀ j, j < 42 → M_1 24 j = (-1) := hfl_5
  replace hg_M_1 : ∀ a i, ¬ (a = 24) → M_1 a i = M a i := by exact fun a i q0 => hg_M_1 a i (by first | decide | (rcases hc0 with h | h <;> rw [h] <;> simp; done) | (rcases hb0 with h | h | h <;> rw [h] <;> simp; done) | (simp; done) | omega)
  refine wp_lp3 (fun M13 y3_13 y4_13 => (0 ≤ y4_13.toInt) ∧ (∀ a i, ¬ (a = 24 ∨ a = 26) → M13 a i = M_1 a i) ∧ (y4_13.toInt ≤ 40) ∧ (VLm M13 24) ∧ (IlV (FdC M b) v2.toInt (ix y4_13) (fun x => ¬ (M13 24 x).toInt = -1)) ∧ (CtI (LsG (FdC M b) v2.toInt) (ix y4_13) y3_13.toInt) ∧ (0 ≤ y3_13.toInt ∧ y3_13.toInt ≤ y4_13.toInt)) (fun M13 y3_13 y4_13 => (40 - y4_13.toInt).toNat) (fun ag13 M13 y3_13 y4_13 hI13 ih13 => ?_) FU M_1 (nI 0) (nI 0) ⟨(by have f0 := t_lit 0; omega), (fun _ _ _ => rfl), (by decide), (fun x hx => by rw [hfl_5 x (by omega)]; decide), (by rw [show ix (nI 0) = 0 from (by decide)]; exact il_0 (fun x hx z => z (by rw [hfl_5 x (by omega)]; decide))), (by rw [show ix (nI 0) = 0 from (by decide)]; exact nI0), (by decide)⟩ (fu_lt (by have f0 := t_lit 0; omega))
  obtain ⟨hi13, hf_M13, h40, v13, iv, ct, y3b⟩ := hI13
  have f13 : FdC M13 b = (FdC M b) := fdc_fr (fun a i h1 h2 => by rw [hf_M13 a i (by first | decide | (rcases hc0 with h | h <;> rw [h] <;> simp; done) | (rcases hb0 with h | h | h <;> rw [h] <;> simp; done) | (simp; done) | omega), hg_M_1 a i (by first | decide | (rcases hc0 with h | h <;> rw [h] <;> simp; done) | (rcases hb0 with h | h | h <;> rw [h] <;> simp; done) | (simp; done) | omega)])
  refine wp_ite (fun c17 => ?_) (fun c17 => ?_)
  · exact wp_some ⟨(fun a i q0 => ((hf_M13 a i (fun z8 => q0 ((fun z9 => Or.elim z9 (fun h9 => Or.inl h9) (fun h9 => Or.inr (h9))) z8))).trans ((hg_M_1 a i (fun h9 => q0 (Or.inl h9))).trans rfl))), ⟨ix y4_13, (ix_eq (by omega) (by decide)).mpr (by omega), ct⟩⟩
  · have u := i_up (x := y4_13) (by omega)
    have i40 := ix40 (v := y4_13) (by omega) (by omega)
    refine wp_bind2 (ow_X2_isDry hb M13 y4_13) (fun r_2 he23 hq23 => ?_)
    obtain ⟨hz_r_2, hr_23, hd_23⟩ := hq23
    replace hr_23 : ¬ r_2.toInt = 0 → 0 ≤ y4_13.toInt ∧ y4_13.toInt < 40 := hr_23
    replace hd_23 : ¬ r_2.toInt = 0 ↔ (0 ≤ y4_13.toInt ∧ y4_13.toInt < 40) ∧ dryG (FdC M13 b) (ix y4_13) := hd_23
    rw [f13] at hd_23
    refine wp_ite (fun c26 => ?_) (fun c26 => ?_)
    · have nd : ¬ dryG (FdC M b) (ix y4_13) := fun z => hd_23.mpr ⟨⟨by omega, by omega⟩, z⟩ c26
      exact ih13 M13 y3_13 (y4_13 + (nI 1)) ⟨(by have f0 := t_lit 1; have f1 := t_add y4_13 (nI 1); omega), (fun a i q0 => ((hf_M13 a i (fun z8 => q0 ((fun z9 => Or.elim z9 (fun h9 => Or.inl h9) (fun h9 => Or.inr (h9))) z8))).trans rfl)), (by rw [u.2]; omega), v13, (by rw [u.1]; exact il_d iv nd), (by rw [u.1]; exact ct_n ct (ls_0 nd)), (by rw [u.2]; omega)⟩ (by have f0 := t_lit 1; have f1 := t_add y4_13 (nI 1); omega)
    · have yd := (hd_23.mp c26).2
      refine wp_gd (by omega) ?_
      refine wp_ite (fun c37 => ?_) (fun c37 => ?_)
      · refine wp_cb2 (oi_X8_spreadOn hb (by decide) M13 v2 y4_13 (nI 40) rfl (Or.inl rfl) (t_lit 40) ⟨by omega, by omega⟩ hs (by rw [f13]; exact hGd) (fun x => ¬ (M13 24 x).toInt = -1) (fun x hx => Iff.rfl) (by rw [f13]; exact il_cl iv) v13 (by rw [f13]; exact yd) (fun z => z c37)) (fun r_3 M_4 he54 hq54 => ?_)
        obtain ⟨hg_M_4, hI_54⟩ := hq54
        replace hI_54 : (∀ x, x < 40 → (¬ (M_4 24 x).toInt = -1 ↔ (fun x => ¬ (M13 24 x).toInt = -1) x ∨ IsC (FdC M13 b) v2.toInt (ix y4_13) x)) ∧ VLm M_4 24 ∧ CtQ (IsC (FdC M13 b) v2.toInt (ix y4_13)) r_3.toInt := hI_54
        have := t_lit 40
        replace hg_M_4 : ∀ a i, ¬ (a = 24 ∨ a = 26) → M_4 a i = M13 a i := by exact fun a i q0 => hg_M_4 a i (by first | decide | (rcases hc0 with h | h <;> rw [h] <;> simp; done) | (rcases hb0 with h | h | h <;> rw [h] <;> simp; done) | (simp; done) | omega)
        rw [f13] at hI_54
        have uc := i_up (x := y3_13) (by omega)
        exact ih13 M_4 (y3_13 + (nI 1)) (y4_13 + (nI 1)) ⟨(by have f0 := t_lit 1; have f1 := t_add y4_13 (nI 1); omega), (fun a i q0 => ((hg_M_4 a i (fun z8 => q0 ((fun z9 => Or.elim z9 (fun h9 => Or.inl h9) (fun h9 => Or.inr (h9))) z8))).trans ((hf_M13 a i (fun z8 => q0 ((fun z9 => Or.elim z9 (fun h9 => Or.inl h9) (fun h9 => Or.inr (h9))) z8))).trans rfl))), (by rw [u.2]; omega), hI_54.2.1, (by rw [u.1]; exact il_y iv hI_54.1), (by rw [u.1]; exact ct_y ct (ls_y iv i40 yd (fun z => z c37)) uc.2), (by rw [u.2, uc.2]; omega)⟩ (by have f0 := t_lit 1; have f1 := t_add y4_13 (nI 1); omega)
      · exact ih13 M13 y3_13 (y4_13 + (nI 1)) ⟨(by have f0 := t_lit 1; have f1 := t_add y4_13 (nI 1); omega), (fun a i q0 => ((hf_M13 a i (fun z8 => q0 ((fun z9 => Or.elim z9 (fun h9 => Or.inl h9) (fun h9 => Or.inr (h9))) z8))).trans rfl)), (by rw [u.2]; omega), v13, (by rw [u.1]; exact il_v iv i40 c37), (by rw [u.1]; exact ct_n ct (ls_v iv i40 c37)), (by rw [u.2]; omega)⟩ (by have f0 := t_lit 1; have f1 := t_add y4_13 (nI 1); omega)
theorem oi_X9_isStride (M : Mem) (v0 : Int32) : Wp (f_X9_isStride v0) (fun q => (q = 0 ∨ q = 1) ∧ (¬ q.toInt = 0 ↔ 1 ≤ v0.toInt ∧ v0.toInt ≤ 30)) := by
  refine wp_ite (fun c2 => ?_) (fun c2 => ?_)
  · exact wp_some ⟨b01_0, ⟨fun z => absurd nI0 z, fun z => absurd z (by omega)⟩⟩
  · refine wp_ite (fun c8 => ?_) (fun c8 => ?_)
    · exact wp_some ⟨b01_0, ⟨fun z => absurd nI0 z, fun z => absurd z (by omega)⟩⟩
    · exact wp_some ⟨b01_1, ⟨fun _ => by omega, fun _ => by decide⟩⟩
theorem oi_X9_islands (M : Mem) (v1 : Int32) (v2 : Int32) (hGd : GdF (FdC M 1)) : Wp (f_X9_islands M v1 v2) (fun q => (∀ a i, ¬ (a = 24 ∨ a = 26) → q.2 a i = M a i) ∧ (PqP (IlT (FdC M 1) v1 v2) (IlQ (FdC M 1) v1.toInt v2 q.1.toInt) q.1)) := by
  refine wp_bind2 (oi_X9_isStride M v1) (fun r_1 he1 hq1 => ?_)
  obtain ⟨hz_r_1, hr_1⟩ := hq1
  replace hr_1 : ¬ r_1.toInt = 0 ↔ 1 ≤ v1.toInt ∧ v1.toInt ≤ 30 := hr_1
  refine wp_ite (fun c4 => ?_) (fun c4 => ?_)
  · exact wp_some ⟨(fun _ _ _ => rfl), (pq_n (fun z => hr_1.mpr z.1 c4) rfl)⟩
  · refine wp_ite (fun c12 => ?_) (fun c12 => ?_)
    · refine wp_cb2 (oi_X8_countIslands (Or.inl rfl) M v1 (hr_1.mp c4) hGd) (fun r_5 M_6 he24 hq24 => ?_)
      obtain ⟨hg_M_6, hq_24⟩ := hq24
      replace hq_24 : CtQ (LsG (FdC M 1) v1.toInt) r_5.toInt := hq_24
      replace hg_M_6 : ∀ a i, ¬ (a = 24 ∨ a = 26) → M_6 a i = M a i := by exact fun a i q0 => hg_M_6 a i (by first | decide | (rcases hc0 with h | h <;> rw [h] <;> simp; done) | (rcases hb0 with h | h | h <;> rw [h] <;> simp; done) | (simp; done) | omega)
      exact wp_some ⟨(fun a i q0 => ((hg_M_6 a i (fun z8 => q0 ((fun z9 => Or.elim z9 (fun h9 => Or.inl h9) (fun h9 => Or.inr (h9))) z8))).trans rfl)), (pq_y ⟨hr_1.mp c4, Or.inl c12⟩ (Or.inl ⟨c12, hq_24⟩))⟩
    · refine wp_bind2 (o8_X2_isTold (Or.inl rfl) M v2) (fun r_2 he33 hq33 => ?_)
      obtain ⟨hz_r_2, hr_33, htd_33⟩ := hq33
      replace hr_33 : ¬ r_2.toInt = 0 → 0 ≤ v2.toInt ∧ v2.toInt < 40 := hr_33
      replace htd_33 : TdP r_2.toInt (FdC M 1) v2 := htd_33
      refine wp_ite (fun c36 => ?_) (fun c36 => ?_)
      · exact wp_some ⟨(fun _ _ _ => rfl), (pq_n (fun z => z.2.elim c12 (fun q => (htd_33).mpr q c36)) rfl)⟩
      · refine wp_cb2 (oi_X8_islandSize (Or.inl rfl) M v1 v2 (hr_1.mp c4) hGd (htd_33.mp c36).1) (fun r_3 M_4 he49 hq49 => ?_)
        obtain ⟨hg_M_4, hq_49⟩ := hq49
        replace hq_49 : CtQ (IsC (FdC M 1) v1.toInt (ix v2)) r_3.toInt := hq_49
        replace hg_M_4 : ∀ a i, ¬ (a = 24 ∨ a = 26) → M_4 a i = M a i := by exact fun a i q0 => hg_M_4 a i (by first | decide | (rcases hc0 with h | h <;> rw [h] <;> simp; done) | (rcases hb0 with h | h | h <;> rw [h] <;> simp; done) | (simp; done) | omega)
        exact wp_some ⟨(fun a i q0 => ((hg_M_4 a i (fun z8 => q0 ((fun z9 => Or.elim z9 (fun h9 => Or.inl h9) (fun h9 => Or.inr (h9))) z8))).trans rfl)), (pq_y ⟨hr_1.mp c4, Or.inr (htd_33.mp c36)⟩ (Or.inr ⟨c12, hq_49⟩))⟩
set_option maxHeartbeats 8000000 in
theorem oi_X10_laysIslands (M : Mem) (v1 : Int32) (hs : 1 ≤ v1.toInt ∧ v1.toInt ≤ 30) (hGd : GdF (FdR M 1)) : Wp (f_X10_laysIslands M v1) (fun q => (∀ a i, ¬ (a = 25 ∨ a = 31) → q.2 a i = M a i) ∧ (∃ n, n = 40 ∧ IlR (FdR M 1) v1.toInt n q.1.toInt (fun x => (q.2 31 x).toInt))) := by
  refine wp_lp2 (fun M4 y3_4 => (∀ a i, ¬ (a = 31) → M4 a i = M a i) ∧ (∀ j : Nat, (j : Int) < y3_4.toInt → (M4 31 j).toInt = -1) ∧ (0 ≤ y3_4.toInt ∧ y3_4.toInt ≤ 40)) (fun M4 y3_4 => (40 - y3_4.toInt).toNat) (fun ag4 M4 y3_4 hI4 ih4 => ?_) FU M (nI 0) ⟨(fun _ _ _ => rfl), (fun j hj => absurd hj (by have := t_lit 0; omega)), (by decide)⟩ (fu_lt ((by have := t_lit 0; omega)))
  obtain ⟨hf_M4, h4, hi4⟩ := hI4
  have j23 : (∀ x, x < 40 → (M4 31 x).toInt = -1) → Wp (f_X10_laysIslands_L23 v1 M4) (fun q => (∀ a i, ¬ (a = 25 ∨ a = 31) → q.2 a i = M a i) ∧ (∃ n, n = 40 ∧ IlR (FdR M 1) v1.toInt n q.1.toInt (fun x => (q.2 31 x).toInt))) := by
    intro h23
    unfold f_X10_laysIslands_L23
    refine wp_lp3 (fun M25 y2_25 y3_25 => (0 ≤ y3_25.toInt) ∧ (∀ a i, ¬ (a = 25 ∨ a = 31) → M25 a i = M4 a i) ∧ (0 ≤ y2_25.toInt ∧ y2_25.toInt ≤ y3_25.toInt) ∧ (y3_25.toInt ≤ 40) ∧ (IlR (FdR M 1) v1.toInt (ix y3_25) y2_25.toInt (fun x => (M25 31 x).toInt))) (fun M25 y2_25 y3_25 => (40 - y3_25.toInt).toNat) (fun ag25 M25 y2_25 y3_25 hI25 ih25 => ?_) FU M4 (nI 0) (nI 0) ⟨(by have f0 := t_lit 0; omega), (fun _ _ _ => rfl), (by have := t_lit 0; omega), (by decide), (by rw [show ix (nI 0) = 0 from (by decide), nI0]; exact ir_0 h23)⟩ (fu_lt (by have f0 := t_lit 0; omega))
    obtain ⟨hi25, hf_M25, h25, h40, ir⟩ := hI25
    have f25 : FdR M25 1 = (FdR M 1) := fdr_same (fun j hj => by rw [hf_M25 1 j (by first | decide | (rcases hc0 with h | h <;> rw [h] <;> simp; done) | (rcases hb0 with h | h | h <;> rw [h] <;> simp; done) | (simp; done) | omega), hf_M4 1 j (by first | decide | (rcases hc0 with h | h <;> rw [h] <;> simp; done) | (rcases hb0 with h | h | h <;> rw [h] <;> simp; done) | (simp; done) | omega)])
    refine wp_ite (fun c28 => ?_) (fun c28 => ?_)
    · exact wp_some ⟨(fun a i q0 => ((hf_M25 a i (fun z8 => q0 ((fun z9 => Or.elim z9 (fun h9 => Or.inl h9) (fun h9 => Or.inr (h9))) z8))).trans ((hf_M4 a i (fun h9 => q0 (Or.inr (h9)))).trans rfl))), ⟨ix y3_25, (ix_eq (by omega) (by decide)).mpr (by omega), ir⟩⟩
    · have fx3 := t_ixn y3_25 (by omega)
      have u := up40 hi25 c28
      refine wp_bind2 (ow_X10_isDry M25 y3_25 ⟨hi25, u.2.2⟩ (by rw [f25]; exact hGd)) (fun r_1 he33 hq33 => ?_)
      obtain ⟨hz_r_1, hr_33, hd_33⟩ := hq33
      replace hr_33 : ¬ r_1.toInt = 0 → (M25 1 (ix y3_25)).toInt = 1 := hr_33
      replace hd_33 : ¬ r_1.toInt = 0 ↔ dryG (FdR M25 1) (ix y3_25) := hd_33
      rw [f25] at hd_33
      refine wp_ite (fun c36 => ?_) (fun c36 => ?_)
      · have nd : ¬ dryG (FdR M 1) (ix y3_25) := fun z => hd_33.mpr z c36
        exact ih25 M25 y2_25 (y3_25 + (nI 1)) ⟨(by have f0 := t_lit 1; have f1 := t_add y3_25 (nI 1); omega), (fun a i q0 => ((hf_M25 a i (fun z8 => q0 ((fun z9 => Or.elim z9 (fun h9 => Or.inl h9) (fun h9 => Or.inr (h9))) z8))).trans rfl)), (by rw [t_inc y3_25 1 (by omega)]; omega), (le40 hi25 c28), (by rw [u.1]; exact ir_d ir nd)⟩ (by have f0 := t_lit 1; have f1 := t_add y3_25 (nI 1); omega)
      · have yd := hd_33.mp c36
        refine wp_gd (by omega) ?_
        refine wp_ite (fun c46 => ?_) (fun c46 => ?_)
        · refine wp_bnd (fun M_2 eM_2 => ?_)
          refine wp_gd (by omega) ?_
          refine wp_bnd (fun M_3 eM_3 => ?_)
          have rb := ir.2.2.1.2
          have hF0 : FlB (FdR M 1) v1.toInt (ix y3_25) (fun x => ¬ (M25 31 x).toInt = -1) (fun x => (M_3 31 x).toInt = y2_25.toInt) (fun t => ix (M_3 25 t)) (ix (nI 1)) (ix (nI 0)) := by
            rw [show ix (nI 1) = 1 from (by decide), show ix (nI 0) = 0 from (by decide), show (fun t => ix (M_3 25 t)) = (fun t => ix (M_2 25 t)) from funext (fun t => by rw [eM_3, mset_ne (by first | exact nz1 (by decide) | exact nz2 (by decide) | exact nz1 (nzA hc0 (by decide)) | exact nz1 (nzE (by decide)) | exact nz1 (nzB hc0 (by decide)) | exact nz1 (nzC hc0 (by decide)) | exact nz1 (nzD hc0 (by decide)) | exact nz1 (nzF (by decide)) | exact nz1 (nzG (by decide)) | omega)]), row_qu eM_2]
            refine fl_one u.2.1 (fun x hx => ?_)
            rw [eM_3, mset_get]
            by_cases q : x = ix y3_25
            · rw [if_pos ⟨rfl, q⟩]
              exact ⟨fun _ => q, fun _ => rfl⟩
            · rw [if_neg (fun z => q z.2), eM_2, mset_ne (by first | exact nz1 (by decide) | exact nz2 (by decide) | exact nz1 (nzA hc0 (by decide)) | exact nz1 (nzE (by decide)) | exact nz1 (nzB hc0 (by decide)) | exact nz1 (nzC hc0 (by decide)) | exact nz1 (nzD hc0 (by decide)) | exact nz1 (nzF (by decide)) | exact nz1 (nzG (by decide)) | omega)]
              exact ⟨fun z => absurd z (by have w : (M25 31 x).toInt < y2_25.toInt := (rb x hx).2; omega), fun z => absurd z q⟩
          have kp0 : ∀ x, x < 40 → ¬ (M_3 31 x).toInt = y2_25.toInt → M_3 31 x = M25 31 x := fun x hx hq => by
            rw [eM_3] at hq ⊢
            by_cases q : x = ix y3_25
            · exact absurd (by rw [q, mset_eq]) hq
            · rw [mset_ne (fun z => q z.2), eM_2, mset_ne (by first | exact nz1 (by decide) | exact nz2 (by decide) | exact nz1 (nzA hc0 (by decide)) | exact nz1 (nzE (by decide)) | exact nz1 (nzB hc0 (by decide)) | exact nz1 (nzC hc0 (by decide)) | exact nz1 (nzD hc0 (by decide)) | exact nz1 (nzF (by decide)) | exact nz1 (nzG (by decide)) | omega)]
          refine wp_lp3 (fun M72 y4_72 y5_72 => (∀ a i, ¬ (a = 25 ∨ a = 31) → M72 a i = M_3 a i) ∧ (0 ≤ y5_72.toInt ∧ y5_72.toInt ≤ y4_72.toInt ∧ y4_72.toInt ≤ ((cN (fun j => (M72 31 j).toInt) 40 : Nat) : Int)) ∧ (∀ t : Nat, (t : Int) < y4_72.toInt → 0 ≤ (M72 25 t).toInt ∧ (M72 25 t).toInt < 40) ∧ (FlB (FdR M 1) v1.toInt (ix y3_25) (fun x => ¬ (M25 31 x).toInt = -1) (fun x => (M72 31 x).toInt = y2_25.toInt) (fun t => ix (M72 25 t)) (ix y4_72) (ix y5_72)) ∧ (∀ x, x < 40 → ¬ (M72 31 x).toInt = y2_25.toInt → M72 31 x = M25 31 x)) (fun M72 y4_72 y5_72 => (41 - y5_72.toInt).toNat) (fun ag72 M72 y4_72 y5_72 hI72 ih72 => ?_) FU M_3 (nI 1) (nI 0) ⟨(fun _ _ _ => rfl), (by rw [row_pu eM_3, cN_in (s := fun j => (M_2 31 j).toInt) (j := ix y3_25) (by show (M_2 31 (ix y3_25)).toInt = -1; rw [eM_2, mset_ne (by first | exact nz1 (by decide) | exact nz2 (by decide) | exact nz1 (nzA hc0 (by decide)) | exact nz1 (nzE (by decide)) | exact nz1 (nzB hc0 (by decide)) | exact nz1 (nzC hc0 (by decide)) | exact nz1 (nzD hc0 (by decide)) | exact nz1 (nzF (by decide)) | exact nz1 (nzG (by decide)) | omega)]; exact c46) (by omega) 40 (by omega)]; have := t_lit 0; have := t_lit 1; omega), (fun t ht => by rw [show t = 0 from (by have := t_lit 1; omega), eM_3, mset_ne (by first | exact nz1 (by decide) | exact nz2 (by decide) | exact nz1 (nzA hc0 (by decide)) | exact nz1 (nzE (by decide)) | exact nz1 (nzB hc0 (by decide)) | exact nz1 (nzC hc0 (by decide)) | exact nz1 (nzD hc0 (by decide)) | exact nz1 (nzF (by decide)) | exact nz1 (nzG (by decide)) | omega), eM_2, mset_eq]; omega), hF0, kp0⟩ (fu_lt (by have f0 := t_lit 0; have f1 := t_lit 1; omega))
          obtain ⟨hf_M72, h72, hq72, hF, kp⟩ := hI72
          have hcl := cN_le (fun j => (M72 31 j).toInt) 40
          refine wp_ite (fun c76 => ?_) (fun c76 => ?_)
          · have fe := fl_end hF (by have z1 := t_ixn y4_72 (by omega); have z2 := t_ixn y5_72 (by omega); omega) (il_cl ir.1) yd (fun z => z c46)
            exact ih25 M72 (y2_25 + (nI 1)) (y3_25 + (nI 1)) ⟨(by have f0 := t_lit 1; have f1 := t_add y3_25 (nI 1); omega), (fun a i q0 => ((hf_M72 a i (fun z8 => q0 ((fun z9 => Or.elim z9 (fun h9 => Or.inl h9) (fun h9 => Or.inr (h9))) z8))).trans ((congrFun (congrFun eM_3 a) i).trans ((mset_ne (fun h9 => q0 (Or.inr ((h9).1)))).trans ((congrFun (congrFun eM_2 a) i).trans ((mset_ne (fun h9 => q0 (Or.inl (h9).1))).trans ((hf_M25 a i (fun z8 => q0 ((fun z9 => Or.elim z9 (fun h9 => Or.inl h9) (fun h9 => Or.inr (h9))) z8))).trans rfl))))))), (by rw [t_inc y3_25 1 (by omega), t_inc y2_25 1 (by omega)]; omega), (le40 hi25 c28), (by rw [u.1]; exact ir_y ir u.2.1 yd c46 (t_inc y2_25 1 (by omega)) (fun x hx => (fe.1 x hx)) (fun x hx q => by show (M72 31 x).toInt = (M25 31 x).toInt; rw [kp x hx q]))⟩ (by have f0 := t_lit 1; have f1 := t_add y3_25 (nI 1); omega)
          · refine wp_lp3 (fun M82 y4_82 y6_82 => (0 ≤ y6_82.toInt) ∧ (∀ a i, ¬ (a = 25 ∨ a = 31) → M82 a i = M72 a i) ∧ (y5_72.toInt < y4_82.toInt ∧ y4_82.toInt ≤ ((cN (fun j => (M82 31 j).toInt) 40 : Nat) : Int)) ∧ (∀ t : Nat, (t : Int) < y4_82.toInt → 0 ≤ (M82 25 t).toInt ∧ (M82 25 t).toInt < 40) ∧ (FlI (FdR M 1) v1.toInt (ix y3_25) (fun x => ¬ (M25 31 x).toInt = -1) (fun x => (M82 31 x).toInt = y2_25.toInt) (fun t => ix (M82 25 t)) (ix y4_82) (ix y5_72) (ix y6_82)) ∧ (∀ x, x < 40 → ¬ (M82 31 x).toInt = y2_25.toInt → M82 31 x = M25 31 x)) (fun M82 y4_82 y6_82 => (40 - y6_82.toInt).toNat) (fun ag82 M82 y4_82 y6_82 hI82 ih82 => ?_) FU M72 y4_72 (nI 0) ⟨(by have f0 := t_lit 0; omega), (fun _ _ _ => rfl), (by omega), hq72, (by rw [show ix (nI 0) = 0 from (by decide)]; exact fl_in hF (by have z1 := t_ixn y4_72 (by omega); have z2 := t_ixn y5_72 (by omega); omega)), kp⟩ (fu_lt (by have f0 := t_lit 0; omega))
            obtain ⟨hi82, hf_M82, h82, hq82, hN, kp2⟩ := hI82
            have hcl2 := cN_le (fun j => (M82 31 j).toInt) 40
            refine wp_ite (fun c86 => ?_) (fun c86 => ?_)
            · exact ih72 M82 y4_82 (y5_72 + (nI 1)) ⟨(fun a i q0 => ((hf_M82 a i (fun z8 => q0 ((fun z9 => Or.elim z9 (fun h9 => Or.inl h9) (fun h9 => Or.inr (h9))) z8))).trans ((hf_M72 a i (fun z8 => q0 ((fun z9 => Or.elim z9 (fun h9 => Or.inl h9) (fun h9 => Or.inr (h9))) z8))).trans rfl))), (by rw [t_inc y5_72 1 (by omega)]; omega), hq82, (by rw [(i_up (x := y5_72) (by omega)).1]; exact fl_out hN (by have z9 := t_ixn y6_82 (by omega); omega)), kp2⟩ (by rw [t_inc y5_72 1 (by omega)]; omega)
            · have fx6 := t_ixn y6_82 (by omega)
              have fx5 := t_ixn y5_72 (by omega)
              have j40 : ix y6_82 < 40 := by omega
              refine wp_gd (by omega) ?_
              refine wp_ite (fun c97 => ?_) (fun c97 => ?_)
              · have hx := hq82 (ix y5_72) (by omega)
                have hlt := cN_lt (s := fun j => (M82 31 j).toInt) (j := ix y6_82) c97 40 (by omega)
                have fx4 := t_ixn y4_82 (by omega)
                have nv : ¬ (M82 31 (ix y6_82)).toInt = y2_25.toInt := by omega
                have nl : ¬ ¬ (M25 31 (ix y6_82)).toInt = -1 := fun z => z (by rw [← kp2 _ j40 nv]; exact c97)
                have f82 : FdR M82 1 = (FdR M 1) := (fdr_same (fun j hj => by rw [hf_M82 1 j (by first | decide | (rcases hc0 with h | h <;> rw [h] <;> simp; done) | (rcases hb0 with h | h | h <;> rw [h] <;> simp; done) | (simp; done) | omega), hf_M72 1 j (by first | decide | (rcases hc0 with h | h <;> rw [h] <;> simp; done) | (rcases hb0 with h | h | h <;> rw [h] <;> simp; done) | (simp; done) | omega), eM_3, mset_ne (by first | exact nz1 (by decide) | exact nz2 (by decide) | exact nz1 (nzA hc0 (by decide)) | exact nz1 (nzE (by decide)) | exact nz1 (nzB hc0 (by decide)) | exact nz1 (nzC hc0 (by decide)) | exact nz1 (nzD hc0 (by decide)) | exact nz1 (nzF (by decide)) | exact nz1 (nzG (by decide)) | omega), eM_2, mset_ne (by first | exact nz1 (by decide) | exact nz2 (by decide) | exact nz1 (nzA hc0 (by decide)) | exact nz1 (nzE (by decide)) | exact nz1 (nzB hc0 (by decide)) | exact nz1 (nzC hc0 (by decide)) | exact nz1 (nzD hc0 (by decide)) | exact nz1 (nzF (by decide)) | exact nz1 (nzG (by decide)) | omega)])).trans f25
                refine wp_gd (by omega) ?_
                refine wp_bind2 (ow_X10_canStep M82 (M82 25 (ix y5_72)) y6_82 v1 ⟨hx.1, hx.2⟩ ⟨by omega, by omega⟩ ⟨by omega, by omega⟩ (by rw [f82]; exact hGd)) (fun r_4 he111 hq111 => ?_)
                obtain ⟨hz_r_4, hcs_111⟩ := hq111
                replace hcs_111 : ¬ r_4.toInt = 0 ↔ adjG (FdR M82 1) v1.toInt (ix (M82 25 (ix y5_72))) (ix y6_82) := hcs_111
                rw [f82] at hcs_111
                refine wp_ite (fun c114 => ?_) (fun c114 => ?_)
                · exact ih82 M82 y4_82 (y6_82 + (nI 1)) ⟨(by have f0 := t_lit 1; have f1 := t_add y6_82 (nI 1); omega), (fun a i q0 => ((hf_M82 a i (fun z8 => q0 ((fun z9 => Or.elim z9 (fun h9 => Or.inl h9) (fun h9 => Or.inr (h9))) z8))).trans rfl)), h82, hq82, (by rw [(i_up (x := y6_82) (by omega)).1]; exact fl_skip hN (Or.inr (fun z => hcs_111.mpr z.1 c114)) j40), kp2⟩ (by have f0 := t_lit 1; have f1 := t_add y6_82 (nI 1); omega)
                · have hcc : FlC (FdR M 1) v1.toInt (fun x => ¬ (M25 31 x).toInt = -1) ((fun t => ix (M82 25 t)) (ix y5_72)) (ix y6_82) := ⟨hcs_111.mp c114, nl⟩
                  refine wp_gd (by omega) ?_
                  refine wp_bnd (fun M_5 eM_5 => ?_)
                  refine wp_gd (by omega) ?_
                  refine wp_bnd (fun M_6 eM_6 => ?_)
                  exact ih82 M_6 (y4_82 + (nI 1)) (y6_82 + (nI 1)) ⟨(by have f0 := t_lit 1; have f1 := t_add y6_82 (nI 1); omega), (fun a i q0 => ((congrFun (congrFun eM_6 a) i).trans ((mset_ne (fun h9 => q0 (Or.inl (h9).1))).trans ((congrFun (congrFun eM_5 a) i).trans ((mset_ne (fun h9 => q0 (Or.inr ((h9).1)))).trans ((hf_M82 a i (fun z8 => q0 ((fun z9 => Or.elim z9 (fun h9 => Or.inl h9) (fun h9 => Or.inr (h9))) z8))).trans rfl)))))), (by rw [t_inc y4_82 1 (by omega), row_sn eM_6 (by omega), row_pu eM_5, cN_in (s := fun j => (M82 31 j).toInt) (j := ix y6_82) c97 (by omega) 40 (by omega)]; omega), (set_ext (P := fun _ x => 0 ≤ x.toInt ∧ x.toInt < 40) eM_6 (by omega) (by omega) (fun t ht => by rw [eM_5, mset_ne (by first | exact nz1 (by decide) | exact nz2 (by decide) | exact nz1 (nzA hc0 (by decide)) | exact nz1 (nzE (by decide)) | exact nz1 (nzB hc0 (by decide)) | exact nz1 (nzC hc0 (by decide)) | exact nz1 (nzD hc0 (by decide)) | exact nz1 (nzF (by decide)) | exact nz1 (nzG (by decide)) | omega)]; exact hq82 t ht) (by omega)), (by rw [(i_up (x := y6_82) (by omega)).1, (i_up (x := y4_82) (by omega)).1, row_qu eM_6, row_qn eM_5 (by omega)]; exact fl_push hN nv hcc j40 (fun x hx => by rw [eM_6, mset_ne (by first | exact nz1 (by decide) | exact nz2 (by decide) | exact nz1 (nzA hc0 (by decide)) | exact nz1 (nzE (by decide)) | exact nz1 (nzB hc0 (by decide)) | exact nz1 (nzC hc0 (by decide)) | exact nz1 (nzD hc0 (by decide)) | exact nz1 (nzF (by decide)) | exact nz1 (nzG (by decide)) | omega), eM_5, mset_get]; by_cases q : x = ix y6_82; (rw [if_pos ⟨rfl, q⟩]; exact ⟨fun _ => Or.inr q, fun _ => rfl⟩); (rw [if_neg (fun z => q z.2)]; exact ⟨Or.inl, fun z => z.resolve_right q⟩))), (fun x hx hq => by rw [eM_6, mset_ne (by first | exact nz1 (by decide) | exact nz2 (by decide) | exact nz1 (nzA hc0 (by decide)) | exact nz1 (nzE (by decide)) | exact nz1 (nzB hc0 (by decide)) | exact nz1 (nzC hc0 (by decide)) | exact nz1 (nzD hc0 (by decide)) | exact nz1 (nzF (by decide)) | exact nz1 (nzG (by decide)) | omega), eM_5] at hq ⊢; by_cases q : x = ix y6_82; (exact absurd (by rw [q, mset_eq]) hq); (rw [mset_ne (fun z => q z.2)] at hq ⊢; exact kp2 x hx hq))⟩ (by have f0 := t_lit 1; have f1 := t_add y6_82 (nI 1); omega)
              · exact ih82 M82 y4_82 (y6_82 + (nI 1)) ⟨(by have f0 := t_lit 1; have f1 := t_add y6_82 (nI 1); omega), (fun a i q0 => ((hf_M82 a i (fun z8 => q0 ((fun z9 => Or.elim z9 (fun h9 => Or.inl h9) (fun h9 => Or.inr (h9))) z8))).trans rfl)), h82, hq82, (by rw [(i_up (x := y6_82) (by omega)).1]; exact fl_skip hN (by by_cases q : (M82 31 (ix y6_82)).toInt = y2_25.toInt; (exact Or.inl q); (exact Or.inr (fun z => z.2 (by show ¬ (M25 31 (ix y6_82)).toInt = -1; rw [← kp2 _ j40 q]; exact c97)))) j40), kp2⟩ (by have f0 := t_lit 1; have f1 := t_add y6_82 (nI 1); omega)
        · exact ih25 M25 y2_25 (y3_25 + (nI 1)) ⟨(by have f0 := t_lit 1; have f1 := t_add y3_25 (nI 1); omega), (fun a i q0 => ((hf_M25 a i (fun z8 => q0 ((fun z9 => Or.elim z9 (fun h9 => Or.inl h9) (fun h9 => Or.inr (h9))) z8))).trans rfl)), (by rw [t_inc y3_25 1 (by omega)]; omega), (le40 hi25 c28), (by rw [u.1]; exact ir_v ir u.2.1 c46)⟩ (by have f0 := t_lit 1; have f1 := t_add y3_25 (nI 1); omega)
  refine wp_ite (fun c7 => ?_) (fun c7 => ?_)
  · exact j23 (fun x hx => h4 x (by omega))
  · refine wp_gd (by omega) ?_
    refine wp_bnd (fun M_7 eM_7 => ?_)
    exact ih4 M_7 (y3_4 + (nI 1)) ⟨(fun a i q0 => ((congrFun (congrFun eM_7 a) i).trans ((mset_ne (fun h9 => q0 ((h9).1))).trans ((hf_M4 a i (fun h9 => q0 (h9))).trans rfl)))), (set_ext (P := fun _ x => x.toInt = -1) eM_7 (by omega) (by omega) h4 (by decide)), (by rw [t_inc y3_4 1 (by omega)]; omega)⟩ (by rw [t_inc y3_4 1 (by omega)]; omega)
set_option maxHeartbeats 2000000 in
theorem oi_X10_islands (M : Mem) (v1 : Int32) (v2 : Int32) (hGd : GdF (FdR M 1)) : Wp (f_X10_islands M v1 v2) (fun q => (∀ a i, ¬ (a = 25 ∨ a = 31) → q.2 a i = M a i) ∧ (PqP (IlT (FdR M 1) v1 v2) (IlQ (FdR M 1) v1.toInt v2 q.1.toInt) q.1)) := by
  refine wp_bind2 (o2_X10_in M v1 (nI 1) (nI 30)) (fun r_1 he4 hq4 => ?_)
  obtain ⟨hz_r_1, hr_4, hi_4⟩ := hq4
  replace hr_4 : ¬ r_1.toInt = 0 → (nI 1).toInt ≤ v1.toInt ∧ v1.toInt ≤ (nI 30).toInt := hr_4
  have := t_lit 1
  have := t_lit 30
  replace hi_4 : ¬ r_1.toInt = 0 ↔ (nI 1).toInt ≤ v1.toInt ∧ v1.toInt ≤ (nI 30).toInt := hi_4
  have := t_lit 1
  have := t_lit 30
  refine wp_ite (fun c7 => ?_) (fun c7 => ?_)
  · exact wp_some ⟨(fun _ _ _ => rfl), (pq_n (fun z => hi_4.mpr (by have f1 := t_lit 1; have f30 := t_lit 30; have q := z.1; omega) c7) rfl)⟩
  · have j26 : ((1 ≤ v1.toInt ∧ v1.toInt ≤ 30) ∧ (v2.toInt = 100 ∨ ((0 ≤ v2.toInt ∧ v2.toInt < 40) ∧ tld (FdR M 1) (ix v2)))) → Wp (f_X10_islands_L26 M v1 v2) (fun q => (∀ a i, ¬ (a = 25 ∨ a = 31) → q.2 a i = M a i) ∧ (PqP (IlT (FdR M 1) v1 v2) (IlQ (FdR M 1) v1.toInt v2 q.1.toInt) q.1)) := by
      intro h26
      unfold f_X10_islands_L26
      refine wp_cb2 (oi_X10_laysIslands M v1 h26.1 hGd) (fun r_2 M_3 he28 hq28 => ?_)
      obtain ⟨hg_M_3, hI_28⟩ := hq28
      replace hI_28 : ∃ n, n = 40 ∧ IlR (FdR M 1) v1.toInt n r_2.toInt (fun x => (M_3 31 x).toInt) := hI_28
      replace hg_M_3 : ∀ a i, ¬ (a = 25 ∨ a = 31) → M_3 a i = M a i := hg_M_3
      obtain ⟨n40, hn40, hir⟩ := hI_28
      refine wp_ite (fun c35 => ?_) (fun c35 => ?_)
      · exact wp_some ⟨(fun a i q0 => ((hg_M_3 a i (fun z8 => q0 ((fun z9 => Or.elim z9 (fun h9 => Or.inl h9) (fun h9 => Or.inr (h9))) z8))).trans rfl)), (pq_y ⟨h26.1, h26.2⟩ (Or.inl ⟨c35, by obtain ⟨-, y, -⟩ := hir; exact ⟨n40, hn40, y⟩⟩))⟩
      · have w := (h26.2.resolve_left c35).1
        refine wp_lp2 (fun y4_46 y5_46 => (0 ≤ y5_46.toInt) ∧ (y5_46.toInt ≤ 40) ∧ (CtI (IsC (FdR M 1) v1.toInt (ix v2)) (ix y5_46) y4_46.toInt) ∧ (0 ≤ y4_46.toInt ∧ y4_46.toInt ≤ y5_46.toInt)) (fun y4_46 y5_46 => (40 - y5_46.toInt).toNat) (fun ag46 y4_46 y5_46 hI46 ih46 => ?_) FU (nI 0) (nI 0) ⟨(by have f0 := t_lit 0; omega), (by decide), (by rw [show ix (nI 0) = 0 from (by decide)]; exact nI0), (by decide)⟩ (fu_lt (by have f0 := t_lit 0; omega))
        obtain ⟨hi46, h40, ct, y4b⟩ := hI46
        refine wp_ite (fun c50 => ?_) (fun c50 => ?_)
        · exact wp_some ⟨(fun a i q0 => ((hg_M_3 a i (fun z8 => q0 ((fun z9 => Or.elim z9 (fun h9 => Or.inl h9) (fun h9 => Or.inr (h9))) z8))).trans rfl)), (pq_y ⟨h26.1, h26.2⟩ (Or.inr ⟨c35, ix y5_46, (ix_eq (by omega) (by decide)).mpr (by omega), ct⟩))⟩
        · have u := up40 hi46 c50
          have e := ir_e hir hn40 (ix40 w.1 w.2) u.2.1
          have uc := i_up (x := y4_46) (by omega)
          refine wp_gd (by omega) ?_
          refine wp_ite (fun c60 => ?_) (fun c60 => ?_)
          · exact ih46 y4_46 (y5_46 + (nI 1)) ⟨(by have f0 := t_lit 1; have f1 := t_add y5_46 (nI 1); omega), (le40 hi46 c50), (by rw [u.1]; exact ct_n ct (fun z => (e.mp z).1 c60)), (by rw [(i_up (x := y5_46) (by omega)).2]; omega)⟩ (by have f0 := t_lit 1; have f1 := t_add y5_46 (nI 1); omega)
          · refine wp_gd (by omega) ?_
            refine wp_gd (by omega) ?_
            refine wp_ite (fun c76 => ?_) (fun c76 => ?_)
            · exact ih46 (y4_46 + (nI 1)) (y5_46 + (nI 1)) ⟨(by have f0 := t_lit 1; have f1 := t_add y5_46 (nI 1); omega), (le40 hi46 c50), (by rw [u.1]; exact ct_y ct (e.mpr ⟨c60, c76⟩) uc.2), (by rw [(i_up (x := y5_46) (by omega)).2, uc.2]; omega)⟩ (by have f0 := t_lit 1; have f1 := t_add y5_46 (nI 1); omega)
            · exact ih46 y4_46 (y5_46 + (nI 1)) ⟨(by have f0 := t_lit 1; have f1 := t_add y5_46 (nI 1); omega), (le40 hi46 c50), (by rw [u.1]; exact ct_n ct (fun z => c76 (e.mp z).2)), (by rw [(i_up (x := y5_46) (by omega)).2]; omega)⟩ (by have f0 := t_lit 1; have f1 := t_add y5_46 (nI 1); omega)
    refine wp_ite (fun c13 => ?_) (fun c13 => ?_)
    · exact j26 ⟨by have f1 := t_lit 1; have f30 := t_lit 30; have z := hi_4.mp c7; omega, Or.inl c13⟩
    · refine wp_bind2 (o8_X10_isStone M v2 hGd.1.1) (fun r_4 he18 hq18 => ?_)
      obtain ⟨hz_r_4, hr_18, htd_18⟩ := hq18
      replace hr_18 : ¬ r_4.toInt = 0 → (0 ≤ v2.toInt ∧ v2.toInt < 40) ∧ (M 1 (ix v2)).toInt = 1 := hr_18
      replace htd_18 : TdP r_4.toInt (FdR M 1) v2 := htd_18
      refine wp_ite (fun c21 => ?_) (fun c21 => ?_)
      · exact wp_some ⟨(fun _ _ _ => rfl), (pq_n (fun z => z.2.elim c13 (fun q => htd_18.mpr q c21)) rfl)⟩
      · exact j26 ⟨by have f1 := t_lit 1; have f30 := t_lit 30; have z := hi_4.mp c7; omega, Or.inr (htd_18.mp c21)⟩
