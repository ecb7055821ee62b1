/-! walks over all nodes -/
def decS (G : Mem) (s : Int) (i j : Nat) : Decidable (stC G s i j) := by
  unfold stC stF dryG tld
  exact inferInstance
def stN (G : Mem) (s : Int) (i j : Nat) : Nat := @ite Nat (stC G s i j) (decS G s i j) 1 0
theorem sn_y9 {G : Mem} {s : Int} {i j : Nat} (h : stC G s i j) : stN G s i j = 1 := if_pos h
theorem sn_n9 {G : Mem} {s : Int} {i j : Nat} (h : ¬ stC G s i j) : stN G s i j = 0 := if_neg h
def Wc (G : Mem) (s : Int) : Nat → Nat → Nat
  | 0, i => eN 40 i
  | k + 1, i => sQ (fun j => Wc G s k j * stN G s j i) 42
theorem wc_k9 {G : Mem} {s : Int} {sC : Nat → Int} (h : Bend 42 (fun j => j = 40) (stC G s) sC) : ∀ {k i : Nat}, i < 42 → ¬ Wc G s k i = 0 → ¬ sC i = -1 ∧ sC i ≤ (k : Int) + 1
  | 0, i, hi, hn => by
    by_cases c : 40 = i
    · have e : sC i = 1 := (h.2.1 i hi).mpr c.symm
      omega
    · exact absurd (en_n c) hn
  | k + 1, i, hi, hn => by
    obtain ⟨j, a, b⟩ := zq_p hn
    have h1 : ¬ Wc G s k j = 0 := fun z => b (by rw [z, Nat.zero_mul])
    by_cases c : stC G s j i
    · have z := wc_k9 h a h1
      have y := h.2.2.2 j i a hi z.1 c
      refine ⟨y.1, ?_⟩
      have y2 := y.2
      have z2 := z.2
      omega
    · exact absurd (by rw [sn_n9 c, Nat.mul_zero]) b
theorem zn_0 {n : Nat} (h : ¬ n = 0 → False) : n = 0 := Classical.byContradiction h
theorem wc_w9 {G : Mem} {s : Int} {sC : Nat → Int} (hG : GdF G) (hs : 0 ≤ s) (h : Bend 42 (fun j => j = 40) (stC G s) sC) : ∀ {k i : Nat}, i < 40 → sC i = (k : Int) + 2 → (sC 41 = -1 ∨ (k : Int) + 2 ≤ sC 41) → Wc G s (k + 1) i = Wn G s 40 k i
  | 0, i, hi, e, _ => by
    show sQ (fun j => eN 40 j * stN G s j i) 42 = nN G s i
    rw [zq_one (by omega)]
    by_cases c : nearG G s i
    · rw [nn_y c, sn_y9 ((st_n hG hs hi).mpr c)]
    · rw [nn_n c, sn_n9 (fun z => c ((st_n hG hs hi).mp z))]
  | k + 1, i, hi, e, hf => by
    have e0 : sC 40 = 1 := (h.2.1 40 (by omega)).mpr rfl
    have a40 : stN G s 40 i = 0 := sn_n9 (fun z => by
      have y := (h.2.2.2 40 i (by omega) (by omega) (by omega) z).2
      omega)
    have a41 : Wc G s (k + 1) 41 = 0 := zn_0 (fun z => by
      have y := wc_k9 h (i := 41) (by omega) z
      omega)
    show sQ (fun j => Wc G s (k + 1) j * stN G s j i) 40 + Wc G s (k + 1) 40 * stN G s 40 i + Wc G s (k + 1) 41 * stN G s 41 i = sQ (fun j => Wn G s 40 k j * lkN G s j i) 40
    rw [a40, a41, Nat.mul_zero, Nat.zero_mul, Nat.add_zero, Nat.add_zero]
    refine zq_cg (fun j hj => ?_)
    by_cases c : sC j = -1 ∨ (k : Int) + 2 < sC j
    · have z1 : Wc G s (k + 1) j = 0 := zn_0 (fun z => by
        have y := wc_k9 h (i := j) (by omega) z
        omega)
      have z2 : Wn G s 40 k j = 0 := zn_0 (fun z => by
        have y := (rk_c hG hs h).1 k j (wn_k z)
        omega)
      rw [z1, z2, Nat.zero_mul, Nat.zero_mul]
    · have ne : ¬ j = i := fun z => by
        rw [z] at c
        omega
      by_cases d : sC j = (k : Int) + 2
      · rw [wc_w9 hG hs h hj d (by omega)]
        by_cases a : adjG G s j i
        · rw [lk_y9 a, sn_y9 ((st_s hj hi ne).mpr a)]
        · rw [lk_n9 a, sn_n9 (fun z => a ((st_s hj hi ne).mp z))]
      · have n1 : ¬ stC G s j i := fun z => by
          have y := (h.2.2.2 j i (by omega) (by omega) (by omega) z).2
          omega
        rw [sn_n9 n1, lk_n9 (fun z => n1 ((st_s hj hi ne).mpr z)), Nat.mul_zero, Nat.mul_zero]
theorem wc_e9 {G : Mem} {s : Int} {sC : Nat → Int} (hG : GdF G) (hs : 0 ≤ s) (h : Bend 42 (fun j => j = 40) (stC G s) sC) {n : Nat} (e : sC 41 = (n : Int) + 3) : Wc G s (n + 2) 41 = sQ (fun i => Wn G s 40 n i * fN G s i) 40 := by
  have e0 : sC 40 = 1 := (h.2.1 40 (by omega)).mpr rfl
  have a40 : stN G s 40 41 = 0 := sn_n9 (fun z => by
    have y := (h.2.2.2 40 41 (by omega) (by omega) (by omega) z).2
    omega)
  have a41 : stN G s 41 41 = 0 := sn_n9 (fun z => absurd rfl z.1)
  show sQ (fun j => Wc G s (n + 1) j * stN G s j 41) 40 + Wc G s (n + 1) 40 * stN G s 40 41 + Wc G s (n + 1) 41 * stN G s 41 41 = _
  rw [a40, a41, Nat.mul_zero, Nat.mul_zero, Nat.add_zero, Nat.add_zero]
  refine zq_cg (fun j hj => ?_)
  by_cases c : sC j = -1 ∨ (n : Int) + 2 < sC j
  · have z1 : Wc G s (n + 1) j = 0 := zn_0 (fun z => by
      have y := wc_k9 h (i := j) (by omega) z
      omega)
    have z2 : Wn G s 40 n j = 0 := zn_0 (fun z => by
      have y := (rk_c hG hs h).1 n j (wn_k z)
      omega)
    rw [z1, z2, Nat.zero_mul, Nat.zero_mul]
  · by_cases d : sC j = (n : Int) + 2
    · rw [wc_w9 hG hs h hj d (by omega)]
      by_cases a : farG G s j
      · rw [fn_y a, sn_y9 ((st_f hG hs hj).mpr a)]
      · rw [fn_n a, sn_n9 (fun z => a ((st_f hG hs hj).mp z))]
    · have n1 : ¬ stC G s j 41 := fun z => by
        have y := (h.2.2.2 j 41 (by omega) (by omega) (by omega) z).2
        omega
      rw [sn_n9 n1, fn_n (fun z => n1 ((st_f hG hs hj).mpr z)), Nat.mul_zero, Nat.mul_zero]
theorem wc_19 {G : Mem} {s : Int} (h : 21 ≤ s) : Wc G s 1 41 = 1 := by
  show sQ (fun j => eN 40 j * stN G s j 41) 42 = 1
  rw [zq_one (by omega)]
  exact sn_y9 (st_b.mpr h)
/-! rows by the queue -/
def kS (S : Nat → Int) (x : Nat) : Nat := (S x - 1).toNat
def cSs (G : Mem) (s : Int) (S : Nat → Int) (x j : Nat) : Nat := if S j = S x + 1 then stN G s x j else 0
def RwS (G : Mem) (s : Int) (S : Nat → Int) (q : Nat → Nat) (n j : Nat) : Nat := eN 40 j + sQ (fun t => cSs G s S (q t) j * Wc G s (kS S (q t)) (q t)) n
theorem zq_cut {f : Nat → Nat} {h : Nat} : ∀ {n : Nat}, h ≤ n → (∀ t, h ≤ t → t < n → f t = 0) → sQ f n = sQ f h
  | 0, hn, _ => by rw [show h = 0 from by omega]
  | n + 1, hn, hz => by
    by_cases c : h = n + 1
    · rw [c]
    · show sQ f n + f n = sQ f h
      rw [hz n (by omega) (by omega), Nat.add_zero]
      exact zq_cut (by omega) (fun t h1 h2 => hz t h1 (by omega))
theorem rw_all {G : Mem} {s : Int} {S : Nat → Int} {q : Nat → Nat} {n j : Nat} (hq : Bq 42 S q n) (h : Bend 42 (fun j => j = 40) (stC G s) S) (hj : j < 42) (hn : ¬ S j = -1) : RwS G s S q n j = Wc G s (kS S j) j := by
  have e0 : S 40 = 1 := (h.2.1 40 (by omega)).mpr rfl
  have b := (h.1 j hj).resolve_left hn
  unfold RwS
  rw [zq_q (g := fun x => cSs G s S x j * Wc G s (kS S x) x) hq]
  by_cases c : S j = 1
  · have ej : j = 40 := (h.2.1 j hj).mp c
    have z : sQ (fun x => vN S x * (cSs G s S x j * Wc G s (kS S x) x)) 42 = 0 := zq_z (fun x hx => by
      by_cases d : S j = S x + 1
      · rcases h.1 x hx with g | g
        · omega
        · omega
      · unfold cSs
        rw [if_neg d, Nat.zero_mul, Nat.mul_zero])
    rw [z, ej, en_y]
    unfold kS
    rw [e0]
    show 1 = eN 40 40
    rw [en_y]
  · have nj : ¬ 40 = j := fun z => c (by rw [← z]; exact e0)
    obtain ⟨k, hk⟩ : ∃ k : Nat, S j = (k : Int) + 2 := ⟨(S j - 2).toNat, by omega⟩
    have ek : kS S j = k + 1 := by
      unfold kS
      omega
    rw [en_n nj, Nat.zero_add, ek]
    show _ = sQ (fun x => Wc G s k x * stN G s x j) 42
    refine zq_cg (fun x hx => ?_)
    by_cases d : S x = -1
    · have z1 : Wc G s k x = 0 := zn_0 (fun z => (wc_k9 h hx z).1 d)
      unfold vN
      rw [if_pos d, z1, Nat.zero_mul, Nat.zero_mul]
    · have ev : vN S x = 1 := if_neg d
      rw [ev, Nat.one_mul]
      by_cases f : S j = S x + 1
      · have e1 : kS S x = k := by
          unfold kS
          omega
        unfold cSs
        rw [if_pos f, e1, Nat.mul_comm]
      · unfold cSs
        rw [if_neg f, Nat.zero_mul]
        by_cases g : S j < S x + 1
        · have z1 : Wc G s k x = 0 := zn_0 (fun z => by
            have y := (wc_k9 h hx z).2
            omega)
          rw [z1, Nat.zero_mul]
        · have n1 : ¬ stC G s x j := fun z => by
            have y := (h.2.2.2 x j hx hj d z).2
            omega
          rw [sn_n9 n1, Nat.mul_zero]
theorem rw_at {G : Mem} {s : Int} {S : Nat → Int} {q : Nat → Nat} {n k h : Nat} (hb : Bfs 42 (fun j => j = 40) (stC G s) S q n k) (he : Bend 42 (fun j => j = 40) (stC G s) S) (hh : h < n) : RwS G s S q h (q h) = Wc G s (kS S (q h)) (q h) := by
  have hq := hb.1.1
  have hx := hq.2.1 h hh
  rw [← rw_all hq he hx.1 hx.2.1]
  unfold RwS
  rw [zq_cut (h := h) (n := n) (by omega) (fun t h1 h2 => by
    have o := hb.1.2.2.1 h t h1 h2
    unfold cSs
    rw [if_neg (by omega), Nat.zero_mul])]
/-- a row of numbers -/
def RwI (G : Mem) (s : Int) (S : Nat → Int) (q : Nat → Nat) (f : Nat → Int32) (n : Nat) : Prop := ∀ j, j < 42 → (f j).toInt = ((sat (RwS G s S q n j) : Nat) : Int)
theorem rwi_0 {G : Mem} {s : Int} {S : Nat → Int} {q : Nat → Nat} {f : Nat → Int32} (h : ∀ j, j < 42 → f j = if j = 40 then nI 1 else nI 0) : RwI G s S q f 0 := fun j hj => by
  rw [h j hj]
  show _ = ((sat (eN 40 j + 0) : Nat) : Int)
  by_cases c : j = 40
  · rw [if_pos c, c, en_y]
    decide
  · rw [if_neg c, en_n (fun z => c z.symm)]
    decide
theorem sat_r (a : Nat) : 0 ≤ ((sat a : Nat) : Int) ∧ ((sat a : Nat) : Int) ≤ 1000000000 := by
  unfold sat
  omega
theorem rwi_b {G : Mem} {s : Int} {S : Nat → Int} {q : Nat → Nat} {f : Nat → Int32} {n : Nat} (h : RwI G s S q f n) : ∀ j, j < 42 → 0 ≤ (f j).toInt ∧ (f j).toInt ≤ 1000000000 := fun j hj => by
  rw [h j hj]
  exact sat_r _
/-- of one node all that is led on -/
def LoI (P : Nat → Prop) (f g : Nat → Int32) (x n : Nat) : Prop := ∀ j, j < 42 → ((j < n ∧ P j) → (g j).toInt = min 1000000000 ((f j).toInt + (f x).toInt)) ∧ (¬ (j < n ∧ P j) → g j = f j)
theorem lo_0 {P : Nat → Prop} {f : Nat → Int32} {x : Nat} : LoI P f f x 0 := fun j hj => ⟨fun z => absurd z.1 (Nat.not_lt_zero _), fun _ => rfl⟩
theorem lo_n {P : Nat → Prop} {f g : Nat → Int32} {x n : Nat} (h : LoI P f g x n) (hn : ¬ P n) : LoI P f g x (n + 1) := fun j hj => by
  have z := h j hj
  refine ⟨fun y => z.1 ⟨?_, y.2⟩, fun y => z.2 (fun q => y ⟨by omega, q.2⟩)⟩
  by_cases c : j = n
  · rw [c] at y
    exact absurd y.2 hn
  · omega
theorem lo_y {P : Nat → Prop} {f g g' : Nat → Int32} {x n : Nat} {v : Int32} (h : LoI P f g x n) (hn : P n) (hn2 : n < 42) (hx : ¬ P x) (hx2 : x < 42) (hb : ∀ j, j < 42 → 0 ≤ (f j).toInt ∧ (f j).toInt ≤ 1000000000) (e : g' = upd g n v) (hv : v = mn (nI 1000000000) (g n + g x)) : LoI P f g' x (n + 1) := by
  have e1 : g n = f n := (h n hn2).2 (fun z => absurd z.1 (Nat.lt_irrefl _))
  have e2 : g x = f x := (h x hx2).2 (fun z => hx z.2)
  have ev : v.toInt = min 1000000000 ((f n).toInt + (f x).toInt) := by
    have a := hb n hn2
    have b := hb x hx2
    have t := t_add (f n) (f x)
    rw [hv, e1, e2, t_mn, t_lit 1000000000]
    omega
  intro j hj
  have z := h j hj
  by_cases c : j = n
  · rw [e, c, upd_e]
    exact ⟨fun _ => ev, fun y => absurd ⟨by omega, hn⟩ y⟩
  · rw [e, upd_o c]
    exact ⟨fun y => z.1 ⟨by omega, y.2⟩, fun y => z.2 (fun q => y ⟨by omega, q.2⟩)⟩
theorem sat_2 (a b : Nat) : min 1000000000 (((sat a : Nat) : Int) + ((sat b : Nat) : Int)) = ((sat (a + b) : Nat) : Int) := by
  unfold sat
  omega
theorem rwi_s {G : Mem} {s : Int} {S : Nat → Int} {q : Nat → Nat} {f g : Nat → Int32} {n k h x : Nat} {P : Nat → Prop} (hi : RwI G s S q f h) (hb : Bfs 42 (fun j => j = 40) (stC G s) S q n k) (he : Bend 42 (fun j => j = 40) (stC G s) S) (hh : h < n) (ex : q h = x) (hl : LoI P f g x 42) (hP : ∀ j, j < 42 → (P j ↔ S j = S x + 1 ∧ stC G s x j)) : RwI G s S q g (h + 1) := fun j hj => by
  have hx := hb.1.1.2.1 h hh
  have ew := rw_at hb he hh
  rw [ex] at hx ew
  have a := hi j hj
  have b := hi x hx.1
  rw [ew] at b
  have z := hl j hj
  have er : RwS G s S q (h + 1) j = RwS G s S q h j + cSs G s S x j * Wc G s (kS S x) x := by
    show eN 40 j + (sQ (fun t => cSs G s S (q t) j * Wc G s (kS S (q t)) (q t)) h + cSs G s S (q h) j * Wc G s (kS S (q h)) (q h)) = _
    rw [ex, ← Nat.add_assoc]
    rfl
  rw [er]
  by_cases c : P j
  · have p := (hP j hj).mp c
    have ec : cSs G s S x j = 1 := by
      unfold cSs
      rw [if_pos p.1, sn_y9 p.2]
    rw [z.1 ⟨hj, c⟩, ec, Nat.one_mul, a, b]
    exact sat_2 _ _
  · have ec : cSs G s S x j = 0 := by
      unfold cSs
      by_cases d : S j = S x + 1
      · rw [if_pos d, sn_n9 (fun w => c ((hP j hj).mpr ⟨d, w⟩))]
      · rw [if_neg d]
    rw [z.2 (fun w => c w.2), ec, Nat.zero_mul, Nat.add_zero]
    exact a
theorem spm_up {M : Mem} {k x j : Nat} (v : VLm M k) (hx : x < 42) (hj : j < 42) (hn : ¬ (M k x).toInt = -1) : (M k j).toInt = (M k x).toInt + 1 ↔ SPm M k j = SPm M k x + 1 := by
  have a := (v x hx).1
  have b := (v j hj).1
  unfold SPm
  rw [sp_s hn]
  unfold sp
  by_cases c : (M k j).toInt = -1
  · rw [if_pos c]
    omega
  · rw [if_neg c]
    omega
/-! the rows' number -/
def RwP (G : Mem) (s f r : Int) : Prop := (f = 1 ∧ r = 1) ∨ (¬ f = 1 ∧ r = ((sat (sQ (fun i => Wn G s 40 (f - 2).toNat i * fN G s i) 40) : Nat) : Int))
theorem rwp_fn {G : Mem} {s f r r' : Int} (h : RwP G s f r) (h' : RwP G s f r') : r = r' := by
  rcases h with ⟨a, b⟩ | ⟨a, b⟩ <;> rcases h' with ⟨a', b'⟩ | ⟨a', b'⟩
  · omega
  · exact absurd a a'
  · exact absurd a' a
  · rw [b, b']
theorem rwp_c {G : Mem} {s f r : Int} {sC : Nat → Int} (hG : GdF G) (hs : 0 ≤ s) (h : Bend 42 (fun j => j = 40) (stC G s) sC) (hf : CrK G s f) (hz : sC 41 = sp f) (hn : ¬ f = -1) (hr : r = ((sat (Wc G s (kS sC 41) 41) : Nat) : Int)) : RwP G s f r := by
  have b := (crk_b hf).resolve_left hn
  rw [sp_s hn] at hz
  by_cases c : f = 1
  · have h21 : 21 ≤ s := by
      rcases hf with ⟨a, -⟩ | ⟨a, ⟨e, -⟩ | ⟨k, i, -, -, e, -⟩⟩
      · exact a
      · omega
      · omega
    have ek : kS sC 41 = 1 := by
      unfold kS
      omega
    refine Or.inl ⟨c, ?_⟩
    rw [hr, ek, wc_19 h21]
    decide
  · refine Or.inr ⟨c, ?_⟩
    obtain ⟨n, hk⟩ : ∃ n : Nat, f = (n : Int) + 2 := ⟨(f - 2).toNat, by omega⟩
    have ek : kS sC 41 = n + 2 := by
      unfold kS
      omega
    rw [hr, ek, wc_e9 hG hs h (by omega), show (f - 2).toNat = n from by omega]
/-! the far rings of the class -/
theorem rf_c2 {G : Mem} {s : Int} {sC : Nat → Int} (hG : GdF G) (hs : 0 ≤ s) (h : Bend 42 (fun j => j = 41) (stC G s) sC) : (∀ k i, RF G s k i → ¬ sC i = -1 ∧ sC i ≤ (k : Int) + 2) ∧ ∀ k i : Nat, i < 40 → sC i = (k : Int) + 2 → (sC 40 = -1 ∨ (k : Int) + 2 ≤ sC 40) → RF G s k i := by
  obtain ⟨h1, h2, h3, h4⟩ := h
  have e41 : sC 41 = 1 := (h2 41 (by omega)).mpr rfl
  refine ⟨fun k => ?_, fun k => ?_⟩
  · induction k with
    | zero =>
      intro i hi
      have hd := (rf_d hi).1.1
      have z := h4 41 i (by omega) (by omega) (by omega) ((st_fn hG hs hd).mpr hi)
      omega
    | succ k ih =>
      intro i hi
      obtain ⟨j, hj, ha⟩ := hi
      have z := ih j hj
      by_cases c : j = i
      · rw [← c]
        omega
      · have y := h4 j i (by have := ha.1.1.1; omega) (by have := ha.2.1.1.1; omega) z.1 ((st_s ha.1.1.1 ha.2.1.1.1 c).mpr ha)
        omega
  · induction k with
    | zero =>
      intro i hi e _
      obtain ⟨p, hp, ep, cp⟩ := h3 i (by omega) (by omega)
      have e1 : p = 41 := (h2 p hp).mp (by omega)
      rw [e1] at cp
      exact (st_fn hG hs hi).mp cp
    | succ k ih =>
      intro i hi e hf
      obtain ⟨p, hp, ep, cp⟩ := h3 i (by omega) (by omega)
      have n40 : ¬ p = 40 := fun z => by
        rw [z] at ep
        omega
      have n41 : ¬ p = 41 := fun z => by
        rw [z] at ep
        omega
      have ni : ¬ p = i := fun z => by
        rw [z] at ep
        omega
      exact ⟨p, ih p (by omega) (by omega) (by omega), (st_s (by omega) hi ni).mp cp⟩
theorem crk_2 {G : Mem} {s : Int} {n : Nat} (h : CrK G s ((n : Int) + 2)) : ¬ 21 ≤ s ∧ (∃ i, RK G s n i ∧ farG G s i) ∧ ∀ k i, RK G s k i → farG G s i → n ≤ k := by
  rcases h with ⟨a, b⟩ | ⟨a, ⟨e, -⟩ | ⟨k, i, h1, h2, e, h4⟩⟩
  · omega
  · omega
  · have ek : k = n := by omega
    rw [ek] at h1 h4
    exact ⟨a, ⟨i, h1, h2⟩, h4⟩
theorem near_n {G : Mem} {s : Int} {n k i : Nat} (h : CrK G s ((n : Int) + 2)) (hf : RF G s k i) (hn : nearG G s i) : n ≤ k := by
  obtain ⟨q, a, b⟩ := rf_rev (j := 0) hf hn
  have z := (crk_2 h).2.2 _ _ a b
  omega
theorem far_40 {G : Mem} {s : Int} {n : Nat} {sC : Nat → Int} (hG : GdF G) (hs : 0 ≤ s) (h : Bend 42 (fun j => j = 41) (stC G s) sC) (hf : CrK G s ((n : Int) + 2)) : sC 40 = -1 ∨ (n : Int) + 3 ≤ sC 40 := by
  have hk := rf_c2 hG hs h
  obtain ⟨h1, h2, h3, h4⟩ := h
  rcases h1 40 (by omega) with z | z
  · exact Or.inl z
  · by_cases c : (n : Int) + 3 ≤ sC 40
    · exact Or.inr c
    · have n1 : ¬ sC 40 = 1 := fun e => by
        have q : (40 : Nat) = 41 := (h2 40 (by omega)).mp e
        omega
      obtain ⟨p, hp, ep, cp⟩ := h3 40 (by omega) (by omega)
      by_cases c41 : p = 41
      · rw [c41] at cp
        exact absurd (st_fb cp) (crk_2 hf).1
      · have c40 : ¬ p = 40 := fun q => by
          rw [q] at ep
          omega
        have hp4 : p < 40 := by omega
        have n2 : ¬ sC p = 1 := fun e => c41 ((h2 p hp).mp e)
        obtain ⟨k, ek⟩ : ∃ k : Nat, sC p = (k : Int) + 2 := ⟨(sC p - 2).toNat, by omega⟩
        have r := hk.2 k p hp4 ek (by omega)
        have y := near_n hf r (st_nb hG hp4 cp)
        omega
theorem xf_c {G : Mem} {s : Int} {n k i : Nat} {sC : Nat → Int} (hG : GdF G) (hs : 0 ≤ s) (h : Bend 42 (fun j => j = 41) (stC G s) sC) (hf : CrK G s ((n : Int) + 2)) (hk : k ≤ n) (hi : i < 40) : sC i = (k : Int) + 2 ↔ XF G s k i := by
  have r := rf_c2 hG hs h
  have f := far_40 hG hs h hf
  refine ⟨fun z => ⟨r.2 k i hi z (by omega), fun k' h' q => ?_⟩, fun z => ?_⟩
  · have := (r.1 k' i q).2
    omega
  · have a := r.1 k i z.1
    have b := (h.1 i (by omega)).resolve_left a.1
    have n1 : ¬ sC i = 1 := fun e => by
      have q : i = 41 := (h.2.1 i (by omega)).mp e
      omega
    by_cases c : sC i = (k : Int) + 2
    · exact c
    · exact absurd (r.2 (sC i - 2).toNat i hi (by omega) (by omega)) (z.2 _ (by omega))
/-! the least row -/
def SlI (G : Mem) (s : Int) (n : Nat) (y0 : Int) (y : Int32) (k : Nat) : Prop := (k = 0 ∧ y.toInt = y0) ∨ ∃ t, k = t + 1 ∧ (0 ≤ y.toInt ∧ y.toInt < 40) ∧ LrP G s n t (ix y)
/-- what may come next -/
def NxP (G : Mem) (s : Int) (n k p j : Nat) : Prop := XF G s (n - k) j ∧ (k = 0 → nearG G s j) ∧ (¬ k = 0 → adjG G s p j)
theorem nx_d {G : Mem} {s : Int} {n k p j : Nat} (h : NxP G s n k p j) : j < 40 := (rf_d h.1.1).1.1
theorem nx_on {G : Mem} {s y0 : Int} {n k : Nat} {y : Int32} (hf : CrK G s ((n : Int) + 2)) (h : SlI G s n y0 y k) (hk : k ≤ n) : ∃ j, NxP G s n k (ix y) j := by
  rcases h with ⟨e, -⟩ | ⟨t, e, -, hl⟩
  · obtain ⟨i, h1, h2⟩ := (crk_2 hf).2.1
    obtain ⟨q, a, b⟩ := rk_rev (j := 0) h1 h2
    rw [Nat.zero_add] at a
    refine ⟨q, ⟨by rw [e]; exact a, fun k' h' z => ?_⟩, fun _ => b, fun z => absurd e z⟩
    have := near_n hf z b
    omega
  · have x := lr_x hl
    rw [show n - t = (n - k) + 1 from by omega] at x
    obtain ⟨j, a, b⟩ := lr_on x
    exact ⟨j, b, fun z => by omega, fun _ => a⟩
theorem sl_up {G : Mem} {s y0 : Int} {n k : Nat} {y r : Int32} (h : SlI G s n y0 y k) (hr : 0 ≤ r.toInt ∧ r.toInt < 40) (hn : NxP G s n k (ix y) (ix r)) (hl : ∀ j, j < ix r → ¬ NxP G s n k (ix y) j) : SlI G s n y0 r (k + 1) := by
  refine Or.inr ⟨k, rfl, hr, ?_⟩
  rcases h with ⟨e, -⟩ | ⟨t, e, -, hp⟩
  · subst e
    exact ⟨⟨hn.2.1 rfl, hn.1⟩, fun j hj z => hl j hj ⟨z.2, fun _ => z.1, fun q => absurd rfl q⟩⟩
  · subst e
    exact ⟨ix y, hp, ⟨hn.2.2 (by omega), hn.1⟩, fun j hj z => hl j hj ⟨z.2, fun q => by omega, fun _ => z.1⟩⟩
theorem sl_end {G : Mem} {s y0 : Int} {n k : Nat} {y : Int32} {w : Nat} (h : SlI G s n y0 y k) (e : k = w + 1) : ∃ i : Nat, y.toInt = (i : Int) ∧ LrP G s n w i := by
  rcases h with ⟨e2, -⟩ | ⟨t, e2, hy, hp⟩
  · omega
  · have et : t = w := by omega
    rw [et] at hp
    exact ⟨ix y, (t_ixn y hy.1).symm, hp⟩
/-- what is answered -/
def CsQ (G : Mem) (s w r : Int) : Prop := ∃ f, CrK G s f ∧ ((f = -1 ∧ r = -2) ∨ (¬ f = -1 ∧ ((w = 100 ∧ r = f) ∨ (w = 101 ∧ RwP G s f r) ∨ ((¬ w = 100 ∧ ¬ w = 101) ∧ f - 1 ≤ w ∧ r = -4) ∨ ((¬ w = 100 ∧ ¬ w = 101) ∧ w < f - 1 ∧ ∃ i : Nat, r = (i : Int) ∧ LrP G s (f - 2).toNat w.toNat i))))
theorem cs_fn {G : Mem} {s w r r' : Int} (h : CsQ G s w r) (h' : CsQ G s w r') : r = r' := by
  obtain ⟨f, a, b⟩ := h
  obtain ⟨f', a', b'⟩ := h'
  have e := crk_fn a a'
  subst e
  rcases b with ⟨b1, b2⟩ | ⟨b1, b2⟩ <;> rcases b' with ⟨d1, d2⟩ | ⟨d1, d2⟩
  · omega
  · exact absurd b1 d1
  · exact absurd d1 b1
  · rcases b2 with ⟨p1, p2⟩ | ⟨p1, p2⟩ | ⟨p1, p2, p3⟩ | ⟨p1, p2, i, p3, p4⟩ <;> rcases d2 with ⟨q1, q2⟩ | ⟨q1, q2⟩ | ⟨q1, q2, q3⟩ | ⟨q1, q2, i', q3, q4⟩
    · omega
    · omega
    · exact absurd p1 q1.1
    · exact absurd p1 q1.1
    · omega
    · exact rwp_fn p2 q2
    · exact absurd p1 q1.2
    · exact absurd p1 q1.2
    · exact absurd q1 p1.1
    · exact absurd q1 p1.2
    · omega
    · omega
    · exact absurd q1 p1.1
    · exact absurd q1 p1.2
    · omega
    · rw [p3, q3, lr_fn p4 q4]
def CsW (w : Int32) : Prop := (0 ≤ w.toInt ∧ w.toInt < 40) ∨ w.toInt = 100 ∨ w.toInt = 101
theorem ff_cs {MC MM : Mem} {r r' v w : Int32} (h : FF MC MM) (hq : QQ MC MM) (hP : PP MC MM) (h1 : PqP (TpC MC v ∧ CsW w) (CsQ (FdC MC 1) (MC 43 (ix v)).toInt w.toInt r.toInt) r) (h2 : PqP (TpR MM v ∧ CsW w) (CsQ (FdR MM 1) (MM 4 (ix v)).toInt w.toInt r'.toInt) r') : r = r' := pq_fn h1 h2 ⟨fun z => ⟨(tp_iff hP).mp z.1, z.2⟩, fun z => ⟨(tp_iff hP).mpr z.1, z.2⟩⟩ (fun t a b => by
  rw [h.1.1, qq_e hq t.1] at a
  exact t_of (cs_fn a b))
/-! the reference's rows -/
def LrA (S : Nat → Int) (f : Nat → Int32) (n : Nat) : Prop := ∀ j, j < n → (S j = 1 → f j = nI 1) ∧ (¬ S j = 1 → f j = nI 0)
theorem lra_s {S : Nat → Int} {f g : Nat → Int32} {n : Nat} {v : Int32} (h : LrA S f n) (e : g = upd f n v) (hv : (S n = 1 ∧ v = nI 1) ∨ (¬ S n = 1 ∧ v = nI 0)) : LrA S g (n + 1) := fun j hj => by
  by_cases c : j = n
  · rw [c, e, upd_e]
    rcases hv with ⟨a, b⟩ | ⟨a, b⟩
    · exact ⟨fun _ => b, fun z => absurd a z⟩
    · exact ⟨fun z => absurd z a, fun _ => b⟩
  · rw [e, upd_o c]
    exact h j (by omega)
/-- rings ahead of d are done, of ring d the places ahead of n, of place n the sum ahead of m -/
def ZR (G : Mem) (s : Int) (S : Nat → Int) (d i m : Nat) : Nat := sQ (fun j => if S j = (d : Int) + 1 then Wf G s 40 d j * lkN G s j i else 0) m
def LvI (G : Mem) (s : Int) (S : Nat → Int) (f : Nat → Int32) (d n : Nat) : Prop := ∀ i, i < 40 → (∀ k : Nat, S i = (k : Int) + 1 → k ≤ d → (f i).toInt = ((sat (Wf G s 40 k i) : Nat) : Int)) ∧ (S i = (d : Int) + 2 → i < n → (f i).toInt = ((sat (Wf G s 40 (d + 1) i) : Nat) : Int)) ∧ (S i = (d : Int) + 2 → n ≤ i → (f i).toInt = 0) ∧ ((d : Int) + 2 < S i → (f i).toInt = 0)
theorem lv_0 {G : Mem} {s : Int} {S : Nat → Int} {f : Nat → Int32} (h : LrA S f 40) (hS : Bend 40 (farG G s) (adjG G s) S) : LvI G s S f 0 0 := fun i hi => by
  have z := h i hi
  refine ⟨fun k e hk => ?_, fun _ q => absurd q (Nat.not_lt_zero _), fun e _ => ?_, fun e => ?_⟩
  · have k0 : k = 0 := by omega
    subst k0
    have e1 : S i = 1 := by omega
    rw [z.1 e1]
    show _ = ((sat (fN G s i) : Nat) : Int)
    rw [fn_y ((hS.2.1 i hi).mp e1)]
    decide
  · rw [z.2 (by omega)]
    exact nI0
  · rw [z.2 (by omega)]
    exact nI0
theorem lv_n {G : Mem} {s : Int} {S : Nat → Int} {f : Nat → Int32} {d n : Nat} (h : LvI G s S f d n) (hn : ¬ S n = (d : Int) + 2) : LvI G s S f d (n + 1) := fun i hi => by
  have z := h i hi
  refine ⟨z.1, fun e q => ?_, fun e q => z.2.2.1 e (by omega), z.2.2.2⟩
  by_cases c : i = n
  · rw [c] at e
    exact absurd e hn
  · exact z.2.1 e (by omega)
theorem lv_d {G : Mem} {s : Int} {S : Nat → Int} {f : Nat → Int32} {d : Nat} (h : LvI G s S f d 40) : LvI G s S f (d + 1) 0 := fun i hi => by
  have z := h i hi
  refine ⟨fun k e hk => ?_, fun _ q => absurd q (Nat.not_lt_zero _), fun e _ => z.2.2.2 (by omega), fun e => z.2.2.2 (by omega)⟩
  by_cases c : k = d + 1
  · rw [c]
    exact z.2.1 (by omega) hi
  · exact z.1 k e (by omega)
/-- inside: of place n the sum ahead of m; f0: as it was -/
def LvJ (G : Mem) (s : Int) (S : Nat → Int) (f0 f : Nat → Int32) (d n m : Nat) : Prop := (∀ i, ¬ i = n → f i = f0 i) ∧ (f n).toInt = ((sat (ZR G s S d n m) : Nat) : Int)
theorem lj_0 {G : Mem} {s : Int} {S : Nat → Int} {f : Nat → Int32} {d n : Nat} (h : LvI G s S f d n) (hn : n < 40) (e : S n = (d : Int) + 2) : LvJ G s S f f d n 0 := ⟨fun _ _ => rfl, by
  rw [(h n hn).2.2.1 e (Nat.le_refl _)]
  show (0 : Int) = ((sat 0 : Nat) : Int)
  decide⟩
theorem lj_n {G : Mem} {s : Int} {S : Nat → Int} {f0 f : Nat → Int32} {d n m : Nat} (h : LvJ G s S f0 f d n m) (hm : ¬ S m = (d : Int) + 1 ∨ ¬ adjG G s n m) : LvJ G s S f0 f d n (m + 1) := by
  refine ⟨h.1, ?_⟩
  rw [h.2]
  show _ = ((sat (ZR G s S d n m + (if S m = (d : Int) + 1 then Wf G s 40 d m * lkN G s m n else 0)) : Nat) : Int)
  rcases hm with c | c
  · rw [if_neg c, Nat.add_zero]
  · rw [lk_n9 (fun z => c (adj_sy z)), Nat.mul_zero]
    by_cases q : S m = (d : Int) + 1
    · rw [if_pos q, Nat.add_zero]
    · rw [if_neg q, Nat.add_zero]
theorem lj_y {G : Mem} {s : Int} {S : Nat → Int} {f0 f g : Nat → Int32} {d n m : Nat} {v : Int32} (h : LvJ G s S f0 f d n m) (hI : LvI G s S f0 d n) (hm : m < 40) (e : S m = (d : Int) + 1) (nm : ¬ m = n) (ha : adjG G s n m) (eg : g = upd f n v) (hv : v.toInt = min 1000000000 ((f n).toInt + (f m).toInt)) : LvJ G s S f0 g d n (m + 1) := by
  refine ⟨fun i hi => ?_, ?_⟩
  · rw [eg, upd_o hi]
    exact h.1 i hi
  · rw [eg, upd_e, hv, h.2, h.1 m nm, (hI m hm).1 d e (Nat.le_refl _), sat_2]
    show _ = ((sat (ZR G s S d n m + (if S m = (d : Int) + 1 then Wf G s 40 d m * lkN G s m n else 0)) : Nat) : Int)
    rw [if_pos e, lk_y9 (adj_sy ha), Nat.mul_one]
theorem lj_b {G : Mem} {s : Int} {S : Nat → Int} {f0 f : Nat → Int32} {d n m : Nat} (h : LvJ G s S f0 f d n m) (hI : LvI G s S f0 d n) {j : Nat} (hj : j < 40) (e : S j = (d : Int) + 1) (nj : ¬ j = n) : (0 ≤ (f n).toInt ∧ (f n).toInt ≤ 1000000000) ∧ 0 ≤ (f j).toInt ∧ (f j).toInt ≤ 1000000000 := by
  rw [h.2, h.1 j nj, (hI j hj).1 d e (Nat.le_refl _)]
  exact ⟨sat_r _, sat_r _⟩
theorem lj_e {G : Mem} {s : Int} {S : Nat → Int} {f0 f : Nat → Int32} {d n : Nat} (h : LvJ G s S f0 f d n 40) (hI : LvI G s S f0 d n) (hS : Bend 40 (farG G s) (adjG G s) S) (hn : n < 40) (e : S n = (d : Int) + 2) : LvI G s S f d (n + 1) := fun i hi => by
  by_cases c : i = n
  · subst c
    have hz : ZR G s S d i 40 = Wf G s 40 (d + 1) i := zq_cg (fun j hj => by
      show (if S j = (d : Int) + 1 then Wf G s 40 d j * lkN G s j i else 0) = Wf G s 40 d j * lkN G s j i
      by_cases q : S j = (d : Int) + 1
      · rw [if_pos q]
      · rw [if_neg q]
        by_cases a : adjG G s j i
        · have z1 : Wf G s 40 d j = 0 := zn_0 (fun z => by
            have y := (rf_r hS).1 d j (wf_k z)
            have x := (hS.2.2.2 j i hj hi y.1 a).2
            omega)
          rw [z1, Nat.zero_mul]
        · rw [lk_n9 a, Nat.mul_zero])
    have h2 := h.2
    rw [hz] at h2
    exact ⟨fun k ek hk => by omega, fun _ _ => h2, fun _ q => by omega, fun q => by omega⟩
  · have z := hI i hi
    rw [h.1 i c]
    exact ⟨z.1, fun e2 q => z.2.1 e2 (by omega), fun e2 q => z.2.2.1 e2 (by omega), z.2.2.2⟩
theorem lv_e {G : Mem} {s : Int} {S : Nat → Int} {f : Nat → Int32} (h : LvI G s S f 39 0) : ∀ (i k : Nat), i < 40 → S i = (k : Int) + 1 → k ≤ 39 → (f i).toInt = ((sat (Wf G s 40 k i) : Nat) : Int) := fun i k hi e hk => (h i hi).1 k e hk
/-- the sum over the stones by the near bank -/
def NrS (G : Mem) (s : Int) (S : Nat → Int) (d n : Nat) : Nat := sQ (fun i => if S i = (d : Int) + 1 then nN G s i * Wf G s 40 d i else 0) n
theorem nr_n {G : Mem} {s : Int} {S : Nat → Int} {d n : Nat} {y : Int32} (h : y.toInt = ((sat (NrS G s S d n) : Nat) : Int)) (hm : ¬ S n = (d : Int) + 1 ∨ ¬ nearG G s n) : y.toInt = ((sat (NrS G s S d (n + 1)) : Nat) : Int) := by
  rw [h]
  show _ = ((sat (NrS G s S d n + (if S n = (d : Int) + 1 then nN G s n * Wf G s 40 d n else 0)) : Nat) : Int)
  rcases hm with c | c
  · rw [if_neg c, Nat.add_zero]
  · rw [nn_n c, Nat.zero_mul]
    by_cases q : S n = (d : Int) + 1
    · rw [if_pos q, Nat.add_zero]
    · rw [if_neg q, Nat.add_zero]
theorem nr_y {G : Mem} {s : Int} {S : Nat → Int} {d n : Nat} {y x v : Int32} (h : y.toInt = ((sat (NrS G s S d n) : Nat) : Int)) (e : S n = (d : Int) + 1) (hn : nearG G s n) (hx : x.toInt = ((sat (Wf G s 40 d n) : Nat) : Int)) (hv : v.toInt = min 1000000000 (y.toInt + x.toInt)) : v.toInt = ((sat (NrS G s S d (n + 1)) : Nat) : Int) := by
  rw [hv, h, hx, sat_2]
  show _ = ((sat (NrS G s S d n + (if S n = (d : Int) + 1 then nN G s n * Wf G s 40 d n else 0)) : Nat) : Int)
  rw [if_pos e, nn_y hn, Nat.one_mul]
theorem nr_e {G : Mem} {s : Int} {S : Nat → Int} {n : Nat} (hS : Bend 40 (farG G s) (adjG G s) S) (hf : CrK G s ((n : Int) + 2)) : NrS G s S n 40 = sQ (fun i => Wn G s 40 n i * fN G s i) 40 := by
  rw [w_eq]
  refine zq_cg (fun i hi => ?_)
  show (if S i = (n : Int) + 1 then nN G s i * Wf G s 40 n i else 0) = nN G s i * Wf G s 40 n i
  by_cases q : S i = (n : Int) + 1
  · rw [if_pos q]
  · rw [if_neg q]
    by_cases a : nearG G s i
    · have z1 : Wf G s 40 n i = 0 := zn_0 (fun z => by
        have y := (rf_r hS).1 n i (wf_k z)
        have b := (hS.1 i hi).resolve_left y.1
        have r := (rf_r hS).2 (S i - 1).toNat i hi (by omega)
        have x := near_n hf r a
        omega)
      rw [z1, Nat.mul_zero]
    · rw [nn_n a, Nat.zero_mul]
theorem mn_s {a b v : Int32} (hb : (0 ≤ a.toInt ∧ a.toInt ≤ 1000000000) ∧ 0 ≤ b.toInt ∧ b.toInt ≤ 1000000000) (hv : v.toInt = min (nI 1000000000).toInt (a + b).toInt) : v.toInt = min 1000000000 (a.toInt + b.toInt) := by
  have t := t_add a b
  rw [hv, t_lit 1000000000]
  omega
theorem lo_nx {P : Nat → Prop} {n : Nat} (h : ∀ j, j < n → ¬ P j) (hn : ¬ P n) : ∀ j, j < n + 1 → ¬ P j := fun j hj => by
  by_cases c : j = n
  · rw [c]
    exact hn
  · exact h j (by omega)
theorem sl_42 {G : Mem} {s : Int} {n k : Nat} {y : Int32} (h : SlI G s n 40 y k) : 0 ≤ y.toInt ∧ y.toInt < 42 := by
  rcases h with ⟨-, e⟩ | ⟨t, -, e, -⟩ <;> omega
theorem sl_p {G : Mem} {s y0 : Int} {n k : Nat} {y : Int32} (h : SlI G s n y0 y k) (hk : ¬ k = 0) : 0 ≤ y.toInt ∧ y.toInt < 40 := by
  rcases h with ⟨e, -⟩ | ⟨t, -, e, -⟩
  · exact absurd e hk
  · exact e
theorem nx_c {G M : Mem} {s : Int} {n k j : Nat} {y : Int32} (hG : GdF G) (hs : 0 ≤ s) (h : Bend 42 (fun j => j = 41) (stC G s) (SPm M 25)) (v : VLm M 25) (hf : CrK G s ((n : Int) + 2)) (hk : k ≤ n) (hl : SlI G s n 40 y k) : (j < 40 ∧ (M 25 j).toInt = ((n - k : Nat) : Int) + 1 ∧ stC G s (ix y) j) ↔ NxP G s n k (ix y) j := by
  have e : ∀ i, i < 40 → ∀ d : Nat, ((M 25 i).toInt = (d : Int) + 1 ↔ SPm M 25 i = (d : Int) + 2) := fun i hi d => by
    have a := (v i (by omega)).1
    unfold SPm sp
    by_cases c : (M 25 i).toInt = -1
    · rw [if_pos c]
      omega
    · rw [if_neg c]
      omega
  have x : ∀ i, i < 40 → ((M 25 i).toInt = ((n - k : Nat) : Int) + 1 ↔ XF G s (n - k) i) := fun i hi => (e i hi (n - k)).trans (xf_c hG hs h hf (Nat.sub_le _ _) hi)
  rcases hl with ⟨e0, ey⟩ | ⟨t, et, hy, hp⟩
  · have iy : ix y = 40 := (ix_eq (by omega) (by omega)).mpr ey
    rw [iy]
    refine ⟨fun z => ⟨(x j z.1).mp z.2.1, fun _ => (st_n hG hs z.1).mp z.2.2, fun q => absurd e0 q⟩, fun z => ?_⟩
    have hj := nx_d z
    exact ⟨hj, (x j hj).mpr z.1, (st_n hG hs hj).mpr (z.2.1 e0)⟩
  · have iy := ix40 hy.1 hy.2
    have xp := lr_x hp
    have ne : ∀ i, XF G s (n - k) i → ¬ ix y = i := fun i z q => by
      rw [q] at xp
      exact xp.2 (n - k) (by omega) z.1
    refine ⟨fun z => ?_, fun z => ?_⟩
    · have xj := (x j z.1).mp z.2.1
      exact ⟨xj, fun q => by omega, fun _ => (st_s iy z.1 (ne j xj)).mp z.2.2⟩
    · have hj := nx_d z
      exact ⟨hj, (x j hj).mpr z.1, (st_s iy hj (ne j z.1)).mpr (z.2.2 (by omega))⟩
theorem nx_up {G : Mem} {s : Int} {n k p j9 : Nat} {y : Int32} (h : 0 ≤ y.toInt ∧ y.toInt ≤ (j9 : Int) ∧ ∀ j, j < ix y → ¬ NxP G s n k p j) (h9 : NxP G s n k p j9) (hn : ¬ NxP G s n k p (ix y)) : 0 ≤ (y + nI 1).toInt ∧ (y + nI 1).toInt ≤ (j9 : Int) ∧ ∀ j, j < ix (y + nI 1) → ¬ NxP G s n k p j := by
  obtain ⟨h1, h2, h3⟩ := h
  have hj := nx_d h9
  have u := i_up (x := y) (by omega)
  have e := t_ixn y h1
  have ne : ¬ ix y = j9 := fun z => hn (by rw [z]; exact h9)
  rw [u.1, u.2]
  exact ⟨by omega, by omega, lo_nx h3 hn⟩
