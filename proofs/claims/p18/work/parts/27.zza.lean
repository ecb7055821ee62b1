/-! ways over stones and banks -/
def dd (a b : Int) : Int := a * a + b * b
def dryG (G : Mem) (i : Nat) : Prop := (i < 40 ∧ tld G i) ∧ (G 5 i).toInt = 0
def adjG (G : Mem) (s : Int) (i j : Nat) : Prop := dryG G i ∧ dryG G j ∧ dd ((G 1 i).toInt - (G 1 j).toInt) ((G 2 i).toInt - (G 2 j).toInt) ≤ s * s
def nearG (G : Mem) (s : Int) (i : Nat) : Prop := dryG G i ∧ (G 2 i).toInt ≤ s
def farG (G : Mem) (s : Int) (i : Nat) : Prop := dryG G i ∧ 21 - (G 2 i).toInt ≤ s
def hgt (G : Mem) (n : Nat) : Int := if n = 41 then 21 else if n < 40 then (G 2 n).toInt else 0
def alG (G : Mem) (n : Nat) (x : Int) : Int := if n < 40 then (G 1 n).toInt - x else 0
def stF (G : Mem) (s : Int) (n : Nat) (x y : Int) : Prop := dd (alG G n x) (hgt G n - y) ≤ s * s
def stC (G : Mem) (s : Int) (i j : Nat) : Prop := ¬ i = j ∧ (i = 40 ∨ i = 41 ∨ dryG G i) ∧ ((dryG G j ∧ stF G s i (G 1 j).toInt (G 2 j).toInt) ∨ ((j = 40 ∨ j = 41) ∧ hgt G i - hgt G j ≤ s ∧ hgt G j - hgt G i ≤ s))
def RK (G : Mem) (s : Int) : Nat → Nat → Prop
  | 0, i => nearG G s i
  | k + 1, i => ∃ j, RK G s k j ∧ adjG G s j i
theorem rk_d {G : Mem} {s : Int} : ∀ {k i : Nat}, RK G s k i → dryG G i
  | 0, _, h => h.1
  | _ + 1, _, ⟨_, _, h⟩ => h.2.1
theorem sq_le {a b : Int} (h0 : 0 ≤ a) (h : a ≤ b) : a * a ≤ b * b := Int.mul_le_mul h h h0 (by omega)
theorem sq_lt {a b : Int} (h0 : 0 ≤ a) (h : a < b) : a * a < b * b := by
  have z := sq_le (a := a + 1) (b := b) (by omega) (by omega)
  rw [Int.add_mul, Int.mul_add, Int.one_mul, Int.mul_one] at z
  omega
theorem sq_iff {a b : Int} (h0 : 0 ≤ a) (hb : 0 ≤ b) : a * a ≤ b * b ↔ a ≤ b := by
  refine ⟨fun z => ?_, sq_le h0⟩
  by_cases c : a ≤ b
  · exact c
  · have := sq_lt hb (show b < a by omega)
    omega
theorem dd_0 (b : Int) : dd 0 b = b * b := by
  unfold dd
  omega
theorem sq_neg (a : Int) : (0 - a) * (0 - a) = a * a := by rw [Int.zero_sub, Int.neg_mul_neg]
theorem hg_s {G : Mem} {n : Nat} (h : n < 40) : hgt G n = (G 2 n).toInt := by
  unfold hgt
  rw [if_neg (by omega), if_pos h]
theorem hg_40 {G : Mem} : hgt G 40 = 0 := by
  unfold hgt
  rw [if_neg (by omega), if_neg (by omega)]
theorem hg_41 {G : Mem} : hgt G 41 = 21 := if_pos rfl
theorem al_s {G : Mem} {n : Nat} {x : Int} (h : n < 40) : alG G n x = (G 1 n).toInt - x := if_pos h
theorem al_b {G : Mem} {n : Nat} {x : Int} (h : ¬ n < 40) : alG G n x = 0 := if_neg h
theorem dry_b {G : Mem} {i : Nat} (hG : GdF G) (h : dryG G i) : (0 ≤ (G 1 i).toInt ∧ (G 1 i).toInt ≤ 39) ∧ 1 ≤ (G 2 i).toInt ∧ (G 2 i).toInt ≤ 20 := by
  have z := hG.2.2 i h.1.1 h.1.2
  exact ⟨z.1, z.2.1⟩
/-! steps of the class -/
theorem st_n {G : Mem} {s : Int} {j : Nat} (hG : GdF G) (hs : 0 ≤ s) (hj : j < 40) : stC G s 40 j ↔ nearG G s j := by
  unfold stC nearG stF
  rw [al_b (by omega), hg_40, dd_0]
  refine ⟨fun h => ?_, fun h => ⟨by omega, Or.inl rfl, Or.inl ⟨h.1, ?_⟩⟩⟩
  · rcases h.2.2 with z | z
    · refine ⟨z.1, ?_⟩
      have y := z.2
      rw [sq_neg] at y
      exact (sq_iff (by have := (dry_b hG z.1).2; omega) hs).mp y
    · omega
  · rw [sq_neg]
    exact (sq_iff (by have := (dry_b hG h.1).2; omega) hs).mpr h.2
theorem st_f {G : Mem} {s : Int} {i : Nat} (hG : GdF G) (hs : 0 ≤ s) (hi : i < 40) : stC G s i 41 ↔ farG G s i := by
  unfold stC farG
  rw [hg_41, hg_s hi]
  refine ⟨fun h => ?_, fun h => ⟨by omega, Or.inr (Or.inr h.1), Or.inr ⟨Or.inr rfl, by have := (dry_b hG h.1).2; omega, h.2⟩⟩⟩
  rcases h.2.2 with z | z
  · exact absurd z.1.1.1 (by omega)
  · exact ⟨h.2.1.elim (fun q => absurd q (by omega)) (fun q => q.elim (fun q => absurd q (by omega)) id), z.2.2⟩
theorem st_s {G : Mem} {s : Int} {i j : Nat} (hi : i < 40) (hj : j < 40) (hn : ¬ i = j) : stC G s i j ↔ adjG G s i j := by
  unfold stC adjG stF
  rw [al_s hi, hg_s hi]
  refine ⟨fun h => ?_, fun h => ⟨hn, Or.inr (Or.inr h.1), Or.inl ⟨h.2.1, h.2.2⟩⟩⟩
  rcases h.2.2 with z | z
  · exact ⟨h.2.1.elim (fun q => absurd q (by omega)) (fun q => q.elim (fun q => absurd q (by omega)) id), z.1, z.2⟩
  · omega
theorem st_b {G : Mem} {s : Int} : stC G s 40 41 ↔ 21 ≤ s := by
  unfold stC
  rw [hg_40, hg_41]
  refine ⟨fun h => ?_, fun h => ⟨by omega, Or.inl rfl, Or.inr ⟨Or.inr rfl, by omega, by omega⟩⟩⟩
  rcases h.2.2 with z | z
  · exact absurd z.1.1.1 (by omega)
  · omega
/-! rings and rows of steps -/
theorem rk_r {G : Mem} {s : Int} {sR : Nat → Int} (h : Bend 40 (nearG G s) (adjG G s) sR) : (∀ k i, RK G s k i → ¬ sR i = -1 ∧ sR i ≤ (k : Int) + 1) ∧ ∀ k i : Nat, i < 40 → sR i = (k : Int) + 1 → RK G s k i := by
  obtain ⟨h1, h2, h3, h4⟩ := h
  refine ⟨fun k => ?_, fun k => ?_⟩
  · induction k with
    | zero =>
      intro i hi
      have z := (h2 i (rk_d hi).1.1).mpr hi
      omega
    | succ k ih =>
      intro i hi
      obtain ⟨j, hj, ha⟩ := hi
      have z := ih j hj
      have y := h4 j i ha.1.1.1 ha.2.1.1.1 z.1 ha
      omega
  · induction k with
    | zero => exact fun i hi e => (h2 i hi).mp (by omega)
    | succ k ih =>
      intro i hi e
      obtain ⟨p, hp, ep, cp⟩ := h3 i hi (by omega)
      exact ⟨p, ih p hp (by omega), cp⟩
theorem rk_c {G : Mem} {s : Int} {sC : Nat → Int} (hG : GdF G) (hs : 0 ≤ s) (h : Bend 42 (fun j => j = 40) (stC G s) sC) : (∀ k i, RK G s k i → ¬ sC i = -1 ∧ sC i ≤ (k : Int) + 2) ∧ ∀ k i : Nat, i < 40 → sC i = (k : Int) + 2 → (sC 41 = -1 ∨ (k : Int) + 2 ≤ sC 41) → RK G s k i := by
  obtain ⟨h1, h2, h3, h4⟩ := h
  have e40 : sC 40 = 1 := (h2 40 (by omega)).mpr rfl
  refine ⟨fun k => ?_, fun k => ?_⟩
  · induction k with
    | zero =>
      intro i hi
      have hd := (rk_d hi).1.1
      have z := h4 40 i (by omega) (by omega) (by omega) ((st_n hG hs hd).mpr hi)
      omega
    | succ k ih =>
      intro i hi
      obtain ⟨j, hj, ha⟩ := hi
      have z := ih j hj
      by_cases c : j = i
      · rw [← c]
        omega
      · have y := h4 j i (by have := ha.1.1.1; omega) (by have := ha.2.1.1.1; omega) z.1 ((st_s ha.1.1.1 ha.2.1.1.1 c).mpr ha)
        omega
  · induction k with
    | zero =>
      intro i hi e _
      obtain ⟨p, hp, ep, cp⟩ := h3 i (by omega) (by omega)
      have e1 : p = 40 := (h2 p hp).mp (by omega)
      rw [e1] at cp
      exact (st_n hG hs hi).mp cp
    | succ k ih =>
      intro i hi e hf
      obtain ⟨p, hp, ep, cp⟩ := h3 i (by omega) (by omega)
      have n40 : ¬ p = 40 := fun z => by
        rw [z] at ep
        omega
      have n41 : ¬ p = 41 := fun z => by
        rw [z] at ep
        omega
      have ni : ¬ p = i := fun z => by
        rw [z] at ep
        omega
      exact ⟨p, ih p (by omega) (by omega) (by omega), (st_s (by omega) hi ni).mp cp⟩
/-- the fewest steps across: r; -1: none -/
def CrK (G : Mem) (s r : Int) : Prop := (21 ≤ s ∧ r = 1) ∨ (¬ 21 ≤ s ∧ ((r = -1 ∧ ∀ k i, RK G s k i → ¬ farG G s i) ∨ ∃ k i, RK G s k i ∧ farG G s i ∧ r = (k : Int) + 2 ∧ ∀ k' i', RK G s k' i' → farG G s i' → k ≤ k'))
theorem crk_fn {G : Mem} {s r r' : Int} (h : CrK G s r) (h' : CrK G s r') : r = r' := by
  rcases h with ⟨a, b⟩ | ⟨a, b⟩ <;> rcases h' with ⟨a', b'⟩ | ⟨a', b'⟩
  · omega
  · omega
  · omega
  · rcases b with ⟨b1, b2⟩ | ⟨k, i, b1, b2, b3, b4⟩ <;> rcases b' with ⟨d1, d2⟩ | ⟨k', i', d1, d2, d3, d4⟩
    · omega
    · exact absurd d2 (b2 k' i' d1)
    · exact absurd b2 (d2 k i b1)
    · have := b4 k' i' d1 d2
      have := d4 k i b1 b2
      omega
theorem crk_b {G : Mem} {s r : Int} (h : CrK G s r) : r = -1 ∨ 1 ≤ r := by
  rcases h with ⟨a, b⟩ | ⟨a, ⟨b, -⟩ | ⟨k, i, -, -, b, -⟩⟩ <;> omega
def sp (z : Int) : Int := if z = -1 then -1 else z + 1
theorem sp_1 {z : Int} (h : -1 ≤ z) : sp z = -1 ↔ z = -1 := by
  unfold sp
  by_cases c : z = -1
  · rw [if_pos c]; omega
  · rw [if_neg c]; omega
theorem sp_s {z : Int} (h : ¬ z = -1) : sp z = z + 1 := if_neg h
theorem sp_n : sp (-1) = -1 := by decide
theorem crk_c {G : Mem} {s : Int} {sC : Nat → Int} {z : Int} (hG : GdF G) (hs : 0 ≤ s) (h : Bend 42 (fun j => j = 40) (stC G s) sC) (hz : sC 41 = sp z) (h1 : -1 ≤ z) : CrK G s z := by
  have hk := rk_c hG hs h
  obtain ⟨g1, g2, g3, g4⟩ := h
  have e40 : sC 40 = 1 := (g2 40 (by omega)).mpr rfl
  have n41 : ¬ sC 41 = 1 := fun e => absurd ((g2 41 (by omega)).mp e) (by omega)
  by_cases c : 21 ≤ s
  · refine Or.inl ⟨c, ?_⟩
    have y := g4 40 41 (by omega) (by omega) (by omega) (st_b.mpr c)
    have x := g1 41 (by omega)
    rw [sp_s (fun q => by rw [q, sp_n] at hz; omega)] at hz
    omega
  · refine Or.inr ⟨c, ?_⟩
    by_cases d : z = -1
    · refine Or.inl ⟨d, fun k i hk1 hf => ?_⟩
      rw [d, sp_n] at hz
      have y := (hk.1 k i hk1).1
      have x := g4 i 41 (by have := hf.1.1.1; omega) (by omega) y ((st_f hG hs hf.1.1.1).mpr hf)
      omega
    · rw [sp_s d] at hz
      have x := g1 41 (by omega)
      obtain ⟨p, hp, ep, cp⟩ := g3 41 (by omega) (by omega)
      have m41 : ¬ p = 41 := fun q => by
        rw [q] at ep
        omega
      have m40 : ¬ p = 40 := fun q => by
        rw [q] at cp
        exact c (st_b.mp cp)
      have hp4 : p < 40 := by omega
      have n1 : ¬ sC p = 1 := fun e => m40 ((g2 p hp).mp e)
      obtain ⟨k, hkk⟩ : ∃ k : Nat, sC p = (k : Int) + 2 := ⟨(sC p - 2).toNat, by omega⟩
      have hf := (st_f hG hs hp4).mp cp
      refine Or.inr ⟨k, p, hk.2 k p hp4 hkk (by omega), hf, by omega, fun k' i' h5 h6 => ?_⟩
      have y := hk.1 k' i' h5
      have w := g4 i' 41 (by have := h6.1.1.1; omega) (by omega) y.1 ((st_f hG hs h6.1.1.1).mpr h6)
      omega
/-- of the reference: the least over the stones by the far bank -/
def MnP (F : Nat → Prop) (sR : Nat → Int) (n : Nat) (y : Int) : Prop := (y = -1 ∧ ∀ j, j < n → F j → sR j = -1) ∨ ∃ i, i < n ∧ F i ∧ ¬ sR i = -1 ∧ y = sR i + 1 ∧ ∀ j, j < n → F j → ¬ sR j = -1 → y ≤ sR j + 1
theorem mn_0 {F : Nat → Prop} {sR : Nat → Int} : MnP F sR 0 (-1) := Or.inl ⟨rfl, fun j hj => absurd hj (Nat.not_lt_zero _)⟩
theorem mn_skip {F : Nat → Prop} {sR : Nat → Int} {n : Nat} {y : Int} (h : MnP F sR n y) (hs : sR n = -1 ∨ ¬ F n) : MnP F sR (n + 1) y := by
  rcases h with ⟨a, b⟩ | ⟨i, a, b, d, e, f⟩
  · refine Or.inl ⟨a, fun j hj hF => ?_⟩
    by_cases c : j = n
    · rw [c] at hF ⊢
      exact hs.resolve_right (fun z => z hF)
    · exact b j (by omega) hF
  · refine Or.inr ⟨i, by omega, b, d, e, fun j hj hF hn => ?_⟩
    by_cases c : j = n
    · rw [c] at hF hn
      exact absurd (hs.resolve_right (fun z => z hF)) hn
    · exact f j (by omega) hF hn
theorem mn_keep {F : Nat → Prop} {sR : Nat → Int} {n : Nat} {y : Int} (h : MnP F sR n y) (hy : ¬ y = -1) (hl : y ≤ sR n + 1) : MnP F sR (n + 1) y := by
  rcases h with ⟨a, b⟩ | ⟨i, a, b, d, e, f⟩
  · exact absurd a hy
  · refine Or.inr ⟨i, by omega, b, d, e, fun j hj hF hn => ?_⟩
    by_cases c : j = n
    · rw [c]
      exact hl
    · exact f j (by omega) hF hn
theorem mn_take {F : Nat → Prop} {sR : Nat → Int} {n : Nat} {y : Int} (h : MnP F sR n y) (hF : F n) (hn : ¬ sR n = -1) (hl : y = -1 ∨ sR n + 1 ≤ y) (hb : ∀ j, j < n → sR j = -1 ∨ 1 ≤ sR j) : MnP F sR (n + 1) (sR n + 1) := by
  refine Or.inr ⟨n, by omega, hF, hn, rfl, fun j hj hFj hj2 => ?_⟩
  by_cases c : j = n
  · rw [c]
    omega
  · rcases h with ⟨a, b⟩ | ⟨i, a, b, d, e, f⟩
    · exact absurd (b j (by omega) hFj) hj2
    · have := f j (by omega) hFj hj2
      have g := (hb i a).resolve_left d
      omega
theorem crk_m {G : Mem} {s : Int} {sR : Nat → Int} {r : Int} (hs : ¬ 21 ≤ s) (h : Bend 40 (nearG G s) (adjG G s) sR) (hm : MnP (farG G s) sR 40 r) : CrK G s r := by
  have hk := rk_r h
  refine Or.inr ⟨hs, ?_⟩
  rcases hm with ⟨a, b⟩ | ⟨i, a, b, d, e, f⟩
  · exact Or.inl ⟨a, fun k i h1 h2 => (hk.1 k i h1).1 (b i h2.1.1.1 h2)⟩
  · have x := h.1 i a
    obtain ⟨k, hkk⟩ : ∃ k : Nat, sR i = (k : Int) + 1 := ⟨(sR i - 1).toNat, by omega⟩
    refine Or.inr ⟨k, i, hk.2 k i a hkk, b, by omega, fun k' i' h1 h2 => ?_⟩
    have y := hk.1 k' i' h1
    have z := f i' h2.1.1.1 h2 y.1
    omega
theorem bend_cg {m : Nat} {B B' : Nat → Prop} {C C' : Nat → Nat → Prop} {s : Nat → Int} (h : Bend m B C s) (hB : ∀ j, j < m → (B j ↔ B' j)) (hC : ∀ i j, i < m → j < m → (C i j ↔ C' i j)) : Bend m B' C' s := by
  obtain ⟨h1, h2, h3, h4⟩ := h
  refine ⟨h1, fun j hj => (h2 j hj).trans (hB j hj), fun j hj h => ?_, fun i j hi hj hs hc => h4 i j hi hj hs ((hC i j hi hj).mpr hc)⟩
  obtain ⟨p, hp, e, c⟩ := h3 j hj h
  exact ⟨p, hp, e, (hC p j hp hj).mp c⟩
/-- one node to begin with -/
theorem cN_none {s : Nat → Int} (h : ∀ j, s j = -1) : ∀ m, cN s m = 0
  | 0 => rfl
  | m + 1 => by
    simp only [cN]
    rw [cN_none h m, if_pos (h m)]
theorem bfs_one {m a : Nat} {C : Nat → Nat → Prop} {s : Nat → Int} {q : Nat → Nat} (ha : a < m) (hs : ∀ j, s j = -1) : Bfs m (fun j => j = a) C (pu s a 1) (pu q 0 a) 1 0 := by
  have e : ∀ j, ¬ j = a → pu s a 1 j = -1 := fun j hj => by
    rw [pu_n hj]
    exact hs j
  have ea : pu s a (1 : Int) a = 1 := pu_s
  have eq : pu q 0 a 0 = a := pu_s
  refine ⟨⟨⟨?_, fun t ht => ?_, fun j hj hn => ?_⟩, fun j hj => ?_, fun t t' h1 h2 => ?_, fun j hj => ?_, fun j hj h2 => ?_⟩, by omega, fun t ht => absurd ht (Nat.not_lt_zero _), fun t ht h0 => ?_⟩
  · rw [cN_in (hs a) (by omega) m ha, cN_none hs]
  · rw [show t = 0 from by omega, eq, ea]
    exact ⟨ha, by omega, by omega⟩
  · refine ⟨0, by omega, ?_⟩
    rw [eq]
    by_cases c : j = a
    · exact c.symm
    · exact absurd (e j c) hn
  · by_cases c : j = a
    · rw [c, ea]
      omega
    · rw [e j c]
      omega
  · rw [show t = 0 from by omega, show t' = 0 from by omega]
    exact Int.le_refl _
  · by_cases c : j = a
    · rw [c, ea]
      exact ⟨fun _ => rfl, fun _ => rfl⟩
    · rw [e j c]
      exact ⟨fun z => absurd z (by omega), fun z => absurd z c⟩
  · by_cases c : j = a
    · rw [c, ea] at h2
      omega
    · rw [e j c] at h2
      omega
  · rw [show t = 0 from by omega]
    omega
def SPm (M : Mem) (k : Nat) : Nat → Int := fun j => sp (M k j).toInt
def QUm (M : Mem) : Nat → Nat := fun t => ix (M 26 t)
theorem spm_s {M0 M1 : Mem} {k i : Nat} {v : Int32} (e : M1 = mset M0 k i v) : SPm M1 k = pu (SPm M0 k) i (sp v.toInt) := funext (fun j => by
  unfold SPm pu
  rw [e, mset_get]
  by_cases h : j = i
  · rw [if_pos ⟨rfl, h⟩, if_pos h]
  · rw [if_neg (fun z => h z.2), if_neg h])
theorem spm_o {M0 M1 : Mem} {k a i : Nat} {v : Int32} (e : M1 = mset M0 a i v) (h : ¬ k = a) : SPm M1 k = SPm M0 k := funext (fun j => by
  unfold SPm
  rw [e, mset_ne (by first | exact nz1 (by decide) | exact nz2 (by decide) | exact nz1 (nzA hc0 (by decide)) | exact nz1 (nzE (by decide)) | exact nz1 (nzB hc0 (by decide)) | exact nz1 (nzC hc0 (by decide)) | exact nz1 (nzD hc0 (by decide)) | exact nz1 (nzF (by decide)) | exact nz1 (nzG (by decide)) | omega)])
theorem qum_s {M0 M1 : Mem} {i : Nat} {v : Int32} (e : M1 = mset M0 26 i v) : QUm M1 = pu (QUm M0) i (ix v) := funext (fun j => by
  unfold QUm pu
  rw [e, mset_get]
  by_cases h : j = i
  · rw [if_pos ⟨rfl, h⟩, if_pos h]
  · rw [if_neg (fun z => h z.2), if_neg h])
theorem qum_o {M0 M1 : Mem} {a i : Nat} {v : Int32} (e : M1 = mset M0 a i v) (h : ¬ 26 = a) : QUm M1 = QUm M0 := funext (fun j => by
  unfold QUm
  rw [e, mset_ne (by first | exact nz1 (by decide) | exact nz2 (by decide) | exact nz1 (nzA hc0 (by decide)) | exact nz1 (nzE (by decide)) | exact nz1 (nzB hc0 (by decide)) | exact nz1 (nzC hc0 (by decide)) | exact nz1 (nzD hc0 (by decide)) | exact nz1 (nzF (by decide)) | exact nz1 (nzG (by decide)) | omega)])
/-- values of a row of steps, of the queue -/
def VLm (M : Mem) (k : Nat) : Prop := ∀ j, j < 42 → -1 ≤ (M k j).toInt ∧ (M k j).toInt ≤ 1000
def VQm (M : Mem) (n : Int) : Prop := ∀ t : Nat, (t : Int) < n → 0 ≤ (M 26 t).toInt
theorem vl_set {M0 M1 : Mem} {k i : Nat} {v : Int32} (h : VLm M0 k) (e : M1 = mset M0 k i v) (hv : -1 ≤ v.toInt ∧ v.toInt ≤ 1000) : VLm M1 k := fun j hj => by
  rw [e, mset_get]
  by_cases c : k = k ∧ j = i
  · rw [if_pos c]
    exact hv
  · rw [if_neg c]
    exact h j hj
theorem vl_oth {M0 M1 : Mem} {k a i : Nat} {v : Int32} (h : VLm M0 k) (e : M1 = mset M0 a i v) (ha : ¬ k = a) : VLm M1 k := fun j hj => by
  rw [e, mset_ne (by first | exact nz1 (by decide) | exact nz2 (by decide) | exact nz1 (nzA hc0 (by decide)) | exact nz1 (nzE (by decide)) | exact nz1 (nzB hc0 (by decide)) | exact nz1 (nzC hc0 (by decide)) | exact nz1 (nzD hc0 (by decide)) | exact nz1 (nzF (by decide)) | exact nz1 (nzG (by decide)) | omega)]
  exact h j hj
theorem vq_set {M0 M1 : Mem} {n n' : Int} {i : Nat} {v : Int32} (h : VQm M0 n) (e : M1 = mset M0 26 i v) (hn : (i : Int) = n) (hn' : n' = n + 1) (hv : 0 ≤ v.toInt) : VQm M1 n' := fun t ht => by
  rw [e, mset_get]
  by_cases c : 26 = 26 ∧ t = i
  · rw [if_pos c]
    exact hv
  · rw [if_neg c]
    exact h t (by omega)
theorem vq_oth {M0 M1 : Mem} {n : Int} {a i : Nat} {v : Int32} (h : VQm M0 n) (e : M1 = mset M0 a i v) (ha : ¬ 26 = a) : VQm M1 n := fun t ht => by
  rw [e, mset_ne (by first | exact nz1 (by decide) | exact nz2 (by decide) | exact nz1 (nzA hc0 (by decide)) | exact nz1 (nzE (by decide)) | exact nz1 (nzB hc0 (by decide)) | exact nz1 (nzC hc0 (by decide)) | exact nz1 (nzD hc0 (by decide)) | exact nz1 (nzF (by decide)) | exact nz1 (nzG (by decide)) | omega)]
  exact h t ht
theorem t_ab {x : Int32} (h : -1000 ≤ x.toInt ∧ x.toInt ≤ 1000) : (ab x).toInt = (if 0 ≤ x.toInt then x.toInt else - x.toInt) := by
  unfold ab
  have f := t_sub 0 x
  have f0 : ((0 : Int32)).toInt = 0 := by decide
  by_cases c : (0 : Int32) ≤ x
  · have c2 : 0 ≤ x.toInt := by
      have := r_le.mp c
      omega
    rw [if_pos c, if_pos c2]
  · have c2 : ¬ 0 ≤ x.toInt := fun z => c (r_le.mpr (by omega))
    rw [if_neg c, if_neg c2]
    omega
theorem t_sq {x : Int32} (h : -1000 ≤ x.toInt ∧ x.toInt ≤ 1000) : (x * x).toInt = x.toInt * x.toInt ∧ 0 ≤ x.toInt * x.toInt ∧ x.toInt * x.toInt ≤ 1000000 := by
  have u : x.toInt * x.toInt ≤ 1000000 ∧ 0 ≤ x.toInt * x.toInt := by
    by_cases c : 0 ≤ x.toInt
    · have z := sq_le c h.2
      have y := Int.mul_nonneg c c
      omega
    · have z := sq_le (a := 0 - x.toInt) (b := 1000) (by omega) (by omega)
      have y := Int.mul_nonneg (a := 0 - x.toInt) (b := 0 - x.toInt) (by omega) (by omega)
      rw [sq_neg] at z y
      omega
  exact ⟨t_mul (by omega), u.2, u.1⟩
theorem t_dd {x y : Int32} (hx : -1000 ≤ x.toInt ∧ x.toInt ≤ 1000) (hy : -1000 ≤ y.toInt ∧ y.toInt ≤ 1000) : (x * x + y * y).toInt = dd x.toInt y.toInt := by
  have a := t_sq hx
  have b := t_sq hy
  have f := t_add (x * x) (y * y)
  unfold dd
  omega
theorem ix42 {v : Int32} (h0 : 0 ≤ v.toInt) (h : v.toInt < 42) : ix v < 42 := by
  have e := t_ixn v h0
  omega
theorem ix_eq {v : Int32} {n : Nat} (h0 : 0 ≤ v.toInt) (hn : n < 1000) : ix v = n ↔ v.toInt = (n : Int) := by
  have e := t_ixn v h0
  omega
theorem cn_ext2 {s s' : Nat → Int} {m : Nat} (h : ∀ j, j < m → s' j = s j) : cN s' m = cN s m := cN_ext m h
theorem bfs_ext {m : Nat} {B : Nat → Prop} {C : Nat → Nat → Prop} {s s' : Nat → Int} {q q' : Nat → Nat} {n : Nat} (h : Bfs m B C s q n 0) (hs : ∀ j, j < m → s' j = s j) (hq : ∀ t, t < n → q' t = q t) : Bfs m B C s' q' n 0 := by
  obtain ⟨⟨⟨h1, h2, h3⟩, h4, h5, h6, h7⟩, h8, h9, h10⟩ := h
  have sq : ∀ t, t < n → s' (q' t) = s (q t) := fun t ht => by
    rw [hq t ht]
    exact hs _ (h2 t ht).1
  refine ⟨⟨⟨by rw [cn_ext2 hs]; exact h1, fun t ht => ?_, fun j hj hn => ?_⟩, fun j hj => by rw [hs j hj]; exact h4 j hj, fun t t' h11 h12 => ?_, fun j hj => by rw [hs j hj]; exact h6 j hj, fun j hj hj2 => ?_⟩, h8, fun t ht => absurd ht (Nat.not_lt_zero _), fun t ht h0 => ?_⟩
  · have z := h2 t ht
    rw [sq t ht, hq t ht]
    exact z
  · rw [hs j hj] at hn
    obtain ⟨t, ht, e⟩ := h3 j hj hn
    exact ⟨t, ht, (hq t ht).trans e⟩
  · rw [sq t (by omega), sq t' h12]
    exact h5 t t' h11 h12
  · rw [hs j hj] at hj2 ⊢
    obtain ⟨i, hi, e, c⟩ := h7 j hj hj2
    exact ⟨i, hi, by rw [hs i hi]; exact e, c⟩
  · rw [sq t ht, sq 0 (by omega)]
    exact h10 t ht h0
