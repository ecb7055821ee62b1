/-! one more stone -/
theorem za_l {a b c : Prop} (h : a ↔ b) : a ∧ c ↔ b ∧ c := ⟨fun z => ⟨h.mp z.1, z.2⟩, fun z => ⟨h.mpr z.1, z.2⟩⟩
theorem za_2 {a b c d : Prop} (h : a ↔ c) (k : b ↔ d) : a ∧ b ↔ c ∧ d := ⟨fun z => ⟨h.mp z.1, k.mp z.2⟩, fun z => ⟨h.mpr z.1, k.mpr z.2⟩⟩
theorem za_o {a b c : Prop} (h : b ↔ c) : a ∨ b ↔ a ∨ c := ⟨fun z => z.elim Or.inl (fun q => Or.inr (h.mp q)), fun z => z.elim Or.inl (fun q => Or.inr (h.mpr q))⟩
def RF (G : Mem) (s : Int) : Nat → Nat → Prop
  | 0, i => farG G s i
  | k + 1, i => ∃ j, RF G s k j ∧ adjG G s j i
theorem rf_d {G : Mem} {s : Int} : ∀ {k i : Nat}, RF G s k i → dryG G i
  | 0, _, h => h.1
  | _ + 1, _, ⟨_, _, h⟩ => h.2.1
theorem rf_r {G : Mem} {s : Int} {sR : Nat → Int} (h : Bend 40 (farG G s) (adjG G s) sR) : (∀ k i, RF G s k i → ¬ sR i = -1 ∧ sR i ≤ (k : Int) + 1) ∧ ∀ k i : Nat, i < 40 → sR i = (k : Int) + 1 → RF G s k i := by
  obtain ⟨h1, h2, h3, h4⟩ := h
  refine ⟨fun k => ?_, fun k => ?_⟩
  · induction k with
    | zero =>
      intro i hi
      have z := (h2 i (rf_d hi).1.1).mpr hi
      omega
    | succ k ih =>
      intro i hi
      obtain ⟨j, hj, ha⟩ := hi
      have z := ih j hj
      have y := h4 j i ha.1.1.1 ha.2.1.1.1 z.1 ha
      omega
  · induction k with
    | zero => exact fun i hi e => (h2 i hi).mp (by omega)
    | succ k ih =>
      intro i hi e
      obtain ⟨p, hp, ep, cp⟩ := h3 i hi (by omega)
      exact ⟨p, ih p hp (by omega), cp⟩
theorem dd_sy (a b c d : Int) : dd (a - b) (c - d) = dd (b - a) (d - c) := by
  unfold dd
  rw [show a - b = -(b - a) from by omega, show c - d = -(d - c) from by omega, Int.neg_mul_neg, Int.neg_mul_neg]
theorem adj_sy {G : Mem} {s : Int} {i j : Nat} (h : adjG G s i j) : adjG G s j i := ⟨h.2.1, h.1, by
  have z := h.2.2
  rw [dd_sy] at z
  exact z⟩
theorem nc_d {G : Mem} {s : Int} (h : NCr G s) : ¬ 21 ≤ s ∧ ∀ k i, RK G s k i → ¬ farG G s i := by
  rcases h with ⟨a, b⟩ | ⟨a, b⟩
  · omega
  · rcases b with ⟨b1, b2⟩ | ⟨k, i, b1, b2, b3, b4⟩
    · exact ⟨a, b2⟩
    · omega
theorem rf_no {G : Mem} {s : Int} (h : NCr G s) : ∀ {k m i : Nat}, RF G s k i → RK G s m i → False
  | 0, m, i, hf, hk => (nc_d h).2 m i hk hf
  | _ + 1, m, _, ⟨j, hj, ha⟩, hk => rf_no h (m := m + 1) hj ⟨_, hk, adj_sy ha⟩
/-! steps of the class from the far bank -/
theorem st_fn {G : Mem} {s : Int} {j : Nat} (hG : GdF G) (hs : 0 ≤ s) (hj : j < 40) : stC G s 41 j ↔ farG G s j := by
  unfold stC farG stF
  rw [al_b (by omega), hg_41, dd_0]
  refine ⟨fun h => ?_, fun h => ⟨by omega, Or.inr (Or.inl rfl), Or.inl ⟨h.1, ?_⟩⟩⟩
  · rcases h.2.2 with z | z
    · refine ⟨z.1, ?_⟩
      exact (sq_iff (by have := (dry_b hG z.1).2; omega) hs).mp z.2
    · omega
  · exact (sq_iff (by have := (dry_b hG h.1).2; omega) hs).mpr h.2
theorem st_nb {G : Mem} {s : Int} {i : Nat} (hG : GdF G) (hi : i < 40) (h : stC G s i 40) : nearG G s i := by
  unfold stC at h
  rw [hg_40, hg_s hi] at h
  rcases h.2.2 with z | z
  · exact absurd z.1.1.1 (by omega)
  · exact ⟨h.2.1.elim (fun q => absurd q (by omega)) (fun q => q.elim (fun q => absurd q (by omega)) id), by have := z.2.1; omega⟩
theorem st_fb {G : Mem} {s : Int} (h : stC G s 41 40) : 21 ≤ s := by
  unfold stC at h
  rw [hg_40, hg_41] at h
  rcases h.2.2 with z | z
  · exact absurd z.1.1.1 (by omega)
  · have := z.2.1
    omega
theorem rf_c {G : Mem} {s : Int} {sC : Nat → Int} (hG : GdF G) (hs : 0 ≤ s) (hn : NCr G s) (h : Bend 42 (fun j => j = 41) (stC G s) sC) : ∀ i : Nat, i < 40 → (¬ sC i = -1 ↔ ∃ k, RF G s k i) := by
  obtain ⟨h1, h2, h3, h4⟩ := h
  have e41 : sC 41 = 1 := (h2 41 (by omega)).mpr rfl
  have up : ∀ k i, RF G s k i → ¬ sC i = -1 := fun k => by
    induction k with
    | zero =>
      intro i hi
      have hd := (rf_d hi).1.1
      exact (h4 41 i (by omega) (by omega) (by omega) ((st_fn hG hs hd).mpr hi)).1
    | succ k ih =>
      intro i hi
      obtain ⟨j, hj, ha⟩ := hi
      have z := ih j hj
      by_cases c : j = i
      · rw [← c]
        exact z
      · exact (h4 j i (by have := ha.1.1.1; omega) (by have := ha.2.1.1.1; omega) z ((st_s ha.1.1.1 ha.2.1.1.1 c).mpr ha)).1
  have dn : ∀ (n : Nat) (i : Nat), i < 42 → sC i = (n : Int) + 1 → (i < 40 → ∃ k, RF G s k i) ∧ ¬ i = 40 := fun n => by
    induction n with
    | zero =>
      intro i hi e
      have z : i = 41 := (h2 i hi).mp (by omega)
      exact ⟨fun q => by omega, by omega⟩
    | succ n ih =>
      intro i hi e
      obtain ⟨p, hp, ep, cp⟩ := h3 i hi (by omega)
      have q := ih p hp (by omega)
      have ni : ¬ p = i := fun z => by
        rw [z] at ep
        omega
      by_cases c41 : p = 41
      · rw [c41] at cp
        refine ⟨fun hi2 => ⟨0, (st_fn hG hs hi2).mp cp⟩, fun z => ?_⟩
        rw [z] at cp
        exact (nc_d hn).1 (st_fb cp)
      · obtain ⟨k, hk⟩ := q.1 (by have := q.2; omega)
        refine ⟨fun hi2 => ⟨k + 1, p, hk, (st_s (rf_d hk).1.1 hi2 ni).mp cp⟩, fun z => ?_⟩
        rw [z] at cp
        exact rf_no hn (m := 0) hk (st_nb hG (rf_d hk).1.1 cp)
  intro i hi
  refine ⟨fun z => ?_, fun ⟨k, hk⟩ => up k i hk⟩
  have z1 := (h1 i (by omega)).resolve_left z
  exact (dn (sC i - 1).toNat i (by omega) (by omega)).1 hi
theorem rf_40 {G : Mem} {s : Int} {sC : Nat → Int} (hG : GdF G) (hs : 0 ≤ s) (hn : NCr G s) (h : Bend 42 (fun j => j = 41) (stC G s) sC) : sC 40 = -1 := by
  have hc := rf_c hG hs hn h
  obtain ⟨h1, h2, h3, h4⟩ := h
  rcases h1 40 (by omega) with z | z
  · exact z
  · have n1 : ¬ sC 40 = 1 := fun e => by
      have q : (40 : Nat) = 41 := (h2 40 (by omega)).mp e
      omega
    obtain ⟨p, hp, ep, cp⟩ := h3 40 (by omega) (by omega)
    by_cases c41 : p = 41
    · rw [c41] at cp
      exact ((nc_d hn).1 (st_fb cp)).elim
    · have c40 : ¬ p = 40 := fun q => by
        rw [q] at ep
        omega
      obtain ⟨k, hk⟩ := (hc p (by omega)).mp (by have := z.1; omega)
      exact (rf_no hn (m := 0) hk (st_nb hG (by omega) cp)).elim
theorem rk_n {G : Mem} {s : Int} {sC : Nat → Int} (hG : GdF G) (hs : 0 ≤ s) (hn : NCr G s) (h : Bend 42 (fun j => j = 40) (stC G s) sC) (hz : sC 41 = sp (-1)) : ∀ i : Nat, i < 40 → (¬ sC i = -1 ↔ ∃ k, RK G s k i) := by
  have hk := rk_c hG hs h
  rw [sp_n] at hz
  intro i hi
  refine ⟨fun z => ?_, fun ⟨k, q⟩ => (hk.1 k i q).1⟩
  have z1 := (h.1 i (by omega)).resolve_left z
  have n1 : ¬ sC i = 1 := fun e => by
    have q : i = 40 := (h.2.1 i (by omega)).mp e
    omega
  exact ⟨(sC i - 2).toNat, hk.2 _ i hi (by omega) (Or.inl hz)⟩
theorem rc_dry {G : Mem} {s : Int} {a : Nat} {sC : Nat → Int} (ha : a = 40 ∨ a = 41) (h : Bend 42 (fun j => j = a) (stC G s) sC) : ∀ i, i < 42 → ¬ sC i = -1 → i = 40 ∨ i = 41 ∨ dryG G i := fun i hi hn => by
  obtain ⟨h1, h2, h3, h4⟩ := h
  have z := (h1 i hi).resolve_left hn
  by_cases c : sC i = 1
  · have e : i = a := (h2 i hi).mp c
    exact ha.elim (fun q => Or.inl (e.trans q)) (fun q => Or.inr (Or.inl (e.trans q)))
  · obtain ⟨p, hp, ep, cp⟩ := h3 i hi (by omega)
    rcases cp.2.2 with q | q
    · exact Or.inr (Or.inr q.1)
    · exact q.1.elim Or.inl (fun t => Or.inr (Or.inl t))
/-! places -/
def clP (G : Mem) (s : Int) (i : Nat) (x y : Int) : Prop := dd ((G 1 i).toInt - x) ((G 2 i).toInt - y) ≤ s * s
def JnG (G : Mem) (s x y : Int) : Prop := ((y ≤ s ∨ ∃ i, (∃ k, RK G s k i) ∧ clP G s i x y) ∧ (21 - y ≤ s ∨ ∃ i, (∃ k, RF G s k i) ∧ clP G s i x y)) ∧ stA G x y 40 0 = -1
/-- a flag: B holds, or P of one ahead of n -/
def HsI (B : Prop) (P : Nat → Prop) (n : Nat) (y : Int32) : Prop := (y = nI 0 ∧ ¬ B ∧ ∀ i, i < n → ¬ P i) ∨ (y = nI 1 ∧ (B ∨ ∃ i, i < n ∧ P i))
theorem hs_0 {P : Nat → Prop} : HsI False P 0 (nI 0) := Or.inl ⟨rfl, id, fun i hi => absurd hi (Nat.not_lt_zero _)⟩
theorem hs_b {B : Prop} {P : Nat → Prop} {y : Int32} (h : (y = nI 0 ∧ ¬ B) ∨ (y = nI 1 ∧ B)) : HsI B P 0 y := h.elim (fun z => Or.inl ⟨z.1, z.2, fun i hi => absurd hi (Nat.not_lt_zero _)⟩) (fun z => Or.inr ⟨z.1, Or.inl z.2⟩)
theorem hs_n {B : Prop} {P : Nat → Prop} {n : Nat} {y : Int32} (h : HsI B P n y) (hn : ¬ P n) : HsI B P (n + 1) y := by
  rcases h with ⟨a, b, d⟩ | ⟨a, b⟩
  · refine Or.inl ⟨a, b, fun i hi => ?_⟩
    by_cases c : i = n
    · rw [c]
      exact hn
    · exact d i (by omega)
  · exact Or.inr ⟨a, b.elim Or.inl (fun ⟨i, hi, q⟩ => Or.inr ⟨i, by omega, q⟩)⟩
theorem hs_y {B : Prop} {P : Nat → Prop} {n : Nat} (hn : P n) : HsI B P (n + 1) (nI 1) := Or.inr ⟨rfl, Or.inr ⟨n, by omega, hn⟩⟩
theorem hs_k {B : Prop} {P : Nat → Prop} {n : Nat} {y : Int32} (h : HsI B P n y) (hy : ¬ y.toInt = 0) : HsI B P (n + 1) (nI 1) := by
  rcases h with ⟨a, b, d⟩ | ⟨a, b⟩
  · rw [a] at hy
    exact absurd nI0 hy
  · exact Or.inr ⟨rfl, b.elim Or.inl (fun ⟨i, hi, q⟩ => Or.inr ⟨i, by omega, q⟩)⟩
theorem hs_z {B : Prop} {P : Nat → Prop} {n : Nat} {y : Int32} (h : HsI B P n y) (hy : y.toInt = 0) (hn : ¬ P n) : HsI B P (n + 1) (nI 0) := by
  rcases h with ⟨a, b, d⟩ | ⟨a, b⟩
  · have z := hs_n (y := y) (Or.inl ⟨a, b, d⟩) hn
    rw [a] at z
    exact z
  · rw [a] at hy
    exact absurd hy ne1
theorem hs_or {B : Prop} {P : Nat → Prop} {n : Nat} {y t : Int32} (h : HsI B P n y) (ht : (t = nI 0 ∧ ¬ P n) ∨ (t = nI 1 ∧ P n)) : HsI B P (n + 1) (y ||| t) := by
  rcases ht with ⟨a, b⟩ | ⟨a, b⟩
  · rcases h with ⟨d, e, f⟩ | ⟨d, e⟩
    · rw [a, d, show nI 0 ||| nI 0 = nI 0 from by decide]
      exact hs_n (Or.inl ⟨rfl, e, f⟩) b
    · rw [a, d, show nI 1 ||| nI 0 = nI 1 from by decide]
      exact hs_n (Or.inr ⟨rfl, e⟩) b
  · rcases h with ⟨d, e, f⟩ | ⟨d, e⟩
    · rw [a, d, show nI 0 ||| nI 1 = nI 1 from by decide]
      exact hs_y b
    · rw [a, d, show nI 1 ||| nI 1 = nI 1 from by decide]
      exact hs_y b
theorem hs_iff {B : Prop} {P : Nat → Prop} {n : Nat} {y : Int32} (h : HsI B P n y) : ¬ y.toInt = 0 ↔ B ∨ ∃ i, i < n ∧ P i := by
  rcases h with ⟨a, b, d⟩ | ⟨a, b⟩
  · rw [a]
    exact ⟨fun z => absurd nI0 z, fun z => (z.elim b (fun ⟨i, hi, q⟩ => d i hi q) : False).elim⟩
  · rw [a]
    exact ⟨fun _ => b, fun _ => ne1⟩
def rcP (M : Mem) (k : Nat) (G : Mem) (s x y : Int) (i : Nat) : Prop := ¬ (M k i).toInt = -1 ∧ stF G s i x y
theorem stf_b {G : Mem} {s x y : Int} (hs : 0 ≤ s) (hy : 1 ≤ y ∧ y ≤ 20) : (stF G s 40 x y ↔ y ≤ s) ∧ (stF G s 41 x y ↔ 21 - y ≤ s) := by
  unfold stF
  rw [al_b (by omega), al_b (by omega), hg_40, hg_41, dd_0, dd_0, Int.zero_sub, Int.neg_mul_neg]
  exact ⟨sq_iff (by omega) hs, sq_iff (by omega) hs⟩
theorem stf_s {G : Mem} {s x y : Int} {i : Nat} (hi : i < 40) : stF G s i x y ↔ clP G s i x y := by
  unfold stF clP
  rw [al_s hi, hg_s hi]
theorem jn_c {G M : Mem} {s x y : Int} (hG : GdF G) (hs : 0 ≤ s) (hn : NCr G s) (hy : 1 ≤ y ∧ y ≤ 20) (h1 : Bend 42 (fun j => j = 40) (stC G s) (SPm M 24)) (v1 : VLm M 24) (h2 : Bend 42 (fun j => j = 41) (stC G s) (SPm M 25)) (v2 : VLm M 25) (h41 : SPm M 24 41 = sp (-1)) : (((∃ i, i < 42 ∧ rcP M 24 G s x y i) ∧ (∃ i, i < 42 ∧ rcP M 25 G s x y i)) ∧ stA G x y 40 0 = -1) ↔ JnG G s x y := by
  have a1 := rk_n hG hs hn h1 h41
  have a2 := rf_c hG hs hn h2
  have b2 := rf_40 hG hs hn h2
  have e1 : ∀ i, i < 42 → ((M 24 i).toInt = -1 ↔ SPm M 24 i = -1) := fun i hi => (sp_1 (v1 i hi).1).symm
  have e2 : ∀ i, i < 42 → ((M 25 i).toInt = -1 ↔ SPm M 25 i = -1) := fun i hi => (sp_1 (v2 i hi).1).symm
  have f := stf_b (G := G) (x := x) hs hy
  unfold JnG
  refine za_l (za_2 ⟨fun ⟨i, hi, q1, q2⟩ => ?_, fun z => ?_⟩ ⟨fun ⟨i, hi, q1, q2⟩ => ?_, fun z => ?_⟩)
  · rw [e1 i hi] at q1
    by_cases c : i = 40
    · rw [c] at q2
      exact Or.inl (f.1.mp q2)
    · by_cases c2 : i = 41
      · rw [c2, h41, sp_n] at q1
        exact absurd rfl q1
      · exact Or.inr ⟨i, (a1 i (by omega)).mp q1, (stf_s (by omega)).mp q2⟩
  · rcases z with z | ⟨i, ⟨k, q1⟩, q2⟩
    · refine ⟨40, by omega, ?_, f.1.mpr z⟩
      rw [e1 40 (by omega), (h1.2.1 40 (by omega)).mpr rfl]
      decide
    · have hi := (rk_d q1).1.1
      exact ⟨i, by omega, fun q => (a1 i hi).mpr ⟨k, q1⟩ ((e1 i (by omega)).mp q), (stf_s hi).mpr q2⟩
  · rw [e2 i hi] at q1
    by_cases c : i = 41
    · rw [c] at q2
      exact Or.inl (f.2.mp q2)
    · by_cases c2 : i = 40
      · rw [c2] at q1
        exact absurd b2 q1
      · exact Or.inr ⟨i, (a2 i (by omega)).mp q1, (stf_s (by omega)).mp q2⟩
  · rcases z with z | ⟨i, ⟨k, q1⟩, q2⟩
    · refine ⟨41, by omega, ?_, f.2.mpr z⟩
      rw [e2 41 (by omega), (h2.2.1 41 (by omega)).mpr rfl]
      decide
    · have hi := (rf_d q1).1.1
      exact ⟨i, by omega, fun q => (a2 i hi).mpr ⟨k, q1⟩ ((e2 i (by omega)).mp q), (stf_s hi).mpr q2⟩
/-- of the reference -/
def rcR (M : Mem) (k : Nat) (G : Mem) (s x y : Int) (i : Nat) : Prop := dryG G i ∧ clP G s i x y ∧ ¬ (M k i).toInt = -1
theorem jn_r {G M : Mem} {s x y : Int} (h1 : Bend 40 (nearG G s) (adjG G s) (fun j => (M 23 j).toInt)) (h2 : Bend 40 (farG G s) (adjG G s) (fun j => (M 24 j).toInt)) : (((y ≤ s ∨ ∃ i, i < 40 ∧ rcR M 23 G s x y i) ∧ (21 - y ≤ s ∨ ∃ i, i < 40 ∧ rcR M 24 G s x y i)) ∧ stA G x y 40 0 = -1) ↔ JnG G s x y := by
  have a1 := rk_r h1
  have a2 := rf_r h2
  unfold JnG
  refine za_l (za_2 (za_o ⟨fun ⟨i, hi, q1, q2, q3⟩ => ?_, fun ⟨i, ⟨k, q1⟩, q2⟩ => ?_⟩) (za_o ⟨fun ⟨i, hi, q1, q2, q3⟩ => ?_, fun ⟨i, ⟨k, q1⟩, q2⟩ => ?_⟩))
  · have z : 1 ≤ (M 23 i).toInt ∧ (M 23 i).toInt ≤ (40 : Nat) := (h1.1 i hi).resolve_left q3
    exact ⟨i, ⟨((M 23 i).toInt - 1).toNat, a1.2 _ i hi (by show (M 23 i).toInt = _; omega)⟩, q2⟩
  · exact ⟨i, (rk_d q1).1.1, rk_d q1, q2, (a1.1 k i q1).1⟩
  · have z : 1 ≤ (M 24 i).toInt ∧ (M 24 i).toInt ≤ (40 : Nat) := (h2.1 i hi).resolve_left q3
    exact ⟨i, ⟨((M 24 i).toInt - 1).toNat, a2.2 _ i hi (by show (M 24 i).toInt = _; omega)⟩, q2⟩
  · exact ⟨i, (rf_d q1).1.1, rf_d q1, q2, (a2.1 k i q1).1⟩
/-- no place ahead of t (rows first) -/
def PlN (G : Mem) (s t : Int) : Prop := ∀ x y : Int, 0 ≤ x → x ≤ 39 → 1 ≤ y → y ≤ 20 → 40 * y + x < t → ¬ JnG G s x y
theorem pl_0 {G : Mem} {s t : Int} (h : t ≤ 40) : PlN G s t := fun x y h1 h2 h3 h4 h5 => by omega
theorem pl_e {G : Mem} {s t u : Int} (h : PlN G s t) (e : u = t) : PlN G s u := e ▸ h
theorem pl_n {G : Mem} {s x y t : Int} (h : PlN G s (40 * y + x)) (hx : 0 ≤ x ∧ x ≤ 39) (hn : ¬ JnG G s x y) (e : t = 40 * y + x + 1) : PlN G s t := fun x' y' h1 h2 h3 h4 h5 => by
  by_cases c : 40 * y' + x' = 40 * y + x
  · have e1 : x' = x := by omega
    have e2 : y' = y := by omega
    rw [e1, e2]
    exact hn
  · exact h x' y' h1 h2 h3 h4 (by omega)
def OmP (G : Mem) (s : Int) (w r : Int32) : Prop := (CAn G s ∧ r = -3) ∨ (NCr G s ∧ ((PlN G s 840 ∧ r = -2) ∨ ∃ x y : Int32, ((0 ≤ x.toInt ∧ x.toInt ≤ 39) ∧ 1 ≤ y.toInt ∧ y.toInt ≤ 20) ∧ PlN G s (40 * y.toInt + x.toInt) ∧ JnG G s x.toInt y.toInt ∧ ((w.toInt = 0 ∧ r = x) ∨ (¬ w.toInt = 0 ∧ r = y))))
theorem om_fn {G : Mem} {s : Int} {w r r' : Int32} (h : OmP G s w r) (h' : OmP G s w r') : r = r' := by
  rcases h with ⟨a, b⟩ | ⟨a, b⟩ <;> rcases h' with ⟨a', b'⟩ | ⟨a', b'⟩
  · exact b.trans b'.symm
  · exact (can_no a a').elim
  · exact (can_no a' a).elim
  · rcases b with ⟨b1, b2⟩ | ⟨x, y, b1, b2, b3, b4⟩ <;> rcases b' with ⟨d1, d2⟩ | ⟨x', y', d1, d2, d3, d4⟩
    · exact b2.trans d2.symm
    · exact (b1 x'.toInt y'.toInt d1.1.1 d1.1.2 d1.2.1 d1.2.2 (by omega) d3).elim
    · exact (d1 x.toInt y.toInt b1.1.1 b1.1.2 b1.2.1 b1.2.2 (by omega) b3).elim
    · rcases Int.lt_trichotomy (40 * y.toInt + x.toInt) (40 * y'.toInt + x'.toInt) with c | c | c
      · exact (d2 x.toInt y.toInt b1.1.1 b1.1.2 b1.2.1 b1.2.2 c b3).elim
      · have e1 : x = x' := t_of (by omega)
        have e2 : y = y' := t_of (by omega)
        rcases b4 with ⟨p, q⟩ | ⟨p, q⟩ <;> rcases d4 with ⟨p', q'⟩ | ⟨p', q'⟩
        · rw [q, q', e1]
        · exact absurd p p'
        · exact absurd p' p
        · rw [q, q', e2]
      · exact (b2 x'.toInt y'.toInt d1.1.1 d1.1.2 d1.2.1 d1.2.2 c d3).elim
theorem ff_om {MC MM : Mem} {r r' v w : Int32} (h : FF MC MM) (hq : QQ MC MM) (hP : PP MC MM) (h1 : PqP (TpC MC v ∧ EiW w) (OmP (FdC MC 1) (MC 43 (ix v)).toInt w r) r) (h2 : PqP (TpR MM v ∧ EiW w) (OmP (FdR MM 1) (MM 4 (ix v)).toInt w r') r') : r = r' := pq_fn h1 h2 ⟨fun z => ⟨(tp_iff hP).mp z.1, z.2⟩, fun z => ⟨(tp_iff hP).mpr z.1, z.2⟩⟩ (fun t a b => by
  rw [h.1.1, qq_e hq t.1] at a
  exact om_fn a b)

theorem om_X8_canCross {b : Nat} (hb : isF b) (M : Mem) (v2 : Int32) (hs : 1 ≤ v2.toInt ∧ v2.toInt ≤ 30) (hGd : GdF (FdC M b)) : Wp (f_X8_canCross b M v2) (fun q => (q.1 = 0 ∨ q.1 = 1) ∧ (∀ a i, ¬ (a = 24 ∨ a = 26) → q.2 a i = M a i) ∧ (∃ r : Int, CrK (FdC M b) v2.toInt r ∧ (q.1.toInt = 0 ↔ r = -1)) ∧ ((Bend 42 (fun j => j = 40) (stC (FdC M b) v2.toInt) (SPm q.2 24) ∧ VLm q.2 24) ∧ ∃ r : Int, SPm q.2 24 41 = sp r ∧ -1 ≤ r ∧ CrK (FdC M b) v2.toInt r)) := by
  have hb0 : b = 1 ∨ b = 7 ∨ b = 13 := hb
  refine wp_cb2 (ow_X8_spread hb (by decide) M v2 (nI 40) (nI 42) rfl (Or.inl rfl) 42 ⟨by omega, t_lit 42⟩ (by decide) hs hGd) (fun r_1 M_2 he11 hq11 => ?_)
  obtain ⟨hg_M_2, hB_11⟩ := hq11
  replace hB_11 : Bfs 42 (fun j => j = ix (nI 40)) (stC (FdC M b) v2.toInt) (SPm M_2 24) (QUm M_2) (ix r_1) (ix r_1) ∧ VLm M_2 24 := hB_11
  have := t_lit 40
  have := t_lit 42
  replace hg_M_2 : ∀ a i, ¬ (a = 24 ∨ a = 26) → M_2 a i = M a i := by exact fun a i q0 => hg_M_2 a i (by first | decide | (rcases hc0 with h | h <;> rw [h] <;> simp; done) | (rcases hb0 with h | h | h <;> rw [h] <;> simp; done) | (simp; done) | omega)
  have hE := bfs_end hB_11.1 (Nat.le_refl _)
  rw [show ix (nI 40) = 40 from (by decide)] at hE
  have hcr := crk_c hGd (by omega) hE (show SPm M_2 24 41 = sp (M_2 24 41).toInt from rfl) (hB_11.2 41 (by omega)).1
  refine wp_ite (fun c23 => ?_) (fun c23 => ?_)
  · exact wp_some ⟨b01_0, (fun a i q0 => ((hg_M_2 a i (fun z8 => q0 ((fun z9 => Or.elim z9 (fun h9 => Or.inl h9) (fun h9 => Or.inr (h9))) z8))).trans rfl)), ⟨_, hcr, ⟨fun _ => c23, fun _ => nI0⟩⟩, ⟨⟨hE, hB_11.2⟩, _, rfl, (hB_11.2 41 (by omega)).1, hcr⟩⟩
  · exact wp_some ⟨b01_1, (fun a i q0 => ((hg_M_2 a i (fun z8 => q0 ((fun z9 => Or.elim z9 (fun h9 => Or.inl h9) (fun h9 => Or.inr (h9))) z8))).trans rfl)), ⟨_, hcr, ⟨fun z => absurd z ne1, fun z => absurd z c23⟩⟩, ⟨⟨hE, hB_11.2⟩, _, rfl, (hB_11.2 41 (by omega)).1, hcr⟩⟩
set_option maxHeartbeats 4000000 in
theorem om_X8_wouldJoin {b : Nat} (hb : isF b) (M : Mem) (v2 : Int32) (v3 : Int32) (v4 : Int32) (hs : 1 ≤ v2.toInt ∧ v2.toInt ≤ 30) (hxy : (0 ≤ v3.toInt ∧ v3.toInt ≤ 39) ∧ 1 ≤ v4.toInt ∧ v4.toInt ≤ 20) (hGd : GdF (FdC M b)) (hdr : ∀ i, i < 42 → ¬ (M 24 i).toInt = -1 ∨ ¬ (M 25 i).toInt = -1 → i = 40 ∨ i = 41 ∨ dryG (FdC M b) i) : Wp (f_X8_wouldJoin b M v2 v3 v4) (fun q => (q = 0 ∨ q = 1) ∧ (¬ q.toInt = 0 ↔ ((∃ i, i < 42 ∧ rcP M 24 (FdC M b) v2.toInt v3.toInt v4.toInt i) ∧ (∃ i, i < 42 ∧ rcP M 25 (FdC M b) v2.toInt v3.toInt v4.toInt i)) ∧ stA (FdC M b) v3.toInt v4.toInt 40 0 = -1)) := by
  have hb0 : b = 1 ∨ b = 7 ∨ b = 13 := hb
  refine wp_lp3 (fun y5_9 y6_9 y7_9 => (0 ≤ y7_9.toInt) ∧ (HsI False (rcP M 24 (FdC M b) v2.toInt v3.toInt v4.toInt) (ix y7_9) y5_9) ∧ (HsI False (rcP M 25 (FdC M b) v2.toInt v3.toInt v4.toInt) (ix y7_9) y6_9) ∧ (y7_9.toInt ≤ 42)) (fun y5_9 y6_9 y7_9 => (42 - y7_9.toInt).toNat) (fun ag9 y5_9 y6_9 y7_9 hI9 ih9 => ?_) FU (nI 0) (nI 0) (nI 0) ⟨(by have f0 := t_lit 0; omega), (by rw [show ix (nI 0) = 0 from (by decide)]; exact hs_0), (by rw [show ix (nI 0) = 0 from (by decide)]; exact hs_0), (by decide)⟩ (fu_lt (by have f0 := t_lit 0; omega))
  obtain ⟨hi9, hn, hf, h42⟩ := hI9
  have j111 : (ix y7_9 = 42) → Wp (f_X8_wouldJoin_L111 b M v3 v4 y5_9 y6_9) (fun q => (q = 0 ∨ q = 1) ∧ (¬ q.toInt = 0 ↔ ((∃ i, i < 42 ∧ rcP M 24 (FdC M b) v2.toInt v3.toInt v4.toInt i) ∧ (∃ i, i < 42 ∧ rcP M 25 (FdC M b) v2.toInt v3.toInt v4.toInt i)) ∧ stA (FdC M b) v3.toInt v4.toInt 40 0 = -1)) := by
    intro h111
    unfold f_X8_wouldJoin_L111
    refine wp_ite (fun c113 => ?_) (fun c113 => ?_)
    · exact wp_some ⟨b01_0, (by rw [h111] at hn hf; have a := hs_iff hn; have b9 := hs_iff hf; exact ⟨fun z => absurd nI0 z, fun z => (a.mpr (Or.inr z.1.1) c113 : False).elim⟩)⟩
    · refine wp_ite (fun c118 => ?_) (fun c118 => ?_)
      · exact wp_some ⟨b01_0, (by rw [h111] at hn hf; have a := hs_iff hn; have b9 := hs_iff hf; exact ⟨fun z => absurd nI0 z, fun z => (b9.mpr (Or.inr z.1.2) c118 : False).elim⟩)⟩
      · refine wp_bind2 (o8_X2_stoneAt hb M v3 v4) (fun r_1 he125 hq125 => ?_)
        have hsa_125 := hq125
        replace hsa_125 : r_1 = stA (FdC M b) v3.toInt v4.toInt 40 0 := hsa_125
        refine wp_ite (fun c129 => ?_) (fun c129 => ?_)
        · exact wp_some ⟨b01_1, (by rw [h111] at hn hf; have a := hs_iff hn; have b9 := hs_iff hf; exact ⟨fun _ => ⟨⟨(a.mp c113).resolve_left id, (b9.mp c118).resolve_left id⟩, t_of (by rw [← hsa_125, c129]; decide)⟩, fun _ => ne1⟩)⟩
        · exact wp_some ⟨b01_0, (by rw [h111] at hn hf; have a := hs_iff hn; have b9 := hs_iff hf; exact ⟨fun z => absurd nI0 z, fun z => (c129 (by rw [hsa_125, z.2]; decide) : False).elim⟩)⟩
  refine wp_ite (fun c13 => ?_) (fun c13 => ?_)
  · exact j111 ((ix_eq (by omega) (by decide)).mpr (by omega))
  · have u := i_up (x := y7_9) (by omega)
    have i42 := ix42 (v := y7_9) (by omega) (by omega)
    refine wp_gd (by omega) ?_
    have j43 : ∀ (t0_43 : Int32), (t0_43 = 0 ∨ t0_43 = 1) → ((t0_43.toInt = 0 ∧ (M 24 (ix y7_9)).toInt = -1 ∧ (M 25 (ix y7_9)).toInt = -1) ∨ (¬ t0_43.toInt = 0 ∧ (¬ (M 24 (ix y7_9)).toInt = -1 ∨ ¬ (M 25 (ix y7_9)).toInt = -1))) → Wp (f_X8_wouldJoin_L43 b M v2 v3 v4 ag9 y5_9 y6_9 y7_9 t0_43) (fun q => (q = 0 ∨ q = 1) ∧ (¬ q.toInt = 0 ↔ ((∃ i, i < 42 ∧ rcP M 24 (FdC M b) v2.toInt v3.toInt v4.toInt i) ∧ (∃ i, i < 42 ∧ rcP M 25 (FdC M b) v2.toInt v3.toInt v4.toInt i)) ∧ stA (FdC M b) v3.toInt v4.toInt 40 0 = -1)) := by
      intro t0_43 hb_t0_43 h43
      unfold f_X8_wouldJoin_L43
      refine wp_ite (fun c47 => ?_) (fun c47 => ?_)
      · exact ih9 y5_9 y6_9 (y7_9 + (nI 1)) ⟨(by have f0 := t_lit 1; have f1 := t_add y7_9 (nI 1); omega), (by rw [u.1]; exact hs_n hn (fun z => z.1 (h43.elim (fun q => q.2.1) (fun q => absurd c47 q.1)))), (by rw [u.1]; exact hs_n hf (fun z => z.1 (h43.elim (fun q => q.2.2) (fun q => absurd c47 q.1)))), (by rw [u.2]; omega)⟩ (by have f0 := t_lit 1; have f1 := t_add y7_9 (nI 1); omega)
      · refine wp_bind2 (ow_X2_isStepFrom hb M y7_9 v3 v4 v2 hGd (by rcases hdr (ix y7_9) i42 (by rcases h43 with z | z <;> omega) with z | z | z; exact Or.inl ((ix_eq (by omega) (by decide)).mp z); exact Or.inr (Or.inl ((ix_eq (by omega) (by decide)).mp z)); exact Or.inr (Or.inr ⟨⟨by omega, by have q := t_ixn y7_9 (by omega); have q2 := z.1.1; omega⟩, z⟩)) hs ⟨⟨by omega, by omega⟩, by omega, by omega⟩) (fun r_2 he57 hq57 => ?_)
        obtain ⟨hz_r_2, hf2_57⟩ := hq57
        replace hf2_57 : ¬ r_2.toInt = 0 ↔ stF (FdC M b) v2.toInt (ix y7_9) v3.toInt v4.toInt := hf2_57
        refine wp_ite (fun c60 => ?_) (fun c60 => ?_)
        · exact ih9 y5_9 y6_9 (y7_9 + (nI 1)) ⟨(by have f0 := t_lit 1; have f1 := t_add y7_9 (nI 1); omega), (by rw [u.1]; exact hs_n hn (fun z => hf2_57.mpr z.2 c60)), (by rw [u.1]; exact hs_n hf (fun z => hf2_57.mpr z.2 c60)), (by rw [u.2]; omega)⟩ (by have f0 := t_lit 1; have f1 := t_add y7_9 (nI 1); omega)
        · refine wp_gd (by omega) ?_
          have j81 : ∀ (t0_81 : Int32), (t0_81 = 0 ∨ t0_81 = 1) → ((t0_81 = nI 0 ∧ (M 24 (ix y7_9)).toInt = -1) ∨ (t0_81 = nI 1 ∧ ¬ (M 24 (ix y7_9)).toInt = -1)) → Wp (f_X8_wouldJoin_L81 M ag9 y5_9 y6_9 y7_9 t0_81) (fun q => (q = 0 ∨ q = 1) ∧ (¬ q.toInt = 0 ↔ ((∃ i, i < 42 ∧ rcP M 24 (FdC M b) v2.toInt v3.toInt v4.toInt i) ∧ (∃ i, i < 42 ∧ rcP M 25 (FdC M b) v2.toInt v3.toInt v4.toInt i)) ∧ stA (FdC M b) v3.toInt v4.toInt 40 0 = -1)) := by
            intro t0_81 hb_t0_81 h81
            unfold f_X8_wouldJoin_L81
            refine wp_bnd (fun x_3 ex_3 => ?_)
            refine wp_gd (by omega) ?_
            refine wp_ite (fun c94 => ?_) (fun c94 => ?_)
            · refine wp_bnd (fun x_4 ex_4 => ?_)
              exact ih9 x_3 x_4 (y7_9 + (nI 1)) ⟨(by have f0 := t_lit 1; have f1 := t_add y7_9 (nI 1); omega), (by rw [u.1, ex_3]; exact hs_or hn (h81.elim (fun q => Or.inl ⟨q.1, fun z => z.1 q.2⟩) (fun q => Or.inr ⟨q.1, q.2, hf2_57.mp c60⟩))), (by rw [u.1, ex_4]; exact hs_or hf (Or.inl ⟨rfl, fun z => z.1 c94⟩)), (by rw [u.2]; omega)⟩ (by have f0 := t_lit 1; have f1 := t_add y7_9 (nI 1); omega)
            · refine wp_bnd (fun x_5 ex_5 => ?_)
              exact ih9 x_3 x_5 (y7_9 + (nI 1)) ⟨(by have f0 := t_lit 1; have f1 := t_add y7_9 (nI 1); omega), (by rw [u.1, ex_3]; exact hs_or hn (h81.elim (fun q => Or.inl ⟨q.1, fun z => z.1 q.2⟩) (fun q => Or.inr ⟨q.1, q.2, hf2_57.mp c60⟩))), (by rw [u.1, ex_5]; exact hs_or hf (Or.inr ⟨rfl, c94, hf2_57.mp c60⟩)), (by rw [u.2]; omega)⟩ (by have f0 := t_lit 1; have f1 := t_add y7_9 (nI 1); omega)
          refine wp_ite (fun c73 => ?_) (fun c73 => ?_)
          · exact j81 (nI 0) b01_0 (Or.inl ⟨rfl, c73⟩)
          · exact j81 (nI 1) b01_1 (Or.inr ⟨rfl, c73⟩)
    have j38 : (¬ (M 24 (ix y7_9)).toInt = -1 ∨ ¬ (M 25 (ix y7_9)).toInt = -1) → Wp (f_X8_wouldJoin_L38 b M v2 v3 v4 ag9 y5_9 y6_9 y7_9) (fun q => (q = 0 ∨ q = 1) ∧ (¬ q.toInt = 0 ↔ ((∃ i, i < 42 ∧ rcP M 24 (FdC M b) v2.toInt v3.toInt v4.toInt i) ∧ (∃ i, i < 42 ∧ rcP M 25 (FdC M b) v2.toInt v3.toInt v4.toInt i)) ∧ stA (FdC M b) v3.toInt v4.toInt 40 0 = -1)) := by
      intro h38
      unfold f_X8_wouldJoin_L38
      exact j43 (nI 1) b01_1 (Or.inr ⟨ne1, h38⟩)
    refine wp_ite (fun c24 => ?_) (fun c24 => ?_)
    · refine wp_gd (by omega) ?_
      refine wp_ite (fun c35 => ?_) (fun c35 => ?_)
      · exact j43 (nI 0) b01_0 (Or.inl ⟨nI0, c24, c35⟩)
      · exact j38 (Or.inr c35)
    · exact j38 (Or.inl c24)
set_option maxHeartbeats 4000000 in
theorem om_X8_helpfulPlace {b : Nat} (hb : isF b) (M : Mem) (v2 : Int32) (v3 : Int32) (hs : 1 ≤ v2.toInt ∧ v2.toInt ≤ 30) (hGd : GdF (FdC M b)) : Wp (f_X8_helpfulPlace b M v2 v3) (fun q => (∀ a i, ¬ (a = 24 ∨ a = 25 ∨ a = 26) → q.2 a i = M a i) ∧ (OmP (FdC M b) v2.toInt v3 q.1)) := by
  have hb0 : b = 1 ∨ b = 7 ∨ b = 13 := hb
  refine wp_cb2 (om_X8_canCross hb M v2 hs hGd) (fun r_1 M_2 he3 hq3 => ?_)
  obtain ⟨hz_r_1, hg_M_2, hcc_3, hb_3⟩ := hq3
  replace hcc_3 : ∃ r : Int, CrK (FdC M b) v2.toInt r ∧ (r_1.toInt = 0 ↔ r = -1) := hcc_3
  replace hb_3 : (Bend 42 (fun j => j = 40) (stC (FdC M b) v2.toInt) (SPm M_2 24) ∧ VLm M_2 24) ∧ ∃ r : Int, SPm M_2 24 41 = sp r ∧ -1 ≤ r ∧ CrK (FdC M b) v2.toInt r := hb_3
  replace hg_M_2 : ∀ a i, ¬ (a = 24 ∨ a = 26) → M_2 a i = M a i := by exact fun a i q0 => hg_M_2 a i (by first | decide | (rcases hc0 with h | h <;> rw [h] <;> simp; done) | (rcases hb0 with h | h | h <;> rw [h] <;> simp; done) | (simp; done) | omega)
  obtain ⟨⟨hE2, vl2⟩, r2, hr1, hr2, hr3⟩ := hb_3
  have f2 : FdC M_2 b = (FdC M b) := fdc_fr (fun a i h1 h2 => hg_M_2 a i (by first | decide | (rcases hc0 with h | h <;> rw [h] <;> simp; done) | (rcases hb0 with h | h | h <;> rw [h] <;> simp; done) | (simp; done) | omega))
  refine wp_ite (fun c6 => ?_) (fun c6 => ?_)
  · have hnc := cc_n hcc_3 c6
    have er2 : r2 = -1 := crk_fn hr3 hnc
    rw [er2] at hr1
    refine wp_cb2 (ow_X8_spread hb (by decide) M_2 v2 (nI 41) (nI 42) rfl (Or.inr rfl) 42 ⟨by omega, t_lit 42⟩ (by decide) hs (by rw [f2]; exact hGd)) (fun r_3 M_4 he23 hq23 => ?_)
    obtain ⟨hg_M_4, hB_23⟩ := hq23
    replace hB_23 : Bfs 42 (fun j => j = ix (nI 41)) (stC (FdC M_2 b) v2.toInt) (SPm M_4 25) (QUm M_4) (ix r_3) (ix r_3) ∧ VLm M_4 25 := hB_23
    have := t_lit 41
    have := t_lit 42
    replace hg_M_4 : ∀ a i, ¬ (a = 25 ∨ a = 26) → M_4 a i = M_2 a i := by exact fun a i q0 => hg_M_4 a i (by first | decide | (rcases hc0 with h | h <;> rw [h] <;> simp; done) | (rcases hb0 with h | h | h <;> rw [h] <;> simp; done) | (simp; done) | omega)
    rw [f2] at hB_23
    have hE3 := bfs_end hB_23.1 (Nat.le_refl _)
    rw [show ix (nI 41) = 41 from (by decide)] at hE3
    have vl3 := hB_23.2
    have r24 : ∀ j, M_4 24 j = M_2 24 j := fun j => hg_M_4 24 j (by first | decide | (rcases hc0 with h | h <;> rw [h] <;> simp; done) | (rcases hb0 with h | h | h <;> rw [h] <;> simp; done) | (simp; done) | omega)
    have es24 : SPm M_4 24 = SPm M_2 24 := funext (fun j => by unfold SPm; rw [r24])
    have hE4 : Bend 42 (fun j => j = 40) (stC (FdC M b) v2.toInt) (SPm M_4 24) := by
      rw [es24]
      exact hE2
    have vl4 : VLm M_4 24 := fun j hj => by
      rw [r24]
      exact vl2 j hj
    have f4 : FdC M_4 b = (FdC M b) := (fdc_fr (fun a i h1 h2 => hg_M_4 a i (by first | decide | (rcases hc0 with h | h <;> rw [h] <;> simp; done) | (rcases hb0 with h | h | h <;> rw [h] <;> simp; done) | (simp; done) | omega))).trans f2
    have h41 : SPm M_4 24 41 = sp (-1) := by
      rw [es24]
      exact hr1
    have hdr : ∀ i, i < 42 → ¬ (M_4 24 i).toInt = -1 ∨ ¬ (M_4 25 i).toInt = -1 → i = 40 ∨ i = 41 ∨ dryG (FdC M b) i := fun i hi z => z.elim (fun q => rc_dry (Or.inl rfl) hE4 i hi (fun w => q ((sp_1 (vl4 i hi).1).mp w))) (fun q => rc_dry (Or.inr rfl) hE3 i hi (fun w => q ((sp_1 (vl3 i hi).1).mp w)))
    have s0 : 0 ≤ v2.toInt := by omega
    refine wp_lp1 (fun y4_30 => (1 ≤ y4_30.toInt) ∧ (1 ≤ y4_30.toInt) ∧ (PlN (FdC M b) v2.toInt (40 * y4_30.toInt))) (fun y4_30 => (20 + 1 - y4_30.toInt).toNat) (fun ag30 y4_30 hI30 ih30 => ?_) FU (nI 1) ⟨(by have f0 := t_lit 1; omega), (by decide), (pl_0 (by decide))⟩ (fu_lt (by have f0 := t_lit 1; omega))
    obtain ⟨hi30, k30, h30⟩ := hI30
    refine wp_ite (fun c34 => ?_) (fun c34 => ?_)
    · exact wp_some ⟨(fun a i q0 => ((hg_M_4 a i (fun z8 => q0 ((fun z9 => Or.elim z9 (fun h9 => Or.inr (Or.inl h9)) (fun h9 => Or.inr (Or.inr (h9)))) z8))).trans ((hg_M_2 a i (fun z8 => q0 ((fun z9 => Or.elim z9 (fun h9 => Or.inl h9) (fun h9 => Or.inr (Or.inr (h9)))) z8))).trans rfl))), (Or.inr ⟨hnc, Or.inl ⟨fun x y a b d e f => h30 x y a b d e (by omega), rfl⟩⟩)⟩
    · have uy := t_inc y4_30 1 (by omega)
      refine wp_lp1 (fun y5_40 => (0 ≤ y5_40.toInt) ∧ (y5_40.toInt ≤ 40) ∧ (PlN (FdC M b) v2.toInt (40 * y4_30.toInt + y5_40.toInt))) (fun y5_40 => (39 + 1 - y5_40.toInt).toNat) (fun ag40 y5_40 hI40 ih40 => ?_) FU (nI 0) ⟨(by have f0 := t_lit 0; omega), (by decide), (pl_e h30 (by rw [nI0]; omega))⟩ (fu_lt (by have f0 := t_lit 0; omega))
      obtain ⟨hi40, k40, h40⟩ := hI40
      refine wp_ite (fun c44 => ?_) (fun c44 => ?_)
      · exact ih30 (y4_30 + (nI 1)) ⟨(by have f0 := t_lit 1; have f1 := t_add y4_30 (nI 1); omega), (by rw [uy]; omega), (pl_e h40 (by rw [uy]; omega))⟩ (by have f0 := t_lit 1; have f1 := t_add y4_30 (nI 1); omega)
      · have ux := t_inc y5_40 1 (by omega)
        refine wp_bind2 (om_X8_wouldJoin hb M_4 v2 y5_40 y4_30 hs ⟨⟨by omega, by omega⟩, k30, by omega⟩ (by rw [f4]; exact hGd) (by rw [f4]; exact hdr)) (fun r_5 he54 hq54 => ?_)
        obtain ⟨hz_r_5, hj_54⟩ := hq54
        replace hj_54 : ¬ r_5.toInt = 0 ↔ ((∃ i, i < 42 ∧ rcP M_4 24 (FdC M_4 b) v2.toInt y5_40.toInt y4_30.toInt i) ∧ (∃ i, i < 42 ∧ rcP M_4 25 (FdC M_4 b) v2.toInt y5_40.toInt y4_30.toInt i)) ∧ stA (FdC M_4 b) y5_40.toInt y4_30.toInt 40 0 = -1 := hj_54
        rw [f4] at hj_54
        have jc := jn_c (x := y5_40.toInt) hGd s0 hnc ⟨k30, by omega⟩ hE4 vl4 hE3 vl3 h41
        have j60 : (JnG (FdC M b) v2.toInt y5_40.toInt y4_30.toInt) → Wp (f_X8_helpfulPlace_L60 v3 M_4 y4_30 y5_40) (fun q => (∀ a i, ¬ (a = 24 ∨ a = 25 ∨ a = 26) → q.2 a i = M a i) ∧ (OmP (FdC M b) v2.toInt v3 q.1)) := by
          intro h60
          unfold f_X8_helpfulPlace_L60
          refine wp_ite (fun c61 => ?_) (fun c61 => ?_)
          · exact wp_some ⟨(fun a i q0 => ((hg_M_4 a i (fun z8 => q0 ((fun z9 => Or.elim z9 (fun h9 => Or.inr (Or.inl h9)) (fun h9 => Or.inr (Or.inr (h9)))) z8))).trans ((hg_M_2 a i (fun z8 => q0 ((fun z9 => Or.elim z9 (fun h9 => Or.inl h9) (fun h9 => Or.inr (Or.inr (h9)))) z8))).trans rfl))), (Or.inr ⟨hnc, Or.inr ⟨y5_40, y4_30, ⟨⟨by omega, by omega⟩, k30, by omega⟩, h40, h60, Or.inl ⟨c61, rfl⟩⟩⟩)⟩
          · exact wp_some ⟨(fun a i q0 => ((hg_M_4 a i (fun z8 => q0 ((fun z9 => Or.elim z9 (fun h9 => Or.inr (Or.inl h9)) (fun h9 => Or.inr (Or.inr (h9)))) z8))).trans ((hg_M_2 a i (fun z8 => q0 ((fun z9 => Or.elim z9 (fun h9 => Or.inl h9) (fun h9 => Or.inr (Or.inr (h9)))) z8))).trans rfl))), (Or.inr ⟨hnc, Or.inr ⟨y5_40, y4_30, ⟨⟨by omega, by omega⟩, k30, by omega⟩, h40, h60, Or.inr ⟨c61, rfl⟩⟩⟩)⟩
        refine wp_ite (fun c57 => ?_) (fun c57 => ?_)
        · exact ih40 (y5_40 + (nI 1)) ⟨(by have f0 := t_lit 1; have f1 := t_add y5_40 (nI 1); omega), (by rw [ux]; omega), (pl_n h40 ⟨by omega, by omega⟩ (fun z => hj_54.mpr (jc.mpr z) c57) (by rw [ux]; omega))⟩ (by have f0 := t_lit 1; have f1 := t_add y5_40 (nI 1); omega)
        · exact j60 (jc.mp (hj_54.mp c57))
  · exact wp_some ⟨(fun a i q0 => ((hg_M_2 a i (fun z8 => q0 ((fun z9 => Or.elim z9 (fun h9 => Or.inl h9) (fun h9 => Or.inr (Or.inr (h9)))) z8))).trans rfl)), (Or.inl ⟨cc_y hcc_3 c6, rfl⟩)⟩
theorem om_X9_oneMore (M : Mem) (v1 : Int32) (v2 : Int32) (hGd : GdF (FdC M 1)) (hSr : SrC M) : Wp (f_X9_oneMore M v1 v2) (fun q => (∀ a i, ¬ (a = 24 ∨ a = 25 ∨ a = 26) → q.2 a i = M a i) ∧ (PqP (TpC M v1 ∧ EiW v2) (OmP (FdC M 1) (M 43 (ix v1)).toInt v2 q.1) q.1)) := by
  refine wp_bind2 (oq_X9_strideOf M v1) (fun r_1 he2 hq2 => ?_)
  obtain ⟨hi_2, hv_2⟩ := hq2
  replace hi_2 : ¬ r_1.toInt = 0 ↔ TpC M v1 := hi_2
  replace hv_2 : ¬ r_1.toInt = 0 → r_1 = M 43 (ix v1) := hv_2
  refine wp_ite (fun c7 => ?_) (fun c7 => ?_)
  · exact wp_some ⟨(fun _ _ _ => rfl), (pq_n (fun z => hi_2.mpr z.1 c7) rfl)⟩
  · have ht := hi_2.mp c7
    have es := hv_2 c7
    have sr := hSr (ix v1) (ix8 ht.1) ht.2
    refine wp_bind2 (ok_X9_isEither M v2) (fun r_2 he11 hq11 => ?_)
    obtain ⟨hz_r_2, hr_11⟩ := hq11
    replace hr_11 : ¬ r_2.toInt = 0 ↔ 0 ≤ v2.toInt ∧ v2.toInt ≤ 1 := hr_11
    refine wp_ite (fun c14 => ?_) (fun c14 => ?_)
    · exact wp_some ⟨(fun _ _ _ => rfl), (pq_n (fun z => hr_11.mpr z.2 c14) rfl)⟩
    · refine wp_cb2 (om_X8_helpfulPlace (Or.inl rfl) M r_1 v2 (by rw [es]; exact sr) hGd) (fun r_3 M_4 he29 hq29 => ?_)
      obtain ⟨hg_M_4, hq_29⟩ := hq29
      replace hq_29 : OmP (FdC M 1) r_1.toInt v2 r_3 := hq_29
      replace hg_M_4 : ∀ a i, ¬ (a = 24 ∨ a = 25 ∨ a = 26) → M_4 a i = M a i := by exact fun a i q0 => hg_M_4 a i (by first | decide | (rcases hc0 with h | h <;> rw [h] <;> simp; done) | (rcases hb0 with h | h | h <;> rw [h] <;> simp; done) | (simp; done) | omega)
      rw [es] at hq_29
      exact wp_some ⟨(fun a i q0 => ((hg_M_4 a i (fun z8 => q0 ((fun z9 => Or.elim z9 (fun h9 => Or.inl h9) (fun z9 => Or.elim z9 (fun h9 => Or.inr (Or.inl h9)) (fun h9 => Or.inr (Or.inr (h9))))) z8))).trans rfl)), (pq_y ⟨ht, hr_11.mp c14⟩ hq_29)⟩
set_option maxHeartbeats 4000000 in
theorem om_X10_wouldDo (M : Mem) (v1 : Int32) (v2 : Int32) (v3 : Int32) (hs : 1 ≤ v3.toInt ∧ v3.toInt ≤ 30) (hxy : (0 ≤ v1.toInt ∧ v1.toInt ≤ 39) ∧ 1 ≤ v2.toInt ∧ v2.toInt ≤ 20) (hGd : GdF (FdR M 1)) : Wp (f_X10_wouldDo M v1 v2 v3) (fun q => (q = 0 ∨ q = 1) ∧ (¬ q.toInt = 0 ↔ ((v2.toInt ≤ v3.toInt) ∨ (∃ i, i < 40 ∧ rcR M 23 (FdR M 1) v3.toInt v1.toInt v2.toInt i)) ∧ ((21 - v2.toInt ≤ v3.toInt) ∨ (∃ i, i < 40 ∧ rcR M 24 (FdR M 1) v3.toInt v1.toInt v2.toInt i)))) := by
  have j10 : ∀ (t0_10 : Int32), (t0_10 = 0 ∨ t0_10 = 1) → ((t0_10 = nI 0 ∧ ¬ (v2.toInt ≤ v3.toInt)) ∨ (t0_10 = nI 1 ∧ (v2.toInt ≤ v3.toInt))) → Wp (f_X10_wouldDo_L10 M v1 v2 v3 t0_10) (fun q => (q = 0 ∨ q = 1) ∧ (¬ q.toInt = 0 ↔ ((v2.toInt ≤ v3.toInt) ∨ (∃ i, i < 40 ∧ rcR M 23 (FdR M 1) v3.toInt v1.toInt v2.toInt i)) ∧ ((21 - v2.toInt ≤ v3.toInt) ∨ (∃ i, i < 40 ∧ rcR M 24 (FdR M 1) v3.toInt v1.toInt v2.toInt i)))) := by
    intro t0_10 hb_t0_10 h10
    unfold f_X10_wouldDo_L10
    have j25 : ∀ (t0_25 : Int32), (t0_25 = 0 ∨ t0_25 = 1) → ((t0_25 = nI 0 ∧ ¬ (21 - v2.toInt ≤ v3.toInt)) ∨ (t0_25 = nI 1 ∧ (21 - v2.toInt ≤ v3.toInt))) → Wp (f_X10_wouldDo_L25 M v1 v2 v3 t0_10 t0_25) (fun q => (q = 0 ∨ q = 1) ∧ (¬ q.toInt = 0 ↔ ((v2.toInt ≤ v3.toInt) ∨ (∃ i, i < 40 ∧ rcR M 23 (FdR M 1) v3.toInt v1.toInt v2.toInt i)) ∧ ((21 - v2.toInt ≤ v3.toInt) ∨ (∃ i, i < 40 ∧ rcR M 24 (FdR M 1) v3.toInt v1.toInt v2.toInt i)))) := by
      intro t0_25 hb_t0_25 h25
      unfold f_X10_wouldDo_L25
      refine wp_lp3 (fun y4_30 y5_30 y6_30 => (0 ≤ y6_30.toInt) ∧ (HsI (v2.toInt ≤ v3.toInt) (rcR M 23 (FdR M 1) v3.toInt v1.toInt v2.toInt) (ix y6_30) y4_30) ∧ (HsI (21 - v2.toInt ≤ v3.toInt) (rcR M 24 (FdR M 1) v3.toInt v1.toInt v2.toInt) (ix y6_30) y5_30) ∧ (y6_30.toInt ≤ 40)) (fun y4_30 y5_30 y6_30 => (40 - y6_30.toInt).toNat) (fun ag30 y4_30 y5_30 y6_30 hI30 ih30 => ?_) FU t0_10 t0_25 (nI 0) ⟨(by have f0 := t_lit 0; omega), (by rw [show ix (nI 0) = 0 from (by decide)]; exact hs_b h10), (by rw [show ix (nI 0) = 0 from (by decide)]; exact hs_b h25), (by decide)⟩ (fu_lt (by have f0 := t_lit 0; omega))
      obtain ⟨hi30, hn, hf, h40⟩ := hI30
      have j149 : (ix y6_30 = 40) → Wp (f_X10_wouldDo_L149 y4_30 y5_30) (fun q => (q = 0 ∨ q = 1) ∧ (¬ q.toInt = 0 ↔ ((v2.toInt ≤ v3.toInt) ∨ (∃ i, i < 40 ∧ rcR M 23 (FdR M 1) v3.toInt v1.toInt v2.toInt i)) ∧ ((21 - v2.toInt ≤ v3.toInt) ∨ (∃ i, i < 40 ∧ rcR M 24 (FdR M 1) v3.toInt v1.toInt v2.toInt i)))) := by
        intro h149
        unfold f_X10_wouldDo_L149
        refine wp_ite (fun c151 => ?_) (fun c151 => ?_)
        · exact wp_some ⟨b01_0, (by rw [h149] at hn hf; have a := hs_iff hn; have b9 := hs_iff hf; exact ⟨fun z => absurd nI0 z, fun z => (a.mpr z.1 c151 : False).elim⟩)⟩
        · refine wp_ite (fun c156 => ?_) (fun c156 => ?_)
          · exact wp_some ⟨b01_0, (by rw [h149] at hn hf; have a := hs_iff hn; have b9 := hs_iff hf; exact ⟨fun z => absurd nI0 z, fun z => (b9.mpr z.2 c156 : False).elim⟩)⟩
          · exact wp_some ⟨b01_1, (by rw [h149] at hn hf; have a := hs_iff hn; have b9 := hs_iff hf; exact ⟨fun _ => ⟨a.mp c151, b9.mp c156⟩, fun _ => ne1⟩)⟩
      refine wp_ite (fun c34 => ?_) (fun c34 => ?_)
      · exact j149 ((ix_eq (by omega) (by decide)).mpr (by omega))
      · have u := up40 hi30 c34
        refine wp_bind2 (ow_X10_isDry M y6_30 ⟨hi30, u.2.2⟩ hGd) (fun r_1 he40 hq40 => ?_)
        obtain ⟨hz_r_1, hr_40, hd_40⟩ := hq40
        replace hr_40 : ¬ r_1.toInt = 0 → (M 1 (ix y6_30)).toInt = 1 := hr_40
        replace hd_40 : ¬ r_1.toInt = 0 ↔ dryG (FdR M 1) (ix y6_30) := hd_40
        refine wp_ite (fun c43 => ?_) (fun c43 => ?_)
        · exact ih30 y4_30 y5_30 (y6_30 + (nI 1)) ⟨(by have f0 := t_lit 1; have f1 := t_add y6_30 (nI 1); omega), (by rw [u.1]; exact hs_n hn (fun z => hd_40.mpr z.1 c43)), (by rw [u.1]; exact hs_n hf (fun z => hd_40.mpr z.1 c43)), (le40 hi30 c34)⟩ (by have f0 := t_lit 1; have f1 := t_add y6_30 (nI 1); omega)
        · have dr := hd_40.mp c43
          have y9 := dry_b hGd dr
          refine wp_gd (by have f0 := t_lit 40; have f1 := t_add (nI 40) y6_30; omega) ?_
          refine wp_bnd (fun x_2 ex_2 => ?_)
          have q2 : x_2.toInt = ((FdR M 1) 1 (ix y6_30)).toInt - v1.toInt := by
            rw [ex_2, fdr_x hi30 u.2.2 dr.1.2]
            have f := t_sub ((FdR M 1) 1 (ix y6_30)) v1
            omega
          refine wp_gd (by have f0 := t_lit 80; have f1 := t_add (nI 80) y6_30; omega) ?_
          refine wp_bnd (fun x_3 ex_3 => ?_)
          have q3 : x_3.toInt = ((FdR M 1) 2 (ix y6_30)).toInt - v2.toInt := by
            rw [ex_3, fdr_y hi30 u.2.2 dr.1.2]
            have f := t_sub ((FdR M 1) 2 (ix y6_30)) v2
            omega
          have ed := t_dd (x := x_2) (y := x_3) (by omega) (by omega)
          rw [q2, q3] at ed
          have sv := t_sq (x := v3) (by omega)
          refine wp_ite (fun c91 => ?_) (fun c91 => ?_)
          · have cl : clP (FdR M 1) v3.toInt (ix y6_30) v1.toInt v2.toInt := by
              rw [ed, sv.1] at c91
              exact c91
            have j118 : ∀ (t0_118 : Int32), (t0_118 = 0 ∨ t0_118 = 1) → (HsI (v2.toInt ≤ v3.toInt) (rcR M 23 (FdR M 1) v3.toInt v1.toInt v2.toInt) (ix y6_30 + 1) t0_118) → Wp (f_X10_wouldDo_L118 M ag30 y5_30 y6_30 t0_118) (fun q => (q = 0 ∨ q = 1) ∧ (¬ q.toInt = 0 ↔ ((v2.toInt ≤ v3.toInt) ∨ (∃ i, i < 40 ∧ rcR M 23 (FdR M 1) v3.toInt v1.toInt v2.toInt i)) ∧ ((21 - v2.toInt ≤ v3.toInt) ∨ (∃ i, i < 40 ∧ rcR M 24 (FdR M 1) v3.toInt v1.toInt v2.toInt i)))) := by
              intro t0_118 hb_t0_118 h118
              unfold f_X10_wouldDo_L118
              refine wp_ite (fun c122 => ?_) (fun c122 => ?_)
              · refine wp_gd (by omega) ?_
                refine wp_ite (fun c133 => ?_) (fun c133 => ?_)
                · exact ih30 t0_118 (nI 0) (y6_30 + (nI 1)) ⟨(by have f0 := t_lit 1; have f1 := t_add y6_30 (nI 1); omega), (by rw [u.1]; exact h118), (by rw [u.1]; exact hs_z hf c122 (fun z => z.2.2 c133)), (le40 hi30 c34)⟩ (by have f0 := t_lit 1; have f1 := t_add y6_30 (nI 1); omega)
                · exact ih30 t0_118 (nI 1) (y6_30 + (nI 1)) ⟨(by have f0 := t_lit 1; have f1 := t_add y6_30 (nI 1); omega), (by rw [u.1]; exact h118), (by rw [u.1]; exact hs_y ⟨dr, cl, c133⟩), (le40 hi30 c34)⟩ (by have f0 := t_lit 1; have f1 := t_add y6_30 (nI 1); omega)
              · exact ih30 t0_118 (nI 1) (y6_30 + (nI 1)) ⟨(by have f0 := t_lit 1; have f1 := t_add y6_30 (nI 1); omega), (by rw [u.1]; exact h118), (by rw [u.1]; exact hs_k hf c122), (le40 hi30 c34)⟩ (by have f0 := t_lit 1; have f1 := t_add y6_30 (nI 1); omega)
            have j113 : (HsI (v2.toInt ≤ v3.toInt) (rcR M 23 (FdR M 1) v3.toInt v1.toInt v2.toInt) (ix y6_30 + 1) (nI 1)) → Wp (f_X10_wouldDo_L113 M ag30 y5_30 y6_30) (fun q => (q = 0 ∨ q = 1) ∧ (¬ q.toInt = 0 ↔ ((v2.toInt ≤ v3.toInt) ∨ (∃ i, i < 40 ∧ rcR M 23 (FdR M 1) v3.toInt v1.toInt v2.toInt i)) ∧ ((21 - v2.toInt ≤ v3.toInt) ∨ (∃ i, i < 40 ∧ rcR M 24 (FdR M 1) v3.toInt v1.toInt v2.toInt i)))) := by
              intro h113
              unfold f_X10_wouldDo_L113
              exact j118 (nI 1) b01_1 h113
            refine wp_ite (fun c99 => ?_) (fun c99 => ?_)
            · refine wp_gd (by omega) ?_
              refine wp_ite (fun c110 => ?_) (fun c110 => ?_)
              · exact j118 (nI 0) b01_0 (hs_z hn c99 (fun z => z.2.2 c110))
              · exact j113 (hs_y ⟨dr, cl, c110⟩)
            · exact j113 (hs_k hn c99)
          · exact ih30 y4_30 y5_30 (y6_30 + (nI 1)) ⟨(by have f0 := t_lit 1; have f1 := t_add y6_30 (nI 1); omega), (by rw [u.1]; exact hs_n hn (fun z => c91 (by rw [ed, sv.1]; exact z.2.1))), (by rw [u.1]; exact hs_n hf (fun z => c91 (by rw [ed, sv.1]; exact z.2.1))), (le40 hi30 c34)⟩ (by have f0 := t_lit 1; have f1 := t_add y6_30 (nI 1); omega)
    refine wp_ite (fun c17 => ?_) (fun c17 => ?_)
    · exact j25 (nI 0) b01_0 (Or.inl ⟨rfl, by have f21 := t_sub (nI 21) v2; have l21 := t_lit 21; omega⟩)
    · exact j25 (nI 1) b01_1 (Or.inr ⟨rfl, by have f21 := t_sub (nI 21) v2; have l21 := t_lit 21; omega⟩)
  refine wp_ite (fun c2 => ?_) (fun c2 => ?_)
  · exact j10 (nI 0) b01_0 (Or.inl ⟨rfl, by omega⟩)
  · exact j10 (nI 1) b01_1 (Or.inr ⟨rfl, by omega⟩)
set_option maxHeartbeats 4000000 in
theorem om_X10_oneMore (M : Mem) (v1 : Int32) (v2 : Int32) (hGd : GdF (FdR M 1)) (hSr : SrR M) : Wp (f_X10_oneMore M v1 v2) (fun q => (∀ a i, ¬ (a = 23 ∨ a = 24 ∨ a = 25) → q.2 a i = M a i) ∧ (PqP (TpR M v1 ∧ EiW v2) (OmP (FdR M 1) (M 4 (ix v1)).toInt v2 q.1) q.1)) := by
  refine wp_bind2 (oq_X10_isPerson M v1) (fun r_1 he2 hq2 => ?_)
  obtain ⟨hz_r_1, hr_2, hi_2⟩ := hq2
  replace hr_2 : ¬ r_1.toInt = 0 → 0 ≤ v1.toInt ∧ v1.toInt < 8 := hr_2
  replace hi_2 : ¬ r_1.toInt = 0 ↔ TpR M v1 := hi_2
  refine wp_ite (fun c5 => ?_) (fun c5 => ?_)
  · exact wp_some ⟨(fun _ _ _ => rfl), (pq_n (fun z => hi_2.mpr z.1 c5) rfl)⟩
  · have ht := hi_2.mp c5
    have sr := hSr v1 ht
    refine wp_bind2 (o2_X10_in M v2 (nI 0) (nI 1)) (fun r_2 he11 hq11 => ?_)
    obtain ⟨hz_r_2, hr_11, hi_11⟩ := hq11
    replace hr_11 : ¬ r_2.toInt = 0 → (nI 0).toInt ≤ v2.toInt ∧ v2.toInt ≤ (nI 1).toInt := hr_11
    have := t_lit 0
    have := t_lit 1
    replace hi_11 : ¬ r_2.toInt = 0 ↔ (nI 0).toInt ≤ v2.toInt ∧ v2.toInt ≤ (nI 1).toInt := hi_11
    have := t_lit 0
    have := t_lit 1
    refine wp_ite (fun c14 => ?_) (fun c14 => ?_)
    · exact wp_some ⟨(fun _ _ _ => rfl), (pq_n (fun z => hi_11.mpr (by have f0 := t_lit 0; have f1 := t_lit 1; have q := z.2.1; have q2 := z.2.2; omega) c14) rfl)⟩
    · refine wp_gd (by omega) ?_
      refine wp_bnd (fun x_3 ex_3 => ?_)
      rw [← ex_3] at sr
      refine wp_cb2 (ow_X10_crossing M x_3 ⟨by omega, by omega⟩ hGd) (fun r_4 M_5 he28 hq28 => ?_)
      obtain ⟨hg_M_5, hcr_28, hst_28⟩ := hq28
      replace hcr_28 : CrK (FdR M 1) x_3.toInt r_4.toInt := hcr_28
      replace hst_28 : x_3.toInt < 21 → Bend 40 (nearG (FdR M 1) x_3.toInt) (adjG (FdR M 1) x_3.toInt) (fun j => (M_5 23 j).toInt) := hst_28
      replace hg_M_5 : ∀ a i, ¬ (a = 23 ∨ a = 25) → M_5 a i = M a i := hg_M_5
      have f5 : FdR M_5 1 = (FdR M 1) := fdr_same (fun j hj => hg_M_5 1 j (by first | decide | (rcases hc0 with h | h <;> rw [h] <;> simp; done) | (rcases hb0 with h | h | h <;> rw [h] <;> simp; done) | (simp; done) | omega))
      refine wp_ite (fun c32 => ?_) (fun c32 => ?_)
      · have hnc := cr_n hcr_28 c32
        have hE5 := hst_28 (by have z := (nc_d hnc).1; omega)
        refine wp_bind2 (ow_X10_laysSteps (by decide) M_5 (nI 0) x_3 rfl (by omega) ⟨by omega, by omega⟩ (by rw [f5]; exact hGd)) (fun M_6 he45 hq45 => ?_)
        obtain ⟨hg_M_6, hNR_45, hFR_45⟩ := hq45
        replace hNR_45 : ¬ (nI 0).toInt = 0 → Bend 40 (nearG (FdR M_5 1) x_3.toInt) (adjG (FdR M_5 1) x_3.toInt) (fun j => (M_6 24 j).toInt) := hNR_45
        have := t_lit 0
        replace hFR_45 : (nI 0).toInt = 0 → Bend 40 (farG (FdR M_5 1) x_3.toInt) (adjG (FdR M_5 1) x_3.toInt) (fun j => (M_6 24 j).toInt) := hFR_45
        have := t_lit 0
        replace hg_M_6 : ∀ a i, ¬ (a = 24 ∨ a = 25) → M_6 a i = M_5 a i := by exact fun a i q0 => hg_M_6 a i (by first | decide | (rcases hc0 with h | h <;> rw [h] <;> simp; done) | (rcases hb0 with h | h | h <;> rw [h] <;> simp; done) | (simp; done) | omega)
        have hF6 := hFR_45 nI0
        rw [f5] at hF6
        have f6 : FdR M_6 1 = (FdR M 1) := (fdr_same (fun j hj => hg_M_6 1 j (by first | decide | (rcases hc0 with h | h <;> rw [h] <;> simp; done) | (rcases hb0 with h | h | h <;> rw [h] <;> simp; done) | (simp; done) | omega))).trans f5
        have r23 : ∀ j, M_6 23 j = M_5 23 j := fun j => hg_M_6 23 j (by first | decide | (rcases hc0 with h | h <;> rw [h] <;> simp; done) | (rcases hb0 with h | h | h <;> rw [h] <;> simp; done) | (simp; done) | omega)
        have hE6 : Bend 40 (nearG (FdR M 1) x_3.toInt) (adjG (FdR M 1) x_3.toInt) (fun j => (M_6 23 j).toInt) := by
          rw [show (fun j => (M_6 23 j).toInt) = (fun j => (M_5 23 j).toInt) from funext (fun j => by rw [r23])]
          exact hE5
        rw [ex_3] at hnc hE6 hF6
        refine wp_lp1 (fun y4_51 => (1 ≤ y4_51.toInt) ∧ (1 ≤ y4_51.toInt) ∧ (PlN (FdR M 1) (M 4 (ix v1)).toInt (40 * y4_51.toInt))) (fun y4_51 => (20 + 1 - y4_51.toInt).toNat) (fun ag51 y4_51 hI51 ih51 => ?_) FU (nI 1) ⟨(by have f0 := t_lit 1; omega), (by decide), (pl_0 (by decide))⟩ (fu_lt (by have f0 := t_lit 1; omega))
        obtain ⟨hi51, k51, h51⟩ := hI51
        refine wp_ite (fun c55 => ?_) (fun c55 => ?_)
        · exact wp_some ⟨(fun a i q0 => ((hg_M_6 a i (fun z8 => q0 ((fun z9 => Or.elim z9 (fun h9 => Or.inr (Or.inl h9)) (fun h9 => Or.inr (Or.inr (h9)))) z8))).trans ((hg_M_5 a i (fun z8 => q0 ((fun z9 => Or.elim z9 (fun h9 => Or.inl h9) (fun h9 => Or.inr (Or.inr (h9)))) z8))).trans rfl))), (pq_y ⟨ht, (show EiW v2 from by unfold EiW; have f0 := t_lit 0; have f1 := t_lit 1; have q := hi_11.mp c14; omega)⟩ (Or.inr ⟨hnc, Or.inl ⟨fun x y a b d e f => h51 x y a b d e (by omega), rfl⟩⟩))⟩
        · have uy := t_inc y4_51 1 (by omega)
          refine wp_lp1 (fun y5_61 => (0 ≤ y5_61.toInt) ∧ (y5_61.toInt ≤ 40) ∧ (PlN (FdR M 1) (M 4 (ix v1)).toInt (40 * y4_51.toInt + y5_61.toInt))) (fun y5_61 => (40 - y5_61.toInt).toNat) (fun ag61 y5_61 hI61 ih61 => ?_) FU (nI 0) ⟨(by have f0 := t_lit 0; omega), (by decide), (pl_e h51 (by rw [nI0]; omega))⟩ (fu_lt (by have f0 := t_lit 0; omega))
          obtain ⟨hi61, k61, h61⟩ := hI61
          refine wp_ite (fun c65 => ?_) (fun c65 => ?_)
          · exact ih51 (y4_51 + (nI 1)) ⟨(by have f0 := t_lit 1; have f1 := t_add y4_51 (nI 1); omega), (by rw [uy]; omega), (pl_e h61 (by rw [uy]; omega))⟩ (by have f0 := t_lit 1; have f1 := t_add y4_51 (nI 1); omega)
          · have ux := t_inc y5_61 1 (by omega)
            have jr := jn_r (x := y5_61.toInt) (y := y4_51.toInt) hE6 hF6
            refine wp_bind2 (o8_X10_stoneAt M_6 y5_61 y4_51 (by rw [f6]; exact hGd.1.1)) (fun r_7 he73 hq73 => ?_)
            obtain ⟨hr_73, hsa_73⟩ := hq73
            replace hr_73 : r_7.toInt = -1 ∨ ((0 ≤ r_7.toInt ∧ r_7.toInt < 40) ∧ (M_6 1 (ix r_7)).toInt = 1 ∧ (M_6 1 (ix (nI 40 + r_7))).toInt = y5_61.toInt ∧ (M_6 1 (ix (nI 80 + r_7))).toInt = y4_51.toInt) := hr_73
            replace hsa_73 : r_7 = stA (FdR M_6 1) y5_61.toInt y4_51.toInt 40 0 := hsa_73
            rw [f6] at hsa_73
            refine wp_ite (fun c77 => ?_) (fun c77 => ?_)
            · refine wp_bind2 (om_X10_wouldDo M_6 y5_61 y4_51 x_3 sr ⟨⟨by omega, by omega⟩, k51, by omega⟩ (by rw [f6]; exact hGd)) (fun r_8 he86 hq86 => ?_)
              obtain ⟨hz_r_8, hj_86⟩ := hq86
              replace hj_86 : ¬ r_8.toInt = 0 ↔ ((y4_51.toInt ≤ x_3.toInt) ∨ (∃ i, i < 40 ∧ rcR M_6 23 (FdR M_6 1) x_3.toInt y5_61.toInt y4_51.toInt i)) ∧ ((21 - y4_51.toInt ≤ x_3.toInt) ∨ (∃ i, i < 40 ∧ rcR M_6 24 (FdR M_6 1) x_3.toInt y5_61.toInt y4_51.toInt i)) := hj_86
              rw [f6, ex_3] at hj_86
              have j92 : (JnG (FdR M 1) (M 4 (ix v1)).toInt y5_61.toInt y4_51.toInt) → Wp (f_X10_oneMore_L92 v2 M_6 y4_51 y5_61) (fun q => (∀ a i, ¬ (a = 23 ∨ a = 24 ∨ a = 25) → q.2 a i = M a i) ∧ (PqP (TpR M v1 ∧ EiW v2) (OmP (FdR M 1) (M 4 (ix v1)).toInt v2 q.1) q.1)) := by
                intro h92
                unfold f_X10_oneMore_L92
                refine wp_ite (fun c93 => ?_) (fun c93 => ?_)
                · exact wp_some ⟨(fun a i q0 => ((hg_M_6 a i (fun z8 => q0 ((fun z9 => Or.elim z9 (fun h9 => Or.inr (Or.inl h9)) (fun h9 => Or.inr (Or.inr (h9)))) z8))).trans ((hg_M_5 a i (fun z8 => q0 ((fun z9 => Or.elim z9 (fun h9 => Or.inl h9) (fun h9 => Or.inr (Or.inr (h9)))) z8))).trans rfl))), (pq_y ⟨ht, (show EiW v2 from by unfold EiW; have f0 := t_lit 0; have f1 := t_lit 1; have q := hi_11.mp c14; omega)⟩ (Or.inr ⟨hnc, Or.inr ⟨y5_61, y4_51, ⟨⟨by omega, by omega⟩, k51, by omega⟩, h61, h92, Or.inl ⟨c93, rfl⟩⟩⟩))⟩
                · exact wp_some ⟨(fun a i q0 => ((hg_M_6 a i (fun z8 => q0 ((fun z9 => Or.elim z9 (fun h9 => Or.inr (Or.inl h9)) (fun h9 => Or.inr (Or.inr (h9)))) z8))).trans ((hg_M_5 a i (fun z8 => q0 ((fun z9 => Or.elim z9 (fun h9 => Or.inl h9) (fun h9 => Or.inr (Or.inr (h9)))) z8))).trans rfl))), (pq_y ⟨ht, (show EiW v2 from by unfold EiW; have f0 := t_lit 0; have f1 := t_lit 1; have q := hi_11.mp c14; omega)⟩ (Or.inr ⟨hnc, Or.inr ⟨y5_61, y4_51, ⟨⟨by omega, by omega⟩, k51, by omega⟩, h61, h92, Or.inr ⟨c93, rfl⟩⟩⟩))⟩
              refine wp_ite (fun c89 => ?_) (fun c89 => ?_)
              · exact ih61 (y5_61 + (nI 1)) ⟨(by have f0 := t_lit 1; have f1 := t_add y5_61 (nI 1); omega), (by rw [ux]; omega), (pl_n h61 ⟨by omega, by omega⟩ (fun z => hj_86.mpr (jr.mpr z).1 c89) (by rw [ux]; omega))⟩ (by have f0 := t_lit 1; have f1 := t_add y5_61 (nI 1); omega)
              · exact j92 (jr.mp ⟨hj_86.mp c89, t_of (by rw [← hsa_73, c77]; decide)⟩)
            · exact ih61 (y5_61 + (nI 1)) ⟨(by have f0 := t_lit 1; have f1 := t_add y5_61 (nI 1); omega), (by rw [ux]; omega), (pl_n h61 ⟨by omega, by omega⟩ (fun z => c77 (by rw [hsa_73, (jr.mpr z).2]; decide)) (by rw [ux]; omega))⟩ (by have f0 := t_lit 1; have f1 := t_add y5_61 (nI 1); omega)
      · exact wp_some ⟨(fun a i q0 => ((hg_M_5 a i (fun z8 => q0 ((fun z9 => Or.elim z9 (fun h9 => Or.inl h9) (fun h9 => Or.inr (Or.inr (h9)))) z8))).trans rfl)), (pq_y ⟨ht, (show EiW v2 from by unfold EiW; have f0 := t_lit 0; have f1 := t_lit 1; have q := hi_11.mp c14; omega)⟩ (Or.inl ⟨by rw [ex_3] at hcr_28; exact cr_y hcr_28 c32, rfl⟩))⟩
