/-! the stones of a notebook -/
def lyQ (G : Mem) (n : Nat) (q : Int × Int × Int × Int × Int) : Mem := lyF G n (Int32.ofInt q.1) (Int32.ofInt q.2.1) (Int32.ofInt q.2.2.1) (Int32.ofInt q.2.2.2.1)
def bookB (T : Int → Int) : Nat → Int → Nat → (Nat → Int) → (Nat → Int) → Mem → Sum Int (Nat × Mem)
  | 0, _, _, _, _, _ => .inl (-1)
  | k + 1, p, n, X, Y, G => if 40 ≤ n then .inl (if dgt (T p) = true then -4000 - p else -1000 - p) else match lineS T p X Y n with
    | .inl f => .inl f
    | .inr q => if T q.2.2.2.2 = -1 then .inr (n + 1, lyQ G n q) else if T q.2.2.2.2 = 59 then bookB T k (q.2.2.2.2 + 1) (n + 1) (pu X n q.1) (pu Y n q.2.1) (lyQ G n q) else .inl (-1000 - q.2.2.2.2)
termination_by k => k
theorem bookB_ext {T : Int → Int} : ∀ {k n : Nat} {p : Int} {X Y X' Y' : Nat → Int} {G : Mem}, (∀ i, i < n → X i = X' i ∧ Y i = Y' i) → bookB T k p n X Y G = bookB T k p n X' Y' G
  | 0, _, _, _, _, _, _, _, _ => by simp only [bookB]
  | k + 1, n, p, X, Y, X', Y', G, h => by
    have e := lineS_ext (T := T) (p := p) h
    have e2 : ∀ (q : Int × Int × Int × Int × Int) (H : Mem), bookB T k (q.2.2.2.2 + 1) (n + 1) (pu X n q.1) (pu Y n q.2.1) H = bookB T k (q.2.2.2.2 + 1) (n + 1) (pu X' n q.1) (pu Y' n q.2.1) H := fun q H => bookB_ext (fun i hi => by
      by_cases c : i = n
      · rw [c, pu_s, pu_s, pu_s, pu_s]; exact ⟨rfl, rfl⟩
      · rw [pu_n c, pu_n c, pu_n c, pu_n c]; exact h i (by omega))
    simp only [bookB, e, e2]
theorem bookB_40 {T : Int → Int} {k n : Nat} {p : Int} {X Y : Nat → Int} {G : Mem} (h : 40 ≤ n) : bookB T (k + 1) p n X Y G = .inl (if dgt (T p) = true then -4000 - p else -1000 - p) := by
  simp only [bookB]
  rw [if_pos h]
theorem bookB_f {T : Int → Int} {k n : Nat} {p f : Int} {X Y : Nat → Int} {G : Mem} (h : ¬ 40 ≤ n) (hl : lineS T p X Y n = .inl f) : bookB T (k + 1) p n X Y G = .inl f := by
  simp only [bookB]
  rw [if_neg h, hl]
theorem bookB_e {T : Int → Int} {k n : Nat} {p : Int} {q : Int × Int × Int × Int × Int} {X Y : Nat → Int} {G : Mem} (h : ¬ 40 ≤ n) (hl : lineS T p X Y n = .inr q) (he : T q.2.2.2.2 = -1) : bookB T (k + 1) p n X Y G = .inr (n + 1, lyQ G n q) := by
  simp only [bookB]
  rw [if_neg h, hl]
  exact if_pos he
theorem bookB_w {T : Int → Int} {k n : Nat} {p : Int} {q : Int × Int × Int × Int × Int} {X Y : Nat → Int} {G : Mem} (h : ¬ 40 ≤ n) (hl : lineS T p X Y n = .inr q) (he : ¬ T q.2.2.2.2 = -1) (h9 : ¬ T q.2.2.2.2 = 59) : bookB T (k + 1) p n X Y G = .inl (-1000 - q.2.2.2.2) := by
  simp only [bookB]
  rw [if_neg h, hl]
  show (if T q.2.2.2.2 = -1 then _ else _) = _
  rw [if_neg he, if_neg h9]
theorem bookB_n {T : Int → Int} {k n : Nat} {p : Int} {q : Int × Int × Int × Int × Int} {X Y : Nat → Int} {G : Mem} (h : ¬ 40 ≤ n) (hl : lineS T p X Y n = .inr q) (h9 : T q.2.2.2.2 = 59) : bookB T (k + 1) p n X Y G = bookB T k (q.2.2.2.2 + 1) (n + 1) (pu X n q.1) (pu Y n q.2.1) (lyQ G n q) := by
  simp only [bookB]
  rw [if_neg h, hl]
  show (if T q.2.2.2.2 = -1 then _ else _) = _
  rw [if_neg (by omega), if_pos h9]
/-- behind a line that went well -/
def bookC (T : Int → Int) (n : Nat) (p : Int) (X Y : Nat → Int) (G : Mem) : Sum Int (Nat × Mem) := if T p = -1 then .inr (n, G) else if T p = 59 then bookB T (41 - n) (p + 1) n X Y G else .inl (-1000 - p)
theorem bookC_e {T : Int → Int} {n : Nat} {p : Int} {X Y : Nat → Int} {G : Mem} (h : T p = -1) : bookC T n p X Y G = .inr (n, G) := if_pos h
theorem bookC_n {T : Int → Int} {n : Nat} {p : Int} {X Y : Nat → Int} {G : Mem} (h : T p = 59) : bookC T n p X Y G = bookB T (41 - n) (p + 1) n X Y G := by
  unfold bookC
  rw [if_neg (by omega), if_pos h]
theorem bookC_w {T : Int → Int} {n : Nat} {p : Int} {X Y : Nat → Int} {G : Mem} (h1 : ¬ T p = -1) (h : ¬ T p = 59) : bookC T n p X Y G = .inl (-1000 - p) := by
  unfold bookC
  rw [if_neg h1, if_neg h]
theorem bb_step {T : Int → Int} {X Y X' Y' : Nat → Int} {n : Nat} {p res flt pl x y s u lo hi : Int} {G H : Mem} (hn : n < 40) (hL : LinP (lineS T p X Y n) res flt pl x y s u lo hi) (hx : X' n = x) (hy : Y' n = y) (he : ∀ i, i < n → X' i = X i ∧ Y' i = Y i) (hH : ¬ res = 0 → H = lyQ G n (x, y, s, u, pl)) : (res = 0 → bookB T (41 - n) p n X Y G = .inl flt) ∧ (¬ res = 0 → bookB T (41 - n) p n X Y G = bookC T (n + 1) pl X' Y' H) := by
  rw [show 41 - n = (40 - n) + 1 from by omega]
  refine ⟨fun z => bookB_f (by omega) (linP_f hL z), fun z => ?_⟩
  have l1 := (linP_v hL z).1
  rw [hH z]
  by_cases c1 : T pl = -1
  · rw [bookB_e (by omega) l1 c1, bookC_e c1]
  · by_cases c2 : T pl = 59
    · rw [bookB_n (by omega) l1 c2, bookC_n c2, show 41 - (n + 1) = 40 - n from by omega]
      exact bookB_ext (fun i hi => by
        by_cases e9 : i = n
        · rw [e9, pu_s, pu_s, hx, hy]; exact ⟨rfl, rfl⟩
        · rw [pu_n e9, pu_n e9]; exact ⟨(he i (by omega)).1.symm, (he i (by omega)).2.symm⟩)
    · rw [bookB_w (by omega) l1 c1 c2, bookC_w c1 c2]
/-! what a line says -/
theorem numS_o {T : Int → Int} {p : Int} {k : Nat} (h : 0 ≤ p) : match numS T p k with | .inl f => f < 0 | .inr q => 0 ≤ q.1 ∧ 0 ≤ q.2 := by
  unfold numS
  by_cases a : nd T p k = 0
  · rw [if_pos a]
    exact (show -1000 - p < 0 by omega)
  · rw [if_neg a]
    by_cases b : dgt (T (p + nd T p k)) = true
    · rw [if_pos b]
      exact (show -2000 - (p + nd T p k) < 0 by omega)
    · rw [if_neg b]
      exact ⟨(nvv_bd (fun i hi => nd_dg T k p i hi)).1, (show 0 ≤ p + nd T p k by omega)⟩
def LnO (X Y : Nat → Int) (n : Nat) (r : Sum Int (Int × Int × Int × Int × Int)) : Prop := match r with
  | .inl f => f < 0
  | .inr q => (0 ≤ q.1 ∧ q.1 ≤ 39) ∧ (1 ≤ q.2.1 ∧ q.2.1 ≤ 20) ∧ (0 ≤ q.2.2.1 ∧ q.2.2.1 ≤ 9) ∧ (q.2.2.2.1 = 0 ∨ q.2.2.2.1 = 1) ∧ 0 ≤ q.2.2.2.2 ∧ dupS X Y q.1 q.2.1 n = false
theorem tailS_o {T : Int → Int} {p x y : Int} {X Y : Nat → Int} {n : Nat} (h : 0 ≤ p) (hx : 0 ≤ x ∧ x ≤ 39) (hy : 1 ≤ y ∧ y ≤ 20) (hd : dupS X Y x y n = false) : LnO X Y n (lineZ x y (tailS T p)) := by
  have u : ∀ (q : Int), 0 ≤ q → ∀ s, 0 ≤ s ∧ s ≤ 9 → LnO X Y n (lineZ x y (.inr (s, if T q = 117 then (1, q + 1) else (0, q)))) := fun q hq s hs => by
    by_cases c : T q = 117
    · rw [if_pos c]
      exact ⟨hx, hy, hs, Or.inr rfl, (show 0 ≤ q + 1 by omega), hd⟩
    · rw [if_neg c]
      exact ⟨hx, hy, hs, Or.inl rfl, hq, hd⟩
  unfold tailS
  by_cases a : T p = 115
  · rw [if_pos a]
    by_cases b : dgt (T (p + 1)) = true
    · rw [if_pos b]
      have z := u (p + 2) (by omega) (T (p + 1) - 48) (by have := dgt_i b; omega)
      rw [show p + 2 + 1 = p + 3 from by omega] at z
      exact z
    · rw [if_neg b]
      exact (show -1000 - (p + 1) < 0 by omega)
  · rw [if_neg a]
    exact u p h 0 (by omega)
theorem lineS_o {T : Int → Int} {p : Int} {X Y : Nat → Int} {n : Nat} (h : 0 ≤ p) : LnO X Y n (lineS T p X Y n) := by
  have h1 := numS_o (T := T) (p := p) (k := 2) h
  unfold lineS
  cases e1 : numS T p 2 with
  | inl f =>
    rw [e1] at h1
    exact h1
  | inr q =>
    rw [e1] at h1
    obtain ⟨a1, a2⟩ : 0 ≤ q.1 ∧ 0 ≤ q.2 := h1
    show LnO X Y n (lineX T p X Y n q.1 q.2)
    unfold lineX
    by_cases c : 39 < q.1
    · rw [if_pos c]
      exact (show -3000 - p < 0 by omega)
    · rw [if_neg c]
      by_cases d : T q.2 = 44
      · rw [if_pos d]
        have h2 := numS_o (T := T) (p := q.2 + 1) (k := 2) (by omega)
        unfold lineY
        cases e2 : numS T (q.2 + 1) 2 with
        | inl f =>
          rw [e2] at h2
          exact h2
        | inr q2 =>
          rw [e2] at h2
          obtain ⟨b1, b2⟩ : 0 ≤ q2.1 ∧ 0 ≤ q2.2 := h2
          show LnO X Y n (if 1 ≤ q2.1 ∧ q2.1 ≤ 20 then (if dupS X Y q.1 q2.1 n = true then .inl (-6000 - p) else lineZ q.1 q2.1 (tailS T q2.2)) else .inl (-3000 - (q.2 + 1)))
          by_cases g : 1 ≤ q2.1 ∧ q2.1 ≤ 20
          · rw [if_pos g]
            by_cases k : dupS X Y q.1 q2.1 n = true
            · rw [if_pos k]
              exact (show -6000 - p < 0 by omega)
            · rw [if_neg k]
              exact tailS_o b2 (by omega) g (Bool.eq_false_iff.mpr k)
          · rw [if_neg g]
            exact (show -3000 - (q.2 + 1) < 0 by omega)
      · rw [if_neg d]
        exact (show -1000 - q.2 < 0 by omega)
theorem dup_n {X Y : Nat → Int} {x y : Int} : ∀ n, dupS X Y x y n = false → ∀ i, i < n → ¬ (X i = x ∧ Y i = y) := fun n h i hi z => by
  rw [dup_t z n hi] at h
  exact absurd h (by decide)
theorem t_ofI {z : Int} (h : -2147483648 ≤ z ∧ z ≤ 2147483647) : (Int32.ofInt z).toInt = z := by
  rw [Int32.toInt_ofInt_of_le (by omega) (by omega)]
/-- told up to n, at X, Y -/
def BkI (G : Mem) (n : Nat) (X Y : Nat → Int) : Prop := (∀ i, i < 40 → (tld G i ↔ i < n)) ∧ ∀ i, i < n → (G 1 i).toInt = X i ∧ (G 2 i).toInt = Y i
theorem cps_ly {A B : Mem} {i : Nat} {x y s u : Int32} : cpS A (lyF B i x y s u) = lyF (cpS A B) i x y s u := funext (fun a => funext (fun j => by
  unfold cpS
  by_cases c : a = 0
  · rw [if_pos c, c, ly_0, if_pos rfl]
  · rw [if_neg c]
    by_cases d : j = i
    · rw [d]
      unfold lyF mset
      by_cases e : a = 5
      · rw [e]
        simp
      · by_cases e3 : a = 3
        · rw [e3]
          simp
        · by_cases e2 : a = 2
          · rw [e2]
            simp
          · by_cases e1 : a = 1
            · rw [e1]
              simp
            · by_cases e4 : a = 4
              · rw [e4]
                simp
              · simp [e, e3, e2, e1, e4, c]
    · rw [ly_o d, ly_o d, if_neg c]))
theorem bk_gd {A G : Mem} {n : Nat} {X Y : Nat → Int} {q : Int × Int × Int × Int × Int} (h : GdF (cpS A G)) (hI : BkI G n X Y) (hn : n < 40) (hl : LnO X Y n (.inr q)) : GdF (cpS A (lyQ G n q)) ∧ BkI (lyQ G n q) (n + 1) (pu X n q.1) (pu Y n q.2.1) := by
  obtain ⟨l1, l2, l3, l4, l5, l6⟩ : (0 ≤ q.1 ∧ q.1 ≤ 39) ∧ (1 ≤ q.2.1 ∧ q.2.1 ≤ 20) ∧ (0 ≤ q.2.2.1 ∧ q.2.2.1 ≤ 9) ∧ (q.2.2.2.1 = 0 ∨ q.2.2.2.1 = 1) ∧ 0 ≤ q.2.2.2.2 ∧ dupS X Y q.1 q.2.1 n = false := hl
  have ex := t_ofI (z := q.1) (by omega)
  have ey := t_ofI (z := q.2.1) (by omega)
  have es := t_ofI (z := q.2.2.1) (by omega)
  have eu := t_ofI (z := q.2.2.2.1) (by omega)
  have hd := dup_n n l6
  have tc : ∀ k, tld (cpS A G) k ↔ tld G k := fun k => Iff.rfl
  refine ⟨?_, fun i hi => ?_, fun i hi => ?_⟩
  · unfold lyQ
    rw [cps_ly]
    refine gd_ly h hn (by rw [ex]; exact l1) (by rw [ey]; exact l2) (by rw [es]; exact l3) (b01_of (by rw [eu]; exact l4)) (fun k hk hkn z => ?_)
    have hk2 := (hI.1 k hk).mp ((tc k).mp z.1)
    obtain ⟨g1, g2⟩ := hI.2 k hk2
    have z1 : (G 1 k).toInt = (Int32.ofInt q.1).toInt := z.2.1
    have z2 : (G 2 k).toInt = (Int32.ofInt q.2.1).toInt := z.2.2
    exact hd k hk2 ⟨by rw [← g1, z1, ex], by rw [← g2, z2, ey]⟩
  · unfold lyQ
    rw [ly_t, hI.1 i hi]
    omega
  · unfold lyQ
    by_cases c : i = n
    · rw [c, ly_1, ly_2, pu_s, pu_s]
      exact ⟨ex, ey⟩
    · rw [ly_o c, ly_o c, pu_n c, pu_n c]
      exact hI.2 i (by omega)
def BkO (A : Mem) (r : Sum Int (Nat × Mem)) : Prop := match r with
  | .inl f => f < 0
  | .inr q => 0 < q.1 ∧ GdF (cpS A q.2)
theorem bookB_o {T : Int → Int} {A : Mem} : ∀ (k n : Nat) (p : Int) (X Y : Nat → Int) (G : Mem), 0 ≤ p → GdF (cpS A G) → BkI G n X Y → BkO A (bookB T k p n X Y G)
  | 0, n, p, X, Y, G, _, _, _ => by
    simp only [bookB]
    exact (show (-1 : Int) < 0 by omega)
  | k + 1, n, p, X, Y, G, h0, hG, hI => by
    by_cases c : 40 ≤ n
    · rw [bookB_40 c]
      show (if dgt (T p) = true then -4000 - p else -1000 - p) < 0
      by_cases d : dgt (T p) = true
      · rw [if_pos d]; omega
      · rw [if_neg d]; omega
    · have o := lineS_o (T := T) (X := X) (Y := Y) (n := n) h0
      cases e : lineS T p X Y n with
      | inl f =>
        rw [bookB_f c e]
        rw [e] at o
        exact o
      | inr q =>
        rw [e] at o
        obtain ⟨g1, g2⟩ := bk_gd hG hI (by omega) o
        have hp : 0 ≤ q.2.2.2.2 := o.2.2.2.2.1
        by_cases c1 : T q.2.2.2.2 = -1
        · rw [bookB_e c e c1]
          exact ⟨Nat.succ_pos n, g1⟩
        · by_cases c2 : T q.2.2.2.2 = 59
          · rw [bookB_n c e c2]
            exact bookB_o k (n + 1) _ _ _ _ (by omega) g1 g2
          · rw [bookB_w c e c1 c2]
            exact (show -1000 - q.2.2.2.2 < 0 by omega)
def zr0 : Mem := fun _ _ => 0
def bookT (T : Int → Int) : Sum Int (Nat × Mem) := bookB T 41 0 0 (fun _ => 0) (fun _ => 0) zr0
theorem gd_zr {A : Mem} (h : GdF A) : GdF (cpS A zr0) := by
  have z : ∀ a j, ¬ a = 0 → cpS A zr0 a j = 0 := fun a j ha => if_neg ha
  have e0 : (0 : Int32).toInt = 0 := by decide
  have nt : ∀ i, ¬ tld (cpS A zr0) i := fun i hi => by
    unfold tld at hi
    rw [z 4 i (by omega)] at hi
    exact hi e0
  refine ⟨⟨fun i hi => by rw [z 4 i (by omega)]; exact Or.inl e0, fun i hi => by rw [z 5 i (by omega)]; exact Or.inl e0, fun i j hi hj ti => absurd ti (nt i)⟩, h.2.1, fun i hi ti => absurd ti (nt i)⟩
theorem bookT_o {T : Int → Int} {A : Mem} (h : GdF A) : BkO A (bookT T) := bookB_o 41 0 0 _ _ _ (Int.le_refl _) (gd_zr h) ⟨fun i hi => ⟨fun z => absurd z (by unfold tld zr0; decide), fun z => absurd z (Nat.not_lt_zero _)⟩, fun i hi => absurd hi (Nat.not_lt_zero _)⟩
/-- behind a notebook -/
def NbE (r : Sum Int (Nat × Mem)) (A H : Mem) : Prop := match r with
  | .inl _ => H = A
  | .inr q => H = cpS A q.2
theorem nb_fn {r : Sum Int (Nat × Mem)} {A H H' : Mem} (h : NbE r A H) (h' : NbE r A H') : H = H' := by
  cases r with
  | inl f => exact Eq.trans (show H = A from h) (show H' = A from h').symm
  | inr q => exact Eq.trans (show H = cpS A q.2 from h) (show H' = cpS A q.2 from h').symm
theorem nb_gd {T : Int → Int} {A H : Mem} (h : NbE (bookT T) A H) (hA : GdF A) : GdF H := by
  have o := bookT_o (T := T) hA
  cases e : bookT T with
  | inl f =>
    rw [e] at h
    rw [show H = A from h]
    exact hA
  | inr q =>
    rw [e] at h o
    rw [show H = cpS A q.2 from h]
    exact o.2
/-! the class's page -/
def z0 (G : Mem) : Mem := fun a i => if a = 0 then 0 else G a i
theorem z0_ly {B : Mem} {i : Nat} {x y s u : Int32} : z0 (lyF B i x y s u) = lyF (z0 B) i x y s u := (cps_ly (A := zr0) : cpS zr0 (lyF B i x y s u) = lyF (cpS zr0 B) i x y s u)
theorem cps_z0 {A B : Mem} : cpS A (z0 B) = cpS A B := funext (fun a => funext (fun i => by
  unfold cpS z0
  by_cases c : a = 0
  · rw [if_pos c, if_pos c]
  · rw [if_neg c, if_neg c, if_neg c]))
theorem z0_cl {M : Mem} {b : Nat} (h : ∀ j, j < 40 → (M (b + 4) j).toInt = 0) : z0 (FdC M b) = zr0 := funext (fun a => funext (fun i => by
  unfold z0 zr0
  by_cases c : a = 0
  · rw [if_pos c]
  · rw [if_neg c]
    unfold FdC mskF
    rw [if_neg c]
    by_cases d : i < 40 ∧ a ≤ 5
    · rw [if_pos d]
      have e : (rwC M b 4 i).toInt = 0 := h i d.1
      by_cases f : a = 4
      · rw [if_pos f]
        exact t_of (by rw [e]; decide)
      · rw [if_neg f, if_pos e]
    · rw [if_neg d]))
def BkP (r : Sum Int (Nat × Mem)) (res : Int) (H : Mem) : Prop := match r with
  | .inl f => res = f
  | .inr q => res = (q.1 : Int) ∧ H = q.2
theorem bkp_l {r : Sum Int (Nat × Mem)} {res f : Int} {H : Mem} (e : r = .inl f) (h : res = f) : BkP r res H := by
  rw [e]
  exact h
theorem bkp_r {r : Sum Int (Nat × Mem)} {res : Int} {q : Nat × Mem} {H : Mem} (e : r = .inr q) (h : res = (q.1 : Int)) (h2 : H = q.2) : BkP r res H := by
  rw [e]
  exact ⟨h, h2⟩
theorem nbe_no {T : Int → Int} {res : Int} {A B P : Mem} (hA : BkP (bookT T) res P) (hr : res ≤ 0) (hs : B = A) (hG : GdF A) : NbE (bookT T) A B := by
  have o := bookT_o (T := T) hG
  cases e : bookT T with
  | inl f => exact hs
  | inr q =>
    rw [e] at hA o
    have z1 : res = (q.1 : Int) := hA.1
    have z2 : 0 < q.1 := o.1
    omega
theorem nbe_yes {T : Int → Int} {res : Int} {A B P : Mem} (hA : BkP (bookT T) res (z0 P)) (hr : ¬ res ≤ 0) (hs : B = cpS A P) (hG : GdF A) : NbE (bookT T) A B ∧ GdF (cpS A P) := by
  have o := bookT_o (T := T) hG
  cases e : bookT T with
  | inl f =>
    rw [e] at hA o
    have z1 : res = f := hA
    have z2 : f < 0 := o
    omega
  | inr q =>
    rw [e] at hA o
    have z : cpS A P = cpS A q.2 := by
      rw [← hA.2, cps_z0]
    exact ⟨hs.trans z, by rw [z]; exact o.2⟩
/-! the reference's lines -/
def NWn (M : Mem) (n : Nat) : Mem := fun a i => if i < n ∧ 1 ≤ a ∧ a ≤ 5 then (if a = 1 then M 19 i else if a = 2 then M 20 i else if a = 3 then M 21 i else if a = 4 then 1 else M 22 i) else 0
theorem nw_0 {M : Mem} : NWn M 0 = zr0 := funext (fun a => funext (fun i => if_neg (by omega)))
theorem nw_s {M N : Mem} {n : Nat} (e : ∀ j, j < n → N 19 j = M 19 j ∧ N 20 j = M 20 j ∧ N 21 j = M 21 j ∧ N 22 j = M 22 j) : NWn N (n + 1) = lyF (NWn M n) n (N 19 n) (N 20 n) (N 21 n) (N 22 n) := funext (fun a => funext (fun i => by
  by_cases c : i = n
  · rw [c]
    by_cases d : 1 ≤ a ∧ a ≤ 5
    · have z : NWn N (n + 1) a n = (if a = 1 then N 19 n else if a = 2 then N 20 n else if a = 3 then N 21 n else if a = 4 then 1 else N 22 n) := if_pos ⟨Nat.lt_succ_self n, d⟩
      rw [z]
      rcases (show a = 1 ∨ a = 2 ∨ a = 3 ∨ a = 4 ∨ a = 5 by omega) with f | f | f | f | f <;> rw [f]
      · rw [ly_1]; rfl
      · rw [ly_2]; rfl
      · rw [ly_3]; rfl
      · rw [ly_4]; rfl
      · rw [ly_5]; rfl
    · have z : NWn N (n + 1) a n = 0 := if_neg (by omega)
      have z2 : NWn M n a n = 0 := if_neg (by omega)
      rw [z]
      unfold lyF
      rw [mset_ne (by first | exact nz1 (by decide) | exact nz2 (by decide) | exact nz1 (nzA hc0 (by decide)) | exact nz1 (nzE (by decide)) | exact nz1 (nzB hc0 (by decide)) | exact nz1 (nzC hc0 (by decide)) | exact nz1 (nzD hc0 (by decide)) | exact nz1 (nzF (by decide)) | exact nz1 (nzG (by decide)) | omega), mset_ne (by first | exact nz1 (by decide) | exact nz2 (by decide) | exact nz1 (nzA hc0 (by decide)) | exact nz1 (nzE (by decide)) | exact nz1 (nzB hc0 (by decide)) | exact nz1 (nzC hc0 (by decide)) | exact nz1 (nzD hc0 (by decide)) | exact nz1 (nzF (by decide)) | exact nz1 (nzG (by decide)) | omega), mset_ne (by first | exact nz1 (by decide) | exact nz2 (by decide) | exact nz1 (nzA hc0 (by decide)) | exact nz1 (nzE (by decide)) | exact nz1 (nzB hc0 (by decide)) | exact nz1 (nzC hc0 (by decide)) | exact nz1 (nzD hc0 (by decide)) | exact nz1 (nzF (by decide)) | exact nz1 (nzG (by decide)) | omega), mset_ne (by first | exact nz1 (by decide) | exact nz2 (by decide) | exact nz1 (nzA hc0 (by decide)) | exact nz1 (nzE (by decide)) | exact nz1 (nzB hc0 (by decide)) | exact nz1 (nzC hc0 (by decide)) | exact nz1 (nzD hc0 (by decide)) | exact nz1 (nzF (by decide)) | exact nz1 (nzG (by decide)) | omega), mset_ne (by first | exact nz1 (by decide) | exact nz2 (by decide) | exact nz1 (nzA hc0 (by decide)) | exact nz1 (nzE (by decide)) | exact nz1 (nzB hc0 (by decide)) | exact nz1 (nzC hc0 (by decide)) | exact nz1 (nzD hc0 (by decide)) | exact nz1 (nzF (by decide)) | exact nz1 (nzG (by decide)) | omega), z2]
  · rw [ly_o c]
    unfold NWn
    by_cases d : i < n
    · obtain ⟨e1, e2, e3, e4⟩ := e i d
      rw [e1, e2, e3, e4]
      by_cases f : 1 ≤ a ∧ a ≤ 5
      · rw [if_pos (show i < n + 1 ∧ 1 ≤ a ∧ a ≤ 5 from ⟨by omega, f⟩), if_pos (show i < n ∧ 1 ≤ a ∧ a ≤ 5 from ⟨d, f⟩)]
      · rw [if_neg (show ¬ (i < n + 1 ∧ 1 ≤ a ∧ a ≤ 5) by omega), if_neg (show ¬ (i < n ∧ 1 ≤ a ∧ a ≤ 5) by omega)]
    · rw [if_neg (show ¬ (i < n + 1 ∧ 1 ≤ a ∧ a ≤ 5) by omega), if_neg (show ¬ (i < n ∧ 1 ≤ a ∧ a ≤ 5) by omega)]))
theorem ofi2 {x : Int32} {z : Int} (h : x.toInt = z) : Int32.ofInt z = x := by
  rw [← h]
  exact ofi x
theorem ly_lyQ {G : Mem} {n : Nat} {x y s u : Int32} {pl a b c d : Int} (ha : x.toInt = a) (hb : y.toInt = b) (hc : s.toInt = c) (hd : u.toInt = d) : lyF G n x y s u = lyQ G n (a, b, c, d, pl) := by
  unfold lyQ
  show lyF G n x y s u = lyF G n (Int32.ofInt a) (Int32.ofInt b) (Int32.ofInt c) (Int32.ofInt d)
  rw [ofi2 ha, ofi2 hb, ofi2 hc, ofi2 hd]
theorem fdr_no {M N : Mem} (h : ∀ j, j < 40 → (N 1 j).toInt = 0) (e : N 1 200 = M 1 200 ∧ N 1 201 = M 1 201) : FdR N 1 = cpS (FdR M 1) zr0 := funext (fun a => funext (fun i => by
  unfold cpS zr0
  by_cases c : a = 0
  · rw [if_pos c, c]
    by_cases d : i = 5
    · rw [d, fdr_n, fdr_n, e.1]
    · by_cases f : i = 6
      · rw [f, fdr_6, fdr_6, e.2]
      · unfold FdR mskF
        rw [if_pos rfl, if_pos rfl, if_neg (by omega), if_neg (by omega)]
  · rw [if_neg c]
    unfold FdR mskF
    rw [if_neg c]
    by_cases d : i < 40 ∧ a ≤ 5
    · rw [if_pos d]
      have r4 : rwR (N 1) 4 i = N 1 i := by
        unfold rwR
        rw [if_neg (by omega), if_pos ⟨d.1, by omega⟩]
        show N 1 (0 + i) = N 1 i
        rw [Nat.zero_add]
      have t : (rwR (N 1) 4 i).toInt = 0 := by
        rw [r4]
        exact h i d.1
      by_cases f : a = 4
      · rw [if_pos f]
        exact t_of (by rw [t]; decide)
      · rw [if_neg f, if_pos t]
    · rw [if_neg d]))
/-- how far reading has come -/
def BkW (r : Sum Int (Nat × Mem)) (y f : Int) (r' : Sum Int (Nat × Mem)) : Prop := (y = 0 → r = .inl f) ∧ (¬ y = 0 → r = r')
theorem bkw_0 {r r' : Sum Int (Nat × Mem)} {y f : Int} (h : BkW r y f r') (hy : y = 0) : r = .inl f := h.1 hy
theorem bkw_1 {r r' : Sum Int (Nat × Mem)} {y f : Int} (h : BkW r y f r') (hy : ¬ y = 0) : r = r' := h.2 hy
theorem bkw_a {r r' : Sum Int (Nat × Mem)} {f : Int} (h : r = .inl f) : BkW r (nI 0).toInt f r' := ⟨fun _ => h, fun z => absurd nI0 z⟩
theorem bkw_b {r r' : Sum Int (Nat × Mem)} {f : Int} (h : r = r') : BkW r (nI 1).toInt f r' := ⟨fun z => absurd z (by decide), fun _ => h⟩
theorem bkw_s {T : Int → Int} {X Y X' Y' : Nat → Int} {n m : Nat} {p res flt pl x y s u lo hi : Int} {G : Mem} {H : Nat → Mem} {r : Sum Int (Nat × Mem)} (hr : r = bookB T (41 - n) p n X Y G) (hn : n < 40) (hL : LinP (lineS T p X Y n) res flt pl x y s u lo hi) (hx : X' n = x) (hy : Y' n = y) (he : ∀ i, i < n → X' i = X i ∧ Y' i = Y i) (hH : H (n + 1) = lyQ G n (x, y, s, u, pl)) (hm : ¬ res = 0 → m = n + 1) : BkW r res flt (bookC T m pl X' Y' (H m)) := by
  have b := bb_step (H := H (n + 1)) hn hL hx hy he (fun _ => hH)
  exact ⟨fun z => hr.trans (b.1 z), fun z => by rw [hm z]; exact hr.trans (b.2 z)⟩
theorem bkw_40 {T : Int → Int} {X Y : Nat → Int} {n : Nat} {p res flt : Int} {G : Mem} {r r' : Sum Int (Nat × Mem)} (hr : r = bookB T (41 - n) p n X Y G) (hn : n = 40) (h0 : res = 0) (hf : flt = (if dgt (T p) = true then -4000 - p else -1000 - p)) : BkW r res flt r' := ⟨fun _ => by rw [hr, show 41 - n = 0 + 1 from by omega, bookB_40 (by omega), hf], fun z => absurd h0 z⟩
theorem ix_k {x y : Int32} {n : Int} (h : 0 ≤ y.toInt) (h2 : x.toInt = y.toInt + 1) : ix x = ix y + 1 := by
  have f1 := t_ixn x (by omega)
  have f2 := t_ixn y h
  omega
