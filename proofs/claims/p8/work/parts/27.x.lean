/-! a notebook as a text: what it says, or its fault -/
def dgt (c : Int) : Bool := decide (48 ≤ c ∧ c ≤ 57)
theorem dgt_t {c : Int} (h : 48 ≤ c ∧ c ≤ 57) : dgt c = true := decide_eq_true h
theorem dgt_f {c : Int} (h : ¬ (48 ≤ c ∧ c ≤ 57)) : dgt c = false := decide_eq_false h
theorem dgt_i {c : Int} (h : dgt c = true) : 48 ≤ c ∧ c ≤ 57 := of_decide_eq_true h
def nd (T : Int → Int) (p : Int) : Nat → Nat
  | 0 => 0
  | k + 1 => if dgt (T p) = true then 1 + nd T (p + 1) k else 0
theorem nd_is {T : Int → Int} : ∀ {k c : Nat} {p : Int}, c ≤ k → (∀ i : Nat, i < c → dgt (T (p + i)) = true) → (c = k ∨ dgt (T (p + c)) = false) → nd T p k = c
  | 0, c, p, h1, _, _ => by
    show 0 = c
    omega
  | k + 1, 0, p, _, _, h3 => by
    rcases h3 with z | z
    · omega
    · show (if dgt (T p) = true then 1 + nd T (p + 1) k else 0) = 0
      have z2 : dgt (T p) = false := by
        have e : p + ((0 : Nat) : Int) = p := by omega
        rw [e] at z
        exact z
      rw [if_neg (by rw [z2]; decide)]
  | k + 1, c + 1, p, h1, h2, h3 => by
    have z : dgt (T p) = true := by
      have := h2 0 (by omega)
      rw [show p + ((0 : Nat) : Int) = p from by omega] at this
      exact this
    show (if dgt (T p) = true then 1 + nd T (p + 1) k else 0) = c + 1
    rw [if_pos z, nd_is (k := k) (c := c) (p := p + 1) (by omega) (fun i hi => by
      have := h2 (i + 1) (by omega)
      rw [show p + ((i + 1 : Nat) : Int) = p + 1 + (i : Int) from by omega] at this
      exact this) (by
      rcases h3 with q | q
      · exact Or.inl (by omega)
      · right
        rw [show p + ((c + 1 : Nat) : Int) = p + 1 + (c : Int) from by omega] at q
        exact q)]
    omega
def nvv (T : Int → Int) (p : Int) : Nat → Int
  | 0 => 0
  | c + 1 => 10 * nvv T p c + (T (p + c) - 48)
theorem nvv_s (T : Int → Int) (p : Int) (c : Nat) : nvv T p (c + 1) = 10 * nvv T p c + (T (p + c) - 48) := rfl
theorem nvv_bd {T : Int → Int} {p : Int} : ∀ {c : Nat}, (∀ i : Nat, i < c → dgt (T (p + i)) = true) → 0 ≤ nvv T p c ∧ nvv T p c < (10 : Int) ^ c
  | 0, _ => by simp [nvv]
  | c + 1, h => by
    have h1 := nvv_bd (c := c) (fun i hi => h i (by omega))
    have h2 := dgt_i (h c (by omega))
    rw [nvv_s, Int.pow_succ]
    omega
def numS (T : Int → Int) (p : Int) (k : Nat) : Sum Int (Int × Int) :=
  if nd T p k = 0 then .inl (-1000 - p) else if dgt (T (p + nd T p k)) = true then .inl (-2000 - (p + nd T p k)) else .inr (nvv T p (nd T p k), p + nd T p k)
/-- what number tells, by the digits that it has passed -/
theorem numS_0 {T : Int → Int} {p : Int} {k : Nat} (hk : 0 < k) (h : dgt (T p) = false) : numS T p k = .inl (-1000 - p) := by
  have e : nd T p k = 0 := nd_is (by omega) (fun i hi => absurd hi (Nat.not_lt_zero _)) (Or.inr (by rw [show p + ((0 : Nat) : Int) = p from by omega]; exact h))
  unfold numS
  rw [if_pos e]
theorem numS_2 {T : Int → Int} {p : Int} {k : Nat} (hk : 0 < k) (h : ∀ i : Nat, i < k → dgt (T (p + i)) = true) (h2 : dgt (T (p + k)) = true) : numS T p k = .inl (-2000 - (p + k)) := by
  have e : nd T p k = k := nd_is (Nat.le_refl _) h (Or.inl rfl)
  unfold numS
  rw [e, if_neg (by omega), if_pos h2]
theorem numS_v {T : Int → Int} {p : Int} {k c : Nat} (hc : 0 < c) (hk : c ≤ k) (h : ∀ i : Nat, i < c → dgt (T (p + i)) = true) (h2 : dgt (T (p + c)) = false) : numS T p k = .inr (nvv T p c, p + c) := by
  have e : nd T p k = c := nd_is hk h (Or.inr h2)
  unfold numS
  rw [e, if_neg (by omega), if_neg (by rw [h2]; decide)]
def dupS (X Y : Nat → Int) (x y : Int) : Nat → Bool
  | 0 => false
  | n + 1 => dupS X Y x y n || decide (X n = x ∧ Y n = y)
theorem dup_t {X Y : Nat → Int} {x y : Int} {i : Nat} (h : X i = x ∧ Y i = y) : ∀ n, i < n → dupS X Y x y n = true
  | 0, hi => absurd hi (Nat.not_lt_zero _)
  | n + 1, hi => by
    show (dupS X Y x y n || decide (X n = x ∧ Y n = y)) = true
    by_cases e : i = n
    · rw [← e, decide_eq_true h, Bool.or_true]
    · rw [dup_t h n (by omega), Bool.true_or]
theorem dup_f {X Y : Nat → Int} {x y : Int} : ∀ n, (∀ i, i < n → ¬ (X i = x ∧ Y i = y)) → dupS X Y x y n = false
  | 0, _ => rfl
  | n + 1, h => by
    show (dupS X Y x y n || decide (X n = x ∧ Y n = y)) = false
    rw [dup_f n (fun i hi => h i (by omega)), decide_eq_false (h n (by omega))]
    rfl
theorem dup_ext {X Y X' Y' : Nat → Int} {x y : Int} : ∀ n, (∀ i, i < n → X i = X' i ∧ Y i = Y' i) → dupS X Y x y n = dupS X' Y' x y n
  | 0, _ => rfl
  | n + 1, h => by
    show (dupS X Y x y n || decide (X n = x ∧ Y n = y)) = (dupS X' Y' x y n || decide (X' n = x ∧ Y' n = y))
    rw [dup_ext n (fun i hi => h i (by omega)), (h n (by omega)).1, (h n (by omega)).2]
/-- behind the place: 's' and a digit, 'u' -/
def tailS (T : Int → Int) (p : Int) : Sum Int (Int × Int × Int) :=
  if T p = 115 then (if dgt (T (p + 1)) = true then .inr (T (p + 1) - 48, if T (p + 2) = 117 then (1, p + 3) else (0, p + 2)) else .inl (-1000 - (p + 1))) else .inr (0, if T p = 117 then (1, p + 1) else (0, p))
def lineZ (x y : Int) (r : Sum Int (Int × Int × Int)) : Sum Int (Int × Int × Int × Int × Int) := match r with
  | .inl f => .inl f
  | .inr q => .inr (x, y, q.1, q.2.1, q.2.2)
def lineY (T : Int → Int) (p : Int) (X Y : Nat → Int) (n : Nat) (x p2 : Int) : Sum Int (Int × Int × Int × Int × Int) := match numS T p2 2 with
  | .inl f => .inl f
  | .inr q => if 1 ≤ q.1 ∧ q.1 ≤ 20 then (if dupS X Y x q.1 n = true then .inl (-6000 - p) else lineZ x q.1 (tailS T q.2)) else .inl (-3000 - p2)
def lineX (T : Int → Int) (p : Int) (X Y : Nat → Int) (n : Nat) (x p1 : Int) : Sum Int (Int × Int × Int × Int × Int) := if 39 < x then .inl (-3000 - p) else if T p1 = 44 then lineY T p X Y n x (p1 + 1) else .inl (-1000 - p1)
/-- a line: x, y, slippery, under, and where it ends -/
def lineS (T : Int → Int) (p : Int) (X Y : Nat → Int) (n : Nat) : Sum Int (Int × Int × Int × Int × Int) := match numS T p 2 with
  | .inl f => .inl f
  | .inr q => lineX T p X Y n q.1 q.2
theorem lineS_f {T : Int → Int} {p f : Int} {X Y : Nat → Int} {n : Nat} (h : numS T p 2 = .inl f) : lineS T p X Y n = .inl f := by unfold lineS; rw [h]
theorem lineS_v {T : Int → Int} {p x p1 : Int} {X Y : Nat → Int} {n : Nat} (h : numS T p 2 = .inr (x, p1)) : lineS T p X Y n = lineX T p X Y n x p1 := by unfold lineS; rw [h]
theorem lineX_3 {T : Int → Int} {p x p1 : Int} {X Y : Nat → Int} {n : Nat} (h : 39 < x) : lineX T p X Y n x p1 = .inl (-3000 - p) := if_pos h
theorem lineX_1 {T : Int → Int} {p x p1 : Int} {X Y : Nat → Int} {n : Nat} (h : ¬ 39 < x) (h2 : ¬ T p1 = 44) : lineX T p X Y n x p1 = .inl (-1000 - p1) := by unfold lineX; rw [if_neg h, if_neg h2]
theorem lineX_v {T : Int → Int} {p x p1 : Int} {X Y : Nat → Int} {n : Nat} (h : ¬ 39 < x) (h2 : T p1 = 44) : lineX T p X Y n x p1 = lineY T p X Y n x (p1 + 1) := by unfold lineX; rw [if_neg h, if_pos h2]
theorem lineY_f {T : Int → Int} {p x p2 f : Int} {X Y : Nat → Int} {n : Nat} (h : numS T p2 2 = .inl f) : lineY T p X Y n x p2 = .inl f := by unfold lineY; rw [h]
theorem lineY_3 {T : Int → Int} {p x p2 y q : Int} {X Y : Nat → Int} {n : Nat} (h : numS T p2 2 = .inr (y, q)) (h2 : ¬ (1 ≤ y ∧ y ≤ 20)) : lineY T p X Y n x p2 = .inl (-3000 - p2) := by
  unfold lineY
  rw [h]
  exact if_neg h2
theorem lineY_d {T : Int → Int} {p x p2 y q : Int} {X Y : Nat → Int} {n : Nat} (h : numS T p2 2 = .inr (y, q)) (h2 : 1 ≤ y ∧ y ≤ 20) (hd : dupS X Y x y n = true) : lineY T p X Y n x p2 = .inl (-6000 - p) := by
  unfold lineY
  rw [h]
  show (if 1 ≤ y ∧ y ≤ 20 then (if dupS X Y x y n = true then Sum.inl (-6000 - p) else lineZ x y (tailS T q)) else Sum.inl (-3000 - p2)) = _
  rw [if_pos h2, if_pos hd]
theorem lineY_v {T : Int → Int} {p x p2 y q : Int} {X Y : Nat → Int} {n : Nat} (h : numS T p2 2 = .inr (y, q)) (h2 : 1 ≤ y ∧ y ≤ 20) (hd : dupS X Y x y n = false) : lineY T p X Y n x p2 = lineZ x y (tailS T q) := by
  unfold lineY
  rw [h]
  show (if 1 ≤ y ∧ y ≤ 20 then (if dupS X Y x y n = true then Sum.inl (-6000 - p) else lineZ x y (tailS T q)) else Sum.inl (-3000 - p2)) = _
  rw [if_pos h2, if_neg (by rw [hd]; decide)]
theorem lineS_ext {T : Int → Int} {p : Int} {X Y X' Y' : Nat → Int} {n : Nat} (h : ∀ i, i < n → X i = X' i ∧ Y i = Y' i) : lineS T p X Y n = lineS T p X' Y' n := by
  have e : ∀ x y, dupS X Y x y n = dupS X' Y' x y n := fun x y => dup_ext n h
  unfold lineS lineX lineY
  simp only [e]
/-- what a notebook is answered with -/
def bookA (T : Int → Int) : Nat → Int → Nat → (Nat → Int) → (Nat → Int) → Int
  | 0, _, _, _, _ => 0
  | k + 1, p, n, X, Y => if 40 ≤ n then (if dgt (T p) = true then -4000 - p else -1000 - p) else match lineS T p X Y n with
    | .inl f => f
    | .inr q => if T q.2.2.2.2 = -1 then (n : Int) + 1 else if T q.2.2.2.2 = 59 then bookA T k (q.2.2.2.2 + 1) (n + 1) (pu X n q.1) (pu Y n q.2.1) else -1000 - q.2.2.2.2
termination_by k => k
theorem bookA_ext {T : Int → Int} : ∀ {k n : Nat} {p : Int} {X Y X' Y' : Nat → Int}, (∀ i, i < n → X i = X' i ∧ Y i = Y' i) → bookA T k p n X Y = bookA T k p n X' Y'
  | 0, _, _, _, _, _, _, _ => by simp only [bookA]
  | k + 1, n, p, X, Y, X', Y', h => by
    have e := lineS_ext (T := T) (p := p) h
    have e2 : ∀ q : Int × Int × Int × Int × Int, bookA T k (q.2.2.2.2 + 1) (n + 1) (pu X n q.1) (pu Y n q.2.1) = bookA T k (q.2.2.2.2 + 1) (n + 1) (pu X' n q.1) (pu Y' n q.2.1) := fun q => bookA_ext (fun i hi => by
      by_cases c : i = n
      · rw [c, pu_s, pu_s, pu_s, pu_s]; exact ⟨rfl, rfl⟩
      · rw [pu_n c, pu_n c, pu_n c, pu_n c]; exact h i (by omega))
    simp only [bookA, e, e2]
/-- results of a number, in class and reference -/
def NumP (r : Sum Int (Int × Int)) (res flt pl lo hi : Int) : Prop := match r with
  | .inl f => res = -1 ∧ flt = f
  | .inr q => res = q.1 ∧ 0 ≤ q.1 ∧ q.1 ≤ 99999 ∧ pl = q.2 ∧ lo < q.2 ∧ q.2 ≤ hi
def NumQ (r : Sum Int (Int × Int)) (res flt pl num lo hi : Int) : Prop := match r with
  | .inl f => res = 0 ∧ flt = f
  | .inr q => ¬ res = 0 ∧ num = q.1 ∧ 0 ≤ q.1 ∧ q.1 ≤ 99999 ∧ pl = q.2 ∧ lo < q.2 ∧ q.2 ≤ hi
theorem numP_f {r : Sum Int (Int × Int)} {res flt pl lo hi : Int} (h : NumP r res flt pl lo hi) (hr : res = -1) : r = .inl flt := by
  cases r with
  | inl f => exact congrArg Sum.inl h.2.symm
  | inr q =>
    obtain ⟨h1, h2, -⟩ := h
    omega
theorem numP_v {r : Sum Int (Int × Int)} {res flt pl lo hi : Int} (h : NumP r res flt pl lo hi) (hr : ¬ res = -1) : r = .inr (res, pl) ∧ 0 ≤ res ∧ res ≤ 99999 ∧ lo < pl ∧ pl ≤ hi := by
  cases r with
  | inl f => exact absurd h.1 hr
  | inr q =>
    obtain ⟨h1, h2, h3, h4, h5, h6⟩ := h
    exact ⟨by rw [h1, h4], by omega, by omega, by omega, by omega⟩
theorem numQ_f {r : Sum Int (Int × Int)} {res flt pl num lo hi : Int} (h : NumQ r res flt pl num lo hi) (hr : res = 0) : r = .inl flt := by
  cases r with
  | inl f => exact congrArg Sum.inl h.2.symm
  | inr q => exact absurd hr h.1
theorem numQ_v {r : Sum Int (Int × Int)} {res flt pl num lo hi : Int} (h : NumQ r res flt pl num lo hi) (hr : ¬ res = 0) : r = .inr (num, pl) ∧ 0 ≤ num ∧ num ≤ 99999 ∧ lo < pl ∧ pl ≤ hi := by
  cases r with
  | inl f => exact absurd h.1 hr
  | inr q =>
    obtain ⟨h0, h1, h2, h3, h4, h5, h6⟩ := h
    exact ⟨by rw [h1, h4], by omega, by omega, by omega, by omega⟩
/-- the text that stands in the class's tape, in the reference's -/
def txt (b : Nat → Int) (n p : Int) : Int := if 0 ≤ p ∧ p < n then b p.toNat else -1
def TXc (M : Mem) : Int → Int := txt (fun j => (M 20 j).toInt) (M 19 2).toInt
def TXr (M : Mem) : Int → Int := txt (fun j => ((M 5 j) &&& (nI 255)).toInt) (M 0 8).toInt
theorem txc_fr {M M' : Mem} (e2 : M' 19 2 = M 19 2) (e20 : ∀ j, M' 20 j = M 20 j) : TXc M' = TXc M := by
  unfold TXc
  rw [e2, show (fun j => (M' 20 j).toInt) = (fun j => (M 20 j).toInt) from funext (fun j => by rw [e20])]
theorem txr_fr {M M' : Mem} (e8 : M' 0 8 = M 0 8) (e5 : ∀ j, M' 5 j = M 5 j) : TXr M' = TXr M := by
  unfold TXr
  rw [e8, show (fun j => ((M' 5 j) &&& (nI 255)).toInt) = (fun j => ((M 5 j) &&& (nI 255)).toInt) from funext (fun j => by rw [e5])]
theorem txt_in {b : Nat → Int} {n p : Int} (h : 0 ≤ p ∧ p < n) : txt b n p = b p.toNat := if_pos h
theorem txt_out {b : Nat → Int} {n p : Int} (h : ¬ (0 ≤ p ∧ p < n)) : txt b n p = -1 := if_neg h
theorem txt_ext {b b' : Nat → Int} {n : Int} (h : ∀ j : Nat, (j : Int) < n → b j = b' j) : txt b n = txt b' n := funext (fun p => by
  unfold txt
  by_cases c : 0 ≤ p ∧ p < n
  · rw [if_pos c, if_pos c]; exact h p.toNat (by omega)
  · rw [if_neg c, if_neg c])
theorem tail_is {T : Int → Int} {q s u pl pl2 : Int} (h : (T q = 115 ∧ dgt (T (q + 1)) = true ∧ pl = q + 2 ∧ s = T (q + 1) - 48) ∨ (¬ T q = 115 ∧ pl = q ∧ s = 0)) (hu : (u = 1 ∧ T pl = 117 ∧ pl2 = pl + 1) ∨ (u = 0 ∧ ¬ T pl = 117 ∧ pl2 = pl)) : tailS T q = .inr (s, u, pl2) := by
  unfold tailS
  rcases h with ⟨h1, h2, h3, h4⟩ | ⟨h1, h3, h4⟩
  · rw [if_pos h1, if_pos h2, h4]
    rw [h3] at hu
    rcases hu with ⟨u1, u2, u3⟩ | ⟨u1, u2, u3⟩
    · rw [if_pos u2, u1, u3, show q + 2 + 1 = q + 3 from by omega]
    · rw [if_neg u2, u1, u3]
  · rw [if_neg h1, h4]
    rw [h3] at hu
    rcases hu with ⟨u1, u2, u3⟩ | ⟨u1, u2, u3⟩
    · rw [if_pos u2, u1, u3]
    · rw [if_neg u2, u1, u3]
theorem tail_f {T : Int → Int} {q : Int} (h : T q = 115) (hd : dgt (T (q + 1)) = false) : tailS T q = .inl (-1000 - (q + 1)) := by
  unfold tailS
  rw [if_pos h, if_neg (by rw [hd]; decide)]
def LinP (r : Sum Int (Int × Int × Int × Int × Int)) (res flt pl x y s u lo hi : Int) : Prop := match r with
  | .inl f => res = 0 ∧ flt = f
  | .inr q => ¬ res = 0 ∧ x = q.1 ∧ y = q.2.1 ∧ s = q.2.2.1 ∧ u = q.2.2.2.1 ∧ pl = q.2.2.2.2 ∧ lo < q.2.2.2.2 ∧ q.2.2.2.2 ≤ hi
theorem linP_f {r : Sum Int (Int × Int × Int × Int × Int)} {res flt pl x y s u lo hi : Int} (h : LinP r res flt pl x y s u lo hi) (hr : res = 0) : r = .inl flt := by
  cases r with
  | inl f => exact congrArg Sum.inl h.2.symm
  | inr q => exact absurd hr h.1
theorem linP_v {r : Sum Int (Int × Int × Int × Int × Int)} {res flt pl x y s u lo hi : Int} (h : LinP r res flt pl x y s u lo hi) (hr : ¬ res = 0) : r = .inr (x, y, s, u, pl) ∧ lo < pl ∧ pl ≤ hi := by
  cases r with
  | inl f => exact absurd h.1 hr
  | inr q =>
    obtain ⟨h0, h1, h2, h3, h4, h5, h6, h7⟩ := h
    exact ⟨by rw [h1, h2, h3, h4, h5], by omega, by omega⟩
theorem bookA_40 {T : Int → Int} {k n : Nat} {p : Int} {X Y : Nat → Int} (h : 40 ≤ n) : bookA T (k + 1) p n X Y = (if dgt (T p) = true then -4000 - p else -1000 - p) := by
  simp only [bookA]
  rw [if_pos h]
theorem bookA_f {T : Int → Int} {k n : Nat} {p f : Int} {X Y : Nat → Int} (h : ¬ 40 ≤ n) (hl : lineS T p X Y n = .inl f) : bookA T (k + 1) p n X Y = f := by
  simp only [bookA]
  rw [if_neg h, hl]
theorem bookA_e {T : Int → Int} {k n : Nat} {p x y s u q : Int} {X Y : Nat → Int} (h : ¬ 40 ≤ n) (hl : lineS T p X Y n = .inr (x, y, s, u, q)) (he : T q = -1) : bookA T (k + 1) p n X Y = (n : Int) + 1 := by
  simp only [bookA]
  rw [if_neg h, hl]
  exact if_pos he
theorem bookA_w {T : Int → Int} {k n : Nat} {p x y s u q : Int} {X Y : Nat → Int} (h : ¬ 40 ≤ n) (hl : lineS T p X Y n = .inr (x, y, s, u, q)) (he : ¬ T q = -1) (h9 : ¬ T q = 59) : bookA T (k + 1) p n X Y = -1000 - q := by
  simp only [bookA]
  rw [if_neg h, hl]
  show (if T q = -1 then _ else _) = _
  rw [if_neg he, if_neg h9]
theorem bookA_n {T : Int → Int} {k n : Nat} {p x y s u q : Int} {X Y : Nat → Int} (h : ¬ 40 ≤ n) (hl : lineS T p X Y n = .inr (x, y, s, u, q)) (h9 : T q = 59) : bookA T (k + 1) p n X Y = bookA T k (q + 1) (n + 1) (pu X n x) (pu Y n y) := by
  simp only [bookA]
  rw [if_neg h, hl]
  show (if T q = -1 then _ else _) = _
  rw [if_neg (by omega), if_pos h9]
def BetQ (r : Sum Int (Int × Int)) (p a b res flt pl num lo hi : Int) : Prop := (res = 0 ∧ (r = .inl flt ∨ (∃ x q : Int, r = .inr (x, q) ∧ 0 ≤ x ∧ ¬ (a ≤ x ∧ x ≤ b) ∧ flt = -3000 - p))) ∨ (¬ res = 0 ∧ r = .inr (num, pl) ∧ (a ≤ num ∧ num ≤ b) ∧ lo < pl ∧ pl ≤ hi)
theorem dg_inr {M : Mem} {T : Int → Int} {p : Int} (hT : TXr M = T) (h : dgt (T p) = true) : 0 ≤ p ∧ p < (M 0 8).toInt := by
  by_cases c : 0 ≤ p ∧ p < (M 0 8).toInt
  · exact c
  · rw [← hT, show TXr M p = -1 from txt_out c] at h
    exact absurd h (by decide)
theorem tx_inr {M : Mem} {T : Int → Int} {p : Int} (hT : TXr M = T) (h : ¬ T p = -1) : p < (M 0 8).toInt := by
  by_cases c : 0 ≤ p ∧ p < (M 0 8).toInt
  · exact c.2
  · rw [← hT] at h
    exact absurd (txt_out c) h
theorem betQ_f {p a b res flt pl num lo hi : Int} {r : Sum Int (Int × Int)} (h : BetQ r p a b res flt pl num lo hi) (hr : res = 0) : r = .inl flt ∨ (∃ x q : Int, r = .inr (x, q) ∧ 0 ≤ x ∧ ¬ (a ≤ x ∧ x ≤ b) ∧ flt = -3000 - p) := (h.resolve_right (fun z => z.1 hr)).2
theorem betQ_v {p a b res flt pl num lo hi : Int} {r : Sum Int (Int × Int)} (h : BetQ r p a b res flt pl num lo hi) (hr : ¬ res = 0) : r = .inr (num, pl) ∧ (a ≤ num ∧ num ≤ b) ∧ lo < pl ∧ pl ≤ hi := (h.resolve_left (fun z => hr z.1)).2

theorem nar_b {x : Int32} (h : x.toInt = 0 ∨ x.toInt = 1) : (vp_nar .boolean x).toInt = x.toInt := by
  rcases b01_of h with rfl | rfl <;> decide
theorem flt_is {a b : Int32} (h1 : 0 ≤ a.toInt) (h2 : a.toInt ≤ 9) (h3 : 0 ≤ b.toInt) (h4 : b.toInt ≤ 1000) : ((-1000) * a - b).toInt = -1000 * a.toInt - b.toInt := by
  have e : ((-1000 : Int32)).toInt = -1000 := by decide
  have f : ((-1000) * a).toInt = -1000 * a.toInt := by rw [t_mul (by rw [e]; omega), e]
  have g := t_sub ((-1000) * a) b
  omega
theorem dg_in {M : Mem} {T : Int → Int} {p : Int} (hT : TXc M = T) (h : dgt (T p) = true) : 0 ≤ p ∧ p < (M 19 2).toInt := by
  by_cases c : 0 ≤ p ∧ p < (M 19 2).toInt
  · exact c
  · rw [← hT, show TXc M p = -1 from txt_out c] at h
    exact absurd h (by decide)
theorem tx_in {M : Mem} {T : Int → Int} {p : Int} (hT : TXc M = T) (h : ¬ T p = -1) : p < (M 19 2).toInt := by
  by_cases c : 0 ≤ p ∧ p < (M 19 2).toInt
  · exact c.2
  · rw [← hT] at h
    exact absurd (txt_out c) h
/-- what a notebook is answered with, behind a line that went well -/
def bookR (T : Int → Int) (n : Nat) (p : Int) (X Y : Nat → Int) : Int := if T p = -1 then (n : Int) else if T p = 59 then bookA T (41 - n) (p + 1) n X Y else -1000 - p
theorem bookR_e {T : Int → Int} {n : Nat} {p : Int} {X Y : Nat → Int} (h : T p = -1) : bookR T n p X Y = (n : Int) := if_pos h
theorem bookR_n {T : Int → Int} {n : Nat} {p : Int} {X Y : Nat → Int} (h : T p = 59) : bookR T n p X Y = bookA T (41 - n) (p + 1) n X Y := by
  unfold bookR
  rw [if_neg (by omega), if_pos h]
theorem bookR_w {T : Int → Int} {n : Nat} {p : Int} {X Y : Nat → Int} (h1 : ¬ T p = -1) (h : ¬ T p = 59) : bookR T n p X Y = -1000 - p := by
  unfold bookR
  rw [if_neg h1, if_neg h]
theorem bk_step {T : Int → Int} {X Y X' Y' : Nat → Int} {n : Nat} {p res flt pl x y s u lo hi : Int} (hn : n < 40) (hL : LinP (lineS T p X Y n) res flt pl x y s u lo hi) (hx : X' n = x) (hy : Y' n = y) (he : ∀ i, i < n → X' i = X i ∧ Y' i = Y i) : (res = 0 → bookA T (41 - n) p n X Y = flt) ∧ (¬ res = 0 → bookA T (41 - n) p n X Y = bookR T (n + 1) pl X' Y') := by
  rw [show 41 - n = (40 - n) + 1 from by omega]
  refine ⟨fun z => bookA_f (by omega) (linP_f hL z), fun z => ?_⟩
  have l1 := (linP_v hL z).1
  by_cases c1 : T pl = -1
  · rw [bookA_e (by omega) l1 c1, bookR_e c1]
    omega
  · by_cases c2 : T pl = 59
    · rw [bookA_n (by omega) l1 c2, bookR_n c2, show 41 - (n + 1) = 40 - n from by omega]
      exact bookA_ext (fun i hi => by
        by_cases e9 : i = n
        · rw [e9, pu_s, pu_s, hx, hy]; exact ⟨rfl, rfl⟩
        · rw [pu_n e9, pu_n e9]; exact ⟨(he i (by omega)).1.symm, (he i (by omega)).2.symm⟩)
    · rw [bookA_w (by omega) l1 c1 c2, bookR_w c1 c2]
theorem tx_ner {M : Mem} {T : Int → Int} {p : Int} (hT : TXr M = T) (h : 0 ≤ p ∧ p < (M 0 8).toInt) : ¬ T p = -1 := by
  rw [← hT, show TXr M p = _ from txt_in h]
  have := and255 (M 5 p.toNat)
  omega
theorem nb_eq {r1 r2 v : Int32} {b1 b2 : Nat → Int} {C D : Prop} {dC : Decidable C} {dD : Decidable D} (h : C ↔ D) (ht : D → ∀ j : Nat, (j : Int) < v.toInt → b1 j = b2 j) (h1 : r1.toInt = @ite _ C dC (bookA (txt b1 v.toInt) 41 0 0 (fun _ => 0) (fun _ => 0)) (-1)) (h2 : r2.toInt = @ite _ D dD (bookA (txt b2 v.toInt) 41 0 0 (fun _ => 0) (fun _ => 0)) (-1)) : r1 = r2 := t_of (by
  rw [h1, h2]
  by_cases c : D
  · rw [if_pos c, if_pos (h.mpr c), txt_ext (ht c)]
  · rw [if_neg c, if_neg (fun z => c (h.mp z))])
theorem o5_X7_here (M : Mem) (T : Int → Int) (hT : TXc M = T) (hp : 0 ≤ (M 19 3).toInt ∧ (M 19 3).toInt ≤ (M 19 2).toInt ∧ (M 19 2).toInt ≤ 240) : Wp (f_X7_here M) (fun q => (q.toInt = T (M 19 3).toInt)) := by
  refine wp_ite (fun c4 => ?_) (fun c4 => ?_)
  · exact wp_some (False.elim (by omega))
  · refine wp_ite (fun c15 => ?_) (fun c15 => ?_)
    · exact wp_some (by show (-1 : Int32).toInt = T (M 19 3).toInt; rw [← hT]; exact (txt_out (by omega)).symm)
    · refine wp_ite (fun c25 => ?_) (fun c25 => ?_)
      · exact wp_some (False.elim (by omega))
      · refine wp_gd (by omega) ?_
        exact wp_some (by show (M 20 (ix (M 19 3))).toInt = T (M 19 3).toInt; rw [← hT]; exact (txt_in (by omega)).symm)
theorem o5_X7_isDigit (M : Mem) (v0 : Int32) : Wp (f_X7_isDigit v0) (fun q => (q = 0 ∨ q = 1) ∧ (¬ q.toInt = 0 ↔ dgt v0.toInt = true)) := by
  refine wp_ite (fun c3 => ?_) (fun c3 => ?_)
  · exact wp_some ⟨b01_0, ⟨fun z => absurd nI0 z, fun z => absurd (dgt_i z) (by omega)⟩⟩
  · refine wp_ite (fun c9 => ?_) (fun c9 => ?_)
    · exact wp_some ⟨b01_0, ⟨fun z => absurd nI0 z, fun z => absurd (dgt_i z) (by omega)⟩⟩
    · exact wp_some ⟨b01_1, ⟨fun _ => dgt_t (by omega), fun _ => by decide⟩⟩
theorem o5_X7_refuse (M : Mem) (v1 : Int32) (v2 : Int32) : Wp (f_X7_refuse M v1 v2) (fun q => (q.1 = 0 ∨ q.1 = 1) ∧ (∀ a i, ¬ ((a = 19 ∧ i = 4)) → q.2 a i = M a i) ∧ (q.1.toInt = 0) ∧ (0 ≤ v1.toInt → v1.toInt ≤ 9 → 0 ≤ v2.toInt → v2.toInt ≤ 1000 → (q.2 19 4).toInt = -1000 * v1.toInt - v2.toInt)) := by
  refine wp_bnd (fun M_1 eM_1 => ?_)
  exact wp_some ⟨b01_0, (fun a i q0 => ((congrFun (congrFun eM_1 a) i).trans ((mset_ne (fun h9 => q0 (h9))).trans rfl))), nI0, (fun z1 z2 z3 z4 => by show (M_1 19 4).toInt = _; rw [eM_1, mset_eq]; exact flt_is z1 z2 z3 z4)⟩
set_option maxHeartbeats 4000000 in
theorem o5_X7_number (M : Mem) (v1 : Int32) (T : Int → Int) (hT : TXc M = T) (hk : 1 ≤ v1.toInt ∧ v1.toInt ≤ 5) (hp : 0 ≤ (M 19 3).toInt ∧ (M 19 3).toInt ≤ (M 19 2).toInt ∧ (M 19 2).toInt ≤ 240) : Wp (f_X7_number M v1) (fun q => (∀ a i, ¬ ((a = 19 ∧ i = 3) ∨ (a = 19 ∧ i = 4)) → q.2 a i = M a i) ∧ (NumP (numS T (M 19 3).toInt (ix v1)) q.1.toInt (q.2 19 4).toInt (q.2 19 3).toInt (M 19 3).toInt (M 19 2).toInt)) := by
  have ft1 := t_rng v1
  refine wp_lp3 (fun M4 y2_4 y3_4 => (0 ≤ y3_4.toInt) ∧ (∀ a i, ¬ ((a = 19 ∧ i = 3)) → M4 a i = M a i) ∧ ((M4 19 3).toInt = (M 19 3).toInt + y3_4.toInt ∧ y3_4.toInt ≤ v1.toInt ∧ (M4 19 3).toInt ≤ (M 19 2).toInt) ∧ (∀ i : Nat, (i : Int) < y3_4.toInt → dgt (T ((M 19 3).toInt + i)) = true) ∧ (y2_4.toInt = nvv T (M 19 3).toInt (ix y3_4))) (fun M4 y2_4 y3_4 => (v1.toInt - y3_4.toInt).toNat) (fun ag4 M4 y2_4 y3_4 hI4 ih4 => ?_) FU M (nI 0) (nI 0) ⟨(by have f0 := t_lit 0; omega), (fun _ _ _ => rfl), (by have := t_lit 0; omega), (fun i hi => absurd hi (by have := t_lit 0; omega)), (by rw [show ix (nI 0) = 0 from (by decide)]; exact nI0)⟩ (fu_lt (by have f0 := t_lit 0; omega))
  obtain ⟨hi4, hf_M4, h4, hd4, hv4⟩ := hI4
  have fk := t_ixn v1 (by omega)
  have fy := t_ixn y3_4 (by omega)
  have hnb := nvv_bd (T := T) (p := (M 19 3).toInt) (c := ix y3_4) (fun i hi => hd4 i (by omega))
  have hpw := pow10_le (show ix y3_4 ≤ 5 by omega)
  have hp5 : (10 : Int) ^ 5 = 100000 := by decide
  have j48 : (v1.toInt ≤ y3_4.toInt ∨ dgt (T (M4 19 3).toInt) = false) → Wp (f_X7_number_L48 M4 y2_4 y3_4) (fun q => (∀ a i, ¬ ((a = 19 ∧ i = 3) ∨ (a = 19 ∧ i = 4)) → q.2 a i = M a i) ∧ (NumP (numS T (M 19 3).toInt (ix v1)) q.1.toInt (q.2 19 4).toInt (q.2 19 3).toInt (M 19 3).toInt (M 19 2).toInt)) := by
    intro h48
    unfold f_X7_number_L48
    refine wp_ite (fun c49 => ?_) (fun c49 => ?_)
    · refine wp_cb2 (o5_X7_refuse M4 (nI 1) (M4 19 3)) (fun r_5 M_6 he58 hq58 => ?_)
      obtain ⟨hz_r_5, hg_M_6, hw_58, hq_58⟩ := hq58
      replace hw_58 : r_5.toInt = 0 := hw_58
      have := t_lit 1
      replace hq_58 : 0 ≤ (nI 1).toInt → (nI 1).toInt ≤ 9 → 0 ≤ (M4 19 3).toInt → (M4 19 3).toInt ≤ 1000 → (M_6 19 4).toInt = -1000 * (nI 1).toInt - (M4 19 3).toInt := hq_58
      have := t_lit 1
      replace hg_M_6 : ∀ a i, ¬ ((a = 19 ∧ i = 4)) → M_6 a i = M4 a i := hg_M_6
      exact wp_some ⟨(fun a i q0 => ((hg_M_6 a i (fun h9 => q0 (Or.inr (h9)))).trans ((hf_M4 a i (fun h9 => q0 (Or.inl h9))).trans rfl))), (by show NumP _ (-1 : Int32).toInt (M_6 19 4).toInt (M_6 19 3).toInt _ _; rw [numS_0 (by omega) (by rw [show (M 19 3).toInt = (M4 19 3).toInt from (by omega)]; exact h48.resolve_left (by omega))]; exact ⟨by decide, by rw [hq_58 (by decide) (by decide) (by omega) (by omega)]; have := t_lit 1; omega⟩)⟩
    · refine wp_bind2 (o5_X7_here M4 T ((txc_fr ((hf_M4 19 2 (by omega)).trans rfl) (fun j => ((hf_M4 20 j (by omega)).trans rfl))).trans hT) (by rw [show M4 19 2 = M 19 2 from ((hf_M4 19 2 (by omega)).trans rfl)]; omega)) (fun r_1 he65 hq65 => ?_)
      have hh_65 := hq65
      replace hh_65 : r_1.toInt = T (M4 19 3).toInt := hh_65
      refine wp_bind2 (o5_X7_isDigit M4 r_1) (fun r_2 he68 hq68 => ?_)
      obtain ⟨hz_r_2, hd_68⟩ := hq68
      replace hd_68 : ¬ r_2.toInt = 0 ↔ dgt r_1.toInt = true := hd_68
      refine wp_ite (fun c71 => ?_) (fun c71 => ?_)
      · exact wp_some ⟨(fun a i q0 => ((hf_M4 a i (fun h9 => q0 (Or.inl h9))).trans rfl)), (by show NumP _ y2_4.toInt (M4 19 4).toInt (M4 19 3).toInt _ _; rw [numS_v (c := ix y3_4) (by omega) (by omega) (fun i hi => hd4 i (by omega)) (by rw [show (M 19 3).toInt + ((ix y3_4 : Nat) : Int) = (M4 19 3).toInt from (by omega), ← hh_65]; exact Bool.eq_false_iff.mpr (fun z => hd_68.mpr z c71))]; exact ⟨hv4, hnb.1, by show nvv T _ _ ≤ 99999; omega, by show (M4 19 3).toInt = (M 19 3).toInt + _; omega, by show (M 19 3).toInt < (M 19 3).toInt + _; omega, by show (M 19 3).toInt + _ ≤ _; omega⟩)⟩
      · refine wp_cb2 (o5_X7_refuse M4 (nI 2) (M4 19 3)) (fun r_3 M_4 he80 hq80 => ?_)
        obtain ⟨hz_r_3, hg_M_4, hw_80, hq_80⟩ := hq80
        replace hw_80 : r_3.toInt = 0 := hw_80
        have := t_lit 2
        replace hq_80 : 0 ≤ (nI 2).toInt → (nI 2).toInt ≤ 9 → 0 ≤ (M4 19 3).toInt → (M4 19 3).toInt ≤ 1000 → (M_4 19 4).toInt = -1000 * (nI 2).toInt - (M4 19 3).toInt := hq_80
        have := t_lit 2
        replace hg_M_4 : ∀ a i, ¬ ((a = 19 ∧ i = 4)) → M_4 a i = M4 a i := hg_M_4
        exact wp_some ⟨(fun a i q0 => ((hg_M_4 a i (fun h9 => q0 (Or.inr (h9)))).trans ((hf_M4 a i (fun h9 => q0 (Or.inl h9))).trans rfl))), (by show NumP _ (-1 : Int32).toInt (M_4 19 4).toInt (M_4 19 3).toInt _ _; have hdg : dgt (T (M4 19 3).toInt) = true := (by rw [← hh_65]; exact hd_68.mp c71); have hful : v1.toInt = y3_4.toInt := (by have := h48.resolve_right (by rw [hdg]; decide); omega); rw [numS_2 (by omega) (fun i hi => hd4 i (by omega)) (by rw [show (M 19 3).toInt + ((ix v1 : Nat) : Int) = (M4 19 3).toInt from (by omega)]; exact hdg)]; exact ⟨by decide, by rw [hq_80 (by decide) (by decide) (by omega) (by omega)]; have := t_lit 2; omega⟩)⟩
  refine wp_ite (fun c6 => ?_) (fun c6 => ?_)
  · exact j48 (Or.inl c6)
  · refine wp_bind2 (o5_X7_here M4 T ((txc_fr ((hf_M4 19 2 (by omega)).trans rfl) (fun j => ((hf_M4 20 j (by omega)).trans rfl))).trans hT) (by rw [show M4 19 2 = M 19 2 from ((hf_M4 19 2 (by omega)).trans rfl)]; omega)) (fun r_7 he10 hq10 => ?_)
    have hh_10 := hq10
    replace hh_10 : r_7.toInt = T (M4 19 3).toInt := hh_10
    refine wp_bind2 (o5_X7_isDigit M4 r_7) (fun r_8 he13 hq13 => ?_)
    obtain ⟨hz_r_8, hd_13⟩ := hq13
    replace hd_13 : ¬ r_8.toInt = 0 ↔ dgt r_7.toInt = true := hd_13
    refine wp_ite (fun c16 => ?_) (fun c16 => ?_)
    · exact j48 (Or.inr (by rw [← hh_10]; exact Bool.eq_false_iff.mpr (fun z => hd_13.mpr z c16)))
    · refine wp_bind2 (o5_X7_here M4 T ((txc_fr ((hf_M4 19 2 (by omega)).trans rfl) (fun j => ((hf_M4 20 j (by omega)).trans rfl))).trans hT) (by rw [show M4 19 2 = M 19 2 from ((hf_M4 19 2 (by omega)).trans rfl)]; omega)) (fun r_9 he24 hq24 => ?_)
      have hh_24 := hq24
      replace hh_24 : r_9.toInt = T (M4 19 3).toInt := hh_24
      have hdg : dgt (T (M4 19 3).toInt) = true := by rw [← hh_10]; exact hd_13.mp c16
      have hin := dg_in hT hdg
      have hd9 := dgt_i hdg
      have hi := i_up (x := y3_4) (by omega)
      refine wp_bnd (fun x_10 ex_10 => ?_)
      have hx10 : x_10.toInt = 10 * y2_4.toInt + (r_9.toInt - 48) := by rw [ex_10]; exact num_step (by omega) (by omega)
      refine wp_bnd (fun M_11 eM_11 => ?_)
      have hm3 : (M_11 19 3).toInt = (M4 19 3).toInt + 1 := by rw [eM_11, mset_eq]; exact (i_up (by omega)).2
      exact ih4 M_11 x_10 (y3_4 + (nI 1)) ⟨(by have f0 := t_lit 1; have f1 := t_add y3_4 (nI 1); omega), (fun a i q0 => ((congrFun (congrFun eM_11 a) i).trans ((mset_ne (fun h9 => q0 (h9))).trans ((hf_M4 a i (fun h9 => q0 (h9))).trans rfl)))), (by rw [hm3, hi.2]; omega), (fun i hz => by rw [hi.2] at hz; by_cases e9 : (i : Int) = y3_4.toInt; (rw [show (M 19 3).toInt + (i : Int) = (M4 19 3).toInt from (by omega)]; exact hdg); exact hd4 i (by omega)), (by rw [hi.1, nvv_s, ← hv4, hx10, hh_24, show (M4 19 3).toInt = (M 19 3).toInt + ((ix y3_4 : Nat) : Int) from (by omega)])⟩ (by have f0 := t_lit 1; have f1 := t_add y3_4 (nI 1); omega)
theorem o5_X7_skip (M : Mem) (v1 : Int32) (T : Int → Int) (hT : TXc M = T) (hp : 0 ≤ (M 19 3).toInt ∧ (M 19 3).toInt ≤ (M 19 2).toInt ∧ (M 19 2).toInt ≤ 240) (hv : 0 ≤ v1.toInt) : Wp (f_X7_skip M v1) (fun q => (q.1 = 0 ∨ q.1 = 1) ∧ (∀ a i, ¬ ((a = 19 ∧ i = 3) ∨ (a = 19 ∧ i = 4)) → q.2 a i = M a i) ∧ ((¬ q.1.toInt = 0 ∧ T (M 19 3).toInt = v1.toInt ∧ (q.2 19 3).toInt = (M 19 3).toInt + 1 ∧ (M 19 3).toInt < (M 19 2).toInt) ∨ (q.1.toInt = 0 ∧ ¬ T (M 19 3).toInt = v1.toInt ∧ (q.2 19 4).toInt = -1000 - (M 19 3).toInt))) := by
  refine wp_bind2 (o5_X7_here M T hT hp) (fun r_1 he1 hq1 => ?_)
  have hh_1 := hq1
  replace hh_1 : r_1.toInt = T (M 19 3).toInt := hh_1
  refine wp_ite (fun c5 => ?_) (fun c5 => ?_)
  · have hin := tx_in hT (p := (M 19 3).toInt) (by rw [← hh_1]; omega)
    refine wp_bnd (fun M_2 eM_2 => ?_)
    exact wp_some ⟨b01_1, (fun a i q0 => ((congrFun (congrFun eM_2 a) i).trans ((mset_ne (fun h9 => q0 (Or.inl h9))).trans rfl))), (Or.inl ⟨by decide, by rw [← hh_1]; exact c5, by show (M_2 19 3).toInt = _; rw [eM_2, mset_eq]; exact (i_up (by omega)).2, hin⟩)⟩
  · refine wp_cb2 (o5_X7_refuse M (nI 1) (M 19 3)) (fun r_3 M_4 he14 hq14 => ?_)
    obtain ⟨hz_r_3, hg_M_4, hw_14, hq_14⟩ := hq14
    replace hw_14 : r_3.toInt = 0 := hw_14
    have := t_lit 1
    replace hq_14 : 0 ≤ (nI 1).toInt → (nI 1).toInt ≤ 9 → 0 ≤ (M 19 3).toInt → (M 19 3).toInt ≤ 1000 → (M_4 19 4).toInt = -1000 * (nI 1).toInt - (M 19 3).toInt := hq_14
    have := t_lit 1
    replace hg_M_4 : ∀ a i, ¬ ((a = 19 ∧ i = 4)) → M_4 a i = M a i := hg_M_4
    refine wp_gb hz_r_3 ?_
    exact wp_some ⟨hz_r_3, (fun a i q0 => ((hg_M_4 a i (fun h9 => q0 (Or.inr (h9)))).trans rfl)), (Or.inr ⟨hw_14, by rw [← hh_1]; exact c5, by show (M_4 19 4).toInt = _; rw [hq_14 (by decide) (by decide) (by omega) (by omega)]; have := t_lit 1; omega⟩)⟩
theorem o5_X2_stoneAt {b : Nat} (hb : isF b) (M : Mem) (v1 : Int32) (v2 : Int32) : Wp (f_X2_stoneAt b M v1 v2) (fun q => ((q.toInt = -1 ∧ ∀ j : Nat, j < 40 → ¬ (M (b + 4) j).toInt = 0 → ¬ ((M (b + 1) j).toInt = v1.toInt ∧ (M (b + 2) j).toInt = v2.toInt)) ∨ (¬ q.toInt = -1 ∧ ∃ j : Nat, j < 40 ∧ ¬ (M (b + 4) j).toInt = 0 ∧ (M (b + 1) j).toInt = v1.toInt ∧ (M (b + 2) j).toInt = v2.toInt))) := by
  have hb0 : b = 1 ∨ b = 7 ∨ b = 13 := hb
  refine wp_lp1 (fun y3_2 => (0 ≤ y3_2.toInt) ∧ (∀ j : Nat, (j : Int) < y3_2.toInt → ¬ (M (b + 4) j).toInt = 0 → ¬ ((M (b + 1) j).toInt = v1.toInt ∧ (M (b + 2) j).toInt = v2.toInt))) (fun y3_2 => (40 - y3_2.toInt).toNat) (fun ag2 y3_2 hI2 ih2 => ?_) FU (nI 0) ⟨(by have f0 := t_lit 0; omega), (fun j hj => absurd hj (by have := t_lit 0; omega))⟩ (fu_lt (by have f0 := t_lit 0; omega))
  obtain ⟨hi2, h2⟩ := hI2
  refine wp_ite (fun c5 => ?_) (fun c5 => ?_)
  · exact wp_some (Or.inl ⟨by decide, fun j hj => h2 j (by omega)⟩)
  · have fy := t_ixn y3_2 (by omega)
    have hi := i_up (x := y3_2) (by omega)
    refine wp_gd (by omega) ?_
    refine wp_ite (fun c14 => ?_) (fun c14 => ?_)
    · exact ih2 (y3_2 + (nI 1)) ⟨(by have f0 := t_lit 1; have f1 := t_add y3_2 (nI 1); omega), (fun j hj => by rw [hi.2] at hj; by_cases e9 : j = ix y3_2; (rw [e9]; exact fun z => absurd c14 z); exact h2 j (by omega))⟩ (by have f0 := t_lit 1; have f1 := t_add y3_2 (nI 1); omega)
    · refine wp_gd (by omega) ?_
      refine wp_ite (fun c24 => ?_) (fun c24 => ?_)
      · refine wp_gd (by omega) ?_
        refine wp_ite (fun c34 => ?_) (fun c34 => ?_)
        · exact wp_some (Or.inr ⟨by omega, ix y3_2, by omega, c14, c24, c34⟩)
        · exact ih2 (y3_2 + (nI 1)) ⟨(by have f0 := t_lit 1; have f1 := t_add y3_2 (nI 1); omega), (fun j hj => by rw [hi.2] at hj; by_cases e9 : j = ix y3_2; (rw [e9]; exact fun _ z => c34 z.2); exact h2 j (by omega))⟩ (by have f0 := t_lit 1; have f1 := t_add y3_2 (nI 1); omega)
      · exact ih2 (y3_2 + (nI 1)) ⟨(by have f0 := t_lit 1; have f1 := t_add y3_2 (nI 1); omega), (fun j hj => by rw [hi.2] at hj; by_cases e9 : j = ix y3_2; (rw [e9]; exact fun _ z => c24 z.1); exact h2 j (by omega))⟩ (by have f0 := t_lit 1; have f1 := t_add y3_2 (nI 1); omega)
theorem o5_X2_lay {b : Nat} (hb : isF b) (M : Mem) (v1 : Int32) (v2 : Int32) (v3 : Int32) (v4 : Int32) (v5 : Int32) : Wp (f_X2_lay b M v1 v2 v3 v4 v5) (fun q => (∀ a i, ¬ (a = (b + 1) ∨ a = (b + 2) ∨ a = (b + 3) ∨ a = (b + 4) ∨ a = (b + 5)) → q a i = M a i) ∧ (0 ≤ v1.toInt → v1.toInt < 40 → q (b + 1) (ix v1) = v2 ∧ q (b + 2) (ix v1) = v3 ∧ ¬ (q (b + 4) (ix v1)).toInt = 0 ∧ q (b + 3) (ix v1) = v4 ∧ q (b + 5) (ix v1) = vp_nar .boolean v5 ∧ ∀ j : Nat, ¬ j = ix v1 → q (b + 1) j = M (b + 1) j ∧ q (b + 2) j = M (b + 2) j ∧ q (b + 4) j = M (b + 4) j)) := by
  have hb0 : b = 1 ∨ b = 7 ∨ b = 13 := hb
  refine wp_ite (fun c1 => ?_) (fun c1 => ?_)
  · exact wp_some ⟨(fun _ _ _ => rfl), (fun z1 z2 => by omega)⟩
  · refine wp_ite (fun c7 => ?_) (fun c7 => ?_)
    · refine wp_gd (by omega) ?_
      refine wp_bnd (fun M_1 eM_1 => ?_)
      refine wp_gd (by omega) ?_
      refine wp_bnd (fun M_2 eM_2 => ?_)
      refine wp_gd (by omega) ?_
      refine wp_bnd (fun M_3 eM_3 => ?_)
      refine wp_gd (by omega) ?_
      refine wp_bnd (fun M_4 eM_4 => ?_)
      refine wp_gd (by omega) ?_
      refine wp_bnd (fun M_5 eM_5 => ?_)
      exact wp_some ⟨(fun a i q0 => ((congrFun (congrFun eM_5 a) i).trans ((mset_ne (fun h9 => q0 (Or.inr (Or.inr (Or.inr (Or.inl (h9).1)))))).trans ((congrFun (congrFun eM_4 a) i).trans ((mset_ne (fun h9 => q0 (Or.inr (Or.inr (Or.inr (Or.inr ((h9).1))))))).trans ((congrFun (congrFun eM_3 a) i).trans ((mset_ne (fun h9 => q0 (Or.inr (Or.inr (Or.inl (h9).1))))).trans ((congrFun (congrFun eM_2 a) i).trans ((mset_ne (fun h9 => q0 (Or.inr (Or.inl (h9).1)))).trans ((congrFun (congrFun eM_1 a) i).trans ((mset_ne (fun h9 => q0 (Or.inl (h9).1))).trans rfl))))))))))), (fun _ _ => ⟨by rw [eM_5, mset_ne (by omega), eM_4, mset_ne (by omega), eM_3, mset_ne (by omega), eM_2, mset_ne (by omega), eM_1, mset_eq], by rw [eM_5, mset_ne (by omega), eM_4, mset_ne (by omega), eM_3, mset_ne (by omega), eM_2, mset_eq], by rw [eM_5, mset_eq]; decide, by rw [eM_5, mset_ne (by omega), eM_4, mset_ne (by omega), eM_3, mset_eq], by rw [eM_5, mset_ne (by omega), eM_4, mset_eq], fun j hj => ⟨by rw [eM_5, mset_ne (by omega), eM_4, mset_ne (by omega), eM_3, mset_ne (by omega), eM_2, mset_ne (by omega), eM_1, mset_ne (by omega)], by rw [eM_5, mset_ne (by omega), eM_4, mset_ne (by omega), eM_3, mset_ne (by omega), eM_2, mset_ne (by omega), eM_1, mset_ne (by omega)], by rw [eM_5, mset_ne (by omega), eM_4, mset_ne (by omega), eM_3, mset_ne (by omega), eM_2, mset_ne (by omega), eM_1, mset_ne (by omega)]⟩⟩)⟩
    · exact wp_some ⟨(fun _ _ _ => rfl), (fun z1 z2 => by omega)⟩
set_option maxHeartbeats 8000000 in
theorem o5_X9_readLine {b : Nat} (hb : isF b) (M : Mem) (v2 : Int32) (T : Int → Int) (hT : TXc M = T) (hp : 0 ≤ (M 19 3).toInt ∧ (M 19 3).toInt ≤ (M 19 2).toInt ∧ (M 19 2).toInt ≤ 240) (hv2 : 0 ≤ v2.toInt ∧ v2.toInt < 40) (hto : ∀ j : Nat, j < 40 → ((M (b + 4) j).toInt = 0 ↔ v2.toInt ≤ (j : Int))) : Wp (f_X9_readLine b M v2) (fun q => (q.1 = 0 ∨ q.1 = 1) ∧ (∀ a i, ¬ ((a = 19 ∧ i = 3) ∨ (a = 19 ∧ i = 4) ∨ a = (b + 1) ∨ a = (b + 2) ∨ a = (b + 3) ∨ a = (b + 4) ∨ a = (b + 5)) → q.2 a i = M a i) ∧ (LinP (lineS T (M 19 3).toInt (fun j => (M (b + 1) j).toInt) (fun j => (M (b + 2) j).toInt) (ix v2)) q.1.toInt (q.2 19 4).toInt (q.2 19 3).toInt (q.2 (b + 1) (ix v2)).toInt (q.2 (b + 2) (ix v2)).toInt (q.2 (b + 3) (ix v2)).toInt (q.2 (b + 5) (ix v2)).toInt (M 19 3).toInt (M 19 2).toInt) ∧ (¬ q.1.toInt = 0 → (∀ j : Nat, ¬ j = ix v2 → q.2 (b + 1) j = M (b + 1) j ∧ q.2 (b + 2) j = M (b + 2) j ∧ q.2 (b + 4) j = M (b + 4) j) ∧ ¬ (q.2 (b + 4) (ix v2)).toInt = 0)) := by
  have hb0 : b = 1 ∨ b = 7 ∨ b = 13 := hb
  have fv2 := t_ixn v2 (by omega)
  refine wp_bnd (fun x_1 ex_1 => ?_)
  have hv_x_1 := congrArg Int32.toInt ex_1
  refine wp_cb2 (o5_X7_number M (nI 2) T hT (by decide) hp) (fun r_2 M_3 he7 hq7 => ?_)
  obtain ⟨hg_M_3, hn_7⟩ := hq7
  replace hn_7 : NumP (numS T (M 19 3).toInt (ix (nI 2))) r_2.toInt (M_3 19 4).toInt (M_3 19 3).toInt (M 19 3).toInt (M 19 2).toInt := hn_7
  have := t_lit 2
  replace hg_M_3 : ∀ a i, ¬ ((a = 19 ∧ i = 3) ∨ (a = 19 ∧ i = 4)) → M_3 a i = M a i := hg_M_3
  rw [show ix (nI 2) = 2 from (by decide)] at hn_7
  refine wp_ite (fun c15 => ?_) (fun c15 => ?_)
  · exact wp_some ⟨b01_0, (fun a i q0 => ((hg_M_3 a i (fun z8 => q0 ((fun z9 => Or.elim z9 (fun h9 => Or.inl h9) (fun h9 => Or.inr (Or.inl h9))) z8))).trans rfl)), (by show LinP (lineS T (M 19 3).toInt (fun j => (M (b + 1) j).toInt) (fun j => (M (b + 2) j).toInt) (ix v2)) (nI 0).toInt (M_3 19 4).toInt (M_3 19 3).toInt (M_3 (b + 1) (ix v2)).toInt (M_3 (b + 2) (ix v2)).toInt (M_3 (b + 3) (ix v2)).toInt (M_3 (b + 5) (ix v2)).toInt (M 19 3).toInt (M 19 2).toInt; rw [lineS_f (numP_f hn_7 c15)]; exact ⟨nI0, rfl⟩), (fun z => absurd nI0 z)⟩
  · obtain ⟨n1, n2, n3, n4, n5⟩ := numP_v hn_7 c15
    refine wp_ite (fun c24 => ?_) (fun c24 => ?_)
    · refine wp_cb2 (o5_X7_skip M_3 (nI 44) T ((txc_fr ((hg_M_3 19 2 (by omega)).trans rfl) (fun j => ((hg_M_3 20 j (by omega)).trans rfl))).trans hT) (by rw [show M_3 19 2 = M 19 2 from ((hg_M_3 19 2 (by omega)).trans rfl)]; omega) (by decide)) (fun r_4 M_5 he37 hq37 => ?_)
      obtain ⟨hz_r_4, hg_M_5, hs_37⟩ := hq37
      replace hs_37 : (¬ r_4.toInt = 0 ∧ T (M_3 19 3).toInt = (nI 44).toInt ∧ (M_5 19 3).toInt = (M_3 19 3).toInt + 1 ∧ (M_3 19 3).toInt < (M_3 19 2).toInt) ∨ (r_4.toInt = 0 ∧ ¬ T (M_3 19 3).toInt = (nI 44).toInt ∧ (M_5 19 4).toInt = -1000 - (M_3 19 3).toInt) := hs_37
      have := t_lit 44
      replace hg_M_5 : ∀ a i, ¬ ((a = 19 ∧ i = 3) ∨ (a = 19 ∧ i = 4)) → M_5 a i = M_3 a i := hg_M_5
      refine wp_ite (fun c40 => ?_) (fun c40 => ?_)
      · exact wp_some ⟨b01_0, (fun a i q0 => ((hg_M_5 a i (fun z8 => q0 ((fun z9 => Or.elim z9 (fun h9 => Or.inl h9) (fun h9 => Or.inr (Or.inl h9))) z8))).trans ((hg_M_3 a i (fun z8 => q0 ((fun z9 => Or.elim z9 (fun h9 => Or.inl h9) (fun h9 => Or.inr (Or.inl h9))) z8))).trans rfl))), (by show LinP (lineS T (M 19 3).toInt (fun j => (M (b + 1) j).toInt) (fun j => (M (b + 2) j).toInt) (ix v2)) (nI 0).toInt (M_5 19 4).toInt (M_5 19 3).toInt (M_5 (b + 1) (ix v2)).toInt (M_5 (b + 2) (ix v2)).toInt (M_5 (b + 3) (ix v2)).toInt (M_5 (b + 5) (ix v2)).toInt (M 19 3).toInt (M 19 2).toInt; rw [lineS_v n1, lineX_1 (by omega) (by have z := (hs_37.resolve_left (fun z => z.1 c40)).2.1; have := t_lit 44; omega)]; exact ⟨nI0, (hs_37.resolve_left (fun z => z.1 c40)).2.2⟩), (fun z => absurd nI0 z)⟩
      · have s37 := hs_37.resolve_right (fun z => c40 z.1)
        have f44 := t_lit 44
        have e44 : T (M_3 19 3).toInt = 44 := by omega
        have e5 : (M_3 19 3).toInt + 1 = (M_5 19 3).toInt := by omega
        refine wp_bnd (fun x_6 ex_6 => ?_)
        have hv_x_6 := congrArg Int32.toInt ex_6
        refine wp_cb2 (o5_X7_number M_5 (nI 2) T ((txc_fr ((hg_M_5 19 2 (by omega)).trans ((hg_M_3 19 2 (by omega)).trans rfl)) (fun j => ((hg_M_5 20 j (by omega)).trans ((hg_M_3 20 j (by omega)).trans rfl)))).trans hT) (by decide) (by rw [show M_5 19 2 = M 19 2 from ((hg_M_5 19 2 (by omega)).trans ((hg_M_3 19 2 (by omega)).trans rfl))]; omega)) (fun r_7 M_8 he53 hq53 => ?_)
        obtain ⟨hg_M_8, hn_53⟩ := hq53
        replace hn_53 : NumP (numS T (M_5 19 3).toInt (ix (nI 2))) r_7.toInt (M_8 19 4).toInt (M_8 19 3).toInt (M_5 19 3).toInt (M_5 19 2).toInt := hn_53
        have := t_lit 2
        replace hg_M_8 : ∀ a i, ¬ ((a = 19 ∧ i = 3) ∨ (a = 19 ∧ i = 4)) → M_8 a i = M_5 a i := hg_M_8
        rw [show ix (nI 2) = 2 from (by decide)] at hn_53
        refine wp_ite (fun c61 => ?_) (fun c61 => ?_)
        · exact wp_some ⟨b01_0, (fun a i q0 => ((hg_M_8 a i (fun z8 => q0 ((fun z9 => Or.elim z9 (fun h9 => Or.inl h9) (fun h9 => Or.inr (Or.inl h9))) z8))).trans ((hg_M_5 a i (fun z8 => q0 ((fun z9 => Or.elim z9 (fun h9 => Or.inl h9) (fun h9 => Or.inr (Or.inl h9))) z8))).trans ((hg_M_3 a i (fun z8 => q0 ((fun z9 => Or.elim z9 (fun h9 => Or.inl h9) (fun h9 => Or.inr (Or.inl h9))) z8))).trans rfl)))), (by show LinP (lineS T (M 19 3).toInt (fun j => (M (b + 1) j).toInt) (fun j => (M (b + 2) j).toInt) (ix v2)) (nI 0).toInt (M_8 19 4).toInt (M_8 19 3).toInt (M_8 (b + 1) (ix v2)).toInt (M_8 (b + 2) (ix v2)).toInt (M_8 (b + 3) (ix v2)).toInt (M_8 (b + 5) (ix v2)).toInt (M 19 3).toInt (M 19 2).toInt; rw [lineS_v n1, lineX_v (by omega) e44, e5, lineY_f (numP_f hn_53 c61)]; exact ⟨nI0, rfl⟩), (fun z => absurd nI0 z)⟩
        · obtain ⟨m1, m2, m3, m4, m5⟩ := numP_v hn_53 c61
          obtain ⟨q8, eq8⟩ : ∃ q : Int, (M_8 19 3).toInt = q := ⟨_, rfl⟩
          have j79 : (¬ (1 ≤ r_7.toInt ∧ r_7.toInt ≤ 20)) → Wp (f_X9_readLine_L79 x_6 M_8) (fun q => (q.1 = 0 ∨ q.1 = 1) ∧ (∀ a i, ¬ ((a = 19 ∧ i = 3) ∨ (a = 19 ∧ i = 4) ∨ a = (b + 1) ∨ a = (b + 2) ∨ a = (b + 3) ∨ a = (b + 4) ∨ a = (b + 5)) → q.2 a i = M a i) ∧ (LinP (lineS T (M 19 3).toInt (fun j => (M (b + 1) j).toInt) (fun j => (M (b + 2) j).toInt) (ix v2)) q.1.toInt (q.2 19 4).toInt (q.2 19 3).toInt (q.2 (b + 1) (ix v2)).toInt (q.2 (b + 2) (ix v2)).toInt (q.2 (b + 3) (ix v2)).toInt (q.2 (b + 5) (ix v2)).toInt (M 19 3).toInt (M 19 2).toInt) ∧ (¬ q.1.toInt = 0 → (∀ j : Nat, ¬ j = ix v2 → q.2 (b + 1) j = M (b + 1) j ∧ q.2 (b + 2) j = M (b + 2) j ∧ q.2 (b + 4) j = M (b + 4) j) ∧ ¬ (q.2 (b + 4) (ix v2)).toInt = 0)) := by
            intro h79
            unfold f_X9_readLine_L79
            refine wp_cb2 (o5_X7_refuse M_8 (nI 3) x_6) (fun r_9 M_10 he83 hq83 => ?_)
            obtain ⟨hz_r_9, hg_M_10, hw_83, hq_83⟩ := hq83
            replace hw_83 : r_9.toInt = 0 := hw_83
            have := t_lit 3
            replace hq_83 : 0 ≤ (nI 3).toInt → (nI 3).toInt ≤ 9 → 0 ≤ x_6.toInt → x_6.toInt ≤ 1000 → (M_10 19 4).toInt = -1000 * (nI 3).toInt - x_6.toInt := hq_83
            have := t_lit 3
            replace hg_M_10 : ∀ a i, ¬ ((a = 19 ∧ i = 4)) → M_10 a i = M_8 a i := hg_M_10
            refine wp_gb hz_r_9 ?_
            exact wp_some ⟨hz_r_9, (fun a i q0 => ((hg_M_10 a i (fun h9 => q0 (Or.inr (Or.inl h9)))).trans ((hg_M_8 a i (fun z8 => q0 ((fun z9 => Or.elim z9 (fun h9 => Or.inl h9) (fun h9 => Or.inr (Or.inl h9))) z8))).trans ((hg_M_5 a i (fun z8 => q0 ((fun z9 => Or.elim z9 (fun h9 => Or.inl h9) (fun h9 => Or.inr (Or.inl h9))) z8))).trans ((hg_M_3 a i (fun z8 => q0 ((fun z9 => Or.elim z9 (fun h9 => Or.inl h9) (fun h9 => Or.inr (Or.inl h9))) z8))).trans rfl))))), (by show LinP (lineS T (M 19 3).toInt (fun j => (M (b + 1) j).toInt) (fun j => (M (b + 2) j).toInt) (ix v2)) r_9.toInt (M_10 19 4).toInt (M_10 19 3).toInt (M_10 (b + 1) (ix v2)).toInt (M_10 (b + 2) (ix v2)).toInt (M_10 (b + 3) (ix v2)).toInt (M_10 (b + 5) (ix v2)).toInt (M 19 3).toInt (M 19 2).toInt; rw [lineS_v n1, lineX_v (by omega) e44, e5, lineY_3 m1 h79]; exact ⟨hw_83, by rw [hq_83 (by decide) (by decide) (by omega) (by omega)]; have := t_lit 3; omega⟩), (fun z => absurd hw_83 z)⟩
          refine wp_ite (fun c69 => ?_) (fun c69 => ?_)
          · exact j79 (by omega)
          · refine wp_ite (fun c76 => ?_) (fun c76 => ?_)
            · refine wp_bind2 (o5_X2_stoneAt hb M_8 r_2 r_7) (fun r_11 he92 hq92 => ?_)
              have hsa_92 := hq92
              replace hsa_92 : (r_11.toInt = -1 ∧ ∀ j : Nat, j < 40 → ¬ (M_8 (b + 4) j).toInt = 0 → ¬ ((M_8 (b + 1) j).toInt = r_2.toInt ∧ (M_8 (b + 2) j).toInt = r_7.toInt)) ∨ (¬ r_11.toInt = -1 ∧ ∃ j : Nat, j < 40 ∧ ¬ (M_8 (b + 4) j).toInt = 0 ∧ (M_8 (b + 1) j).toInt = r_2.toInt ∧ (M_8 (b + 2) j).toInt = r_7.toInt) := hsa_92
              have e8b1 : ∀ j, M_8 (b + 1) j = M (b + 1) j := fun j => by rw [hg_M_8 _ _ (by omega), hg_M_5 _ _ (by omega), hg_M_3 _ _ (by omega)]
              have e8b2 : ∀ j, M_8 (b + 2) j = M (b + 2) j := fun j => by rw [hg_M_8 _ _ (by omega), hg_M_5 _ _ (by omega), hg_M_3 _ _ (by omega)]
              have e8b4 : ∀ j, M_8 (b + 4) j = M (b + 4) j := fun j => by rw [hg_M_8 _ _ (by omega), hg_M_5 _ _ (by omega), hg_M_3 _ _ (by omega)]
              refine wp_ite (fun c96 => ?_) (fun c96 => ?_)
              · have hdup : dupS (fun j => (M (b + 1) j).toInt) (fun j => (M (b + 2) j).toInt) r_2.toInt r_7.toInt (ix v2) = false := dup_f _ (fun j hj => by
                  have z := (hsa_92.resolve_right (fun z => z.1 c96)).2 j (by omega)
                  rw [e8b4, e8b1, e8b2] at z
                  exact z (fun q => absurd ((hto j (by omega)).mp q) (by omega)))
                refine wp_bind2 (o5_X7_here M_8 T ((txc_fr ((hg_M_8 19 2 (by omega)).trans ((hg_M_5 19 2 (by omega)).trans ((hg_M_3 19 2 (by omega)).trans rfl))) (fun j => ((hg_M_8 20 j (by omega)).trans ((hg_M_5 20 j (by omega)).trans ((hg_M_3 20 j (by omega)).trans rfl))))).trans hT) (by rw [show M_8 19 2 = M 19 2 from ((hg_M_8 19 2 (by omega)).trans ((hg_M_5 19 2 (by omega)).trans ((hg_M_3 19 2 (by omega)).trans rfl)))]; omega)) (fun r_12 he111 hq111 => ?_)
                have hh_111 := hq111
                replace hh_111 : r_12.toInt = T (M_8 19 3).toInt := hh_111
                have j168 : ∀ (N168 : Mem), ∀ (z7_168 : Int32), (∀ a i, ¬ ((a = 19 ∧ i = 3)) → N168 a i = M_8 a i) → ((N168 19 3).toInt ≤ (M 19 2).toInt ∧ ((T q8 = 115 ∧ dgt (T (q8 + 1)) = true ∧ (N168 19 3).toInt = q8 + 2 ∧ z7_168.toInt = T (q8 + 1) - 48) ∨ (¬ T q8 = 115 ∧ (N168 19 3).toInt = q8 ∧ z7_168.toInt = 0))) → Wp (f_X9_readLine_L168 b v2 r_2 r_7 N168 z7_168) (fun q => (q.1 = 0 ∨ q.1 = 1) ∧ (∀ a i, ¬ ((a = 19 ∧ i = 3) ∨ (a = 19 ∧ i = 4) ∨ a = (b + 1) ∨ a = (b + 2) ∨ a = (b + 3) ∨ a = (b + 4) ∨ a = (b + 5)) → q.2 a i = M a i) ∧ (LinP (lineS T (M 19 3).toInt (fun j => (M (b + 1) j).toInt) (fun j => (M (b + 2) j).toInt) (ix v2)) q.1.toInt (q.2 19 4).toInt (q.2 19 3).toInt (q.2 (b + 1) (ix v2)).toInt (q.2 (b + 2) (ix v2)).toInt (q.2 (b + 3) (ix v2)).toInt (q.2 (b + 5) (ix v2)).toInt (M 19 3).toInt (M 19 2).toInt) ∧ (¬ q.1.toInt = 0 → (∀ j : Nat, ¬ j = ix v2 → q.2 (b + 1) j = M (b + 1) j ∧ q.2 (b + 2) j = M (b + 2) j ∧ q.2 (b + 4) j = M (b + 4) j) ∧ ¬ (q.2 (b + 4) (ix v2)).toInt = 0)) := by
                  intro N168 z7_168 hf_N168 h168
                  unfold f_X9_readLine_L168
                  refine wp_bind2 (o5_X7_here N168 T ((txc_fr ((hf_N168 19 2 (by omega)).trans ((hg_M_8 19 2 (by omega)).trans ((hg_M_5 19 2 (by omega)).trans ((hg_M_3 19 2 (by omega)).trans rfl)))) (fun j => ((hf_N168 20 j (by omega)).trans ((hg_M_8 20 j (by omega)).trans ((hg_M_5 20 j (by omega)).trans ((hg_M_3 20 j (by omega)).trans rfl)))))).trans hT) (by rw [show N168 19 2 = M 19 2 from ((hf_N168 19 2 (by omega)).trans ((hg_M_8 19 2 (by omega)).trans ((hg_M_5 19 2 (by omega)).trans ((hg_M_3 19 2 (by omega)).trans rfl))))]; omega)) (fun r_13 he169 hq169 => ?_)
                  have hh_169 := hq169
                  replace hh_169 : r_13.toInt = T (N168 19 3).toInt := hh_169
                  have j182 : ∀ (t0_182 : Int32), (t0_182 = 0 ∨ t0_182 = 1) → ((t0_182.toInt = 1 ∧ T (N168 19 3).toInt = 117) ∨ (t0_182.toInt = 0 ∧ ¬ T (N168 19 3).toInt = 117)) → Wp (f_X9_readLine_L182 b v2 r_2 r_7 N168 z7_168 t0_182) (fun q => (q.1 = 0 ∨ q.1 = 1) ∧ (∀ a i, ¬ ((a = 19 ∧ i = 3) ∨ (a = 19 ∧ i = 4) ∨ a = (b + 1) ∨ a = (b + 2) ∨ a = (b + 3) ∨ a = (b + 4) ∨ a = (b + 5)) → q.2 a i = M a i) ∧ (LinP (lineS T (M 19 3).toInt (fun j => (M (b + 1) j).toInt) (fun j => (M (b + 2) j).toInt) (ix v2)) q.1.toInt (q.2 19 4).toInt (q.2 19 3).toInt (q.2 (b + 1) (ix v2)).toInt (q.2 (b + 2) (ix v2)).toInt (q.2 (b + 3) (ix v2)).toInt (q.2 (b + 5) (ix v2)).toInt (M 19 3).toInt (M 19 2).toInt) ∧ (¬ q.1.toInt = 0 → (∀ j : Nat, ¬ j = ix v2 → q.2 (b + 1) j = M (b + 1) j ∧ q.2 (b + 2) j = M (b + 2) j ∧ q.2 (b + 4) j = M (b + 4) j) ∧ ¬ (q.2 (b + 4) (ix v2)).toInt = 0)) := by
                    intro t0_182 hb_t0_182 h182
                    unfold f_X9_readLine_L182
                    have j199 : ∀ (N199 : Mem), (∀ a i, ¬ ((a = 19 ∧ i = 3)) → N199 a i = N168 a i) → ((t0_182.toInt = 1 ∧ T (N168 19 3).toInt = 117 ∧ (N199 19 3).toInt = (N168 19 3).toInt + 1) ∨ (t0_182.toInt = 0 ∧ ¬ T (N168 19 3).toInt = 117 ∧ (N199 19 3).toInt = (N168 19 3).toInt)) → Wp (f_X9_readLine_L199 b v2 r_2 r_7 z7_168 t0_182 N199) (fun q => (q.1 = 0 ∨ q.1 = 1) ∧ (∀ a i, ¬ ((a = 19 ∧ i = 3) ∨ (a = 19 ∧ i = 4) ∨ a = (b + 1) ∨ a = (b + 2) ∨ a = (b + 3) ∨ a = (b + 4) ∨ a = (b + 5)) → q.2 a i = M a i) ∧ (LinP (lineS T (M 19 3).toInt (fun j => (M (b + 1) j).toInt) (fun j => (M (b + 2) j).toInt) (ix v2)) q.1.toInt (q.2 19 4).toInt (q.2 19 3).toInt (q.2 (b + 1) (ix v2)).toInt (q.2 (b + 2) (ix v2)).toInt (q.2 (b + 3) (ix v2)).toInt (q.2 (b + 5) (ix v2)).toInt (M 19 3).toInt (M 19 2).toInt) ∧ (¬ q.1.toInt = 0 → (∀ j : Nat, ¬ j = ix v2 → q.2 (b + 1) j = M (b + 1) j ∧ q.2 (b + 2) j = M (b + 2) j ∧ q.2 (b + 4) j = M (b + 4) j) ∧ ¬ (q.2 (b + 4) (ix v2)).toInt = 0)) := by
                      intro N199 hf_N199 h199
                      unfold f_X9_readLine_L199
                      refine wp_bind2 (o5_X2_lay hb N199 v2 r_2 r_7 z7_168 t0_182) (fun M_14 he209 hq209 => ?_)
                      obtain ⟨hg_M_14, hly_209⟩ := hq209
                      replace hly_209 : 0 ≤ v2.toInt → v2.toInt < 40 → M_14 (b + 1) (ix v2) = r_2 ∧ M_14 (b + 2) (ix v2) = r_7 ∧ ¬ (M_14 (b + 4) (ix v2)).toInt = 0 ∧ M_14 (b + 3) (ix v2) = z7_168 ∧ M_14 (b + 5) (ix v2) = vp_nar .boolean t0_182 ∧ ∀ j : Nat, ¬ j = ix v2 → M_14 (b + 1) j = N199 (b + 1) j ∧ M_14 (b + 2) j = N199 (b + 2) j ∧ M_14 (b + 4) j = N199 (b + 4) j := hly_209
                      replace hg_M_14 : ∀ a i, ¬ (a = (b + 1) ∨ a = (b + 2) ∨ a = (b + 3) ∨ a = (b + 4) ∨ a = (b + 5)) → M_14 a i = N199 a i := by exact fun a i q0 => hg_M_14 a i (by omega)
                      obtain ⟨l1, l2, l3, l5, l6, l4⟩ := hly_209 (by omega) (by omega)
                      have hu01 : (vp_nar .boolean t0_182).toInt = t0_182.toInt := nar_b (by omega)
                      exact wp_some ⟨b01_1, (fun a i q0 => ((hg_M_14 a i (fun z8 => q0 ((fun z9 => Or.elim z9 (fun h9 => Or.inr (Or.inr (Or.inl h9))) (fun z9 => Or.elim z9 (fun h9 => Or.inr (Or.inr (Or.inr (Or.inl h9)))) (fun z9 => Or.elim z9 (fun h9 => Or.inr (Or.inr (Or.inr (Or.inr (Or.inl h9))))) (fun z9 => Or.elim z9 (fun h9 => Or.inr (Or.inr (Or.inr (Or.inr (Or.inr (Or.inl h9)))))) (fun h9 => Or.inr (Or.inr (Or.inr (Or.inr (Or.inr (Or.inr (h9))))))))))) z8))).trans ((hf_N199 a i (fun h9 => q0 (Or.inl h9))).trans ((hf_N168 a i (fun h9 => q0 (Or.inl h9))).trans ((hg_M_8 a i (fun z8 => q0 ((fun z9 => Or.elim z9 (fun h9 => Or.inl h9) (fun h9 => Or.inr (Or.inl h9))) z8))).trans ((hg_M_5 a i (fun z8 => q0 ((fun z9 => Or.elim z9 (fun h9 => Or.inl h9) (fun h9 => Or.inr (Or.inl h9))) z8))).trans ((hg_M_3 a i (fun z8 => q0 ((fun z9 => Or.elim z9 (fun h9 => Or.inl h9) (fun h9 => Or.inr (Or.inl h9))) z8))).trans rfl))))))), (by show LinP (lineS T (M 19 3).toInt (fun j => (M (b + 1) j).toInt) (fun j => (M (b + 2) j).toInt) (ix v2)) (nI 1).toInt (M_14 19 4).toInt (M_14 19 3).toInt (M_14 (b + 1) (ix v2)).toInt (M_14 (b + 2) (ix v2)).toInt (M_14 (b + 3) (ix v2)).toInt (M_14 (b + 5) (ix v2)).toInt (M 19 3).toInt (M 19 2).toInt; rw [lineS_v n1, lineX_v (by omega) e44, e5, lineY_v m1 (by omega) hdup, eq8, tail_is h168.2 h199]; exact ⟨by decide, congrArg Int32.toInt l1, congrArg Int32.toInt l2, congrArg Int32.toInt l5, by rw [l6]; exact hu01, congrArg Int32.toInt (hg_M_14 19 3 (by omega)), by show (M 19 3).toInt < (N199 19 3).toInt; omega, by show (N199 19 3).toInt ≤ (M 19 2).toInt; omega⟩), (fun _ => by show (∀ j : Nat, ¬ j = ix v2 → M_14 (b + 1) j = M (b + 1) j ∧ M_14 (b + 2) j = M (b + 2) j ∧ M_14 (b + 4) j = M (b + 4) j) ∧ ¬ (M_14 (b + 4) (ix v2)).toInt = 0; exact ⟨fun j hj => by rw [(l4 j hj).1, (l4 j hj).2.1, (l4 j hj).2.2]; exact ⟨((hf_N199 (b + 1) j (by omega)).trans ((hf_N168 (b + 1) j (by omega)).trans ((hg_M_8 (b + 1) j (by omega)).trans ((hg_M_5 (b + 1) j (by omega)).trans ((hg_M_3 (b + 1) j (by omega)).trans rfl))))), ((hf_N199 (b + 2) j (by omega)).trans ((hf_N168 (b + 2) j (by omega)).trans ((hg_M_8 (b + 2) j (by omega)).trans ((hg_M_5 (b + 2) j (by omega)).trans ((hg_M_3 (b + 2) j (by omega)).trans rfl))))), ((hf_N199 (b + 4) j (by omega)).trans ((hf_N168 (b + 4) j (by omega)).trans ((hg_M_8 (b + 4) j (by omega)).trans ((hg_M_5 (b + 4) j (by omega)).trans ((hg_M_3 (b + 4) j (by omega)).trans rfl)))))⟩, l3⟩)⟩
                    refine wp_ite (fun c186 => ?_) (fun c186 => ?_)
                    · exact j199 N168 (fun _ _ _ => rfl) (h182.elim (fun z => by omega) (fun z => Or.inr ⟨z.1, z.2, rfl⟩))
                    · refine wp_bnd (fun M_15 eM_15 => ?_)
                      exact j199 M_15 (fun a i q0 => ((congrFun (congrFun eM_15 a) i).trans ((mset_ne (fun h9 => q0 (h9))).trans rfl))) (h182.elim (fun z => Or.inl ⟨z.1, z.2, by rw [eM_15, mset_eq]; exact (i_up (by omega)).2⟩) (fun z => by omega))
                  refine wp_ite (fun c174 => ?_) (fun c174 => ?_)
                  · exact j182 (nI 1) b01_1 (Or.inl ⟨nI1, by rw [← hh_169]; exact c174⟩)
                  · exact j182 (nI 0) b01_0 (Or.inr ⟨nI0, by rw [← hh_169]; exact c174⟩)
                refine wp_ite (fun c116 => ?_) (fun c116 => ?_)
                · refine wp_bnd (fun M_16 eM_16 => ?_)
                  have hin := tx_in hT (p := (M_8 19 3).toInt) (by rw [← hh_111]; omega)
                  have h16 : (M_16 19 3).toInt = q8 + 1 := by rw [eM_16, mset_eq, ← eq8]; exact (i_up (by omega)).2
                  refine wp_bind2 (o5_X7_here M_16 T ((txc_fr ((congrFun (congrFun eM_16 19) 2).trans ((mset_ne (by omega)).trans ((hg_M_8 19 2 (by omega)).trans ((hg_M_5 19 2 (by omega)).trans ((hg_M_3 19 2 (by omega)).trans rfl))))) (fun j => ((congrFun (congrFun eM_16 20) j).trans ((mset_ne (by omega)).trans ((hg_M_8 20 j (by omega)).trans ((hg_M_5 20 j (by omega)).trans ((hg_M_3 20 j (by omega)).trans rfl))))))).trans hT) (by rw [show M_16 19 2 = M 19 2 from ((congrFun (congrFun eM_16 19) 2).trans ((mset_ne (by omega)).trans ((hg_M_8 19 2 (by omega)).trans ((hg_M_5 19 2 (by omega)).trans ((hg_M_3 19 2 (by omega)).trans rfl)))))]; omega)) (fun r_17 he130 hq130 => ?_)
                  have hh_130 := hq130
                  replace hh_130 : r_17.toInt = T (M_16 19 3).toInt := hh_130
                  refine wp_bind2 (o5_X7_isDigit M_16 r_17) (fun r_18 he133 hq133 => ?_)
                  obtain ⟨hz_r_18, hd_133⟩ := hq133
                  replace hd_133 : ¬ r_18.toInt = 0 ↔ dgt r_17.toInt = true := hd_133
                  refine wp_ite (fun c136 => ?_) (fun c136 => ?_)
                  · refine wp_cb2 (o5_X7_refuse M_16 (nI 1) (M_16 19 3)) (fun r_21 M_22 he145 hq145 => ?_)
                    obtain ⟨hz_r_21, hg_M_22, hw_145, hq_145⟩ := hq145
                    replace hw_145 : r_21.toInt = 0 := hw_145
                    have := t_lit 1
                    replace hq_145 : 0 ≤ (nI 1).toInt → (nI 1).toInt ≤ 9 → 0 ≤ (M_16 19 3).toInt → (M_16 19 3).toInt ≤ 1000 → (M_22 19 4).toInt = -1000 * (nI 1).toInt - (M_16 19 3).toInt := hq_145
                    have := t_lit 1
                    replace hg_M_22 : ∀ a i, ¬ ((a = 19 ∧ i = 4)) → M_22 a i = M_16 a i := hg_M_22
                    refine wp_gb hz_r_21 ?_
                    exact wp_some ⟨hz_r_21, (fun a i q0 => ((hg_M_22 a i (fun h9 => q0 (Or.inr (Or.inl h9)))).trans ((congrFun (congrFun eM_16 a) i).trans ((mset_ne (fun h9 => q0 (Or.inl h9))).trans ((hg_M_8 a i (fun z8 => q0 ((fun z9 => Or.elim z9 (fun h9 => Or.inl h9) (fun h9 => Or.inr (Or.inl h9))) z8))).trans ((hg_M_5 a i (fun z8 => q0 ((fun z9 => Or.elim z9 (fun h9 => Or.inl h9) (fun h9 => Or.inr (Or.inl h9))) z8))).trans ((hg_M_3 a i (fun z8 => q0 ((fun z9 => Or.elim z9 (fun h9 => Or.inl h9) (fun h9 => Or.inr (Or.inl h9))) z8))).trans rfl))))))), (by show LinP (lineS T (M 19 3).toInt (fun j => (M (b + 1) j).toInt) (fun j => (M (b + 2) j).toInt) (ix v2)) r_21.toInt (M_22 19 4).toInt (M_22 19 3).toInt (M_22 (b + 1) (ix v2)).toInt (M_22 (b + 2) (ix v2)).toInt (M_22 (b + 3) (ix v2)).toInt (M_22 (b + 5) (ix v2)).toInt (M 19 3).toInt (M 19 2).toInt; rw [lineS_v n1, lineX_v (by omega) e44, e5, lineY_v m1 (by omega) hdup, eq8, tail_f (by rw [← eq8, ← hh_111]; exact c116) (by rw [← h16, ← hh_130]; exact Bool.eq_false_iff.mpr (fun z => hd_133.mpr z c136))]; exact ⟨hw_145, by rw [hq_145 (by decide) (by decide) (by omega) (by omega)]; have := t_lit 1; omega⟩), (fun z => absurd hw_145 z)⟩
                  · refine wp_bind2 (o5_X7_here M_16 T ((txc_fr ((congrFun (congrFun eM_16 19) 2).trans ((mset_ne (by omega)).trans ((hg_M_8 19 2 (by omega)).trans ((hg_M_5 19 2 (by omega)).trans ((hg_M_3 19 2 (by omega)).trans rfl))))) (fun j => ((congrFun (congrFun eM_16 20) j).trans ((mset_ne (by omega)).trans ((hg_M_8 20 j (by omega)).trans ((hg_M_5 20 j (by omega)).trans ((hg_M_3 20 j (by omega)).trans rfl))))))).trans hT) (by rw [show M_16 19 2 = M 19 2 from ((congrFun (congrFun eM_16 19) 2).trans ((mset_ne (by omega)).trans ((hg_M_8 19 2 (by omega)).trans ((hg_M_5 19 2 (by omega)).trans ((hg_M_3 19 2 (by omega)).trans rfl)))))]; omega)) (fun r_19 he150 hq150 => ?_)
                    have hh_150 := hq150
                    replace hh_150 : r_19.toInt = T (M_16 19 3).toInt := hh_150
                    have hdg : dgt (T (q8 + 1)) = true := by rw [← h16, ← hh_130]; exact hd_133.mp c136
                    have hin2 := dg_in hT hdg
                    have hd9 := dgt_i hdg
                    have hz19 : (r_19 - (nI 48)).toInt = T (q8 + 1) - 48 := by
                      have f1 := t_sub r_19 (nI 48)
                      have f2 := t_lit 48
                      rw [← h16, ← hh_150] at hd9 ⊢
                      omega
                    refine wp_bnd (fun M_20 eM_20 => ?_)
                    have h20 : (M_20 19 3).toInt = q8 + 2 := by rw [eM_20, mset_eq]; (have z := (i_up (x := M_16 19 3) (by omega)).2); omega
                    exact j168 M_20 (r_19 - (nI 48)) (fun a i q0 => ((congrFun (congrFun eM_20 a) i).trans ((mset_ne (fun h9 => q0 (h9))).trans ((congrFun (congrFun eM_16 a) i).trans ((mset_ne (fun h9 => q0 (h9))).trans rfl))))) ⟨by omega, Or.inl ⟨by rw [← eq8, ← hh_111]; exact c116, hdg, by omega, by rw [hz19]; omega⟩⟩
                · exact j168 M_8 (nI 0) (fun _ _ _ => rfl) ⟨by rw [← eq8]; omega, Or.inr ⟨by rw [← eq8, ← hh_111]; exact c116, eq8, nI0⟩⟩
              · have hdup : dupS (fun j => (M (b + 1) j).toInt) (fun j => (M (b + 2) j).toInt) r_2.toInt r_7.toInt (ix v2) = true := by
                  obtain ⟨j, z1, z2, z3, z4⟩ := (hsa_92.resolve_left (fun z => c96 z.1)).2
                  rw [e8b4] at z2
                  rw [e8b1] at z3
                  rw [e8b2] at z4
                  exact dup_t (i := j) ⟨z3, z4⟩ _ (by have z5 := mt (hto j z1).mpr z2; omega)
                refine wp_cb2 (o5_X7_refuse M_8 (nI 6) x_1) (fun r_23 M_24 he103 hq103 => ?_)
                obtain ⟨hz_r_23, hg_M_24, hw_103, hq_103⟩ := hq103
                replace hw_103 : r_23.toInt = 0 := hw_103
                have := t_lit 6
                replace hq_103 : 0 ≤ (nI 6).toInt → (nI 6).toInt ≤ 9 → 0 ≤ x_1.toInt → x_1.toInt ≤ 1000 → (M_24 19 4).toInt = -1000 * (nI 6).toInt - x_1.toInt := hq_103
                have := t_lit 6
                replace hg_M_24 : ∀ a i, ¬ ((a = 19 ∧ i = 4)) → M_24 a i = M_8 a i := hg_M_24
                refine wp_gb hz_r_23 ?_
                exact wp_some ⟨hz_r_23, (fun a i q0 => ((hg_M_24 a i (fun h9 => q0 (Or.inr (Or.inl h9)))).trans ((hg_M_8 a i (fun z8 => q0 ((fun z9 => Or.elim z9 (fun h9 => Or.inl h9) (fun h9 => Or.inr (Or.inl h9))) z8))).trans ((hg_M_5 a i (fun z8 => q0 ((fun z9 => Or.elim z9 (fun h9 => Or.inl h9) (fun h9 => Or.inr (Or.inl h9))) z8))).trans ((hg_M_3 a i (fun z8 => q0 ((fun z9 => Or.elim z9 (fun h9 => Or.inl h9) (fun h9 => Or.inr (Or.inl h9))) z8))).trans rfl))))), (by show LinP (lineS T (M 19 3).toInt (fun j => (M (b + 1) j).toInt) (fun j => (M (b + 2) j).toInt) (ix v2)) r_23.toInt (M_24 19 4).toInt (M_24 19 3).toInt (M_24 (b + 1) (ix v2)).toInt (M_24 (b + 2) (ix v2)).toInt (M_24 (b + 3) (ix v2)).toInt (M_24 (b + 5) (ix v2)).toInt (M 19 3).toInt (M 19 2).toInt; rw [lineS_v n1, lineX_v (by omega) e44, e5, lineY_d m1 (by omega) hdup]; exact ⟨hw_103, by rw [hq_103 (by decide) (by decide) (by omega) (by omega)]; have := t_lit 6; omega⟩), (fun z => absurd hw_103 z)⟩
            · exact j79 (by omega)
    · refine wp_cb2 (o5_X7_refuse M_3 (nI 3) x_1) (fun r_25 M_26 he30 hq30 => ?_)
      obtain ⟨hz_r_25, hg_M_26, hw_30, hq_30⟩ := hq30
      replace hw_30 : r_25.toInt = 0 := hw_30
      have := t_lit 3
      replace hq_30 : 0 ≤ (nI 3).toInt → (nI 3).toInt ≤ 9 → 0 ≤ x_1.toInt → x_1.toInt ≤ 1000 → (M_26 19 4).toInt = -1000 * (nI 3).toInt - x_1.toInt := hq_30
      have := t_lit 3
      replace hg_M_26 : ∀ a i, ¬ ((a = 19 ∧ i = 4)) → M_26 a i = M_3 a i := hg_M_26
      refine wp_gb hz_r_25 ?_
      exact wp_some ⟨hz_r_25, (fun a i q0 => ((hg_M_26 a i (fun h9 => q0 (Or.inr (Or.inl h9)))).trans ((hg_M_3 a i (fun z8 => q0 ((fun z9 => Or.elim z9 (fun h9 => Or.inl h9) (fun h9 => Or.inr (Or.inl h9))) z8))).trans rfl))), (by show LinP (lineS T (M 19 3).toInt (fun j => (M (b + 1) j).toInt) (fun j => (M (b + 2) j).toInt) (ix v2)) r_25.toInt (M_26 19 4).toInt (M_26 19 3).toInt (M_26 (b + 1) (ix v2)).toInt (M_26 (b + 2) (ix v2)).toInt (M_26 (b + 3) (ix v2)).toInt (M_26 (b + 5) (ix v2)).toInt (M 19 3).toInt (M 19 2).toInt; rw [lineS_v n1, lineX_3 (by omega)]; exact ⟨hw_30, by rw [hq_30 (by decide) (by decide) (by omega) (by omega)]; have := t_lit 3; omega⟩), (fun z => absurd hw_30 z)⟩
theorem o5_X2_clearStones {b : Nat} (hb : isF b) (M : Mem) : Wp (f_X2_clearStones b M) (fun q => (∀ a i, ¬ (a = (b + 4)) → q a i = M a i) ∧ (∀ j : Nat, j < 40 → (q (b + 4) j).toInt = 0)) := by
  have hb0 : b = 1 ∨ b = 7 ∨ b = 13 := hb
  refine wp_lp2 (fun M2 y1_2 => (0 ≤ y1_2.toInt) ∧ (∀ a i, ¬ (a = (b + 4)) → M2 a i = M a i) ∧ (∀ j : Nat, (j : Int) < y1_2.toInt → (M2 (b + 4) j).toInt = 0)) (fun M2 y1_2 => (40 - y1_2.toInt).toNat) (fun ag2 M2 y1_2 hI2 ih2 => ?_) FU M (nI 0) ⟨(by have f0 := t_lit 0; omega), (fun _ _ _ => rfl), (fun j hj => absurd hj (by have := t_lit 0; omega))⟩ (fu_lt (by have f0 := t_lit 0; omega))
  obtain ⟨hi2, hf_M2, h2⟩ := hI2
  refine wp_ite (fun c5 => ?_) (fun c5 => ?_)
  · exact wp_some ⟨(fun a i q0 => ((hf_M2 a i (fun h9 => q0 (h9))).trans rfl)), (fun j hj => h2 j (by omega))⟩
  · refine wp_gd (by omega) ?_
    refine wp_bnd (fun M_1 eM_1 => ?_)
    exact ih2 M_1 (y1_2 + (nI 1)) ⟨(by have f0 := t_lit 1; have f1 := t_add y1_2 (nI 1); omega), (fun a i q0 => ((congrFun (congrFun eM_1 a) i).trans ((mset_ne (fun h9 => q0 ((h9).1))).trans ((hf_M2 a i (fun h9 => q0 (h9))).trans rfl)))), (set_ext (P := fun _ x => x.toInt = 0) eM_1 (by omega) (by omega) h2 (by decide))⟩ (by have f0 := t_lit 1; have f1 := t_add y1_2 (nI 1); omega)
set_option maxHeartbeats 8000000 in
theorem o5_X9_readNotebook {b : Nat} (hb : isF b) (M : Mem) (T : Int → Int) (hT : TXc M = T) (hp : 0 ≤ (M 19 3).toInt ∧ (M 19 3).toInt ≤ (M 19 2).toInt ∧ (M 19 2).toInt ≤ 240) : Wp (f_X9_readNotebook b M) (fun q => (∀ a i, ¬ ((a = 19 ∧ i = 3) ∨ (a = 19 ∧ i = 4) ∨ a = (b + 1) ∨ a = (b + 2) ∨ a = (b + 3) ∨ a = (b + 4) ∨ a = (b + 5)) → q.2 a i = M a i) ∧ (q.1.toInt = bookA T 41 (M 19 3).toInt 0 (fun _ => 0) (fun _ => 0))) := by
  have hb0 : b = 1 ∨ b = 7 ∨ b = 13 := hb
  refine wp_bind2 (o5_X2_clearStones hb M) (fun M_1 he1 hq1 => ?_)
  obtain ⟨hg_M_1, hcl_1⟩ := hq1
  replace hcl_1 : ∀ j : Nat, j < 40 → (M_1 (b + 4) j).toInt = 0 := hcl_1
  replace hg_M_1 : ∀ a i, ¬ (a = (b + 4)) → M_1 a i = M a i := by exact fun a i q0 => hg_M_1 a i (by omega)
  refine wp_lp2 (fun M6 y2_6 => (∀ a i, ¬ ((a = 19 ∧ i = 3) ∨ (a = 19 ∧ i = 4) ∨ a = (b + 1) ∨ a = (b + 2) ∨ a = (b + 3) ∨ a = (b + 4) ∨ a = (b + 5)) → M6 a i = M_1 a i) ∧ (0 ≤ y2_6.toInt ∧ y2_6.toInt ≤ 40 ∧ (M6 19 2) = M 19 2 ∧ 0 ≤ (M6 19 3).toInt ∧ (M6 19 3).toInt ≤ (M 19 2).toInt) ∧ (∀ j : Nat, j < 40 → ((M6 (b + 4) j).toInt = 0 ↔ y2_6.toInt ≤ (j : Int))) ∧ (bookA T 41 (M 19 3).toInt 0 (fun _ => 0) (fun _ => 0) = bookA T (41 - ix y2_6) (M6 19 3).toInt (ix y2_6) (fun j => (M6 (b + 1) j).toInt) (fun j => (M6 (b + 2) j).toInt))) (fun M6 y2_6 => (41 - y2_6.toInt).toNat) (fun ag6 M6 y2_6 hI6 ih6 => ?_) FU M_1 (nI 0) ⟨(fun _ _ _ => rfl), ⟨by decide, by decide, hg_M_1 19 2 (by omega), by rw [hg_M_1 19 3 (by omega)]; omega, by rw [hg_M_1 19 3 (by omega)]; omega⟩, (fun j hj => ⟨fun _ => by have := t_lit 0; omega, fun _ => hcl_1 j hj⟩), (by rw [show ix (nI 0) = 0 from (by decide), hg_M_1 19 3 (by omega)]; exact bookA_ext (fun i hi => absurd hi (Nat.not_lt_zero _)))⟩ (fu_lt ((by have := t_lit 0; omega)))
  obtain ⟨hf_M6, h6, ht6, hb6⟩ := hI6
  have fy := t_ixn y2_6 (by omega)
  have e2 := h6.2.2.1
  have hT6 : TXc M6 = T := (txc_fr e2 (fun j => by rw [hf_M6 20 j (by omega), hg_M_1 20 j (by omega)])).trans hT
  have j58 : (40 ≤ y2_6.toInt) → Wp (f_X9_readNotebook_L58 M6) (fun q => (∀ a i, ¬ ((a = 19 ∧ i = 3) ∨ (a = 19 ∧ i = 4) ∨ a = (b + 1) ∨ a = (b + 2) ∨ a = (b + 3) ∨ a = (b + 4) ∨ a = (b + 5)) → q.2 a i = M a i) ∧ (q.1.toInt = bookA T 41 (M 19 3).toInt 0 (fun _ => 0) (fun _ => 0))) := by
    intro h58
    unfold f_X9_readNotebook_L58
    refine wp_bind2 (o5_X7_here M6 T hT6 (by rw [e2]; omega)) (fun r_2 he60 hq60 => ?_)
    have hh_60 := hq60
    replace hh_60 : r_2.toInt = T (M6 19 3).toInt := hh_60
    refine wp_bind2 (o5_X7_isDigit M6 r_2) (fun r_3 he63 hq63 => ?_)
    obtain ⟨hz_r_3, hd_63⟩ := hq63
    replace hd_63 : ¬ r_3.toInt = 0 ↔ dgt r_2.toInt = true := hd_63
    have j74 : ∀ (t0_74 : Int32), ((t0_74.toInt = 1 ∧ dgt (T (M6 19 3).toInt) = false) ∨ (t0_74.toInt = 4 ∧ dgt (T (M6 19 3).toInt) = true)) → Wp (f_X9_readNotebook_L74 M6 t0_74) (fun q => (∀ a i, ¬ ((a = 19 ∧ i = 3) ∨ (a = 19 ∧ i = 4) ∨ a = (b + 1) ∨ a = (b + 2) ∨ a = (b + 3) ∨ a = (b + 4) ∨ a = (b + 5)) → q.2 a i = M a i) ∧ (q.1.toInt = bookA T 41 (M 19 3).toInt 0 (fun _ => 0) (fun _ => 0))) := by
      intro t0_74 h74
      unfold f_X9_readNotebook_L74
      refine wp_cb2 (o5_X7_refuse M6 t0_74 (M6 19 3)) (fun r_4 M_5 he78 hq78 => ?_)
      obtain ⟨hz_r_4, hg_M_5, hw_78, hq_78⟩ := hq78
      replace hw_78 : r_4.toInt = 0 := hw_78
      replace hq_78 : 0 ≤ t0_74.toInt → t0_74.toInt ≤ 9 → 0 ≤ (M6 19 3).toInt → (M6 19 3).toInt ≤ 1000 → (M_5 19 4).toInt = -1000 * t0_74.toInt - (M6 19 3).toInt := hq_78
      replace hg_M_5 : ∀ a i, ¬ ((a = 19 ∧ i = 4)) → M_5 a i = M6 a i := hg_M_5
      exact wp_some ⟨(fun a i q0 => ((hg_M_5 a i (fun h9 => q0 (Or.inr (Or.inl h9)))).trans ((hf_M6 a i (fun z8 => q0 ((fun z9 => Or.elim z9 (fun h9 => Or.inl h9) (fun z9 => Or.elim z9 (fun h9 => Or.inr (Or.inl h9)) (fun z9 => Or.elim z9 (fun h9 => Or.inr (Or.inr (Or.inl h9))) (fun z9 => Or.elim z9 (fun h9 => Or.inr (Or.inr (Or.inr (Or.inl h9)))) (fun z9 => Or.elim z9 (fun h9 => Or.inr (Or.inr (Or.inr (Or.inr (Or.inl h9))))) (fun z9 => Or.elim z9 (fun h9 => Or.inr (Or.inr (Or.inr (Or.inr (Or.inr (Or.inl h9)))))) (fun h9 => Or.inr (Or.inr (Or.inr (Or.inr (Or.inr (Or.inr (h9))))))))))))) z8))).trans ((hg_M_1 a i (fun h9 => q0 (Or.inr (Or.inr (Or.inr (Or.inr (Or.inr (Or.inl h9)))))))).trans rfl)))), (by show (M_5 19 4).toInt = _; rw [hb6, show 41 - ix y2_6 = 0 + 1 from (by omega), bookA_40 (by omega), hq_78 (by omega) (by omega) (by omega) (by omega)]; exact h74.elim (fun z => by rw [if_neg (by rw [z.2]; decide)]; omega) (fun z => by rw [if_pos z.2]; omega))⟩
    refine wp_ite (fun c66 => ?_) (fun c66 => ?_)
    · exact j74 (nI 1) (Or.inl ⟨nI1, by rw [← hh_60]; exact Bool.eq_false_iff.mpr (fun z => hd_63.mpr z c66)⟩)
    · exact j74 (nI 4) (Or.inr ⟨t_lit 4, by rw [← hh_60]; exact hd_63.mp c66⟩)
  refine wp_ite (fun c9 => ?_) (fun c9 => ?_)
  · exact j58 (by omega)
  · have hk : 41 - ix y2_6 = (40 - ix y2_6) + 1 := by omega
    rw [hk] at hb6
    have hi := i_up (x := y2_6) (by omega)
    refine wp_cb2 (o5_X9_readLine hb M6 y2_6 T hT6 (by rw [e2]; omega) (by omega) ht6) (fun r_6 M_7 he15 hq15 => ?_)
    obtain ⟨hz_r_6, hg_M_7, hl_15, hr_15⟩ := hq15
    replace hl_15 : LinP (lineS T (M6 19 3).toInt (fun j => (M6 (b + 1) j).toInt) (fun j => (M6 (b + 2) j).toInt) (ix y2_6)) r_6.toInt (M_7 19 4).toInt (M_7 19 3).toInt (M_7 (b + 1) (ix y2_6)).toInt (M_7 (b + 2) (ix y2_6)).toInt (M_7 (b + 3) (ix y2_6)).toInt (M_7 (b + 5) (ix y2_6)).toInt (M6 19 3).toInt (M6 19 2).toInt := hl_15
    replace hr_15 : ¬ r_6.toInt = 0 → (∀ j : Nat, ¬ j = ix y2_6 → M_7 (b + 1) j = M6 (b + 1) j ∧ M_7 (b + 2) j = M6 (b + 2) j ∧ M_7 (b + 4) j = M6 (b + 4) j) ∧ ¬ (M_7 (b + 4) (ix y2_6)).toInt = 0 := hr_15
    replace hg_M_7 : ∀ a i, ¬ ((a = 19 ∧ i = 3) ∨ (a = 19 ∧ i = 4) ∨ a = (b + 1) ∨ a = (b + 2) ∨ a = (b + 3) ∨ a = (b + 4) ∨ a = (b + 5)) → M_7 a i = M6 a i := by exact fun a i q0 => hg_M_7 a i (by omega)
    refine wp_ite (fun c18 => ?_) (fun c18 => ?_)
    · exact wp_some ⟨(fun a i q0 => ((hg_M_7 a i (fun z8 => q0 ((fun z9 => Or.elim z9 (fun h9 => Or.inl h9) (fun z9 => Or.elim z9 (fun h9 => Or.inr (Or.inl h9)) (fun z9 => Or.elim z9 (fun h9 => Or.inr (Or.inr (Or.inl h9))) (fun z9 => Or.elim z9 (fun h9 => Or.inr (Or.inr (Or.inr (Or.inl h9)))) (fun z9 => Or.elim z9 (fun h9 => Or.inr (Or.inr (Or.inr (Or.inr (Or.inl h9))))) (fun z9 => Or.elim z9 (fun h9 => Or.inr (Or.inr (Or.inr (Or.inr (Or.inr (Or.inl h9)))))) (fun h9 => Or.inr (Or.inr (Or.inr (Or.inr (Or.inr (Or.inr (h9))))))))))))) z8))).trans ((hf_M6 a i (fun z8 => q0 ((fun z9 => Or.elim z9 (fun h9 => Or.inl h9) (fun z9 => Or.elim z9 (fun h9 => Or.inr (Or.inl h9)) (fun z9 => Or.elim z9 (fun h9 => Or.inr (Or.inr (Or.inl h9))) (fun z9 => Or.elim z9 (fun h9 => Or.inr (Or.inr (Or.inr (Or.inl h9)))) (fun z9 => Or.elim z9 (fun h9 => Or.inr (Or.inr (Or.inr (Or.inr (Or.inl h9))))) (fun z9 => Or.elim z9 (fun h9 => Or.inr (Or.inr (Or.inr (Or.inr (Or.inr (Or.inl h9)))))) (fun h9 => Or.inr (Or.inr (Or.inr (Or.inr (Or.inr (Or.inr (h9))))))))))))) z8))).trans ((hg_M_1 a i (fun h9 => q0 (Or.inr (Or.inr (Or.inr (Or.inr (Or.inr (Or.inl h9)))))))).trans rfl)))), (by show (M_7 19 4).toInt = _; rw [hb6, bookA_f (by omega) (linP_f hl_15 c18)])⟩
    · obtain ⟨l1, l2, l3⟩ := linP_v hl_15 c18
      have hrr := hr_15 c18
      have e72 : M_7 19 2 = M 19 2 := by rw [hg_M_7 19 2 (by omega), e2]
      have hT7 : TXc M_7 = T := (txc_fr (hg_M_7 19 2 (by omega)) (fun j => hg_M_7 20 j (by omega))).trans hT6
      refine wp_bind2 (o5_X7_here M_7 T hT7 (by rw [e72]; omega)) (fun r_8 he27 hq27 => ?_)
      have hh_27 := hq27
      replace hh_27 : r_8.toInt = T (M_7 19 3).toInt := hh_27
      refine wp_ite (fun c31 => ?_) (fun c31 => ?_)
      · exact wp_some ⟨(fun a i q0 => ((hg_M_7 a i (fun z8 => q0 ((fun z9 => Or.elim z9 (fun h9 => Or.inl h9) (fun z9 => Or.elim z9 (fun h9 => Or.inr (Or.inl h9)) (fun z9 => Or.elim z9 (fun h9 => Or.inr (Or.inr (Or.inl h9))) (fun z9 => Or.elim z9 (fun h9 => Or.inr (Or.inr (Or.inr (Or.inl h9)))) (fun z9 => Or.elim z9 (fun h9 => Or.inr (Or.inr (Or.inr (Or.inr (Or.inl h9))))) (fun z9 => Or.elim z9 (fun h9 => Or.inr (Or.inr (Or.inr (Or.inr (Or.inr (Or.inl h9)))))) (fun h9 => Or.inr (Or.inr (Or.inr (Or.inr (Or.inr (Or.inr (h9))))))))))))) z8))).trans ((hf_M6 a i (fun z8 => q0 ((fun z9 => Or.elim z9 (fun h9 => Or.inl h9) (fun z9 => Or.elim z9 (fun h9 => Or.inr (Or.inl h9)) (fun z9 => Or.elim z9 (fun h9 => Or.inr (Or.inr (Or.inl h9))) (fun z9 => Or.elim z9 (fun h9 => Or.inr (Or.inr (Or.inr (Or.inl h9)))) (fun z9 => Or.elim z9 (fun h9 => Or.inr (Or.inr (Or.inr (Or.inr (Or.inl h9))))) (fun z9 => Or.elim z9 (fun h9 => Or.inr (Or.inr (Or.inr (Or.inr (Or.inr (Or.inl h9)))))) (fun h9 => Or.inr (Or.inr (Or.inr (Or.inr (Or.inr (Or.inr (h9))))))))))))) z8))).trans ((hg_M_1 a i (fun h9 => q0 (Or.inr (Or.inr (Or.inr (Or.inr (Or.inr (Or.inl h9)))))))).trans rfl)))), (by show (y2_6 + (nI 1)).toInt = _; rw [hb6, bookA_e (by omega) l1 (by rw [← hh_27]; exact c31), hi.2]; omega)⟩
      · refine wp_cb2 (o5_X7_skip M_7 (nI 59) T hT7 (by rw [e72]; omega) (by decide)) (fun r_9 M_10 he41 hq41 => ?_)
        obtain ⟨hz_r_9, hg_M_10, hs_41⟩ := hq41
        replace hs_41 : (¬ r_9.toInt = 0 ∧ T (M_7 19 3).toInt = (nI 59).toInt ∧ (M_10 19 3).toInt = (M_7 19 3).toInt + 1 ∧ (M_7 19 3).toInt < (M_7 19 2).toInt) ∨ (r_9.toInt = 0 ∧ ¬ T (M_7 19 3).toInt = (nI 59).toInt ∧ (M_10 19 4).toInt = -1000 - (M_7 19 3).toInt) := hs_41
        have := t_lit 59
        replace hg_M_10 : ∀ a i, ¬ ((a = 19 ∧ i = 3) ∨ (a = 19 ∧ i = 4)) → M_10 a i = M_7 a i := hg_M_10
        refine wp_ite (fun c44 => ?_) (fun c44 => ?_)
        · exact wp_some ⟨(fun a i q0 => ((hg_M_10 a i (fun z8 => q0 ((fun z9 => Or.elim z9 (fun h9 => Or.inl h9) (fun h9 => Or.inr (Or.inl h9))) z8))).trans ((hg_M_7 a i (fun z8 => q0 ((fun z9 => Or.elim z9 (fun h9 => Or.inl h9) (fun z9 => Or.elim z9 (fun h9 => Or.inr (Or.inl h9)) (fun z9 => Or.elim z9 (fun h9 => Or.inr (Or.inr (Or.inl h9))) (fun z9 => Or.elim z9 (fun h9 => Or.inr (Or.inr (Or.inr (Or.inl h9)))) (fun z9 => Or.elim z9 (fun h9 => Or.inr (Or.inr (Or.inr (Or.inr (Or.inl h9))))) (fun z9 => Or.elim z9 (fun h9 => Or.inr (Or.inr (Or.inr (Or.inr (Or.inr (Or.inl h9)))))) (fun h9 => Or.inr (Or.inr (Or.inr (Or.inr (Or.inr (Or.inr (h9))))))))))))) z8))).trans ((hf_M6 a i (fun z8 => q0 ((fun z9 => Or.elim z9 (fun h9 => Or.inl h9) (fun z9 => Or.elim z9 (fun h9 => Or.inr (Or.inl h9)) (fun z9 => Or.elim z9 (fun h9 => Or.inr (Or.inr (Or.inl h9))) (fun z9 => Or.elim z9 (fun h9 => Or.inr (Or.inr (Or.inr (Or.inl h9)))) (fun z9 => Or.elim z9 (fun h9 => Or.inr (Or.inr (Or.inr (Or.inr (Or.inl h9))))) (fun z9 => Or.elim z9 (fun h9 => Or.inr (Or.inr (Or.inr (Or.inr (Or.inr (Or.inl h9)))))) (fun h9 => Or.inr (Or.inr (Or.inr (Or.inr (Or.inr (Or.inr (h9))))))))))))) z8))).trans ((hg_M_1 a i (fun h9 => q0 (Or.inr (Or.inr (Or.inr (Or.inr (Or.inr (Or.inl h9)))))))).trans rfl))))), (by show (M_10 19 4).toInt = _; have z := hs_41.resolve_left (fun z => z.1 c44); have f59 := t_lit 59; rw [hb6, bookA_w (by omega) l1 (by rw [← hh_27]; exact c31) (by omega)]; exact z.2.2)⟩
        · have s41 := hs_41.resolve_right (fun z => c44 z.1)
          have f59 := t_lit 59
          exact ih6 M_10 (y2_6 + (nI 1)) ⟨(fun a i q0 => ((hg_M_10 a i (fun z8 => q0 ((fun z9 => Or.elim z9 (fun h9 => Or.inl h9) (fun h9 => Or.inr (Or.inl h9))) z8))).trans ((hg_M_7 a i (fun z8 => q0 ((fun z9 => Or.elim z9 (fun h9 => Or.inl h9) (fun z9 => Or.elim z9 (fun h9 => Or.inr (Or.inl h9)) (fun z9 => Or.elim z9 (fun h9 => Or.inr (Or.inr (Or.inl h9))) (fun z9 => Or.elim z9 (fun h9 => Or.inr (Or.inr (Or.inr (Or.inl h9)))) (fun z9 => Or.elim z9 (fun h9 => Or.inr (Or.inr (Or.inr (Or.inr (Or.inl h9))))) (fun z9 => Or.elim z9 (fun h9 => Or.inr (Or.inr (Or.inr (Or.inr (Or.inr (Or.inl h9)))))) (fun h9 => Or.inr (Or.inr (Or.inr (Or.inr (Or.inr (Or.inr (h9))))))))))))) z8))).trans ((hf_M6 a i (fun z8 => q0 ((fun z9 => Or.elim z9 (fun h9 => Or.inl h9) (fun z9 => Or.elim z9 (fun h9 => Or.inr (Or.inl h9)) (fun z9 => Or.elim z9 (fun h9 => Or.inr (Or.inr (Or.inl h9))) (fun z9 => Or.elim z9 (fun h9 => Or.inr (Or.inr (Or.inr (Or.inl h9)))) (fun z9 => Or.elim z9 (fun h9 => Or.inr (Or.inr (Or.inr (Or.inr (Or.inl h9))))) (fun z9 => Or.elim z9 (fun h9 => Or.inr (Or.inr (Or.inr (Or.inr (Or.inr (Or.inl h9)))))) (fun h9 => Or.inr (Or.inr (Or.inr (Or.inr (Or.inr (Or.inr (h9))))))))))))) z8))).trans rfl)))), ⟨by omega, by omega, by rw [hg_M_10 19 2 (by omega), e72], by omega, by omega⟩, (fun j hj => by rw [hg_M_10 (b + 4) j (by omega), hi.2]; by_cases e9 : j = ix y2_6; (rw [e9]; exact ⟨fun z => absurd z hrr.2, fun z => by omega⟩); (rw [(hrr.1 j e9).2.2]; exact ⟨fun z => by have := (ht6 j hj).mp z; omega, fun z => (ht6 j hj).mpr (by omega)⟩)), (by rw [hb6, bookA_n (by omega) l1 (by omega), hi.1, show 41 - (ix y2_6 + 1) = 40 - ix y2_6 from (by omega), show (M_7 19 3).toInt + 1 = (M_10 19 3).toInt from (by omega)]; exact bookA_ext (fun i hz => by show pu _ _ _ i = (M_10 (b + 1) i).toInt ∧ pu _ _ _ i = (M_10 (b + 2) i).toInt; rw [hg_M_10 (b + 1) i (by omega), hg_M_10 (b + 2) i (by omega)]; by_cases e9 : i = ix y2_6; (rw [e9, pu_s, pu_s]; exact ⟨rfl, rfl⟩); (rw [pu_n e9, pu_n e9, (hrr.1 i e9).1, (hrr.1 i e9).2.1]; exact ⟨rfl, rfl⟩)))⟩ (by omega)
theorem o5_X10_here (M : Mem) (T : Int → Int) (hT : TXr M = T) (hp : 0 ≤ (M 0 7).toInt ∧ (M 0 7).toInt ≤ (M 0 8).toInt ∧ (M 0 8).toInt ≤ 240) : Wp (f_X10_here M) (fun q => ((q.toInt = -1 ∧ (M 0 7).toInt = (M 0 8).toInt) ∨ (0 ≤ q.toInt ∧ q.toInt ≤ 255 ∧ (M 0 7).toInt < (M 0 8).toInt)) ∧ (q.toInt = T (M 0 7).toInt)) := by
  refine wp_ite (fun c8 => ?_) (fun c8 => ?_)
  · exact wp_some ⟨(by show ((-1 : Int32).toInt = -1 ∧ (M 0 7).toInt = (M 0 8).toInt) ∨ (0 ≤ (-1 : Int32).toInt ∧ (-1 : Int32).toInt ≤ 255 ∧ (M 0 7).toInt < (M 0 8).toInt); have f0 := (by decide : ((-1 : Int32)).toInt = -1); have f1 := (by decide : ((-1 : Int32)).toInt = -1); omega), (by show (-1 : Int32).toInt = T (M 0 7).toInt; rw [← hT]; exact (txt_out (by omega)).symm)⟩
  · refine wp_gd (by omega) ?_
    exact wp_some ⟨(by have := and255 (M 5 (ix (M 0 7))); omega), (by show ((M 5 (ix (M 0 7))) &&& (nI 255)).toInt = T (M 0 7).toInt; rw [← hT]; exact (txt_in (by omega)).symm)⟩
theorem o5_X10_isDigit (M : Mem) (T : Int → Int) (hT : TXr M = T) (hp : 0 ≤ (M 0 7).toInt ∧ (M 0 7).toInt ≤ (M 0 8).toInt ∧ (M 0 8).toInt ≤ 240) : Wp (f_X10_isDigit M) (fun q => (q = 0 ∨ q = 1) ∧ (¬ q.toInt = 0 → (M 0 7).toInt < (M 0 8).toInt ∧ ∀ d, f_X10_here M = some d → 48 ≤ d.toInt ∧ d.toInt ≤ 57) ∧ (¬ q.toInt = 0 ↔ dgt (T (M 0 7).toInt) = true)) := by
  refine wp_bind2 (o5_X10_here M T hT hp) (fun r_1 he1 hq1 => ?_)
  obtain ⟨hh_1, hq_1⟩ := hq1
  replace hh_1 : (r_1.toInt = -1 ∧ (M 0 7).toInt = (M 0 8).toInt) ∨ (0 ≤ r_1.toInt ∧ r_1.toInt ≤ 255 ∧ (M 0 7).toInt < (M 0 8).toInt) := hh_1
  replace hq_1 : r_1.toInt = T (M 0 7).toInt := hq_1
  refine wp_ite (fun c6 => ?_) (fun c6 => ?_)
  · exact wp_some ⟨b01_0, (fun h => absurd nI0 h), ⟨fun z => absurd nI0 z, fun z => absurd (dgt_i z) (by rw [← hq_1]; omega)⟩⟩
  · refine wp_bind2 (o5_X10_here M T hT hp) (fun r_2 he10 hq10 => ?_)
    obtain ⟨hh_10, hq_10⟩ := hq10
    replace hh_10 : (r_2.toInt = -1 ∧ (M 0 7).toInt = (M 0 8).toInt) ∨ (0 ≤ r_2.toInt ∧ r_2.toInt ≤ 255 ∧ (M 0 7).toInt < (M 0 8).toInt) := hh_10
    replace hq_10 : r_2.toInt = T (M 0 7).toInt := hq_10
    refine wp_ite (fun c15 => ?_) (fun c15 => ?_)
    · exact wp_some ⟨b01_0, (fun h => absurd nI0 h), ⟨fun z => absurd nI0 z, fun z => absurd (dgt_i z) (by rw [← hq_10]; omega)⟩⟩
    · exact wp_some ⟨b01_1, (fun _ => ⟨by omega, fun d hd => by rw [he1] at hd; rw [he1] at he10; cases hd; cases he10; omega⟩), ⟨fun _ => dgt_t (by have z1 := hq_1; have z2 := hq_10; omega), fun _ => by decide⟩⟩
theorem o5_X10_wrongAt (M : Mem) (v1 : Int32) (v2 : Int32) : Wp (f_X10_wrongAt M v1 v2) (fun q => (q.1 = 0 ∨ q.1 = 1) ∧ (∀ a i, ¬ ((a = 0 ∧ i = 9)) → q.2 a i = M a i) ∧ (q.1.toInt = 0) ∧ (0 ≤ v1.toInt → v1.toInt ≤ 9 → 0 ≤ v2.toInt → v2.toInt ≤ 1000 → (q.2 0 9).toInt = -1000 * v1.toInt - v2.toInt)) := by
  refine wp_bnd (fun M_1 eM_1 => ?_)
  exact wp_some ⟨b01_0, (fun a i q0 => ((congrFun (congrFun eM_1 a) i).trans ((mset_ne (fun h9 => q0 (h9))).trans rfl))), (by show (nI 0).toInt = 0; have f0 := t_lit 0; omega), (fun z1 z2 z3 z4 => by show (M_1 0 9).toInt = _; rw [eM_1, mset_eq]; exact flt_is z1 z2 z3 z4)⟩
theorem o5_X10_takesSign (M : Mem) (v1 : Int32) (T : Int → Int) (hT : TXr M = T) (hp : 0 ≤ (M 0 7).toInt ∧ (M 0 7).toInt ≤ (M 0 8).toInt ∧ (M 0 8).toInt ≤ 240) (hv : 0 ≤ v1.toInt) : Wp (f_X10_takesSign M v1) (fun q => (q.1 = 0 ∨ q.1 = 1) ∧ (∀ a i, ¬ ((a = 0 ∧ i = 7) ∨ (a = 0 ∧ i = 9)) → q.2 a i = M a i) ∧ ((M 0 7).toInt ≤ (q.2 0 7).toInt ∧ (q.2 0 7).toInt ≤ (M 0 8).toInt ∧ (¬ q.1.toInt = 0 → (M 0 7).toInt < (q.2 0 7).toInt)) ∧ ((¬ q.1.toInt = 0 ∧ T (M 0 7).toInt = v1.toInt ∧ (q.2 0 7).toInt = (M 0 7).toInt + 1 ∧ (M 0 7).toInt < (M 0 8).toInt) ∨ (q.1.toInt = 0 ∧ ¬ T (M 0 7).toInt = v1.toInt ∧ (q.2 0 9).toInt = -1000 - (M 0 7).toInt))) := by
  refine wp_bind2 (o5_X10_here M T hT hp) (fun r_1 he1 hq1 => ?_)
  obtain ⟨hh_1, hq_1⟩ := hq1
  replace hh_1 : (r_1.toInt = -1 ∧ (M 0 7).toInt = (M 0 8).toInt) ∨ (0 ≤ r_1.toInt ∧ r_1.toInt ≤ 255 ∧ (M 0 7).toInt < (M 0 8).toInt) := hh_1
  replace hq_1 : r_1.toInt = T (M 0 7).toInt := hq_1
  refine wp_ite (fun c5 => ?_) (fun c5 => ?_)
  · refine wp_bnd (fun M_2 eM_2 => ?_)
    exact wp_some ⟨b01_1, (fun a i q0 => ((congrFun (congrFun eM_2 a) i).trans ((mset_ne (fun h9 => q0 (Or.inl h9))).trans rfl))), (by show (M 0 7).toInt ≤ (M_2 0 7).toInt ∧ (M_2 0 7).toInt ≤ (M 0 8).toInt ∧ (¬ (nI 1).toInt = 0 → (M 0 7).toInt < (M_2 0 7).toInt); have f0 := congrArg Int32.toInt ((congrFun (congrFun eM_2 0) 7).trans mset_eq); have f1 := t_lit 1; have f2 := t_add (M 0 7) (nI 1); omega), (Or.inl ⟨by decide, by rw [← hq_1]; exact c5, by show (M_2 0 7).toInt = _; rw [eM_2, mset_eq]; exact (i_up (by omega)).2, by omega⟩)⟩
  · refine wp_cb2 (o5_X10_wrongAt M (nI 1) (M 0 7)) (fun r_3 M_4 he14 hq14 => ?_)
    obtain ⟨hz_r_3, hg_M_4, hw_14, hq_14⟩ := hq14
    replace hw_14 : r_3.toInt = 0 := hw_14
    have := t_lit 1
    replace hq_14 : 0 ≤ (nI 1).toInt → (nI 1).toInt ≤ 9 → 0 ≤ (M 0 7).toInt → (M 0 7).toInt ≤ 1000 → (M_4 0 9).toInt = -1000 * (nI 1).toInt - (M 0 7).toInt := hq_14
    have := t_lit 1
    replace hg_M_4 : ∀ a i, ¬ ((a = 0 ∧ i = 9)) → M_4 a i = M a i := hg_M_4
    refine wp_gb hz_r_3 ?_
    exact wp_some ⟨hz_r_3, (fun a i q0 => ((hg_M_4 a i (fun h9 => q0 (Or.inr (h9)))).trans rfl)), (by show (M 0 7).toInt ≤ (M_4 0 7).toInt ∧ (M_4 0 7).toInt ≤ (M 0 8).toInt ∧ (¬ r_3.toInt = 0 → (M 0 7).toInt < (M_4 0 7).toInt); have f0 := congrArg Int32.toInt (hg_M_4 0 7 (by omega)); omega), (Or.inr ⟨hw_14, by rw [← hq_1]; exact c5, by show (M_4 0 9).toInt = _; rw [hq_14 (by decide) (by decide) (by omega) (by omega)]; have := t_lit 1; omega⟩)⟩
theorem o5_X10_readsAmount (M : Mem) (T : Int → Int) (hT : TXr M = T) (hp : 0 ≤ (M 0 7).toInt ∧ (M 0 7).toInt ≤ (M 0 8).toInt ∧ (M 0 8).toInt ≤ 240) : Wp (f_X10_readsAmount M) (fun q => (q.1 = 0 ∨ q.1 = 1) ∧ (∀ a i, ¬ ((a = 0 ∧ i = 7) ∨ (a = 0 ∧ i = 9) ∨ (a = 0 ∧ i = 10)) → q.2 a i = M a i) ∧ ((M 0 7).toInt ≤ (q.2 0 7).toInt ∧ (q.2 0 7).toInt ≤ (M 0 8).toInt ∧ (¬ q.1.toInt = 0 → (M 0 7).toInt < (q.2 0 7).toInt)) ∧ (¬ q.1.toInt = 0 → 0 ≤ (q.2 0 10).toInt ∧ (q.2 0 10).toInt ≤ 99) ∧ (NumQ (numS T (M 0 7).toInt 2) q.1.toInt (q.2 0 9).toInt (q.2 0 7).toInt (q.2 0 10).toInt (M 0 7).toInt (M 0 8).toInt)) := by
  refine wp_bnd (fun x_1 ex_1 => ?_)
  have hv_x_1 := congrArg Int32.toInt ex_1
  refine wp_bind2 (o5_X10_isDigit M T hT hp) (fun r_2 he6 hq6 => ?_)
  obtain ⟨hz_r_2, hd_6, hk_6⟩ := hq6
  replace hd_6 : ¬ r_2.toInt = 0 → (M 0 7).toInt < (M 0 8).toInt ∧ ∀ d, f_X10_here M = some d → 48 ≤ d.toInt ∧ d.toInt ≤ 57 := hd_6
  replace hk_6 : ¬ r_2.toInt = 0 ↔ dgt (T (M 0 7).toInt) = true := hk_6
  refine wp_ite (fun c9 => ?_) (fun c9 => ?_)
  · refine wp_cb2 (o5_X10_wrongAt M (nI 1) (M 0 7)) (fun r_10 M_11 he18 hq18 => ?_)
    obtain ⟨hz_r_10, hg_M_11, hw_18, hq_18⟩ := hq18
    replace hw_18 : r_10.toInt = 0 := hw_18
    have := t_lit 1
    replace hq_18 : 0 ≤ (nI 1).toInt → (nI 1).toInt ≤ 9 → 0 ≤ (M 0 7).toInt → (M 0 7).toInt ≤ 1000 → (M_11 0 9).toInt = -1000 * (nI 1).toInt - (M 0 7).toInt := hq_18
    have := t_lit 1
    replace hg_M_11 : ∀ a i, ¬ ((a = 0 ∧ i = 9)) → M_11 a i = M a i := hg_M_11
    refine wp_gb hz_r_10 ?_
    exact wp_some ⟨hz_r_10, (fun a i q0 => ((hg_M_11 a i (fun h9 => q0 (Or.inr (Or.inl h9)))).trans rfl)), (by show (M 0 7).toInt ≤ (M_11 0 7).toInt ∧ (M_11 0 7).toInt ≤ (M 0 8).toInt ∧ (¬ r_10.toInt = 0 → (M 0 7).toInt < (M_11 0 7).toInt); have f0 := congrArg Int32.toInt (hg_M_11 0 7 (by omega)); omega), (by show ¬ r_10.toInt = 0 → 0 ≤ (M_11 0 10).toInt ∧ (M_11 0 10).toInt ≤ 99; have f0 := congrArg Int32.toInt (hg_M_11 0 10 (by omega)); omega), (by show NumQ _ r_10.toInt (M_11 0 9).toInt (M_11 0 7).toInt (M_11 0 10).toInt _ _; rw [numS_0 (by omega) (Bool.eq_false_iff.mpr (fun z => hk_6.mpr z c9))]; exact ⟨hw_18, by rw [hq_18 (by decide) (by decide) (by omega) (by omega)]; have := t_lit 1; omega⟩)⟩
  · refine wp_bnd (fun M_3 eM_3 => ?_)
    refine wp_lp1 (fun M27 => (∀ a i, ¬ ((a = 0 ∧ i = 7) ∨ (a = 0 ∧ i = 10)) → M27 a i = M_3 a i) ∧ (∃ c : Nat, c ≤ 2 ∧ (M27 0 7).toInt = x_1.toInt + c ∧ 0 ≤ (M27 0 10).toInt ∧ (M27 0 10).toInt < (10 : Int) ^ c ∧ (M27 0 7).toInt ≤ (M 0 8).toInt) ∧ ((M27 0 7).toInt = x_1.toInt → f_X10_isDigit M27 = some r_2) ∧ (∀ i : Nat, (i : Int) < (M27 0 7).toInt - (M 0 7).toInt → dgt (T ((M 0 7).toInt + i)) = true) ∧ ((M27 0 10).toInt = nvv T (M 0 7).toInt ((M27 0 7).toInt - (M 0 7).toInt).toNat)) (fun M27 => ((M27 0 8).toInt - (M27 0 7).toInt).toNat) (fun ag27 M27 hI27 ih27 => ?_) FU M_3 ⟨(fun _ _ _ => rfl), ⟨0, by omega, by (have f0 := congrArg Int32.toInt ((congrFun (congrFun eM_3 0) 7).trans (mset_ne (by omega))); omega), by (rw [eM_3, mset_eq]; decide), by (rw [eM_3, mset_eq]; decide), by (have f0 := congrArg Int32.toInt ((congrFun (congrFun eM_3 0) 7).trans (mset_ne (by omega))); omega)⟩, (fun _ => (isDigit_congr ((congrFun (congrFun eM_3 0) 7).trans (mset_ne (by omega))) ((congrFun (congrFun eM_3 0) 8).trans (mset_ne (by omega))) (by rw [eM_3, mset_n (by omega)])).trans he6), (fun i hi => absurd hi (by rw [eM_3, mset_ne (by omega)]; omega)), (by rw [eM_3, mset_eq, mset_ne (by omega), Int.sub_self]; exact nI0)⟩ (fu_lt (by have f0 := congrArg Int32.toInt ((congrFun (congrFun eM_3 0) 8).trans (mset_ne (by omega))); have f1 := congrArg Int32.toInt ((congrFun (congrFun eM_3 0) 7).trans (mset_ne (by omega))); omega))
    obtain ⟨hf_M27, hc27, hdz, hd27, hv27⟩ := hI27
    obtain ⟨cg, hc1, hc2, hc3, hc4, hc6⟩ := hc27
    have hc5 := pow10_le hc1
    have hc7 : (10 : Int) ^ 2 = 100 := by decide
    have f8 := congrArg Int32.toInt (hf_M27 0 8 (by omega))
    have f9 := congrArg Int32.toInt ((congrFun (congrFun eM_3 0) 8).trans (mset_ne (by omega)))
    have fl5 := t_add x_1 (nI 2)
    have fl6 := t_lit 2
    refine wp_bind2 (o5_X10_isDigit M27 T ((txr_fr ((hf_M27 0 8 (by omega)).trans ((congrFun (congrFun eM_3 0) 8).trans ((mset_ne (by omega)).trans rfl))) (fun j => ((hf_M27 5 j (by omega)).trans ((congrFun (congrFun eM_3 5) j).trans ((mset_ne (by omega)).trans rfl))))).trans hT) (by have f0 := congrArg Int32.toInt (hf_M27 0 8 (by omega)); have f1 := congrArg Int32.toInt ((congrFun (congrFun eM_3 0) 8).trans (mset_ne (by omega))); omega)) (fun r_4 he28 hq28 => ?_)
    obtain ⟨hz_r_4, hd_28, hk_28⟩ := hq28
    replace hd_28 : ¬ r_4.toInt = 0 → (M27 0 7).toInt < (M27 0 8).toInt ∧ ∀ d, f_X10_here M27 = some d → 48 ≤ d.toInt ∧ d.toInt ≤ 57 := hd_28
    replace hk_28 : ¬ r_4.toInt = 0 ↔ dgt (T (M27 0 7).toInt) = true := hk_28
    refine wp_ite (fun c31 => ?_) (fun c31 => ?_)
    · exact wp_some ⟨b01_1, (fun a i q0 => ((hf_M27 a i (fun z8 => q0 ((fun z9 => Or.elim z9 (fun h9 => Or.inl h9) (fun h9 => Or.inr (Or.inr (h9)))) z8))).trans ((congrFun (congrFun eM_3 a) i).trans ((mset_ne (fun h9 => q0 (Or.inr (Or.inr (h9))))).trans rfl)))), (by show (M 0 7).toInt ≤ (M27 0 7).toInt ∧ (M27 0 7).toInt ≤ (M 0 8).toInt ∧ (¬ (nI 1).toInt = 0 → (M 0 7).toInt < (M27 0 7).toInt); have h8 : ¬ (M27 0 7).toInt = x_1.toInt := (fun z => by have h9 := hdz z; rw [he28] at h9; cases h9; exact c9 c31); omega), (by show ¬ (nI 1).toInt = 0 → 0 ≤ (M27 0 10).toInt ∧ (M27 0 10).toInt ≤ 99; have f0 := t_lit 1; omega), (by show NumQ _ (nI 1).toInt (M27 0 9).toInt (M27 0 7).toInt (M27 0 10).toInt _ _; have h8 : ¬ (M27 0 7).toInt = x_1.toInt := (fun z => by have h9 := hdz z; rw [he28] at h9; cases h9; exact c9 c31); have ec : ((M27 0 7).toInt - (M 0 7).toInt).toNat = cg := (by omega); have e2 : (M27 0 7).toInt = (M 0 7).toInt + (cg : Int) := (by omega); rw [ec] at hv27; rw [numS_v (c := cg) (by omega) hc1 (fun i hi => hd27 i (by omega)) (by rw [← e2]; exact Bool.eq_false_iff.mpr (fun z => hk_28.mpr z c31))]; exact ⟨by decide, hv27, by show 0 ≤ nvv T _ _; rw [← hv27]; omega, by show nvv T _ _ ≤ 99999; rw [← hv27]; omega, e2, by show (M 0 7).toInt < (M 0 7).toInt + _; omega, by show (M 0 7).toInt + _ ≤ _; omega⟩)⟩
    · have j44 : Wp (f_X10_readsAmount_L44 M27) (fun q => (q.1 = 0 ∨ q.1 = 1) ∧ (∀ a i, ¬ ((a = 0 ∧ i = 7) ∨ (a = 0 ∧ i = 9) ∨ (a = 0 ∧ i = 10)) → q.2 a i = M a i) ∧ ((M 0 7).toInt ≤ (q.2 0 7).toInt ∧ (q.2 0 7).toInt ≤ (M 0 8).toInt ∧ (¬ q.1.toInt = 0 → (M 0 7).toInt < (q.2 0 7).toInt)) ∧ (¬ q.1.toInt = 0 → 0 ≤ (q.2 0 10).toInt ∧ (q.2 0 10).toInt ≤ 99) ∧ (NumQ (numS T (M 0 7).toInt 2) q.1.toInt (q.2 0 9).toInt (q.2 0 7).toInt (q.2 0 10).toInt (M 0 7).toInt (M 0 8).toInt)) := by
        unfold f_X10_readsAmount_L44
        refine wp_cb2 (o5_X10_wrongAt M27 (nI 2) (M27 0 7)) (fun r_5 M_6 he50 hq50 => ?_)
        obtain ⟨hz_r_5, hg_M_6, hw_50, hq_50⟩ := hq50
        replace hw_50 : r_5.toInt = 0 := hw_50
        have := t_lit 2
        replace hq_50 : 0 ≤ (nI 2).toInt → (nI 2).toInt ≤ 9 → 0 ≤ (M27 0 7).toInt → (M27 0 7).toInt ≤ 1000 → (M_6 0 9).toInt = -1000 * (nI 2).toInt - (M27 0 7).toInt := hq_50
        have := t_lit 2
        replace hg_M_6 : ∀ a i, ¬ ((a = 0 ∧ i = 9)) → M_6 a i = M27 a i := hg_M_6
        refine wp_gb hz_r_5 ?_
        exact wp_some ⟨hz_r_5, (fun a i q0 => ((hg_M_6 a i (fun h9 => q0 (Or.inr (Or.inl h9)))).trans ((hf_M27 a i (fun z8 => q0 ((fun z9 => Or.elim z9 (fun h9 => Or.inl h9) (fun h9 => Or.inr (Or.inr (h9)))) z8))).trans ((congrFun (congrFun eM_3 a) i).trans ((mset_ne (fun h9 => q0 (Or.inr (Or.inr (h9))))).trans rfl))))), (by show (M 0 7).toInt ≤ (M_6 0 7).toInt ∧ (M_6 0 7).toInt ≤ (M 0 8).toInt ∧ (¬ r_5.toInt = 0 → (M 0 7).toInt < (M_6 0 7).toInt); have f0 := congrArg Int32.toInt (hg_M_6 0 7 (by omega)); omega), (by show ¬ r_5.toInt = 0 → 0 ≤ (M_6 0 10).toInt ∧ (M_6 0 10).toInt ≤ 99; have f0 := congrArg Int32.toInt (hg_M_6 0 10 (by omega)); omega), (by show NumQ _ r_5.toInt (M_6 0 9).toInt (M_6 0 7).toInt (M_6 0 10).toInt _ _; have e2 : (M27 0 7).toInt = (M 0 7).toInt + ((2 : Nat) : Int) := (by omega); rw [numS_2 (by omega) (fun i hi => hd27 i (by omega)) (by rw [← e2]; exact hk_28.mp c31), ← e2]; exact ⟨hw_50, by rw [hq_50 (by decide) (by decide) (by omega) (by omega)]; have := t_lit 2; omega⟩)⟩
      refine wp_ite (fun c41 => ?_) (fun c41 => ?_)
      · exact j44
      · refine wp_bind2 (o5_X10_here M27 T ((txr_fr ((hf_M27 0 8 (by omega)).trans ((congrFun (congrFun eM_3 0) 8).trans ((mset_ne (by omega)).trans rfl))) (fun j => ((hf_M27 5 j (by omega)).trans ((congrFun (congrFun eM_3 5) j).trans ((mset_ne (by omega)).trans rfl))))).trans hT) (by have f0 := congrArg Int32.toInt (hf_M27 0 8 (by omega)); have f1 := congrArg Int32.toInt ((congrFun (congrFun eM_3 0) 8).trans (mset_ne (by omega))); have f2 := t_lit 2; have f3 := t_add x_1 (nI 2); have f4 := congrArg Int32.toInt ex_1; omega)) (fun r_7 he63 hq63 => ?_)
        obtain ⟨hh_63, hq_63⟩ := hq63
        replace hh_63 : (r_7.toInt = -1 ∧ (M27 0 7).toInt = (M27 0 8).toInt) ∨ (0 ≤ r_7.toInt ∧ r_7.toInt ≤ 255 ∧ (M27 0 7).toInt < (M27 0 8).toInt) := hh_63
        replace hq_63 : r_7.toInt = T (M27 0 7).toInt := hq_63
        have hdg := (hd_28 (by omega)).2 r_7 he63
        have hnum := num_step (a := M27 0 10) (r := r_7) (by omega) hdg
        have hpl := (hd_28 (by omega)).1
        refine wp_bnd (fun M_8 eM_8 => ?_)
        refine wp_bnd (fun M_9 eM_9 => ?_)
        have g7 : (M_9 0 7).toInt = (M27 0 7).toInt + 1 := by rw [eM_9, mset_eq, eM_8, mset_ne (by omega)]; exact (i_up (by omega)).2
        have g10 : (M_9 0 10).toInt = 10 * (M27 0 10).toInt + (r_7.toInt - 48) := by rw [eM_9, mset_ne (by omega), eM_8, mset_eq]; exact hnum
        have ec : ((M27 0 7).toInt - (M 0 7).toInt).toNat = cg := by omega
        rw [ec] at hv27
        exact ih27 M_9 ⟨(fun a i q0 => ((congrFun (congrFun eM_9 a) i).trans ((mset_ne (fun h9 => q0 (Or.inl h9))).trans ((congrFun (congrFun eM_8 a) i).trans ((mset_ne (fun h9 => q0 (Or.inr (h9)))).trans ((hf_M27 a i (fun z8 => q0 ((fun z9 => Or.elim z9 (fun h9 => Or.inl h9) (fun h9 => Or.inr (h9))) z8))).trans rfl)))))), ⟨cg + 1, by omega, by (have f0 := t_lit 1; have f1 := t_add (M_8 0 7) (nI 1); have f2 := congrArg Int32.toInt ((congrFun (congrFun eM_9 0) 7).trans mset_eq); have f3 := congrArg Int32.toInt ((congrFun (congrFun eM_8 0) 7).trans (mset_ne (by omega))); omega), by (rw [eM_9, mset_ne (by omega), eM_8, mset_eq, hnum]; omega), by (rw [eM_9, mset_ne (by omega), eM_8, mset_eq, hnum, Int.pow_succ]; omega), by (have f0 := t_lit 1; have f1 := t_add (M_8 0 7) (nI 1); have f2 := congrArg Int32.toInt ((congrFun (congrFun eM_9 0) 7).trans mset_eq); have f3 := congrArg Int32.toInt ((congrFun (congrFun eM_8 0) 7).trans (mset_ne (by omega))); omega)⟩, (fun z => absurd z (by have f0 := t_lit 1; have f1 := t_add (M_8 0 7) (nI 1); have f2 := congrArg Int32.toInt ((congrFun (congrFun eM_9 0) 7).trans mset_eq); have f3 := congrArg Int32.toInt ((congrFun (congrFun eM_8 0) 7).trans (mset_ne (by omega))); omega)), (fun i hz => by rw [g7] at hz; by_cases e9 : (i : Int) = cg; (rw [show (M 0 7).toInt + (i : Int) = (M27 0 7).toInt from (by omega)]; exact hk_28.mp c31); exact hd27 i (by omega)), (by rw [g10, g7, show ((M27 0 7).toInt + 1 - (M 0 7).toInt).toNat = cg + 1 from (by omega), nvv_s, ← hv27, hq_63, show (M27 0 7).toInt = (M 0 7).toInt + (cg : Int) from (by omega)])⟩ (by have f0 := congrArg Int32.toInt ((congrFun (congrFun eM_9 0) 8).trans (mset_ne (by omega))); have f1 := congrArg Int32.toInt ((congrFun (congrFun eM_8 0) 8).trans (mset_ne (by omega))); have f2 := congrArg Int32.toInt (hf_M27 0 8 (by omega)); have f3 := congrArg Int32.toInt ((congrFun (congrFun eM_3 0) 8).trans (mset_ne (by omega))); have f4 := congrArg Int32.toInt ((congrFun (congrFun eM_9 0) 7).trans mset_eq); have f5 := t_lit 1; have f6 := t_add (M_8 0 7) (nI 1); have f7 := congrArg Int32.toInt ((congrFun (congrFun eM_8 0) 7).trans (mset_ne (by omega))); omega)
theorem o5_X10_readsBetween (M : Mem) (v1 : Int32) (v2 : Int32) (T : Int → Int) (hT : TXr M = T) (hp : 0 ≤ (M 0 7).toInt ∧ (M 0 7).toInt ≤ (M 0 8).toInt ∧ (M 0 8).toInt ≤ 240) : Wp (f_X10_readsBetween M v1 v2) (fun q => (q.1 = 0 ∨ q.1 = 1) ∧ (∀ a i, ¬ ((a = 0 ∧ i = 7) ∨ (a = 0 ∧ i = 9) ∨ (a = 0 ∧ i = 10)) → q.2 a i = M a i) ∧ ((M 0 7).toInt ≤ (q.2 0 7).toInt ∧ (q.2 0 7).toInt ≤ (M 0 8).toInt ∧ (¬ q.1.toInt = 0 → (M 0 7).toInt < (q.2 0 7).toInt)) ∧ (¬ q.1.toInt = 0 → v1.toInt ≤ (q.2 0 10).toInt ∧ (q.2 0 10).toInt ≤ v2.toInt) ∧ (BetQ (numS T (M 0 7).toInt 2) (M 0 7).toInt v1.toInt v2.toInt q.1.toInt (q.2 0 9).toInt (q.2 0 7).toInt (q.2 0 10).toInt (M 0 7).toInt (M 0 8).toInt)) := by
  refine wp_bnd (fun x_1 ex_1 => ?_)
  have hv_x_1 := congrArg Int32.toInt ex_1
  refine wp_cb2 (o5_X10_readsAmount M T hT hp) (fun r_2 M_3 he6 hq6 => ?_)
  obtain ⟨hz_r_2, hg_M_3, hp_6, hn_6, hN_6⟩ := hq6
  replace hp_6 : (M 0 7).toInt ≤ (M_3 0 7).toInt ∧ (M_3 0 7).toInt ≤ (M 0 8).toInt ∧ (¬ r_2.toInt = 0 → (M 0 7).toInt < (M_3 0 7).toInt) := hp_6
  replace hn_6 : ¬ r_2.toInt = 0 → 0 ≤ (M_3 0 10).toInt ∧ (M_3 0 10).toInt ≤ 99 := hn_6
  replace hN_6 : NumQ (numS T (M 0 7).toInt 2) r_2.toInt (M_3 0 9).toInt (M_3 0 7).toInt (M_3 0 10).toInt (M 0 7).toInt (M 0 8).toInt := hN_6
  replace hg_M_3 : ∀ a i, ¬ ((a = 0 ∧ i = 7) ∨ (a = 0 ∧ i = 9) ∨ (a = 0 ∧ i = 10)) → M_3 a i = M a i := hg_M_3
  refine wp_ite (fun c9 => ?_) (fun c9 => ?_)
  · exact wp_some ⟨b01_0, (fun a i q0 => ((hg_M_3 a i (fun z8 => q0 ((fun z9 => Or.elim z9 (fun h9 => Or.inl h9) (fun z9 => Or.elim z9 (fun h9 => Or.inr (Or.inl h9)) (fun h9 => Or.inr (Or.inr (h9))))) z8))).trans rfl)), (by show (M 0 7).toInt ≤ (M_3 0 7).toInt ∧ (M_3 0 7).toInt ≤ (M 0 8).toInt ∧ (¬ (nI 0).toInt = 0 → (M 0 7).toInt < (M_3 0 7).toInt); have f0 := t_lit 0; omega), (by show ¬ (nI 0).toInt = 0 → v1.toInt ≤ (M_3 0 10).toInt ∧ (M_3 0 10).toInt ≤ v2.toInt; have f0 := t_lit 0; omega), (Or.inl ⟨nI0, Or.inl (numQ_f hN_6 c9)⟩)⟩
  · refine wp_bind2 (o2_X10_in M_3 (M_3 0 10) v1 v2) (fun r_4 he20 hq20 => ?_)
    obtain ⟨hz_r_4, hr_20, hi_20⟩ := hq20
    replace hr_20 : ¬ r_4.toInt = 0 → v1.toInt ≤ (M_3 0 10).toInt ∧ (M_3 0 10).toInt ≤ v2.toInt := hr_20
    replace hi_20 : ¬ r_4.toInt = 0 ↔ v1.toInt ≤ (M_3 0 10).toInt ∧ (M_3 0 10).toInt ≤ v2.toInt := hi_20
    refine wp_ite (fun c23 => ?_) (fun c23 => ?_)
    · refine wp_cb2 (o5_X10_wrongAt M_3 (nI 3) x_1) (fun r_5 M_6 he29 hq29 => ?_)
      obtain ⟨hz_r_5, hg_M_6, hw_29, hq_29⟩ := hq29
      replace hw_29 : r_5.toInt = 0 := hw_29
      have := t_lit 3
      replace hq_29 : 0 ≤ (nI 3).toInt → (nI 3).toInt ≤ 9 → 0 ≤ x_1.toInt → x_1.toInt ≤ 1000 → (M_6 0 9).toInt = -1000 * (nI 3).toInt - x_1.toInt := hq_29
      have := t_lit 3
      replace hg_M_6 : ∀ a i, ¬ ((a = 0 ∧ i = 9)) → M_6 a i = M_3 a i := hg_M_6
      refine wp_ite (fun c32 => ?_) (fun c32 => ?_)
      · exact wp_some ⟨b01_0, (fun a i q0 => ((hg_M_6 a i (fun h9 => q0 (Or.inr (Or.inl h9)))).trans ((hg_M_3 a i (fun z8 => q0 ((fun z9 => Or.elim z9 (fun h9 => Or.inl h9) (fun z9 => Or.elim z9 (fun h9 => Or.inr (Or.inl h9)) (fun h9 => Or.inr (Or.inr (h9))))) z8))).trans rfl))), (by show (M 0 7).toInt ≤ (M_6 0 7).toInt ∧ (M_6 0 7).toInt ≤ (M 0 8).toInt ∧ (¬ (nI 0).toInt = 0 → (M 0 7).toInt < (M_6 0 7).toInt); have f0 := congrArg Int32.toInt (hg_M_6 0 7 (by omega)); have f1 := t_lit 0; omega), (by show ¬ (nI 0).toInt = 0 → v1.toInt ≤ (M_6 0 10).toInt ∧ (M_6 0 10).toInt ≤ v2.toInt; have f0 := t_lit 0; have f1 := congrArg Int32.toInt (hg_M_6 0 10 (by omega)); omega), (by obtain ⟨n1, n2, n3, n4, n5⟩ := numQ_v hN_6 c9; exact Or.inl ⟨nI0, Or.inr ⟨_, _, n1, n2, fun z => (hi_20.mpr z) c23, by show (M_6 0 9).toInt = _; rw [hq_29 (by decide) (by decide) (by omega) (by omega)]; have := t_lit 3; omega⟩⟩)⟩
      · exact wp_some ⟨b01_1, (fun a i q0 => ((hg_M_6 a i (fun h9 => q0 (Or.inr (Or.inl h9)))).trans ((hg_M_3 a i (fun z8 => q0 ((fun z9 => Or.elim z9 (fun h9 => Or.inl h9) (fun z9 => Or.elim z9 (fun h9 => Or.inr (Or.inl h9)) (fun h9 => Or.inr (Or.inr (h9))))) z8))).trans rfl))), (by show (M 0 7).toInt ≤ (M_6 0 7).toInt ∧ (M_6 0 7).toInt ≤ (M 0 8).toInt ∧ (¬ (nI 1).toInt = 0 → (M 0 7).toInt < (M_6 0 7).toInt); have f0 := congrArg Int32.toInt (hg_M_6 0 7 (by omega)); have f1 := t_lit 1; omega), (by show ¬ (nI 1).toInt = 0 → v1.toInt ≤ (M_6 0 10).toInt ∧ (M_6 0 10).toInt ≤ v2.toInt; have f0 := t_lit 1; have f1 := congrArg Int32.toInt (hg_M_6 0 10 (by omega)); omega), (False.elim (c32 hw_29))⟩
    · exact wp_some ⟨b01_1, (fun a i q0 => ((hg_M_3 a i (fun z8 => q0 ((fun z9 => Or.elim z9 (fun h9 => Or.inl h9) (fun z9 => Or.elim z9 (fun h9 => Or.inr (Or.inl h9)) (fun h9 => Or.inr (Or.inr (h9))))) z8))).trans rfl)), (by show (M 0 7).toInt ≤ (M_3 0 7).toInt ∧ (M_3 0 7).toInt ≤ (M 0 8).toInt ∧ (¬ (nI 1).toInt = 0 → (M 0 7).toInt < (M_3 0 7).toInt); have f0 := t_lit 1; omega), (by show ¬ (nI 1).toInt = 0 → v1.toInt ≤ (M_3 0 10).toInt ∧ (M_3 0 10).toInt ≤ v2.toInt; have f0 := t_lit 1; omega), (by obtain ⟨n1, n2, n3, n4, n5⟩ := numQ_v hN_6 c9; exact Or.inr ⟨by decide, n1, hi_20.mp c23, n4, n5⟩)⟩
set_option maxHeartbeats 8000000 in
theorem o5_X10_readsLine (M : Mem) (T : Int → Int) (hT : TXr M = T) (hp : 0 ≤ (M 0 7).toInt ∧ (M 0 7).toInt ≤ (M 0 8).toInt ∧ (M 0 8).toInt ≤ 240) (hl : 0 ≤ (M 0 33).toInt ∧ (M 0 33).toInt ≤ 40) (hk : (∀ j : Nat, (j : Int) < (M 0 33).toInt → 1 ≤ (M 20 j).toInt ∧ (M 20 j).toInt ≤ 20 ∧ 0 ≤ (M 21 j).toInt ∧ (M 21 j).toInt ≤ 9)) : Wp (f_X10_readsLine M) (fun q => (q.1 = 0 ∨ q.1 = 1) ∧ (∀ a i, ¬ ((a = 0 ∧ i = 7) ∨ (a = 0 ∧ i = 9) ∨ (a = 0 ∧ i = 10) ∨ (a = 0 ∧ i = 33) ∨ a = 19 ∨ a = 20 ∨ a = 21 ∨ a = 22) → q.2 a i = M a i) ∧ ((M 0 7).toInt ≤ (q.2 0 7).toInt ∧ (q.2 0 7).toInt ≤ (M 0 8).toInt ∧ (¬ q.1.toInt = 0 → (M 0 7).toInt < (q.2 0 7).toInt)) ∧ (¬ q.1.toInt = 0 → (q.2 0 33).toInt = (M 0 33).toInt + 1 ∧ (M 0 33).toInt < 40 ∧ (∀ j : Nat, (j : Int) < (q.2 0 33).toInt → 1 ≤ (q.2 20 j).toInt ∧ (q.2 20 j).toInt ≤ 20 ∧ 0 ≤ (q.2 21 j).toInt ∧ (q.2 21 j).toInt ≤ 9)) ∧ ((M 0 33).toInt < 40 → LinP (lineS T (M 0 7).toInt (fun j => (M 19 j).toInt) (fun j => (M 20 j).toInt) (ix (M 0 33))) q.1.toInt (q.2 0 9).toInt (q.2 0 7).toInt (q.2 19 (ix (M 0 33))).toInt (q.2 20 (ix (M 0 33))).toInt (q.2 21 (ix (M 0 33))).toInt (q.2 22 (ix (M 0 33))).toInt (M 0 7).toInt (M 0 8).toInt) ∧ ((M 0 33).toInt = 40 → q.1.toInt = 0 ∧ (q.2 0 9).toInt = (if dgt (T (M 0 7).toInt) = true then -4000 - (M 0 7).toInt else -1000 - (M 0 7).toInt)) ∧ (∀ j : Nat, j < (ix (M 0 33)) → q.2 19 j = M 19 j ∧ q.2 20 j = M 20 j)) := by
  have fv33 := t_ixn (M 0 33) (by omega)
  refine wp_bnd (fun x_1 ex_1 => ?_)
  have hv_x_1 := congrArg Int32.toInt ex_1
  refine wp_bind2 (o5_X10_isDigit M T hT hp) (fun r_2 he6 hq6 => ?_)
  obtain ⟨hz_r_2, hd_6, hk_6⟩ := hq6
  replace hd_6 : ¬ r_2.toInt = 0 → (M 0 7).toInt < (M 0 8).toInt ∧ ∀ d, f_X10_here M = some d → 48 ≤ d.toInt ∧ d.toInt ≤ 57 := hd_6
  replace hk_6 : ¬ r_2.toInt = 0 ↔ dgt (T (M 0 7).toInt) = true := hk_6
  refine wp_ite (fun c9 => ?_) (fun c9 => ?_)
  · refine wp_cb2 (o5_X10_wrongAt M (nI 1) (M 0 7)) (fun r_29 M_30 he18 hq18 => ?_)
    obtain ⟨hz_r_29, hg_M_30, hw_18, hq_18⟩ := hq18
    replace hw_18 : r_29.toInt = 0 := hw_18
    have := t_lit 1
    replace hq_18 : 0 ≤ (nI 1).toInt → (nI 1).toInt ≤ 9 → 0 ≤ (M 0 7).toInt → (M 0 7).toInt ≤ 1000 → (M_30 0 9).toInt = -1000 * (nI 1).toInt - (M 0 7).toInt := hq_18
    have := t_lit 1
    replace hg_M_30 : ∀ a i, ¬ ((a = 0 ∧ i = 9)) → M_30 a i = M a i := hg_M_30
    refine wp_gb hz_r_29 ?_
    exact wp_some ⟨hz_r_29, (fun a i q0 => ((hg_M_30 a i (fun h9 => q0 (Or.inr (Or.inl h9)))).trans rfl)), (by show (M 0 7).toInt ≤ (M_30 0 7).toInt ∧ (M_30 0 7).toInt ≤ (M 0 8).toInt ∧ (¬ r_29.toInt = 0 → (M 0 7).toInt < (M_30 0 7).toInt); have f0 := congrArg Int32.toInt (hg_M_30 0 7 (by omega)); omega), (fun h => absurd hw_18 h), (fun _ => by show LinP (lineS T (M 0 7).toInt (fun j => (M 19 j).toInt) (fun j => (M 20 j).toInt) (ix (M 0 33))) r_29.toInt (M_30 0 9).toInt (M_30 0 7).toInt (M_30 19 (ix (M 0 33))).toInt (M_30 20 (ix (M 0 33))).toInt (M_30 21 (ix (M 0 33))).toInt (M_30 22 (ix (M 0 33))).toInt (M 0 7).toInt (M 0 8).toInt; rw [lineS_f (numS_0 (by omega) (Bool.eq_false_iff.mpr (fun z => hk_6.mpr z c9)))]; exact ⟨hw_18, by rw [hq_18 (by decide) (by decide) (by omega) (by omega)]; have := t_lit 1; omega⟩), (fun _ => ⟨hw_18, by show (M_30 0 9).toInt = _; rw [show dgt (T (M 0 7).toInt) = false from (Bool.eq_false_iff.mpr (fun z => hk_6.mpr z c9)), if_neg (by decide), hq_18 (by decide) (by decide) (by omega) (by omega)]; have := t_lit 1; omega⟩), (fun j hj => ⟨((hg_M_30 19 j (by omega)).trans rfl), ((hg_M_30 20 j (by omega)).trans rfl)⟩)⟩
  · refine wp_ite (fun c28 => ?_) (fun c28 => ?_)
    · refine wp_cb2 (o5_X10_wrongAt M (nI 4) (M 0 7)) (fun r_27 M_28 he37 hq37 => ?_)
      obtain ⟨hz_r_27, hg_M_28, hw_37, hq_37⟩ := hq37
      replace hw_37 : r_27.toInt = 0 := hw_37
      have := t_lit 4
      replace hq_37 : 0 ≤ (nI 4).toInt → (nI 4).toInt ≤ 9 → 0 ≤ (M 0 7).toInt → (M 0 7).toInt ≤ 1000 → (M_28 0 9).toInt = -1000 * (nI 4).toInt - (M 0 7).toInt := hq_37
      have := t_lit 4
      replace hg_M_28 : ∀ a i, ¬ ((a = 0 ∧ i = 9)) → M_28 a i = M a i := hg_M_28
      refine wp_gb hz_r_27 ?_
      exact wp_some ⟨hz_r_27, (fun a i q0 => ((hg_M_28 a i (fun h9 => q0 (Or.inr (Or.inl h9)))).trans rfl)), (by show (M 0 7).toInt ≤ (M_28 0 7).toInt ∧ (M_28 0 7).toInt ≤ (M 0 8).toInt ∧ (¬ r_27.toInt = 0 → (M 0 7).toInt < (M_28 0 7).toInt); have f0 := congrArg Int32.toInt (hg_M_28 0 7 (by omega)); omega), (fun h => absurd hw_37 h), (fun z => absurd c28 (by omega)), (fun _ => ⟨hw_37, by show (M_28 0 9).toInt = _; rw [if_pos (hk_6.mp c9), hq_37 (by decide) (by decide) (by omega) (by omega)]; have := t_lit 4; omega⟩), (fun j hj => ⟨((hg_M_28 19 j (by omega)).trans rfl), ((hg_M_28 20 j (by omega)).trans rfl)⟩)⟩
    · have hlt40 : (M 0 33).toInt < 40 := by omega
      refine wp_cb2 (o5_X10_readsBetween M (nI 0) (nI 39) T hT hp) (fun r_3 M_4 he45 hq45 => ?_)
      obtain ⟨hz_r_3, hg_M_4, hp_45, hn_45, hN_45⟩ := hq45
      replace hp_45 : (M 0 7).toInt ≤ (M_4 0 7).toInt ∧ (M_4 0 7).toInt ≤ (M 0 8).toInt ∧ (¬ r_3.toInt = 0 → (M 0 7).toInt < (M_4 0 7).toInt) := hp_45
      have := t_lit 0
      have := t_lit 39
      replace hn_45 : ¬ r_3.toInt = 0 → (nI 0).toInt ≤ (M_4 0 10).toInt ∧ (M_4 0 10).toInt ≤ (nI 39).toInt := hn_45
      have := t_lit 0
      have := t_lit 39
      replace hN_45 : BetQ (numS T (M 0 7).toInt 2) (M 0 7).toInt (nI 0).toInt (nI 39).toInt r_3.toInt (M_4 0 9).toInt (M_4 0 7).toInt (M_4 0 10).toInt (M 0 7).toInt (M 0 8).toInt := hN_45
      have := t_lit 0
      have := t_lit 39
      replace hg_M_4 : ∀ a i, ¬ ((a = 0 ∧ i = 7) ∨ (a = 0 ∧ i = 9) ∨ (a = 0 ∧ i = 10)) → M_4 a i = M a i := hg_M_4
      have hl4 : (M_4 0 33).toInt = (M 0 33).toInt := congrArg Int32.toInt (hg_M_4 0 33 (by omega))
      have hl4b := congrArg Int32.toInt (hg_M_4 0 8 (by omega))
      have nx4 : ix (M_4 0 33) = (ix (M 0 33)) := congrArg ix (t_of hl4)
      refine wp_ite (fun c48 => ?_) (fun c48 => ?_)
      · exact wp_some ⟨b01_0, (fun a i q0 => ((hg_M_4 a i (fun z8 => q0 ((fun z9 => Or.elim z9 (fun h9 => Or.inl h9) (fun z9 => Or.elim z9 (fun h9 => Or.inr (Or.inl h9)) (fun h9 => Or.inr (Or.inr (Or.inl h9))))) z8))).trans rfl)), (by show (M 0 7).toInt ≤ (M_4 0 7).toInt ∧ (M_4 0 7).toInt ≤ (M 0 8).toInt ∧ (¬ (nI 0).toInt = 0 → (M 0 7).toInt < (M_4 0 7).toInt); have f0 := t_lit 0; omega), (fun h => absurd nI0 h), (fun _ => by show LinP (lineS T (M 0 7).toInt (fun j => (M 19 j).toInt) (fun j => (M 20 j).toInt) (ix (M 0 33))) (nI 0).toInt (M_4 0 9).toInt (M_4 0 7).toInt (M_4 19 (ix (M 0 33))).toInt (M_4 20 (ix (M 0 33))).toInt (M_4 21 (ix (M 0 33))).toInt (M_4 22 (ix (M 0 33))).toInt (M 0 7).toInt (M 0 8).toInt; rcases betQ_f hN_45 c48 with z | ⟨x, q, z1, z2, z3, z4⟩; (rw [lineS_f z]; exact ⟨nI0, rfl⟩); (rw [lineS_v z1, lineX_3 (by have := t_lit 0; have := t_lit 39; omega)]; exact ⟨nI0, z4⟩)), (fun z => absurd z (by omega)), (fun j hj => ⟨((hg_M_4 19 j (by omega)).trans rfl), ((hg_M_4 20 j (by omega)).trans rfl)⟩)⟩
      · obtain ⟨n1, n2, n3, n4⟩ := betQ_v hN_45 c48
        refine wp_gd (by have f0 := congrArg Int32.toInt (hg_M_4 0 33 (by omega)); omega) ?_
        refine wp_bnd (fun M_5 eM_5 => ?_)
        have hl5 : (M_5 0 33).toInt = (M 0 33).toInt := by rw [eM_5, mset_ne (by omega)]; exact hl4
        have hp5 := congrArg Int32.toInt ((congrFun (congrFun eM_5 0) 7).trans (mset_ne (by omega)))
        have hp5b := congrArg Int32.toInt ((congrFun (congrFun eM_5 0) 8).trans (mset_ne (by omega)))
        have p5 : (M_5 0 7).toInt = (M_4 0 7).toInt := hp5
        refine wp_cb2 (o5_X10_takesSign M_5 (nI 44) T ((txr_fr ((congrFun (congrFun eM_5 0) 8).trans ((mset_ne (by omega)).trans ((hg_M_4 0 8 (by omega)).trans rfl))) (fun j => ((congrFun (congrFun eM_5 5) j).trans ((mset_ne (by omega)).trans ((hg_M_4 5 j (by omega)).trans rfl))))).trans hT) (by have f0 := congrArg Int32.toInt ((congrFun (congrFun eM_5 0) 7).trans (mset_ne (by omega))); have f1 := congrArg Int32.toInt ((congrFun (congrFun eM_5 0) 8).trans (mset_ne (by omega))); have f2 := congrArg Int32.toInt (hg_M_4 0 8 (by omega)); omega) (by decide)) (fun r_6 M_7 he69 hq69 => ?_)
        obtain ⟨hz_r_6, hg_M_7, hp_69, hs_69⟩ := hq69
        replace hp_69 : (M_5 0 7).toInt ≤ (M_7 0 7).toInt ∧ (M_7 0 7).toInt ≤ (M_5 0 8).toInt ∧ (¬ r_6.toInt = 0 → (M_5 0 7).toInt < (M_7 0 7).toInt) := hp_69
        have := t_lit 44
        replace hs_69 : (¬ r_6.toInt = 0 ∧ T (M_5 0 7).toInt = (nI 44).toInt ∧ (M_7 0 7).toInt = (M_5 0 7).toInt + 1 ∧ (M_5 0 7).toInt < (M_5 0 8).toInt) ∨ (r_6.toInt = 0 ∧ ¬ T (M_5 0 7).toInt = (nI 44).toInt ∧ (M_7 0 9).toInt = -1000 - (M_5 0 7).toInt) := hs_69
        have := t_lit 44
        replace hg_M_7 : ∀ a i, ¬ ((a = 0 ∧ i = 7) ∨ (a = 0 ∧ i = 9)) → M_7 a i = M_5 a i := hg_M_7
        have hl7 : (M_7 0 33).toInt = (M 0 33).toInt := by rw [hg_M_7 0 33 (by omega)]; exact hl5
        have hl7b := congrArg Int32.toInt (hg_M_7 0 8 (by omega))
        refine wp_ite (fun c72 => ?_) (fun c72 => ?_)
        · exact wp_some ⟨b01_0, (fun a i q0 => ((hg_M_7 a i (fun z8 => q0 ((fun z9 => Or.elim z9 (fun h9 => Or.inl h9) (fun h9 => Or.inr (Or.inl h9))) z8))).trans ((congrFun (congrFun eM_5 a) i).trans ((mset_ne (fun h9 => q0 (Or.inr (Or.inr (Or.inr (Or.inr (Or.inl (h9).1))))))).trans ((hg_M_4 a i (fun z8 => q0 ((fun z9 => Or.elim z9 (fun h9 => Or.inl h9) (fun z9 => Or.elim z9 (fun h9 => Or.inr (Or.inl h9)) (fun h9 => Or.inr (Or.inr (Or.inl h9))))) z8))).trans rfl))))), (by show (M 0 7).toInt ≤ (M_7 0 7).toInt ∧ (M_7 0 7).toInt ≤ (M 0 8).toInt ∧ (¬ (nI 0).toInt = 0 → (M 0 7).toInt < (M_7 0 7).toInt); have f0 := t_lit 0; omega), (fun h => absurd nI0 h), (fun _ => by show LinP (lineS T (M 0 7).toInt (fun j => (M 19 j).toInt) (fun j => (M 20 j).toInt) (ix (M 0 33))) (nI 0).toInt (M_7 0 9).toInt (M_7 0 7).toInt (M_7 19 (ix (M 0 33))).toInt (M_7 20 (ix (M 0 33))).toInt (M_7 21 (ix (M 0 33))).toInt (M_7 22 (ix (M 0 33))).toInt (M 0 7).toInt (M 0 8).toInt; have z := hs_69.resolve_left (fun z => z.1 c72); have f44 := t_lit 44; rw [lineS_v n1, lineX_1 (by omega) (by rw [← p5]; omega)]; exact ⟨nI0, by rw [z.2.2, p5]⟩), (fun z => absurd z (by omega)), (fun j hj => ⟨((hg_M_7 19 j (by omega)).trans ((congrFun (congrFun eM_5 19) j).trans ((mset_ne (by omega)).trans ((hg_M_4 19 j (by omega)).trans rfl)))), ((hg_M_7 20 j (by omega)).trans ((congrFun (congrFun eM_5 20) j).trans ((mset_ne (by omega)).trans ((hg_M_4 20 j (by omega)).trans rfl))))⟩)⟩
        · have s69 := hs_69.resolve_right (fun z => c72 z.1)
          have e44 : T (M_4 0 7).toInt = 44 := by rw [← p5, s69.2.1]; exact t_lit 44
          have p7 : (M_4 0 7).toInt + 1 = (M_7 0 7).toInt := by omega
          refine wp_cb2 (o5_X10_readsBetween M_7 (nI 1) (nI 20) T ((txr_fr ((hg_M_7 0 8 (by omega)).trans ((congrFun (congrFun eM_5 0) 8).trans ((mset_ne (by omega)).trans ((hg_M_4 0 8 (by omega)).trans rfl)))) (fun j => ((hg_M_7 5 j (by omega)).trans ((congrFun (congrFun eM_5 5) j).trans ((mset_ne (by omega)).trans ((hg_M_4 5 j (by omega)).trans rfl)))))).trans hT) (by have f0 := congrArg Int32.toInt (hg_M_7 0 8 (by omega)); have f1 := congrArg Int32.toInt ((congrFun (congrFun eM_5 0) 8).trans (mset_ne (by omega))); have f2 := congrArg Int32.toInt (hg_M_4 0 8 (by omega)); omega)) (fun r_8 M_9 he79 hq79 => ?_)
          obtain ⟨hz_r_8, hg_M_9, hp_79, hn_79, hN_79⟩ := hq79
          replace hp_79 : (M_7 0 7).toInt ≤ (M_9 0 7).toInt ∧ (M_9 0 7).toInt ≤ (M_7 0 8).toInt ∧ (¬ r_8.toInt = 0 → (M_7 0 7).toInt < (M_9 0 7).toInt) := hp_79
          have := t_lit 1
          have := t_lit 20
          replace hn_79 : ¬ r_8.toInt = 0 → (nI 1).toInt ≤ (M_9 0 10).toInt ∧ (M_9 0 10).toInt ≤ (nI 20).toInt := hn_79
          have := t_lit 1
          have := t_lit 20
          replace hN_79 : BetQ (numS T (M_7 0 7).toInt 2) (M_7 0 7).toInt (nI 1).toInt (nI 20).toInt r_8.toInt (M_9 0 9).toInt (M_9 0 7).toInt (M_9 0 10).toInt (M_7 0 7).toInt (M_7 0 8).toInt := hN_79
          have := t_lit 1
          have := t_lit 20
          replace hg_M_9 : ∀ a i, ¬ ((a = 0 ∧ i = 7) ∨ (a = 0 ∧ i = 9) ∨ (a = 0 ∧ i = 10)) → M_9 a i = M_7 a i := hg_M_9
          have hl9 : (M_9 0 33).toInt = (M 0 33).toInt := by rw [hg_M_9 0 33 (by omega)]; exact hl7
          have hl9b := congrArg Int32.toInt (hg_M_9 0 8 (by omega))
          have nx : ix (M_9 0 33) = (ix (M 0 33)) := congrArg ix (t_of hl9)
          refine wp_ite (fun c82 => ?_) (fun c82 => ?_)
          · exact wp_some ⟨b01_0, (fun a i q0 => ((hg_M_9 a i (fun z8 => q0 ((fun z9 => Or.elim z9 (fun h9 => Or.inl h9) (fun z9 => Or.elim z9 (fun h9 => Or.inr (Or.inl h9)) (fun h9 => Or.inr (Or.inr (Or.inl h9))))) z8))).trans ((hg_M_7 a i (fun z8 => q0 ((fun z9 => Or.elim z9 (fun h9 => Or.inl h9) (fun h9 => Or.inr (Or.inl h9))) z8))).trans ((congrFun (congrFun eM_5 a) i).trans ((mset_ne (fun h9 => q0 (Or.inr (Or.inr (Or.inr (Or.inr (Or.inl (h9).1))))))).trans ((hg_M_4 a i (fun z8 => q0 ((fun z9 => Or.elim z9 (fun h9 => Or.inl h9) (fun z9 => Or.elim z9 (fun h9 => Or.inr (Or.inl h9)) (fun h9 => Or.inr (Or.inr (Or.inl h9))))) z8))).trans rfl)))))), (by show (M 0 7).toInt ≤ (M_9 0 7).toInt ∧ (M_9 0 7).toInt ≤ (M 0 8).toInt ∧ (¬ (nI 0).toInt = 0 → (M 0 7).toInt < (M_9 0 7).toInt); have f0 := t_lit 0; omega), (fun h => absurd nI0 h), (fun _ => by show LinP (lineS T (M 0 7).toInt (fun j => (M 19 j).toInt) (fun j => (M 20 j).toInt) (ix (M 0 33))) (nI 0).toInt (M_9 0 9).toInt (M_9 0 7).toInt (M_9 19 (ix (M 0 33))).toInt (M_9 20 (ix (M 0 33))).toInt (M_9 21 (ix (M 0 33))).toInt (M_9 22 (ix (M 0 33))).toInt (M 0 7).toInt (M 0 8).toInt; rcases betQ_f hN_79 c82 with z | ⟨x, q, z1, z2, z3, z4⟩; (rw [lineS_v n1, lineX_v (by omega) e44, p7, lineY_f z]; exact ⟨nI0, rfl⟩); (rw [lineS_v n1, lineX_v (by omega) e44, p7, lineY_3 z1 (by have := t_lit 1; have := t_lit 20; omega)]; exact ⟨nI0, z4⟩)), (fun z => absurd z (by omega)), (fun j hj => ⟨((hg_M_9 19 j (by omega)).trans ((hg_M_7 19 j (by omega)).trans ((congrFun (congrFun eM_5 19) j).trans ((mset_ne (by omega)).trans ((hg_M_4 19 j (by omega)).trans rfl))))), ((hg_M_9 20 j (by omega)).trans ((hg_M_7 20 j (by omega)).trans ((congrFun (congrFun eM_5 20) j).trans ((mset_ne (by omega)).trans ((hg_M_4 20 j (by omega)).trans rfl)))))⟩)⟩
          · obtain ⟨m1, m2, m3, m4⟩ := betQ_v hN_79 c82
            obtain ⟨q10, eq10⟩ : ∃ q : Int, (M_9 0 7).toInt = q := ⟨_, rfl⟩
            refine wp_gd (by have f0 := congrArg Int32.toInt (hg_M_9 0 33 (by omega)); have f1 := congrArg Int32.toInt (hg_M_7 0 33 (by omega)); have f2 := congrArg Int32.toInt ((congrFun (congrFun eM_5 0) 33).trans (mset_ne (by omega))); have f3 := congrArg Int32.toInt (hg_M_4 0 33 (by omega)); omega) ?_
            refine wp_bnd (fun M_10 eM_10 => ?_)
            have hl10 : (M_10 0 33).toInt = (M 0 33).toInt := by rw [eM_10, mset_ne (by omega)]; exact hl9
            have hp10 := congrArg Int32.toInt ((congrFun (congrFun eM_10 0) 7).trans (mset_ne (by omega)))
            have hp10b := congrArg Int32.toInt ((congrFun (congrFun eM_10 0) 8).trans (mset_ne (by omega)))
            have nx10 : ix (M_10 0 33) = (ix (M 0 33)) := congrArg ix (t_of hl10)
            have g19 : M_10 19 (ix (M 0 33)) = M_4 0 10 := by rw [eM_10, mset_ne (by omega), hg_M_9 19 _ (by omega), hg_M_7 19 _ (by omega), eM_5, nx4, mset_eq]
            have g20 : M_10 20 (ix (M 0 33)) = M_9 0 10 := by rw [eM_10, nx, mset_eq]
            have go19 : ∀ j, ¬ j = (ix (M 0 33)) → M_10 19 j = M 19 j := fun j hj => by rw [eM_10, mset_ne (by omega), hg_M_9 19 j (by omega), hg_M_7 19 j (by omega), eM_5, nx4, mset_ne (by omega), hg_M_4 19 j (by omega)]
            have go20 : ∀ j, ¬ j = (ix (M 0 33)) → M_10 20 j = M 20 j := fun j hj => by rw [eM_10, nx, mset_ne (by omega), hg_M_9 20 j (by omega), hg_M_7 20 j (by omega), eM_5, mset_ne (by omega), hg_M_4 20 j (by omega)]
            have p10 : (M_10 0 7).toInt = q10 := by rw [← eq10]; exact hp10
            refine wp_lp1 (fun y2_102 => (0 ≤ y2_102.toInt) ∧ (∀ j : Nat, (j : Int) < y2_102.toInt → ¬ ((M 19 j).toInt = (M_4 0 10).toInt ∧ (M 20 j).toInt = (M_9 0 10).toInt))) (fun y2_102 => ((M_10 0 33).toInt - y2_102.toInt).toNat) (fun ag102 y2_102 hI102 ih102 => ?_) FU (nI 0) ⟨(by decide), (fun j hj => absurd hj (by have := t_lit 0; omega))⟩ (fu_lt (by have f0 := congrArg Int32.toInt ((congrFun (congrFun eM_10 0) 33).trans (mset_ne (by omega))); have f1 := congrArg Int32.toInt (hg_M_9 0 33 (by omega)); have f2 := congrArg Int32.toInt (hg_M_7 0 33 (by omega)); have f3 := congrArg Int32.toInt ((congrFun (congrFun eM_5 0) 33).trans (mset_ne (by omega))); have f4 := congrArg Int32.toInt (hg_M_4 0 33 (by omega)); have f5 := t_lit 0; omega))
            obtain ⟨h2, hd102⟩ := hI102
            have j160 : ((M_10 0 33).toInt ≤ y2_102.toInt) → Wp (f_X10_readsLine_L160 M_10) (fun q => (q.1 = 0 ∨ q.1 = 1) ∧ (∀ a i, ¬ ((a = 0 ∧ i = 7) ∨ (a = 0 ∧ i = 9) ∨ (a = 0 ∧ i = 10) ∨ (a = 0 ∧ i = 33) ∨ a = 19 ∨ a = 20 ∨ a = 21 ∨ a = 22) → q.2 a i = M a i) ∧ ((M 0 7).toInt ≤ (q.2 0 7).toInt ∧ (q.2 0 7).toInt ≤ (M 0 8).toInt ∧ (¬ q.1.toInt = 0 → (M 0 7).toInt < (q.2 0 7).toInt)) ∧ (¬ q.1.toInt = 0 → (q.2 0 33).toInt = (M 0 33).toInt + 1 ∧ (M 0 33).toInt < 40 ∧ (∀ j : Nat, (j : Int) < (q.2 0 33).toInt → 1 ≤ (q.2 20 j).toInt ∧ (q.2 20 j).toInt ≤ 20 ∧ 0 ≤ (q.2 21 j).toInt ∧ (q.2 21 j).toInt ≤ 9)) ∧ ((M 0 33).toInt < 40 → LinP (lineS T (M 0 7).toInt (fun j => (M 19 j).toInt) (fun j => (M 20 j).toInt) (ix (M 0 33))) q.1.toInt (q.2 0 9).toInt (q.2 0 7).toInt (q.2 19 (ix (M 0 33))).toInt (q.2 20 (ix (M 0 33))).toInt (q.2 21 (ix (M 0 33))).toInt (q.2 22 (ix (M 0 33))).toInt (M 0 7).toInt (M 0 8).toInt) ∧ ((M 0 33).toInt = 40 → q.1.toInt = 0 ∧ (q.2 0 9).toInt = (if dgt (T (M 0 7).toInt) = true then -4000 - (M 0 7).toInt else -1000 - (M 0 7).toInt)) ∧ (∀ j : Nat, j < (ix (M 0 33)) → q.2 19 j = M 19 j ∧ q.2 20 j = M 20 j)) := by
              intro h160
              unfold f_X10_readsLine_L160
              have hdup : dupS (fun j => (M 19 j).toInt) (fun j => (M 20 j).toInt) (M_4 0 10).toInt (M_9 0 10).toInt (ix (M 0 33)) = false := dup_f _ (fun j hj => hd102 j (by omega))
              refine wp_gd (by have f0 := congrArg Int32.toInt ((congrFun (congrFun eM_10 0) 33).trans (mset_ne (by omega))); have f1 := congrArg Int32.toInt (hg_M_9 0 33 (by omega)); have f2 := congrArg Int32.toInt (hg_M_7 0 33 (by omega)); have f3 := congrArg Int32.toInt ((congrFun (congrFun eM_5 0) 33).trans (mset_ne (by omega))); have f4 := congrArg Int32.toInt (hg_M_4 0 33 (by omega)); omega) ?_
              refine wp_bnd (fun M_11 eM_11 => ?_)
              refine wp_gd (by have f0 := congrArg Int32.toInt ((congrFun (congrFun eM_11 0) 33).trans (mset_ne (by omega))); have f1 := congrArg Int32.toInt ((congrFun (congrFun eM_10 0) 33).trans (mset_ne (by omega))); have f2 := congrArg Int32.toInt (hg_M_9 0 33 (by omega)); have f3 := congrArg Int32.toInt (hg_M_7 0 33 (by omega)); have f4 := congrArg Int32.toInt ((congrFun (congrFun eM_5 0) 33).trans (mset_ne (by omega))); have f5 := congrArg Int32.toInt (hg_M_4 0 33 (by omega)); omega) ?_
              refine wp_bnd (fun M_12 eM_12 => ?_)
              have fx := t_ixn (M_9 0 33) (by omega)
              have fx2 := t_ixn (M_10 0 33) (by omega)
              have hl12 : (M_12 0 33).toInt = (M 0 33).toInt ∧ ∀ j : Nat, (j : Int) ≤ (M 0 33).toInt → 1 ≤ (M_12 20 j).toInt ∧ (M_12 20 j).toInt ≤ 20 ∧ 0 ≤ (M_12 21 j).toInt ∧ (M_12 21 j).toInt ≤ 9 := ⟨by rw [eM_12, mset_ne (by omega), eM_11, mset_ne (by omega)]; exact hl10, fun j hj => by
                rw [eM_12, mset_ne (by omega), mset_ne (by omega), eM_11, mset_ne (by omega), mset_get, eM_10, mset_get, mset_ne (by omega)]
                have e20 : M_9 20 j = M 20 j := by rw [hg_M_9 20 j (by omega), hg_M_7 20 j (by omega), eM_5, mset_ne (by omega), hg_M_4 20 j (by omega)]
                have e21 : M_9 21 j = M 21 j := by rw [hg_M_9 21 j (by omega), hg_M_7 21 j (by omega), eM_5, mset_ne (by omega), hg_M_4 21 j (by omega)]
                by_cases hj2 : j = ix (M_9 0 33)
                · rw [if_pos ⟨rfl, hj2⟩, if_pos ⟨rfl, by omega⟩]
                  have h20 := hn_79 (by omega)
                  have fl1 := t_lit 1
                  have fl20 := t_lit 20
                  have fl0 := t_lit 0
                  omega
                · rw [if_neg (fun z => hj2 z.2), if_neg (fun z => hj2 (by omega)), e20, mset_ne (by omega), e21]
                  exact hk j (by omega)⟩
              have hp12 : (M 0 7).toInt < (M_12 0 7).toInt ∧ (M_12 0 7).toInt ≤ (M 0 8).toInt := by
                rw [eM_12, mset_ne (by omega), eM_11, mset_ne (by omega)]
                omega
              have hp12b : (M_12 0 8).toInt = (M 0 8).toInt := by
                rw [eM_12, mset_ne (by omega), eM_11, mset_ne (by omega)]
                omega
              have n11 : ix (M_11 0 33) = (ix (M 0 33)) := by rw [eM_11, mset_ne (by omega)]; exact nx10
              have e12 : (M_12 0 7).toInt = q10 := by rw [eM_12, mset_ne (by omega), eM_11, mset_ne (by omega)]; exact p10
              have s12 : (M_12 21 (ix (M 0 33))).toInt = 0 := by rw [eM_12, mset_ne (by omega), eM_11, nx10, mset_eq]; exact nI0
              have u12 : (M_12 22 (ix (M 0 33))).toInt = 0 := by rw [eM_12, n11, mset_eq]; exact nI0
              have x12 : ∀ j, M_12 19 j = M_10 19 j := fun j => by rw [eM_12, mset_ne (by omega), eM_11, mset_ne (by omega)]
              have y12 : ∀ j, M_12 20 j = M_10 20 j := fun j => by rw [eM_12, mset_ne (by omega), eM_11, mset_ne (by omega)]
              refine wp_bind2 (o5_X10_here M_12 T ((txr_fr ((congrFun (congrFun eM_12 0) 8).trans ((mset_ne (by omega)).trans ((congrFun (congrFun eM_11 0) 8).trans ((mset_ne (by omega)).trans ((congrFun (congrFun eM_10 0) 8).trans ((mset_ne (by omega)).trans ((hg_M_9 0 8 (by omega)).trans ((hg_M_7 0 8 (by omega)).trans ((congrFun (congrFun eM_5 0) 8).trans ((mset_ne (by omega)).trans ((hg_M_4 0 8 (by omega)).trans rfl))))))))))) (fun j => ((congrFun (congrFun eM_12 5) j).trans ((mset_ne (by omega)).trans ((congrFun (congrFun eM_11 5) j).trans ((mset_ne (by omega)).trans ((congrFun (congrFun eM_10 5) j).trans ((mset_ne (by omega)).trans ((hg_M_9 5 j (by omega)).trans ((hg_M_7 5 j (by omega)).trans ((congrFun (congrFun eM_5 5) j).trans ((mset_ne (by omega)).trans ((hg_M_4 5 j (by omega)).trans rfl))))))))))))).trans hT) (by have f0 := congrArg Int32.toInt ((congrFun (congrFun eM_12 0) 7).trans (mset_ne (by omega))); have f1 := congrArg Int32.toInt ((congrFun (congrFun eM_11 0) 7).trans (mset_ne (by omega))); have f2 := congrArg Int32.toInt ((congrFun (congrFun eM_10 0) 7).trans (mset_ne (by omega))); have f3 := congrArg Int32.toInt ((congrFun (congrFun eM_12 0) 8).trans (mset_ne (by omega))); have f4 := congrArg Int32.toInt ((congrFun (congrFun eM_11 0) 8).trans (mset_ne (by omega))); have f5 := congrArg Int32.toInt ((congrFun (congrFun eM_10 0) 8).trans (mset_ne (by omega))); have f6 := congrArg Int32.toInt (hg_M_9 0 8 (by omega)); have f7 := congrArg Int32.toInt (hg_M_7 0 8 (by omega)); have f8 := congrArg Int32.toInt ((congrFun (congrFun eM_5 0) 8).trans (mset_ne (by omega))); have f9 := congrArg Int32.toInt (hg_M_4 0 8 (by omega)); omega)) (fun r_13 he181 hq181 => ?_)
              obtain ⟨hh_181, hq_181⟩ := hq181
              replace hh_181 : (r_13.toInt = -1 ∧ (M_12 0 7).toInt = (M_12 0 8).toInt) ∨ (0 ≤ r_13.toInt ∧ r_13.toInt ≤ 255 ∧ (M_12 0 7).toInt < (M_12 0 8).toInt) := hh_181
              replace hq_181 : r_13.toInt = T (M_12 0 7).toInt := hq_181
              have j242 : ∀ (N242 : Mem), (∀ a i, ¬ ((a = 0 ∧ i = 7) ∨ a = 21) → N242 a i = M_12 a i) → ((N242 0 33).toInt = (M 0 33).toInt ∧ ∀ j : Nat, (j : Int) ≤ (M 0 33).toInt → 1 ≤ (N242 20 j).toInt ∧ (N242 20 j).toInt ≤ 20 ∧ 0 ≤ (N242 21 j).toInt ∧ (N242 21 j).toInt ≤ 9) → ((M 0 7).toInt < (N242 0 7).toInt ∧ (N242 0 7).toInt ≤ (M 0 8).toInt) → ((T q10 = 115 ∧ dgt (T (q10 + 1)) = true ∧ (N242 0 7).toInt = q10 + 2 ∧ (N242 21 (ix (M 0 33))).toInt = T (q10 + 1) - 48) ∨ (¬ T q10 = 115 ∧ (N242 0 7).toInt = q10 ∧ (N242 21 (ix (M 0 33))).toInt = 0)) → ((N242 22 (ix (M 0 33))).toInt = 0) → Wp (f_X10_readsLine_L242 N242) (fun q => (q.1 = 0 ∨ q.1 = 1) ∧ (∀ a i, ¬ ((a = 0 ∧ i = 7) ∨ (a = 0 ∧ i = 9) ∨ (a = 0 ∧ i = 10) ∨ (a = 0 ∧ i = 33) ∨ a = 19 ∨ a = 20 ∨ a = 21 ∨ a = 22) → q.2 a i = M a i) ∧ ((M 0 7).toInt ≤ (q.2 0 7).toInt ∧ (q.2 0 7).toInt ≤ (M 0 8).toInt ∧ (¬ q.1.toInt = 0 → (M 0 7).toInt < (q.2 0 7).toInt)) ∧ (¬ q.1.toInt = 0 → (q.2 0 33).toInt = (M 0 33).toInt + 1 ∧ (M 0 33).toInt < 40 ∧ (∀ j : Nat, (j : Int) < (q.2 0 33).toInt → 1 ≤ (q.2 20 j).toInt ∧ (q.2 20 j).toInt ≤ 20 ∧ 0 ≤ (q.2 21 j).toInt ∧ (q.2 21 j).toInt ≤ 9)) ∧ ((M 0 33).toInt < 40 → LinP (lineS T (M 0 7).toInt (fun j => (M 19 j).toInt) (fun j => (M 20 j).toInt) (ix (M 0 33))) q.1.toInt (q.2 0 9).toInt (q.2 0 7).toInt (q.2 19 (ix (M 0 33))).toInt (q.2 20 (ix (M 0 33))).toInt (q.2 21 (ix (M 0 33))).toInt (q.2 22 (ix (M 0 33))).toInt (M 0 7).toInt (M 0 8).toInt) ∧ ((M 0 33).toInt = 40 → q.1.toInt = 0 ∧ (q.2 0 9).toInt = (if dgt (T (M 0 7).toInt) = true then -4000 - (M 0 7).toInt else -1000 - (M 0 7).toInt)) ∧ (∀ j : Nat, j < (ix (M 0 33)) → q.2 19 j = M 19 j ∧ q.2 20 j = M 20 j)) := by
                intro N242 hf_N242 h242 p242 t242 u242
                unfold f_X10_readsLine_L242
                have g8 : (N242 0 8).toInt = (M 0 8).toInt := by rw [hf_N242 0 8 (by omega)]; exact hp12b
                refine wp_bind2 (o5_X10_here N242 T ((txr_fr ((hf_N242 0 8 (by omega)).trans ((congrFun (congrFun eM_12 0) 8).trans ((mset_ne (by omega)).trans ((congrFun (congrFun eM_11 0) 8).trans ((mset_ne (by omega)).trans ((congrFun (congrFun eM_10 0) 8).trans ((mset_ne (by omega)).trans ((hg_M_9 0 8 (by omega)).trans ((hg_M_7 0 8 (by omega)).trans ((congrFun (congrFun eM_5 0) 8).trans ((mset_ne (by omega)).trans ((hg_M_4 0 8 (by omega)).trans rfl)))))))))))) (fun j => ((hf_N242 5 j (by omega)).trans ((congrFun (congrFun eM_12 5) j).trans ((mset_ne (by omega)).trans ((congrFun (congrFun eM_11 5) j).trans ((mset_ne (by omega)).trans ((congrFun (congrFun eM_10 5) j).trans ((mset_ne (by omega)).trans ((hg_M_9 5 j (by omega)).trans ((hg_M_7 5 j (by omega)).trans ((congrFun (congrFun eM_5 5) j).trans ((mset_ne (by omega)).trans ((hg_M_4 5 j (by omega)).trans rfl)))))))))))))).trans hT) (by have f0 := congrArg Int32.toInt (hf_N242 0 8 (by omega)); have f1 := congrArg Int32.toInt ((congrFun (congrFun eM_12 0) 8).trans (mset_ne (by omega))); have f2 := congrArg Int32.toInt ((congrFun (congrFun eM_11 0) 8).trans (mset_ne (by omega))); have f3 := congrArg Int32.toInt ((congrFun (congrFun eM_10 0) 8).trans (mset_ne (by omega))); have f4 := congrArg Int32.toInt (hg_M_9 0 8 (by omega)); have f5 := congrArg Int32.toInt (hg_M_7 0 8 (by omega)); have f6 := congrArg Int32.toInt ((congrFun (congrFun eM_5 0) 8).trans (mset_ne (by omega))); have f7 := congrArg Int32.toInt (hg_M_4 0 8 (by omega)); omega)) (fun r_14 he243 hq243 => ?_)
                obtain ⟨hh_243, hq_243⟩ := hq243
                replace hh_243 : (r_14.toInt = -1 ∧ (N242 0 7).toInt = (N242 0 8).toInt) ∨ (0 ≤ r_14.toInt ∧ r_14.toInt ≤ 255 ∧ (N242 0 7).toInt < (N242 0 8).toInt) := hh_243
                replace hq_243 : r_14.toInt = T (N242 0 7).toInt := hq_243
                have j271 : ∀ (N271 : Mem), (∀ a i, ¬ ((a = 0 ∧ i = 7) ∨ a = 22) → N271 a i = N242 a i) → ((N271 0 33).toInt = (M 0 33).toInt ∧ ∀ j : Nat, (j : Int) ≤ (M 0 33).toInt → 1 ≤ (N271 20 j).toInt ∧ (N271 20 j).toInt ≤ 20 ∧ 0 ≤ (N271 21 j).toInt ∧ (N271 21 j).toInt ≤ 9) → ((M 0 7).toInt < (N271 0 7).toInt ∧ (N271 0 7).toInt ≤ (M 0 8).toInt) → ((N271 21 (ix (M 0 33))) = N242 21 (ix (M 0 33)) ∧ (((N271 22 (ix (M 0 33))).toInt = 1 ∧ T (N242 0 7).toInt = 117 ∧ (N271 0 7).toInt = (N242 0 7).toInt + 1) ∨ ((N271 22 (ix (M 0 33))).toInt = 0 ∧ ¬ T (N242 0 7).toInt = 117 ∧ (N271 0 7).toInt = (N242 0 7).toInt))) → Wp (f_X10_readsLine_L271 N271) (fun q => (q.1 = 0 ∨ q.1 = 1) ∧ (∀ a i, ¬ ((a = 0 ∧ i = 7) ∨ (a = 0 ∧ i = 9) ∨ (a = 0 ∧ i = 10) ∨ (a = 0 ∧ i = 33) ∨ a = 19 ∨ a = 20 ∨ a = 21 ∨ a = 22) → q.2 a i = M a i) ∧ ((M 0 7).toInt ≤ (q.2 0 7).toInt ∧ (q.2 0 7).toInt ≤ (M 0 8).toInt ∧ (¬ q.1.toInt = 0 → (M 0 7).toInt < (q.2 0 7).toInt)) ∧ (¬ q.1.toInt = 0 → (q.2 0 33).toInt = (M 0 33).toInt + 1 ∧ (M 0 33).toInt < 40 ∧ (∀ j : Nat, (j : Int) < (q.2 0 33).toInt → 1 ≤ (q.2 20 j).toInt ∧ (q.2 20 j).toInt ≤ 20 ∧ 0 ≤ (q.2 21 j).toInt ∧ (q.2 21 j).toInt ≤ 9)) ∧ ((M 0 33).toInt < 40 → LinP (lineS T (M 0 7).toInt (fun j => (M 19 j).toInt) (fun j => (M 20 j).toInt) (ix (M 0 33))) q.1.toInt (q.2 0 9).toInt (q.2 0 7).toInt (q.2 19 (ix (M 0 33))).toInt (q.2 20 (ix (M 0 33))).toInt (q.2 21 (ix (M 0 33))).toInt (q.2 22 (ix (M 0 33))).toInt (M 0 7).toInt (M 0 8).toInt) ∧ ((M 0 33).toInt = 40 → q.1.toInt = 0 ∧ (q.2 0 9).toInt = (if dgt (T (M 0 7).toInt) = true then -4000 - (M 0 7).toInt else -1000 - (M 0 7).toInt)) ∧ (∀ j : Nat, j < (ix (M 0 33)) → q.2 19 j = M 19 j ∧ q.2 20 j = M 20 j)) := by
                  intro N271 hf_N271 h271 p271 t271
                  unfold f_X10_readsLine_L271
                  refine wp_bnd (fun M_15 eM_15 => ?_)
                  have z19 : M_15 19 (ix (M 0 33)) = M_4 0 10 := by rw [eM_15, mset_ne (by omega), hf_N271 19 _ (by omega), hf_N242 19 _ (by omega), x12, g19]
                  have z20 : M_15 20 (ix (M 0 33)) = M_9 0 10 := by rw [eM_15, mset_ne (by omega), hf_N271 20 _ (by omega), hf_N242 20 _ (by omega), y12, g20]
                  have z21 : M_15 21 (ix (M 0 33)) = N242 21 (ix (M 0 33)) := by rw [eM_15, mset_ne (by omega)]; exact t271.1
                  have z22 : M_15 22 (ix (M 0 33)) = N271 22 (ix (M 0 33)) := by rw [eM_15, mset_ne (by omega)]
                  have z7 : M_15 0 7 = N271 0 7 := by rw [eM_15, mset_ne (by omega)]
                  exact wp_some ⟨b01_1, (fun a i q0 => ((congrFun (congrFun eM_15 a) i).trans ((mset_ne (fun h9 => q0 (Or.inr (Or.inr (Or.inr (Or.inl h9)))))).trans ((hf_N271 a i (fun z8 => q0 ((fun z9 => Or.elim z9 (fun h9 => Or.inl h9) (fun h9 => Or.inr (Or.inr (Or.inr (Or.inr (Or.inr (Or.inr (Or.inr (h9))))))))) z8))).trans ((hf_N242 a i (fun z8 => q0 ((fun z9 => Or.elim z9 (fun h9 => Or.inl h9) (fun h9 => Or.inr (Or.inr (Or.inr (Or.inr (Or.inr (Or.inr (Or.inl h9)))))))) z8))).trans ((congrFun (congrFun eM_12 a) i).trans ((mset_ne (fun h9 => q0 (Or.inr (Or.inr (Or.inr (Or.inr (Or.inr (Or.inr (Or.inr ((h9).1)))))))))).trans ((congrFun (congrFun eM_11 a) i).trans ((mset_ne (fun h9 => q0 (Or.inr (Or.inr (Or.inr (Or.inr (Or.inr (Or.inr (Or.inl (h9).1))))))))).trans ((congrFun (congrFun eM_10 a) i).trans ((mset_ne (fun h9 => q0 (Or.inr (Or.inr (Or.inr (Or.inr (Or.inr (Or.inl (h9).1)))))))).trans ((hg_M_9 a i (fun z8 => q0 ((fun z9 => Or.elim z9 (fun h9 => Or.inl h9) (fun z9 => Or.elim z9 (fun h9 => Or.inr (Or.inl h9)) (fun h9 => Or.inr (Or.inr (Or.inl h9))))) z8))).trans ((hg_M_7 a i (fun z8 => q0 ((fun z9 => Or.elim z9 (fun h9 => Or.inl h9) (fun h9 => Or.inr (Or.inl h9))) z8))).trans ((congrFun (congrFun eM_5 a) i).trans ((mset_ne (fun h9 => q0 (Or.inr (Or.inr (Or.inr (Or.inr (Or.inl (h9).1))))))).trans ((hg_M_4 a i (fun z8 => q0 ((fun z9 => Or.elim z9 (fun h9 => Or.inl h9) (fun z9 => Or.elim z9 (fun h9 => Or.inr (Or.inl h9)) (fun h9 => Or.inr (Or.inr (Or.inl h9))))) z8))).trans rfl)))))))))))))))), (by show (M 0 7).toInt ≤ (M_15 0 7).toInt ∧ (M_15 0 7).toInt ≤ (M 0 8).toInt ∧ (¬ (nI 1).toInt = 0 → (M 0 7).toInt < (M_15 0 7).toInt); have f0 := congrArg Int32.toInt ((congrFun (congrFun eM_15 0) 7).trans (mset_ne (by omega))); have f1 := t_lit 1; omega), (fun _ => ⟨by have f0 := congrArg Int32.toInt ((congrFun (congrFun eM_15 0) 33).trans mset_eq); have f1 := t_inc (N271 0 33) 1 (by omega); show (M_15 0 33).toInt = (M 0 33).toInt + 1; omega, hlt40, fun j hj => by have f0 := congrArg Int32.toInt ((congrFun (congrFun eM_15 0) 33).trans mset_eq); have f1 := t_inc (N271 0 33) 1 (by omega); have hj : (j : Int) < (M_15 0 33).toInt := hj; show 1 ≤ (M_15 20 j).toInt ∧ (M_15 20 j).toInt ≤ 20 ∧ 0 ≤ (M_15 21 j).toInt ∧ (M_15 21 j).toInt ≤ 9; rw [eM_15, mset_ne (by omega), mset_ne (by omega)]; exact h271.2 j (by omega)⟩), (fun _ => by show LinP (lineS T (M 0 7).toInt (fun j => (M 19 j).toInt) (fun j => (M 20 j).toInt) (ix (M 0 33))) (nI 1).toInt (M_15 0 9).toInt (M_15 0 7).toInt (M_15 19 (ix (M 0 33))).toInt (M_15 20 (ix (M 0 33))).toInt (M_15 21 (ix (M 0 33))).toInt (M_15 22 (ix (M 0 33))).toInt (M 0 7).toInt (M 0 8).toInt; rw [lineS_v n1, lineX_v (by omega) e44, p7, lineY_v m1 (by omega) hdup, eq10, tail_is (q := q10) t242 t271.2]; exact ⟨by decide, congrArg Int32.toInt z19, congrArg Int32.toInt z20, congrArg Int32.toInt z21, congrArg Int32.toInt z22, congrArg Int32.toInt z7, p271.1, p271.2⟩), (fun z => absurd z (by omega)), (fun j hj => ⟨((congrFun (congrFun eM_15 19) j).trans ((mset_ne (by omega)).trans ((hf_N271 19 j (by omega)).trans ((hf_N242 19 j (by omega)).trans ((congrFun (congrFun eM_12 19) j).trans ((mset_ne (by omega)).trans ((congrFun (congrFun eM_11 19) j).trans ((mset_ne (by omega)).trans ((congrFun (congrFun eM_10 19) j).trans ((mset_ne (by omega)).trans ((hg_M_9 19 j (by omega)).trans ((hg_M_7 19 j (by omega)).trans ((congrFun (congrFun eM_5 19) j).trans ((mset_ne (by omega)).trans ((hg_M_4 19 j (by omega)).trans rfl))))))))))))))), ((congrFun (congrFun eM_15 20) j).trans ((mset_ne (by omega)).trans ((hf_N271 20 j (by omega)).trans ((hf_N242 20 j (by omega)).trans ((congrFun (congrFun eM_12 20) j).trans ((mset_ne (by omega)).trans ((congrFun (congrFun eM_11 20) j).trans ((mset_ne (by omega)).trans ((congrFun (congrFun eM_10 20) j).trans ((mset_ne (by omega)).trans ((hg_M_9 20 j (by omega)).trans ((hg_M_7 20 j (by omega)).trans ((congrFun (congrFun eM_5 20) j).trans ((mset_ne (by omega)).trans ((hg_M_4 20 j (by omega)).trans rfl)))))))))))))))⟩)⟩
                refine wp_ite (fun c248 => ?_) (fun c248 => ?_)
                · refine wp_bnd (fun M_16 eM_16 => ?_)
                  have n16 : ix (M_16 0 33) = (ix (M 0 33)) := by rw [eM_16, mset_ne (by omega)]; exact congrArg ix (t_of h242.1)
                  refine wp_gd (by have f0 := congrArg Int32.toInt ((congrFun (congrFun eM_16 0) 33).trans (mset_ne (by omega))); have f1 := congrArg Int32.toInt (hf_N242 0 33 (by omega)); have f2 := congrArg Int32.toInt ((congrFun (congrFun eM_12 0) 33).trans (mset_ne (by omega))); have f3 := congrArg Int32.toInt ((congrFun (congrFun eM_11 0) 33).trans (mset_ne (by omega))); have f4 := congrArg Int32.toInt ((congrFun (congrFun eM_10 0) 33).trans (mset_ne (by omega))); have f5 := congrArg Int32.toInt (hg_M_9 0 33 (by omega)); have f6 := congrArg Int32.toInt (hg_M_7 0 33 (by omega)); have f7 := congrArg Int32.toInt ((congrFun (congrFun eM_5 0) 33).trans (mset_ne (by omega))); have f8 := congrArg Int32.toInt (hg_M_4 0 33 (by omega)); omega) ?_
                  refine wp_bnd (fun M_17 eM_17 => ?_)
                  exact j271 M_17 (fun a i q0 => ((congrFun (congrFun eM_17 a) i).trans ((mset_ne (fun h9 => q0 (Or.inr ((h9).1)))).trans ((congrFun (congrFun eM_16 a) i).trans ((mset_ne (fun h9 => q0 (Or.inl h9))).trans rfl))))) ⟨by rw [eM_17, mset_ne (by omega), eM_16, mset_ne (by omega)]; exact h242.1, fun j hj => by rw [eM_17, mset_ne (by omega), mset_ne (by omega), eM_16, mset_ne (by omega), mset_ne (by omega)]; exact h242.2 j hj⟩ (by have f0 := t_inc (N242 0 7) 1 (by omega); have f1 := congrArg Int32.toInt ((congrFun (congrFun eM_16 0) 7).trans mset_eq); have f2 := congrArg Int32.toInt ((congrFun (congrFun eM_17 0) 7).trans (mset_ne (by omega))); omega) ⟨by rw [eM_17, mset_ne (by omega), eM_16, mset_ne (by omega)], Or.inl ⟨by rw [eM_17, n16, mset_eq]; exact nI1, by rw [← hq_243]; exact c248, by rw [eM_17, mset_ne (by omega), eM_16, mset_eq]; exact (i_up (by omega)).2⟩⟩
                · exact j271 N242 (fun _ _ _ => rfl) h242 p242 ⟨rfl, Or.inr ⟨u242, by rw [← hq_243]; exact c248, rfl⟩⟩
              refine wp_ite (fun c186 => ?_) (fun c186 => ?_)
              · refine wp_bnd (fun M_18 eM_18 => ?_)
                have hp18 := congrArg Int32.toInt ((congrFun (congrFun eM_18 0) 7).trans mset_eq)
                have hp18b := congrArg Int32.toInt ((congrFun (congrFun eM_18 0) 8).trans (mset_ne (by omega)))
                have hp18c := t_inc (M_12 0 7) 1 (by omega)
                have hl18 : (M_18 0 33).toInt = (M 0 33).toInt := by rw [eM_18, mset_ne (by omega)]; exact hl12.1
                have n18 : ix (M_18 0 33) = (ix (M 0 33)) := congrArg ix (t_of hl18)
                have e18 : (M_18 0 7).toInt = q10 + 1 := by omega
                refine wp_bind2 (o5_X10_isDigit M_18 T ((txr_fr ((congrFun (congrFun eM_18 0) 8).trans ((mset_ne (by omega)).trans ((congrFun (congrFun eM_12 0) 8).trans ((mset_ne (by omega)).trans ((congrFun (congrFun eM_11 0) 8).trans ((mset_ne (by omega)).trans ((congrFun (congrFun eM_10 0) 8).trans ((mset_ne (by omega)).trans ((hg_M_9 0 8 (by omega)).trans ((hg_M_7 0 8 (by omega)).trans ((congrFun (congrFun eM_5 0) 8).trans ((mset_ne (by omega)).trans ((hg_M_4 0 8 (by omega)).trans rfl))))))))))))) (fun j => ((congrFun (congrFun eM_18 5) j).trans ((mset_ne (by omega)).trans ((congrFun (congrFun eM_12 5) j).trans ((mset_ne (by omega)).trans ((congrFun (congrFun eM_11 5) j).trans ((mset_ne (by omega)).trans ((congrFun (congrFun eM_10 5) j).trans ((mset_ne (by omega)).trans ((hg_M_9 5 j (by omega)).trans ((hg_M_7 5 j (by omega)).trans ((congrFun (congrFun eM_5 5) j).trans ((mset_ne (by omega)).trans ((hg_M_4 5 j (by omega)).trans rfl))))))))))))))).trans hT) (by have f0 := congrArg Int32.toInt ((congrFun (congrFun eM_18 0) 7).trans mset_eq); have f1 := t_lit 1; have f2 := t_add (M_12 0 7) (nI 1); have f3 := congrArg Int32.toInt ((congrFun (congrFun eM_12 0) 7).trans (mset_ne (by omega))); have f4 := congrArg Int32.toInt ((congrFun (congrFun eM_11 0) 7).trans (mset_ne (by omega))); have f5 := congrArg Int32.toInt ((congrFun (congrFun eM_10 0) 7).trans (mset_ne (by omega))); have f6 := congrArg Int32.toInt ((congrFun (congrFun eM_18 0) 8).trans (mset_ne (by omega))); have f7 := congrArg Int32.toInt ((congrFun (congrFun eM_12 0) 8).trans (mset_ne (by omega))); have f8 := congrArg Int32.toInt ((congrFun (congrFun eM_11 0) 8).trans (mset_ne (by omega))); have f9 := congrArg Int32.toInt ((congrFun (congrFun eM_10 0) 8).trans (mset_ne (by omega))); have f10 := congrArg Int32.toInt (hg_M_9 0 8 (by omega)); have f11 := congrArg Int32.toInt (hg_M_7 0 8 (by omega)); have f12 := congrArg Int32.toInt ((congrFun (congrFun eM_5 0) 8).trans (mset_ne (by omega))); have f13 := congrArg Int32.toInt (hg_M_4 0 8 (by omega)); omega)) (fun r_19 he200 hq200 => ?_)
                obtain ⟨hz_r_19, hd_200, hk_200⟩ := hq200
                replace hd_200 : ¬ r_19.toInt = 0 → (M_18 0 7).toInt < (M_18 0 8).toInt ∧ ∀ d, f_X10_here M_18 = some d → 48 ≤ d.toInt ∧ d.toInt ≤ 57 := hd_200
                replace hk_200 : ¬ r_19.toInt = 0 ↔ dgt (T (M_18 0 7).toInt) = true := hk_200
                refine wp_ite (fun c203 => ?_) (fun c203 => ?_)
                · refine wp_cb2 (o5_X10_wrongAt M_18 (nI 1) (M_18 0 7)) (fun r_23 M_24 he212 hq212 => ?_)
                  obtain ⟨hz_r_23, hg_M_24, hw_212, hq_212⟩ := hq212
                  replace hw_212 : r_23.toInt = 0 := hw_212
                  have := t_lit 1
                  replace hq_212 : 0 ≤ (nI 1).toInt → (nI 1).toInt ≤ 9 → 0 ≤ (M_18 0 7).toInt → (M_18 0 7).toInt ≤ 1000 → (M_24 0 9).toInt = -1000 * (nI 1).toInt - (M_18 0 7).toInt := hq_212
                  have := t_lit 1
                  replace hg_M_24 : ∀ a i, ¬ ((a = 0 ∧ i = 9)) → M_24 a i = M_18 a i := hg_M_24
                  refine wp_gb hz_r_23 ?_
                  exact wp_some ⟨hz_r_23, (fun a i q0 => ((hg_M_24 a i (fun h9 => q0 (Or.inr (Or.inl h9)))).trans ((congrFun (congrFun eM_18 a) i).trans ((mset_ne (fun h9 => q0 (Or.inl h9))).trans ((congrFun (congrFun eM_12 a) i).trans ((mset_ne (fun h9 => q0 (Or.inr (Or.inr (Or.inr (Or.inr (Or.inr (Or.inr (Or.inr ((h9).1)))))))))).trans ((congrFun (congrFun eM_11 a) i).trans ((mset_ne (fun h9 => q0 (Or.inr (Or.inr (Or.inr (Or.inr (Or.inr (Or.inr (Or.inl (h9).1))))))))).trans ((congrFun (congrFun eM_10 a) i).trans ((mset_ne (fun h9 => q0 (Or.inr (Or.inr (Or.inr (Or.inr (Or.inr (Or.inl (h9).1)))))))).trans ((hg_M_9 a i (fun z8 => q0 ((fun z9 => Or.elim z9 (fun h9 => Or.inl h9) (fun z9 => Or.elim z9 (fun h9 => Or.inr (Or.inl h9)) (fun h9 => Or.inr (Or.inr (Or.inl h9))))) z8))).trans ((hg_M_7 a i (fun z8 => q0 ((fun z9 => Or.elim z9 (fun h9 => Or.inl h9) (fun h9 => Or.inr (Or.inl h9))) z8))).trans ((congrFun (congrFun eM_5 a) i).trans ((mset_ne (fun h9 => q0 (Or.inr (Or.inr (Or.inr (Or.inr (Or.inl (h9).1))))))).trans ((hg_M_4 a i (fun z8 => q0 ((fun z9 => Or.elim z9 (fun h9 => Or.inl h9) (fun z9 => Or.elim z9 (fun h9 => Or.inr (Or.inl h9)) (fun h9 => Or.inr (Or.inr (Or.inl h9))))) z8))).trans rfl))))))))))))))), (by show (M 0 7).toInt ≤ (M_24 0 7).toInt ∧ (M_24 0 7).toInt ≤ (M 0 8).toInt ∧ (¬ r_23.toInt = 0 → (M 0 7).toInt < (M_24 0 7).toInt); have f0 := congrArg Int32.toInt (hg_M_24 0 7 (by omega)); have f1 := congrArg Int32.toInt ((congrFun (congrFun eM_18 0) 7).trans mset_eq); have f2 := t_lit 1; have f3 := t_add (M_12 0 7) (nI 1); have f4 := congrArg Int32.toInt ((congrFun (congrFun eM_12 0) 7).trans (mset_ne (by omega))); have f5 := congrArg Int32.toInt ((congrFun (congrFun eM_11 0) 7).trans (mset_ne (by omega))); have f6 := congrArg Int32.toInt ((congrFun (congrFun eM_10 0) 7).trans (mset_ne (by omega))); omega), (fun h => absurd hw_212 h), (fun _ => by show LinP (lineS T (M 0 7).toInt (fun j => (M 19 j).toInt) (fun j => (M 20 j).toInt) (ix (M 0 33))) r_23.toInt (M_24 0 9).toInt (M_24 0 7).toInt (M_24 19 (ix (M 0 33))).toInt (M_24 20 (ix (M 0 33))).toInt (M_24 21 (ix (M 0 33))).toInt (M_24 22 (ix (M 0 33))).toInt (M 0 7).toInt (M 0 8).toInt; rw [lineS_v n1, lineX_v (by omega) e44, p7, lineY_v m1 (by omega) hdup, eq10, tail_f (q := q10) (by rw [← e12, ← hq_181]; exact c186) (by rw [← e18]; exact Bool.eq_false_iff.mpr (fun z => hk_200.mpr z c203))]; exact ⟨hw_212, by rw [hq_212 (by decide) (by decide) (by omega) (by omega)]; have := t_lit 1; omega⟩), (fun z => absurd z (by omega)), (fun j hj => ⟨((hg_M_24 19 j (by omega)).trans ((congrFun (congrFun eM_18 19) j).trans ((mset_ne (by omega)).trans ((congrFun (congrFun eM_12 19) j).trans ((mset_ne (by omega)).trans ((congrFun (congrFun eM_11 19) j).trans ((mset_ne (by omega)).trans ((congrFun (congrFun eM_10 19) j).trans ((mset_ne (by omega)).trans ((hg_M_9 19 j (by omega)).trans ((hg_M_7 19 j (by omega)).trans ((congrFun (congrFun eM_5 19) j).trans ((mset_ne (by omega)).trans ((hg_M_4 19 j (by omega)).trans rfl)))))))))))))), ((hg_M_24 20 j (by omega)).trans ((congrFun (congrFun eM_18 20) j).trans ((mset_ne (by omega)).trans ((congrFun (congrFun eM_12 20) j).trans ((mset_ne (by omega)).trans ((congrFun (congrFun eM_11 20) j).trans ((mset_ne (by omega)).trans ((congrFun (congrFun eM_10 20) j).trans ((mset_ne (by omega)).trans ((hg_M_9 20 j (by omega)).trans ((hg_M_7 20 j (by omega)).trans ((congrFun (congrFun eM_5 20) j).trans ((mset_ne (by omega)).trans ((hg_M_4 20 j (by omega)).trans rfl))))))))))))))⟩)⟩
                · refine wp_bind2 (o5_X10_here M_18 T ((txr_fr ((congrFun (congrFun eM_18 0) 8).trans ((mset_ne (by omega)).trans ((congrFun (congrFun eM_12 0) 8).trans ((mset_ne (by omega)).trans ((congrFun (congrFun eM_11 0) 8).trans ((mset_ne (by omega)).trans ((congrFun (congrFun eM_10 0) 8).trans ((mset_ne (by omega)).trans ((hg_M_9 0 8 (by omega)).trans ((hg_M_7 0 8 (by omega)).trans ((congrFun (congrFun eM_5 0) 8).trans ((mset_ne (by omega)).trans ((hg_M_4 0 8 (by omega)).trans rfl))))))))))))) (fun j => ((congrFun (congrFun eM_18 5) j).trans ((mset_ne (by omega)).trans ((congrFun (congrFun eM_12 5) j).trans ((mset_ne (by omega)).trans ((congrFun (congrFun eM_11 5) j).trans ((mset_ne (by omega)).trans ((congrFun (congrFun eM_10 5) j).trans ((mset_ne (by omega)).trans ((hg_M_9 5 j (by omega)).trans ((hg_M_7 5 j (by omega)).trans ((congrFun (congrFun eM_5 5) j).trans ((mset_ne (by omega)).trans ((hg_M_4 5 j (by omega)).trans rfl))))))))))))))).trans hT) (by have f0 := congrArg Int32.toInt ((congrFun (congrFun eM_18 0) 7).trans mset_eq); have f1 := t_lit 1; have f2 := t_add (M_12 0 7) (nI 1); have f3 := congrArg Int32.toInt ((congrFun (congrFun eM_12 0) 7).trans (mset_ne (by omega))); have f4 := congrArg Int32.toInt ((congrFun (congrFun eM_11 0) 7).trans (mset_ne (by omega))); have f5 := congrArg Int32.toInt ((congrFun (congrFun eM_10 0) 7).trans (mset_ne (by omega))); have f6 := congrArg Int32.toInt ((congrFun (congrFun eM_18 0) 8).trans (mset_ne (by omega))); have f7 := congrArg Int32.toInt ((congrFun (congrFun eM_12 0) 8).trans (mset_ne (by omega))); have f8 := congrArg Int32.toInt ((congrFun (congrFun eM_11 0) 8).trans (mset_ne (by omega))); have f9 := congrArg Int32.toInt ((congrFun (congrFun eM_10 0) 8).trans (mset_ne (by omega))); have f10 := congrArg Int32.toInt (hg_M_9 0 8 (by omega)); have f11 := congrArg Int32.toInt (hg_M_7 0 8 (by omega)); have f12 := congrArg Int32.toInt ((congrFun (congrFun eM_5 0) 8).trans (mset_ne (by omega))); have f13 := congrArg Int32.toInt (hg_M_4 0 8 (by omega)); omega)) (fun r_20 he225 hq225 => ?_)
                  obtain ⟨hh_225, hq_225⟩ := hq225
                  replace hh_225 : (r_20.toInt = -1 ∧ (M_18 0 7).toInt = (M_18 0 8).toInt) ∨ (0 ≤ r_20.toInt ∧ r_20.toInt ≤ 255 ∧ (M_18 0 7).toInt < (M_18 0 8).toInt) := hh_225
                  replace hq_225 : r_20.toInt = T (M_18 0 7).toInt := hq_225
                  have hdg := (hd_200 (by omega)).2 r_20 he225
                  have hdp := (hd_200 (by omega)).1
                  have hk_200b : dgt (T (q10 + 1)) = true := by rw [← e18]; exact hk_200.mp c203
                  have hd9 := dgt_i hk_200b
                  have hz20 : (r_20 - (nI 48)).toInt = T (q10 + 1) - 48 := by
                    have f1 := t_sub r_20 (nI 48)
                    have f2 := t_lit 48
                    rw [← e18, ← hq_225] at hd9 ⊢
                    omega
                  refine wp_gd (by have f0 := congrArg Int32.toInt ((congrFun (congrFun eM_18 0) 33).trans (mset_ne (by omega))); have f1 := congrArg Int32.toInt ((congrFun (congrFun eM_12 0) 33).trans (mset_ne (by omega))); have f2 := congrArg Int32.toInt ((congrFun (congrFun eM_11 0) 33).trans (mset_ne (by omega))); have f3 := congrArg Int32.toInt ((congrFun (congrFun eM_10 0) 33).trans (mset_ne (by omega))); have f4 := congrArg Int32.toInt (hg_M_9 0 33 (by omega)); have f5 := congrArg Int32.toInt (hg_M_7 0 33 (by omega)); have f6 := congrArg Int32.toInt ((congrFun (congrFun eM_5 0) 33).trans (mset_ne (by omega))); have f7 := congrArg Int32.toInt (hg_M_4 0 33 (by omega)); omega) ?_
                  refine wp_bnd (fun M_21 eM_21 => ?_)
                  refine wp_bnd (fun M_22 eM_22 => ?_)
                  have hp21 := congrArg Int32.toInt ((congrFun (congrFun eM_21 0) 7).trans (mset_ne (by omega)))
                  have hl12a := hl12.1
                  have fx3 := t_ixn (M_12 0 33) (by omega)
                  have f48 := t_sub r_20 (nI 48)
                  have f49 := t_lit 48
                  have hl22 : (M_22 0 33).toInt = (M 0 33).toInt ∧ ∀ j : Nat, (j : Int) ≤ (M 0 33).toInt → 1 ≤ (M_22 20 j).toInt ∧ (M_22 20 j).toInt ≤ 20 ∧ 0 ≤ (M_22 21 j).toInt ∧ (M_22 21 j).toInt ≤ 9 := ⟨by rw [eM_22, mset_ne (by omega), eM_21, mset_ne (by omega)]; exact hl18, fun j hj => by
                    have h12 := hl12.2 j hj
                    rw [eM_22, mset_ne (by omega), mset_ne (by omega), eM_21, mset_ne (by omega), mset_get, eM_18, mset_ne (by omega), mset_ne (by omega)]
                    by_cases hj2 : j = ix (M_12 0 33)
                    · rw [if_pos ⟨rfl, hj2⟩]
                      omega
                    · rw [if_neg (fun z => hj2 z.2)]
                      exact h12⟩
                  exact j242 M_22 (fun a i q0 => ((congrFun (congrFun eM_22 a) i).trans ((mset_ne (fun h9 => q0 (Or.inl h9))).trans ((congrFun (congrFun eM_21 a) i).trans ((mset_ne (fun h9 => q0 (Or.inr ((h9).1)))).trans ((congrFun (congrFun eM_18 a) i).trans ((mset_ne (fun h9 => q0 (Or.inl h9))).trans rfl))))))) hl22 (by have f0 := t_inc (M_21 0 7) 1 (by omega); have f1 := congrArg Int32.toInt ((congrFun (congrFun eM_22 0) 7).trans mset_eq); omega) (Or.inl ⟨by rw [← e12, ← hq_181]; exact c186, hk_200b, by rw [eM_22, mset_eq]; (have z := (i_up (x := M_21 0 7) (by omega)).2); omega, by rw [eM_22, mset_ne (by omega), eM_21, n18, mset_eq]; exact hz20⟩) (by rw [eM_22, mset_ne (by omega), eM_21, mset_ne (by omega), eM_18, mset_ne (by omega)]; exact u12)
              · exact j242 M_12 (fun _ _ _ => rfl) hl12 hp12 (Or.inr ⟨by rw [← e12, ← hq_181]; exact c186, e12, s12⟩) u12
            refine wp_ite (fun c107 => ?_) (fun c107 => ?_)
            · exact j160 (by omega)
            · have fy := t_ixn y2_102 (by omega)
              have hi := i_up (x := y2_102) (by omega)
              have e19 : M_10 19 (ix y2_102) = M 19 (ix y2_102) := go19 _ (by omega)
              have e20 : M_10 20 (ix y2_102) = M 20 (ix y2_102) := go20 _ (by omega)
              refine wp_gd (by have f0 := congrArg Int32.toInt ((congrFun (congrFun eM_10 0) 33).trans (mset_ne (by omega))); have f1 := congrArg Int32.toInt (hg_M_9 0 33 (by omega)); have f2 := congrArg Int32.toInt (hg_M_7 0 33 (by omega)); have f3 := congrArg Int32.toInt ((congrFun (congrFun eM_5 0) 33).trans (mset_ne (by omega))); have f4 := congrArg Int32.toInt (hg_M_4 0 33 (by omega)); omega) ?_
              refine wp_gd (by have f0 := congrArg Int32.toInt ((congrFun (congrFun eM_10 0) 33).trans (mset_ne (by omega))); have f1 := congrArg Int32.toInt (hg_M_9 0 33 (by omega)); have f2 := congrArg Int32.toInt (hg_M_7 0 33 (by omega)); have f3 := congrArg Int32.toInt ((congrFun (congrFun eM_5 0) 33).trans (mset_ne (by omega))); have f4 := congrArg Int32.toInt (hg_M_4 0 33 (by omega)); omega) ?_
              refine wp_ite (fun c125 => ?_) (fun c125 => ?_)
              · refine wp_gd (by have f0 := congrArg Int32.toInt ((congrFun (congrFun eM_10 0) 33).trans (mset_ne (by omega))); have f1 := congrArg Int32.toInt (hg_M_9 0 33 (by omega)); have f2 := congrArg Int32.toInt (hg_M_7 0 33 (by omega)); have f3 := congrArg Int32.toInt ((congrFun (congrFun eM_5 0) 33).trans (mset_ne (by omega))); have f4 := congrArg Int32.toInt (hg_M_4 0 33 (by omega)); have f5 := congrArg Int32.toInt ((congrFun (congrFun eM_10 19) (ix y2_102)).trans (mset_ne (by omega))); have f6 := congrArg Int32.toInt (hg_M_9 19 (ix y2_102) (by omega)); have f7 := congrArg Int32.toInt (hg_M_7 19 (ix y2_102) (by omega)); have f8 := congrArg Int32.toInt ((congrFun (congrFun eM_10 19) (ix (M_10 0 33))).trans (mset_ne (by omega))); have f9 := congrArg Int32.toInt (hg_M_9 19 (ix (M_10 0 33)) (by omega)); have f10 := congrArg Int32.toInt (hg_M_7 19 (ix (M_10 0 33)) (by omega)); omega) ?_
                refine wp_gd (by have f0 := congrArg Int32.toInt ((congrFun (congrFun eM_10 0) 33).trans (mset_ne (by omega))); have f1 := congrArg Int32.toInt (hg_M_9 0 33 (by omega)); have f2 := congrArg Int32.toInt (hg_M_7 0 33 (by omega)); have f3 := congrArg Int32.toInt ((congrFun (congrFun eM_5 0) 33).trans (mset_ne (by omega))); have f4 := congrArg Int32.toInt (hg_M_4 0 33 (by omega)); have f5 := congrArg Int32.toInt ((congrFun (congrFun eM_10 19) (ix y2_102)).trans (mset_ne (by omega))); have f6 := congrArg Int32.toInt (hg_M_9 19 (ix y2_102) (by omega)); have f7 := congrArg Int32.toInt (hg_M_7 19 (ix y2_102) (by omega)); have f8 := congrArg Int32.toInt ((congrFun (congrFun eM_10 19) (ix (M_10 0 33))).trans (mset_ne (by omega))); have f9 := congrArg Int32.toInt (hg_M_9 19 (ix (M_10 0 33)) (by omega)); have f10 := congrArg Int32.toInt (hg_M_7 19 (ix (M_10 0 33)) (by omega)); omega) ?_
                have j146 : ((M_10 20 (ix y2_102)).toInt = (M_10 20 (ix (M_10 0 33))).toInt) → Wp (f_X10_readsLine_L146 x_1 M_10) (fun q => (q.1 = 0 ∨ q.1 = 1) ∧ (∀ a i, ¬ ((a = 0 ∧ i = 7) ∨ (a = 0 ∧ i = 9) ∨ (a = 0 ∧ i = 10) ∨ (a = 0 ∧ i = 33) ∨ a = 19 ∨ a = 20 ∨ a = 21 ∨ a = 22) → q.2 a i = M a i) ∧ ((M 0 7).toInt ≤ (q.2 0 7).toInt ∧ (q.2 0 7).toInt ≤ (M 0 8).toInt ∧ (¬ q.1.toInt = 0 → (M 0 7).toInt < (q.2 0 7).toInt)) ∧ (¬ q.1.toInt = 0 → (q.2 0 33).toInt = (M 0 33).toInt + 1 ∧ (M 0 33).toInt < 40 ∧ (∀ j : Nat, (j : Int) < (q.2 0 33).toInt → 1 ≤ (q.2 20 j).toInt ∧ (q.2 20 j).toInt ≤ 20 ∧ 0 ≤ (q.2 21 j).toInt ∧ (q.2 21 j).toInt ≤ 9)) ∧ ((M 0 33).toInt < 40 → LinP (lineS T (M 0 7).toInt (fun j => (M 19 j).toInt) (fun j => (M 20 j).toInt) (ix (M 0 33))) q.1.toInt (q.2 0 9).toInt (q.2 0 7).toInt (q.2 19 (ix (M 0 33))).toInt (q.2 20 (ix (M 0 33))).toInt (q.2 21 (ix (M 0 33))).toInt (q.2 22 (ix (M 0 33))).toInt (M 0 7).toInt (M 0 8).toInt) ∧ ((M 0 33).toInt = 40 → q.1.toInt = 0 ∧ (q.2 0 9).toInt = (if dgt (T (M 0 7).toInt) = true then -4000 - (M 0 7).toInt else -1000 - (M 0 7).toInt)) ∧ (∀ j : Nat, j < (ix (M 0 33)) → q.2 19 j = M 19 j ∧ q.2 20 j = M 20 j)) := by
                  intro h146
                  unfold f_X10_readsLine_L146
                  have q19 := c125
                  rw [e19, nx10, g19] at q19
                  have q20 := h146
                  rw [e20, nx10, g20] at q20
                  have hdupt : dupS (fun j => (M 19 j).toInt) (fun j => (M 20 j).toInt) (M_4 0 10).toInt (M_9 0 10).toInt (ix (M 0 33)) = true := dup_t (i := ix y2_102) ⟨q19, q20⟩ _ (by omega)
                  refine wp_cb2 (o5_X10_wrongAt M_10 (nI 6) x_1) (fun r_25 M_26 he150 hq150 => ?_)
                  obtain ⟨hz_r_25, hg_M_26, hw_150, hq_150⟩ := hq150
                  replace hw_150 : r_25.toInt = 0 := hw_150
                  have := t_lit 6
                  replace hq_150 : 0 ≤ (nI 6).toInt → (nI 6).toInt ≤ 9 → 0 ≤ x_1.toInt → x_1.toInt ≤ 1000 → (M_26 0 9).toInt = -1000 * (nI 6).toInt - x_1.toInt := hq_150
                  have := t_lit 6
                  replace hg_M_26 : ∀ a i, ¬ ((a = 0 ∧ i = 9)) → M_26 a i = M_10 a i := hg_M_26
                  refine wp_gb hz_r_25 ?_
                  exact wp_some ⟨hz_r_25, (fun a i q0 => ((hg_M_26 a i (fun h9 => q0 (Or.inr (Or.inl h9)))).trans ((congrFun (congrFun eM_10 a) i).trans ((mset_ne (fun h9 => q0 (Or.inr (Or.inr (Or.inr (Or.inr (Or.inr (Or.inl (h9).1)))))))).trans ((hg_M_9 a i (fun z8 => q0 ((fun z9 => Or.elim z9 (fun h9 => Or.inl h9) (fun z9 => Or.elim z9 (fun h9 => Or.inr (Or.inl h9)) (fun h9 => Or.inr (Or.inr (Or.inl h9))))) z8))).trans ((hg_M_7 a i (fun z8 => q0 ((fun z9 => Or.elim z9 (fun h9 => Or.inl h9) (fun h9 => Or.inr (Or.inl h9))) z8))).trans ((congrFun (congrFun eM_5 a) i).trans ((mset_ne (fun h9 => q0 (Or.inr (Or.inr (Or.inr (Or.inr (Or.inl (h9).1))))))).trans ((hg_M_4 a i (fun z8 => q0 ((fun z9 => Or.elim z9 (fun h9 => Or.inl h9) (fun z9 => Or.elim z9 (fun h9 => Or.inr (Or.inl h9)) (fun h9 => Or.inr (Or.inr (Or.inl h9))))) z8))).trans rfl))))))))), (by show (M 0 7).toInt ≤ (M_26 0 7).toInt ∧ (M_26 0 7).toInt ≤ (M 0 8).toInt ∧ (¬ r_25.toInt = 0 → (M 0 7).toInt < (M_26 0 7).toInt); have f0 := congrArg Int32.toInt (hg_M_26 0 7 (by omega)); have f1 := congrArg Int32.toInt ((congrFun (congrFun eM_10 0) 7).trans (mset_ne (by omega))); omega), (fun h => absurd hw_150 h), (fun _ => by show LinP (lineS T (M 0 7).toInt (fun j => (M 19 j).toInt) (fun j => (M 20 j).toInt) (ix (M 0 33))) r_25.toInt (M_26 0 9).toInt (M_26 0 7).toInt (M_26 19 (ix (M 0 33))).toInt (M_26 20 (ix (M 0 33))).toInt (M_26 21 (ix (M 0 33))).toInt (M_26 22 (ix (M 0 33))).toInt (M 0 7).toInt (M 0 8).toInt; rw [lineS_v n1, lineX_v (by omega) e44, p7, lineY_d m1 (by omega) hdupt]; exact ⟨hw_150, by rw [hq_150 (by decide) (by decide) (by omega) (by omega)]; have := t_lit 6; omega⟩), (fun z => absurd z (by omega)), (fun j hj => ⟨((hg_M_26 19 j (by omega)).trans ((congrFun (congrFun eM_10 19) j).trans ((mset_ne (by omega)).trans ((hg_M_9 19 j (by omega)).trans ((hg_M_7 19 j (by omega)).trans ((congrFun (congrFun eM_5 19) j).trans ((mset_ne (by omega)).trans ((hg_M_4 19 j (by omega)).trans rfl)))))))), ((hg_M_26 20 j (by omega)).trans ((congrFun (congrFun eM_10 20) j).trans ((mset_ne (by omega)).trans ((hg_M_9 20 j (by omega)).trans ((hg_M_7 20 j (by omega)).trans ((congrFun (congrFun eM_5 20) j).trans ((mset_ne (by omega)).trans ((hg_M_4 20 j (by omega)).trans rfl))))))))⟩)⟩
                refine wp_ite (fun c143 => ?_) (fun c143 => ?_)
                · exact j146 c143
                · exact ih102 (y2_102 + (nI 1)) ⟨(by have f0 := t_lit 1; have f1 := t_add y2_102 (nI 1); have f2 := congrArg Int32.toInt ((congrFun (congrFun eM_10 0) 33).trans (mset_ne (by omega))); have f3 := congrArg Int32.toInt (hg_M_9 0 33 (by omega)); have f4 := congrArg Int32.toInt (hg_M_7 0 33 (by omega)); have f5 := congrArg Int32.toInt ((congrFun (congrFun eM_5 0) 33).trans (mset_ne (by omega))); have f6 := congrArg Int32.toInt (hg_M_4 0 33 (by omega)); have f7 := congrArg Int32.toInt ((congrFun (congrFun eM_10 19) (ix y2_102)).trans (mset_ne (by omega))); have f8 := congrArg Int32.toInt (hg_M_9 19 (ix y2_102) (by omega)); have f9 := congrArg Int32.toInt (hg_M_7 19 (ix y2_102) (by omega)); have f10 := congrArg Int32.toInt ((congrFun (congrFun eM_10 19) (ix (M_10 0 33))).trans (mset_ne (by omega))); have f11 := congrArg Int32.toInt (hg_M_9 19 (ix (M_10 0 33)) (by omega)); have f12 := congrArg Int32.toInt (hg_M_7 19 (ix (M_10 0 33)) (by omega)); omega), (fun j hz => by rw [hi.2] at hz; by_cases e9 : j = ix y2_102; (rw [e9]; exact fun z => c143 (by rw [e20, nx10, g20]; exact z.2)); exact hd102 j (by omega))⟩ (by have f0 := congrArg Int32.toInt ((congrFun (congrFun eM_10 0) 33).trans (mset_ne (by omega))); have f1 := congrArg Int32.toInt (hg_M_9 0 33 (by omega)); have f2 := congrArg Int32.toInt (hg_M_7 0 33 (by omega)); have f3 := congrArg Int32.toInt ((congrFun (congrFun eM_5 0) 33).trans (mset_ne (by omega))); have f4 := congrArg Int32.toInt (hg_M_4 0 33 (by omega)); have f5 := t_lit 1; have f6 := t_add y2_102 (nI 1); have f7 := congrArg Int32.toInt ((congrFun (congrFun eM_10 19) (ix y2_102)).trans (mset_ne (by omega))); have f8 := congrArg Int32.toInt (hg_M_9 19 (ix y2_102) (by omega)); have f9 := congrArg Int32.toInt (hg_M_7 19 (ix y2_102) (by omega)); have f10 := congrArg Int32.toInt ((congrFun (congrFun eM_10 19) (ix (M_10 0 33))).trans (mset_ne (by omega))); have f11 := congrArg Int32.toInt (hg_M_9 19 (ix (M_10 0 33)) (by omega)); have f12 := congrArg Int32.toInt (hg_M_7 19 (ix (M_10 0 33)) (by omega)); omega)
              · exact ih102 (y2_102 + (nI 1)) ⟨(by have f0 := t_lit 1; have f1 := t_add y2_102 (nI 1); have f2 := congrArg Int32.toInt ((congrFun (congrFun eM_10 0) 33).trans (mset_ne (by omega))); have f3 := congrArg Int32.toInt (hg_M_9 0 33 (by omega)); have f4 := congrArg Int32.toInt (hg_M_7 0 33 (by omega)); have f5 := congrArg Int32.toInt ((congrFun (congrFun eM_5 0) 33).trans (mset_ne (by omega))); have f6 := congrArg Int32.toInt (hg_M_4 0 33 (by omega)); have f7 := congrArg Int32.toInt ((congrFun (congrFun eM_10 19) (ix y2_102)).trans (mset_ne (by omega))); have f8 := congrArg Int32.toInt (hg_M_9 19 (ix y2_102) (by omega)); have f9 := congrArg Int32.toInt (hg_M_7 19 (ix y2_102) (by omega)); have f10 := congrArg Int32.toInt ((congrFun (congrFun eM_10 19) (ix (M_10 0 33))).trans (mset_ne (by omega))); have f11 := congrArg Int32.toInt (hg_M_9 19 (ix (M_10 0 33)) (by omega)); have f12 := congrArg Int32.toInt (hg_M_7 19 (ix (M_10 0 33)) (by omega)); omega), (fun j hz => by rw [hi.2] at hz; by_cases e9 : j = ix y2_102; (rw [e9]; exact fun z => c125 (by rw [e19, nx10, g19]; exact z.1)); exact hd102 j (by omega))⟩ (by have f0 := congrArg Int32.toInt ((congrFun (congrFun eM_10 0) 33).trans (mset_ne (by omega))); have f1 := congrArg Int32.toInt (hg_M_9 0 33 (by omega)); have f2 := congrArg Int32.toInt (hg_M_7 0 33 (by omega)); have f3 := congrArg Int32.toInt ((congrFun (congrFun eM_5 0) 33).trans (mset_ne (by omega))); have f4 := congrArg Int32.toInt (hg_M_4 0 33 (by omega)); have f5 := t_lit 1; have f6 := t_add y2_102 (nI 1); have f7 := congrArg Int32.toInt ((congrFun (congrFun eM_10 19) (ix y2_102)).trans (mset_ne (by omega))); have f8 := congrArg Int32.toInt (hg_M_9 19 (ix y2_102) (by omega)); have f9 := congrArg Int32.toInt (hg_M_7 19 (ix y2_102) (by omega)); have f10 := congrArg Int32.toInt ((congrFun (congrFun eM_10 19) (ix (M_10 0 33))).trans (mset_ne (by omega))); have f11 := congrArg Int32.toInt (hg_M_9 19 (ix (M_10 0 33)) (by omega)); have f12 := congrArg Int32.toInt (hg_M_7 19 (ix (M_10 0 33)) (by omega)); omega)
theorem o5_X7_open (M : Mem) (v1 : Int32) : Wp (f_X7_open M v1) (fun q => (∀ a i, ¬ ((a = 19 ∧ i = 1) ∨ (a = 19 ∧ i = 2) ∨ (a = 19 ∧ i = 3) ∨ (a = 19 ∧ i = 4)) → q a i = M a i) ∧ (q 19 1 = nI 0) ∧ (q 19 2 = v1) ∧ (q 19 3 = nI 0)) := by
  refine wp_bnd (fun M_1 eM_1 => ?_)
  refine wp_bnd (fun M_2 eM_2 => ?_)
  refine wp_bnd (fun M_3 eM_3 => ?_)
  refine wp_bnd (fun M_4 eM_4 => ?_)
  exact wp_some ⟨(fun a i q0 => ((congrFun (congrFun eM_4 a) i).trans ((mset_ne (fun h9 => q0 (Or.inl h9))).trans ((congrFun (congrFun eM_3 a) i).trans ((mset_ne (fun h9 => q0 (Or.inr (Or.inr (Or.inr (h9)))))).trans ((congrFun (congrFun eM_2 a) i).trans ((mset_ne (fun h9 => q0 (Or.inr (Or.inr (Or.inl h9))))).trans ((congrFun (congrFun eM_1 a) i).trans ((mset_ne (fun h9 => q0 (Or.inr (Or.inl h9)))).trans rfl))))))))), (by rw [eM_4, mset_eq]), (by rw [eM_4, mset_ne (by omega), eM_3, mset_ne (by omega), eM_2, mset_ne (by omega), eM_1, mset_eq]), (by rw [eM_4, mset_ne (by omega), eM_3, mset_ne (by omega), eM_2, mset_eq])⟩
set_option maxHeartbeats 4000000 in
theorem o5_X9_notebook (M : Mem) (v1 : Int32) : Wp (f_X9_notebook M v1) (fun q => (∀ a i, ¬ (a = 2 ∨ a = 3 ∨ a = 4 ∨ a = 5 ∨ a = 6 ∨ a = 14 ∨ a = 15 ∨ a = 16 ∨ a = 17 ∨ a = 18 ∨ (a = 19 ∧ i = 1) ∨ (a = 19 ∧ i = 2) ∨ (a = 19 ∧ i = 3) ∨ (a = 19 ∧ i = 4)) → q.2 a i = M a i) ∧ ((q.2 19 1).toInt = (if 1 ≤ v1.toInt ∧ v1.toInt ≤ 200 ∧ v1.toInt ≤ (M 19 1).toInt then 0 else (M 19 1).toInt)) ∧ (q.1.toInt = (if 1 ≤ v1.toInt ∧ v1.toInt ≤ 200 ∧ v1.toInt ≤ (M 19 1).toInt then bookA (txt (fun j => (M 20 j).toInt) v1.toInt) 41 0 0 (fun _ => 0) (fun _ => 0) else -1))) := by
  obtain ⟨T, eT⟩ : ∃ T : Int → Int, txt (fun j => (M 20 j).toInt) v1.toInt = T := ⟨_, rfl⟩
  refine wp_bind2 (o3_X7_holds M v1 (nI 1) (nI 200)) (fun r_1 he9 hq9 => ?_)
  obtain ⟨hz_r_1, hr_9⟩ := hq9
  replace hr_9 : ¬ r_1.toInt = 0 ↔ (nI 1).toInt ≤ v1.toInt ∧ v1.toInt ≤ (nI 200).toInt ∧ v1.toInt ≤ (M 19 1).toInt := hr_9
  have := t_lit 1
  have := t_lit 200
  refine wp_ite (fun c12 => ?_) (fun c12 => ?_)
  · exact wp_some ⟨(fun _ _ _ => rfl), (by show (M 19 1).toInt = _; rw [if_neg (by omega)]), (by show (-1 : Int32).toInt = _; rw [if_neg (by omega)]; decide)⟩
  · refine wp_bind2 (o5_X7_open M v1) (fun M_2 he22 hq22 => ?_)
    obtain ⟨hg_M_2, hS_22, hE_22, hPl_22⟩ := hq22
    replace hS_22 : M_2 19 1 = nI 0 := hS_22
    replace hE_22 : M_2 19 2 = v1 := hE_22
    replace hPl_22 : M_2 19 3 = nI 0 := hPl_22
    replace hg_M_2 : ∀ a i, ¬ ((a = 19 ∧ i = 1) ∨ (a = 19 ∧ i = 2) ∨ (a = 19 ∧ i = 3) ∨ (a = 19 ∧ i = 4)) → M_2 a i = M a i := hg_M_2
    have hT2 : TXc M_2 = T := by
      rw [← eT]
      unfold TXc
      rw [hE_22, show M_2 20 = M 20 from funext (fun j => hg_M_2 20 j (by omega))]
    refine wp_cb2 (o5_X9_readNotebook (Or.inr (Or.inr rfl)) M_2 T hT2 (by rw [hPl_22, hE_22]; have := t_lit 0; omega)) (fun r_3 M_4 he33 hq33 => ?_)
    obtain ⟨hg_M_4, hb_33⟩ := hq33
    replace hb_33 : r_3.toInt = bookA T 41 (M_2 19 3).toInt 0 (fun _ => 0) (fun _ => 0) := hb_33
    replace hg_M_4 : ∀ a i, ¬ (a = 14 ∨ a = 15 ∨ a = 16 ∨ a = 17 ∨ a = 18 ∨ (a = 19 ∧ i = 3) ∨ (a = 19 ∧ i = 4)) → M_4 a i = M_2 a i := by exact fun a i q0 => hg_M_4 a i (by omega)
    refine wp_ite (fun c38 => ?_) (fun c38 => ?_)
    · exact wp_some ⟨(fun a i q0 => ((hg_M_4 a i (fun z8 => q0 ((fun z9 => Or.elim z9 (fun h9 => Or.inr (Or.inr (Or.inr (Or.inr (Or.inr (Or.inl h9)))))) (fun z9 => Or.elim z9 (fun h9 => Or.inr (Or.inr (Or.inr (Or.inr (Or.inr (Or.inr (Or.inl h9))))))) (fun z9 => Or.elim z9 (fun h9 => Or.inr (Or.inr (Or.inr (Or.inr (Or.inr (Or.inr (Or.inr (Or.inl h9)))))))) (fun z9 => Or.elim z9 (fun h9 => Or.inr (Or.inr (Or.inr (Or.inr (Or.inr (Or.inr (Or.inr (Or.inr (Or.inl h9))))))))) (fun z9 => Or.elim z9 (fun h9 => Or.inr (Or.inr (Or.inr (Or.inr (Or.inr (Or.inr (Or.inr (Or.inr (Or.inr (Or.inl h9)))))))))) (fun z9 => Or.elim z9 (fun h9 => Or.inr (Or.inr (Or.inr (Or.inr (Or.inr (Or.inr (Or.inr (Or.inr (Or.inr (Or.inr (Or.inr (Or.inr (Or.inl h9))))))))))))) (fun h9 => Or.inr (Or.inr (Or.inr (Or.inr (Or.inr (Or.inr (Or.inr (Or.inr (Or.inr (Or.inr (Or.inr (Or.inr (Or.inr (h9)))))))))))))))))))) z8))).trans ((hg_M_2 a i (fun z8 => q0 ((fun z9 => Or.elim z9 (fun h9 => Or.inr (Or.inr (Or.inr (Or.inr (Or.inr (Or.inr (Or.inr (Or.inr (Or.inr (Or.inr (Or.inl h9))))))))))) (fun z9 => Or.elim z9 (fun h9 => Or.inr (Or.inr (Or.inr (Or.inr (Or.inr (Or.inr (Or.inr (Or.inr (Or.inr (Or.inr (Or.inr (Or.inl h9)))))))))))) (fun z9 => Or.elim z9 (fun h9 => Or.inr (Or.inr (Or.inr (Or.inr (Or.inr (Or.inr (Or.inr (Or.inr (Or.inr (Or.inr (Or.inr (Or.inr (Or.inl h9))))))))))))) (fun h9 => Or.inr (Or.inr (Or.inr (Or.inr (Or.inr (Or.inr (Or.inr (Or.inr (Or.inr (Or.inr (Or.inr (Or.inr (Or.inr (h9))))))))))))))))) z8))).trans rfl))), (by show (M_4 19 1).toInt = _; rw [if_pos (by omega), show M_4 19 1 = M_2 19 1 from ((hg_M_4 19 1 (by omega)).trans rfl), hS_22]; exact nI0), (by show r_3.toInt = _; rw [if_pos (by omega), eT, hb_33, hPl_22, show (nI 0).toInt = 0 from nI0])⟩
    · refine wp_bind2 (o_X2_copyStones (Or.inl rfl) (Or.inr (Or.inr rfl)) M_4) (fun M_5 he49 hq49 => ?_)
      have hg_M_5 := hq49
      replace hg_M_5 : ∀ a i, ¬ (a = 2 ∨ a = 3 ∨ a = 4 ∨ a = 5 ∨ a = 6) → M_5 a i = M_4 a i := by exact fun a i q0 => hg_M_5 a i (by omega)
      exact wp_some ⟨(fun a i q0 => ((hg_M_5 a i (fun z8 => q0 ((fun z9 => Or.elim z9 (fun h9 => Or.inl h9) (fun z9 => Or.elim z9 (fun h9 => Or.inr (Or.inl h9)) (fun z9 => Or.elim z9 (fun h9 => Or.inr (Or.inr (Or.inl h9))) (fun z9 => Or.elim z9 (fun h9 => Or.inr (Or.inr (Or.inr (Or.inl h9)))) (fun h9 => Or.inr (Or.inr (Or.inr (Or.inr (Or.inl h9))))))))) z8))).trans ((hg_M_4 a i (fun z8 => q0 ((fun z9 => Or.elim z9 (fun h9 => Or.inr (Or.inr (Or.inr (Or.inr (Or.inr (Or.inl h9)))))) (fun z9 => Or.elim z9 (fun h9 => Or.inr (Or.inr (Or.inr (Or.inr (Or.inr (Or.inr (Or.inl h9))))))) (fun z9 => Or.elim z9 (fun h9 => Or.inr (Or.inr (Or.inr (Or.inr (Or.inr (Or.inr (Or.inr (Or.inl h9)))))))) (fun z9 => Or.elim z9 (fun h9 => Or.inr (Or.inr (Or.inr (Or.inr (Or.inr (Or.inr (Or.inr (Or.inr (Or.inl h9))))))))) (fun z9 => Or.elim z9 (fun h9 => Or.inr (Or.inr (Or.inr (Or.inr (Or.inr (Or.inr (Or.inr (Or.inr (Or.inr (Or.inl h9)))))))))) (fun z9 => Or.elim z9 (fun h9 => Or.inr (Or.inr (Or.inr (Or.inr (Or.inr (Or.inr (Or.inr (Or.inr (Or.inr (Or.inr (Or.inr (Or.inr (Or.inl h9))))))))))))) (fun h9 => Or.inr (Or.inr (Or.inr (Or.inr (Or.inr (Or.inr (Or.inr (Or.inr (Or.inr (Or.inr (Or.inr (Or.inr (Or.inr (h9)))))))))))))))))))) z8))).trans ((hg_M_2 a i (fun z8 => q0 ((fun z9 => Or.elim z9 (fun h9 => Or.inr (Or.inr (Or.inr (Or.inr (Or.inr (Or.inr (Or.inr (Or.inr (Or.inr (Or.inr (Or.inl h9))))))))))) (fun z9 => Or.elim z9 (fun h9 => Or.inr (Or.inr (Or.inr (Or.inr (Or.inr (Or.inr (Or.inr (Or.inr (Or.inr (Or.inr (Or.inr (Or.inl h9)))))))))))) (fun z9 => Or.elim z9 (fun h9 => Or.inr (Or.inr (Or.inr (Or.inr (Or.inr (Or.inr (Or.inr (Or.inr (Or.inr (Or.inr (Or.inr (Or.inr (Or.inl h9))))))))))))) (fun h9 => Or.inr (Or.inr (Or.inr (Or.inr (Or.inr (Or.inr (Or.inr (Or.inr (Or.inr (Or.inr (Or.inr (Or.inr (Or.inr (h9))))))))))))))))) z8))).trans rfl)))), (by show (M_5 19 1).toInt = _; rw [if_pos (by omega), show M_5 19 1 = M_2 19 1 from ((hg_M_5 19 1 (by omega)).trans ((hg_M_4 19 1 (by omega)).trans rfl)), hS_22]; exact nI0), (by show r_3.toInt = _; rw [if_pos (by omega), eT, hb_33, hPl_22, show (nI 0).toInt = 0 from nI0])⟩
set_option maxHeartbeats 8000000 in
theorem o5_X10_notebook (M : Mem) (v1 : Int32) (ht : 0 ≤ (M 0 6).toInt ∧ (M 0 6).toInt ≤ 260) (hst : ST (M 1)) : Wp (f_X10_notebook M v1) (fun q => (∀ a i, ¬ ((a = 0 ∧ i = 6) ∨ (a = 0 ∧ i = 7) ∨ (a = 0 ∧ i = 8) ∨ (a = 0 ∧ i = 9) ∨ (a = 0 ∧ i = 10) ∨ (a = 0 ∧ i = 12) ∨ (a = 0 ∧ i = 14) ∨ (a = 0 ∧ i = 33) ∨ a = 1 ∨ a = 19 ∨ a = 20 ∨ a = 21 ∨ a = 22) → q.2 a i = M a i) ∧ (0 ≤ (q.2 0 6).toInt ∧ (q.2 0 6).toInt ≤ 260) ∧ (ST (q.2 1)) ∧ ((q.2 0 6).toInt = (if 1 ≤ v1.toInt ∧ v1.toInt ≤ 200 ∧ v1.toInt ≤ (M 0 6).toInt then 0 else (M 0 6).toInt)) ∧ (q.1.toInt = (if 1 ≤ v1.toInt ∧ v1.toInt ≤ 200 ∧ v1.toInt ≤ (M 0 6).toInt then bookA (txt (fun j => ((M 5 j) &&& (nI 255)).toInt) v1.toInt) 41 0 0 (fun _ => 0) (fun _ => 0) else -1))) := by
  obtain ⟨T, eT⟩ : ∃ T : Int → Int, txt (fun j => ((M 5 j) &&& (nI 255)).toInt) v1.toInt = T := ⟨_, rfl⟩
  refine wp_bind2 (o2_X10_in M v1 (nI 1) (nI 200)) (fun r_1 he5 hq5 => ?_)
  obtain ⟨hz_r_1, hr_5, hi_5⟩ := hq5
  replace hr_5 : ¬ r_1.toInt = 0 → (nI 1).toInt ≤ v1.toInt ∧ v1.toInt ≤ (nI 200).toInt := hr_5
  have := t_lit 1
  have := t_lit 200
  replace hi_5 : ¬ r_1.toInt = 0 ↔ (nI 1).toInt ≤ v1.toInt ∧ v1.toInt ≤ (nI 200).toInt := hi_5
  have := t_lit 1
  have := t_lit 200
  have fl1 := t_lit 1
  have fl200 := t_lit 200
  refine wp_ite (fun c8 => ?_) (fun c8 => ?_)
  · exact wp_some ⟨(fun _ _ _ => rfl), (by show 0 ≤ (M 0 6).toInt ∧ (M 0 6).toInt ≤ 260; have f0 := (by decide : ((-1 : Int32)).toInt = -1); omega), (by have e9 : M 1 = M 1 := funext (fun i => rfl); show ST (M 1); rw [e9]; exact hst), (by show (M 0 6).toInt = _; rw [if_neg (by omega)]), (by show (-1 : Int32).toInt = _; rw [if_neg (by omega)]; decide)⟩
  · refine wp_ite (fun c16 => ?_) (fun c16 => ?_)
    · refine wp_bind2 (o_X10_beginsText M v1) (fun M_2 he23 hq23 => ?_)
      obtain ⟨hg_M_2, hb_23⟩ := hq23
      replace hb_23 : (M_2 0 7).toInt = 0 ∧ (M_2 0 8).toInt = v1.toInt := hb_23
      replace hg_M_2 : ∀ a i, ¬ ((a = 0 ∧ i = 7) ∨ (a = 0 ∧ i = 8) ∨ (a = 0 ∧ i = 12) ∨ (a = 0 ∧ i = 14)) → M_2 a i = M a i := hg_M_2
      refine wp_bnd (fun M_3 eM_3 => ?_)
      have a7 : (M_3 0 7).toInt = 0 := by rw [eM_3, mset_ne (by omega)]; exact hb_23.1
      have a8 : (M_3 0 8).toInt = v1.toInt := by rw [eM_3, mset_ne (by omega)]; exact hb_23.2
      have a33 : (M_3 0 33).toInt = 0 := by rw [eM_3, mset_eq]; exact nI0
      have hT3 : TXr M_3 = T := by
        rw [← eT]
        unfold TXr
        rw [a8, show M_3 5 = M 5 from funext (fun j => by rw [eM_3, mset_ne (by omega), hg_M_2 5 j (by omega)])]
      refine wp_cb2 (o5_X10_readsLine M_3 T hT3 (by omega) (by omega) (fun j hj => absurd hj (by omega))) (fun r_4 M_5 he32 hq32 => ?_)
      obtain ⟨hz_r_4, hg_M_5, hp_32, hk_32, hL_32, h40_32, hX_32⟩ := hq32
      replace hp_32 : (M_3 0 7).toInt ≤ (M_5 0 7).toInt ∧ (M_5 0 7).toInt ≤ (M_3 0 8).toInt ∧ (¬ r_4.toInt = 0 → (M_3 0 7).toInt < (M_5 0 7).toInt) := hp_32
      replace hk_32 : ¬ r_4.toInt = 0 → (M_5 0 33).toInt = (M_3 0 33).toInt + 1 ∧ (M_3 0 33).toInt < 40 ∧ (∀ j : Nat, (j : Int) < (M_5 0 33).toInt → 1 ≤ (M_5 20 j).toInt ∧ (M_5 20 j).toInt ≤ 20 ∧ 0 ≤ (M_5 21 j).toInt ∧ (M_5 21 j).toInt ≤ 9) := hk_32
      replace hL_32 : (M_3 0 33).toInt < 40 → LinP (lineS T (M_3 0 7).toInt (fun j => (M_3 19 j).toInt) (fun j => (M_3 20 j).toInt) (ix (M_3 0 33))) r_4.toInt (M_5 0 9).toInt (M_5 0 7).toInt (M_5 19 (ix (M_3 0 33))).toInt (M_5 20 (ix (M_3 0 33))).toInt (M_5 21 (ix (M_3 0 33))).toInt (M_5 22 (ix (M_3 0 33))).toInt (M_3 0 7).toInt (M_3 0 8).toInt := hL_32
      replace h40_32 : (M_3 0 33).toInt = 40 → r_4.toInt = 0 ∧ (M_5 0 9).toInt = (if dgt (T (M_3 0 7).toInt) = true then -4000 - (M_3 0 7).toInt else -1000 - (M_3 0 7).toInt) := h40_32
      replace hX_32 : ∀ j : Nat, j < (ix (M_3 0 33)) → M_5 19 j = M_3 19 j ∧ M_5 20 j = M_3 20 j := hX_32
      replace hg_M_5 : ∀ a i, ¬ ((a = 0 ∧ i = 7) ∨ (a = 0 ∧ i = 9) ∨ (a = 0 ∧ i = 10) ∨ (a = 0 ∧ i = 33) ∨ a = 19 ∨ a = 20 ∨ a = 21 ∨ a = 22) → M_5 a i = M_3 a i := hg_M_5
      have b8 := congrArg Int32.toInt (hg_M_5 0 8 (by omega))
      have n3 : ix (M_3 0 33) = 0 := by
        have := t_ixn (M_3 0 33) (by omega)
        omega
      have l32 := hL_32 (by omega)
      rw [n3, a7] at l32
      have b32 := bk_step (X' := (fun j => (M_5 19 j).toInt)) (Y' := (fun j => (M_5 20 j).toInt)) (show 0 < 40 by decide) l32 rfl rfl (fun i hi => absurd hi (Nat.not_lt_zero _))
      have e0 : bookA T 41 0 0 (fun _ => 0) (fun _ => 0) = bookA T 41 0 0 (fun j => (M_3 19 j).toInt) (fun j => (M_3 20 j).toInt) := bookA_ext (fun i hi => absurd hi (Nat.not_lt_zero _))
      refine wp_lp2 (fun M36 y2_36 => (∀ a i, ¬ ((a = 0 ∧ i = 7) ∨ (a = 0 ∧ i = 9) ∨ (a = 0 ∧ i = 10) ∨ (a = 0 ∧ i = 33) ∨ a = 19 ∨ a = 20 ∨ a = 21 ∨ a = 22) → M36 a i = M_5 a i) ∧ ((0 ≤ (M36 0 7).toInt ∧ (M36 0 7).toInt ≤ (M36 0 8).toInt) ∧ (M36 0 8).toInt = v1.toInt ∧ (¬ y2_36.toInt = 0 → (0 ≤ (M36 0 33).toInt ∧ (M36 0 33).toInt ≤ 40) ∧ (∀ j : Nat, (j : Int) < (M36 0 33).toInt → 1 ≤ (M36 20 j).toInt ∧ (M36 20 j).toInt ≤ 20 ∧ 0 ≤ (M36 21 j).toInt ∧ (M36 21 j).toInt ≤ 9))) ∧ ((y2_36.toInt = 0 → bookA T 41 0 0 (fun _ => 0) (fun _ => 0) = (M36 0 9).toInt) ∧ (¬ y2_36.toInt = 0 → bookA T 41 0 0 (fun _ => 0) (fun _ => 0) = bookR T (ix (M36 0 33)) (M36 0 7).toInt (fun j => (M36 19 j).toInt) (fun j => (M36 20 j).toInt)))) (fun M36 y2_36 => (if y2_36.toInt = 0 then 0 else 1 + ((M36 0 8).toInt - (M36 0 7).toInt).toNat)) (fun ag36 M36 y2_36 hI36 ih36 => ?_) FU M_5 r_4 ⟨(fun _ _ _ => rfl), ⟨by omega, by omega, fun h => ⟨by have := (hk_32 h).1; omega, (hk_32 h).2.2⟩⟩, ⟨fun z => e0.trans (b32.1 z), fun z => by rw [show ix (M_5 0 33) = 0 + 1 from (by have z1 := (hk_32 z).1; have z2 := t_ixn (M_5 0 33) (by omega); omega)]; exact e0.trans (b32.2 z)⟩⟩ (fu_lt (mu_f2 (by omega)))
      obtain ⟨hf_M36, h36, hb36⟩ := hI36
      have h36a := h36.1
      have h36b := h36.2.1
      have hT36 : TXr M36 = T := (txr_fr (by rw [hf_M36 0 8 (by omega), hg_M_5 0 8 (by omega)]) (fun j => by rw [hf_M36 5 j (by omega), hg_M_5 5 j (by omega)])).trans hT3
      have j76 : (¬ y2_36.toInt = 0 → (M36 0 8).toInt ≤ (M36 0 7).toInt) → Wp (f_X10_notebook_L76 M36 y2_36) (fun q => (∀ a i, ¬ ((a = 0 ∧ i = 6) ∨ (a = 0 ∧ i = 7) ∨ (a = 0 ∧ i = 8) ∨ (a = 0 ∧ i = 9) ∨ (a = 0 ∧ i = 10) ∨ (a = 0 ∧ i = 12) ∨ (a = 0 ∧ i = 14) ∨ (a = 0 ∧ i = 33) ∨ a = 1 ∨ a = 19 ∨ a = 20 ∨ a = 21 ∨ a = 22) → q.2 a i = M a i) ∧ (0 ≤ (q.2 0 6).toInt ∧ (q.2 0 6).toInt ≤ 260) ∧ (ST (q.2 1)) ∧ ((q.2 0 6).toInt = (if 1 ≤ v1.toInt ∧ v1.toInt ≤ 200 ∧ v1.toInt ≤ (M 0 6).toInt then 0 else (M 0 6).toInt)) ∧ (q.1.toInt = (if 1 ≤ v1.toInt ∧ v1.toInt ≤ 200 ∧ v1.toInt ≤ (M 0 6).toInt then bookA (txt (fun j => ((M 5 j) &&& (nI 255)).toInt) v1.toInt) 41 0 0 (fun _ => 0) (fun _ => 0) else -1))) := by
        intro h76
        unfold f_X10_notebook_L76
        refine wp_bnd (fun M_6 eM_6 => ?_)
        have e33 := congrArg Int32.toInt ((congrFun (congrFun eM_6 0) 33).trans (mset_ne (by omega)))
        refine wp_ite (fun c82 => ?_) (fun c82 => ?_)
        · exact wp_some ⟨(fun a i q0 => ((congrFun (congrFun eM_6 a) i).trans ((mset_ne (fun h9 => q0 (Or.inl h9))).trans ((hf_M36 a i (fun z8 => q0 ((fun z9 => Or.elim z9 (fun h9 => Or.inr (Or.inl h9)) (fun z9 => Or.elim z9 (fun h9 => Or.inr (Or.inr (Or.inr (Or.inl h9)))) (fun z9 => Or.elim z9 (fun h9 => Or.inr (Or.inr (Or.inr (Or.inr (Or.inl h9))))) (fun z9 => Or.elim z9 (fun h9 => Or.inr (Or.inr (Or.inr (Or.inr (Or.inr (Or.inr (Or.inr (Or.inl h9)))))))) (fun z9 => Or.elim z9 (fun h9 => Or.inr (Or.inr (Or.inr (Or.inr (Or.inr (Or.inr (Or.inr (Or.inr (Or.inr (Or.inl h9)))))))))) (fun z9 => Or.elim z9 (fun h9 => Or.inr (Or.inr (Or.inr (Or.inr (Or.inr (Or.inr (Or.inr (Or.inr (Or.inr (Or.inr (Or.inl h9))))))))))) (fun z9 => Or.elim z9 (fun h9 => Or.inr (Or.inr (Or.inr (Or.inr (Or.inr (Or.inr (Or.inr (Or.inr (Or.inr (Or.inr (Or.inr (Or.inl h9)))))))))))) (fun h9 => Or.inr (Or.inr (Or.inr (Or.inr (Or.inr (Or.inr (Or.inr (Or.inr (Or.inr (Or.inr (Or.inr (Or.inr (h9)))))))))))))))))))) z8))).trans ((hg_M_5 a i (fun z8 => q0 ((fun z9 => Or.elim z9 (fun h9 => Or.inr (Or.inl h9)) (fun z9 => Or.elim z9 (fun h9 => Or.inr (Or.inr (Or.inr (Or.inl h9)))) (fun z9 => Or.elim z9 (fun h9 => Or.inr (Or.inr (Or.inr (Or.inr (Or.inl h9))))) (fun z9 => Or.elim z9 (fun h9 => Or.inr (Or.inr (Or.inr (Or.inr (Or.inr (Or.inr (Or.inr (Or.inl h9)))))))) (fun z9 => Or.elim z9 (fun h9 => Or.inr (Or.inr (Or.inr (Or.inr (Or.inr (Or.inr (Or.inr (Or.inr (Or.inr (Or.inl h9)))))))))) (fun z9 => Or.elim z9 (fun h9 => Or.inr (Or.inr (Or.inr (Or.inr (Or.inr (Or.inr (Or.inr (Or.inr (Or.inr (Or.inr (Or.inl h9))))))))))) (fun z9 => Or.elim z9 (fun h9 => Or.inr (Or.inr (Or.inr (Or.inr (Or.inr (Or.inr (Or.inr (Or.inr (Or.inr (Or.inr (Or.inr (Or.inl h9)))))))))))) (fun h9 => Or.inr (Or.inr (Or.inr (Or.inr (Or.inr (Or.inr (Or.inr (Or.inr (Or.inr (Or.inr (Or.inr (Or.inr (h9)))))))))))))))))))) z8))).trans ((congrFun (congrFun eM_3 a) i).trans ((mset_ne (fun h9 => q0 (Or.inr (Or.inr (Or.inr (Or.inr (Or.inr (Or.inr (Or.inr (Or.inl h9)))))))))).trans ((hg_M_2 a i (fun z8 => q0 ((fun z9 => Or.elim z9 (fun h9 => Or.inr (Or.inl h9)) (fun z9 => Or.elim z9 (fun h9 => Or.inr (Or.inr (Or.inl h9))) (fun z9 => Or.elim z9 (fun h9 => Or.inr (Or.inr (Or.inr (Or.inr (Or.inr (Or.inl h9)))))) (fun h9 => Or.inr (Or.inr (Or.inr (Or.inr (Or.inr (Or.inr (Or.inl h9)))))))))) z8))).trans rfl)))))))), (by show 0 ≤ (M_6 0 6).toInt ∧ (M_6 0 6).toInt ≤ 260; have f0 := congrArg Int32.toInt ((congrFun (congrFun eM_6 0) 6).trans mset_eq); have f1 := t_lit 0; have f2 := congrArg Int32.toInt ((congrFun (congrFun eM_6 0) 9).trans (mset_ne (by omega))); omega), (by have e9 : M_6 1 = M 1 := funext (fun i => ((congrFun (congrFun eM_6 1) i).trans ((mset_ne (by omega)).trans ((hf_M36 1 i (by omega)).trans ((hg_M_5 1 i (by omega)).trans ((congrFun (congrFun eM_3 1) i).trans ((mset_ne (by omega)).trans ((hg_M_2 1 i (by omega)).trans rfl)))))))); show ST (M_6 1); rw [e9]; exact hst), (by show (M_6 0 6).toInt = _; rw [if_pos (by omega), show M_6 0 6 = M_6 0 6 from rfl, eM_6, mset_eq]; exact nI0), (by show (M_6 0 9).toInt = _; rw [if_pos (by omega), eT, hb36.1 c82, eM_6, mset_ne (by omega)])⟩
        · have hok := h36.2.2 c82
          have hok1 := hok.1
          have hfin : bookA T 41 0 0 (fun _ => 0) (fun _ => 0) = (M36 0 33).toInt := by
            rw [hb36.2 c82, bookR_e (by rw [← hT36]; exact txt_out (by have := h76 c82; omega))]
            exact t_ixn (M36 0 33) (by omega)
          refine wp_lp2 (fun M92 y3_92 => (0 ≤ y3_92.toInt) ∧ (∀ a i, ¬ (a = 1) → M92 a i = M_6 a i) ∧ (∀ j : Nat, (j : Int) < y3_92.toInt → (M92 1 j).toInt = 0)) (fun M92 y3_92 => (40 - y3_92.toInt).toNat) (fun ag92 M92 y3_92 hI92 ih92 => ?_) FU M_6 (nI 0) ⟨(by have f0 := t_lit 0; omega), (fun _ _ _ => rfl), (fun j hj => absurd hj (by have := t_lit 0; omega))⟩ (fu_lt (by have f0 := t_lit 0; omega))
          obtain ⟨hi92, hf_M92, h92⟩ := hI92
          have i33 := congrArg Int32.toInt (hf_M92 0 33 (by omega))
          have j113 : (40 ≤ y3_92.toInt) → Wp (f_X10_notebook_L113 M92) (fun q => (∀ a i, ¬ ((a = 0 ∧ i = 6) ∨ (a = 0 ∧ i = 7) ∨ (a = 0 ∧ i = 8) ∨ (a = 0 ∧ i = 9) ∨ (a = 0 ∧ i = 10) ∨ (a = 0 ∧ i = 12) ∨ (a = 0 ∧ i = 14) ∨ (a = 0 ∧ i = 33) ∨ a = 1 ∨ a = 19 ∨ a = 20 ∨ a = 21 ∨ a = 22) → q.2 a i = M a i) ∧ (0 ≤ (q.2 0 6).toInt ∧ (q.2 0 6).toInt ≤ 260) ∧ (ST (q.2 1)) ∧ ((q.2 0 6).toInt = (if 1 ≤ v1.toInt ∧ v1.toInt ≤ 200 ∧ v1.toInt ≤ (M 0 6).toInt then 0 else (M 0 6).toInt)) ∧ (q.1.toInt = (if 1 ≤ v1.toInt ∧ v1.toInt ≤ 200 ∧ v1.toInt ≤ (M 0 6).toInt then bookA (txt (fun j => ((M 5 j) &&& (nI 255)).toInt) v1.toInt) 41 0 0 (fun _ => 0) (fun _ => 0) else -1))) := by
            intro h113
            unfold f_X10_notebook_L113
            refine wp_lp2 (fun M115 y3_115 => (∀ a i, ¬ (a = 1) → M115 a i = M92 a i) ∧ (0 ≤ y3_115.toInt) ∧ (ST (M115 1) ∧ ∀ j : Nat, j < 40 → y3_115.toInt ≤ (j : Int) → (M115 1 j).toInt = 0)) (fun M115 y3_115 => ((M115 0 33).toInt - y3_115.toInt).toNat) (fun ag115 M115 y3_115 hI115 ih115 => ?_) FU M92 (nI 0) ⟨(fun _ _ _ => rfl), (by decide), ⟨fun j hj ht => absurd ht (by rw [h92 j (by omega)]; decide), fun j hj _ => h92 j (by omega)⟩⟩ (fu_lt (by have f0 := congrArg Int32.toInt (hf_M92 0 33 (by omega)); have f1 := congrArg Int32.toInt ((congrFun (congrFun eM_6 0) 33).trans (mset_ne (by omega))); have f2 := t_lit 0; omega))
            obtain ⟨hf_M115, h0, h115⟩ := hI115
            have k33 := congrArg Int32.toInt (hf_M115 0 33 (by omega))
            refine wp_ite (fun c120 => ?_) (fun c120 => ?_)
            · exact wp_some ⟨(fun a i q0 => ((hf_M115 a i (fun h9 => q0 (Or.inr (Or.inr (Or.inr (Or.inr (Or.inr (Or.inr (Or.inr (Or.inr (Or.inl h9))))))))))).trans ((hf_M92 a i (fun h9 => q0 (Or.inr (Or.inr (Or.inr (Or.inr (Or.inr (Or.inr (Or.inr (Or.inr (Or.inl h9))))))))))).trans ((congrFun (congrFun eM_6 a) i).trans ((mset_ne (fun h9 => q0 (Or.inl h9))).trans ((hf_M36 a i (fun z8 => q0 ((fun z9 => Or.elim z9 (fun h9 => Or.inr (Or.inl h9)) (fun z9 => Or.elim z9 (fun h9 => Or.inr (Or.inr (Or.inr (Or.inl h9)))) (fun z9 => Or.elim z9 (fun h9 => Or.inr (Or.inr (Or.inr (Or.inr (Or.inl h9))))) (fun z9 => Or.elim z9 (fun h9 => Or.inr (Or.inr (Or.inr (Or.inr (Or.inr (Or.inr (Or.inr (Or.inl h9)))))))) (fun z9 => Or.elim z9 (fun h9 => Or.inr (Or.inr (Or.inr (Or.inr (Or.inr (Or.inr (Or.inr (Or.inr (Or.inr (Or.inl h9)))))))))) (fun z9 => Or.elim z9 (fun h9 => Or.inr (Or.inr (Or.inr (Or.inr (Or.inr (Or.inr (Or.inr (Or.inr (Or.inr (Or.inr (Or.inl h9))))))))))) (fun z9 => Or.elim z9 (fun h9 => Or.inr (Or.inr (Or.inr (Or.inr (Or.inr (Or.inr (Or.inr (Or.inr (Or.inr (Or.inr (Or.inr (Or.inl h9)))))))))))) (fun h9 => Or.inr (Or.inr (Or.inr (Or.inr (Or.inr (Or.inr (Or.inr (Or.inr (Or.inr (Or.inr (Or.inr (Or.inr (h9)))))))))))))))))))) z8))).trans ((hg_M_5 a i (fun z8 => q0 ((fun z9 => Or.elim z9 (fun h9 => Or.inr (Or.inl h9)) (fun z9 => Or.elim z9 (fun h9 => Or.inr (Or.inr (Or.inr (Or.inl h9)))) (fun z9 => Or.elim z9 (fun h9 => Or.inr (Or.inr (Or.inr (Or.inr (Or.inl h9))))) (fun z9 => Or.elim z9 (fun h9 => Or.inr (Or.inr (Or.inr (Or.inr (Or.inr (Or.inr (Or.inr (Or.inl h9)))))))) (fun z9 => Or.elim z9 (fun h9 => Or.inr (Or.inr (Or.inr (Or.inr (Or.inr (Or.inr (Or.inr (Or.inr (Or.inr (Or.inl h9)))))))))) (fun z9 => Or.elim z9 (fun h9 => Or.inr (Or.inr (Or.inr (Or.inr (Or.inr (Or.inr (Or.inr (Or.inr (Or.inr (Or.inr (Or.inl h9))))))))))) (fun z9 => Or.elim z9 (fun h9 => Or.inr (Or.inr (Or.inr (Or.inr (Or.inr (Or.inr (Or.inr (Or.inr (Or.inr (Or.inr (Or.inr (Or.inl h9)))))))))))) (fun h9 => Or.inr (Or.inr (Or.inr (Or.inr (Or.inr (Or.inr (Or.inr (Or.inr (Or.inr (Or.inr (Or.inr (Or.inr (h9)))))))))))))))))))) z8))).trans ((congrFun (congrFun eM_3 a) i).trans ((mset_ne (fun h9 => q0 (Or.inr (Or.inr (Or.inr (Or.inr (Or.inr (Or.inr (Or.inr (Or.inl h9)))))))))).trans ((hg_M_2 a i (fun z8 => q0 ((fun z9 => Or.elim z9 (fun h9 => Or.inr (Or.inl h9)) (fun z9 => Or.elim z9 (fun h9 => Or.inr (Or.inr (Or.inl h9))) (fun z9 => Or.elim z9 (fun h9 => Or.inr (Or.inr (Or.inr (Or.inr (Or.inr (Or.inl h9)))))) (fun h9 => Or.inr (Or.inr (Or.inr (Or.inr (Or.inr (Or.inr (Or.inl h9)))))))))) z8))).trans rfl)))))))))), (by show 0 ≤ (M115 0 6).toInt ∧ (M115 0 6).toInt ≤ 260; have f0 := congrArg Int32.toInt (hf_M115 0 6 (by omega)); have f1 := congrArg Int32.toInt (hf_M92 0 6 (by omega)); have f2 := congrArg Int32.toInt ((congrFun (congrFun eM_6 0) 6).trans mset_eq); have f3 := t_lit 0; have f4 := congrArg Int32.toInt (hf_M115 0 33 (by omega)); have f5 := congrArg Int32.toInt (hf_M92 0 33 (by omega)); have f6 := congrArg Int32.toInt ((congrFun (congrFun eM_6 0) 33).trans (mset_ne (by omega))); omega), h115.1, (by show (M115 0 6).toInt = _; rw [if_pos (by omega), show M115 0 6 = M_6 0 6 from ((hf_M115 0 6 (by omega)).trans ((hf_M92 0 6 (by omega)).trans rfl)), eM_6, mset_eq]; exact nI0), (by show (M115 0 33).toInt = _; rw [if_pos (by omega), eT, hfin]; omega)⟩
            · refine wp_gd (by have f0 := congrArg Int32.toInt (hf_M115 0 33 (by omega)); have f1 := congrArg Int32.toInt (hf_M92 0 33 (by omega)); have f2 := congrArg Int32.toInt ((congrFun (congrFun eM_6 0) 33).trans (mset_ne (by omega))); omega) ?_
              refine wp_gd (by have f0 := congrArg Int32.toInt (hf_M115 0 33 (by omega)); have f1 := congrArg Int32.toInt (hf_M92 0 33 (by omega)); have f2 := congrArg Int32.toInt ((congrFun (congrFun eM_6 0) 33).trans (mset_ne (by omega))); omega) ?_
              refine wp_gd (by have f0 := congrArg Int32.toInt (hf_M115 0 33 (by omega)); have f1 := congrArg Int32.toInt (hf_M92 0 33 (by omega)); have f2 := congrArg Int32.toInt ((congrFun (congrFun eM_6 0) 33).trans (mset_ne (by omega))); omega) ?_
              refine wp_gd (by have f0 := congrArg Int32.toInt (hf_M115 0 33 (by omega)); have f1 := congrArg Int32.toInt (hf_M92 0 33 (by omega)); have f2 := congrArg Int32.toInt ((congrFun (congrFun eM_6 0) 33).trans (mset_ne (by omega))); omega) ?_
              have fx := t_ixn y3_115 (by omega)
              have e20 : M115 20 (ix y3_115) = M36 20 (ix y3_115) := by rw [hf_M115 20 _ (by omega), hf_M92 20 _ (by omega), eM_6, mset_ne (by omega)]
              have e21 : M115 21 (ix y3_115) = M36 21 (ix y3_115) := by rw [hf_M115 21 _ (by omega), hf_M92 21 _ (by omega), eM_6, mset_ne (by omega)]
              have hlk := hok.2 (ix y3_115) (by omega)
              rw [← e20, ← e21] at hlk
              refine wp_bind2 (o_X10_laysStone M115 y3_115 (M115 19 (ix y3_115)) (M115 20 (ix y3_115)) (M115 21 (ix y3_115)) (M115 22 (ix y3_115)) (by have f0 := congrArg Int32.toInt (hf_M115 19 (ix y3_115) (by omega)); have f1 := congrArg Int32.toInt (hf_M92 19 (ix y3_115) (by omega)); have f2 := congrArg Int32.toInt ((congrFun (congrFun eM_6 19) (ix y3_115)).trans (mset_ne (by omega))); have f3 := congrArg Int32.toInt (hf_M115 20 (ix y3_115) (by omega)); have f4 := congrArg Int32.toInt (hf_M92 20 (ix y3_115) (by omega)); have f5 := congrArg Int32.toInt ((congrFun (congrFun eM_6 20) (ix y3_115)).trans (mset_ne (by omega))); have f6 := congrArg Int32.toInt (hf_M115 21 (ix y3_115) (by omega)); have f7 := congrArg Int32.toInt (hf_M92 21 (ix y3_115) (by omega)); have f8 := congrArg Int32.toInt ((congrFun (congrFun eM_6 21) (ix y3_115)).trans (mset_ne (by omega))); have f9 := congrArg Int32.toInt (hf_M115 22 (ix y3_115) (by omega)); have f10 := congrArg Int32.toInt (hf_M92 22 (ix y3_115) (by omega)); have f11 := congrArg Int32.toInt ((congrFun (congrFun eM_6 22) (ix y3_115)).trans (mset_ne (by omega))); have f12 := congrArg Int32.toInt (hf_M115 0 33 (by omega)); have f13 := congrArg Int32.toInt (hf_M92 0 33 (by omega)); have f14 := congrArg Int32.toInt ((congrFun (congrFun eM_6 0) 33).trans (mset_ne (by omega))); omega)) (fun M_7 he149 hq149 => ?_)
              obtain ⟨hg_M_7, hl_149⟩ := hq149
              replace hl_149 : (M_7 1 (ix y3_115)).toInt = 1 ∧ M_7 1 (80 + ix y3_115) = (M115 20 (ix y3_115)) ∧ M_7 1 (120 + ix y3_115) = (M115 21 (ix y3_115)) ∧ ∀ j : Nat, ¬ j = ix y3_115 → ¬ j = 40 + ix y3_115 → ¬ j = 80 + ix y3_115 → ¬ j = 120 + ix y3_115 → ¬ j = 160 + ix y3_115 → M_7 1 j = M115 1 j := hl_149
              replace hg_M_7 : ∀ a i, ¬ (a = 1) → M_7 a i = M115 a i := hg_M_7
              exact ih115 M_7 (y3_115 + (nI 1)) ⟨(fun a i q0 => ((hg_M_7 a i (fun h9 => q0 (h9))).trans ((hf_M115 a i (fun h9 => q0 (h9))).trans rfl))), (by rw [t_inc y3_115 1 (by omega)]; omega), ⟨st_lay (i := ix y3_115) (by omega) h115.1 (by rw [hl_149.2.1]; omega) (by rw [hl_149.2.2.1]; omega) hl_149.2.2.2, fun j hj hy => by rw [t_inc y3_115 1 (by omega)] at hy; rw [hl_149.2.2.2 j (by omega) (by omega) (by omega) (by omega) (by omega)]; exact h115.2 j hj (by omega)⟩⟩ (by have z1 := t_inc y3_115 1 (by omega); have z2 := congrArg Int32.toInt (hg_M_7 0 33 (by omega)); omega)
          refine wp_ite (fun c95 => ?_) (fun c95 => ?_)
          · exact j113 (by omega)
          · refine wp_gd (by omega) ?_
            refine wp_bnd (fun M_8 eM_8 => ?_)
            exact ih92 M_8 (y3_92 + (nI 1)) ⟨(by have f0 := t_lit 1; have f1 := t_add y3_92 (nI 1); omega), (fun a i q0 => ((congrFun (congrFun eM_8 a) i).trans ((mset_ne (fun h9 => q0 ((h9).1))).trans ((hf_M92 a i (fun h9 => q0 (h9))).trans rfl)))), (set_ext (P := fun _ x => x.toInt = 0) eM_8 (by omega) (by omega) h92 nI0)⟩ (by have f0 := t_lit 1; have f1 := t_add y3_92 (nI 1); omega)
      refine wp_ite (fun c37 => ?_) (fun c37 => ?_)
      · exact j76 (by omega)
      · refine wp_ite (fun c48 => ?_) (fun c48 => ?_)
        · exact j76 (by omega)
        · refine wp_cb2 (o5_X10_takesSign M36 (nI 59) T hT36 (by omega) (by decide)) (fun r_9 M_10 he54 hq54 => ?_)
          obtain ⟨hz_r_9, hg_M_10, hp_54, hs_54⟩ := hq54
          replace hp_54 : (M36 0 7).toInt ≤ (M_10 0 7).toInt ∧ (M_10 0 7).toInt ≤ (M36 0 8).toInt ∧ (¬ r_9.toInt = 0 → (M36 0 7).toInt < (M_10 0 7).toInt) := hp_54
          have := t_lit 59
          replace hs_54 : (¬ r_9.toInt = 0 ∧ T (M36 0 7).toInt = (nI 59).toInt ∧ (M_10 0 7).toInt = (M36 0 7).toInt + 1 ∧ (M36 0 7).toInt < (M36 0 8).toInt) ∨ (r_9.toInt = 0 ∧ ¬ T (M36 0 7).toInt = (nI 59).toInt ∧ (M_10 0 9).toInt = -1000 - (M36 0 7).toInt) := hs_54
          have := t_lit 59
          replace hg_M_10 : ∀ a i, ¬ ((a = 0 ∧ i = 7) ∨ (a = 0 ∧ i = 9)) → M_10 a i = M36 a i := hg_M_10
          have c8 := congrArg Int32.toInt (hg_M_10 0 8 (by omega))
          refine wp_ite (fun c57 => ?_) (fun c57 => ?_)
          · exact ih36 M_10 (nI 0) ⟨(fun a i q0 => ((hg_M_10 a i (fun z8 => q0 ((fun z9 => Or.elim z9 (fun h9 => Or.inl h9) (fun h9 => Or.inr (Or.inl h9))) z8))).trans ((hf_M36 a i (fun z8 => q0 ((fun z9 => Or.elim z9 (fun h9 => Or.inl h9) (fun z9 => Or.elim z9 (fun h9 => Or.inr (Or.inl h9)) (fun z9 => Or.elim z9 (fun h9 => Or.inr (Or.inr (Or.inl h9))) (fun z9 => Or.elim z9 (fun h9 => Or.inr (Or.inr (Or.inr (Or.inl h9)))) (fun z9 => Or.elim z9 (fun h9 => Or.inr (Or.inr (Or.inr (Or.inr (Or.inl h9))))) (fun z9 => Or.elim z9 (fun h9 => Or.inr (Or.inr (Or.inr (Or.inr (Or.inr (Or.inl h9)))))) (fun z9 => Or.elim z9 (fun h9 => Or.inr (Or.inr (Or.inr (Or.inr (Or.inr (Or.inr (Or.inl h9))))))) (fun h9 => Or.inr (Or.inr (Or.inr (Or.inr (Or.inr (Or.inr (Or.inr (h9))))))))))))))) z8))).trans rfl))), ⟨by omega, by omega, fun h => absurd nI0 h⟩, ⟨fun _ => by have z := hs_54.resolve_left (fun z => z.1 c57); have f59 := t_lit 59; rw [hb36.2 c37, bookR_w (tx_ner hT36 (by omega)) (by omega)]; exact z.2.2.symm, fun z => absurd nI0 z⟩⟩ (mu_d0 c37)
          · have s54 := hs_54.resolve_right (fun z => c57 z.1)
            have hbk : bookA T 41 0 0 (fun _ => 0) (fun _ => 0) = bookA T (41 - ix (M36 0 33)) (M_10 0 7).toInt (ix (M36 0 33)) (fun j => (M36 19 j).toInt) (fun j => (M36 20 j).toInt) := by
              rw [hb36.2 c37, bookR_n (by rw [s54.2.1]; exact t_lit 59), s54.2.2.1]
            refine wp_cb2 (o5_X10_readsLine M_10 T ((txr_fr (hg_M_10 0 8 (by omega)) (fun j => hg_M_10 5 j (by omega))).trans hT36) (by omega) (by have e3 := congrArg Int32.toInt (hg_M_10 0 33 (by omega)); have := (h36.2.2 c37).1; omega) (fun j hj => by rw [hg_M_10 20 j (by omega), hg_M_10 21 j (by omega)]; exact (h36.2.2 c37).2 j (by have e3 := congrArg Int32.toInt (hg_M_10 0 33 (by omega)); omega))) (fun r_11 M_12 he61 hq61 => ?_)
            obtain ⟨hz_r_11, hg_M_12, hp_61, hk_61, hL_61, h40_61, hX_61⟩ := hq61
            replace hp_61 : (M_10 0 7).toInt ≤ (M_12 0 7).toInt ∧ (M_12 0 7).toInt ≤ (M_10 0 8).toInt ∧ (¬ r_11.toInt = 0 → (M_10 0 7).toInt < (M_12 0 7).toInt) := hp_61
            replace hk_61 : ¬ r_11.toInt = 0 → (M_12 0 33).toInt = (M_10 0 33).toInt + 1 ∧ (M_10 0 33).toInt < 40 ∧ (∀ j : Nat, (j : Int) < (M_12 0 33).toInt → 1 ≤ (M_12 20 j).toInt ∧ (M_12 20 j).toInt ≤ 20 ∧ 0 ≤ (M_12 21 j).toInt ∧ (M_12 21 j).toInt ≤ 9) := hk_61
            replace hL_61 : (M_10 0 33).toInt < 40 → LinP (lineS T (M_10 0 7).toInt (fun j => (M_10 19 j).toInt) (fun j => (M_10 20 j).toInt) (ix (M_10 0 33))) r_11.toInt (M_12 0 9).toInt (M_12 0 7).toInt (M_12 19 (ix (M_10 0 33))).toInt (M_12 20 (ix (M_10 0 33))).toInt (M_12 21 (ix (M_10 0 33))).toInt (M_12 22 (ix (M_10 0 33))).toInt (M_10 0 7).toInt (M_10 0 8).toInt := hL_61
            replace h40_61 : (M_10 0 33).toInt = 40 → r_11.toInt = 0 ∧ (M_12 0 9).toInt = (if dgt (T (M_10 0 7).toInt) = true then -4000 - (M_10 0 7).toInt else -1000 - (M_10 0 7).toInt) := h40_61
            replace hX_61 : ∀ j : Nat, j < (ix (M_10 0 33)) → M_12 19 j = M_10 19 j ∧ M_12 20 j = M_10 20 j := hX_61
            replace hg_M_12 : ∀ a i, ¬ ((a = 0 ∧ i = 7) ∨ (a = 0 ∧ i = 9) ∨ (a = 0 ∧ i = 10) ∨ (a = 0 ∧ i = 33) ∨ a = 19 ∨ a = 20 ∨ a = 21 ∨ a = 22) → M_12 a i = M_10 a i := hg_M_12
            have d8 := congrArg Int32.toInt (hg_M_12 0 8 (by omega))
            have r19 : (fun j => (M_10 19 j).toInt) = (fun j => (M36 19 j).toInt) := funext (fun j => by rw [hg_M_10 19 j (by omega)])
            have r20 : (fun j => (M_10 20 j).toInt) = (fun j => (M36 20 j).toInt) := funext (fun j => by rw [hg_M_10 20 j (by omega)])
            have n10 : ix (M_10 0 33) = ix (M36 0 33) := by rw [hg_M_10 0 33 (by omega)]
            have m10 := congrArg Int32.toInt (hg_M_10 0 33 (by omega))
            have hk36 := (h36.2.2 c37).1
            have f36 := t_ixn (M36 0 33) (by omega)
            have b61 : (r_11.toInt = 0 → bookA T 41 0 0 (fun _ => 0) (fun _ => 0) = (M_12 0 9).toInt) ∧ (¬ r_11.toInt = 0 → bookA T 41 0 0 (fun _ => 0) (fun _ => 0) = bookR T (ix (M36 0 33) + 1) (M_12 0 7).toInt (fun j => (M_12 19 j).toInt) (fun j => (M_12 20 j).toInt)) := by
              rw [hbk]
              by_cases h4 : (M36 0 33).toInt < 40
              · have l61 := hL_61 (by omega)
                rw [n10, r19, r20] at l61
                exact bk_step (by omega) l61 rfl rfl (fun i hi => ⟨congrArg Int32.toInt ((hX_61 i (by rw [n10]; exact hi)).1.trans (hg_M_10 19 i (by omega))), congrArg Int32.toInt ((hX_61 i (by rw [n10]; exact hi)).2.trans (hg_M_10 20 i (by omega)))⟩)
              · have z := h40_61 (by omega)
                exact ⟨fun _ => by rw [show 41 - ix (M36 0 33) = 0 + 1 from (by omega), bookA_40 (by omega)]; exact z.2.symm, fun q => absurd z.1 q⟩
            refine wp_ite (fun c64 => ?_) (fun c64 => ?_)
            · exact ih36 M_12 (nI 0) ⟨(fun a i q0 => ((hg_M_12 a i (fun z8 => q0 ((fun z9 => Or.elim z9 (fun h9 => Or.inl h9) (fun z9 => Or.elim z9 (fun h9 => Or.inr (Or.inl h9)) (fun z9 => Or.elim z9 (fun h9 => Or.inr (Or.inr (Or.inl h9))) (fun z9 => Or.elim z9 (fun h9 => Or.inr (Or.inr (Or.inr (Or.inl h9)))) (fun z9 => Or.elim z9 (fun h9 => Or.inr (Or.inr (Or.inr (Or.inr (Or.inl h9))))) (fun z9 => Or.elim z9 (fun h9 => Or.inr (Or.inr (Or.inr (Or.inr (Or.inr (Or.inl h9)))))) (fun z9 => Or.elim z9 (fun h9 => Or.inr (Or.inr (Or.inr (Or.inr (Or.inr (Or.inr (Or.inl h9))))))) (fun h9 => Or.inr (Or.inr (Or.inr (Or.inr (Or.inr (Or.inr (Or.inr (h9))))))))))))))) z8))).trans ((hg_M_10 a i (fun z8 => q0 ((fun z9 => Or.elim z9 (fun h9 => Or.inl h9) (fun h9 => Or.inr (Or.inl h9))) z8))).trans ((hf_M36 a i (fun z8 => q0 ((fun z9 => Or.elim z9 (fun h9 => Or.inl h9) (fun z9 => Or.elim z9 (fun h9 => Or.inr (Or.inl h9)) (fun z9 => Or.elim z9 (fun h9 => Or.inr (Or.inr (Or.inl h9))) (fun z9 => Or.elim z9 (fun h9 => Or.inr (Or.inr (Or.inr (Or.inl h9)))) (fun z9 => Or.elim z9 (fun h9 => Or.inr (Or.inr (Or.inr (Or.inr (Or.inl h9))))) (fun z9 => Or.elim z9 (fun h9 => Or.inr (Or.inr (Or.inr (Or.inr (Or.inr (Or.inl h9)))))) (fun z9 => Or.elim z9 (fun h9 => Or.inr (Or.inr (Or.inr (Or.inr (Or.inr (Or.inr (Or.inl h9))))))) (fun h9 => Or.inr (Or.inr (Or.inr (Or.inr (Or.inr (Or.inr (Or.inr (h9))))))))))))))) z8))).trans rfl)))), ⟨by omega, by omega, fun h => absurd nI0 h⟩, ⟨fun _ => b61.1 c64, fun z => absurd nI0 z⟩⟩ (mu_d0 c37)
            · exact ih36 M_12 (nI 1) ⟨(fun a i q0 => ((hg_M_12 a i (fun z8 => q0 ((fun z9 => Or.elim z9 (fun h9 => Or.inl h9) (fun z9 => Or.elim z9 (fun h9 => Or.inr (Or.inl h9)) (fun z9 => Or.elim z9 (fun h9 => Or.inr (Or.inr (Or.inl h9))) (fun z9 => Or.elim z9 (fun h9 => Or.inr (Or.inr (Or.inr (Or.inl h9)))) (fun z9 => Or.elim z9 (fun h9 => Or.inr (Or.inr (Or.inr (Or.inr (Or.inl h9))))) (fun z9 => Or.elim z9 (fun h9 => Or.inr (Or.inr (Or.inr (Or.inr (Or.inr (Or.inl h9)))))) (fun z9 => Or.elim z9 (fun h9 => Or.inr (Or.inr (Or.inr (Or.inr (Or.inr (Or.inr (Or.inl h9))))))) (fun h9 => Or.inr (Or.inr (Or.inr (Or.inr (Or.inr (Or.inr (Or.inr (h9))))))))))))))) z8))).trans ((hg_M_10 a i (fun z8 => q0 ((fun z9 => Or.elim z9 (fun h9 => Or.inl h9) (fun h9 => Or.inr (Or.inl h9))) z8))).trans ((hf_M36 a i (fun z8 => q0 ((fun z9 => Or.elim z9 (fun h9 => Or.inl h9) (fun z9 => Or.elim z9 (fun h9 => Or.inr (Or.inl h9)) (fun z9 => Or.elim z9 (fun h9 => Or.inr (Or.inr (Or.inl h9))) (fun z9 => Or.elim z9 (fun h9 => Or.inr (Or.inr (Or.inr (Or.inl h9)))) (fun z9 => Or.elim z9 (fun h9 => Or.inr (Or.inr (Or.inr (Or.inr (Or.inl h9))))) (fun z9 => Or.elim z9 (fun h9 => Or.inr (Or.inr (Or.inr (Or.inr (Or.inr (Or.inl h9)))))) (fun z9 => Or.elim z9 (fun h9 => Or.inr (Or.inr (Or.inr (Or.inr (Or.inr (Or.inr (Or.inl h9))))))) (fun h9 => Or.inr (Or.inr (Or.inr (Or.inr (Or.inr (Or.inr (Or.inr (h9))))))))))))))) z8))).trans rfl)))), ⟨by omega, by omega, fun _ => ⟨by have e3 := congrArg Int32.toInt (hg_M_10 0 33 (by omega)); have := (hk_61 (by omega)).1; have := (hk_61 (by omega)).2.1; have := (h36.2.2 c37).1; omega, (hk_61 (by omega)).2.2⟩⟩, ⟨fun z => absurd z (by decide), fun _ => by rw [show ix (M_12 0 33) = ix (M36 0 33) + 1 from (by have z1 := (hk_61 c64).1; have z2 := congrArg Int32.toInt (hg_M_10 0 33 (by omega)); have z3 := (h36.2.2 c37).1; have z4 := t_ixn (M_12 0 33) (by omega); have z5 := t_ixn (M36 0 33) (by omega); omega)]; exact b61.2 c64⟩⟩ (mu_d1 c37 (by omega))
    · exact wp_some ⟨(fun _ _ _ => rfl), (by show 0 ≤ (M 0 6).toInt ∧ (M 0 6).toInt ≤ 260; have f0 := (by decide : ((-1 : Int32)).toInt = -1); omega), (by have e9 : M 1 = M 1 := funext (fun i => rfl); show ST (M 1); rw [e9]; exact hst), (by show (M 0 6).toInt = _; rw [if_neg (by omega)]), (by show (-1 : Int32).toInt = _; rw [if_neg (by omega)]; decide)⟩
