/-! a notebook as a text: what it says, or its fault -/
def dgt (c : Int) : Bool := decide (48 ≤ c ∧ c ≤ 57)
theorem dgt_t {c : Int} (h : 48 ≤ c ∧ c ≤ 57) : dgt c = true := decide_eq_true h
theorem dgt_f {c : Int} (h : ¬ (48 ≤ c ∧ c ≤ 57)) : dgt c = false := decide_eq_false h
theorem dgt_i {c : Int} (h : dgt c = true) : 48 ≤ c ∧ c ≤ 57 := of_decide_eq_true h
def nd (T : Int → Int) (p : Int) : Nat → Nat
  | 0 => 0
  | k + 1 => if dgt (T p) = true then 1 + nd T (p + 1) k else 0
theorem nd_is {T : Int → Int} : ∀ {k c : Nat} {p : Int}, c ≤ k → (∀ i : Nat, i < c → dgt (T (p + i)) = true) → (c = k ∨ dgt (T (p + c)) = false) → nd T p k = c
  | 0, c, p, h1, _, _ => by
    show 0 = c
    omega
  | k + 1, 0, p, _, _, h3 => by
    rcases h3 with z | z
    · omega
    · show (if dgt (T p) = true then 1 + nd T (p + 1) k else 0) = 0
      have z2 : dgt (T p) = false := by
        have e : p + ((0 : Nat) : Int) = p := by omega
        rw [e] at z
        exact z
      rw [if_neg (by rw [z2]; decide)]
  | k + 1, c + 1, p, h1, h2, h3 => by
    have z : dgt (T p) = true := by
      have := h2 0 (by omega)
      rw [show p + ((0 : Nat) : Int) = p from by omega] at this
      exact this
    show (if dgt (T p) = true then 1 + nd T (p + 1) k else 0) = c + 1
    rw [if_pos z, nd_is (k := k) (c := c) (p := p + 1) (by omega) (fun i hi => by
      have := h2 (i + 1) (by omega)
      rw [show p + ((i + 1 : Nat) : Int) = p + 1 + (i : Int) from by omega] at this
      exact this) (by
      rcases h3 with q | q
      · exact Or.inl (by omega)
      · right
        rw [show p + ((c + 1 : Nat) : Int) = p + 1 + (c : Int) from by omega] at q
        exact q)]
    omega
def nvv (T : Int → Int) (p : Int) : Nat → Int
  | 0 => 0
  | c + 1 => 10 * nvv T p c + (T (p + c) - 48)
theorem nvv_s (T : Int → Int) (p : Int) (c : Nat) : nvv T p (c + 1) = 10 * nvv T p c + (T (p + c) - 48) := rfl
theorem nvv_bd {T : Int → Int} {p : Int} : ∀ {c : Nat}, (∀ i : Nat, i < c → dgt (T (p + i)) = true) → 0 ≤ nvv T p c ∧ nvv T p c < (10 : Int) ^ c
  | 0, _ => by simp [nvv]
  | c + 1, h => by
    have h1 := nvv_bd (c := c) (fun i hi => h i (by omega))
    have h2 := dgt_i (h c (by omega))
    rw [nvv_s, Int.pow_succ]
    omega
def numS (T : Int → Int) (p : Int) (k : Nat) : Sum Int (Int × Int) :=
  if nd T p k = 0 then .inl (-1000 - p) else if dgt (T (p + nd T p k)) = true then .inl (-2000 - (p + nd T p k)) else .inr (nvv T p (nd T p k), p + nd T p k)
/-- what number tells, by the digits that it has passed -/
theorem numS_0 {T : Int → Int} {p : Int} {k : Nat} (hk : 0 < k) (h : dgt (T p) = false) : numS T p k = .inl (-1000 - p) := by
  have e : nd T p k = 0 := nd_is (by omega) (fun i hi => absurd hi (Nat.not_lt_zero _)) (Or.inr (by rw [show p + ((0 : Nat) : Int) = p from by omega]; exact h))
  unfold numS
  rw [if_pos e]
theorem numS_2 {T : Int → Int} {p : Int} {k : Nat} (hk : 0 < k) (h : ∀ i : Nat, i < k → dgt (T (p + i)) = true) (h2 : dgt (T (p + k)) = true) : numS T p k = .inl (-2000 - (p + k)) := by
  have e : nd T p k = k := nd_is (Nat.le_refl _) h (Or.inl rfl)
  unfold numS
  rw [e, if_neg (by omega), if_pos h2]
theorem numS_v {T : Int → Int} {p : Int} {k c : Nat} (hc : 0 < c) (hk : c ≤ k) (h : ∀ i : Nat, i < c → dgt (T (p + i)) = true) (h2 : dgt (T (p + c)) = false) : numS T p k = .inr (nvv T p c, p + c) := by
  have e : nd T p k = c := nd_is hk h (Or.inr h2)
  unfold numS
  rw [e, if_neg (by omega), if_neg (by rw [h2]; decide)]
def dupS (X Y : Nat → Int) (x y : Int) : Nat → Bool
  | 0 => false
  | n + 1 => dupS X Y x y n || decide (X n = x ∧ Y n = y)
theorem dup_t {X Y : Nat → Int} {x y : Int} {i : Nat} (h : X i = x ∧ Y i = y) : ∀ n, i < n → dupS X Y x y n = true
  | 0, hi => absurd hi (Nat.not_lt_zero _)
  | n + 1, hi => by
    show (dupS X Y x y n || decide (X n = x ∧ Y n = y)) = true
    by_cases e : i = n
    · rw [← e, decide_eq_true h, Bool.or_true]
    · rw [dup_t h n (by omega), Bool.true_or]
theorem dup_f {X Y : Nat → Int} {x y : Int} : ∀ n, (∀ i, i < n → ¬ (X i = x ∧ Y i = y)) → dupS X Y x y n = false
  | 0, _ => rfl
  | n + 1, h => by
    show (dupS X Y x y n || decide (X n = x ∧ Y n = y)) = false
    rw [dup_f n (fun i hi => h i (by omega)), decide_eq_false (h n (by omega))]
    rfl
theorem dup_ext {X Y X' Y' : Nat → Int} {x y : Int} : ∀ n, (∀ i, i < n → X i = X' i ∧ Y i = Y' i) → dupS X Y x y n = dupS X' Y' x y n
  | 0, _ => rfl
  | n + 1, h => by
    show (dupS X Y x y n || decide (X n = x ∧ Y n = y)) = (dupS X' Y' x y n || decide (X' n = x ∧ Y' n = y))
    rw [dup_ext n (fun i hi => h i (by omega)), (h n (by omega)).1, (h n (by omega)).2]
/-- behind the place: 's' and a digit, 'u' -/
def tailS (T : Int → Int) (p : Int) : Sum Int (Int × Int × Int) :=
  if T p = 115 then (if dgt (T (p + 1)) = true then .inr (T (p + 1) - 48, if T (p + 2) = 117 then (1, p + 3) else (0, p + 2)) else .inl (-1000 - (p + 1))) else .inr (0, if T p = 117 then (1, p + 1) else (0, p))
def lineZ (x y : Int) (r : Sum Int (Int × Int × Int)) : Sum Int (Int × Int × Int × Int × Int) := match r with
  | .inl f => .inl f
  | .inr q => .inr (x, y, q.1, q.2.1, q.2.2)
def lineY (T : Int → Int) (p : Int) (X Y : Nat → Int) (n : Nat) (x p2 : Int) : Sum Int (Int × Int × Int × Int × Int) := match numS T p2 2 with
  | .inl f => .inl f
  | .inr q => if 1 ≤ q.1 ∧ q.1 ≤ 20 then (if dupS X Y x q.1 n = true then .inl (-6000 - p) else lineZ x q.1 (tailS T q.2)) else .inl (-3000 - p2)
def lineX (T : Int → Int) (p : Int) (X Y : Nat → Int) (n : Nat) (x p1 : Int) : Sum Int (Int × Int × Int × Int × Int) := if 39 < x then .inl (-3000 - p) else if T p1 = 44 then lineY T p X Y n x (p1 + 1) else .inl (-1000 - p1)
/-- a line: x, y, slippery, under, and where it ends -/
def lineS (T : Int → Int) (p : Int) (X Y : Nat → Int) (n : Nat) : Sum Int (Int × Int × Int × Int × Int) := match numS T p 2 with
  | .inl f => .inl f
  | .inr q => lineX T p X Y n q.1 q.2
theorem lineS_f {T : Int → Int} {p f : Int} {X Y : Nat → Int} {n : Nat} (h : numS T p 2 = .inl f) : lineS T p X Y n = .inl f := by unfold lineS; rw [h]
theorem lineS_v {T : Int → Int} {p x p1 : Int} {X Y : Nat → Int} {n : Nat} (h : numS T p 2 = .inr (x, p1)) : lineS T p X Y n = lineX T p X Y n x p1 := by unfold lineS; rw [h]
theorem lineX_3 {T : Int → Int} {p x p1 : Int} {X Y : Nat → Int} {n : Nat} (h : 39 < x) : lineX T p X Y n x p1 = .inl (-3000 - p) := if_pos h
theorem lineX_1 {T : Int → Int} {p x p1 : Int} {X Y : Nat → Int} {n : Nat} (h : ¬ 39 < x) (h2 : ¬ T p1 = 44) : lineX T p X Y n x p1 = .inl (-1000 - p1) := by unfold lineX; rw [if_neg h, if_neg h2]
theorem lineX_v {T : Int → Int} {p x p1 : Int} {X Y : Nat → Int} {n : Nat} (h : ¬ 39 < x) (h2 : T p1 = 44) : lineX T p X Y n x p1 = lineY T p X Y n x (p1 + 1) := by unfold lineX; rw [if_neg h, if_pos h2]
theorem lineY_f {T : Int → Int} {p x p2 f : Int} {X Y : Nat → Int} {n : Nat} (h : numS T p2 2 = .inl f) : lineY T p X Y n x p2 = .inl f := by unfold lineY; rw [h]
theorem lineY_3 {T : Int → Int} {p x p2 y q : Int} {X Y : Nat → Int} {n : Nat} (h : numS T p2 2 = .inr (y, q)) (h2 : ¬ (1 ≤ y ∧ y ≤ 20)) : lineY T p X Y n x p2 = .inl (-3000 - p2) := by
  unfold lineY
  rw [h]
  exact if_neg h2
theorem lineY_d {T : Int → Int} {p x p2 y q : Int} {X Y : Nat → Int} {n : Nat} (h : numS T p2 2 = .inr (y, q)) (h2 : 1 ≤ y ∧ y ≤ 20) (hd : dupS X Y x y n = true) : lineY T p X Y n x p2 = .inl (-6000 - p) := by
  unfold lineY
  rw [h]
  show (if 1 ≤ y ∧ y ≤ 20 then (if dupS X Y x y n = true then Sum.inl (-6000 - p) else lineZ x y (tailS T q)) else Sum.inl (-3000 - p2)) = _
  rw [if_pos h2, if_pos hd]
theorem lineY_v {T : Int → Int} {p x p2 y q : Int} {X Y : Nat → Int} {n : Nat} (h : numS T p2 2 = .inr (y, q)) (h2 : 1 ≤ y ∧ y ≤ 20) (hd : dupS X Y x y n = false) : lineY T p X Y n x p2 = lineZ x y (tailS T q) := by
  unfold lineY
  rw [h]
  show (if 1 ≤ y ∧ y ≤ 20 then (if dupS X Y x y n = true then Sum.inl (-6000 - p) else lineZ x y (tailS T q)) else Sum.inl (-3000 - p2)) = _
  rw [if_pos h2, if_neg (by rw [hd]; decide)]
theorem lineS_ext {T : Int → Int} {p : Int} {X Y X' Y' : Nat → Int} {n : Nat} (h : ∀ i, i < n → X i = X' i ∧ Y i = Y' i) : lineS T p X Y n = lineS T p X' Y' n := by
  have e : ∀ x y, dupS X Y x y n = dupS X' Y' x y n := fun x y => dup_ext n h
  unfold lineS lineX lineY
  simp only [e]
/-- what a notebook is answered with -/
def bookA (T : Int → Int) : Nat → Int → Nat → (Nat → Int) → (Nat → Int) → Int
  | 0, _, _, _, _ => 0
  | k + 1, p, n, X, Y => if 40 ≤ n then (if dgt (T p) = true then -4000 - p else -1000 - p) else match lineS T p X Y n with
    | .inl f => f
    | .inr q => if T q.2.2.2.2 = -1 then (n : Int) + 1 else if T q.2.2.2.2 = 59 then bookA T k (q.2.2.2.2 + 1) (n + 1) (pu X n q.1) (pu Y n q.2.1) else -1000 - q.2.2.2.2
termination_by k => k
theorem bookA_ext {T : Int → Int} : ∀ {k n : Nat} {p : Int} {X Y X' Y' : Nat → Int}, (∀ i, i < n → X i = X' i ∧ Y i = Y' i) → bookA T k p n X Y = bookA T k p n X' Y'
  | 0, _, _, _, _, _, _, _ => by simp only [bookA]
  | k + 1, n, p, X, Y, X', Y', h => by
    have e := lineS_ext (T := T) (p := p) h
    have e2 : ∀ q : Int × Int × Int × Int × Int, bookA T k (q.2.2.2.2 + 1) (n + 1) (pu X n q.1) (pu Y n q.2.1) = bookA T k (q.2.2.2.2 + 1) (n + 1) (pu X' n q.1) (pu Y' n q.2.1) := fun q => bookA_ext (fun i hi => by
      by_cases c : i = n
      · rw [c, pu_s, pu_s, pu_s, pu_s]; exact ⟨rfl, rfl⟩
      · rw [pu_n c, pu_n c, pu_n c, pu_n c]; exact h i (by omega))
    simp only [bookA, e, e2]
/-- results of a number, in class and reference -/
def NumP (r : Sum Int (Int × Int)) (res flt pl lo hi : Int) : Prop := match r with
  | .inl f => res = -1 ∧ flt = f
  | .inr q => res = q.1 ∧ 0 ≤ q.1 ∧ q.1 ≤ 99999 ∧ pl = q.2 ∧ lo < q.2 ∧ q.2 ≤ hi
def NumQ (r : Sum Int (Int × Int)) (res flt pl num lo hi : Int) : Prop := match r with
  | .inl f => res = 0 ∧ flt = f
  | .inr q => ¬ res = 0 ∧ num = q.1 ∧ 0 ≤ q.1 ∧ q.1 ≤ 99999 ∧ pl = q.2 ∧ lo < q.2 ∧ q.2 ≤ hi
theorem numP_f {r : Sum Int (Int × Int)} {res flt pl lo hi : Int} (h : NumP r res flt pl lo hi) (hr : res = -1) : r = .inl flt := by
  cases r with
  | inl f => exact congrArg Sum.inl h.2.symm
  | inr q =>
    obtain ⟨h1, h2, -⟩ := h
    omega
theorem numP_v {r : Sum Int (Int × Int)} {res flt pl lo hi : Int} (h : NumP r res flt pl lo hi) (hr : ¬ res = -1) : r = .inr (res, pl) ∧ 0 ≤ res ∧ res ≤ 99999 ∧ lo < pl ∧ pl ≤ hi := by
  cases r with
  | inl f => exact absurd h.1 hr
  | inr q =>
    obtain ⟨h1, h2, h3, h4, h5, h6⟩ := h
    exact ⟨by rw [h1, h4], by omega, by omega, by omega, by omega⟩
theorem numQ_f {r : Sum Int (Int × Int)} {res flt pl num lo hi : Int} (h : NumQ r res flt pl num lo hi) (hr : res = 0) : r = .inl flt := by
  cases r with
  | inl f => exact congrArg Sum.inl h.2.symm
  | inr q => exact absurd hr h.1
theorem numQ_v {r : Sum Int (Int × Int)} {res flt pl num lo hi : Int} (h : NumQ r res flt pl num lo hi) (hr : ¬ res = 0) : r = .inr (num, pl) ∧ 0 ≤ num ∧ num ≤ 99999 ∧ lo < pl ∧ pl ≤ hi := by
  cases r with
  | inl f => exact absurd h.1 hr
  | inr q =>
    obtain ⟨h0, h1, h2, h3, h4, h5, h6⟩ := h
    exact ⟨by rw [h1, h4], by omega, by omega, by omega, by omega⟩
/-- the text that stands in the class's tape, in the reference's -/
def txt (b : Nat → Int) (n p : Int) : Int := if 0 ≤ p ∧ p < n then b p.toNat else -1
def TXc (M : Mem) : Int → Int := txt (fun j => (M 20 j).toInt) (M 19 2).toInt
def TXr (M : Mem) : Int → Int := txt (fun j => ((M 5 j) &&& (nI 255)).toInt) (M 0 8).toInt
theorem txc_fr {M M' : Mem} (e2 : M' 19 2 = M 19 2) (e20 : ∀ j, M' 20 j = M 20 j) : TXc M' = TXc M := by
  unfold TXc
  rw [e2, show (fun j => (M' 20 j).toInt) = (fun j => (M 20 j).toInt) from funext (fun j => by rw [e20])]
theorem txr_fr {M M' : Mem} (e8 : M' 0 8 = M 0 8) (e5 : ∀ j, M' 5 j = M 5 j) : TXr M' = TXr M := by
  unfold TXr
  rw [e8, show (fun j => ((M' 5 j) &&& (nI 255)).toInt) = (fun j => ((M 5 j) &&& (nI 255)).toInt) from funext (fun j => by rw [e5])]
theorem txt_in {b : Nat → Int} {n p : Int} (h : 0 ≤ p ∧ p < n) : txt b n p = b p.toNat := if_pos h
theorem txt_out {b : Nat → Int} {n p : Int} (h : ¬ (0 ≤ p ∧ p < n)) : txt b n p = -1 := if_neg h
theorem txt_ext {b b' : Nat → Int} {n : Int} (h : ∀ j : Nat, (j : Int) < n → b j = b' j) : txt b n = txt b' n := funext (fun p => by
  unfold txt
  by_cases c : 0 ≤ p ∧ p < n
  · rw [if_pos c, if_pos c]; exact h p.toNat (by omega)
  · rw [if_neg c, if_neg c])
def TailP (T : Int → Int) (q pl s : Int) : Prop := (T q = 115 ∧ dgt (T (q + 1)) = true ∧ pl = q + 2 ∧ s = T (q + 1) - 48) ∨ (¬ T q = 115 ∧ pl = q ∧ s = 0)
def UndB (T : Int → Int) (pl u : Int) : Prop := (u = 1 ∧ T pl = 117) ∨ (u = 0 ∧ ¬ T pl = 117)
def UndP (T : Int → Int) (pl u pl2 : Int) : Prop := (u = 1 ∧ T pl = 117 ∧ pl2 = pl + 1) ∨ (u = 0 ∧ ¬ T pl = 117 ∧ pl2 = pl)
theorem und_0 {T : Int → Int} {pl u : Int} (h : UndB T pl u) (hu : u = 0) : ¬ T pl = 117 := by
  rcases h with z | z
  · omega
  · exact z.2
theorem und_1 {T : Int → Int} {pl u : Int} (h : UndB T pl u) (hu : ¬ u = 0) : u = 1 ∧ T pl = 117 := by
  rcases h with z | z
  · exact z
  · exact absurd z.1 hu
def SkpP (t v res p pl hi flt : Int) : Prop := (¬ res = 0 ∧ t = v ∧ pl = p + 1 ∧ p < hi) ∨ (res = 0 ∧ ¬ t = v ∧ flt = -1000 - p)
theorem skp_y {t v res p pl hi flt : Int} (h : SkpP t v res p pl hi flt) (hr : ¬ res = 0) : t = v ∧ pl = p + 1 ∧ p < hi := (h.resolve_right (fun z => hr z.1)).2
theorem skp_n {t v res p pl hi flt : Int} (h : SkpP t v res p pl hi flt) (hr : res = 0) : ¬ t = v ∧ flt = -1000 - p := (h.resolve_left (fun z => z.1 hr)).2
theorem ne1 : ¬ (nI 1).toInt = 0 := by decide
theorem tail_is {T : Int → Int} {q s u pl pl2 : Int} (h : TailP T q pl s) (hu : UndP T pl u pl2) : tailS T q = .inr (s, u, pl2) := by
  unfold tailS
  rcases h with ⟨h1, h2, h3, h4⟩ | ⟨h1, h3, h4⟩
  · rw [if_pos h1, if_pos h2, h4]
    rw [h3] at hu
    rcases hu with ⟨u1, u2, u3⟩ | ⟨u1, u2, u3⟩
    · rw [if_pos u2, u1, u3, show q + 2 + 1 = q + 3 from by omega]
    · rw [if_neg u2, u1, u3]
  · rw [if_neg h1, h4]
    rw [h3] at hu
    rcases hu with ⟨u1, u2, u3⟩ | ⟨u1, u2, u3⟩
    · rw [if_pos u2, u1, u3]
    · rw [if_neg u2, u1, u3]
theorem tail_f {T : Int → Int} {q : Int} (h : T q = 115) (hd : dgt (T (q + 1)) = false) : tailS T q = .inl (-1000 - (q + 1)) := by
  unfold tailS
  rw [if_pos h, if_neg (by rw [hd]; decide)]
def LinP (r : Sum Int (Int × Int × Int × Int × Int)) (res flt pl x y s u lo hi : Int) : Prop := match r with
  | .inl f => res = 0 ∧ flt = f
  | .inr q => ¬ res = 0 ∧ x = q.1 ∧ y = q.2.1 ∧ s = q.2.2.1 ∧ u = q.2.2.2.1 ∧ pl = q.2.2.2.2 ∧ lo < q.2.2.2.2 ∧ q.2.2.2.2 ≤ hi
theorem linP_f {r : Sum Int (Int × Int × Int × Int × Int)} {res flt pl x y s u lo hi : Int} (h : LinP r res flt pl x y s u lo hi) (hr : res = 0) : r = .inl flt := by
  cases r with
  | inl f => exact congrArg Sum.inl h.2.symm
  | inr q => exact absurd hr h.1
theorem linP_v {r : Sum Int (Int × Int × Int × Int × Int)} {res flt pl x y s u lo hi : Int} (h : LinP r res flt pl x y s u lo hi) (hr : ¬ res = 0) : r = .inr (x, y, s, u, pl) ∧ lo < pl ∧ pl ≤ hi := by
  cases r with
  | inl f => exact absurd h.1 hr
  | inr q =>
    obtain ⟨h0, h1, h2, h3, h4, h5, h6, h7⟩ := h
    exact ⟨by rw [h1, h2, h3, h4, h5], by omega, by omega⟩
theorem bookA_40 {T : Int → Int} {k n : Nat} {p : Int} {X Y : Nat → Int} (h : 40 ≤ n) : bookA T (k + 1) p n X Y = (if dgt (T p) = true then -4000 - p else -1000 - p) := by
  simp only [bookA]
  rw [if_pos h]
theorem bookA_f {T : Int → Int} {k n : Nat} {p f : Int} {X Y : Nat → Int} (h : ¬ 40 ≤ n) (hl : lineS T p X Y n = .inl f) : bookA T (k + 1) p n X Y = f := by
  simp only [bookA]
  rw [if_neg h, hl]
theorem bookA_e {T : Int → Int} {k n : Nat} {p x y s u q : Int} {X Y : Nat → Int} (h : ¬ 40 ≤ n) (hl : lineS T p X Y n = .inr (x, y, s, u, q)) (he : T q = -1) : bookA T (k + 1) p n X Y = (n : Int) + 1 := by
  simp only [bookA]
  rw [if_neg h, hl]
  exact if_pos he
theorem bookA_w {T : Int → Int} {k n : Nat} {p x y s u q : Int} {X Y : Nat → Int} (h : ¬ 40 ≤ n) (hl : lineS T p X Y n = .inr (x, y, s, u, q)) (he : ¬ T q = -1) (h9 : ¬ T q = 59) : bookA T (k + 1) p n X Y = -1000 - q := by
  simp only [bookA]
  rw [if_neg h, hl]
  show (if T q = -1 then _ else _) = _
  rw [if_neg he, if_neg h9]
theorem bookA_n {T : Int → Int} {k n : Nat} {p x y s u q : Int} {X Y : Nat → Int} (h : ¬ 40 ≤ n) (hl : lineS T p X Y n = .inr (x, y, s, u, q)) (h9 : T q = 59) : bookA T (k + 1) p n X Y = bookA T k (q + 1) (n + 1) (pu X n x) (pu Y n y) := by
  simp only [bookA]
  rw [if_neg h, hl]
  show (if T q = -1 then _ else _) = _
  rw [if_neg (by omega), if_pos h9]
def BetQ (r : Sum Int (Int × Int)) (p a b res flt pl num lo hi : Int) : Prop := (res = 0 ∧ (r = .inl flt ∨ (∃ x q : Int, r = .inr (x, q) ∧ 0 ≤ x ∧ ¬ (a ≤ x ∧ x ≤ b) ∧ flt = -3000 - p))) ∨ (¬ res = 0 ∧ r = .inr (num, pl) ∧ (a ≤ num ∧ num ≤ b) ∧ lo < pl ∧ pl ≤ hi)
theorem dg_inr {M : Mem} {T : Int → Int} {p : Int} (hT : TXr M = T) (h : dgt (T p) = true) : 0 ≤ p ∧ p < (M 0 8).toInt := by
  by_cases c : 0 ≤ p ∧ p < (M 0 8).toInt
  · exact c
  · rw [← hT, show TXr M p = -1 from txt_out c] at h
    exact absurd h (by decide)
theorem tx_inr {M : Mem} {T : Int → Int} {p : Int} (hT : TXr M = T) (h : ¬ T p = -1) : p < (M 0 8).toInt := by
  by_cases c : 0 ≤ p ∧ p < (M 0 8).toInt
  · exact c.2
  · rw [← hT] at h
    exact absurd (txt_out c) h
theorem betQ_f {p a b res flt pl num lo hi : Int} {r : Sum Int (Int × Int)} (h : BetQ r p a b res flt pl num lo hi) (hr : res = 0) : r = .inl flt ∨ (∃ x q : Int, r = .inr (x, q) ∧ 0 ≤ x ∧ ¬ (a ≤ x ∧ x ≤ b) ∧ flt = -3000 - p) := (h.resolve_right (fun z => z.1 hr)).2
theorem betQ_v {p a b res flt pl num lo hi : Int} {r : Sum Int (Int × Int)} (h : BetQ r p a b res flt pl num lo hi) (hr : ¬ res = 0) : r = .inr (num, pl) ∧ (a ≤ num ∧ num ≤ b) ∧ lo < pl ∧ pl ≤ hi := (h.resolve_left (fun z => hr z.1)).2

def DgI (res : Int) (b : Bool) : Prop := ¬ res = 0 ↔ b = true
theorem dgi_1 {res : Int} {b : Bool} (h : DgI res b) (hr : ¬ res = 0) : b = true := h.mp hr
theorem dgi_0 {res : Int} {b : Bool} (h : DgI res b) (hr : res = 0) : b = false := Bool.eq_false_iff.mpr (fun z => h.mpr z hr)
def StA (f1 f2 f4 : Nat → Int32) (x y res : Int) : Prop := (res = -1 ∧ ∀ j : Nat, j < 40 → ¬ (f4 j).toInt = 0 → ¬ ((f1 j).toInt = x ∧ (f2 j).toInt = y)) ∨ (¬ res = -1 ∧ ∃ j : Nat, j < 40 ∧ ¬ (f4 j).toInt = 0 ∧ (f1 j).toInt = x ∧ (f2 j).toInt = y)
theorem sta_n {f1 f2 f4 : Nat → Int32} {x y res : Int} (h : StA f1 f2 f4 x y res) (hr : res = -1) : ∀ j : Nat, j < 40 → ¬ (f4 j).toInt = 0 → ¬ ((f1 j).toInt = x ∧ (f2 j).toInt = y) := (h.resolve_right (fun z => z.1 hr)).2
theorem sta_y {f1 f2 f4 : Nat → Int32} {x y res : Int} (h : StA f1 f2 f4 x y res) (hr : ¬ res = -1) : ∃ j : Nat, j < 40 ∧ ¬ (f4 j).toInt = 0 ∧ (f1 j).toInt = x ∧ (f2 j).toInt = y := (h.resolve_left (fun z => hr z.1)).2
theorem nar_b {x : Int32} (h : x.toInt = 0 ∨ x.toInt = 1) : (vp_nar .boolean x).toInt = x.toInt := by
  rcases b01_of h with rfl | rfl <;> decide
theorem flt_is {a b : Int32} (h1 : 0 ≤ a.toInt) (h2 : a.toInt ≤ 9) (h3 : 0 ≤ b.toInt) (h4 : b.toInt ≤ 1000) : ((-1000) * a - b).toInt = -1000 * a.toInt - b.toInt := by
  have e : ((-1000 : Int32)).toInt = -1000 := by decide
  have f : ((-1000) * a).toInt = -1000 * a.toInt := by rw [t_mul (by rw [e]; omega), e]
  have g := t_sub ((-1000) * a) b
  omega
theorem dg_in {M : Mem} {T : Int → Int} {p : Int} (hT : TXc M = T) (h : dgt (T p) = true) : 0 ≤ p ∧ p < (M 19 2).toInt := by
  by_cases c : 0 ≤ p ∧ p < (M 19 2).toInt
  · exact c
  · rw [← hT, show TXc M p = -1 from txt_out c] at h
    exact absurd h (by decide)
theorem tx_in {M : Mem} {T : Int → Int} {p : Int} (hT : TXc M = T) (h : ¬ T p = -1) : p < (M 19 2).toInt := by
  by_cases c : 0 ≤ p ∧ p < (M 19 2).toInt
  · exact c.2
  · rw [← hT] at h
    exact absurd (txt_out c) h
/-- what a notebook is answered with, behind a line that went well -/
def bookR (T : Int → Int) (n : Nat) (p : Int) (X Y : Nat → Int) : Int := if T p = -1 then (n : Int) else if T p = 59 then bookA T (41 - n) (p + 1) n X Y else -1000 - p
theorem bookR_e {T : Int → Int} {n : Nat} {p : Int} {X Y : Nat → Int} (h : T p = -1) : bookR T n p X Y = (n : Int) := if_pos h
theorem bookR_n {T : Int → Int} {n : Nat} {p : Int} {X Y : Nat → Int} (h : T p = 59) : bookR T n p X Y = bookA T (41 - n) (p + 1) n X Y := by
  unfold bookR
  rw [if_neg (by omega), if_pos h]
theorem bookR_w {T : Int → Int} {n : Nat} {p : Int} {X Y : Nat → Int} (h1 : ¬ T p = -1) (h : ¬ T p = 59) : bookR T n p X Y = -1000 - p := by
  unfold bookR
  rw [if_neg h1, if_neg h]
theorem bk_step {T : Int → Int} {X Y X' Y' : Nat → Int} {n : Nat} {p res flt pl x y s u lo hi : Int} (hn : n < 40) (hL : LinP (lineS T p X Y n) res flt pl x y s u lo hi) (hx : X' n = x) (hy : Y' n = y) (he : ∀ i, i < n → X' i = X i ∧ Y' i = Y i) : (res = 0 → bookA T (41 - n) p n X Y = flt) ∧ (¬ res = 0 → bookA T (41 - n) p n X Y = bookR T (n + 1) pl X' Y') := by
  rw [show 41 - n = (40 - n) + 1 from by omega]
  refine ⟨fun z => bookA_f (by omega) (linP_f hL z), fun z => ?_⟩
  have l1 := (linP_v hL z).1
  by_cases c1 : T pl = -1
  · rw [bookA_e (by omega) l1 c1, bookR_e c1]
    omega
  · by_cases c2 : T pl = 59
    · rw [bookA_n (by omega) l1 c2, bookR_n c2, show 41 - (n + 1) = 40 - n from by omega]
      exact bookA_ext (fun i hi => by
        by_cases e9 : i = n
        · rw [e9, pu_s, pu_s, hx, hy]; exact ⟨rfl, rfl⟩
        · rw [pu_n e9, pu_n e9]; exact ⟨(he i (by omega)).1.symm, (he i (by omega)).2.symm⟩)
    · rw [bookA_w (by omega) l1 c1 c2, bookR_w c1 c2]
theorem tx_ner {M : Mem} {T : Int → Int} {p : Int} (hT : TXr M = T) (h : 0 ≤ p ∧ p < (M 0 8).toInt) : ¬ T p = -1 := by
  rw [← hT, show TXr M p = _ from txt_in h]
  have := and255 (M 5 p.toNat)
  omega
theorem nb_eq {r1 r2 v : Int32} {b1 b2 : Nat → Int} {C D : Prop} {dC : Decidable C} {dD : Decidable D} (h : C ↔ D) (ht : D → ∀ j : Nat, (j : Int) < v.toInt → b1 j = b2 j) (h1 : r1.toInt = @ite _ C dC (bookA (txt b1 v.toInt) 41 0 0 (fun _ => 0) (fun _ => 0)) (-1)) (h2 : r2.toInt = @ite _ D dD (bookA (txt b2 v.toInt) 41 0 0 (fun _ => 0) (fun _ => 0)) (-1)) : r1 = r2 := t_of (by
  rw [h1, h2]
  by_cases c : D
  · rw [if_pos c, if_pos (h.mpr c), txt_ext (ht c)]
  · rw [if_neg c, if_neg (fun z => c (h.mp z))])
theorem o5_X7_here (M : Mem) (T : Int → Int) (hT : TXc M = T) (hp : 0 ≤ (M 19 3).toInt ∧ (M 19 3).toInt ≤ (M 19 2).toInt ∧ (M 19 2).toInt ≤ 240) : Wp (f_X7_here M) (fun q => (q.toInt = T (M 19 3).toInt)) := by
  refine wp_ite (fun c4 => ?_) (fun c4 => ?_)
  · exact wp_some (False.elim (by omega))
  · refine wp_ite (fun c15 => ?_) (fun c15 => ?_)
    · exact wp_some (by show (-1 : Int32).toInt = T (M 19 3).toInt; rw [← hT]; exact (txt_out (by omega)).symm)
    · refine wp_ite (fun c25 => ?_) (fun c25 => ?_)
      · exact wp_some (False.elim (by omega))
      · refine wp_gd (by omega) ?_
        exact wp_some (by show (M 20 (ix (M 19 3))).toInt = T (M 19 3).toInt; rw [← hT]; exact (txt_in (b := fun j => (M 20 j).toInt) (n := (M 19 2).toInt) (p := (M 19 3).toInt) (by omega)).symm)
theorem o5_X7_isDigit (M : Mem) (v0 : Int32) : Wp (f_X7_isDigit v0) (fun q => (q = 0 ∨ q = 1) ∧ (¬ q.toInt = 0 ↔ dgt v0.toInt = true)) := by
  refine wp_ite (fun c3 => ?_) (fun c3 => ?_)
  · exact wp_some ⟨b01_0, ⟨fun z => absurd nI0 z, fun z => absurd (dgt_i z) (by omega)⟩⟩
  · refine wp_ite (fun c9 => ?_) (fun c9 => ?_)
    · exact wp_some ⟨b01_0, ⟨fun z => absurd nI0 z, fun z => absurd (dgt_i z) (by omega)⟩⟩
    · exact wp_some ⟨b01_1, ⟨fun _ => dgt_t (by omega), fun _ => by decide⟩⟩
theorem o5_X7_refuse (M : Mem) (v1 : Int32) (v2 : Int32) : Wp (f_X7_refuse M v1 v2) (fun q => (q.1 = 0 ∨ q.1 = 1) ∧ (∀ a i, ¬ ((a = 19 ∧ i = 4)) → q.2 a i = M a i) ∧ (q.1.toInt = 0) ∧ (0 ≤ v1.toInt → v1.toInt ≤ 9 → 0 ≤ v2.toInt → v2.toInt ≤ 1000 → (q.2 19 4).toInt = -1000 * v1.toInt - v2.toInt)) := by
  refine wp_bnd (fun M_1 eM_1 => ?_)
  exact wp_some ⟨b01_0, (fun a i q0 => ((congrFun (congrFun eM_1 a) i).trans ((mset_ne (fun h9 => q0 (h9))).trans rfl))), nI0, (fun z1 z2 z3 z4 => by show (M_1 19 4).toInt = _; rw [eM_1, mset_eq]; exact flt_is z1 z2 z3 z4)⟩
set_option maxHeartbeats 4000000 in
theorem o5_X7_number (M : Mem) (v1 : Int32) (T : Int → Int) (hT : TXc M = T) (hk : 1 ≤ v1.toInt ∧ v1.toInt ≤ 5) (hp : 0 ≤ (M 19 3).toInt ∧ (M 19 3).toInt ≤ (M 19 2).toInt ∧ (M 19 2).toInt ≤ 240) : Wp (f_X7_number M v1) (fun q => (∀ a i, ¬ ((a = 19 ∧ i = 3) ∨ (a = 19 ∧ i = 4)) → q.2 a i = M a i) ∧ (NumP (numS T (M 19 3).toInt (ix v1)) q.1.toInt (q.2 19 4).toInt (q.2 19 3).toInt (M 19 3).toInt (M 19 2).toInt)) := by
  have ft1 := t_rng v1
  refine wp_lp3 (fun M4 y2_4 y3_4 => (0 ≤ y3_4.toInt) ∧ (∀ a i, ¬ ((a = 19 ∧ i = 3)) → M4 a i = M a i) ∧ ((M4 19 3).toInt = (M 19 3).toInt + y3_4.toInt ∧ y3_4.toInt ≤ v1.toInt ∧ (M4 19 3).toInt ≤ (M 19 2).toInt) ∧ (∀ i : Nat, (i : Int) < y3_4.toInt → dgt (T ((M 19 3).toInt + i)) = true) ∧ (y2_4.toInt = nvv T (M 19 3).toInt (ix y3_4))) (fun M4 y2_4 y3_4 => (v1.toInt - y3_4.toInt).toNat) (fun ag4 M4 y2_4 y3_4 hI4 ih4 => ?_) FU M (nI 0) (nI 0) ⟨(by have f0 := t_lit 0; omega), (fun _ _ _ => rfl), (by have := t_lit 0; omega), (fun i hi => absurd hi (by have := t_lit 0; omega)), (by rw [show ix (nI 0) = 0 from (by decide)]; exact nI0)⟩ (fu_lt (by have f0 := t_lit 0; omega))
  obtain ⟨hi4, hf_M4, h4, hd4, hv4⟩ := hI4
  have fk := t_ixn v1 (by omega)
  have fy := t_ixn y3_4 (by omega)
  have hnb := nvv_bd (T := T) (p := (M 19 3).toInt) (c := ix y3_4) (fun i hi => hd4 i (by omega))
  have hpw := pow10_le (show ix y3_4 ≤ 5 by omega)
  have hp5 : (10 : Int) ^ 5 = 100000 := by decide
  have j48 : (v1.toInt ≤ y3_4.toInt ∨ dgt (T (M4 19 3).toInt) = false) → Wp (f_X7_number_L48 M4 y2_4 y3_4) (fun q => (∀ a i, ¬ ((a = 19 ∧ i = 3) ∨ (a = 19 ∧ i = 4)) → q.2 a i = M a i) ∧ (NumP (numS T (M 19 3).toInt (ix v1)) q.1.toInt (q.2 19 4).toInt (q.2 19 3).toInt (M 19 3).toInt (M 19 2).toInt)) := by
    intro h48
    unfold f_X7_number_L48
    refine wp_ite (fun c49 => ?_) (fun c49 => ?_)
    · refine wp_cb2 (o5_X7_refuse M4 (nI 1) (M4 19 3)) (fun r_5 M_6 he58 hq58 => ?_)
      obtain ⟨hz_r_5, hg_M_6, hw_58, hq_58⟩ := hq58
      replace hw_58 : r_5.toInt = 0 := hw_58
      have := t_lit 1
      replace hq_58 : 0 ≤ (nI 1).toInt → (nI 1).toInt ≤ 9 → 0 ≤ (M4 19 3).toInt → (M4 19 3).toInt ≤ 1000 → (M_6 19 4).toInt = -1000 * (nI 1).toInt - (M4 19 3).toInt := hq_58
      have := t_lit 1
      replace hg_M_6 : ∀ a i, ¬ ((a = 19 ∧ i = 4)) → M_6 a i = M4 a i := hg_M_6
      exact wp_some ⟨(fun a i q0 => ((hg_M_6 a i (fun h9 => q0 (Or.inr (h9)))).trans ((hf_M4 a i (fun h9 => q0 (Or.inl h9))).trans rfl))), (by show NumP _ (-1 : Int32).toInt (M_6 19 4).toInt (M_6 19 3).toInt _ _; rw [numS_0 (by omega) (by rw [show (M 19 3).toInt = (M4 19 3).toInt from (by omega)]; exact h48.resolve_left (by omega))]; exact ⟨by decide, by rw [hq_58 (by decide) (by decide) (by omega) (by omega)]; have := t_lit 1; omega⟩)⟩
    · refine wp_bind2 (o5_X7_here M4 T ((txc_fr ((hf_M4 19 2 (by first | decide | (rcases hc0 with h | h <;> rw [h] <;> simp; done) | (rcases hb0 with h | h | h <;> rw [h] <;> simp; done) | (simp; done) | omega)).trans rfl) (fun j => ((hf_M4 20 j (by first | decide | (rcases hc0 with h | h <;> rw [h] <;> simp; done) | (rcases hb0 with h | h | h <;> rw [h] <;> simp; done) | (simp; done) | omega)).trans rfl))).trans hT) (by rw [show M4 19 2 = M 19 2 from ((hf_M4 19 2 (by first | decide | (rcases hc0 with h | h <;> rw [h] <;> simp; done) | (rcases hb0 with h | h | h <;> rw [h] <;> simp; done) | (simp; done) | omega)).trans rfl)]; omega)) (fun r_1 he65 hq65 => ?_)
      have hh_65 := hq65
      replace hh_65 : r_1.toInt = T (M4 19 3).toInt := hh_65
      refine wp_bind2 (o5_X7_isDigit M4 r_1) (fun r_2 he68 hq68 => ?_)
      obtain ⟨hz_r_2, hd_68⟩ := hq68
      replace hd_68 : ¬ r_2.toInt = 0 ↔ dgt r_1.toInt = true := hd_68
      refine wp_ite (fun c71 => ?_) (fun c71 => ?_)
      · exact wp_some ⟨(fun a i q0 => ((hf_M4 a i (fun h9 => q0 (Or.inl h9))).trans rfl)), (by show NumP _ y2_4.toInt (M4 19 4).toInt (M4 19 3).toInt _ _; rw [numS_v (c := ix y3_4) (by omega) (by omega) (fun i hi => hd4 i (by omega)) (by rw [show (M 19 3).toInt + ((ix y3_4 : Nat) : Int) = (M4 19 3).toInt from (by omega), ← hh_65]; exact Bool.eq_false_iff.mpr (fun z => hd_68.mpr z c71))]; exact ⟨hv4, hnb.1, by show nvv T _ _ ≤ 99999; omega, by show (M4 19 3).toInt = (M 19 3).toInt + _; omega, by show (M 19 3).toInt < (M 19 3).toInt + _; omega, by show (M 19 3).toInt + _ ≤ _; omega⟩)⟩
      · refine wp_cb2 (o5_X7_refuse M4 (nI 2) (M4 19 3)) (fun r_3 M_4 he80 hq80 => ?_)
        obtain ⟨hz_r_3, hg_M_4, hw_80, hq_80⟩ := hq80
        replace hw_80 : r_3.toInt = 0 := hw_80
        have := t_lit 2
        replace hq_80 : 0 ≤ (nI 2).toInt → (nI 2).toInt ≤ 9 → 0 ≤ (M4 19 3).toInt → (M4 19 3).toInt ≤ 1000 → (M_4 19 4).toInt = -1000 * (nI 2).toInt - (M4 19 3).toInt := hq_80
        have := t_lit 2
        replace hg_M_4 : ∀ a i, ¬ ((a = 19 ∧ i = 4)) → M_4 a i = M4 a i := hg_M_4
        exact wp_some ⟨(fun a i q0 => ((hg_M_4 a i (fun h9 => q0 (Or.inr (h9)))).trans ((hf_M4 a i (fun h9 => q0 (Or.inl h9))).trans rfl))), (by show NumP _ (-1 : Int32).toInt (M_4 19 4).toInt (M_4 19 3).toInt _ _; have hdg : dgt (T (M4 19 3).toInt) = true := (by rw [← hh_65]; exact hd_68.mp c71); have hful : v1.toInt = y3_4.toInt := (by have := h48.resolve_right (by rw [hdg]; decide); omega); rw [numS_2 (by omega) (fun i hi => hd4 i (by omega)) (by rw [show (M 19 3).toInt + ((ix v1 : Nat) : Int) = (M4 19 3).toInt from (by omega)]; exact hdg)]; exact ⟨by decide, by rw [hq_80 (by decide) (by decide) (by omega) (by omega)]; have := t_lit 2; omega⟩)⟩
  refine wp_ite (fun c6 => ?_) (fun c6 => ?_)
  · exact j48 (Or.inl c6)
  · refine wp_bind2 (o5_X7_here M4 T ((txc_fr ((hf_M4 19 2 (by first | decide | (rcases hc0 with h | h <;> rw [h] <;> simp; done) | (rcases hb0 with h | h | h <;> rw [h] <;> simp; done) | (simp; done) | omega)).trans rfl) (fun j => ((hf_M4 20 j (by first | decide | (rcases hc0 with h | h <;> rw [h] <;> simp; done) | (rcases hb0 with h | h | h <;> rw [h] <;> simp; done) | (simp; done) | omega)).trans rfl))).trans hT) (by rw [show M4 19 2 = M 19 2 from ((hf_M4 19 2 (by first | decide | (rcases hc0 with h | h <;> rw [h] <;> simp; done) | (rcases hb0 with h | h | h <;> rw [h] <;> simp; done) | (simp; done) | omega)).trans rfl)]; omega)) (fun r_7 he10 hq10 => ?_)
    have hh_10 := hq10
    replace hh_10 : r_7.toInt = T (M4 19 3).toInt := hh_10
    refine wp_bind2 (o5_X7_isDigit M4 r_7) (fun r_8 he13 hq13 => ?_)
    obtain ⟨hz_r_8, hd_13⟩ := hq13
    replace hd_13 : ¬ r_8.toInt = 0 ↔ dgt r_7.toInt = true := hd_13
    refine wp_ite (fun c16 => ?_) (fun c16 => ?_)
    · exact j48 (Or.inr (by rw [← hh_10]; exact Bool.eq_false_iff.mpr (fun z => hd_13.mpr z c16)))
    · refine wp_bind2 (o5_X7_here M4 T ((txc_fr ((hf_M4 19 2 (by first | decide | (rcases hc0 with h | h <;> rw [h] <;> simp; done) | (rcases hb0 with h | h | h <;> rw [h] <;> simp; done) | (simp; done) | omega)).trans rfl) (fun j => ((hf_M4 20 j (by first | decide | (rcases hc0 with h | h <;> rw [h] <;> simp; done) | (rcases hb0 with h | h | h <;> rw [h] <;> simp; done) | (simp; done) | omega)).trans rfl))).trans hT) (by rw [show M4 19 2 = M 19 2 from ((hf_M4 19 2 (by first | decide | (rcases hc0 with h | h <;> rw [h] <;> simp; done) | (rcases hb0 with h | h | h <;> rw [h] <;> simp; done) | (simp; done) | omega)).trans rfl)]; omega)) (fun r_9 he24 hq24 => ?_)
      have hh_24 := hq24
      replace hh_24 : r_9.toInt = T (M4 19 3).toInt := hh_24
      have hdg : dgt (T (M4 19 3).toInt) = true := by rw [← hh_10]; exact hd_13.mp c16
      have hin := dg_in hT hdg
      have hd9 := dgt_i hdg
      have hi := i_up (x := y3_4) (by omega)
      refine wp_bnd (fun x_10 ex_10 => ?_)
      have hx10 : x_10.toInt = 10 * y2_4.toInt + (r_9.toInt - 48) := by rw [ex_10]; exact num_step (by omega) (by omega)
      refine wp_bnd (fun M_11 eM_11 => ?_)
      have hm3 : (M_11 19 3).toInt = (M4 19 3).toInt + 1 := by rw [eM_11, mset_eq]; exact (i_up (by omega)).2
      exact ih4 M_11 x_10 (y3_4 + (nI 1)) ⟨(by have f0 := t_lit 1; have f1 := t_add y3_4 (nI 1); omega), (fun a i q0 => ((congrFun (congrFun eM_11 a) i).trans ((mset_ne (fun h9 => q0 (h9))).trans ((hf_M4 a i (fun h9 => q0 (h9))).trans rfl)))), (by rw [hm3, hi.2]; omega), (fun i hz => by rw [hi.2] at hz; by_cases e9 : (i : Int) = y3_4.toInt; (rw [show (M 19 3).toInt + (i : Int) = (M4 19 3).toInt from (by omega)]; exact hdg); exact hd4 i (by omega)), (by rw [hi.1, nvv_s, ← hv4, hx10, hh_24, show (M4 19 3).toInt = (M 19 3).toInt + ((ix y3_4 : Nat) : Int) from (by omega)])⟩ (by have f0 := t_lit 1; have f1 := t_add y3_4 (nI 1); omega)
theorem o5_X7_skip (M : Mem) (v1 : Int32) (T : Int → Int) (hT : TXc M = T) (hp : 0 ≤ (M 19 3).toInt ∧ (M 19 3).toInt ≤ (M 19 2).toInt ∧ (M 19 2).toInt ≤ 240) (hv : 0 ≤ v1.toInt) : Wp (f_X7_skip M v1) (fun q => (q.1 = 0 ∨ q.1 = 1) ∧ (∀ a i, ¬ ((a = 19 ∧ i = 3) ∨ (a = 19 ∧ i = 4)) → q.2 a i = M a i) ∧ (SkpP (T (M 19 3).toInt) v1.toInt q.1.toInt (M 19 3).toInt (q.2 19 3).toInt (M 19 2).toInt (q.2 19 4).toInt)) := by
  refine wp_bind2 (o5_X7_here M T hT hp) (fun r_1 he1 hq1 => ?_)
  have hh_1 := hq1
  replace hh_1 : r_1.toInt = T (M 19 3).toInt := hh_1
  refine wp_ite (fun c5 => ?_) (fun c5 => ?_)
  · have hin := tx_in hT (p := (M 19 3).toInt) (by rw [← hh_1]; omega)
    refine wp_bnd (fun M_2 eM_2 => ?_)
    exact wp_some ⟨b01_1, (fun a i q0 => ((congrFun (congrFun eM_2 a) i).trans ((mset_ne (fun h9 => q0 (Or.inl h9))).trans rfl))), (Or.inl ⟨ne1, by rw [← hh_1]; exact c5, by show (M_2 19 3).toInt = _; rw [eM_2, mset_eq]; exact (i_up (by omega)).2, hin⟩)⟩
  · refine wp_cb2 (o5_X7_refuse M (nI 1) (M 19 3)) (fun r_3 M_4 he14 hq14 => ?_)
    obtain ⟨hz_r_3, hg_M_4, hw_14, hq_14⟩ := hq14
    replace hw_14 : r_3.toInt = 0 := hw_14
    have := t_lit 1
    replace hq_14 : 0 ≤ (nI 1).toInt → (nI 1).toInt ≤ 9 → 0 ≤ (M 19 3).toInt → (M 19 3).toInt ≤ 1000 → (M_4 19 4).toInt = -1000 * (nI 1).toInt - (M 19 3).toInt := hq_14
    have := t_lit 1
    replace hg_M_4 : ∀ a i, ¬ ((a = 19 ∧ i = 4)) → M_4 a i = M a i := hg_M_4
    refine wp_gb hz_r_3 ?_
    exact wp_some ⟨hz_r_3, (fun a i q0 => ((hg_M_4 a i (fun h9 => q0 (Or.inr (h9)))).trans rfl)), (Or.inr ⟨hw_14, by rw [← hh_1]; exact c5, by show (M_4 19 4).toInt = _; rw [hq_14 (by decide) (by decide) (by omega) (by omega)]; have := t_lit 1; omega⟩)⟩
theorem o5_X2_stoneAt {b : Nat} (hb : isF b) (M : Mem) (v1 : Int32) (v2 : Int32) : Wp (f_X2_stoneAt b M v1 v2) (fun q => (StA (M (b + 1)) (M (b + 2)) (M (b + 4)) v1.toInt v2.toInt q.toInt)) := by
  have hb0 : b = 1 ∨ b = 7 ∨ b = 13 := hb
  refine wp_lp1 (fun y3_2 => (0 ≤ y3_2.toInt) ∧ (∀ j : Nat, (j : Int) < y3_2.toInt → ¬ (M (b + 4) j).toInt = 0 → ¬ ((M (b + 1) j).toInt = v1.toInt ∧ (M (b + 2) j).toInt = v2.toInt))) (fun y3_2 => (40 - y3_2.toInt).toNat) (fun ag2 y3_2 hI2 ih2 => ?_) FU (nI 0) ⟨(by have f0 := t_lit 0; omega), (fun j hj => absurd hj (by have := t_lit 0; omega))⟩ (fu_lt (by have f0 := t_lit 0; omega))
  obtain ⟨hi2, h2⟩ := hI2
  refine wp_ite (fun c5 => ?_) (fun c5 => ?_)
  · exact wp_some (Or.inl ⟨by decide, fun j hj => h2 j (by omega)⟩)
  · have fy := t_ixn y3_2 (by omega)
    have hi := i_up (x := y3_2) (by omega)
    refine wp_gd (by omega) ?_
    refine wp_ite (fun c14 => ?_) (fun c14 => ?_)
    · exact ih2 (y3_2 + (nI 1)) ⟨(by have f0 := t_lit 1; have f1 := t_add y3_2 (nI 1); omega), (fun j hj => by rw [hi.2] at hj; by_cases e9 : j = ix y3_2; (rw [e9]; exact fun z => absurd c14 z); exact h2 j (by omega))⟩ (by have f0 := t_lit 1; have f1 := t_add y3_2 (nI 1); omega)
    · refine wp_gd (by omega) ?_
      refine wp_ite (fun c24 => ?_) (fun c24 => ?_)
      · refine wp_gd (by omega) ?_
        refine wp_ite (fun c34 => ?_) (fun c34 => ?_)
        · exact wp_some (Or.inr ⟨by omega, ix y3_2, by omega, c14, c24, c34⟩)
        · exact ih2 (y3_2 + (nI 1)) ⟨(by have f0 := t_lit 1; have f1 := t_add y3_2 (nI 1); omega), (fun j hj => by rw [hi.2] at hj; by_cases e9 : j = ix y3_2; (rw [e9]; exact fun _ z => c34 z.2); exact h2 j (by omega))⟩ (by have f0 := t_lit 1; have f1 := t_add y3_2 (nI 1); omega)
      · exact ih2 (y3_2 + (nI 1)) ⟨(by have f0 := t_lit 1; have f1 := t_add y3_2 (nI 1); omega), (fun j hj => by rw [hi.2] at hj; by_cases e9 : j = ix y3_2; (rw [e9]; exact fun _ z => c24 z.1); exact h2 j (by omega))⟩ (by have f0 := t_lit 1; have f1 := t_add y3_2 (nI 1); omega)
theorem o5_X2_lay {b : Nat} (hb : isF b) (M : Mem) (v1 : Int32) (v2 : Int32) (v3 : Int32) (v4 : Int32) (v5 : Int32) : Wp (f_X2_lay b M v1 v2 v3 v4 v5) (fun q => (∀ a i, ¬ (a = (b + 1) ∨ a = (b + 2) ∨ a = (b + 3) ∨ a = (b + 4) ∨ a = (b + 5)) → q a i = M a i) ∧ (0 ≤ v1.toInt → v1.toInt < 40 → q (b + 1) (ix v1) = v2 ∧ q (b + 2) (ix v1) = v3 ∧ ¬ (q (b + 4) (ix v1)).toInt = 0 ∧ q (b + 3) (ix v1) = v4 ∧ q (b + 5) (ix v1) = vp_nar .boolean v5 ∧ ∀ j : Nat, ¬ j = ix v1 → q (b + 1) j = M (b + 1) j ∧ q (b + 2) j = M (b + 2) j ∧ q (b + 4) j = M (b + 4) j)) := by
  have hb0 : b = 1 ∨ b = 7 ∨ b = 13 := hb
  refine wp_ite (fun c1 => ?_) (fun c1 => ?_)
  · exact wp_some ⟨(fun _ _ _ => rfl), (fun z1 z2 => by omega)⟩
  · refine wp_ite (fun c7 => ?_) (fun c7 => ?_)
    · refine wp_gd (by omega) ?_
      refine wp_bnd (fun M_1 eM_1 => ?_)
      refine wp_gd (by omega) ?_
      refine wp_bnd (fun M_2 eM_2 => ?_)
      refine wp_gd (by omega) ?_
      refine wp_bnd (fun M_3 eM_3 => ?_)
      refine wp_gd (by omega) ?_
      refine wp_bnd (fun M_4 eM_4 => ?_)
      refine wp_gd (by omega) ?_
      refine wp_bnd (fun M_5 eM_5 => ?_)
      exact wp_some ⟨(fun a i q0 => ((congrFun (congrFun eM_5 a) i).trans ((mset_ne (fun h9 => q0 (Or.inr (Or.inr (Or.inr (Or.inl (h9).1)))))).trans ((congrFun (congrFun eM_4 a) i).trans ((mset_ne (fun h9 => q0 (Or.inr (Or.inr (Or.inr (Or.inr ((h9).1))))))).trans ((congrFun (congrFun eM_3 a) i).trans ((mset_ne (fun h9 => q0 (Or.inr (Or.inr (Or.inl (h9).1))))).trans ((congrFun (congrFun eM_2 a) i).trans ((mset_ne (fun h9 => q0 (Or.inr (Or.inl (h9).1)))).trans ((congrFun (congrFun eM_1 a) i).trans ((mset_ne (fun h9 => q0 (Or.inl (h9).1))).trans rfl))))))))))), (fun _ _ => ⟨by rw [eM_5, mset_ne (by first | exact nz1 (by decide) | exact nz2 (by decide) | exact nz1 (nzA hc0 (by decide)) | exact nz1 (nzE (by decide)) | exact nz1 (nzB hc0 (by decide)) | exact nz1 (nzC hc0 (by decide)) | exact nz1 (nzD hc0 (by decide)) | exact nz1 (nzF (by decide)) | exact nz1 (nzG (by decide)) | omega), eM_4, mset_ne (by first | exact nz1 (by decide) | exact nz2 (by decide) | exact nz1 (nzA hc0 (by decide)) | exact nz1 (nzE (by decide)) | exact nz1 (nzB hc0 (by decide)) | exact nz1 (nzC hc0 (by decide)) | exact nz1 (nzD hc0 (by decide)) | exact nz1 (nzF (by decide)) | exact nz1 (nzG (by decide)) | omega), eM_3, mset_ne (by first | exact nz1 (by decide) | exact nz2 (by decide) | exact nz1 (nzA hc0 (by decide)) | exact nz1 (nzE (by decide)) | exact nz1 (nzB hc0 (by decide)) | exact nz1 (nzC hc0 (by decide)) | exact nz1 (nzD hc0 (by decide)) | exact nz1 (nzF (by decide)) | exact nz1 (nzG (by decide)) | omega), eM_2, mset_ne (by first | exact nz1 (by decide) | exact nz2 (by decide) | exact nz1 (nzA hc0 (by decide)) | exact nz1 (nzE (by decide)) | exact nz1 (nzB hc0 (by decide)) | exact nz1 (nzC hc0 (by decide)) | exact nz1 (nzD hc0 (by decide)) | exact nz1 (nzF (by decide)) | exact nz1 (nzG (by decide)) | omega), eM_1, mset_eq], by rw [eM_5, mset_ne (by first | exact nz1 (by decide) | exact nz2 (by decide) | exact nz1 (nzA hc0 (by decide)) | exact nz1 (nzE (by decide)) | exact nz1 (nzB hc0 (by decide)) | exact nz1 (nzC hc0 (by decide)) | exact nz1 (nzD hc0 (by decide)) | exact nz1 (nzF (by decide)) | exact nz1 (nzG (by decide)) | omega), eM_4, mset_ne (by first | exact nz1 (by decide) | exact nz2 (by decide) | exact nz1 (nzA hc0 (by decide)) | exact nz1 (nzE (by decide)) | exact nz1 (nzB hc0 (by decide)) | exact nz1 (nzC hc0 (by decide)) | exact nz1 (nzD hc0 (by decide)) | exact nz1 (nzF (by decide)) | exact nz1 (nzG (by decide)) | omega), eM_3, mset_ne (by first | exact nz1 (by decide) | exact nz2 (by decide) | exact nz1 (nzA hc0 (by decide)) | exact nz1 (nzE (by decide)) | exact nz1 (nzB hc0 (by decide)) | exact nz1 (nzC hc0 (by decide)) | exact nz1 (nzD hc0 (by decide)) | exact nz1 (nzF (by decide)) | exact nz1 (nzG (by decide)) | omega), eM_2, mset_eq], by rw [eM_5, mset_eq]; decide, by rw [eM_5, mset_ne (by first | exact nz1 (by decide) | exact nz2 (by decide) | exact nz1 (nzA hc0 (by decide)) | exact nz1 (nzE (by decide)) | exact nz1 (nzB hc0 (by decide)) | exact nz1 (nzC hc0 (by decide)) | exact nz1 (nzD hc0 (by decide)) | exact nz1 (nzF (by decide)) | exact nz1 (nzG (by decide)) | omega), eM_4, mset_ne (by first | exact nz1 (by decide) | exact nz2 (by decide) | exact nz1 (nzA hc0 (by decide)) | exact nz1 (nzE (by decide)) | exact nz1 (nzB hc0 (by decide)) | exact nz1 (nzC hc0 (by decide)) | exact nz1 (nzD hc0 (by decide)) | exact nz1 (nzF (by decide)) | exact nz1 (nzG (by decide)) | omega), eM_3, mset_eq], by rw [eM_5, mset_ne (by first | exact nz1 (by decide) | exact nz2 (by decide) | exact nz1 (nzA hc0 (by decide)) | exact nz1 (nzE (by decide)) | exact nz1 (nzB hc0 (by decide)) | exact nz1 (nzC hc0 (by decide)) | exact nz1 (nzD hc0 (by decide)) | exact nz1 (nzF (by decide)) | exact nz1 (nzG (by decide)) | omega), eM_4, mset_eq], fun j hj => ⟨by rw [eM_5, mset_ne (by first | exact nz1 (by decide) | exact nz2 (by decide) | exact nz1 (nzA hc0 (by decide)) | exact nz1 (nzE (by decide)) | exact nz1 (nzB hc0 (by decide)) | exact nz1 (nzC hc0 (by decide)) | exact nz1 (nzD hc0 (by decide)) | exact nz1 (nzF (by decide)) | exact nz1 (nzG (by decide)) | omega), eM_4, mset_ne (by first | exact nz1 (by decide) | exact nz2 (by decide) | exact nz1 (nzA hc0 (by decide)) | exact nz1 (nzE (by decide)) | exact nz1 (nzB hc0 (by decide)) | exact nz1 (nzC hc0 (by decide)) | exact nz1 (nzD hc0 (by decide)) | exact nz1 (nzF (by decide)) | exact nz1 (nzG (by decide)) | omega), eM_3, mset_ne (by first | exact nz1 (by decide) | exact nz2 (by decide) | exact nz1 (nzA hc0 (by decide)) | exact nz1 (nzE (by decide)) | exact nz1 (nzB hc0 (by decide)) | exact nz1 (nzC hc0 (by decide)) | exact nz1 (nzD hc0 (by decide)) | exact nz1 (nzF (by decide)) | exact nz1 (nzG (by decide)) | omega), eM_2, mset_ne (by first | exact nz1 (by decide) | exact nz2 (by decide) | exact nz1 (nzA hc0 (by decide)) | exact nz1 (nzE (by decide)) | exact nz1 (nzB hc0 (by decide)) | exact nz1 (nzC hc0 (by decide)) | exact nz1 (nzD hc0 (by decide)) | exact nz1 (nzF (by decide)) | exact nz1 (nzG (by decide)) | omega), eM_1, mset_ne (by first | exact nz1 (by decide) | exact nz2 (by decide) | exact nz1 (nzA hc0 (by decide)) | exact nz1 (nzE (by decide)) | exact nz1 (nzB hc0 (by decide)) | exact nz1 (nzC hc0 (by decide)) | exact nz1 (nzD hc0 (by decide)) | exact nz1 (nzF (by decide)) | exact nz1 (nzG (by decide)) | omega)], by rw [eM_5, mset_ne (by first | exact nz1 (by decide) | exact nz2 (by decide) | exact nz1 (nzA hc0 (by decide)) | exact nz1 (nzE (by decide)) | exact nz1 (nzB hc0 (by decide)) | exact nz1 (nzC hc0 (by decide)) | exact nz1 (nzD hc0 (by decide)) | exact nz1 (nzF (by decide)) | exact nz1 (nzG (by decide)) | omega), eM_4, mset_ne (by first | exact nz1 (by decide) | exact nz2 (by decide) | exact nz1 (nzA hc0 (by decide)) | exact nz1 (nzE (by decide)) | exact nz1 (nzB hc0 (by decide)) | exact nz1 (nzC hc0 (by decide)) | exact nz1 (nzD hc0 (by decide)) | exact nz1 (nzF (by decide)) | exact nz1 (nzG (by decide)) | omega), eM_3, mset_ne (by first | exact nz1 (by decide) | exact nz2 (by decide) | exact nz1 (nzA hc0 (by decide)) | exact nz1 (nzE (by decide)) | exact nz1 (nzB hc0 (by decide)) | exact nz1 (nzC hc0 (by decide)) | exact nz1 (nzD hc0 (by decide)) | exact nz1 (nzF (by decide)) | exact nz1 (nzG (by decide)) | omega), eM_2, mset_ne (by first | exact nz1 (by decide) | exact nz2 (by decide) | exact nz1 (nzA hc0 (by decide)) | exact nz1 (nzE (by decide)) | exact nz1 (nzB hc0 (by decide)) | exact nz1 (nzC hc0 (by decide)) | exact nz1 (nzD hc0 (by decide)) | exact nz1 (nzF (by decide)) | exact nz1 (nzG (by decide)) | omega), eM_1, mset_ne (by first | exact nz1 (by decide) | exact nz2 (by decide) | exact nz1 (nzA hc0 (by decide)) | exact nz1 (nzE (by decide)) | exact nz1 (nzB hc0 (by decide)) | exact nz1 (nzC hc0 (by decide)) | exact nz1 (nzD hc0 (by decide)) | exact nz1 (nzF (by decide)) | exact nz1 (nzG (by decide)) | omega)], by rw [eM_5, mset_ne (by first | exact nz1 (by decide) | exact nz2 (by decide) | exact nz1 (nzA hc0 (by decide)) | exact nz1 (nzE (by decide)) | exact nz1 (nzB hc0 (by decide)) | exact nz1 (nzC hc0 (by decide)) | exact nz1 (nzD hc0 (by decide)) | exact nz1 (nzF (by decide)) | exact nz1 (nzG (by decide)) | omega), eM_4, mset_ne (by first | exact nz1 (by decide) | exact nz2 (by decide) | exact nz1 (nzA hc0 (by decide)) | exact nz1 (nzE (by decide)) | exact nz1 (nzB hc0 (by decide)) | exact nz1 (nzC hc0 (by decide)) | exact nz1 (nzD hc0 (by decide)) | exact nz1 (nzF (by decide)) | exact nz1 (nzG (by decide)) | omega), eM_3, mset_ne (by first | exact nz1 (by decide) | exact nz2 (by decide) | exact nz1 (nzA hc0 (by decide)) | exact nz1 (nzE (by decide)) | exact nz1 (nzB hc0 (by decide)) | exact nz1 (nzC hc0 (by decide)) | exact nz1 (nzD hc0 (by decide)) | exact nz1 (nzF (by decide)) | exact nz1 (nzG (by decide)) | omega), eM_2, mset_ne (by first | exact nz1 (by decide) | exact nz2 (by decide) | exact nz1 (nzA hc0 (by decide)) | exact nz1 (nzE (by decide)) | exact nz1 (nzB hc0 (by decide)) | exact nz1 (nzC hc0 (by decide)) | exact nz1 (nzD hc0 (by decide)) | exact nz1 (nzF (by decide)) | exact nz1 (nzG (by decide)) | omega), eM_1, mset_ne (by first | exact nz1 (by decide) | exact nz2 (by decide) | exact nz1 (nzA hc0 (by decide)) | exact nz1 (nzE (by decide)) | exact nz1 (nzB hc0 (by decide)) | exact nz1 (nzC hc0 (by decide)) | exact nz1 (nzD hc0 (by decide)) | exact nz1 (nzF (by decide)) | exact nz1 (nzG (by decide)) | omega)]⟩⟩)⟩
    · exact wp_some ⟨(fun _ _ _ => rfl), (fun z1 z2 => by omega)⟩
set_option maxHeartbeats 8000000 in
theorem o5_X9_readLine {b : Nat} (hb : isF b) (M : Mem) (v2 : Int32) (T : Int → Int) (hT : TXc M = T) (hp : 0 ≤ (M 19 3).toInt ∧ (M 19 3).toInt ≤ (M 19 2).toInt ∧ (M 19 2).toInt ≤ 240) (hv2 : 0 ≤ v2.toInt ∧ v2.toInt < 40) (hto : ∀ j : Nat, j < 40 → ((M (b + 4) j).toInt = 0 ↔ v2.toInt ≤ (j : Int))) : Wp (f_X9_readLine b M v2) (fun q => (q.1 = 0 ∨ q.1 = 1) ∧ (∀ a i, ¬ ((a = 19 ∧ i = 3) ∨ (a = 19 ∧ i = 4) ∨ a = (b + 1) ∨ a = (b + 2) ∨ a = (b + 3) ∨ a = (b + 4) ∨ a = (b + 5)) → q.2 a i = M a i) ∧ (LinP (lineS T (M 19 3).toInt (fun j => (M (b + 1) j).toInt) (fun j => (M (b + 2) j).toInt) (ix v2)) q.1.toInt (q.2 19 4).toInt (q.2 19 3).toInt (q.2 (b + 1) (ix v2)).toInt (q.2 (b + 2) (ix v2)).toInt (q.2 (b + 3) (ix v2)).toInt (q.2 (b + 5) (ix v2)).toInt (M 19 3).toInt (M 19 2).toInt) ∧ (¬ q.1.toInt = 0 → (∀ j : Nat, ¬ j = ix v2 → q.2 (b + 1) j = M (b + 1) j ∧ q.2 (b + 2) j = M (b + 2) j ∧ q.2 (b + 4) j = M (b + 4) j) ∧ ¬ (q.2 (b + 4) (ix v2)).toInt = 0)) := by
  have hb0 : b = 1 ∨ b = 7 ∨ b = 13 := hb
  have fv2 := t_ixn v2 (by omega)
  refine wp_bnd (fun x_1 ex_1 => ?_)
  have hv_x_1 := congrArg Int32.toInt ex_1
  refine wp_cb2 (o5_X7_number M (nI 2) T hT (by decide) hp) (fun r_2 M_3 he7 hq7 => ?_)
  obtain ⟨hg_M_3, hn_7⟩ := hq7
  replace hn_7 : NumP (numS T (M 19 3).toInt (ix (nI 2))) r_2.toInt (M_3 19 4).toInt (M_3 19 3).toInt (M 19 3).toInt (M 19 2).toInt := hn_7
  have := t_lit 2
  replace hg_M_3 : ∀ a i, ¬ ((a = 19 ∧ i = 3) ∨ (a = 19 ∧ i = 4)) → M_3 a i = M a i := hg_M_3
  rw [show ix (nI 2) = 2 from (by decide)] at hn_7
  have e32 := congrArg Int32.toInt (hg_M_3 19 2 (by first | decide | (rcases hc0 with h | h <;> rw [h] <;> simp; done) | (rcases hb0 with h | h | h <;> rw [h] <;> simp; done) | (simp; done) | omega))
  refine wp_ite (fun c15 => ?_) (fun c15 => ?_)
  · exact wp_some ⟨b01_0, (fun a i q0 => ((hg_M_3 a i (fun z8 => q0 ((fun z9 => Or.elim z9 (fun h9 => Or.inl h9) (fun h9 => Or.inr (Or.inl h9))) z8))).trans rfl)), (by show LinP (lineS T (M 19 3).toInt (fun j => (M (b + 1) j).toInt) (fun j => (M (b + 2) j).toInt) (ix v2)) (nI 0).toInt (M_3 19 4).toInt (M_3 19 3).toInt (M_3 (b + 1) (ix v2)).toInt (M_3 (b + 2) (ix v2)).toInt (M_3 (b + 3) (ix v2)).toInt (M_3 (b + 5) (ix v2)).toInt (M 19 3).toInt (M 19 2).toInt; rw [lineS_f (numP_f hn_7 c15)]; exact ⟨nI0, rfl⟩), (fun z => absurd nI0 z)⟩
  · obtain ⟨n1, n2, n3, n4, n5⟩ := numP_v hn_7 c15
    refine wp_ite (fun c24 => ?_) (fun c24 => ?_)
    · refine wp_cb2 (o5_X7_skip M_3 (nI 44) T ((txc_fr ((hg_M_3 19 2 (by first | decide | (rcases hc0 with h | h <;> rw [h] <;> simp; done) | (rcases hb0 with h | h | h <;> rw [h] <;> simp; done) | (simp; done) | omega)).trans rfl) (fun j => ((hg_M_3 20 j (by first | decide | (rcases hc0 with h | h <;> rw [h] <;> simp; done) | (rcases hb0 with h | h | h <;> rw [h] <;> simp; done) | (simp; done) | omega)).trans rfl))).trans hT) (by rw [show M_3 19 2 = M 19 2 from ((hg_M_3 19 2 (by first | decide | (rcases hc0 with h | h <;> rw [h] <;> simp; done) | (rcases hb0 with h | h | h <;> rw [h] <;> simp; done) | (simp; done) | omega)).trans rfl)]; omega) (by decide)) (fun r_4 M_5 he37 hq37 => ?_)
      obtain ⟨hz_r_4, hg_M_5, hs_37⟩ := hq37
      replace hs_37 : SkpP (T (M_3 19 3).toInt) (nI 44).toInt r_4.toInt (M_3 19 3).toInt (M_5 19 3).toInt (M_3 19 2).toInt (M_5 19 4).toInt := hs_37
      have := t_lit 44
      replace hg_M_5 : ∀ a i, ¬ ((a = 19 ∧ i = 3) ∨ (a = 19 ∧ i = 4)) → M_5 a i = M_3 a i := hg_M_5
      have e52 := congrArg Int32.toInt (hg_M_5 19 2 (by first | decide | (rcases hc0 with h | h <;> rw [h] <;> simp; done) | (rcases hb0 with h | h | h <;> rw [h] <;> simp; done) | (simp; done) | omega))
      refine wp_ite (fun c40 => ?_) (fun c40 => ?_)
      · exact wp_some ⟨b01_0, (fun a i q0 => ((hg_M_5 a i (fun z8 => q0 ((fun z9 => Or.elim z9 (fun h9 => Or.inl h9) (fun h9 => Or.inr (Or.inl h9))) z8))).trans ((hg_M_3 a i (fun z8 => q0 ((fun z9 => Or.elim z9 (fun h9 => Or.inl h9) (fun h9 => Or.inr (Or.inl h9))) z8))).trans rfl))), (by show LinP (lineS T (M 19 3).toInt (fun j => (M (b + 1) j).toInt) (fun j => (M (b + 2) j).toInt) (ix v2)) (nI 0).toInt (M_5 19 4).toInt (M_5 19 3).toInt (M_5 (b + 1) (ix v2)).toInt (M_5 (b + 2) (ix v2)).toInt (M_5 (b + 3) (ix v2)).toInt (M_5 (b + 5) (ix v2)).toInt (M 19 3).toInt (M 19 2).toInt; rw [lineS_v n1, lineX_1 (by omega) (by have z := (skp_n hs_37 c40).1; have := t_lit 44; omega)]; exact ⟨nI0, (skp_n hs_37 c40).2⟩), (fun z => absurd nI0 z)⟩
      · have s37 := skp_y hs_37 c40
        have f44 := t_lit 44
        have e44 : T (M_3 19 3).toInt = 44 := by omega
        have e5 : (M_3 19 3).toInt + 1 = (M_5 19 3).toInt := by omega
        refine wp_bnd (fun x_6 ex_6 => ?_)
        have hv_x_6 := congrArg Int32.toInt ex_6
        refine wp_cb2 (o5_X7_number M_5 (nI 2) T ((txc_fr ((hg_M_5 19 2 (by first | decide | (rcases hc0 with h | h <;> rw [h] <;> simp; done) | (rcases hb0 with h | h | h <;> rw [h] <;> simp; done) | (simp; done) | omega)).trans ((hg_M_3 19 2 (by first | decide | (rcases hc0 with h | h <;> rw [h] <;> simp; done) | (rcases hb0 with h | h | h <;> rw [h] <;> simp; done) | (simp; done) | omega)).trans rfl)) (fun j => ((hg_M_5 20 j (by first | decide | (rcases hc0 with h | h <;> rw [h] <;> simp; done) | (rcases hb0 with h | h | h <;> rw [h] <;> simp; done) | (simp; done) | omega)).trans ((hg_M_3 20 j (by first | decide | (rcases hc0 with h | h <;> rw [h] <;> simp; done) | (rcases hb0 with h | h | h <;> rw [h] <;> simp; done) | (simp; done) | omega)).trans rfl)))).trans hT) (by decide) (by rw [show M_5 19 2 = M 19 2 from ((hg_M_5 19 2 (by first | decide | (rcases hc0 with h | h <;> rw [h] <;> simp; done) | (rcases hb0 with h | h | h <;> rw [h] <;> simp; done) | (simp; done) | omega)).trans ((hg_M_3 19 2 (by first | decide | (rcases hc0 with h | h <;> rw [h] <;> simp; done) | (rcases hb0 with h | h | h <;> rw [h] <;> simp; done) | (simp; done) | omega)).trans rfl))]; omega)) (fun r_7 M_8 he53 hq53 => ?_)
        obtain ⟨hg_M_8, hn_53⟩ := hq53
        replace hn_53 : NumP (numS T (M_5 19 3).toInt (ix (nI 2))) r_7.toInt (M_8 19 4).toInt (M_8 19 3).toInt (M_5 19 3).toInt (M_5 19 2).toInt := hn_53
        have := t_lit 2
        replace hg_M_8 : ∀ a i, ¬ ((a = 19 ∧ i = 3) ∨ (a = 19 ∧ i = 4)) → M_8 a i = M_5 a i := hg_M_8
        rw [show ix (nI 2) = 2 from (by decide)] at hn_53
        have e82 := congrArg Int32.toInt (hg_M_8 19 2 (by first | decide | (rcases hc0 with h | h <;> rw [h] <;> simp; done) | (rcases hb0 with h | h | h <;> rw [h] <;> simp; done) | (simp; done) | omega))
        refine wp_ite (fun c61 => ?_) (fun c61 => ?_)
        · exact wp_some ⟨b01_0, (fun a i q0 => ((hg_M_8 a i (fun z8 => q0 ((fun z9 => Or.elim z9 (fun h9 => Or.inl h9) (fun h9 => Or.inr (Or.inl h9))) z8))).trans ((hg_M_5 a i (fun z8 => q0 ((fun z9 => Or.elim z9 (fun h9 => Or.inl h9) (fun h9 => Or.inr (Or.inl h9))) z8))).trans ((hg_M_3 a i (fun z8 => q0 ((fun z9 => Or.elim z9 (fun h9 => Or.inl h9) (fun h9 => Or.inr (Or.inl h9))) z8))).trans rfl)))), (by show LinP (lineS T (M 19 3).toInt (fun j => (M (b + 1) j).toInt) (fun j => (M (b + 2) j).toInt) (ix v2)) (nI 0).toInt (M_8 19 4).toInt (M_8 19 3).toInt (M_8 (b + 1) (ix v2)).toInt (M_8 (b + 2) (ix v2)).toInt (M_8 (b + 3) (ix v2)).toInt (M_8 (b + 5) (ix v2)).toInt (M 19 3).toInt (M 19 2).toInt; rw [lineS_v n1, lineX_v (by omega) e44, e5, lineY_f (numP_f hn_53 c61)]; exact ⟨nI0, rfl⟩), (fun z => absurd nI0 z)⟩
        · obtain ⟨m1, m2, m3, m4, m5⟩ := numP_v hn_53 c61
          obtain ⟨q8, eq8⟩ : ∃ q : Int, (M_8 19 3).toInt = q := ⟨_, rfl⟩
          have j79 : (¬ (1 ≤ r_7.toInt ∧ r_7.toInt ≤ 20)) → Wp (f_X9_readLine_L79 x_6 M_8) (fun q => (q.1 = 0 ∨ q.1 = 1) ∧ (∀ a i, ¬ ((a = 19 ∧ i = 3) ∨ (a = 19 ∧ i = 4) ∨ a = (b + 1) ∨ a = (b + 2) ∨ a = (b + 3) ∨ a = (b + 4) ∨ a = (b + 5)) → q.2 a i = M a i) ∧ (LinP (lineS T (M 19 3).toInt (fun j => (M (b + 1) j).toInt) (fun j => (M (b + 2) j).toInt) (ix v2)) q.1.toInt (q.2 19 4).toInt (q.2 19 3).toInt (q.2 (b + 1) (ix v2)).toInt (q.2 (b + 2) (ix v2)).toInt (q.2 (b + 3) (ix v2)).toInt (q.2 (b + 5) (ix v2)).toInt (M 19 3).toInt (M 19 2).toInt) ∧ (¬ q.1.toInt = 0 → (∀ j : Nat, ¬ j = ix v2 → q.2 (b + 1) j = M (b + 1) j ∧ q.2 (b + 2) j = M (b + 2) j ∧ q.2 (b + 4) j = M (b + 4) j) ∧ ¬ (q.2 (b + 4) (ix v2)).toInt = 0)) := by
            intro h79
            unfold f_X9_readLine_L79
            refine wp_cb2 (o5_X7_refuse M_8 (nI 3) x_6) (fun r_9 M_10 he83 hq83 => ?_)
            obtain ⟨hz_r_9, hg_M_10, hw_83, hq_83⟩ := hq83
            replace hw_83 : r_9.toInt = 0 := hw_83
            have := t_lit 3
            replace hq_83 : 0 ≤ (nI 3).toInt → (nI 3).toInt ≤ 9 → 0 ≤ x_6.toInt → x_6.toInt ≤ 1000 → (M_10 19 4).toInt = -1000 * (nI 3).toInt - x_6.toInt := hq_83
            have := t_lit 3
            replace hg_M_10 : ∀ a i, ¬ ((a = 19 ∧ i = 4)) → M_10 a i = M_8 a i := hg_M_10
            refine wp_gb hz_r_9 ?_
            exact wp_some ⟨hz_r_9, (fun a i q0 => ((hg_M_10 a i (fun h9 => q0 (Or.inr (Or.inl h9)))).trans ((hg_M_8 a i (fun z8 => q0 ((fun z9 => Or.elim z9 (fun h9 => Or.inl h9) (fun h9 => Or.inr (Or.inl h9))) z8))).trans ((hg_M_5 a i (fun z8 => q0 ((fun z9 => Or.elim z9 (fun h9 => Or.inl h9) (fun h9 => Or.inr (Or.inl h9))) z8))).trans ((hg_M_3 a i (fun z8 => q0 ((fun z9 => Or.elim z9 (fun h9 => Or.inl h9) (fun h9 => Or.inr (Or.inl h9))) z8))).trans rfl))))), (by show LinP (lineS T (M 19 3).toInt (fun j => (M (b + 1) j).toInt) (fun j => (M (b + 2) j).toInt) (ix v2)) r_9.toInt (M_10 19 4).toInt (M_10 19 3).toInt (M_10 (b + 1) (ix v2)).toInt (M_10 (b + 2) (ix v2)).toInt (M_10 (b + 3) (ix v2)).toInt (M_10 (b + 5) (ix v2)).toInt (M 19 3).toInt (M 19 2).toInt; rw [lineS_v n1, lineX_v (by omega) e44, e5, lineY_3 m1 h79]; exact ⟨hw_83, by rw [hq_83 (by decide) (by decide) (by omega) (by omega)]; have := t_lit 3; omega⟩), (fun z => absurd hw_83 z)⟩
          refine wp_ite (fun c69 => ?_) (fun c69 => ?_)
          · exact j79 (by omega)
          · refine wp_ite (fun c76 => ?_) (fun c76 => ?_)
            · refine wp_bind2 (o5_X2_stoneAt hb M_8 r_2 r_7) (fun r_11 he92 hq92 => ?_)
              have hsa_92 := hq92
              replace hsa_92 : StA (M_8 (b + 1)) (M_8 (b + 2)) (M_8 (b + 4)) r_2.toInt r_7.toInt r_11.toInt := hsa_92
              have e8b1 : ∀ j, M_8 (b + 1) j = M (b + 1) j := fun j => by rw [hg_M_8 _ _ (by first | decide | (rcases hc0 with h | h <;> rw [h] <;> simp; done) | (rcases hb0 with h | h | h <;> rw [h] <;> simp; done) | (simp; done) | omega), hg_M_5 _ _ (by first | decide | (rcases hc0 with h | h <;> rw [h] <;> simp; done) | (rcases hb0 with h | h | h <;> rw [h] <;> simp; done) | (simp; done) | omega), hg_M_3 _ _ (by first | decide | (rcases hc0 with h | h <;> rw [h] <;> simp; done) | (rcases hb0 with h | h | h <;> rw [h] <;> simp; done) | (simp; done) | omega)]
              have e8b2 : ∀ j, M_8 (b + 2) j = M (b + 2) j := fun j => by rw [hg_M_8 _ _ (by first | decide | (rcases hc0 with h | h <;> rw [h] <;> simp; done) | (rcases hb0 with h | h | h <;> rw [h] <;> simp; done) | (simp; done) | omega), hg_M_5 _ _ (by first | decide | (rcases hc0 with h | h <;> rw [h] <;> simp; done) | (rcases hb0 with h | h | h <;> rw [h] <;> simp; done) | (simp; done) | omega), hg_M_3 _ _ (by first | decide | (rcases hc0 with h | h <;> rw [h] <;> simp; done) | (rcases hb0 with h | h | h <;> rw [h] <;> simp; done) | (simp; done) | omega)]
              have e8b4 : ∀ j, M_8 (b + 4) j = M (b + 4) j := fun j => by rw [hg_M_8 _ _ (by first | decide | (rcases hc0 with h | h <;> rw [h] <;> simp; done) | (rcases hb0 with h | h | h <;> rw [h] <;> simp; done) | (simp; done) | omega), hg_M_5 _ _ (by first | decide | (rcases hc0 with h | h <;> rw [h] <;> simp; done) | (rcases hb0 with h | h | h <;> rw [h] <;> simp; done) | (simp; done) | omega), hg_M_3 _ _ (by first | decide | (rcases hc0 with h | h <;> rw [h] <;> simp; done) | (rcases hb0 with h | h | h <;> rw [h] <;> simp; done) | (simp; done) | omega)]
              refine wp_ite (fun c96 => ?_) (fun c96 => ?_)
              · have hdup : dupS (fun j => (M (b + 1) j).toInt) (fun j => (M (b + 2) j).toInt) r_2.toInt r_7.toInt (ix v2) = false := dup_f _ (fun j hj => by
                  have z := sta_n hsa_92 c96 j (by omega)
                  rw [e8b4, e8b1, e8b2] at z
                  exact z (fun q => absurd ((hto j (by omega)).mp q) (by omega)))
                refine wp_bind2 (o5_X7_here M_8 T ((txc_fr ((hg_M_8 19 2 (by first | decide | (rcases hc0 with h | h <;> rw [h] <;> simp; done) | (rcases hb0 with h | h | h <;> rw [h] <;> simp; done) | (simp; done) | omega)).trans ((hg_M_5 19 2 (by first | decide | (rcases hc0 with h | h <;> rw [h] <;> simp; done) | (rcases hb0 with h | h | h <;> rw [h] <;> simp; done) | (simp; done) | omega)).trans ((hg_M_3 19 2 (by first | decide | (rcases hc0 with h | h <;> rw [h] <;> simp; done) | (rcases hb0 with h | h | h <;> rw [h] <;> simp; done) | (simp; done) | omega)).trans rfl))) (fun j => ((hg_M_8 20 j (by first | decide | (rcases hc0 with h | h <;> rw [h] <;> simp; done) | (rcases hb0 with h | h | h <;> rw [h] <;> simp; done) | (simp; done) | omega)).trans ((hg_M_5 20 j (by first | decide | (rcases hc0 with h | h <;> rw [h] <;> simp; done) | (rcases hb0 with h | h | h <;> rw [h] <;> simp; done) | (simp; done) | omega)).trans ((hg_M_3 20 j (by first | decide | (rcases hc0 with h | h <;> rw [h] <;> simp; done) | (rcases hb0 with h | h | h <;> rw [h] <;> simp; done) | (simp; done) | omega)).trans rfl))))).trans hT) (by rw [show M_8 19 2 = M 19 2 from ((hg_M_8 19 2 (by first | decide | (rcases hc0 with h | h <;> rw [h] <;> simp; done) | (rcases hb0 with h | h | h <;> rw [h] <;> simp; done) | (simp; done) | omega)).trans ((hg_M_5 19 2 (by first | decide | (rcases hc0 with h | h <;> rw [h] <;> simp; done) | (rcases hb0 with h | h | h <;> rw [h] <;> simp; done) | (simp; done) | omega)).trans ((hg_M_3 19 2 (by first | decide | (rcases hc0 with h | h <;> rw [h] <;> simp; done) | (rcases hb0 with h | h | h <;> rw [h] <;> simp; done) | (simp; done) | omega)).trans rfl)))]; omega)) (fun r_12 he111 hq111 => ?_)
                have hh_111 := hq111
                replace hh_111 : r_12.toInt = T (M_8 19 3).toInt := hh_111
                have j168 : ∀ (N168 : Mem), ∀ (z7_168 : Int32), (∀ a i, ¬ ((a = 19 ∧ i = 3)) → N168 a i = M_8 a i) → (q8 ≤ (N168 19 3).toInt ∧ (N168 19 3).toInt ≤ (M 19 2).toInt) → (TailP T q8 (N168 19 3).toInt z7_168.toInt) → Wp (f_X9_readLine_L168 b v2 r_2 r_7 N168 z7_168) (fun q => (q.1 = 0 ∨ q.1 = 1) ∧ (∀ a i, ¬ ((a = 19 ∧ i = 3) ∨ (a = 19 ∧ i = 4) ∨ a = (b + 1) ∨ a = (b + 2) ∨ a = (b + 3) ∨ a = (b + 4) ∨ a = (b + 5)) → q.2 a i = M a i) ∧ (LinP (lineS T (M 19 3).toInt (fun j => (M (b + 1) j).toInt) (fun j => (M (b + 2) j).toInt) (ix v2)) q.1.toInt (q.2 19 4).toInt (q.2 19 3).toInt (q.2 (b + 1) (ix v2)).toInt (q.2 (b + 2) (ix v2)).toInt (q.2 (b + 3) (ix v2)).toInt (q.2 (b + 5) (ix v2)).toInt (M 19 3).toInt (M 19 2).toInt) ∧ (¬ q.1.toInt = 0 → (∀ j : Nat, ¬ j = ix v2 → q.2 (b + 1) j = M (b + 1) j ∧ q.2 (b + 2) j = M (b + 2) j ∧ q.2 (b + 4) j = M (b + 4) j) ∧ ¬ (q.2 (b + 4) (ix v2)).toInt = 0)) := by
                  intro N168 z7_168 hf_N168 h168 t168
                  unfold f_X9_readLine_L168
                  have hT168 : TXc N168 = T := (txc_fr (by rw [hf_N168 19 2 (by first | decide | (rcases hc0 with h | h <;> rw [h] <;> simp; done) | (rcases hb0 with h | h | h <;> rw [h] <;> simp; done) | (simp; done) | omega), hg_M_8 19 2 (by first | decide | (rcases hc0 with h | h <;> rw [h] <;> simp; done) | (rcases hb0 with h | h | h <;> rw [h] <;> simp; done) | (simp; done) | omega), hg_M_5 19 2 (by first | decide | (rcases hc0 with h | h <;> rw [h] <;> simp; done) | (rcases hb0 with h | h | h <;> rw [h] <;> simp; done) | (simp; done) | omega), hg_M_3 19 2 (by first | decide | (rcases hc0 with h | h <;> rw [h] <;> simp; done) | (rcases hb0 with h | h | h <;> rw [h] <;> simp; done) | (simp; done) | omega)]) (fun j => by rw [hf_N168 20 j (by first | decide | (rcases hc0 with h | h <;> rw [h] <;> simp; done) | (rcases hb0 with h | h | h <;> rw [h] <;> simp; done) | (simp; done) | omega), hg_M_8 20 j (by first | decide | (rcases hc0 with h | h <;> rw [h] <;> simp; done) | (rcases hb0 with h | h | h <;> rw [h] <;> simp; done) | (simp; done) | omega), hg_M_5 20 j (by first | decide | (rcases hc0 with h | h <;> rw [h] <;> simp; done) | (rcases hb0 with h | h | h <;> rw [h] <;> simp; done) | (simp; done) | omega), hg_M_3 20 j (by first | decide | (rcases hc0 with h | h <;> rw [h] <;> simp; done) | (rcases hb0 with h | h | h <;> rw [h] <;> simp; done) | (simp; done) | omega)])).trans hT
                  have e1682 : (N168 19 2).toInt = (M 19 2).toInt := by rw [hf_N168 19 2 (by first | decide | (rcases hc0 with h | h <;> rw [h] <;> simp; done) | (rcases hb0 with h | h | h <;> rw [h] <;> simp; done) | (simp; done) | omega), hg_M_8 19 2 (by first | decide | (rcases hc0 with h | h <;> rw [h] <;> simp; done) | (rcases hb0 with h | h | h <;> rw [h] <;> simp; done) | (simp; done) | omega), hg_M_5 19 2 (by first | decide | (rcases hc0 with h | h <;> rw [h] <;> simp; done) | (rcases hb0 with h | h | h <;> rw [h] <;> simp; done) | (simp; done) | omega), hg_M_3 19 2 (by first | decide | (rcases hc0 with h | h <;> rw [h] <;> simp; done) | (rcases hb0 with h | h | h <;> rw [h] <;> simp; done) | (simp; done) | omega)]
                  refine wp_bind2 (o5_X7_here N168 T ((txc_fr ((hf_N168 19 2 (by first | decide | (rcases hc0 with h | h <;> rw [h] <;> simp; done) | (rcases hb0 with h | h | h <;> rw [h] <;> simp; done) | (simp; done) | omega)).trans ((hg_M_8 19 2 (by first | decide | (rcases hc0 with h | h <;> rw [h] <;> simp; done) | (rcases hb0 with h | h | h <;> rw [h] <;> simp; done) | (simp; done) | omega)).trans ((hg_M_5 19 2 (by first | decide | (rcases hc0 with h | h <;> rw [h] <;> simp; done) | (rcases hb0 with h | h | h <;> rw [h] <;> simp; done) | (simp; done) | omega)).trans ((hg_M_3 19 2 (by first | decide | (rcases hc0 with h | h <;> rw [h] <;> simp; done) | (rcases hb0 with h | h | h <;> rw [h] <;> simp; done) | (simp; done) | omega)).trans rfl)))) (fun j => ((hf_N168 20 j (by first | decide | (rcases hc0 with h | h <;> rw [h] <;> simp; done) | (rcases hb0 with h | h | h <;> rw [h] <;> simp; done) | (simp; done) | omega)).trans ((hg_M_8 20 j (by first | decide | (rcases hc0 with h | h <;> rw [h] <;> simp; done) | (rcases hb0 with h | h | h <;> rw [h] <;> simp; done) | (simp; done) | omega)).trans ((hg_M_5 20 j (by first | decide | (rcases hc0 with h | h <;> rw [h] <;> simp; done) | (rcases hb0 with h | h | h <;> rw [h] <;> simp; done) | (simp; done) | omega)).trans ((hg_M_3 20 j (by first | decide | (rcases hc0 with h | h <;> rw [h] <;> simp; done) | (rcases hb0 with h | h | h <;> rw [h] <;> simp; done) | (simp; done) | omega)).trans rfl)))))).trans hT) (by rw [show N168 19 2 = M 19 2 from ((hf_N168 19 2 (by first | decide | (rcases hc0 with h | h <;> rw [h] <;> simp; done) | (rcases hb0 with h | h | h <;> rw [h] <;> simp; done) | (simp; done) | omega)).trans ((hg_M_8 19 2 (by first | decide | (rcases hc0 with h | h <;> rw [h] <;> simp; done) | (rcases hb0 with h | h | h <;> rw [h] <;> simp; done) | (simp; done) | omega)).trans ((hg_M_5 19 2 (by first | decide | (rcases hc0 with h | h <;> rw [h] <;> simp; done) | (rcases hb0 with h | h | h <;> rw [h] <;> simp; done) | (simp; done) | omega)).trans ((hg_M_3 19 2 (by first | decide | (rcases hc0 with h | h <;> rw [h] <;> simp; done) | (rcases hb0 with h | h | h <;> rw [h] <;> simp; done) | (simp; done) | omega)).trans rfl))))]; omega)) (fun r_13 he169 hq169 => ?_)
                  have hh_169 := hq169
                  replace hh_169 : r_13.toInt = T (N168 19 3).toInt := hh_169
                  have j182 : ∀ (t0_182 : Int32), (t0_182 = 0 ∨ t0_182 = 1) → (UndB T (N168 19 3).toInt t0_182.toInt) → Wp (f_X9_readLine_L182 b v2 r_2 r_7 N168 z7_168 t0_182) (fun q => (q.1 = 0 ∨ q.1 = 1) ∧ (∀ a i, ¬ ((a = 19 ∧ i = 3) ∨ (a = 19 ∧ i = 4) ∨ a = (b + 1) ∨ a = (b + 2) ∨ a = (b + 3) ∨ a = (b + 4) ∨ a = (b + 5)) → q.2 a i = M a i) ∧ (LinP (lineS T (M 19 3).toInt (fun j => (M (b + 1) j).toInt) (fun j => (M (b + 2) j).toInt) (ix v2)) q.1.toInt (q.2 19 4).toInt (q.2 19 3).toInt (q.2 (b + 1) (ix v2)).toInt (q.2 (b + 2) (ix v2)).toInt (q.2 (b + 3) (ix v2)).toInt (q.2 (b + 5) (ix v2)).toInt (M 19 3).toInt (M 19 2).toInt) ∧ (¬ q.1.toInt = 0 → (∀ j : Nat, ¬ j = ix v2 → q.2 (b + 1) j = M (b + 1) j ∧ q.2 (b + 2) j = M (b + 2) j ∧ q.2 (b + 4) j = M (b + 4) j) ∧ ¬ (q.2 (b + 4) (ix v2)).toInt = 0)) := by
                    intro t0_182 hb_t0_182 h182
                    unfold f_X9_readLine_L182
                    have j199 : ∀ (N199 : Mem), (∀ a i, ¬ ((a = 19 ∧ i = 3)) → N199 a i = N168 a i) → ((N168 19 3).toInt ≤ (N199 19 3).toInt ∧ (N199 19 3).toInt ≤ (M 19 2).toInt) → (UndP T (N168 19 3).toInt t0_182.toInt (N199 19 3).toInt) → Wp (f_X9_readLine_L199 b v2 r_2 r_7 z7_168 t0_182 N199) (fun q => (q.1 = 0 ∨ q.1 = 1) ∧ (∀ a i, ¬ ((a = 19 ∧ i = 3) ∨ (a = 19 ∧ i = 4) ∨ a = (b + 1) ∨ a = (b + 2) ∨ a = (b + 3) ∨ a = (b + 4) ∨ a = (b + 5)) → q.2 a i = M a i) ∧ (LinP (lineS T (M 19 3).toInt (fun j => (M (b + 1) j).toInt) (fun j => (M (b + 2) j).toInt) (ix v2)) q.1.toInt (q.2 19 4).toInt (q.2 19 3).toInt (q.2 (b + 1) (ix v2)).toInt (q.2 (b + 2) (ix v2)).toInt (q.2 (b + 3) (ix v2)).toInt (q.2 (b + 5) (ix v2)).toInt (M 19 3).toInt (M 19 2).toInt) ∧ (¬ q.1.toInt = 0 → (∀ j : Nat, ¬ j = ix v2 → q.2 (b + 1) j = M (b + 1) j ∧ q.2 (b + 2) j = M (b + 2) j ∧ q.2 (b + 4) j = M (b + 4) j) ∧ ¬ (q.2 (b + 4) (ix v2)).toInt = 0)) := by
                      intro N199 hf_N199 h199 t199
                      unfold f_X9_readLine_L199
                      refine wp_bind2 (o5_X2_lay hb N199 v2 r_2 r_7 z7_168 t0_182) (fun M_14 he209 hq209 => ?_)
                      obtain ⟨hg_M_14, hly_209⟩ := hq209
                      replace hly_209 : 0 ≤ v2.toInt → v2.toInt < 40 → M_14 (b + 1) (ix v2) = r_2 ∧ M_14 (b + 2) (ix v2) = r_7 ∧ ¬ (M_14 (b + 4) (ix v2)).toInt = 0 ∧ M_14 (b + 3) (ix v2) = z7_168 ∧ M_14 (b + 5) (ix v2) = vp_nar .boolean t0_182 ∧ ∀ j : Nat, ¬ j = ix v2 → M_14 (b + 1) j = N199 (b + 1) j ∧ M_14 (b + 2) j = N199 (b + 2) j ∧ M_14 (b + 4) j = N199 (b + 4) j := hly_209
                      replace hg_M_14 : ∀ a i, ¬ (a = (b + 1) ∨ a = (b + 2) ∨ a = (b + 3) ∨ a = (b + 4) ∨ a = (b + 5)) → M_14 a i = N199 a i := by exact fun a i q0 => hg_M_14 a i (by first | decide | (rcases hc0 with h | h <;> rw [h] <;> simp; done) | (rcases hb0 with h | h | h <;> rw [h] <;> simp; done) | (simp; done) | omega)
                      obtain ⟨l1, l2, l3, l5, l6, l4⟩ := hly_209 (by omega) (by omega)
                      have hu01 : (vp_nar .boolean t0_182).toInt = t0_182.toInt := nar_b (b01_to hb_t0_182)
                      exact wp_some ⟨b01_1, (fun a i q0 => ((hg_M_14 a i (fun z8 => q0 ((fun z9 => Or.elim z9 (fun h9 => Or.inr (Or.inr (Or.inl h9))) (fun z9 => Or.elim z9 (fun h9 => Or.inr (Or.inr (Or.inr (Or.inl h9)))) (fun z9 => Or.elim z9 (fun h9 => Or.inr (Or.inr (Or.inr (Or.inr (Or.inl h9))))) (fun z9 => Or.elim z9 (fun h9 => Or.inr (Or.inr (Or.inr (Or.inr (Or.inr (Or.inl h9)))))) (fun h9 => Or.inr (Or.inr (Or.inr (Or.inr (Or.inr (Or.inr (h9))))))))))) z8))).trans ((hf_N199 a i (fun h9 => q0 (Or.inl h9))).trans ((hf_N168 a i (fun h9 => q0 (Or.inl h9))).trans ((hg_M_8 a i (fun z8 => q0 ((fun z9 => Or.elim z9 (fun h9 => Or.inl h9) (fun h9 => Or.inr (Or.inl h9))) z8))).trans ((hg_M_5 a i (fun z8 => q0 ((fun z9 => Or.elim z9 (fun h9 => Or.inl h9) (fun h9 => Or.inr (Or.inl h9))) z8))).trans ((hg_M_3 a i (fun z8 => q0 ((fun z9 => Or.elim z9 (fun h9 => Or.inl h9) (fun h9 => Or.inr (Or.inl h9))) z8))).trans rfl))))))), (by show LinP (lineS T (M 19 3).toInt (fun j => (M (b + 1) j).toInt) (fun j => (M (b + 2) j).toInt) (ix v2)) (nI 1).toInt (M_14 19 4).toInt (M_14 19 3).toInt (M_14 (b + 1) (ix v2)).toInt (M_14 (b + 2) (ix v2)).toInt (M_14 (b + 3) (ix v2)).toInt (M_14 (b + 5) (ix v2)).toInt (M 19 3).toInt (M 19 2).toInt; rw [lineS_v n1, lineX_v (by omega) e44, e5, lineY_v m1 (by omega) hdup, eq8, tail_is t168 t199]; exact ⟨ne1, congrArg Int32.toInt l1, congrArg Int32.toInt l2, congrArg Int32.toInt l5, by rw [l6]; exact hu01, congrArg Int32.toInt (hg_M_14 19 3 (by first | decide | (rcases hc0 with h | h <;> rw [h] <;> simp; done) | (rcases hb0 with h | h | h <;> rw [h] <;> simp; done) | (simp; done) | omega)), by show (M 19 3).toInt < (N199 19 3).toInt; omega, by show (N199 19 3).toInt ≤ (M 19 2).toInt; omega⟩), (fun _ => by show (∀ j : Nat, ¬ j = ix v2 → M_14 (b + 1) j = M (b + 1) j ∧ M_14 (b + 2) j = M (b + 2) j ∧ M_14 (b + 4) j = M (b + 4) j) ∧ ¬ (M_14 (b + 4) (ix v2)).toInt = 0; exact ⟨fun j hj => by rw [(l4 j hj).1, (l4 j hj).2.1, (l4 j hj).2.2]; exact ⟨((hf_N199 (b + 1) j (by first | decide | (rcases hc0 with h | h <;> rw [h] <;> simp; done) | (rcases hb0 with h | h | h <;> rw [h] <;> simp; done) | (simp; done) | omega)).trans ((hf_N168 (b + 1) j (by first | decide | (rcases hc0 with h | h <;> rw [h] <;> simp; done) | (rcases hb0 with h | h | h <;> rw [h] <;> simp; done) | (simp; done) | omega)).trans ((hg_M_8 (b + 1) j (by first | decide | (rcases hc0 with h | h <;> rw [h] <;> simp; done) | (rcases hb0 with h | h | h <;> rw [h] <;> simp; done) | (simp; done) | omega)).trans ((hg_M_5 (b + 1) j (by first | decide | (rcases hc0 with h | h <;> rw [h] <;> simp; done) | (rcases hb0 with h | h | h <;> rw [h] <;> simp; done) | (simp; done) | omega)).trans ((hg_M_3 (b + 1) j (by first | decide | (rcases hc0 with h | h <;> rw [h] <;> simp; done) | (rcases hb0 with h | h | h <;> rw [h] <;> simp; done) | (simp; done) | omega)).trans rfl))))), ((hf_N199 (b + 2) j (by first | decide | (rcases hc0 with h | h <;> rw [h] <;> simp; done) | (rcases hb0 with h | h | h <;> rw [h] <;> simp; done) | (simp; done) | omega)).trans ((hf_N168 (b + 2) j (by first | decide | (rcases hc0 with h | h <;> rw [h] <;> simp; done) | (rcases hb0 with h | h | h <;> rw [h] <;> simp; done) | (simp; done) | omega)).trans ((hg_M_8 (b + 2) j (by first | decide | (rcases hc0 with h | h <;> rw [h] <;> simp; done) | (rcases hb0 with h | h | h <;> rw [h] <;> simp; done) | (simp; done) | omega)).trans ((hg_M_5 (b + 2) j (by first | decide | (rcases hc0 with h | h <;> rw [h] <;> simp; done) | (rcases hb0 with h | h | h <;> rw [h] <;> simp; done) | (simp; done) | omega)).trans ((hg_M_3 (b + 2) j (by first | decide | (rcases hc0 with h | h <;> rw [h] <;> simp; done) | (rcases hb0 with h | h | h <;> rw [h] <;> simp; done) | (simp; done) | omega)).trans rfl))))), ((hf_N199 (b + 4) j (by first | decide | (rcases hc0 with h | h <;> rw [h] <;> simp; done) | (rcases hb0 with h | h | h <;> rw [h] <;> simp; done) | (simp; done) | omega)).trans ((hf_N168 (b + 4) j (by first | decide | (rcases hc0 with h | h <;> rw [h] <;> simp; done) | (rcases hb0 with h | h | h <;> rw [h] <;> simp; done) | (simp; done) | omega)).trans ((hg_M_8 (b + 4) j (by first | decide | (rcases hc0 with h | h <;> rw [h] <;> simp; done) | (rcases hb0 with h | h | h <;> rw [h] <;> simp; done) | (simp; done) | omega)).trans ((hg_M_5 (b + 4) j (by first | decide | (rcases hc0 with h | h <;> rw [h] <;> simp; done) | (rcases hb0 with h | h | h <;> rw [h] <;> simp; done) | (simp; done) | omega)).trans ((hg_M_3 (b + 4) j (by first | decide | (rcases hc0 with h | h <;> rw [h] <;> simp; done) | (rcases hb0 with h | h | h <;> rw [h] <;> simp; done) | (simp; done) | omega)).trans rfl)))))⟩, l3⟩)⟩
                    refine wp_ite (fun c186 => ?_) (fun c186 => ?_)
                    · exact j199 N168 (fun _ _ _ => rfl) (by omega) (Or.inr ⟨c186, und_0 h182 c186, rfl⟩)
                    · refine wp_bnd (fun M_15 eM_15 => ?_)
                      have u182 := und_1 h182 c186
                      have in15 := tx_in hT168 (p := (N168 19 3).toInt) (by rw [u182.2]; decide)
                      have m15 : (M_15 19 3).toInt = (N168 19 3).toInt + 1 := by rw [eM_15, mset_eq]; exact (i_up (by omega)).2
                      exact j199 M_15 (fun a i q0 => ((congrFun (congrFun eM_15 a) i).trans ((mset_ne (fun h9 => q0 (h9))).trans rfl))) (by omega) (Or.inl ⟨u182.1, u182.2, m15⟩)
                  refine wp_ite (fun c174 => ?_) (fun c174 => ?_)
                  · exact j182 (nI 1) b01_1 (Or.inl ⟨nI1, by rw [← hh_169]; exact c174⟩)
                  · exact j182 (nI 0) b01_0 (Or.inr ⟨nI0, by rw [← hh_169]; exact c174⟩)
                refine wp_ite (fun c116 => ?_) (fun c116 => ?_)
                · refine wp_bnd (fun M_16 eM_16 => ?_)
                  have hin := tx_in hT (p := (M_8 19 3).toInt) (by rw [← hh_111]; omega)
                  have h16 : (M_16 19 3).toInt = q8 + 1 := by rw [eM_16, mset_eq, ← eq8]; exact (i_up (by omega)).2
                  have e162 : (M_16 19 2).toInt = (M_8 19 2).toInt := by rw [eM_16, mset_ne (by first | exact nz1 (by decide) | exact nz2 (by decide) | exact nz1 (nzA hc0 (by decide)) | exact nz1 (nzE (by decide)) | exact nz1 (nzB hc0 (by decide)) | exact nz1 (nzC hc0 (by decide)) | exact nz1 (nzD hc0 (by decide)) | exact nz1 (nzF (by decide)) | exact nz1 (nzG (by decide)) | omega)]
                  refine wp_bind2 (o5_X7_here M_16 T ((txc_fr ((congrFun (congrFun eM_16 19) 2).trans ((mset_ne (by first | exact nz1 (by decide) | exact nz2 (by decide) | exact nz1 (nzA hc0 (by decide)) | exact nz1 (nzE (by decide)) | exact nz1 (nzB hc0 (by decide)) | exact nz1 (nzC hc0 (by decide)) | exact nz1 (nzD hc0 (by decide)) | exact nz1 (nzF (by decide)) | exact nz1 (nzG (by decide)) | omega)).trans ((hg_M_8 19 2 (by first | decide | (rcases hc0 with h | h <;> rw [h] <;> simp; done) | (rcases hb0 with h | h | h <;> rw [h] <;> simp; done) | (simp; done) | omega)).trans ((hg_M_5 19 2 (by first | decide | (rcases hc0 with h | h <;> rw [h] <;> simp; done) | (rcases hb0 with h | h | h <;> rw [h] <;> simp; done) | (simp; done) | omega)).trans ((hg_M_3 19 2 (by first | decide | (rcases hc0 with h | h <;> rw [h] <;> simp; done) | (rcases hb0 with h | h | h <;> rw [h] <;> simp; done) | (simp; done) | omega)).trans rfl))))) (fun j => ((congrFun (congrFun eM_16 20) j).trans ((mset_ne (by first | exact nz1 (by decide) | exact nz2 (by decide) | exact nz1 (nzA hc0 (by decide)) | exact nz1 (nzE (by decide)) | exact nz1 (nzB hc0 (by decide)) | exact nz1 (nzC hc0 (by decide)) | exact nz1 (nzD hc0 (by decide)) | exact nz1 (nzF (by decide)) | exact nz1 (nzG (by decide)) | omega)).trans ((hg_M_8 20 j (by first | decide | (rcases hc0 with h | h <;> rw [h] <;> simp; done) | (rcases hb0 with h | h | h <;> rw [h] <;> simp; done) | (simp; done) | omega)).trans ((hg_M_5 20 j (by first | decide | (rcases hc0 with h | h <;> rw [h] <;> simp; done) | (rcases hb0 with h | h | h <;> rw [h] <;> simp; done) | (simp; done) | omega)).trans ((hg_M_3 20 j (by first | decide | (rcases hc0 with h | h <;> rw [h] <;> simp; done) | (rcases hb0 with h | h | h <;> rw [h] <;> simp; done) | (simp; done) | omega)).trans rfl))))))).trans hT) (by rw [show M_16 19 2 = M 19 2 from ((congrFun (congrFun eM_16 19) 2).trans ((mset_ne (by first | exact nz1 (by decide) | exact nz2 (by decide) | exact nz1 (nzA hc0 (by decide)) | exact nz1 (nzE (by decide)) | exact nz1 (nzB hc0 (by decide)) | exact nz1 (nzC hc0 (by decide)) | exact nz1 (nzD hc0 (by decide)) | exact nz1 (nzF (by decide)) | exact nz1 (nzG (by decide)) | omega)).trans ((hg_M_8 19 2 (by first | decide | (rcases hc0 with h | h <;> rw [h] <;> simp; done) | (rcases hb0 with h | h | h <;> rw [h] <;> simp; done) | (simp; done) | omega)).trans ((hg_M_5 19 2 (by first | decide | (rcases hc0 with h | h <;> rw [h] <;> simp; done) | (rcases hb0 with h | h | h <;> rw [h] <;> simp; done) | (simp; done) | omega)).trans ((hg_M_3 19 2 (by first | decide | (rcases hc0 with h | h <;> rw [h] <;> simp; done) | (rcases hb0 with h | h | h <;> rw [h] <;> simp; done) | (simp; done) | omega)).trans rfl)))))]; omega)) (fun r_17 he130 hq130 => ?_)
                  have hh_130 := hq130
                  replace hh_130 : r_17.toInt = T (M_16 19 3).toInt := hh_130
                  refine wp_bind2 (o5_X7_isDigit M_16 r_17) (fun r_18 he133 hq133 => ?_)
                  obtain ⟨hz_r_18, hd_133⟩ := hq133
                  replace hd_133 : ¬ r_18.toInt = 0 ↔ dgt r_17.toInt = true := hd_133
                  refine wp_ite (fun c136 => ?_) (fun c136 => ?_)
                  · refine wp_cb2 (o5_X7_refuse M_16 (nI 1) (M_16 19 3)) (fun r_21 M_22 he145 hq145 => ?_)
                    obtain ⟨hz_r_21, hg_M_22, hw_145, hq_145⟩ := hq145
                    replace hw_145 : r_21.toInt = 0 := hw_145
                    have := t_lit 1
                    replace hq_145 : 0 ≤ (nI 1).toInt → (nI 1).toInt ≤ 9 → 0 ≤ (M_16 19 3).toInt → (M_16 19 3).toInt ≤ 1000 → (M_22 19 4).toInt = -1000 * (nI 1).toInt - (M_16 19 3).toInt := hq_145
                    have := t_lit 1
                    replace hg_M_22 : ∀ a i, ¬ ((a = 19 ∧ i = 4)) → M_22 a i = M_16 a i := hg_M_22
                    refine wp_gb hz_r_21 ?_
                    exact wp_some ⟨hz_r_21, (fun a i q0 => ((hg_M_22 a i (fun h9 => q0 (Or.inr (Or.inl h9)))).trans ((congrFun (congrFun eM_16 a) i).trans ((mset_ne (fun h9 => q0 (Or.inl h9))).trans ((hg_M_8 a i (fun z8 => q0 ((fun z9 => Or.elim z9 (fun h9 => Or.inl h9) (fun h9 => Or.inr (Or.inl h9))) z8))).trans ((hg_M_5 a i (fun z8 => q0 ((fun z9 => Or.elim z9 (fun h9 => Or.inl h9) (fun h9 => Or.inr (Or.inl h9))) z8))).trans ((hg_M_3 a i (fun z8 => q0 ((fun z9 => Or.elim z9 (fun h9 => Or.inl h9) (fun h9 => Or.inr (Or.inl h9))) z8))).trans rfl))))))), (by show LinP (lineS T (M 19 3).toInt (fun j => (M (b + 1) j).toInt) (fun j => (M (b + 2) j).toInt) (ix v2)) r_21.toInt (M_22 19 4).toInt (M_22 19 3).toInt (M_22 (b + 1) (ix v2)).toInt (M_22 (b + 2) (ix v2)).toInt (M_22 (b + 3) (ix v2)).toInt (M_22 (b + 5) (ix v2)).toInt (M 19 3).toInt (M 19 2).toInt; rw [lineS_v n1, lineX_v (by omega) e44, e5, lineY_v m1 (by omega) hdup, eq8, tail_f (by rw [← eq8, ← hh_111]; exact c116) (by rw [← h16, ← hh_130]; exact Bool.eq_false_iff.mpr (fun z => hd_133.mpr z c136))]; exact ⟨hw_145, by rw [hq_145 (by decide) (by decide) (by omega) (by omega)]; have := t_lit 1; omega⟩), (fun z => absurd hw_145 z)⟩
                  · refine wp_bind2 (o5_X7_here M_16 T ((txc_fr ((congrFun (congrFun eM_16 19) 2).trans ((mset_ne (by first | exact nz1 (by decide) | exact nz2 (by decide) | exact nz1 (nzA hc0 (by decide)) | exact nz1 (nzE (by decide)) | exact nz1 (nzB hc0 (by decide)) | exact nz1 (nzC hc0 (by decide)) | exact nz1 (nzD hc0 (by decide)) | exact nz1 (nzF (by decide)) | exact nz1 (nzG (by decide)) | omega)).trans ((hg_M_8 19 2 (by first | decide | (rcases hc0 with h | h <;> rw [h] <;> simp; done) | (rcases hb0 with h | h | h <;> rw [h] <;> simp; done) | (simp; done) | omega)).trans ((hg_M_5 19 2 (by first | decide | (rcases hc0 with h | h <;> rw [h] <;> simp; done) | (rcases hb0 with h | h | h <;> rw [h] <;> simp; done) | (simp; done) | omega)).trans ((hg_M_3 19 2 (by first | decide | (rcases hc0 with h | h <;> rw [h] <;> simp; done) | (rcases hb0 with h | h | h <;> rw [h] <;> simp; done) | (simp; done) | omega)).trans rfl))))) (fun j => ((congrFun (congrFun eM_16 20) j).trans ((mset_ne (by first | exact nz1 (by decide) | exact nz2 (by decide) | exact nz1 (nzA hc0 (by decide)) | exact nz1 (nzE (by decide)) | exact nz1 (nzB hc0 (by decide)) | exact nz1 (nzC hc0 (by decide)) | exact nz1 (nzD hc0 (by decide)) | exact nz1 (nzF (by decide)) | exact nz1 (nzG (by decide)) | omega)).trans ((hg_M_8 20 j (by first | decide | (rcases hc0 with h | h <;> rw [h] <;> simp; done) | (rcases hb0 with h | h | h <;> rw [h] <;> simp; done) | (simp; done) | omega)).trans ((hg_M_5 20 j (by first | decide | (rcases hc0 with h | h <;> rw [h] <;> simp; done) | (rcases hb0 with h | h | h <;> rw [h] <;> simp; done) | (simp; done) | omega)).trans ((hg_M_3 20 j (by first | decide | (rcases hc0 with h | h <;> rw [h] <;> simp; done) | (rcases hb0 with h | h | h <;> rw [h] <;> simp; done) | (simp; done) | omega)).trans rfl))))))).trans hT) (by rw [show M_16 19 2 = M 19 2 from ((congrFun (congrFun eM_16 19) 2).trans ((mset_ne (by first | exact nz1 (by decide) | exact nz2 (by decide) | exact nz1 (nzA hc0 (by decide)) | exact nz1 (nzE (by decide)) | exact nz1 (nzB hc0 (by decide)) | exact nz1 (nzC hc0 (by decide)) | exact nz1 (nzD hc0 (by decide)) | exact nz1 (nzF (by decide)) | exact nz1 (nzG (by decide)) | omega)).trans ((hg_M_8 19 2 (by first | decide | (rcases hc0 with h | h <;> rw [h] <;> simp; done) | (rcases hb0 with h | h | h <;> rw [h] <;> simp; done) | (simp; done) | omega)).trans ((hg_M_5 19 2 (by first | decide | (rcases hc0 with h | h <;> rw [h] <;> simp; done) | (rcases hb0 with h | h | h <;> rw [h] <;> simp; done) | (simp; done) | omega)).trans ((hg_M_3 19 2 (by first | decide | (rcases hc0 with h | h <;> rw [h] <;> simp; done) | (rcases hb0 with h | h | h <;> rw [h] <;> simp; done) | (simp; done) | omega)).trans rfl)))))]; omega)) (fun r_19 he150 hq150 => ?_)
                    have hh_150 := hq150
                    replace hh_150 : r_19.toInt = T (M_16 19 3).toInt := hh_150
                    have hdg : dgt (T (q8 + 1)) = true := by rw [← h16, ← hh_130]; exact hd_133.mp c136
                    have hin2 := dg_in hT hdg
                    have hd9 := dgt_i hdg
                    have hz19 : (r_19 - (nI 48)).toInt = T (q8 + 1) - 48 := by
                      have f1 := t_sub r_19 (nI 48)
                      have f2 := t_lit 48
                      rw [← h16, ← hh_150] at hd9 ⊢
                      omega
                    refine wp_bnd (fun M_20 eM_20 => ?_)
                    have h20 : (M_20 19 3).toInt = q8 + 2 := by rw [eM_20, mset_eq]; (have z := (i_up (x := M_16 19 3) (by omega)).2); omega
                    exact j168 M_20 (r_19 - (nI 48)) (fun a i q0 => ((congrFun (congrFun eM_20 a) i).trans ((mset_ne (fun h9 => q0 (h9))).trans ((congrFun (congrFun eM_16 a) i).trans ((mset_ne (fun h9 => q0 (h9))).trans rfl))))) (by omega) (Or.inl ⟨by rw [← eq8, ← hh_111]; exact c116, hdg, by omega, hz19⟩)
                · exact j168 M_8 (nI 0) (fun _ _ _ => rfl) (by omega) (Or.inr ⟨by rw [← eq8, ← hh_111]; exact c116, eq8, nI0⟩)
              · have hdup : dupS (fun j => (M (b + 1) j).toInt) (fun j => (M (b + 2) j).toInt) r_2.toInt r_7.toInt (ix v2) = true := by
                  obtain ⟨j, z1, z2, z3, z4⟩ := sta_y hsa_92 c96
                  rw [e8b4] at z2
                  rw [e8b1] at z3
                  rw [e8b2] at z4
                  exact dup_t (i := j) ⟨z3, z4⟩ _ (by have z5 := mt (hto j z1).mpr z2; omega)
                refine wp_cb2 (o5_X7_refuse M_8 (nI 6) x_1) (fun r_23 M_24 he103 hq103 => ?_)
                obtain ⟨hz_r_23, hg_M_24, hw_103, hq_103⟩ := hq103
                replace hw_103 : r_23.toInt = 0 := hw_103
                have := t_lit 6
                replace hq_103 : 0 ≤ (nI 6).toInt → (nI 6).toInt ≤ 9 → 0 ≤ x_1.toInt → x_1.toInt ≤ 1000 → (M_24 19 4).toInt = -1000 * (nI 6).toInt - x_1.toInt := hq_103
                have := t_lit 6
                replace hg_M_24 : ∀ a i, ¬ ((a = 19 ∧ i = 4)) → M_24 a i = M_8 a i := hg_M_24
                refine wp_gb hz_r_23 ?_
                exact wp_some ⟨hz_r_23, (fun a i q0 => ((hg_M_24 a i (fun h9 => q0 (Or.inr (Or.inl h9)))).trans ((hg_M_8 a i (fun z8 => q0 ((fun z9 => Or.elim z9 (fun h9 => Or.inl h9) (fun h9 => Or.inr (Or.inl h9))) z8))).trans ((hg_M_5 a i (fun z8 => q0 ((fun z9 => Or.elim z9 (fun h9 => Or.inl h9) (fun h9 => Or.inr (Or.inl h9))) z8))).trans ((hg_M_3 a i (fun z8 => q0 ((fun z9 => Or.elim z9 (fun h9 => Or.inl h9) (fun h9 => Or.inr (Or.inl h9))) z8))).trans rfl))))), (by show LinP (lineS T (M 19 3).toInt (fun j => (M (b + 1) j).toInt) (fun j => (M (b + 2) j).toInt) (ix v2)) r_23.toInt (M_24 19 4).toInt (M_24 19 3).toInt (M_24 (b + 1) (ix v2)).toInt (M_24 (b + 2) (ix v2)).toInt (M_24 (b + 3) (ix v2)).toInt (M_24 (b + 5) (ix v2)).toInt (M 19 3).toInt (M 19 2).toInt; rw [lineS_v n1, lineX_v (by omega) e44, e5, lineY_d m1 (by omega) hdup]; exact ⟨hw_103, by rw [hq_103 (by decide) (by decide) (by omega) (by omega)]; have := t_lit 6; omega⟩), (fun z => absurd hw_103 z)⟩
            · exact j79 (by omega)
    · refine wp_cb2 (o5_X7_refuse M_3 (nI 3) x_1) (fun r_25 M_26 he30 hq30 => ?_)
      obtain ⟨hz_r_25, hg_M_26, hw_30, hq_30⟩ := hq30
      replace hw_30 : r_25.toInt = 0 := hw_30
      have := t_lit 3
      replace hq_30 : 0 ≤ (nI 3).toInt → (nI 3).toInt ≤ 9 → 0 ≤ x_1.toInt → x_1.toInt ≤ 1000 → (M_26 19 4).toInt = -1000 * (nI 3).toInt - x_1.toInt := hq_30
      have := t_lit 3
      replace hg_M_26 : ∀ a i, ¬ ((a = 19 ∧ i = 4)) → M_26 a i = M_3 a i := hg_M_26
      refine wp_gb hz_r_25 ?_
      exact wp_some ⟨hz_r_25, (fun a i q0 => ((hg_M_26 a i (fun h9 => q0 (Or.inr (Or.inl h9)))).trans ((hg_M_3 a i (fun z8 => q0 ((fun z9 => Or.elim z9 (fun h9 => Or.inl h9) (fun h9 => Or.inr (Or.inl h9))) z8))).trans rfl))), (by show LinP (lineS T (M 19 3).toInt (fun j => (M (b + 1) j).toInt) (fun j => (M (b + 2) j).toInt) (ix v2)) r_25.toInt (M_26 19 4).toInt (M_26 19 3).toInt (M_26 (b + 1) (ix v2)).toInt (M_26 (b + 2) (ix v2)).toInt (M_26 (b + 3) (ix v2)).toInt (M_26 (b + 5) (ix v2)).toInt (M 19 3).toInt (M 19 2).toInt; rw [lineS_v n1, lineX_3 (by omega)]; exact ⟨hw_30, by rw [hq_30 (by decide) (by decide) (by omega) (by omega)]; have := t_lit 3; omega⟩), (fun z => absurd hw_30 z)⟩
theorem o5_X2_clearStones {b : Nat} (hb : isF b) (M : Mem) : Wp (f_X2_clearStones b M) (fun q => (∀ a i, ¬ (a = (b + 4)) → q a i = M a i) ∧ (∀ j : Nat, j < 40 → (q (b + 4) j).toInt = 0)) := by
  have hb0 : b = 1 ∨ b = 7 ∨ b = 13 := hb
  refine wp_lp2 (fun M2 y1_2 => (0 ≤ y1_2.toInt) ∧ (∀ a i, ¬ (a = (b + 4)) → M2 a i = M a i) ∧ (∀ j : Nat, (j : Int) < y1_2.toInt → (M2 (b + 4) j).toInt = 0)) (fun M2 y1_2 => (40 - y1_2.toInt).toNat) (fun ag2 M2 y1_2 hI2 ih2 => ?_) FU M (nI 0) ⟨(by have f0 := t_lit 0; omega), (fun _ _ _ => rfl), (fun j hj => absurd hj (by have := t_lit 0; omega))⟩ (fu_lt (by have f0 := t_lit 0; omega))
  obtain ⟨hi2, hf_M2, h2⟩ := hI2
  refine wp_ite (fun c5 => ?_) (fun c5 => ?_)
  · exact wp_some ⟨(fun a i q0 => ((hf_M2 a i (fun h9 => q0 (h9))).trans rfl)), (fun j hj => h2 j (by omega))⟩
  · refine wp_gd (by omega) ?_
    refine wp_bnd (fun M_1 eM_1 => ?_)
    exact ih2 M_1 (y1_2 + (nI 1)) ⟨(by have f0 := t_lit 1; have f1 := t_add y1_2 (nI 1); omega), (fun a i q0 => ((congrFun (congrFun eM_1 a) i).trans ((mset_ne (fun h9 => q0 ((h9).1))).trans ((hf_M2 a i (fun h9 => q0 (h9))).trans rfl)))), (set_ext (P := fun _ x => x.toInt = 0) eM_1 (by omega) (by omega) h2 (by decide))⟩ (by have f0 := t_lit 1; have f1 := t_add y1_2 (nI 1); omega)
set_option maxHeartbeats 8000000 in
theorem o5_X9_readNotebook {b : Nat} (hb : isF b) (M : Mem) (T : Int → Int) (hT : TXc M = T) (hp : 0 ≤ (M 19 3).toInt ∧ (M 19 3).toInt ≤ (M 19 2).toInt ∧ (M 19 2).toInt ≤ 240) : Wp (f_X9_readNotebook b M) (fun q => (∀ a i, ¬ ((a = 19 ∧ i = 3) ∨ (a = 19 ∧ i = 4) ∨ a = (b + 1) ∨ a = (b + 2) ∨ a = (b + 3) ∨ a = (b + 4) ∨ a = (b + 5)) → q.2 a i = M a i) ∧ (q.1.toInt = bookA T 41 (M 19 3).toInt 0 (fun _ => 0) (fun _ => 0))) := by
  have hb0 : b = 1 ∨ b = 7 ∨ b = 13 := hb
  refine wp_bind2 (o5_X2_clearStones hb M) (fun M_1 he1 hq1 => ?_)
  obtain ⟨hg_M_1, hcl_1⟩ := hq1
  replace hcl_1 : ∀ j : Nat, j < 40 → (M_1 (b + 4) j).toInt = 0 := hcl_1
  replace hg_M_1 : ∀ a i, ¬ (a = (b + 4)) → M_1 a i = M a i := by exact fun a i q0 => hg_M_1 a i (by first | decide | (rcases hc0 with h | h <;> rw [h] <;> simp; done) | (rcases hb0 with h | h | h <;> rw [h] <;> simp; done) | (simp; done) | omega)
  refine wp_lp2 (fun M6 y2_6 => (∀ a i, ¬ ((a = 19 ∧ i = 3) ∨ (a = 19 ∧ i = 4) ∨ a = (b + 1) ∨ a = (b + 2) ∨ a = (b + 3) ∨ a = (b + 4) ∨ a = (b + 5)) → M6 a i = M_1 a i) ∧ (0 ≤ y2_6.toInt ∧ y2_6.toInt ≤ 40 ∧ (M6 19 2) = M 19 2 ∧ 0 ≤ (M6 19 3).toInt ∧ (M6 19 3).toInt ≤ (M 19 2).toInt) ∧ (∀ j : Nat, j < 40 → ((M6 (b + 4) j).toInt = 0 ↔ y2_6.toInt ≤ (j : Int))) ∧ (bookA T 41 (M 19 3).toInt 0 (fun _ => 0) (fun _ => 0) = bookA T (41 - ix y2_6) (M6 19 3).toInt (ix y2_6) (fun j => (M6 (b + 1) j).toInt) (fun j => (M6 (b + 2) j).toInt))) (fun M6 y2_6 => (41 - y2_6.toInt).toNat) (fun ag6 M6 y2_6 hI6 ih6 => ?_) FU M_1 (nI 0) ⟨(fun _ _ _ => rfl), ⟨by decide, by decide, hg_M_1 19 2 (by first | decide | (rcases hc0 with h | h <;> rw [h] <;> simp; done) | (rcases hb0 with h | h | h <;> rw [h] <;> simp; done) | (simp; done) | omega), by rw [hg_M_1 19 3 (by first | decide | (rcases hc0 with h | h <;> rw [h] <;> simp; done) | (rcases hb0 with h | h | h <;> rw [h] <;> simp; done) | (simp; done) | omega)]; omega, by rw [hg_M_1 19 3 (by first | decide | (rcases hc0 with h | h <;> rw [h] <;> simp; done) | (rcases hb0 with h | h | h <;> rw [h] <;> simp; done) | (simp; done) | omega)]; omega⟩, (fun j hj => ⟨fun _ => by have := t_lit 0; omega, fun _ => hcl_1 j hj⟩), (by rw [show ix (nI 0) = 0 from (by decide), hg_M_1 19 3 (by first | decide | (rcases hc0 with h | h <;> rw [h] <;> simp; done) | (rcases hb0 with h | h | h <;> rw [h] <;> simp; done) | (simp; done) | omega)]; exact bookA_ext (fun i hi => absurd hi (Nat.not_lt_zero _)))⟩ (fu_lt ((by have := t_lit 0; omega)))
  obtain ⟨hf_M6, h6, ht6, hb6⟩ := hI6
  have fy := t_ixn y2_6 (by omega)
  have e2 := h6.2.2.1
  have e2i := congrArg Int32.toInt e2
  have hT6 : TXc M6 = T := (txc_fr e2 (fun j => by rw [hf_M6 20 j (by first | decide | (rcases hc0 with h | h <;> rw [h] <;> simp; done) | (rcases hb0 with h | h | h <;> rw [h] <;> simp; done) | (simp; done) | omega), hg_M_1 20 j (by first | decide | (rcases hc0 with h | h <;> rw [h] <;> simp; done) | (rcases hb0 with h | h | h <;> rw [h] <;> simp; done) | (simp; done) | omega)])).trans hT
  have j58 : (40 ≤ y2_6.toInt) → Wp (f_X9_readNotebook_L58 M6) (fun q => (∀ a i, ¬ ((a = 19 ∧ i = 3) ∨ (a = 19 ∧ i = 4) ∨ a = (b + 1) ∨ a = (b + 2) ∨ a = (b + 3) ∨ a = (b + 4) ∨ a = (b + 5)) → q.2 a i = M a i) ∧ (q.1.toInt = bookA T 41 (M 19 3).toInt 0 (fun _ => 0) (fun _ => 0))) := by
    intro h58
    unfold f_X9_readNotebook_L58
    refine wp_bind2 (o5_X7_here M6 T hT6 (by rw [e2]; omega)) (fun r_2 he60 hq60 => ?_)
    have hh_60 := hq60
    replace hh_60 : r_2.toInt = T (M6 19 3).toInt := hh_60
    refine wp_bind2 (o5_X7_isDigit M6 r_2) (fun r_3 he63 hq63 => ?_)
    obtain ⟨hz_r_3, hd_63⟩ := hq63
    replace hd_63 : ¬ r_3.toInt = 0 ↔ dgt r_2.toInt = true := hd_63
    have j74 : ∀ (t0_74 : Int32), ((t0_74.toInt = 1 ∧ dgt (T (M6 19 3).toInt) = false) ∨ (t0_74.toInt = 4 ∧ dgt (T (M6 19 3).toInt) = true)) → Wp (f_X9_readNotebook_L74 M6 t0_74) (fun q => (∀ a i, ¬ ((a = 19 ∧ i = 3) ∨ (a = 19 ∧ i = 4) ∨ a = (b + 1) ∨ a = (b + 2) ∨ a = (b + 3) ∨ a = (b + 4) ∨ a = (b + 5)) → q.2 a i = M a i) ∧ (q.1.toInt = bookA T 41 (M 19 3).toInt 0 (fun _ => 0) (fun _ => 0))) := by
      intro t0_74 h74
      unfold f_X9_readNotebook_L74
      refine wp_cb2 (o5_X7_refuse M6 t0_74 (M6 19 3)) (fun r_4 M_5 he78 hq78 => ?_)
      obtain ⟨hz_r_4, hg_M_5, hw_78, hq_78⟩ := hq78
      replace hw_78 : r_4.toInt = 0 := hw_78
      replace hq_78 : 0 ≤ t0_74.toInt → t0_74.toInt ≤ 9 → 0 ≤ (M6 19 3).toInt → (M6 19 3).toInt ≤ 1000 → (M_5 19 4).toInt = -1000 * t0_74.toInt - (M6 19 3).toInt := hq_78
      replace hg_M_5 : ∀ a i, ¬ ((a = 19 ∧ i = 4)) → M_5 a i = M6 a i := hg_M_5
      exact wp_some ⟨(fun a i q0 => ((hg_M_5 a i (fun h9 => q0 (Or.inr (Or.inl h9)))).trans ((hf_M6 a i (fun z8 => q0 ((fun z9 => Or.elim z9 (fun h9 => Or.inl h9) (fun z9 => Or.elim z9 (fun h9 => Or.inr (Or.inl h9)) (fun z9 => Or.elim z9 (fun h9 => Or.inr (Or.inr (Or.inl h9))) (fun z9 => Or.elim z9 (fun h9 => Or.inr (Or.inr (Or.inr (Or.inl h9)))) (fun z9 => Or.elim z9 (fun h9 => Or.inr (Or.inr (Or.inr (Or.inr (Or.inl h9))))) (fun z9 => Or.elim z9 (fun h9 => Or.inr (Or.inr (Or.inr (Or.inr (Or.inr (Or.inl h9)))))) (fun h9 => Or.inr (Or.inr (Or.inr (Or.inr (Or.inr (Or.inr (h9))))))))))))) z8))).trans ((hg_M_1 a i (fun h9 => q0 (Or.inr (Or.inr (Or.inr (Or.inr (Or.inr (Or.inl h9)))))))).trans rfl)))), (by show (M_5 19 4).toInt = _; rw [hb6, show 41 - ix y2_6 = 0 + 1 from (by omega), bookA_40 (by omega), hq_78 (by omega) (by omega) (by omega) (by omega)]; exact h74.elim (fun z => by rw [if_neg (by rw [z.2]; decide)]; omega) (fun z => by rw [if_pos z.2]; omega))⟩
    refine wp_ite (fun c66 => ?_) (fun c66 => ?_)
    · exact j74 (nI 1) (Or.inl ⟨nI1, by rw [← hh_60]; exact Bool.eq_false_iff.mpr (fun z => hd_63.mpr z c66)⟩)
    · exact j74 (nI 4) (Or.inr ⟨t_lit 4, by rw [← hh_60]; exact hd_63.mp c66⟩)
  refine wp_ite (fun c9 => ?_) (fun c9 => ?_)
  · exact j58 (by omega)
  · have hk : 41 - ix y2_6 = (40 - ix y2_6) + 1 := by omega
    rw [hk] at hb6
    have hi := i_up (x := y2_6) (by omega)
    refine wp_cb2 (o5_X9_readLine hb M6 y2_6 T hT6 (by rw [e2]; omega) (by omega) ht6) (fun r_6 M_7 he15 hq15 => ?_)
    obtain ⟨hz_r_6, hg_M_7, hl_15, hr_15⟩ := hq15
    replace hl_15 : LinP (lineS T (M6 19 3).toInt (fun j => (M6 (b + 1) j).toInt) (fun j => (M6 (b + 2) j).toInt) (ix y2_6)) r_6.toInt (M_7 19 4).toInt (M_7 19 3).toInt (M_7 (b + 1) (ix y2_6)).toInt (M_7 (b + 2) (ix y2_6)).toInt (M_7 (b + 3) (ix y2_6)).toInt (M_7 (b + 5) (ix y2_6)).toInt (M6 19 3).toInt (M6 19 2).toInt := hl_15
    replace hr_15 : ¬ r_6.toInt = 0 → (∀ j : Nat, ¬ j = ix y2_6 → M_7 (b + 1) j = M6 (b + 1) j ∧ M_7 (b + 2) j = M6 (b + 2) j ∧ M_7 (b + 4) j = M6 (b + 4) j) ∧ ¬ (M_7 (b + 4) (ix y2_6)).toInt = 0 := hr_15
    replace hg_M_7 : ∀ a i, ¬ ((a = 19 ∧ i = 3) ∨ (a = 19 ∧ i = 4) ∨ a = (b + 1) ∨ a = (b + 2) ∨ a = (b + 3) ∨ a = (b + 4) ∨ a = (b + 5)) → M_7 a i = M6 a i := by exact fun a i q0 => hg_M_7 a i (by first | decide | (rcases hc0 with h | h <;> rw [h] <;> simp; done) | (rcases hb0 with h | h | h <;> rw [h] <;> simp; done) | (simp; done) | omega)
    refine wp_ite (fun c18 => ?_) (fun c18 => ?_)
    · exact wp_some ⟨(fun a i q0 => ((hg_M_7 a i (fun z8 => q0 ((fun z9 => Or.elim z9 (fun h9 => Or.inl h9) (fun z9 => Or.elim z9 (fun h9 => Or.inr (Or.inl h9)) (fun z9 => Or.elim z9 (fun h9 => Or.inr (Or.inr (Or.inl h9))) (fun z9 => Or.elim z9 (fun h9 => Or.inr (Or.inr (Or.inr (Or.inl h9)))) (fun z9 => Or.elim z9 (fun h9 => Or.inr (Or.inr (Or.inr (Or.inr (Or.inl h9))))) (fun z9 => Or.elim z9 (fun h9 => Or.inr (Or.inr (Or.inr (Or.inr (Or.inr (Or.inl h9)))))) (fun h9 => Or.inr (Or.inr (Or.inr (Or.inr (Or.inr (Or.inr (h9))))))))))))) z8))).trans ((hf_M6 a i (fun z8 => q0 ((fun z9 => Or.elim z9 (fun h9 => Or.inl h9) (fun z9 => Or.elim z9 (fun h9 => Or.inr (Or.inl h9)) (fun z9 => Or.elim z9 (fun h9 => Or.inr (Or.inr (Or.inl h9))) (fun z9 => Or.elim z9 (fun h9 => Or.inr (Or.inr (Or.inr (Or.inl h9)))) (fun z9 => Or.elim z9 (fun h9 => Or.inr (Or.inr (Or.inr (Or.inr (Or.inl h9))))) (fun z9 => Or.elim z9 (fun h9 => Or.inr (Or.inr (Or.inr (Or.inr (Or.inr (Or.inl h9)))))) (fun h9 => Or.inr (Or.inr (Or.inr (Or.inr (Or.inr (Or.inr (h9))))))))))))) z8))).trans ((hg_M_1 a i (fun h9 => q0 (Or.inr (Or.inr (Or.inr (Or.inr (Or.inr (Or.inl h9)))))))).trans rfl)))), (by show (M_7 19 4).toInt = _; rw [hb6, bookA_f (by omega) (linP_f hl_15 c18)])⟩
    · obtain ⟨l1, l2, l3⟩ := linP_v hl_15 c18
      have hrr := hr_15 c18
      have e72 : M_7 19 2 = M 19 2 := by rw [hg_M_7 19 2 (by first | decide | (rcases hc0 with h | h <;> rw [h] <;> simp; done) | (rcases hb0 with h | h | h <;> rw [h] <;> simp; done) | (simp; done) | omega), e2]
      have e72i := congrArg Int32.toInt e72
      have hT7 : TXc M_7 = T := (txc_fr (hg_M_7 19 2 (by first | decide | (rcases hc0 with h | h <;> rw [h] <;> simp; done) | (rcases hb0 with h | h | h <;> rw [h] <;> simp; done) | (simp; done) | omega)) (fun j => hg_M_7 20 j (by first | decide | (rcases hc0 with h | h <;> rw [h] <;> simp; done) | (rcases hb0 with h | h | h <;> rw [h] <;> simp; done) | (simp; done) | omega))).trans hT6
      refine wp_bind2 (o5_X7_here M_7 T hT7 (by rw [e72]; omega)) (fun r_8 he27 hq27 => ?_)
      have hh_27 := hq27
      replace hh_27 : r_8.toInt = T (M_7 19 3).toInt := hh_27
      refine wp_ite (fun c31 => ?_) (fun c31 => ?_)
      · exact wp_some ⟨(fun a i q0 => ((hg_M_7 a i (fun z8 => q0 ((fun z9 => Or.elim z9 (fun h9 => Or.inl h9) (fun z9 => Or.elim z9 (fun h9 => Or.inr (Or.inl h9)) (fun z9 => Or.elim z9 (fun h9 => Or.inr (Or.inr (Or.inl h9))) (fun z9 => Or.elim z9 (fun h9 => Or.inr (Or.inr (Or.inr (Or.inl h9)))) (fun z9 => Or.elim z9 (fun h9 => Or.inr (Or.inr (Or.inr (Or.inr (Or.inl h9))))) (fun z9 => Or.elim z9 (fun h9 => Or.inr (Or.inr (Or.inr (Or.inr (Or.inr (Or.inl h9)))))) (fun h9 => Or.inr (Or.inr (Or.inr (Or.inr (Or.inr (Or.inr (h9))))))))))))) z8))).trans ((hf_M6 a i (fun z8 => q0 ((fun z9 => Or.elim z9 (fun h9 => Or.inl h9) (fun z9 => Or.elim z9 (fun h9 => Or.inr (Or.inl h9)) (fun z9 => Or.elim z9 (fun h9 => Or.inr (Or.inr (Or.inl h9))) (fun z9 => Or.elim z9 (fun h9 => Or.inr (Or.inr (Or.inr (Or.inl h9)))) (fun z9 => Or.elim z9 (fun h9 => Or.inr (Or.inr (Or.inr (Or.inr (Or.inl h9))))) (fun z9 => Or.elim z9 (fun h9 => Or.inr (Or.inr (Or.inr (Or.inr (Or.inr (Or.inl h9)))))) (fun h9 => Or.inr (Or.inr (Or.inr (Or.inr (Or.inr (Or.inr (h9))))))))))))) z8))).trans ((hg_M_1 a i (fun h9 => q0 (Or.inr (Or.inr (Or.inr (Or.inr (Or.inr (Or.inl h9)))))))).trans rfl)))), (by show (y2_6 + (nI 1)).toInt = _; rw [hb6, bookA_e (by omega) l1 (by rw [← hh_27]; exact c31), hi.2]; omega)⟩
      · refine wp_cb2 (o5_X7_skip M_7 (nI 59) T hT7 (by rw [e72]; omega) (by decide)) (fun r_9 M_10 he41 hq41 => ?_)
        obtain ⟨hz_r_9, hg_M_10, hs_41⟩ := hq41
        replace hs_41 : SkpP (T (M_7 19 3).toInt) (nI 59).toInt r_9.toInt (M_7 19 3).toInt (M_10 19 3).toInt (M_7 19 2).toInt (M_10 19 4).toInt := hs_41
        have := t_lit 59
        replace hg_M_10 : ∀ a i, ¬ ((a = 19 ∧ i = 3) ∨ (a = 19 ∧ i = 4)) → M_10 a i = M_7 a i := hg_M_10
        refine wp_ite (fun c44 => ?_) (fun c44 => ?_)
        · exact wp_some ⟨(fun a i q0 => ((hg_M_10 a i (fun z8 => q0 ((fun z9 => Or.elim z9 (fun h9 => Or.inl h9) (fun h9 => Or.inr (Or.inl h9))) z8))).trans ((hg_M_7 a i (fun z8 => q0 ((fun z9 => Or.elim z9 (fun h9 => Or.inl h9) (fun z9 => Or.elim z9 (fun h9 => Or.inr (Or.inl h9)) (fun z9 => Or.elim z9 (fun h9 => Or.inr (Or.inr (Or.inl h9))) (fun z9 => Or.elim z9 (fun h9 => Or.inr (Or.inr (Or.inr (Or.inl h9)))) (fun z9 => Or.elim z9 (fun h9 => Or.inr (Or.inr (Or.inr (Or.inr (Or.inl h9))))) (fun z9 => Or.elim z9 (fun h9 => Or.inr (Or.inr (Or.inr (Or.inr (Or.inr (Or.inl h9)))))) (fun h9 => Or.inr (Or.inr (Or.inr (Or.inr (Or.inr (Or.inr (h9))))))))))))) z8))).trans ((hf_M6 a i (fun z8 => q0 ((fun z9 => Or.elim z9 (fun h9 => Or.inl h9) (fun z9 => Or.elim z9 (fun h9 => Or.inr (Or.inl h9)) (fun z9 => Or.elim z9 (fun h9 => Or.inr (Or.inr (Or.inl h9))) (fun z9 => Or.elim z9 (fun h9 => Or.inr (Or.inr (Or.inr (Or.inl h9)))) (fun z9 => Or.elim z9 (fun h9 => Or.inr (Or.inr (Or.inr (Or.inr (Or.inl h9))))) (fun z9 => Or.elim z9 (fun h9 => Or.inr (Or.inr (Or.inr (Or.inr (Or.inr (Or.inl h9)))))) (fun h9 => Or.inr (Or.inr (Or.inr (Or.inr (Or.inr (Or.inr (h9))))))))))))) z8))).trans ((hg_M_1 a i (fun h9 => q0 (Or.inr (Or.inr (Or.inr (Or.inr (Or.inr (Or.inl h9)))))))).trans rfl))))), (by show (M_10 19 4).toInt = _; have z := skp_n hs_41 c44; have f59 := t_lit 59; rw [hb6, bookA_w (by omega) l1 (by rw [← hh_27]; exact c31) (by omega)]; exact z.2)⟩
        · have s41 := skp_y hs_41 c44
          have f59 := t_lit 59
          exact ih6 M_10 (y2_6 + (nI 1)) ⟨(fun a i q0 => ((hg_M_10 a i (fun z8 => q0 ((fun z9 => Or.elim z9 (fun h9 => Or.inl h9) (fun h9 => Or.inr (Or.inl h9))) z8))).trans ((hg_M_7 a i (fun z8 => q0 ((fun z9 => Or.elim z9 (fun h9 => Or.inl h9) (fun z9 => Or.elim z9 (fun h9 => Or.inr (Or.inl h9)) (fun z9 => Or.elim z9 (fun h9 => Or.inr (Or.inr (Or.inl h9))) (fun z9 => Or.elim z9 (fun h9 => Or.inr (Or.inr (Or.inr (Or.inl h9)))) (fun z9 => Or.elim z9 (fun h9 => Or.inr (Or.inr (Or.inr (Or.inr (Or.inl h9))))) (fun z9 => Or.elim z9 (fun h9 => Or.inr (Or.inr (Or.inr (Or.inr (Or.inr (Or.inl h9)))))) (fun h9 => Or.inr (Or.inr (Or.inr (Or.inr (Or.inr (Or.inr (h9))))))))))))) z8))).trans ((hf_M6 a i (fun z8 => q0 ((fun z9 => Or.elim z9 (fun h9 => Or.inl h9) (fun z9 => Or.elim z9 (fun h9 => Or.inr (Or.inl h9)) (fun z9 => Or.elim z9 (fun h9 => Or.inr (Or.inr (Or.inl h9))) (fun z9 => Or.elim z9 (fun h9 => Or.inr (Or.inr (Or.inr (Or.inl h9)))) (fun z9 => Or.elim z9 (fun h9 => Or.inr (Or.inr (Or.inr (Or.inr (Or.inl h9))))) (fun z9 => Or.elim z9 (fun h9 => Or.inr (Or.inr (Or.inr (Or.inr (Or.inr (Or.inl h9)))))) (fun h9 => Or.inr (Or.inr (Or.inr (Or.inr (Or.inr (Or.inr (h9))))))))))))) z8))).trans rfl)))), ⟨by omega, by omega, by rw [hg_M_10 19 2 (by first | decide | (rcases hc0 with h | h <;> rw [h] <;> simp; done) | (rcases hb0 with h | h | h <;> rw [h] <;> simp; done) | (simp; done) | omega), e72], by omega, by omega⟩, (fun j hj => by rw [hg_M_10 (b + 4) j (by first | decide | (rcases hc0 with h | h <;> rw [h] <;> simp; done) | (rcases hb0 with h | h | h <;> rw [h] <;> simp; done) | (simp; done) | omega), hi.2]; by_cases e9 : j = ix y2_6; (rw [e9]; exact ⟨fun z => absurd z hrr.2, fun z => by omega⟩); (rw [(hrr.1 j e9).2.2]; exact ⟨fun z => by have := (ht6 j hj).mp z; omega, fun z => (ht6 j hj).mpr (by omega)⟩)), (by rw [hb6, bookA_n (by omega) l1 (by omega), hi.1, show 41 - (ix y2_6 + 1) = 40 - ix y2_6 from (by omega), show (M_7 19 3).toInt + 1 = (M_10 19 3).toInt from (by omega)]; exact bookA_ext (fun i hz => by show pu _ _ _ i = (M_10 (b + 1) i).toInt ∧ pu _ _ _ i = (M_10 (b + 2) i).toInt; rw [hg_M_10 (b + 1) i (by first | decide | (rcases hc0 with h | h <;> rw [h] <;> simp; done) | (rcases hb0 with h | h | h <;> rw [h] <;> simp; done) | (simp; done) | omega), hg_M_10 (b + 2) i (by first | decide | (rcases hc0 with h | h <;> rw [h] <;> simp; done) | (rcases hb0 with h | h | h <;> rw [h] <;> simp; done) | (simp; done) | omega)]; by_cases e9 : i = ix y2_6; (rw [e9, pu_s, pu_s]; exact ⟨rfl, rfl⟩); (rw [pu_n e9, pu_n e9, (hrr.1 i e9).1, (hrr.1 i e9).2.1]; exact ⟨rfl, rfl⟩)))⟩ (by omega)
