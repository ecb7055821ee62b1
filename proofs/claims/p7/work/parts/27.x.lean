/-! a notebook as a text: what it says, or its fault -/
def dgt (c : Int) : Bool := decide (48 ≤ c ∧ c ≤ 57)
theorem dgt_t {c : Int} (h : 48 ≤ c ∧ c ≤ 57) : dgt c = true := decide_eq_true h
theorem dgt_f {c : Int} (h : ¬ (48 ≤ c ∧ c ≤ 57)) : dgt c = false := decide_eq_false h
theorem dgt_i {c : Int} (h : dgt c = true) : 48 ≤ c ∧ c ≤ 57 := of_decide_eq_true h
def nd (T : Int → Int) (p : Int) : Nat → Nat
  | 0 => 0
  | k + 1 => if dgt (T p) = true then 1 + nd T (p + 1) k else 0
theorem nd_is {T : Int → Int} : ∀ {k c : Nat} {p : Int}, c ≤ k → (∀ i : Nat, i < c → dgt (T (p + i)) = true) → (c = k ∨ dgt (T (p + c)) = false) → nd T p k = c
  | 0, c, p, h1, _, _ => by
    show 0 = c
    omega
  | k + 1, 0, p, _, _, h3 => by
    rcases h3 with z | z
    · omega
    · show (if dgt (T p) = true then 1 + nd T (p + 1) k else 0) = 0
      have z2 : dgt (T p) = false := by
        have e : p + ((0 : Nat) : Int) = p := by omega
        rw [e] at z
        exact z
      rw [if_neg (by rw [z2]; decide)]
  | k + 1, c + 1, p, h1, h2, h3 => by
    have z : dgt (T p) = true := by
      have := h2 0 (by omega)
      rw [show p + ((0 : Nat) : Int) = p from by omega] at this
      exact this
    show (if dgt (T p) = true then 1 + nd T (p + 1) k else 0) = c + 1
    rw [if_pos z, nd_is (k := k) (c := c) (p := p + 1) (by omega) (fun i hi => by
      have := h2 (i + 1) (by omega)
      rw [show p + ((i + 1 : Nat) : Int) = p + 1 + (i : Int) from by omega] at this
      exact this) (by
      rcases h3 with q | q
      · exact Or.inl (by omega)
      · right
        rw [show p + ((c + 1 : Nat) : Int) = p + 1 + (c : Int) from by omega] at q
        exact q)]
    omega
def nvv (T : Int → Int) (p : Int) : Nat → Int
  | 0 => 0
  | c + 1 => 10 * nvv T p c + (T (p + c) - 48)
theorem nvv_s (T : Int → Int) (p : Int) (c : Nat) : nvv T p (c + 1) = 10 * nvv T p c + (T (p + c) - 48) := rfl
theorem nvv_bd {T : Int → Int} {p : Int} : ∀ {c : Nat}, (∀ i : Nat, i < c → dgt (T (p + i)) = true) → 0 ≤ nvv T p c ∧ nvv T p c < (10 : Int) ^ c
  | 0, _ => by simp [nvv]
  | c + 1, h => by
    have h1 := nvv_bd (c := c) (fun i hi => h i (by omega))
    have h2 := dgt_i (h c (by omega))
    rw [nvv_s, Int.pow_succ]
    omega
def numS (T : Int → Int) (p : Int) (k : Nat) : Sum Int (Int × Int) :=
  if nd T p k = 0 then .inl (-1000 - p) else if dgt (T (p + nd T p k)) = true then .inl (-2000 - (p + nd T p k)) else .inr (nvv T p (nd T p k), p + nd T p k)
/-- what number tells, by the digits that it has passed -/
theorem numS_0 {T : Int → Int} {p : Int} {k : Nat} (hk : 0 < k) (h : dgt (T p) = false) : numS T p k = .inl (-1000 - p) := by
  have e : nd T p k = 0 := nd_is (by omega) (fun i hi => absurd hi (Nat.not_lt_zero _)) (Or.inr (by rw [show p + ((0 : Nat) : Int) = p from by omega]; exact h))
  unfold numS
  rw [if_pos e]
theorem numS_2 {T : Int → Int} {p : Int} {k : Nat} (hk : 0 < k) (h : ∀ i : Nat, i < k → dgt (T (p + i)) = true) (h2 : dgt (T (p + k)) = true) : numS T p k = .inl (-2000 - (p + k)) := by
  have e : nd T p k = k := nd_is (Nat.le_refl _) h (Or.inl rfl)
  unfold numS
  rw [e, if_neg (by omega), if_pos h2]
theorem numS_v {T : Int → Int} {p : Int} {k c : Nat} (hc : 0 < c) (hk : c ≤ k) (h : ∀ i : Nat, i < c → dgt (T (p + i)) = true) (h2 : dgt (T (p + c)) = false) : numS T p k = .inr (nvv T p c, p + c) := by
  have e : nd T p k = c := nd_is hk h (Or.inr h2)
  unfold numS
  rw [e, if_neg (by omega), if_neg (by rw [h2]; decide)]
def dupS (X Y : Nat → Int) (x y : Int) : Nat → Bool
  | 0 => false
  | n + 1 => dupS X Y x y n || decide (X n = x ∧ Y n = y)
theorem dup_t {X Y : Nat → Int} {x y : Int} {i : Nat} (h : X i = x ∧ Y i = y) : ∀ n, i < n → dupS X Y x y n = true
  | 0, hi => absurd hi (Nat.not_lt_zero _)
  | n + 1, hi => by
    show (dupS X Y x y n || decide (X n = x ∧ Y n = y)) = true
    by_cases e : i = n
    · rw [← e, decide_eq_true h, Bool.or_true]
    · rw [dup_t h n (by omega), Bool.true_or]
theorem dup_f {X Y : Nat → Int} {x y : Int} : ∀ n, (∀ i, i < n → ¬ (X i = x ∧ Y i = y)) → dupS X Y x y n = false
  | 0, _ => rfl
  | n + 1, h => by
    show (dupS X Y x y n || decide (X n = x ∧ Y n = y)) = false
    rw [dup_f n (fun i hi => h i (by omega)), decide_eq_false (h n (by omega))]
    rfl
theorem dup_ext {X Y X' Y' : Nat → Int} {x y : Int} : ∀ n, (∀ i, i < n → X i = X' i ∧ Y i = Y' i) → dupS X Y x y n = dupS X' Y' x y n
  | 0, _ => rfl
  | n + 1, h => by
    show (dupS X Y x y n || decide (X n = x ∧ Y n = y)) = (dupS X' Y' x y n || decide (X' n = x ∧ Y' n = y))
    rw [dup_ext n (fun i hi => h i (by omega)), (h n (by omega)).1, (h n (by omega)).2]
/-- behind the place: 's' and a digit, 'u' -/
def tailS (T : Int → Int) (p : Int) : Sum Int (Int × Int × Int) :=
  if T p = 115 then (if dgt (T (p + 1)) = true then .inr (T (p + 1) - 48, if T (p + 2) = 117 then (1, p + 3) else (0, p + 2)) else .inl (-1000 - (p + 1))) else .inr (0, if T p = 117 then (1, p + 1) else (0, p))
def lineZ (x y : Int) (r : Sum Int (Int × Int × Int)) : Sum Int (Int × Int × Int × Int × Int) := match r with
  | .inl f => .inl f
  | .inr q => .inr (x, y, q.1, q.2.1, q.2.2)
def lineY (T : Int → Int) (p : Int) (X Y : Nat → Int) (n : Nat) (x p2 : Int) : Sum Int (Int × Int × Int × Int × Int) := match numS T p2 2 with
  | .inl f => .inl f
  | .inr q => if 1 ≤ q.1 ∧ q.1 ≤ 20 then (if dupS X Y x q.1 n = true then .inl (-6000 - p) else lineZ x q.1 (tailS T q.2)) else .inl (-3000 - p2)
def lineX (T : Int → Int) (p : Int) (X Y : Nat → Int) (n : Nat) (x p1 : Int) : Sum Int (Int × Int × Int × Int × Int) := if 39 < x then .inl (-3000 - p) else if T p1 = 44 then lineY T p X Y n x (p1 + 1) else .inl (-1000 - p1)
/-- a line: x, y, slippery, under, and where it ends -/
def lineS (T : Int → Int) (p : Int) (X Y : Nat → Int) (n : Nat) : Sum Int (Int × Int × Int × Int × Int) := match numS T p 2 with
  | .inl f => .inl f
  | .inr q => lineX T p X Y n q.1 q.2
theorem lineS_f {T : Int → Int} {p f : Int} {X Y : Nat → Int} {n : Nat} (h : numS T p 2 = .inl f) : lineS T p X Y n = .inl f := by unfold lineS; rw [h]
theorem lineS_v {T : Int → Int} {p x p1 : Int} {X Y : Nat → Int} {n : Nat} (h : numS T p 2 = .inr (x, p1)) : lineS T p X Y n = lineX T p X Y n x p1 := by unfold lineS; rw [h]
theorem lineX_3 {T : Int → Int} {p x p1 : Int} {X Y : Nat → Int} {n : Nat} (h : 39 < x) : lineX T p X Y n x p1 = .inl (-3000 - p) := if_pos h
theorem lineX_1 {T : Int → Int} {p x p1 : Int} {X Y : Nat → Int} {n : Nat} (h : ¬ 39 < x) (h2 : ¬ T p1 = 44) : lineX T p X Y n x p1 = .inl (-1000 - p1) := by unfold lineX; rw [if_neg h, if_neg h2]
theorem lineX_v {T : Int → Int} {p x p1 : Int} {X Y : Nat → Int} {n : Nat} (h : ¬ 39 < x) (h2 : T p1 = 44) : lineX T p X Y n x p1 = lineY T p X Y n x (p1 + 1) := by unfold lineX; rw [if_neg h, if_pos h2]
theorem lineY_f {T : Int → Int} {p x p2 f : Int} {X Y : Nat → Int} {n : Nat} (h : numS T p2 2 = .inl f) : lineY T p X Y n x p2 = .inl f := by unfold lineY; rw [h]
theorem lineY_3 {T : Int → Int} {p x p2 y q : Int} {X Y : Nat → Int} {n : Nat} (h : numS T p2 2 = .inr (y, q)) (h2 : ¬ (1 ≤ y ∧ y ≤ 20)) : lineY T p X Y n x p2 = .inl (-3000 - p2) := by
  unfold lineY
  rw [h]
  exact if_neg h2
theorem lineY_d {T : Int → Int} {p x p2 y q : Int} {X Y : Nat → Int} {n : Nat} (h : numS T p2 2 = .inr (y, q)) (h2 : 1 ≤ y ∧ y ≤ 20) (hd : dupS X Y x y n = true) : lineY T p X Y n x p2 = .inl (-6000 - p) := by
  unfold lineY
  rw [h]
  show (if 1 ≤ y ∧ y ≤ 20 then (if dupS X Y x y n = true then Sum.inl (-6000 - p) else lineZ x y (tailS T q)) else Sum.inl (-3000 - p2)) = _
  rw [if_pos h2, if_pos hd]
theorem lineY_v {T : Int → Int} {p x p2 y q : Int} {X Y : Nat → Int} {n : Nat} (h : numS T p2 2 = .inr (y, q)) (h2 : 1 ≤ y ∧ y ≤ 20) (hd : dupS X Y x y n = false) : lineY T p X Y n x p2 = lineZ x y (tailS T q) := by
  unfold lineY
  rw [h]
  show (if 1 ≤ y ∧ y ≤ 20 then (if dupS X Y x y n = true then Sum.inl (-6000 - p) else lineZ x y (tailS T q)) else Sum.inl (-3000 - p2)) = _
  rw [if_pos h2, if_neg (by rw [hd]; decide)]
theorem lineS_ext {T : Int → Int} {p : Int} {X Y X' Y' : Nat → Int} {n : Nat} (h : ∀ i, i < n → X i = X' i ∧ Y i = Y' i) : lineS T p X Y n = lineS T p X' Y' n := by
  have e : ∀ x y, dupS X Y x y n = dupS X' Y' x y n := fun x y => dup_ext n h
  unfold lineS lineX lineY
  simp only [e]
/-- what a notebook is answered with -/
def bookA (T : Int → Int) : Nat → Int → Nat → (Nat → Int) → (Nat → Int) → Int
  | 0, _, _, _, _ => 0
  | k + 1, p, n, X, Y => if 40 ≤ n then (if dgt (T p) = true then -4000 - p else -1000 - p) else match lineS T p X Y n with
    | .inl f => f
    | .inr q => if T q.2.2.2.2 = -1 then (n : Int) + 1 else if T q.2.2.2.2 = 59 then bookA T k (q.2.2.2.2 + 1) (n + 1) (pu X n q.1) (pu Y n q.2.1) else -1000 - q.2.2.2.2
termination_by k => k
theorem bookA_ext {T : Int → Int} : ∀ {k n : Nat} {p : Int} {X Y X' Y' : Nat → Int}, (∀ i, i < n → X i = X' i ∧ Y i = Y' i) → bookA T k p n X Y = bookA T k p n X' Y'
  | 0, _, _, _, _, _, _, _ => by simp only [bookA]
  | k + 1, n, p, X, Y, X', Y', h => by
    have e := lineS_ext (T := T) (p := p) h
    have e2 : ∀ q : Int × Int × Int × Int × Int, bookA T k (q.2.2.2.2 + 1) (n + 1) (pu X n q.1) (pu Y n q.2.1) = bookA T k (q.2.2.2.2 + 1) (n + 1) (pu X' n q.1) (pu Y' n q.2.1) := fun q => bookA_ext (fun i hi => by
      by_cases c : i = n
      · rw [c, pu_s, pu_s, pu_s, pu_s]; exact ⟨rfl, rfl⟩
      · rw [pu_n c, pu_n c, pu_n c, pu_n c]; exact h i (by omega))
    simp only [bookA, e, e2]
/-- results of a number, in class and reference -/
def NumP (r : Sum Int (Int × Int)) (res flt pl lo hi : Int) : Prop := match r with
  | .inl f => res = -1 ∧ flt = f
  | .inr q => res = q.1 ∧ 0 ≤ q.1 ∧ q.1 ≤ 99999 ∧ pl = q.2 ∧ lo < q.2 ∧ q.2 ≤ hi
def NumQ (r : Sum Int (Int × Int)) (res flt pl num lo hi : Int) : Prop := match r with
  | .inl f => res = 0 ∧ flt = f
  | .inr q => ¬ res = 0 ∧ num = q.1 ∧ 0 ≤ q.1 ∧ q.1 ≤ 99999 ∧ pl = q.2 ∧ lo < q.2 ∧ q.2 ≤ hi
theorem numP_f {r : Sum Int (Int × Int)} {res flt pl lo hi : Int} (h : NumP r res flt pl lo hi) (hr : res = -1) : r = .inl flt := by
  cases r with
  | inl f => exact congrArg Sum.inl h.2.symm
  | inr q =>
    obtain ⟨h1, h2, -⟩ := h
    omega
theorem numP_v {r : Sum Int (Int × Int)} {res flt pl lo hi : Int} (h : NumP r res flt pl lo hi) (hr : ¬ res = -1) : r = .inr (res, pl) ∧ 0 ≤ res ∧ res ≤ 99999 ∧ lo < pl ∧ pl ≤ hi := by
  cases r with
  | inl f => exact absurd h.1 hr
  | inr q =>
    obtain ⟨h1, h2, h3, h4, h5, h6⟩ := h
    exact ⟨by rw [h1, h4], by omega, by omega, by omega, by omega⟩
theorem numQ_f {r : Sum Int (Int × Int)} {res flt pl num lo hi : Int} (h : NumQ r res flt pl num lo hi) (hr : res = 0) : r = .inl flt := by
  cases r with
  | inl f => exact congrArg Sum.inl h.2.symm
  | inr q => exact absurd hr h.1
theorem numQ_v {r : Sum Int (Int × Int)} {res flt pl num lo hi : Int} (h : NumQ r res flt pl num lo hi) (hr : ¬ res = 0) : r = .inr (num, pl) ∧ 0 ≤ num ∧ num ≤ 99999 ∧ lo < pl ∧ pl ≤ hi := by
  cases r with
  | inl f => exact absurd h.1 hr
  | inr q =>
    obtain ⟨h0, h1, h2, h3, h4, h5, h6⟩ := h
    exact ⟨by rw [h1, h4], by omega, by omega, by omega, by omega⟩
/-- the text that stands in the class's tape, in the reference's -/
def txt (b : Nat → Int) (n p : Int) : Int := if 0 ≤ p ∧ p < n then b p.toNat else -1
def TXc (M : Mem) : Int → Int := txt (fun j => (M 20 j).toInt) (M 19 2).toInt
def TXr (M : Mem) : Int → Int := txt (fun j => ((M 5 j) &&& (nI 255)).toInt) (M 0 8).toInt
theorem txc_fr {M M' : Mem} (e2 : M' 19 2 = M 19 2) (e20 : ∀ j, M' 20 j = M 20 j) : TXc M' = TXc M := by
  unfold TXc
  rw [e2, show (fun j => (M' 20 j).toInt) = (fun j => (M 20 j).toInt) from funext (fun j => by rw [e20])]
theorem txr_fr {M M' : Mem} (e8 : M' 0 8 = M 0 8) (e5 : ∀ j, M' 5 j = M 5 j) : TXr M' = TXr M := by
  unfold TXr
  rw [e8, show (fun j => ((M' 5 j) &&& (nI 255)).toInt) = (fun j => ((M 5 j) &&& (nI 255)).toInt) from funext (fun j => by rw [e5])]
theorem txt_in {b : Nat → Int} {n p : Int} (h : 0 ≤ p ∧ p < n) : txt b n p = b p.toNat := if_pos h
theorem txt_out {b : Nat → Int} {n p : Int} (h : ¬ (0 ≤ p ∧ p < n)) : txt b n p = -1 := if_neg h
theorem txt_ext {b b' : Nat → Int} {n : Int} (h : ∀ j : Nat, (j : Int) < n → b j = b' j) : txt b n = txt b' n := funext (fun p => by
  unfold txt
  by_cases c : 0 ≤ p ∧ p < n
  · rw [if_pos c, if_pos c]; exact h p.toNat (by omega)
  · rw [if_neg c, if_neg c])
def TailP (T : Int → Int) (q pl s : Int) : Prop := (T q = 115 ∧ dgt (T (q + 1)) = true ∧ pl = q + 2 ∧ s = T (q + 1) - 48) ∨ (¬ T q = 115 ∧ pl = q ∧ s = 0)
def UndB (T : Int → Int) (pl u : Int) : Prop := (u = 1 ∧ T pl = 117) ∨ (u = 0 ∧ ¬ T pl = 117)
def UndP (T : Int → Int) (pl u pl2 : Int) : Prop := (u = 1 ∧ T pl = 117 ∧ pl2 = pl + 1) ∨ (u = 0 ∧ ¬ T pl = 117 ∧ pl2 = pl)
theorem und_0 {T : Int → Int} {pl u : Int} (h : UndB T pl u) (hu : u = 0) : ¬ T pl = 117 := by
  rcases h with z | z
  · omega
  · exact z.2
theorem und_1 {T : Int → Int} {pl u : Int} (h : UndB T pl u) (hu : ¬ u = 0) : u = 1 ∧ T pl = 117 := by
  rcases h with z | z
  · exact z
  · exact absurd z.1 hu
def SkpP (t v res p pl hi flt : Int) : Prop := (¬ res = 0 ∧ t = v ∧ pl = p + 1 ∧ p < hi) ∨ (res = 0 ∧ ¬ t = v ∧ flt = -1000 - p)
theorem skp_y {t v res p pl hi flt : Int} (h : SkpP t v res p pl hi flt) (hr : ¬ res = 0) : t = v ∧ pl = p + 1 ∧ p < hi := (h.resolve_right (fun z => hr z.1)).2
theorem skp_n {t v res p pl hi flt : Int} (h : SkpP t v res p pl hi flt) (hr : res = 0) : ¬ t = v ∧ flt = -1000 - p := (h.resolve_left (fun z => z.1 hr)).2
theorem ne1 : ¬ (nI 1).toInt = 0 := by decide
theorem tail_is {T : Int → Int} {q s u pl pl2 : Int} (h : TailP T q pl s) (hu : UndP T pl u pl2) : tailS T q = .inr (s, u, pl2) := by
  unfold tailS
  rcases h with ⟨h1, h2, h3, h4⟩ | ⟨h1, h3, h4⟩
  · rw [if_pos h1, if_pos h2, h4]
    rw [h3] at hu
    rcases hu with ⟨u1, u2, u3⟩ | ⟨u1, u2, u3⟩
    · rw [if_pos u2, u1, u3, show q + 2 + 1 = q + 3 from by omega]
    · rw [if_neg u2, u1, u3]
  · rw [if_neg h1, h4]
    rw [h3] at hu
    rcases hu with ⟨u1, u2, u3⟩ | ⟨u1, u2, u3⟩
    · rw [if_pos u2, u1, u3]
    · rw [if_neg u2, u1, u3]
theorem tail_f {T : Int → Int} {q : Int} (h : T q = 115) (hd : dgt (T (q + 1)) = false) : tailS T q = .inl (-1000 - (q + 1)) := by
  unfold tailS
  rw [if_pos h, if_neg (by rw [hd]; decide)]
def LinP (r : Sum Int (Int × Int × Int × Int × Int)) (res flt pl x y s u lo hi : Int) : Prop := match r with
  | .inl f => res = 0 ∧ flt = f
  | .inr q => ¬ res = 0 ∧ x = q.1 ∧ y = q.2.1 ∧ s = q.2.2.1 ∧ u = q.2.2.2.1 ∧ pl = q.2.2.2.2 ∧ lo < q.2.2.2.2 ∧ q.2.2.2.2 ≤ hi
theorem linP_f {r : Sum Int (Int × Int × Int × Int × Int)} {res flt pl x y s u lo hi : Int} (h : LinP r res flt pl x y s u lo hi) (hr : res = 0) : r = .inl flt := by
  cases r with
  | inl f => exact congrArg Sum.inl h.2.symm
  | inr q => exact absurd hr h.1
theorem linP_v {r : Sum Int (Int × Int × Int × Int × Int)} {res flt pl x y s u lo hi : Int} (h : LinP r res flt pl x y s u lo hi) (hr : ¬ res = 0) : r = .inr (x, y, s, u, pl) ∧ lo < pl ∧ pl ≤ hi := by
  cases r with
  | inl f => exact absurd h.1 hr
  | inr q =>
    obtain ⟨h0, h1, h2, h3, h4, h5, h6, h7⟩ := h
    exact ⟨by rw [h1, h2, h3, h4, h5], by omega, by omega⟩
theorem bookA_40 {T : Int → Int} {k n : Nat} {p : Int} {X Y : Nat → Int} (h : 40 ≤ n) : bookA T (k + 1) p n X Y = (if dgt (T p) = true then -4000 - p else -1000 - p) := by
  simp only [bookA]
  rw [if_pos h]
theorem bookA_f {T : Int → Int} {k n : Nat} {p f : Int} {X Y : Nat → Int} (h : ¬ 40 ≤ n) (hl : lineS T p X Y n = .inl f) : bookA T (k + 1) p n X Y = f := by
  simp only [bookA]
  rw [if_neg h, hl]
theorem bookA_e {T : Int → Int} {k n : Nat} {p x y s u q : Int} {X Y : Nat → Int} (h : ¬ 40 ≤ n) (hl : lineS T p X Y n = .inr (x, y, s, u, q)) (he : T q = -1) : bookA T (k + 1) p n X Y = (n : Int) + 1 := by
  simp only [bookA]
  rw [if_neg h, hl]
  exact if_pos he
theorem bookA_w {T : Int → Int} {k n : Nat} {p x y s u q : Int} {X Y : Nat → Int} (h : ¬ 40 ≤ n) (hl : lineS T p X Y n = .inr (x, y, s, u, q)) (he : ¬ T q = -1) (h9 : ¬ T q = 59) : bookA T (k + 1) p n X Y = -1000 - q := by
  simp only [bookA]
  rw [if_neg h, hl]
  show (if T q = -1 then _ else _) = _
  rw [if_neg he, if_neg h9]
theorem bookA_n {T : Int → Int} {k n : Nat} {p x y s u q : Int} {X Y : Nat → Int} (h : ¬ 40 ≤ n) (hl : lineS T p X Y n = .inr (x, y, s, u, q)) (h9 : T q = 59) : bookA T (k + 1) p n X Y = bookA T k (q + 1) (n + 1) (pu X n x) (pu Y n y) := by
  simp only [bookA]
  rw [if_neg h, hl]
  show (if T q = -1 then _ else _) = _
  rw [if_neg (by omega), if_pos h9]
def BetQ (r : Sum Int (Int × Int)) (p a b res flt pl num lo hi : Int) : Prop := (res = 0 ∧ (r = .inl flt ∨ (∃ x q : Int, r = .inr (x, q) ∧ 0 ≤ x ∧ ¬ (a ≤ x ∧ x ≤ b) ∧ flt = -3000 - p))) ∨ (¬ res = 0 ∧ r = .inr (num, pl) ∧ (a ≤ num ∧ num ≤ b) ∧ lo < pl ∧ pl ≤ hi)
theorem dg_inr {M : Mem} {T : Int → Int} {p : Int} (hT : TXr M = T) (h : dgt (T p) = true) : 0 ≤ p ∧ p < (M 0 8).toInt := by
  by_cases c : 0 ≤ p ∧ p < (M 0 8).toInt
  · exact c
  · rw [← hT, show TXr M p = -1 from txt_out c] at h
    exact absurd h (by decide)
theorem tx_inr {M : Mem} {T : Int → Int} {p : Int} (hT : TXr M = T) (h : ¬ T p = -1) : p < (M 0 8).toInt := by
  by_cases c : 0 ≤ p ∧ p < (M 0 8).toInt
  · exact c.2
  · rw [← hT] at h
    exact absurd (txt_out c) h
theorem betQ_f {p a b res flt pl num lo hi : Int} {r : Sum Int (Int × Int)} (h : BetQ r p a b res flt pl num lo hi) (hr : res = 0) : r = .inl flt ∨ (∃ x q : Int, r = .inr (x, q) ∧ 0 ≤ x ∧ ¬ (a ≤ x ∧ x ≤ b) ∧ flt = -3000 - p) := (h.resolve_right (fun z => z.1 hr)).2
theorem betQ_v {p a b res flt pl num lo hi : Int} {r : Sum Int (Int × Int)} (h : BetQ r p a b res flt pl num lo hi) (hr : ¬ res = 0) : r = .inr (num, pl) ∧ (a ≤ num ∧ num ≤ b) ∧ lo < pl ∧ pl ≤ hi := (h.resolve_left (fun z => hr z.1)).2

def DgI (res : Int) (b : Bool) : Prop := ¬ res = 0 ↔ b = true
theorem dgi_1 {res : Int} {b : Bool} (h : DgI res b) (hr : ¬ res = 0) : b = true := h.mp hr
theorem dgi_0 {res : Int} {b : Bool} (h : DgI res b) (hr : res = 0) : b = false := Bool.eq_false_iff.mpr (fun z => h.mpr z hr)
def StA (f1 f2 f4 : Nat → Int32) (x y res : Int) : Prop := (res = -1 ∧ ∀ j : Nat, j < 40 → ¬ (f4 j).toInt = 0 → ¬ ((f1 j).toInt = x ∧ (f2 j).toInt = y)) ∨ (¬ res = -1 ∧ ∃ j : Nat, j < 40 ∧ ¬ (f4 j).toInt = 0 ∧ (f1 j).toInt = x ∧ (f2 j).toInt = y)
theorem sta_n {f1 f2 f4 : Nat → Int32} {x y res : Int} (h : StA f1 f2 f4 x y res) (hr : res = -1) : ∀ j : Nat, j < 40 → ¬ (f4 j).toInt = 0 → ¬ ((f1 j).toInt = x ∧ (f2 j).toInt = y) := (h.resolve_right (fun z => z.1 hr)).2
theorem sta_y {f1 f2 f4 : Nat → Int32} {x y res : Int} (h : StA f1 f2 f4 x y res) (hr : ¬ res = -1) : ∃ j : Nat, j < 40 ∧ ¬ (f4 j).toInt = 0 ∧ (f1 j).toInt = x ∧ (f2 j).toInt = y := (h.resolve_left (fun z => hr z.1)).2
theorem nar_b {x : Int32} (h : x.toInt = 0 ∨ x.toInt = 1) : (vp_nar .boolean x).toInt = x.toInt := by
  rcases b01_of h with rfl | rfl <;> decide
theorem flt_is {a b : Int32} (h1 : 0 ≤ a.toInt) (h2 : a.toInt ≤ 9) (h3 : 0 ≤ b.toInt) (h4 : b.toInt ≤ 1000) : ((-1000) * a - b).toInt = -1000 * a.toInt - b.toInt := by
  have e : ((-1000 : Int32)).toInt = -1000 := by decide
  have f : ((-1000) * a).toInt = -1000 * a.toInt := by rw [t_mul (by rw [e]; omega), e]
  have g := t_sub ((-1000) * a) b
  omega
theorem dg_in {M : Mem} {T : Int → Int} {p : Int} (hT : TXc M = T) (h : dgt (T p) = true) : 0 ≤ p ∧ p < (M 19 2).toInt := by
  by_cases c : 0 ≤ p ∧ p < (M 19 2).toInt
  · exact c
  · rw [← hT, show TXc M p = -1 from txt_out c] at h
    exact absurd h (by decide)
theorem tx_in {M : Mem} {T : Int → Int} {p : Int} (hT : TXc M = T) (h : ¬ T p = -1) : p < (M 19 2).toInt := by
  by_cases c : 0 ≤ p ∧ p < (M 19 2).toInt
  · exact c.2
  · rw [← hT] at h
    exact absurd (txt_out c) h
theorem o5_X7_here (M : Mem) (T : Int → Int) (hT : TXc M = T) (hp : 0 ≤ (M 19 3).toInt ∧ (M 19 3).toInt ≤ (M 19 2).toInt ∧ (M 19 2).toInt ≤ 240) : Wp (f_X7_here M) (fun q => (q.toInt = T (M 19 3).toInt)) := by
  refine wp_ite (fun c4 => ?_) (fun c4 => ?_)
  · exact wp_some (False.elim (by omega))
  · refine wp_ite (fun c15 => ?_) (fun c15 => ?_)
    · exact wp_some (by show (-1 : Int32).toInt = T (M 19 3).toInt; rw [← hT]; exact (txt_out (by omega)).symm)
    · refine wp_ite (fun c25 => ?_) (fun c25 => ?_)
      · exact wp_some (False.elim (by omega))
      · refine wp_gd (by omega) ?_
        exact wp_some (by show (M 20 (ix (M 19 3))).toInt = T (M 19 3).toInt; rw [← hT]; exact (txt_in (b := fun j => (M 20 j).toInt) (n := (M 19 2).toInt) (p := (M 19 3).toInt) (by omega)).symm)
theorem o5_X7_isDigit (M : Mem) (v0 : Int32) : Wp (f_X7_isDigit v0) (fun q => (q = 0 ∨ q = 1) ∧ (¬ q.toInt = 0 ↔ dgt v0.toInt = true)) := by
  refine wp_ite (fun c3 => ?_) (fun c3 => ?_)
  · exact wp_some ⟨b01_0, ⟨fun z => absurd nI0 z, fun z => absurd (dgt_i z) (by omega)⟩⟩
  · refine wp_ite (fun c9 => ?_) (fun c9 => ?_)
    · exact wp_some ⟨b01_0, ⟨fun z => absurd nI0 z, fun z => absurd (dgt_i z) (by omega)⟩⟩
    · exact wp_some ⟨b01_1, ⟨fun _ => dgt_t (by omega), fun _ => by decide⟩⟩
theorem o5_X7_refuse (M : Mem) (v1 : Int32) (v2 : Int32) : Wp (f_X7_refuse M v1 v2) (fun q => (q.1 = 0 ∨ q.1 = 1) ∧ (∀ a i, ¬ ((a = 19 ∧ i = 4)) → q.2 a i = M a i) ∧ (q.1.toInt = 0) ∧ (0 ≤ v1.toInt → v1.toInt ≤ 9 → 0 ≤ v2.toInt → v2.toInt ≤ 1000 → (q.2 19 4).toInt = -1000 * v1.toInt - v2.toInt)) := by
  refine wp_bnd (fun M_1 eM_1 => ?_)
  exact wp_some ⟨b01_0, (fun a i q0 => ((congrFun (congrFun eM_1 a) i).trans ((mset_ne (fun h9 => q0 (h9))).trans rfl))), nI0, (fun z1 z2 z3 z4 => by show (M_1 19 4).toInt = _; rw [eM_1, mset_eq]; exact flt_is z1 z2 z3 z4)⟩
set_option maxHeartbeats 4000000 in
theorem o5_X7_number (M : Mem) (v1 : Int32) (T : Int → Int) (hT : TXc M = T) (hk : 1 ≤ v1.toInt ∧ v1.toInt ≤ 5) (hp : 0 ≤ (M 19 3).toInt ∧ (M 19 3).toInt ≤ (M 19 2).toInt ∧ (M 19 2).toInt ≤ 240) : Wp (f_X7_number M v1) (fun q => (∀ a i, ¬ ((a = 19 ∧ i = 3) ∨ (a = 19 ∧ i = 4)) → q.2 a i = M a i) ∧ (NumP (numS T (M 19 3).toInt (ix v1)) q.1.toInt (q.2 19 4).toInt (q.2 19 3).toInt (M 19 3).toInt (M 19 2).toInt)) := by
  have ft1 := t_rng v1
  refine wp_lp3 (fun M4 y2_4 y3_4 => (0 ≤ y3_4.toInt) ∧ (∀ a i, ¬ ((a = 19 ∧ i = 3)) → M4 a i = M a i) ∧ ((M4 19 3).toInt = (M 19 3).toInt + y3_4.toInt ∧ y3_4.toInt ≤ v1.toInt ∧ (M4 19 3).toInt ≤ (M 19 2).toInt) ∧ (∀ i : Nat, (i : Int) < y3_4.toInt → dgt (T ((M 19 3).toInt + i)) = true) ∧ (y2_4.toInt = nvv T (M 19 3).toInt (ix y3_4))) (fun M4 y2_4 y3_4 => (v1.toInt - y3_4.toInt).toNat) (fun ag4 M4 y2_4 y3_4 hI4 ih4 => ?_) FU M (nI 0) (nI 0) ⟨(by have f0 := t_lit 0; omega), (fun _ _ _ => rfl), (by have := t_lit 0; omega), (fun i hi => absurd hi (by have := t_lit 0; omega)), (by rw [show ix (nI 0) = 0 from (by decide)]; exact nI0)⟩ (fu_lt (by have f0 := t_lit 0; omega))
  obtain ⟨hi4, hf_M4, h4, hd4, hv4⟩ := hI4
  have fk := t_ixn v1 (by omega)
  have fy := t_ixn y3_4 (by omega)
  have hnb := nvv_bd (T := T) (p := (M 19 3).toInt) (c := ix y3_4) (fun i hi => hd4 i (by omega))
  have hpw := pow10_le (show ix y3_4 ≤ 5 by omega)
  have hp5 : (10 : Int) ^ 5 = 100000 := by decide
  have j48 : (v1.toInt ≤ y3_4.toInt ∨ dgt (T (M4 19 3).toInt) = false) → Wp (f_X7_number_L48 M4 y2_4 y3_4) (fun q => (∀ a i, ¬ ((a = 19 ∧ i = 3) ∨ (a = 19 ∧ i = 4)) → q.2 a i = M a i) ∧ (NumP (numS T (M 19 3).toInt (ix v1)) q.1.toInt (q.2 19 4).toInt (q.2 19 3).toInt (M 19 3).toInt (M 19 2).toInt)) := by
    intro h48
    unfold f_X7_number_L48
    refine wp_ite (fun c49 => ?_) (fun c49 => ?_)
    · refine wp_cb2 (o5_X7_refuse M4 (nI 1) (M4 19 3)) (fun r_5 M_6 he58 hq58 => ?_)
      obtain ⟨hz_r_5, hg_M_6, hw_58, hq_58⟩ := hq58
      replace hw_58 : r_5.toInt = 0 := hw_58
      have := t_lit 1
      replace hq_58 : 0 ≤ (nI 1).toInt → (nI 1).toInt ≤ 9 → 0 ≤ (M4 19 3).toInt → (M4 19 3).toInt ≤ 1000 → (M_6 19 4).toInt = -1000 * (nI 1).toInt - (M4 19 3).toInt := hq_58
      have := t_lit 1
      replace hg_M_6 : ∀ a i, ¬ ((a = 19 ∧ i = 4)) → M_6 a i = M4 a i := hg_M_6
      exact wp_some ⟨(fun a i q0 => ((hg_M_6 a i (fun h9 => q0 (Or.inr (h9)))).trans ((hf_M4 a i (fun h9 => q0 (Or.inl h9))).trans rfl))), (by show NumP _ (-1 : Int32).toInt (M_6 19 4).toInt (M_6 19 3).toInt _ _; rw [numS_0 (by omega) (by rw [show (M 19 3).toInt = (M4 19 3).toInt from (by omega)]; exact h48.resolve_left (by omega))]; exact ⟨by decide, by rw [hq_58 (by decide) (by decide) (by omega) (by omega)]; have := t_lit 1; omega⟩)⟩
    · refine wp_bind2 (o5_X7_here M4 T ((txc_fr ((hf_M4 19 2 (by omega)).trans rfl) (fun j => ((hf_M4 20 j (by omega)).trans rfl))).trans hT) (by rw [show M4 19 2 = M 19 2 from ((hf_M4 19 2 (by omega)).trans rfl)]; omega)) (fun r_1 he65 hq65 => ?_)
      have hh_65 := hq65
      replace hh_65 : r_1.toInt = T (M4 19 3).toInt := hh_65
      refine wp_bind2 (o5_X7_isDigit M4 r_1) (fun r_2 he68 hq68 => ?_)
      obtain ⟨hz_r_2, hd_68⟩ := hq68
      replace hd_68 : ¬ r_2.toInt = 0 ↔ dgt r_1.toInt = true := hd_68
      refine wp_ite (fun c71 => ?_) (fun c71 => ?_)
      · exact wp_some ⟨(fun a i q0 => ((hf_M4 a i (fun h9 => q0 (Or.inl h9))).trans rfl)), (by show NumP _ y2_4.toInt (M4 19 4).toInt (M4 19 3).toInt _ _; rw [numS_v (c := ix y3_4) (by omega) (by omega) (fun i hi => hd4 i (by omega)) (by rw [show (M 19 3).toInt + ((ix y3_4 : Nat) : Int) = (M4 19 3).toInt from (by omega), ← hh_65]; exact Bool.eq_false_iff.mpr (fun z => hd_68.mpr z c71))]; exact ⟨hv4, hnb.1, by show nvv T _ _ ≤ 99999; omega, by show (M4 19 3).toInt = (M 19 3).toInt + _; omega, by show (M 19 3).toInt < (M 19 3).toInt + _; omega, by show (M 19 3).toInt + _ ≤ _; omega⟩)⟩
      · refine wp_cb2 (o5_X7_refuse M4 (nI 2) (M4 19 3)) (fun r_3 M_4 he80 hq80 => ?_)
        obtain ⟨hz_r_3, hg_M_4, hw_80, hq_80⟩ := hq80
        replace hw_80 : r_3.toInt = 0 := hw_80
        have := t_lit 2
        replace hq_80 : 0 ≤ (nI 2).toInt → (nI 2).toInt ≤ 9 → 0 ≤ (M4 19 3).toInt → (M4 19 3).toInt ≤ 1000 → (M_4 19 4).toInt = -1000 * (nI 2).toInt - (M4 19 3).toInt := hq_80
        have := t_lit 2
        replace hg_M_4 : ∀ a i, ¬ ((a = 19 ∧ i = 4)) → M_4 a i = M4 a i := hg_M_4
        exact wp_some ⟨(fun a i q0 => ((hg_M_4 a i (fun h9 => q0 (Or.inr (h9)))).trans ((hf_M4 a i (fun h9 => q0 (Or.inl h9))).trans rfl))), (by show NumP _ (-1 : Int32).toInt (M_4 19 4).toInt (M_4 19 3).toInt _ _; have hdg : dgt (T (M4 19 3).toInt) = true := (by rw [← hh_65]; exact hd_68.mp c71); have hful : v1.toInt = y3_4.toInt := (by have := h48.resolve_right (by rw [hdg]; decide); omega); rw [numS_2 (by omega) (fun i hi => hd4 i (by omega)) (by rw [show (M 19 3).toInt + ((ix v1 : Nat) : Int) = (M4 19 3).toInt from (by omega)]; exact hdg)]; exact ⟨by decide, by rw [hq_80 (by decide) (by decide) (by omega) (by omega)]; have := t_lit 2; omega⟩)⟩
  refine wp_ite (fun c6 => ?_) (fun c6 => ?_)
  · exact j48 (Or.inl c6)
  · refine wp_bind2 (o5_X7_here M4 T ((txc_fr ((hf_M4 19 2 (by omega)).trans rfl) (fun j => ((hf_M4 20 j (by omega)).trans rfl))).trans hT) (by rw [show M4 19 2 = M 19 2 from ((hf_M4 19 2 (by omega)).trans rfl)]; omega)) (fun r_7 he10 hq10 => ?_)
    have hh_10 := hq10
    replace hh_10 : r_7.toInt = T (M4 19 3).toInt := hh_10
    refine wp_bind2 (o5_X7_isDigit M4 r_7) (fun r_8 he13 hq13 => ?_)
    obtain ⟨hz_r_8, hd_13⟩ := hq13
    replace hd_13 : ¬ r_8.toInt = 0 ↔ dgt r_7.toInt = true := hd_13
    refine wp_ite (fun c16 => ?_) (fun c16 => ?_)
    · exact j48 (Or.inr (by rw [← hh_10]; exact Bool.eq_false_iff.mpr (fun z => hd_13.mpr z c16)))
    · refine wp_bind2 (o5_X7_here M4 T ((txc_fr ((hf_M4 19 2 (by omega)).trans rfl) (fun j => ((hf_M4 20 j (by omega)).trans rfl))).trans hT) (by rw [show M4 19 2 = M 19 2 from ((hf_M4 19 2 (by omega)).trans rfl)]; omega)) (fun r_9 he24 hq24 => ?_)
      have hh_24 := hq24
      replace hh_24 : r_9.toInt = T (M4 19 3).toInt := hh_24
      have hdg : dgt (T (M4 19 3).toInt) = true := by rw [← hh_10]; exact hd_13.mp c16
      have hin := dg_in hT hdg
      have hd9 := dgt_i hdg
      have hi := i_up (x := y3_4) (by omega)
      refine wp_bnd (fun x_10 ex_10 => ?_)
      have hx10 : x_10.toInt = 10 * y2_4.toInt + (r_9.toInt - 48) := by rw [ex_10]; exact num_step (by omega) (by omega)
      refine wp_bnd (fun M_11 eM_11 => ?_)
      have hm3 : (M_11 19 3).toInt = (M4 19 3).toInt + 1 := by rw [eM_11, mset_eq]; exact (i_up (by omega)).2
      exact ih4 M_11 x_10 (y3_4 + (nI 1)) ⟨(by have f0 := t_lit 1; have f1 := t_add y3_4 (nI 1); omega), (fun a i q0 => ((congrFun (congrFun eM_11 a) i).trans ((mset_ne (fun h9 => q0 (h9))).trans ((hf_M4 a i (fun h9 => q0 (h9))).trans rfl)))), (by rw [hm3, hi.2]; omega), (fun i hz => by rw [hi.2] at hz; by_cases e9 : (i : Int) = y3_4.toInt; (rw [show (M 19 3).toInt + (i : Int) = (M4 19 3).toInt from (by omega)]; exact hdg); exact hd4 i (by omega)), (by rw [hi.1, nvv_s, ← hv4, hx10, hh_24, show (M4 19 3).toInt = (M 19 3).toInt + ((ix y3_4 : Nat) : Int) from (by omega)])⟩ (by have f0 := t_lit 1; have f1 := t_add y3_4 (nI 1); omega)
theorem o5_X7_skip (M : Mem) (v1 : Int32) (T : Int → Int) (hT : TXc M = T) (hp : 0 ≤ (M 19 3).toInt ∧ (M 19 3).toInt ≤ (M 19 2).toInt ∧ (M 19 2).toInt ≤ 240) (hv : 0 ≤ v1.toInt) : Wp (f_X7_skip M v1) (fun q => (q.1 = 0 ∨ q.1 = 1) ∧ (∀ a i, ¬ ((a = 19 ∧ i = 3) ∨ (a = 19 ∧ i = 4)) → q.2 a i = M a i) ∧ (SkpP (T (M 19 3).toInt) v1.toInt q.1.toInt (M 19 3).toInt (q.2 19 3).toInt (M 19 2).toInt (q.2 19 4).toInt)) := by
  refine wp_bind2 (o5_X7_here M T hT hp) (fun r_1 he1 hq1 => ?_)
  have hh_1 := hq1
  replace hh_1 : r_1.toInt = T (M 19 3).toInt := hh_1
  refine wp_ite (fun c5 => ?_) (fun c5 => ?_)
  · have hin := tx_in hT (p := (M 19 3).toInt) (by rw [← hh_1]; omega)
    refine wp_bnd (fun M_2 eM_2 => ?_)
    exact wp_some ⟨b01_1, (fun a i q0 => ((congrFun (congrFun eM_2 a) i).trans ((mset_ne (fun h9 => q0 (Or.inl h9))).trans rfl))), (Or.inl ⟨ne1, by rw [← hh_1]; exact c5, by show (M_2 19 3).toInt = _; rw [eM_2, mset_eq]; exact (i_up (by omega)).2, hin⟩)⟩
  · refine wp_cb2 (o5_X7_refuse M (nI 1) (M 19 3)) (fun r_3 M_4 he14 hq14 => ?_)
    obtain ⟨hz_r_3, hg_M_4, hw_14, hq_14⟩ := hq14
    replace hw_14 : r_3.toInt = 0 := hw_14
    have := t_lit 1
    replace hq_14 : 0 ≤ (nI 1).toInt → (nI 1).toInt ≤ 9 → 0 ≤ (M 19 3).toInt → (M 19 3).toInt ≤ 1000 → (M_4 19 4).toInt = -1000 * (nI 1).toInt - (M 19 3).toInt := hq_14
    have := t_lit 1
    replace hg_M_4 : ∀ a i, ¬ ((a = 19 ∧ i = 4)) → M_4 a i = M a i := hg_M_4
    refine wp_gb hz_r_3 ?_
    exact wp_some ⟨hz_r_3, (fun a i q0 => ((hg_M_4 a i (fun h9 => q0 (Or.inr (h9)))).trans rfl)), (Or.inr ⟨hw_14, by rw [← hh_1]; exact c5, by show (M_4 19 4).toInt = _; rw [hq_14 (by decide) (by decide) (by omega) (by omega)]; have := t_lit 1; omega⟩)⟩
