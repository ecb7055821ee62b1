/-! a ford: rows 1 x, 2 y, 3 slippery, 4 told, 5 under, of row 0 the night (5) and the number drawn last (6); what isn't told is 0 -/
def mskF (r : Mem) : Mem := fun a i => if a = 0 then (if i = 5 ∨ i = 6 then r 0 i else 0) else if i < 40 ∧ a ≤ 5 then (if a = 4 then r 4 i else if (r 4 i).toInt = 0 then 0 else r a i) else 0
def rwC (M : Mem) (b : Nat) : Mem := fun a i => if a = 0 then M b i else if a ≤ 5 then M (b + a) i else 0
def clR (a : Nat) : Nat := if a = 1 then 40 else if a = 2 then 80 else if a = 3 then 120 else if a = 5 then 160 else 0
def rwR (f : Nat → Int32) : Mem := fun a i => if a = 0 then (if i = 5 then f 200 else f 201) else if i < 40 ∧ a ≤ 5 then f (clR a + i) else 0
def FdC (M : Mem) (b : Nat) : Mem := mskF (rwC M b)
def FdR (M : Mem) (k : Nat) : Mem := mskF (rwR (M k))
def tld (F : Mem) (i : Nat) : Prop := ¬ (F 4 i).toInt = 0
theorem mk_0 {r : Mem} {i : Nat} (h : i = 5 ∨ i = 6) : mskF r 0 i = r 0 i := by
  unfold mskF
  rw [if_pos rfl, if_pos h]
theorem mk_4 {r : Mem} {i : Nat} (h : i < 40) : mskF r 4 i = r 4 i := by
  unfold mskF
  rw [if_neg (by omega), if_pos ⟨h, by omega⟩, if_pos rfl]
theorem mk_a {r : Mem} {a i : Nat} (h : i < 40) (ha : 1 ≤ a ∧ a ≤ 5) (ht : tld (mskF r) i) : mskF r a i = r a i := by
  unfold tld at ht
  rw [mk_4 h] at ht
  unfold mskF
  rw [if_neg (by omega), if_pos ⟨h, ha.2⟩]
  by_cases c : a = 4
  · rw [if_pos c, c]
  · rw [if_neg c, if_neg ht]
theorem mk_ext {r r' : Mem} (h0 : r 0 5 = r' 0 5 ∧ r 0 6 = r' 0 6) (h : ∀ a i, 1 ≤ a → a ≤ 5 → i < 40 → r a i = r' a i) : mskF r = mskF r' := funext (fun a => funext (fun i => by
  unfold mskF
  by_cases c : a = 0
  · rw [if_pos c, if_pos c]
    by_cases d : i = 5 ∨ i = 6
    · rw [if_pos d, if_pos d]
      rcases d with e | e <;> rw [e]
      · exact h0.1
      · exact h0.2
    · rw [if_neg d, if_neg d]
  · rw [if_neg c, if_neg c]
    by_cases d : i < 40 ∧ a ≤ 5
    · rw [if_pos d, if_pos d, h 4 i (by omega) (by omega) d.1, h a i (by omega) d.2 d.1]
    · rw [if_neg d, if_neg d]))
theorem mk_set {r : Mem} {a i : Nat} {v : Int32} (h : i < 40) (ha : 1 ≤ a ∧ a ≤ 5) (h4 : ¬ a = 4) (ht : tld (mskF r) i) : mskF (mset r a i v) = mset (mskF r) a i v := funext (fun x => funext (fun j => by
  have ht2 : ¬ (r 4 i).toInt = 0 := by
    have z := ht
    unfold tld at z
    rw [mk_4 h] at z
    exact z
  have e4 : mset r a i v 4 j = r 4 j := mset_ne (by first | exact nz1 (by decide) | exact nz2 (by decide) | exact nz1 (nzA hc0 (by decide)) | exact nz1 (nzE (by decide)) | exact nz1 (nzB hc0 (by decide)) | exact nz1 (nzC hc0 (by decide)) | exact nz1 (nzD hc0 (by decide)) | exact nz1 (nzF (by decide)) | exact nz1 (nzG (by decide)) | omega)
  unfold mskF
  rw [e4]
  by_cases c : x = a ∧ j = i
  · rw [c.1, c.2, mset_eq, mset_eq, if_neg (by omega), if_pos ⟨h, ha.2⟩, if_neg h4, if_neg ht2]
  · rw [mset_ne c, mset_ne c]
    by_cases d : x = 0
    · rw [if_pos d, if_pos d, mset_ne (by first | exact nz1 (by decide) | exact nz2 (by decide) | exact nz1 (nzA hc0 (by decide)) | exact nz1 (nzE (by decide)) | exact nz1 (nzB hc0 (by decide)) | exact nz1 (nzC hc0 (by decide)) | exact nz1 (nzD hc0 (by decide)) | exact nz1 (nzF (by decide)) | exact nz1 (nzG (by decide)) | omega)]
    · rw [if_neg d, if_neg d]))
theorem mk_set0 {r : Mem} {i : Nat} {v : Int32} (h : i = 5 ∨ i = 6) : mskF (mset r 0 i v) = mset (mskF r) 0 i v := funext (fun x => funext (fun j => by
  have e4 : mset r 0 i v 4 j = r 4 j := mset_ne (by first | exact nz1 (by decide) | exact nz2 (by decide) | exact nz1 (nzA hc0 (by decide)) | exact nz1 (nzE (by decide)) | exact nz1 (nzB hc0 (by decide)) | exact nz1 (nzC hc0 (by decide)) | exact nz1 (nzD hc0 (by decide)) | exact nz1 (nzF (by decide)) | exact nz1 (nzG (by decide)) | omega)
  by_cases c : x = 0 ∧ j = i
  · rw [c.1, c.2, mset_eq, mk_0 h, mset_eq]
  · rw [mset_ne (M := mskF r) c]
    unfold mskF
    rw [e4]
    by_cases d : x = 0
    · rw [if_pos d, if_pos d]
      by_cases e : j = 5 ∨ j = 6
      · rw [if_pos e, if_pos e, mset_ne (by first | exact nz1 (by decide) | exact nz2 (by decide) | exact nz1 (nzA hc0 (by decide)) | exact nz1 (nzE (by decide)) | exact nz1 (nzB hc0 (by decide)) | exact nz1 (nzC hc0 (by decide)) | exact nz1 (nzD hc0 (by decide)) | exact nz1 (nzF (by decide)) | exact nz1 (nzG (by decide)) | omega)]
      · rw [if_neg e, if_neg e]
    · rw [if_neg d, if_neg d, mset_ne (show ¬ (x = 0 ∧ j = i) by omega)]))
/-- a stone is taken out -/
def tkF (F : Mem) (i : Nat) : Mem := fun a j => if j = i ∧ 1 ≤ a ∧ a ≤ 5 then 0 else F a j
theorem mk_take {r : Mem} {i : Nat} (h : i < 40) : mskF (mset r 4 i 0) = tkF (mskF r) i := funext (fun x => funext (fun j => by
  unfold tkF
  by_cases c : j = i ∧ 1 ≤ x ∧ x ≤ 5
  · rw [if_pos c]
    unfold mskF
    rw [if_neg (by omega), if_pos ⟨by omega, c.2.2⟩, c.1, mset_eq]
    by_cases d : x = 4
    · rw [if_pos d]
    · rw [if_neg d, if_pos (by decide)]
  · rw [if_neg c]
    unfold mskF
    by_cases d : x = 0
    · rw [if_pos d, if_pos d, mset_ne (by first | exact nz1 (by decide) | exact nz2 (by decide) | exact nz1 (nzA hc0 (by decide)) | exact nz1 (nzE (by decide)) | exact nz1 (nzB hc0 (by decide)) | exact nz1 (nzC hc0 (by decide)) | exact nz1 (nzD hc0 (by decide)) | exact nz1 (nzF (by decide)) | exact nz1 (nzG (by decide)) | omega)]
    · rw [if_neg d, if_neg d]
      by_cases e : j < 40 ∧ x ≤ 5
      · rw [if_pos e, if_pos e, mset_ne (show ¬ (4 = 4 ∧ j = i) by omega), mset_ne (show ¬ (x = 4 ∧ j = i) by omega)]
      · rw [if_neg e, if_neg e]))
/-- a stone is laid -/
def lyF (F : Mem) (i : Nat) (x y s u : Int32) : Mem := mset (mset (mset (mset (mset F 4 i 1) 1 i x) 2 i y) 3 i s) 5 i u
theorem mk_told {r : Mem} {i : Nat} (h : i < 40) : tld (mskF (mset r 4 i 1)) i := by
  unfold tld
  rw [mk_4 h, mset_eq]
  decide
theorem mk_lay {r : Mem} {i : Nat} {x y s u : Int32} (h : i < 40) : mskF (lyF r i x y s u) = lyF (mskF r) i x y s u := by
  have t0 := mk_told (r := r) h
  have step : ∀ (q : Mem) (a : Nat) (v : Int32), ¬ a = 4 → tld (mskF q) i → tld (mskF (mset q a i v)) i := fun q a v ha hq => by
    unfold tld at hq ⊢
    rw [mk_4 h] at hq ⊢
    rw [mset_ne (by first | exact nz1 (by decide) | exact nz2 (by decide) | exact nz1 (nzA hc0 (by decide)) | exact nz1 (nzE (by decide)) | exact nz1 (nzB hc0 (by decide)) | exact nz1 (nzC hc0 (by decide)) | exact nz1 (nzD hc0 (by decide)) | exact nz1 (nzF (by decide)) | exact nz1 (nzG (by decide)) | omega)]
    exact hq
  have t1 := step _ 1 x (by omega) t0
  have t2 := step _ 2 y (by omega) t1
  have t3 := step _ 3 s (by omega) t2
  unfold lyF
  rw [mk_set h (by omega) (by omega) t3, mk_set h (by omega) (by omega) t2, mk_set h (by omega) (by omega) t1, mk_set h (by omega) (by omega) t0]
  refine funext (fun a => funext (fun j => ?_))
  by_cases c : j = i ∧ 1 ≤ a ∧ a ≤ 5
  · rcases (show a = 1 ∨ a = 2 ∨ a = 3 ∨ a = 4 ∨ a = 5 by omega) with e | e | e | e | e <;> rw [e, c.1]
    · rw [mset_ne (by first | exact nz1 (by decide) | exact nz2 (by decide) | exact nz1 (nzA hc0 (by decide)) | exact nz1 (nzE (by decide)) | exact nz1 (nzB hc0 (by decide)) | exact nz1 (nzC hc0 (by decide)) | exact nz1 (nzD hc0 (by decide)) | exact nz1 (nzF (by decide)) | exact nz1 (nzG (by decide)) | omega), mset_ne (by first | exact nz1 (by decide) | exact nz2 (by decide) | exact nz1 (nzA hc0 (by decide)) | exact nz1 (nzE (by decide)) | exact nz1 (nzB hc0 (by decide)) | exact nz1 (nzC hc0 (by decide)) | exact nz1 (nzD hc0 (by decide)) | exact nz1 (nzF (by decide)) | exact nz1 (nzG (by decide)) | omega), mset_ne (by first | exact nz1 (by decide) | exact nz2 (by decide) | exact nz1 (nzA hc0 (by decide)) | exact nz1 (nzE (by decide)) | exact nz1 (nzB hc0 (by decide)) | exact nz1 (nzC hc0 (by decide)) | exact nz1 (nzD hc0 (by decide)) | exact nz1 (nzF (by decide)) | exact nz1 (nzG (by decide)) | omega), mset_eq, mset_ne (by first | exact nz1 (by decide) | exact nz2 (by decide) | exact nz1 (nzA hc0 (by decide)) | exact nz1 (nzE (by decide)) | exact nz1 (nzB hc0 (by decide)) | exact nz1 (nzC hc0 (by decide)) | exact nz1 (nzD hc0 (by decide)) | exact nz1 (nzF (by decide)) | exact nz1 (nzG (by decide)) | omega), mset_ne (by first | exact nz1 (by decide) | exact nz2 (by decide) | exact nz1 (nzA hc0 (by decide)) | exact nz1 (nzE (by decide)) | exact nz1 (nzB hc0 (by decide)) | exact nz1 (nzC hc0 (by decide)) | exact nz1 (nzD hc0 (by decide)) | exact nz1 (nzF (by decide)) | exact nz1 (nzG (by decide)) | omega), mset_ne (by first | exact nz1 (by decide) | exact nz2 (by decide) | exact nz1 (nzA hc0 (by decide)) | exact nz1 (nzE (by decide)) | exact nz1 (nzB hc0 (by decide)) | exact nz1 (nzC hc0 (by decide)) | exact nz1 (nzD hc0 (by decide)) | exact nz1 (nzF (by decide)) | exact nz1 (nzG (by decide)) | omega), mset_eq]
    · rw [mset_ne (by first | exact nz1 (by decide) | exact nz2 (by decide) | exact nz1 (nzA hc0 (by decide)) | exact nz1 (nzE (by decide)) | exact nz1 (nzB hc0 (by decide)) | exact nz1 (nzC hc0 (by decide)) | exact nz1 (nzD hc0 (by decide)) | exact nz1 (nzF (by decide)) | exact nz1 (nzG (by decide)) | omega), mset_ne (by first | exact nz1 (by decide) | exact nz2 (by decide) | exact nz1 (nzA hc0 (by decide)) | exact nz1 (nzE (by decide)) | exact nz1 (nzB hc0 (by decide)) | exact nz1 (nzC hc0 (by decide)) | exact nz1 (nzD hc0 (by decide)) | exact nz1 (nzF (by decide)) | exact nz1 (nzG (by decide)) | omega), mset_eq, mset_ne (by first | exact nz1 (by decide) | exact nz2 (by decide) | exact nz1 (nzA hc0 (by decide)) | exact nz1 (nzE (by decide)) | exact nz1 (nzB hc0 (by decide)) | exact nz1 (nzC hc0 (by decide)) | exact nz1 (nzD hc0 (by decide)) | exact nz1 (nzF (by decide)) | exact nz1 (nzG (by decide)) | omega), mset_ne (by first | exact nz1 (by decide) | exact nz2 (by decide) | exact nz1 (nzA hc0 (by decide)) | exact nz1 (nzE (by decide)) | exact nz1 (nzB hc0 (by decide)) | exact nz1 (nzC hc0 (by decide)) | exact nz1 (nzD hc0 (by decide)) | exact nz1 (nzF (by decide)) | exact nz1 (nzG (by decide)) | omega), mset_eq]
    · rw [mset_ne (by first | exact nz1 (by decide) | exact nz2 (by decide) | exact nz1 (nzA hc0 (by decide)) | exact nz1 (nzE (by decide)) | exact nz1 (nzB hc0 (by decide)) | exact nz1 (nzC hc0 (by decide)) | exact nz1 (nzD hc0 (by decide)) | exact nz1 (nzF (by decide)) | exact nz1 (nzG (by decide)) | omega), mset_eq, mset_ne (by first | exact nz1 (by decide) | exact nz2 (by decide) | exact nz1 (nzA hc0 (by decide)) | exact nz1 (nzE (by decide)) | exact nz1 (nzB hc0 (by decide)) | exact nz1 (nzC hc0 (by decide)) | exact nz1 (nzD hc0 (by decide)) | exact nz1 (nzF (by decide)) | exact nz1 (nzG (by decide)) | omega), mset_eq]
    · rw [mset_ne (by first | exact nz1 (by decide) | exact nz2 (by decide) | exact nz1 (nzA hc0 (by decide)) | exact nz1 (nzE (by decide)) | exact nz1 (nzB hc0 (by decide)) | exact nz1 (nzC hc0 (by decide)) | exact nz1 (nzD hc0 (by decide)) | exact nz1 (nzF (by decide)) | exact nz1 (nzG (by decide)) | omega), mset_ne (by first | exact nz1 (by decide) | exact nz2 (by decide) | exact nz1 (nzA hc0 (by decide)) | exact nz1 (nzE (by decide)) | exact nz1 (nzB hc0 (by decide)) | exact nz1 (nzC hc0 (by decide)) | exact nz1 (nzD hc0 (by decide)) | exact nz1 (nzF (by decide)) | exact nz1 (nzG (by decide)) | omega), mset_ne (by first | exact nz1 (by decide) | exact nz2 (by decide) | exact nz1 (nzA hc0 (by decide)) | exact nz1 (nzE (by decide)) | exact nz1 (nzB hc0 (by decide)) | exact nz1 (nzC hc0 (by decide)) | exact nz1 (nzD hc0 (by decide)) | exact nz1 (nzF (by decide)) | exact nz1 (nzG (by decide)) | omega), mset_ne (by first | exact nz1 (by decide) | exact nz2 (by decide) | exact nz1 (nzA hc0 (by decide)) | exact nz1 (nzE (by decide)) | exact nz1 (nzB hc0 (by decide)) | exact nz1 (nzC hc0 (by decide)) | exact nz1 (nzD hc0 (by decide)) | exact nz1 (nzF (by decide)) | exact nz1 (nzG (by decide)) | omega), mset_ne (by first | exact nz1 (by decide) | exact nz2 (by decide) | exact nz1 (nzA hc0 (by decide)) | exact nz1 (nzE (by decide)) | exact nz1 (nzB hc0 (by decide)) | exact nz1 (nzC hc0 (by decide)) | exact nz1 (nzD hc0 (by decide)) | exact nz1 (nzF (by decide)) | exact nz1 (nzG (by decide)) | omega), mset_ne (by first | exact nz1 (by decide) | exact nz2 (by decide) | exact nz1 (nzA hc0 (by decide)) | exact nz1 (nzE (by decide)) | exact nz1 (nzB hc0 (by decide)) | exact nz1 (nzC hc0 (by decide)) | exact nz1 (nzD hc0 (by decide)) | exact nz1 (nzF (by decide)) | exact nz1 (nzG (by decide)) | omega), mset_ne (by first | exact nz1 (by decide) | exact nz2 (by decide) | exact nz1 (nzA hc0 (by decide)) | exact nz1 (nzE (by decide)) | exact nz1 (nzB hc0 (by decide)) | exact nz1 (nzC hc0 (by decide)) | exact nz1 (nzD hc0 (by decide)) | exact nz1 (nzF (by decide)) | exact nz1 (nzG (by decide)) | omega), mset_ne (by first | exact nz1 (by decide) | exact nz2 (by decide) | exact nz1 (nzA hc0 (by decide)) | exact nz1 (nzE (by decide)) | exact nz1 (nzB hc0 (by decide)) | exact nz1 (nzC hc0 (by decide)) | exact nz1 (nzD hc0 (by decide)) | exact nz1 (nzF (by decide)) | exact nz1 (nzG (by decide)) | omega), mset_eq, mk_4 h, mset_eq]
    · rw [mset_eq, mset_eq]
  · have hm : mskF (mset r 4 i 1) a j = mskF r a j := by
      unfold mskF
      by_cases d : a = 0
      · rw [if_pos d, if_pos d, mset_ne (by first | exact nz1 (by decide) | exact nz2 (by decide) | exact nz1 (nzA hc0 (by decide)) | exact nz1 (nzE (by decide)) | exact nz1 (nzB hc0 (by decide)) | exact nz1 (nzC hc0 (by decide)) | exact nz1 (nzD hc0 (by decide)) | exact nz1 (nzF (by decide)) | exact nz1 (nzG (by decide)) | omega)]
      · rw [if_neg d, if_neg d]
        by_cases e : j < 40 ∧ a ≤ 5
        · rw [if_pos e, if_pos e, mset_ne (show ¬ (4 = 4 ∧ j = i) by omega), mset_ne (show ¬ (a = 4 ∧ j = i) by omega)]
        · rw [if_neg e, if_neg e]
    rw [mset_ne (by first | exact nz1 (by decide) | exact nz2 (by decide) | exact nz1 (nzA hc0 (by decide)) | exact nz1 (nzE (by decide)) | exact nz1 (nzB hc0 (by decide)) | exact nz1 (nzC hc0 (by decide)) | exact nz1 (nzD hc0 (by decide)) | exact nz1 (nzF (by decide)) | exact nz1 (nzG (by decide)) | omega), mset_ne (by first | exact nz1 (by decide) | exact nz2 (by decide) | exact nz1 (nzA hc0 (by decide)) | exact nz1 (nzE (by decide)) | exact nz1 (nzB hc0 (by decide)) | exact nz1 (nzC hc0 (by decide)) | exact nz1 (nzD hc0 (by decide)) | exact nz1 (nzF (by decide)) | exact nz1 (nzG (by decide)) | omega), mset_ne (by first | exact nz1 (by decide) | exact nz2 (by decide) | exact nz1 (nzA hc0 (by decide)) | exact nz1 (nzE (by decide)) | exact nz1 (nzB hc0 (by decide)) | exact nz1 (nzC hc0 (by decide)) | exact nz1 (nzD hc0 (by decide)) | exact nz1 (nzF (by decide)) | exact nz1 (nzG (by decide)) | omega), mset_ne (by first | exact nz1 (by decide) | exact nz2 (by decide) | exact nz1 (nzA hc0 (by decide)) | exact nz1 (nzE (by decide)) | exact nz1 (nzB hc0 (by decide)) | exact nz1 (nzC hc0 (by decide)) | exact nz1 (nzD hc0 (by decide)) | exact nz1 (nzF (by decide)) | exact nz1 (nzG (by decide)) | omega), hm, mset_ne (by first | exact nz1 (by decide) | exact nz2 (by decide) | exact nz1 (nzA hc0 (by decide)) | exact nz1 (nzE (by decide)) | exact nz1 (nzB hc0 (by decide)) | exact nz1 (nzC hc0 (by decide)) | exact nz1 (nzD hc0 (by decide)) | exact nz1 (nzF (by decide)) | exact nz1 (nzG (by decide)) | omega), mset_ne (by first | exact nz1 (by decide) | exact nz2 (by decide) | exact nz1 (nzA hc0 (by decide)) | exact nz1 (nzE (by decide)) | exact nz1 (nzB hc0 (by decide)) | exact nz1 (nzC hc0 (by decide)) | exact nz1 (nzD hc0 (by decide)) | exact nz1 (nzF (by decide)) | exact nz1 (nzG (by decide)) | omega), mset_ne (by first | exact nz1 (by decide) | exact nz2 (by decide) | exact nz1 (nzA hc0 (by decide)) | exact nz1 (nzE (by decide)) | exact nz1 (nzB hc0 (by decide)) | exact nz1 (nzC hc0 (by decide)) | exact nz1 (nzD hc0 (by decide)) | exact nz1 (nzF (by decide)) | exact nz1 (nzG (by decide)) | omega), mset_ne (by first | exact nz1 (by decide) | exact nz2 (by decide) | exact nz1 (nzA hc0 (by decide)) | exact nz1 (nzE (by decide)) | exact nz1 (nzB hc0 (by decide)) | exact nz1 (nzC hc0 (by decide)) | exact nz1 (nzD hc0 (by decide)) | exact nz1 (nzF (by decide)) | exact nz1 (nzG (by decide)) | omega), mset_ne (by first | exact nz1 (by decide) | exact nz2 (by decide) | exact nz1 (nzA hc0 (by decide)) | exact nz1 (nzE (by decide)) | exact nz1 (nzB hc0 (by decide)) | exact nz1 (nzC hc0 (by decide)) | exact nz1 (nzD hc0 (by decide)) | exact nz1 (nzF (by decide)) | exact nz1 (nzG (by decide)) | omega)]
/-! of class and reference -/
theorem rwC_set {M : Mem} {b a i : Nat} {v : Int32} (ha : 1 ≤ a ∧ a ≤ 5) : rwC (mset M (b + a) i v) b = mset (rwC M b) a i v := funext (fun x => funext (fun j => by
  unfold rwC
  by_cases d : x = 0
  · rw [if_pos d, mset_ne (by first | exact nz1 (by decide) | exact nz2 (by decide) | exact nz1 (nzA hc0 (by decide)) | exact nz1 (nzE (by decide)) | exact nz1 (nzB hc0 (by decide)) | exact nz1 (nzC hc0 (by decide)) | exact nz1 (nzD hc0 (by decide)) | exact nz1 (nzF (by decide)) | exact nz1 (nzG (by decide)) | omega), mset_ne (by first | exact nz1 (by decide) | exact nz2 (by decide) | exact nz1 (nzA hc0 (by decide)) | exact nz1 (nzE (by decide)) | exact nz1 (nzB hc0 (by decide)) | exact nz1 (nzC hc0 (by decide)) | exact nz1 (nzD hc0 (by decide)) | exact nz1 (nzF (by decide)) | exact nz1 (nzG (by decide)) | omega), if_pos d]
  · rw [if_neg d]
    by_cases e : x ≤ 5
    · rw [if_pos e]
      by_cases c : x = a ∧ j = i
      · rw [c.1, c.2, mset_eq, mset_eq]
      · rw [mset_ne (by first | exact nz1 (by decide) | exact nz2 (by decide) | exact nz1 (nzA hc0 (by decide)) | exact nz1 (nzE (by decide)) | exact nz1 (nzB hc0 (by decide)) | exact nz1 (nzC hc0 (by decide)) | exact nz1 (nzD hc0 (by decide)) | exact nz1 (nzF (by decide)) | exact nz1 (nzG (by decide)) | omega), mset_ne c, if_neg d, if_pos e]
    · rw [if_neg e, mset_ne (by first | exact nz1 (by decide) | exact nz2 (by decide) | exact nz1 (nzA hc0 (by decide)) | exact nz1 (nzE (by decide)) | exact nz1 (nzB hc0 (by decide)) | exact nz1 (nzC hc0 (by decide)) | exact nz1 (nzD hc0 (by decide)) | exact nz1 (nzF (by decide)) | exact nz1 (nzG (by decide)) | omega), if_neg d, if_neg e]))
theorem rwC_set0 {M : Mem} {b i : Nat} {v : Int32} : rwC (mset M b i v) b = mset (rwC M b) 0 i v := funext (fun x => funext (fun j => by
  unfold rwC
  by_cases d : x = 0
  · rw [if_pos d]
    by_cases c : j = i
    · rw [c, d, mset_eq, mset_eq]
    · rw [mset_ne (by first | exact nz1 (by decide) | exact nz2 (by decide) | exact nz1 (nzA hc0 (by decide)) | exact nz1 (nzE (by decide)) | exact nz1 (nzB hc0 (by decide)) | exact nz1 (nzC hc0 (by decide)) | exact nz1 (nzD hc0 (by decide)) | exact nz1 (nzF (by decide)) | exact nz1 (nzG (by decide)) | omega), mset_ne (by first | exact nz1 (by decide) | exact nz2 (by decide) | exact nz1 (nzA hc0 (by decide)) | exact nz1 (nzE (by decide)) | exact nz1 (nzB hc0 (by decide)) | exact nz1 (nzC hc0 (by decide)) | exact nz1 (nzD hc0 (by decide)) | exact nz1 (nzF (by decide)) | exact nz1 (nzG (by decide)) | omega), if_pos d]
  · rw [if_neg d, mset_ne (show ¬ (b + x = b ∧ j = i) by omega), mset_ne (by first | exact nz1 (by decide) | exact nz2 (by decide) | exact nz1 (nzA hc0 (by decide)) | exact nz1 (nzE (by decide)) | exact nz1 (nzB hc0 (by decide)) | exact nz1 (nzC hc0 (by decide)) | exact nz1 (nzD hc0 (by decide)) | exact nz1 (nzF (by decide)) | exact nz1 (nzG (by decide)) | omega), if_neg d]))
theorem fdc_fr {M N : Mem} {b : Nat} (h : ∀ a i, b ≤ a → a ≤ b + 5 → N a i = M a i) : FdC N b = FdC M b := mk_ext ⟨by show N b 5 = M b 5; exact h b 5 (by omega) (by omega), by show N b 6 = M b 6; exact h b 6 (by omega) (by omega)⟩ (fun a i h1 h2 h3 => by
  unfold rwC
  rw [if_neg (by omega), if_pos h2, if_neg (by omega), if_pos h2]
  exact h (b + a) i (by omega) (by omega))
theorem rwR_set {f : Nat → Int32} {a i : Nat} {v : Int32} (h : i < 40) (ha : 1 ≤ a ∧ a ≤ 5) : rwR (upd f (clR a + i) v) = mset (rwR f) a i v := funext (fun x => funext (fun j => by
  have cb : ∀ z, 1 ≤ z ∧ z ≤ 5 → clR z ≤ 160 ∧ (∀ w, 1 ≤ w ∧ w ≤ 5 → ∀ p q : Nat, p < 40 → q < 40 → clR z + p = clR w + q → z = w ∧ p = q) := fun z hz => by
    refine ⟨?_, fun w hw p q hp hq e => ?_⟩
    · rcases (show z = 1 ∨ z = 2 ∨ z = 3 ∨ z = 4 ∨ z = 5 by omega) with e | e | e | e | e <;> rw [e] <;> decide
    · rcases (show z = 1 ∨ z = 2 ∨ z = 3 ∨ z = 4 ∨ z = 5 by omega) with c | c | c | c | c <;> rcases (show w = 1 ∨ w = 2 ∨ w = 3 ∨ w = 4 ∨ w = 5 by omega) with d | d | d | d | d <;> rw [c, d] at e <;> rw [c, d] <;> simp only [clR] at e <;> simp at e <;> omega
  unfold rwR
  by_cases d : x = 0
  · rw [if_pos d, mset_ne (by first | exact nz1 (by decide) | exact nz2 (by decide) | exact nz1 (nzA hc0 (by decide)) | exact nz1 (nzE (by decide)) | exact nz1 (nzB hc0 (by decide)) | exact nz1 (nzC hc0 (by decide)) | exact nz1 (nzD hc0 (by decide)) | exact nz1 (nzF (by decide)) | exact nz1 (nzG (by decide)) | omega), if_pos d]
    have z := (cb a ha).1
    by_cases e : j = 5
    · rw [if_pos e, if_pos e, upd_o (by omega)]
    · rw [if_neg e, if_neg e, upd_o (by omega)]
  · rw [if_neg d]
    by_cases e : j < 40 ∧ x ≤ 5
    · rw [if_pos e]
      by_cases c : x = a ∧ j = i
      · rw [c.1, c.2, mset_eq, upd_e]
      · rw [mset_ne c, if_neg d, if_pos e, upd_o (fun z => c ((cb x (by omega)).2 a ha j i e.1 h z))]
    · rw [if_neg e, mset_ne (by first | exact nz1 (by decide) | exact nz2 (by decide) | exact nz1 (nzA hc0 (by decide)) | exact nz1 (nzE (by decide)) | exact nz1 (nzB hc0 (by decide)) | exact nz1 (nzC hc0 (by decide)) | exact nz1 (nzD hc0 (by decide)) | exact nz1 (nzF (by decide)) | exact nz1 (nzG (by decide)) | omega), if_neg d, if_neg e]))
theorem fdr_fr {f g : Nat → Int32} (h : ∀ j, j < 202 → g j = f j) : mskF (rwR g) = mskF (rwR f) := mk_ext ⟨by show g 200 = f 200; exact h 200 (by omega), by show g 201 = f 201; exact h 201 (by omega)⟩ (fun a i h1 h2 h3 => by
  unfold rwR
  rw [if_neg (by omega), if_pos ⟨h3, h2⟩, if_neg (by omega), if_pos ⟨h3, h2⟩]
  refine h _ ?_
  rcases (show a = 1 ∨ a = 2 ∨ a = 3 ∨ a = 4 ∨ a = 5 by omega) with e | e | e | e | e <;> rw [e] <;> simp only [clR] <;> simp <;> omega)
/-- a place of the reference's row, in a told stone -/
theorem fdr_at {f : Nat → Int32} {a i : Nat} (h : i < 40) (ha : 1 ≤ a ∧ a ≤ 5) (ht : tld (mskF (rwR f)) i) : mskF (rwR f) a i = f (clR a + i) := by
  rw [mk_a h ha ht]
  unfold rwR
  rw [if_neg (by omega), if_pos ⟨h, ha.2⟩]
theorem fdr_4 {f : Nat → Int32} {i : Nat} (h : i < 40) : mskF (rwR f) 4 i = f i := by
  rw [mk_4 h]
  unfold rwR
  rw [if_neg (by omega), if_pos ⟨h, by omega⟩]
  show f (0 + i) = f i
  rw [Nat.zero_add]
theorem fdc_4 {M : Mem} {b i : Nat} (h : i < 40) : FdC M b 4 i = M (b + 4) i := by
  unfold FdC
  rw [mk_4 h]
  rfl
theorem fdc_at {M : Mem} {b a i : Nat} (h : i < 40) (ha : 1 ≤ a ∧ a ≤ 5) (ht : tld (FdC M b) i) : FdC M b a i = M (b + a) i := by
  unfold FdC at ht ⊢
  rw [mk_a h ha ht]
  unfold rwC
  rw [if_neg (by omega), if_pos ha.2]
/-! who is where -/
def stA (F : Mem) (x y : Int) : Nat → Nat → Int32
  | 0, _ => -1
  | n + 1, j => if (¬ (F 4 j).toInt = 0) ∧ (F 1 j).toInt = x ∧ (F 2 j).toInt = y then nI j else stA F x y n (j + 1)
theorem stA_0 {F : Mem} {x y : Int} {n j : Nat} (h : n = 0) : stA F x y n j = -1 := by rw [h]; rfl
theorem stA_y {F : Mem} {x y : Int} {j : Nat} (hj : j < 40) (h : (¬ (F 4 j).toInt = 0) ∧ (F 1 j).toInt = x ∧ (F 2 j).toInt = y) : stA F x y (40 - j) j = nI j := by
  rw [show 40 - j = (40 - j - 1) + 1 from by omega]
  exact if_pos h
theorem stA_n {F : Mem} {x y : Int} {j : Nat} (hj : j < 40) (h : ¬ ((¬ (F 4 j).toInt = 0) ∧ (F 1 j).toInt = x ∧ (F 2 j).toInt = y)) : stA F x y (40 - j) j = stA F x y (40 - (j + 1)) (j + 1) := by
  rw [show 40 - j = (40 - (j + 1)) + 1 from by omega]
  exact if_neg h
theorem nI_ixx {y : Int32} (h : 0 ≤ y.toInt) : nI (ix y) = y := t_of (by
  have e := t_ixn y h
  have r := t_rng y
  rw [t_lit (ix y) (by omega)]
  exact e)
/-- how many others are close -/
def sqF (F : Mem) (i j : Nat) : Int32 := (F 1 i - F 1 j) * (F 1 i - F 1 j) + (F 2 i - F 2 j) * (F 2 i - F 2 j)
def clF (F : Mem) (i : Nat) : Nat → Int32
  | 0 => nI 0
  | n + 1 => if ¬ n = i ∧ (¬ (F 4 n).toInt = 0) ∧ (sqF F i n).toInt ≤ 4 then clF F i n + nI 1 else clF F i n
theorem clF_y {F : Mem} {i n : Nat} (h : ¬ n = i ∧ (¬ (F 4 n).toInt = 0) ∧ (sqF F i n).toInt ≤ 4) : clF F i (n + 1) = clF F i n + nI 1 := if_pos h
theorem clF_n {F : Mem} {i n : Nat} (h : ¬ (¬ n = i ∧ (¬ (F 4 n).toInt = 0) ∧ (sqF F i n).toInt ≤ 4)) : clF F i (n + 1) = clF F i n := if_neg h
def TdP (res : Int) (F : Mem) (v : Int32) : Prop := ¬ res = 0 ↔ (0 ≤ v.toInt ∧ v.toInt < 40) ∧ tld F (ix v)
theorem td_y {res : Int} {F : Mem} {v : Int32} (h : TdP res F v) (hr : ¬ res = 0) : (0 ≤ v.toInt ∧ v.toInt < 40) ∧ tld F (ix v) := h.mp hr
theorem td_n {res : Int} {F : Mem} {v : Int32} (h : TdP res F v) (hr : res = 0) : ¬ ((0 ≤ v.toInt ∧ v.toInt < 40) ∧ tld F (ix v)) := fun z => h.mpr z hr
theorem ix40 {v : Int32} (h0 : 0 ≤ v.toInt) (h : v.toInt < 40) : ix v < 40 := by
  have e := t_ixn v h0
  omega
def TdB (F : Mem) : Prop := ∀ i, i < 40 → (F 4 i).toInt = 0 ∨ (F 4 i).toInt = 1
def drw (d : Int32) : Int32 := ((nI 25173 * d) + nI 13849) &&& nI 65535
theorem tdr_1 {M : Mem} {i : Nat} (hB : TdB (FdR M 1)) (h : i < 40) : (M 1 i).toInt = 1 ↔ tld (FdR M 1) i := by
  have e : FdR M 1 4 i = M 1 i := fdr_4 h
  have b := hB i h
  unfold tld
  rw [e] at b ⊢
  exact ⟨fun z => by omega, fun z => b.resolve_left z⟩
theorem ixc {v : Int32} {n : Nat} (h0 : 0 ≤ v.toInt) (h : v.toInt < 40) (hn : n < 1000) : ix (nI n + v) = n + ix v := ix_add (by omega) (by omega)
theorem fdr_x {M : Mem} {v : Int32} (h0 : 0 ≤ v.toInt) (h : v.toInt < 40) (ht : tld (FdR M 1) (ix v)) : M 1 (ix (nI 40 + v)) = FdR M 1 1 (ix v) := by
  rw [ixc h0 h (by omega)]
  exact (fdr_at (a := 1) (ix40 h0 h) (by omega) ht).symm
theorem fdr_y {M : Mem} {v : Int32} (h0 : 0 ≤ v.toInt) (h : v.toInt < 40) (ht : tld (FdR M 1) (ix v)) : M 1 (ix (nI 80 + v)) = FdR M 1 2 (ix v) := by
  rw [ixc h0 h (by omega)]
  exact (fdr_at (a := 2) (ix40 h0 h) (by omega) ht).symm
theorem fdr_s {M : Mem} {v : Int32} (h0 : 0 ≤ v.toInt) (h : v.toInt < 40) (ht : tld (FdR M 1) (ix v)) : M 1 (ix (nI 120 + v)) = FdR M 1 3 (ix v) := by
  rw [ixc h0 h (by omega)]
  exact (fdr_at (a := 3) (ix40 h0 h) (by omega) ht).symm
theorem fdr_u {M : Mem} {v : Int32} (h0 : 0 ≤ v.toInt) (h : v.toInt < 40) (ht : tld (FdR M 1) (ix v)) : M 1 (ix (nI 160 + v)) = FdR M 1 5 (ix v) := by
  rw [ixc h0 h (by omega)]
  exact (fdr_at (a := 5) (ix40 h0 h) (by omega) ht).symm
theorem up40 {y : Int32} (h0 : 0 ≤ y.toInt) (h : ¬ 40 ≤ y.toInt) : ix (y + nI 1) = ix y + 1 ∧ ix y < 40 ∧ y.toInt < 40 := by
  have e := t_ixn y h0
  have e1 := i_up (x := y) (by omega)
  omega
theorem ge40 {y : Int32} (h0 : 0 ≤ y.toInt) (h : 40 ≤ y.toInt) : 40 - ix y = 0 := by
  have e := t_ixn y h0
  omega
theorem ix_ne {y v : Int32} (h0 : 0 ≤ y.toInt) (hv : 0 ≤ v.toInt) (h : ¬ y.toInt = v.toInt) : ¬ ix y = ix v := fun z => by
  have e := t_ixn y h0
  have e2 := t_ixn v hv
  omega
theorem ixx_of {y v : Int32} (h : y.toInt = v.toInt) : ix y = ix v := by rw [t_of h]
theorem e40 {y : Int32} (h0 : 0 ≤ y.toInt) (h : 40 ≤ y.toInt) (h2 : y.toInt ≤ 40) : ix y = 40 := by
  have e := t_ixn y h0
  omega
theorem le40 {y : Int32} (h0 : 0 ≤ y.toInt) (h : ¬ 40 ≤ y.toInt) : (y + nI 1).toInt ≤ 40 := by
  have e1 := i_up (x := y) (by omega)
  omega
theorem ly_perm {r : Mem} {i : Nat} {x y s u t : Int32} (ht : t = 1) : mset (mset (mset (mset (mset r 1 i x) 2 i y) 3 i s) 5 i u) 4 i t = lyF r i x y s u := funext (fun a => funext (fun j => by
  unfold lyF
  rw [ht]
  by_cases c : j = i ∧ 1 ≤ a ∧ a ≤ 5
  · rcases (show a = 1 ∨ a = 2 ∨ a = 3 ∨ a = 4 ∨ a = 5 by omega) with e | e | e | e | e <;> rw [e, c.1]
    · rw [mset_ne (by first | exact nz1 (by decide) | exact nz2 (by decide) | exact nz1 (nzA hc0 (by decide)) | exact nz1 (nzE (by decide)) | exact nz1 (nzB hc0 (by decide)) | exact nz1 (nzC hc0 (by decide)) | exact nz1 (nzD hc0 (by decide)) | exact nz1 (nzF (by decide)) | exact nz1 (nzG (by decide)) | omega), mset_ne (by first | exact nz1 (by decide) | exact nz2 (by decide) | exact nz1 (nzA hc0 (by decide)) | exact nz1 (nzE (by decide)) | exact nz1 (nzB hc0 (by decide)) | exact nz1 (nzC hc0 (by decide)) | exact nz1 (nzD hc0 (by decide)) | exact nz1 (nzF (by decide)) | exact nz1 (nzG (by decide)) | omega), mset_ne (by first | exact nz1 (by decide) | exact nz2 (by decide) | exact nz1 (nzA hc0 (by decide)) | exact nz1 (nzE (by decide)) | exact nz1 (nzB hc0 (by decide)) | exact nz1 (nzC hc0 (by decide)) | exact nz1 (nzD hc0 (by decide)) | exact nz1 (nzF (by decide)) | exact nz1 (nzG (by decide)) | omega), mset_ne (by first | exact nz1 (by decide) | exact nz2 (by decide) | exact nz1 (nzA hc0 (by decide)) | exact nz1 (nzE (by decide)) | exact nz1 (nzB hc0 (by decide)) | exact nz1 (nzC hc0 (by decide)) | exact nz1 (nzD hc0 (by decide)) | exact nz1 (nzF (by decide)) | exact nz1 (nzG (by decide)) | omega), mset_eq, mset_ne (by first | exact nz1 (by decide) | exact nz2 (by decide) | exact nz1 (nzA hc0 (by decide)) | exact nz1 (nzE (by decide)) | exact nz1 (nzB hc0 (by decide)) | exact nz1 (nzC hc0 (by decide)) | exact nz1 (nzD hc0 (by decide)) | exact nz1 (nzF (by decide)) | exact nz1 (nzG (by decide)) | omega), mset_ne (by first | exact nz1 (by decide) | exact nz2 (by decide) | exact nz1 (nzA hc0 (by decide)) | exact nz1 (nzE (by decide)) | exact nz1 (nzB hc0 (by decide)) | exact nz1 (nzC hc0 (by decide)) | exact nz1 (nzD hc0 (by decide)) | exact nz1 (nzF (by decide)) | exact nz1 (nzG (by decide)) | omega), mset_ne (by first | exact nz1 (by decide) | exact nz2 (by decide) | exact nz1 (nzA hc0 (by decide)) | exact nz1 (nzE (by decide)) | exact nz1 (nzB hc0 (by decide)) | exact nz1 (nzC hc0 (by decide)) | exact nz1 (nzD hc0 (by decide)) | exact nz1 (nzF (by decide)) | exact nz1 (nzG (by decide)) | omega), mset_eq]
    · rw [mset_ne (by first | exact nz1 (by decide) | exact nz2 (by decide) | exact nz1 (nzA hc0 (by decide)) | exact nz1 (nzE (by decide)) | exact nz1 (nzB hc0 (by decide)) | exact nz1 (nzC hc0 (by decide)) | exact nz1 (nzD hc0 (by decide)) | exact nz1 (nzF (by decide)) | exact nz1 (nzG (by decide)) | omega), mset_ne (by first | exact nz1 (by decide) | exact nz2 (by decide) | exact nz1 (nzA hc0 (by decide)) | exact nz1 (nzE (by decide)) | exact nz1 (nzB hc0 (by decide)) | exact nz1 (nzC hc0 (by decide)) | exact nz1 (nzD hc0 (by decide)) | exact nz1 (nzF (by decide)) | exact nz1 (nzG (by decide)) | omega), mset_ne (by first | exact nz1 (by decide) | exact nz2 (by decide) | exact nz1 (nzA hc0 (by decide)) | exact nz1 (nzE (by decide)) | exact nz1 (nzB hc0 (by decide)) | exact nz1 (nzC hc0 (by decide)) | exact nz1 (nzD hc0 (by decide)) | exact nz1 (nzF (by decide)) | exact nz1 (nzG (by decide)) | omega), mset_eq, mset_ne (by first | exact nz1 (by decide) | exact nz2 (by decide) | exact nz1 (nzA hc0 (by decide)) | exact nz1 (nzE (by decide)) | exact nz1 (nzB hc0 (by decide)) | exact nz1 (nzC hc0 (by decide)) | exact nz1 (nzD hc0 (by decide)) | exact nz1 (nzF (by decide)) | exact nz1 (nzG (by decide)) | omega), mset_ne (by first | exact nz1 (by decide) | exact nz2 (by decide) | exact nz1 (nzA hc0 (by decide)) | exact nz1 (nzE (by decide)) | exact nz1 (nzB hc0 (by decide)) | exact nz1 (nzC hc0 (by decide)) | exact nz1 (nzD hc0 (by decide)) | exact nz1 (nzF (by decide)) | exact nz1 (nzG (by decide)) | omega), mset_eq]
    · rw [mset_ne (by first | exact nz1 (by decide) | exact nz2 (by decide) | exact nz1 (nzA hc0 (by decide)) | exact nz1 (nzE (by decide)) | exact nz1 (nzB hc0 (by decide)) | exact nz1 (nzC hc0 (by decide)) | exact nz1 (nzD hc0 (by decide)) | exact nz1 (nzF (by decide)) | exact nz1 (nzG (by decide)) | omega), mset_ne (by first | exact nz1 (by decide) | exact nz2 (by decide) | exact nz1 (nzA hc0 (by decide)) | exact nz1 (nzE (by decide)) | exact nz1 (nzB hc0 (by decide)) | exact nz1 (nzC hc0 (by decide)) | exact nz1 (nzD hc0 (by decide)) | exact nz1 (nzF (by decide)) | exact nz1 (nzG (by decide)) | omega), mset_eq, mset_ne (by first | exact nz1 (by decide) | exact nz2 (by decide) | exact nz1 (nzA hc0 (by decide)) | exact nz1 (nzE (by decide)) | exact nz1 (nzB hc0 (by decide)) | exact nz1 (nzC hc0 (by decide)) | exact nz1 (nzD hc0 (by decide)) | exact nz1 (nzF (by decide)) | exact nz1 (nzG (by decide)) | omega), mset_eq]
    · rw [mset_eq, mset_ne (by first | exact nz1 (by decide) | exact nz2 (by decide) | exact nz1 (nzA hc0 (by decide)) | exact nz1 (nzE (by decide)) | exact nz1 (nzB hc0 (by decide)) | exact nz1 (nzC hc0 (by decide)) | exact nz1 (nzD hc0 (by decide)) | exact nz1 (nzF (by decide)) | exact nz1 (nzG (by decide)) | omega), mset_ne (by first | exact nz1 (by decide) | exact nz2 (by decide) | exact nz1 (nzA hc0 (by decide)) | exact nz1 (nzE (by decide)) | exact nz1 (nzB hc0 (by decide)) | exact nz1 (nzC hc0 (by decide)) | exact nz1 (nzD hc0 (by decide)) | exact nz1 (nzF (by decide)) | exact nz1 (nzG (by decide)) | omega), mset_ne (by first | exact nz1 (by decide) | exact nz2 (by decide) | exact nz1 (nzA hc0 (by decide)) | exact nz1 (nzE (by decide)) | exact nz1 (nzB hc0 (by decide)) | exact nz1 (nzC hc0 (by decide)) | exact nz1 (nzD hc0 (by decide)) | exact nz1 (nzF (by decide)) | exact nz1 (nzG (by decide)) | omega), mset_ne (by first | exact nz1 (by decide) | exact nz2 (by decide) | exact nz1 (nzA hc0 (by decide)) | exact nz1 (nzE (by decide)) | exact nz1 (nzB hc0 (by decide)) | exact nz1 (nzC hc0 (by decide)) | exact nz1 (nzD hc0 (by decide)) | exact nz1 (nzF (by decide)) | exact nz1 (nzG (by decide)) | omega), mset_eq]
    · rw [mset_ne (by first | exact nz1 (by decide) | exact nz2 (by decide) | exact nz1 (nzA hc0 (by decide)) | exact nz1 (nzE (by decide)) | exact nz1 (nzB hc0 (by decide)) | exact nz1 (nzC hc0 (by decide)) | exact nz1 (nzD hc0 (by decide)) | exact nz1 (nzF (by decide)) | exact nz1 (nzG (by decide)) | omega), mset_eq, mset_eq]
  · rw [mset_ne (by first | exact nz1 (by decide) | exact nz2 (by decide) | exact nz1 (nzA hc0 (by decide)) | exact nz1 (nzE (by decide)) | exact nz1 (nzB hc0 (by decide)) | exact nz1 (nzC hc0 (by decide)) | exact nz1 (nzD hc0 (by decide)) | exact nz1 (nzF (by decide)) | exact nz1 (nzG (by decide)) | omega), mset_ne (by first | exact nz1 (by decide) | exact nz2 (by decide) | exact nz1 (nzA hc0 (by decide)) | exact nz1 (nzE (by decide)) | exact nz1 (nzB hc0 (by decide)) | exact nz1 (nzC hc0 (by decide)) | exact nz1 (nzD hc0 (by decide)) | exact nz1 (nzF (by decide)) | exact nz1 (nzG (by decide)) | omega), mset_ne (by first | exact nz1 (by decide) | exact nz2 (by decide) | exact nz1 (nzA hc0 (by decide)) | exact nz1 (nzE (by decide)) | exact nz1 (nzB hc0 (by decide)) | exact nz1 (nzC hc0 (by decide)) | exact nz1 (nzD hc0 (by decide)) | exact nz1 (nzF (by decide)) | exact nz1 (nzG (by decide)) | omega), mset_ne (by first | exact nz1 (by decide) | exact nz2 (by decide) | exact nz1 (nzA hc0 (by decide)) | exact nz1 (nzE (by decide)) | exact nz1 (nzB hc0 (by decide)) | exact nz1 (nzC hc0 (by decide)) | exact nz1 (nzD hc0 (by decide)) | exact nz1 (nzF (by decide)) | exact nz1 (nzG (by decide)) | omega), mset_ne (by first | exact nz1 (by decide) | exact nz2 (by decide) | exact nz1 (nzA hc0 (by decide)) | exact nz1 (nzE (by decide)) | exact nz1 (nzB hc0 (by decide)) | exact nz1 (nzC hc0 (by decide)) | exact nz1 (nzD hc0 (by decide)) | exact nz1 (nzF (by decide)) | exact nz1 (nzG (by decide)) | omega), mset_ne (by first | exact nz1 (by decide) | exact nz2 (by decide) | exact nz1 (nzA hc0 (by decide)) | exact nz1 (nzE (by decide)) | exact nz1 (nzB hc0 (by decide)) | exact nz1 (nzC hc0 (by decide)) | exact nz1 (nzD hc0 (by decide)) | exact nz1 (nzF (by decide)) | exact nz1 (nzG (by decide)) | omega), mset_ne (by first | exact nz1 (by decide) | exact nz2 (by decide) | exact nz1 (nzA hc0 (by decide)) | exact nz1 (nzE (by decide)) | exact nz1 (nzB hc0 (by decide)) | exact nz1 (nzC hc0 (by decide)) | exact nz1 (nzD hc0 (by decide)) | exact nz1 (nzF (by decide)) | exact nz1 (nzG (by decide)) | omega), mset_ne (by first | exact nz1 (by decide) | exact nz2 (by decide) | exact nz1 (nzA hc0 (by decide)) | exact nz1 (nzE (by decide)) | exact nz1 (nzB hc0 (by decide)) | exact nz1 (nzC hc0 (by decide)) | exact nz1 (nzD hc0 (by decide)) | exact nz1 (nzF (by decide)) | exact nz1 (nzG (by decide)) | omega), mset_ne (by first | exact nz1 (by decide) | exact nz2 (by decide) | exact nz1 (nzA hc0 (by decide)) | exact nz1 (nzE (by decide)) | exact nz1 (nzB hc0 (by decide)) | exact nz1 (nzC hc0 (by decide)) | exact nz1 (nzD hc0 (by decide)) | exact nz1 (nzF (by decide)) | exact nz1 (nzG (by decide)) | omega), mset_ne (by first | exact nz1 (by decide) | exact nz2 (by decide) | exact nz1 (nzA hc0 (by decide)) | exact nz1 (nzE (by decide)) | exact nz1 (nzB hc0 (by decide)) | exact nz1 (nzC hc0 (by decide)) | exact nz1 (nzD hc0 (by decide)) | exact nz1 (nzF (by decide)) | exact nz1 (nzG (by decide)) | omega)]))
