/-! what codes come to -/
def rk (o : Int) (x y : Int32) : Int32 := if o = 2 then x + y else if o = 3 then x - y else if o = 4 then x * y else if o = 5 then x / y else if o = 6 then rm x y else if o = 7 then (if y.toInt ≤ x.toInt then nI 0 else nI 1) else if o = 8 then (if x.toInt ≤ y.toInt then nI 0 else nI 1) else (if x.toInt = y.toInt then nI 1 else nI 0)
theorem rk_2 (x y : Int32) : rk 2 x y = x + y := by
  unfold rk
  rw [if_pos rfl]
theorem rk_3 (x y : Int32) : rk 3 x y = x - y := by
  unfold rk
  rw [if_neg (by decide), if_pos rfl]
theorem rk_4 (x y : Int32) : rk 4 x y = x * y := by
  unfold rk
  rw [if_neg (by decide), if_neg (by decide), if_pos rfl]
theorem rk_5 (x y : Int32) : rk 5 x y = x / y := by
  unfold rk
  rw [if_neg (by decide), if_neg (by decide), if_neg (by decide), if_pos rfl]
theorem rk_6 (x y : Int32) : rk 6 x y = rm x y := by
  unfold rk
  rw [if_neg (by decide), if_neg (by decide), if_neg (by decide), if_neg (by decide), if_pos rfl]
theorem rk_7 (x y : Int32) : rk 7 x y = (if y.toInt ≤ x.toInt then nI 0 else nI 1) := by
  unfold rk
  rw [if_neg (by decide), if_neg (by decide), if_neg (by decide), if_neg (by decide), if_neg (by decide), if_pos rfl]
theorem rk_8 (x y : Int32) : rk 8 x y = (if x.toInt ≤ y.toInt then nI 0 else nI 1) := by
  unfold rk
  rw [if_neg (by decide), if_neg (by decide), if_neg (by decide), if_neg (by decide), if_neg (by decide), if_neg (by decide), if_pos rfl]
theorem rk_9 (x y : Int32) : rk 9 x y = (if x.toInt = y.toInt then nI 1 else nI 0) := by
  unfold rk
  rw [if_neg (by decide), if_neg (by decide), if_neg (by decide), if_neg (by decide), if_neg (by decide), if_neg (by decide), if_neg (by decide)]
def ev (f : Nat → Int × Int) (v : Nat → Int32) (b : Nat) (k : Nat) (st : List Int32) : Int32 :=
  if h : b ≤ k then st.headD 0
  else if (f k).1 = 0 then ev f v b (k + 1) (Int32.ofInt (f k).2 :: st)
  else if (f k).1 = 1 then ev f v b (k + 1) (v (f k).2.toNat :: st)
  else if (f k).1 = 10 then ev f v b (k + 1) ((nI 1 - st.headD 0) :: st.tail)
  else if (f k).1 = 11 ∨ (f k).1 = 12 then (if h2 : k < (f k).2.toNat ∧ ((st.headD 0).toInt = 0 ↔ (f k).1 = 11) then ev f v b (f k).2.toNat st else ev f v b (k + 1) st.tail)
  else if ((f k).1 = 5 ∨ (f k).1 = 6) ∧ (st.headD 0).toInt = 0 then nI 0 else ev f v b (k + 1) (rk (f k).1 (st.tail.headD 0) (st.headD 0) :: st.tail.tail)
termination_by b - k
decreasing_by
  all_goals omega
theorem ev_e {f : Nat → Int × Int} {v : Nat → Int32} {b k : Nat} {st : List Int32} (h : b ≤ k) : ev f v b k st = st.headD 0 := by
  rw [ev, dif_pos h]
theorem ev_0 {f : Nat → Int × Int} {v : Nat → Int32} {b k : Nat} {st : List Int32} (h : k < b) (ho : (f k).1 = 0) : ev f v b k st = ev f v b (k + 1) (Int32.ofInt (f k).2 :: st) := by
  rw [ev, dif_neg (by omega), if_pos ho]
theorem ev_1 {f : Nat → Int × Int} {v : Nat → Int32} {b k : Nat} {st : List Int32} (h : k < b) (ho : (f k).1 = 1) : ev f v b k st = ev f v b (k + 1) (v (f k).2.toNat :: st) := by
  rw [ev, dif_neg (by omega), if_neg (by omega), if_pos ho]
theorem ev_n {f : Nat → Int × Int} {v : Nat → Int32} {b k : Nat} {st : List Int32} (h : k < b) (ho : (f k).1 = 10) : ev f v b k st = ev f v b (k + 1) ((nI 1 - st.headD 0) :: st.tail) := by
  rw [ev, dif_neg (by omega), if_neg (by omega), if_neg (by omega), if_pos ho]
theorem ev_j {f : Nat → Int × Int} {v : Nat → Int32} {b k : Nat} {st : List Int32} (h : k < b) (ho : (f k).1 = 11 ∨ (f k).1 = 12) (hc : k < (f k).2.toNat ∧ ((st.headD 0).toInt = 0 ↔ (f k).1 = 11)) : ev f v b k st = ev f v b (f k).2.toNat st := by
  rw [ev, dif_neg (by omega), if_neg (by omega), if_neg (by omega), if_neg (by omega), if_pos ho, dif_pos hc]
theorem ev_p {f : Nat → Int × Int} {v : Nat → Int32} {b k : Nat} {st : List Int32} (h : k < b) (ho : (f k).1 = 11 ∨ (f k).1 = 12) (hc : ¬ ((st.headD 0).toInt = 0 ↔ (f k).1 = 11)) : ev f v b k st = ev f v b (k + 1) st.tail := by
  rw [ev, dif_neg (by omega), if_neg (by omega), if_neg (by omega), if_neg (by omega), if_pos ho, dif_neg (fun z => hc z.2)]
theorem ev_z {f : Nat → Int × Int} {v : Nat → Int32} {b k : Nat} {st : List Int32} (h : k < b) (ho : (f k).1 = 5 ∨ (f k).1 = 6) (hc : (st.headD 0).toInt = 0) : ev f v b k st = nI 0 := by
  rw [ev, dif_neg (by omega), if_neg (by omega), if_neg (by omega), if_neg (by omega), if_neg (by omega), if_pos ⟨ho, hc⟩]
theorem ev_o {f : Nat → Int × Int} {v : Nat → Int32} {b k : Nat} {st : List Int32} (h : k < b) (ho : 2 ≤ (f k).1 ∧ (f k).1 ≤ 9) (hc : ¬ (((f k).1 = 5 ∨ (f k).1 = 6) ∧ (st.headD 0).toInt = 0)) : ev f v b k st = ev f v b (k + 1) (rk (f k).1 (st.tail.headD 0) (st.headD 0) :: st.tail.tail) := by
  rw [ev, dif_neg (by omega), if_neg (by omega), if_neg (by omega), if_neg (by omega), if_neg (by omega), if_neg hc]
def stk (g : Nat → Int32) : Nat → List Int32
  | 0 => []
  | n + 1 => g n :: stk g n
theorem stk_ext {g g' : Nat → Int32} : ∀ n, (∀ j, j < n → g j = g' j) → stk g n = stk g' n
  | 0, _ => rfl
  | n + 1, h => by
    show g n :: stk g n = g' n :: stk g' n
    rw [h n (by omega), stk_ext n (fun j hj => h j (by omega))]
theorem stk_push {g : Nat → Int32} {n : Nat} {x : Int32} : stk (upd g n x) (n + 1) = x :: stk g n := by
  show upd g n x n :: stk (upd g n x) n = _
  rw [upd_e, stk_ext n (fun j hj => upd_o (by omega))]
theorem stk_h {g : Nat → Int32} {n : Nat} (h : 0 < n) : (stk g n).headD 0 = g (n - 1) := by
  cases n with
  | zero => exact absurd h (Nat.lt_irrefl _)
  | succ n => rfl
theorem stk_t (g : Nat → Int32) (n : Nat) : (stk g n).tail = stk g (n - 1) := by
  cases n with
  | zero => rfl
  | succ n => rfl
theorem stk_set {g : Nat → Int32} {n : Nat} {x : Int32} (h : 0 < n) : stk (upd g (n - 1) x) n = x :: (stk g n).tail := by
  rw [stk_t]
  have e := stk_push (g := g) (n := n - 1) (x := x)
  rw [show n - 1 + 1 = n from by omega] at e
  exact e
theorem stk_set2 {g : Nat → Int32} {n : Nat} {x : Int32} (h : 2 ≤ n) : stk (upd g (n - 1 - 1) x) (n - 1) = x :: (stk g n).tail.tail := by
  rw [stk_t, stk_t]
  have e := stk_push (g := g) (n := n - 1 - 1) (x := x)
  rw [show n - 1 - 1 + 1 = n - 1 from by omega] at e
  exact e
theorem ofi (x : Int32) : Int32.ofInt x.toInt = x := Int32.ofInt_toInt x
/-- codes from a to b that can be reckoned -/
def SegK (F : Nat → Int × Int) (a b k : Nat) : Prop := (0 ≤ (F k).1 ∧ (F k).1 ≤ 12) ∧ ((F k).1 = 1 → 0 ≤ (F k).2 ∧ (F k).2 < 8) ∧ (dq F a ≤ dq F k ∧ dq F k ≤ dq F a + 16) ∧ (2 ≤ (F k).1 → (F k).1 ≤ 9 → dq F a + 2 ≤ dq F k) ∧ ((F k).1 = 10 → dq F a + 1 ≤ dq F k) ∧ (11 ≤ (F k).1 → dq F k = dq F a + 1 ∧ (k : Int) < (F k).2 ∧ (F k).2 ≤ b ∧ dq F (F k).2.toNat = dq F a + 1)
def SegF (F : Nat → Int × Int) (a b : Nat) : Prop := ∀ k, a ≤ k → k < b → SegK F a b k
theorem sk_o {F : Nat → Int × Int} {a b k : Nat} (h : SegK F a b k) : 0 ≤ (F k).1 ∧ (F k).1 ≤ 12 := h.1
theorem sk_l {F : Nat → Int × Int} {a b k : Nat} (h : SegK F a b k) (ho : (F k).1 = 1) : 0 ≤ (F k).2 ∧ (F k).2 < 8 := h.2.1 ho
theorem sk_d {F : Nat → Int × Int} {a b k : Nat} (h : SegK F a b k) : dq F a ≤ dq F k ∧ dq F k ≤ dq F a + 16 := h.2.2.1
theorem sk_b {F : Nat → Int × Int} {a b k : Nat} (h : SegK F a b k) (ho : 2 ≤ (F k).1 ∧ (F k).1 ≤ 9) : dq F a + 2 ≤ dq F k := h.2.2.2.1 ho.1 ho.2
theorem sk_n {F : Nat → Int × Int} {a b k : Nat} (h : SegK F a b k) (ho : (F k).1 = 10) : dq F a + 1 ≤ dq F k := h.2.2.2.2.1 ho
theorem sk_j {F : Nat → Int × Int} {a b k : Nat} (h : SegK F a b k) (ho : 11 ≤ (F k).1) : dq F k = dq F a + 1 ∧ (k : Int) < (F k).2 ∧ (F k).2 ≤ b ∧ dq F (F k).2.toNat = dq F a + 1 := h.2.2.2.2.2 ho
def J2 (t x c : Int) : Prop := (t = 1 ∧ x = c) ∨ (t = 0 ∧ ¬ x = c)
def JC (t u x y : Int) : Prop := t = u ↔ (x = 0 ↔ y = 11)
theorem jc_of {t u x y : Int} (h1 : J2 t x 0) (h2 : J2 u y 11) : JC t u x y := by
  unfold J2 at h1 h2
  unfold JC
  rcases h1 with z | z <;> rcases h2 with w | w <;> refine ⟨fun _ => ⟨fun _ => ?_, fun _ => ?_⟩, fun q => ?_⟩ <;> omega
theorem jc_1 {t u x y : Int} (h : JC t u x y) (e : t = u) : x = 0 ↔ y = 11 := h.mp e
theorem jc_2 {t u x y : Int} (h : JC t u x y) (e : ¬ t = u) : ¬ (x = 0 ↔ y = 11) := fun z => e (h.mpr z)
def H26 (x t : Int) : Prop := x = 47 ∨ x = 37 → ¬ t = 0
theorem un_48 {x : Int} (h : x = 48) : unc x = 0 := by rw [h]; decide
theorem un_97 {x : Int} (h : x = 97) : unc x = 1 := by rw [h]; decide
theorem un_33 {x : Int} (h : x = 33) : unc x = 10 := by rw [h]; decide
theorem un_38 {x : Int} (h : x = 38) : unc x = 11 := by rw [h]; decide
theorem un_124 {x : Int} (h : x = 124) : unc x = 12 := by rw [h]; decide
theorem un_47 {x : Int} (h : x = 47) : unc x = 5 := by rw [h]; decide
theorem un_37 {x : Int} (h : x = 37) : unc x = 6 := by rw [h]; decide
def UnR (x : Int) : Prop := (x = 43 ∧ unc x = 2) ∨ (x = 45 ∧ unc x = 3) ∨ (x = 42 ∧ unc x = 4) ∨ (x = 47 ∧ unc x = 5) ∨ (x = 37 ∧ unc x = 6) ∨ (x = 60 ∧ unc x = 7) ∨ (x = 62 ∧ unc x = 8) ∨ (x = 61 ∧ unc x = 9)
theorem un_r {x : Int} (h : 0 ≤ unc x) (h1 : ¬ x = 48) (h2 : ¬ x = 97) (h3 : ¬ x = 33) (h4 : ¬ x = 38) (h5 : ¬ x = 124) : UnR x := by
  unfold UnR
  by_cases a1 : x = 43
  · exact Or.inl ⟨a1, by rw [a1]; decide⟩
  · by_cases a2 : x = 45
    · exact Or.inr (Or.inl ⟨a2, by rw [a2]; decide⟩)
    · by_cases a3 : x = 42
      · exact Or.inr (Or.inr (Or.inl ⟨a3, by rw [a3]; decide⟩))
      · by_cases a4 : x = 47
        · exact Or.inr (Or.inr (Or.inr (Or.inl ⟨a4, by rw [a4]; decide⟩)))
        · by_cases a5 : x = 37
          · exact Or.inr (Or.inr (Or.inr (Or.inr (Or.inl ⟨a5, by rw [a5]; decide⟩))))
          · by_cases a6 : x = 60
            · exact Or.inr (Or.inr (Or.inr (Or.inr (Or.inr (Or.inl ⟨a6, by rw [a6]; decide⟩)))))
            · by_cases a7 : x = 62
              · exact Or.inr (Or.inr (Or.inr (Or.inr (Or.inr (Or.inr (Or.inl ⟨a7, by rw [a7]; decide⟩))))))
              · by_cases a8 : x = 61
                · exact Or.inr (Or.inr (Or.inr (Or.inr (Or.inr (Or.inr (Or.inr ⟨a8, by rw [a8]; decide⟩))))))
                · exfalso
                  unfold unc at h
                  rw [if_neg h1, if_neg h2, if_neg a1, if_neg a2, if_neg a3, if_neg a4, if_neg a5, if_neg a6, if_neg a7, if_neg a8, if_neg h3, if_neg h4, if_neg h5] at h
                  omega
theorem unr_b {x : Int} (h : UnR x) : 2 ≤ unc x ∧ unc x ≤ 9 := by
  rcases h with z | z | z | z | z | z | z | z <;> omega
theorem unr_5 {x : Int} (h : UnR x) (h2 : unc x = 5 ∨ unc x = 6) : x = 47 ∨ x = 37 := by
  rcases h with z | z | z | z | z | z | z | z <;> omega
def CbP (x : Int) (a b r : Int32) : Prop := UnR x → (x = 47 ∨ x = 37 → ¬ b.toInt = 0) → r = rk (unc x) a b
theorem cb_of {x : Int} {a b r : Int32} (o : Int) (ho : unc x = o) (h : r = rk o a b) : CbP x a b r := fun _ _ => by rw [ho]; exact h
/-- a test's value: 0 or 1 -/
def TyI (F : Nat → Int × Int) (g : Nat → Int32) (a k n : Nat) : Prop := a < k → isB (F (k - 1)).1 → (g (n - 1)).toInt = 0 ∨ (g (n - 1)).toInt = 1
theorem unc_0 {x : Int} (h : unc x = 0) : x = 48 := by
  by_cases c : x = 48
  · exact c
  · exfalso
    unfold unc at h
    rw [if_neg c] at h
    split at h <;> omega
theorem unc_1 {x : Int} (h : unc x = 1) : x = 97 := by
  by_cases c : x = 97
  · exact c
  · exfalso
    unfold unc at h
    rw [if_neg c] at h
    split at h <;> omega
/-! a state of the reckoning: n on the stack, at code k -/
def SegG (F : Nat → Int × Int) (a b : Nat) : Prop := SegF F a b ∧ dq F b = dq F a + 1 ∧ a ≤ b
def RkN (F : Nat → Int × Int) (V : Nat → Int32) (a b : Nat) (g : Nat → Int32) (n k : Nat) : Prop := a ≤ k ∧ k ≤ b ∧ (n : Int) = dq F k - dq F a ∧ n ≤ 17 ∧ ev F V b a [] = ev F V b k (stk g n)
theorem rn_0 {F : Nat → Int × Int} {V : Nat → Int32} {a b : Nat} {g : Nat → Int32} (h : SegG F a b) : RkN F V a b g 0 a := ⟨Nat.le_refl _, h.2.2, by omega, by omega, rfl⟩
theorem rn_g {F : Nat → Int × Int} {a b k : Nat} (h : SegG F a b) (h1 : a ≤ k) (h2 : k ≤ b) : dq F a ≤ dq F k ∧ dq F k ≤ dq F a + 16 := by
  by_cases c : k < b
  · exact sk_d (h.1 k h1 c)
  · rw [show k = b from by omega, h.2.1]; omega
theorem rn_b {F : Nat → Int × Int} {V : Nat → Int32} {a b : Nat} {g : Nat → Int32} {n k : Nat} (h : RkN F V a b g n k) : n ≤ 17 ∧ a ≤ k ∧ k ≤ b := ⟨h.2.2.2.1, h.1, h.2.1⟩
theorem rn_end {F : Nat → Int × Int} {V : Nat → Int32} {a b : Nat} {g : Nat → Int32} {n k : Nat} (hS : SegG F a b) (h : RkN F V a b g n k) (hk : b ≤ k) : n = 1 ∧ ev F V b a [] = g 0 := by
  obtain ⟨h1, h2, h3, h4, h5⟩ := h
  have hn : n = 1 := by
    rw [show k = b from by omega, hS.2.1] at h3
    omega
  refine ⟨hn, ?_⟩
  rw [h5, ev_e hk, hn]
  rfl
theorem rn_push {F : Nat → Int × Int} {V : Nat → Int32} {a b : Nat} {g : Nat → Int32} {n k : Nat} {x : Int32} (hS : SegG F a b) (h : RkN F V a b g n k) (hk : k < b) (ho : (F k).1 ≤ 1) (he : ev F V b k (stk g n) = ev F V b (k + 1) (x :: stk g n)) : RkN F V a b (upd g n x) (n + 1) (k + 1) := by
  obtain ⟨h1, h2, h3, h4, h5⟩ := h
  have hd := dq_s F k
  rw [ef_1 ho] at hd
  have hg := rn_g hS (show a ≤ k + 1 by omega) (by omega)
  exact ⟨by omega, by omega, by omega, by omega, by rw [h5, he, stk_push]⟩
theorem rn_num {F : Nat → Int × Int} {V : Nat → Int32} {a b : Nat} {g : Nat → Int32} {n k : Nat} {x : Int32} (hS : SegG F a b) (h : RkN F V a b g n k) (hk : k < b) (ho : (F k).1 = 0) (hx : x.toInt = (F k).2) : RkN F V a b (upd g n x) (n + 1) (k + 1) := rn_push hS h hk (by omega) (by rw [ev_0 hk ho, ← hx, ofi])
theorem rn_let {F : Nat → Int × Int} {V : Nat → Int32} {a b : Nat} {g : Nat → Int32} {n k : Nat} {x : Int32} (hS : SegG F a b) (h : RkN F V a b g n k) (hk : k < b) (ho : (F k).1 = 1) (hx : x = V (F k).2.toNat) : RkN F V a b (upd g n x) (n + 1) (k + 1) := rn_push hS h hk (by omega) (by rw [ev_1 hk ho, ← hx])
theorem rn_t {F : Nat → Int × Int} {V : Nat → Int32} {a b : Nat} {g : Nat → Int32} {n k : Nat} (hS : SegG F a b) (h : RkN F V a b g n k) (hk : k < b) (ho : 10 ≤ (F k).1) : 0 < n := by
  obtain ⟨h1, h2, h3, h4, h5⟩ := h
  by_cases c : (F k).1 = 10
  · have z := sk_n (hS.1 k h1 hk) c
    omega
  · have z := sk_j (hS.1 k h1 hk) (by omega)
    omega
theorem rn_t2 {F : Nat → Int × Int} {V : Nat → Int32} {a b : Nat} {g : Nat → Int32} {n k : Nat} (hS : SegG F a b) (h : RkN F V a b g n k) (hk : k < b) (ho : 2 ≤ (F k).1 ∧ (F k).1 ≤ 9) : 2 ≤ n := by
  have z := sk_b (hS.1 k h.1 hk) ho
  have z2 := h.2.2.1
  omega
theorem rn_not {F : Nat → Int × Int} {V : Nat → Int32} {a b : Nat} {g : Nat → Int32} {n k : Nat} (hS : SegG F a b) (h : RkN F V a b g n k) (hk : k < b) (ho : (F k).1 = 10) : RkN F V a b (upd g (n - 1) (nI 1 - g (n - 1))) n (k + 1) := by
  have hn := rn_t hS h hk (by omega)
  obtain ⟨h1, h2, h3, h4, h5⟩ := h
  have hd := dq_s F k
  rw [ho, ef_10] at hd
  refine ⟨by omega, by omega, by omega, h4, ?_⟩
  rw [h5, ev_n hk ho, stk_set hn, stk_h hn]
theorem rn_jmp {F : Nat → Int × Int} {V : Nat → Int32} {a b : Nat} {g : Nat → Int32} {n k : Nat} (hS : SegG F a b) (h : RkN F V a b g n k) (hk : k < b) (ho : (F k).1 = 11 ∨ (F k).1 = 12) (hc : (g (n - 1)).toInt = 0 ↔ (F k).1 = 11) : RkN F V a b g n (F k).2.toNat ∧ k < (F k).2.toNat ∧ (F k).2.toNat ≤ b := by
  have hn := rn_t hS h hk (by omega)
  obtain ⟨h1, h2, h3, h4, h5⟩ := h
  have z := sk_j (hS.1 k h1 hk) (by omega)
  refine ⟨⟨by omega, by omega, by omega, h4, ?_⟩, by omega, by omega⟩
  rw [h5, ev_j hk ho ⟨by omega, by rw [stk_h hn]; exact hc⟩]
theorem rn_pop {F : Nat → Int × Int} {V : Nat → Int32} {a b : Nat} {g : Nat → Int32} {n k : Nat} (hS : SegG F a b) (h : RkN F V a b g n k) (hk : k < b) (ho : (F k).1 = 11 ∨ (F k).1 = 12) (hc : ¬ ((g (n - 1)).toInt = 0 ↔ (F k).1 = 11)) : RkN F V a b g (n - 1) (k + 1) := by
  have hn := rn_t hS h hk (by omega)
  obtain ⟨h1, h2, h3, h4, h5⟩ := h
  have hd := dq_s F k
  rw [ef_m (by omega) (by omega)] at hd
  refine ⟨by omega, by omega, by omega, by omega, ?_⟩
  rw [h5, ev_p hk ho (by rw [stk_h hn]; exact hc), stk_t]
theorem rn_bin {F : Nat → Int × Int} {V : Nat → Int32} {a b : Nat} {g : Nat → Int32} {n k : Nat} {x : Int32} (hS : SegG F a b) (h : RkN F V a b g n k) (hk : k < b) (ho : 2 ≤ (F k).1 ∧ (F k).1 ≤ 9) (hc : ¬ (((F k).1 = 5 ∨ (F k).1 = 6) ∧ (g (n - 1)).toInt = 0)) (hx : x = rk (F k).1 (g (n - 1 - 1)) (g (n - 1))) : RkN F V a b (upd g (n - 1 - 1) x) (n - 1) (k + 1) := by
  have hn := rn_t2 hS h hk ho
  obtain ⟨h1, h2, h3, h4, h5⟩ := h
  have hd := dq_s F k
  rw [ef_m (by omega) (by omega)] at hd
  have e2 : (stk g n).tail.headD 0 = g (n - 1 - 1) := by
    rw [stk_t]
    exact stk_h (by omega)
  refine ⟨by omega, by omega, by omega, by omega, ?_⟩
  rw [h5, ev_o hk ho (by rw [stk_h (by omega)]; exact hc), stk_set2 hn, e2, stk_h (by omega), hx]
theorem rn_div {F : Nat → Int × Int} {V : Nat → Int32} {a b : Nat} {g : Nat → Int32} {n k : Nat} (hS : SegG F a b) (h : RkN F V a b g n k) (hk : k < b) (ho : (F k).1 = 5 ∨ (F k).1 = 6) (hc : (g (n - 1)).toInt = 0) : ev F V b a [] = nI 0 := by
  have hn := rn_t2 hS h hk (by omega)
  rw [h.2.2.2.2, ev_z hk ho (by rw [stk_h (by omega)]; exact hc)]
/-! the same with words of 32 bits -/
def Y4 (y : Int32) : Nat := (y.toInt + 1).toNat
theorem y4_up {y : Int32} (h : -1 ≤ y.toInt ∧ y.toInt ≤ 100) : Y4 (y + nI 1) = Y4 y + 1 ∧ ix (y + nI 1) = Y4 y := by
  have e := t_inc y 1 (by omega)
  have e1 := t_ixn (y + nI 1) (by omega)
  unfold Y4
  omega
theorem y4_dn {y : Int32} (h : 0 ≤ y.toInt ∧ y.toInt ≤ 100) : Y4 (y + (-1)) = Y4 y - 1 ∧ ix y = Y4 y - 1 := by
  have e := t_dec y (by omega)
  have e1 := t_ixn y h.1
  unfold Y4
  omega
theorem y4_dn2 {y : Int32} (h : 1 ≤ y.toInt ∧ y.toInt ≤ 100) : ix (y + (-1)) = Y4 y - 1 - 1 ∧ ix ((y + (-1)) + nI 1) = Y4 y - 1 := by
  have e := t_dec y (by omega)
  have e1 := t_ixn (y + (-1)) (by omega)
  have e2 := t_inc (y + (-1)) 1 (by omega)
  have e3 := t_ixn ((y + (-1)) + nI 1) (by omega)
  unfold Y4
  omega
theorem y4_b {y : Int32} {n : Nat} (h : Y4 y ≤ n) : y.toInt ≤ (n : Int) - 1 := by
  unfold Y4 at h
  omega
theorem y4_p {y : Int32} {n : Nat} (h : n ≤ Y4 y) (hn : 0 < n) : (n : Int) - 1 ≤ y.toInt := by
  unfold Y4 at h
  omega
theorem y4_i {y : Int32} (h : 0 ≤ y.toInt) (hy : y.toInt ≤ ((17 : Nat) : Int) - 1) : 0 ≤ y.toInt ∧ y.toInt < 32 := by omega
theorem y4_i1 {y : Int32} (h : ¬ y.toInt < 1) (hy : y.toInt ≤ ((17 : Nat) : Int) - 1) : 0 ≤ (y + (-1)).toInt ∧ (y + (-1)).toInt < 32 := by
  have e := t_dec y (by omega)
  omega
theorem y4_i2 {y : Int32} (h : ¬ y.toInt < 1) (hy : y.toInt ≤ ((17 : Nat) : Int) - 1) : 0 ≤ ((y + (-1)) + nI 1).toInt ∧ ((y + (-1)) + nI 1).toInt < 32 := by
  have e := t_dec y (by omega)
  have e2 := t_inc (y + (-1)) 1 (by omega)
  omega
theorem y4_h1 {y : Int32} (h : 0 ≤ y.toInt) (hy : y.toInt ≤ ((17 : Nat) : Int) - 1) : -1 ≤ (y + (-1)).toInt ∧ (y + (-1)).toInt ≤ 31 := by
  have e := t_dec y (by omega)
  omega
theorem y4_h2 {y : Int32} (h : -1 ≤ y.toInt ∧ y.toInt ≤ 31) (hy : y.toInt ≤ ((17 : Nat) : Int) - 1) : -1 ≤ (y + nI 1).toInt ∧ (y + nI 1).toInt ≤ 31 := by
  have e := t_inc y 1 (by omega)
  omega
theorem hb_s {y5 y6 : Int32} {v1 v2 : Int} (h : v1 ≤ y5.toInt ∧ y5.toInt ≤ v2 ∧ 0 ≤ y6.toInt ∧ y6.toInt ≤ y5.toInt) (hc : ¬ v2 ≤ y5.toInt) (hv : v2 ≤ 240) : v1 ≤ (y5 + nI 1).toInt ∧ (y5 + nI 1).toInt ≤ v2 ∧ 0 ≤ (y6 + nI 1).toInt ∧ (y6 + nI 1).toInt ≤ (y5 + nI 1).toInt := by
  have e := t_inc y5 1 (by omega)
  have e2 := t_inc y6 1 (by omega)
  omega
theorem hb_j {y5 y6 x : Int32} {v1 v2 : Int32} (h : v1.toInt ≤ y5.toInt ∧ y5.toInt ≤ v2.toInt ∧ 0 ≤ y6.toInt ∧ y6.toInt ≤ y5.toInt) (hv1 : 0 ≤ v1.toInt) (hv : v2.toInt ≤ 240) (hx : 0 ≤ x.toInt) (h1 : ix y5 < ix x) (h2 : ix x ≤ ix v2) : v1.toInt ≤ x.toInt ∧ x.toInt ≤ v2.toInt ∧ 0 ≤ (y6 + nI 1).toInt ∧ (y6 + nI 1).toInt ≤ x.toInt := by
  have e2 := t_inc y6 1 (by omega)
  have f1 := t_ixn y5 (by omega)
  have f2 := t_ixn x hx
  have f3 := t_ixn v2 (by omega)
  omega
theorem mu_s {y : Int32} (h0 : 0 ≤ y.toInt) (h : ¬ 240 ≤ y.toInt) : (240 - (y + nI 1).toInt).toNat < (240 - y.toInt).toNat := by
  have e := t_inc y 1 (by omega)
  omega
theorem hi_s {y : Int32} (h0 : 0 ≤ y.toInt) (h : ¬ 240 ≤ y.toInt) : 0 ≤ (y + nI 1).toInt := by
  have e := t_inc y 1 (by omega)
  omega
theorem nn_t {x : Int} {k : Nat} (h : k < x.toNat) : 0 ≤ x := by omega
theorem y4_r {y : Int32} (h : ¬ y.toInt < 1) (hy : y.toInt ≤ ((17 : Nat) : Int) - 1) : 1 ≤ y.toInt ∧ y.toInt ≤ 100 := by omega
theorem y4_no {y : Int32} (h : y.toInt < 1) (h2 : 2 ≤ Y4 y) : False := by
  have z := y4_p h2 (by omega)
  omega
theorem y4_o {y : Int32} (h : 32 ≤ (y + nI 1).toInt) (ht : -1 ≤ y.toInt ∧ y.toInt ≤ 31) (hy : y.toInt ≤ ((17 : Nat) : Int) - 1) : False := by
  have e := t_inc y 1 (by omega)
  omega
/-! the reference's side -/
def RkP (o : Int) (a b r : Int32) : Prop := 2 ≤ o → o ≤ 9 → r = rk o a b
theorem rp_of {o p : Int} {a b r : Int32} (e : o = p) (h : r = rk p a b) : RkP o a b r := fun _ _ => by rw [e]; exact h
theorem rk_b {o : Int} (x y : Int32) (h : 7 ≤ o ∧ o ≤ 9) : (rk o x y).toInt = 0 ∨ (rk o x y).toInt = 1 := by
  by_cases c : o = 7
  · rw [c, rk_7]
    by_cases d : y.toInt ≤ x.toInt
    · rw [if_pos d]; exact Or.inl nI0
    · rw [if_neg d]; exact Or.inr nI1
  · by_cases c2 : o = 8
    · rw [c2, rk_8]
      by_cases d : x.toInt ≤ y.toInt
      · rw [if_pos d]; exact Or.inl nI0
      · rw [if_neg d]; exact Or.inr nI1
    · rw [show o = 9 from by omega, rk_9]
      by_cases d : x.toInt = y.toInt
      · rw [if_pos d]; exact Or.inr nI1
      · rw [if_neg d]; exact Or.inl nI0
theorem ty_no {F : Nat → Int × Int} {g : Nat → Int32} {a k n : Nat} (ho : ¬ isB (F k).1) : TyI F g a (k + 1) n := fun _ hB => absurd hB (by rw [Nat.add_sub_cancel]; exact ho)
theorem ty_at {F : Nat → Int × Int} {g : Nat → Int32} {a b k n : Nat} (h : TyI F g a k n) (hW : Wk F a b k False) (ho : 10 ≤ (F k).1) : (g (n - 1)).toInt = 0 ∨ (g (n - 1)).toInt = 1 := h (hW.1 ho).1 (hW.1 ho).2
theorem sub01 {x : Int32} (h : x.toInt = 0 ∨ x.toInt = 1) : (nI 1 - x).toInt = 0 ∨ (nI 1 - x).toInt = 1 := by
  rcases b01_of h with rfl | rfl <;> decide
theorem ty_not {F : Nat → Int × Int} {g : Nat → Int32} {a b k n : Nat} (h : TyI F g a k n) (hW : Wk F a b k False) (ho : (F k).1 = 10) : TyI F (upd g (n - 1) (nI 1 - g (n - 1))) a (k + 1) n := fun _ _ => by
  rw [upd_e]
  exact sub01 (ty_at h hW (by omega))
theorem ty_jmp {F : Nat → Int × Int} {g : Nat → Int32} {a b k n : Nat} (h : TyI F g a k n) (hW : Wk F a b k False) (ho : 11 ≤ (F k).1) : TyI F g a (F k).2.toNat n := fun _ _ => ty_at h hW (by omega)
theorem ty_bin {F : Nat → Int × Int} {g : Nat → Int32} {a k n : Nat} {x y z : Int32} (hx : x = rk (F k).1 y z) (hn : 2 ≤ n) (ho : (F k).1 ≤ 9) : TyI F (upd g (n - 1 - 1) x) a (k + 1) (n - 1) := fun _ hB => by
  rw [Nat.add_sub_cancel] at hB
  rw [upd_e, hx]
  exact rk_b y z ⟨hB.1, ho⟩
theorem ty_0 {F : Nat → Int × Int} {g : Nat → Int32} {a n : Nat} : TyI F g a a n := fun h => absurd h (Nat.lt_irrefl _)
/-- whether the reference jumps -/
def J3 (t o : Int) : Prop := (t = 1 ∧ o = 12) ∨ (t = 0 ∧ o = 11)
theorem j3_y {x t o : Int} (h : J3 t o) (hx : x = 0 ∨ x = 1) (e : x = t) : x = 0 ↔ o = 11 := by
  rcases h with z | z <;> exact ⟨fun _ => by omega, fun _ => by omega⟩
theorem j3_n {x t o : Int} (h : J3 t o) (hx : x = 0 ∨ x = 1) (e : ¬ x = t) : ¬ (x = 0 ↔ o = 11) := fun w => by
  rcases h with z | z
  · by_cases c : x = 0
    · have := w.mp c
      omega
    · omega
  · by_cases c : x = 0
    · omega
    · exact c (w.mpr z.2)
theorem q_up {y : Int32} (h : 0 ≤ y.toInt) (hy : ix y ≤ 17) : 0 ≤ (y + nI 1).toInt ∧ ix (y + nI 1) = ix y + 1 := by
  have e := t_ixn y h
  have e1 := i_up (x := y) (by omega)
  omega
theorem q_dn {y : Int32} (h : 0 ≤ y.toInt) (hy : ix y ≤ 17) (hn : 0 < ix y) : 0 ≤ (y - nI 1).toInt ∧ ix (y - nI 1) = ix y - 1 ∧ (y - nI 1).toInt < 260 := by
  have e := t_ixn y h
  have e1 := i_dn (x := y) (by omega)
  omega
theorem q_dn2 {y : Int32} (h : 0 ≤ y.toInt) (hy : ix y ≤ 17) (hn : 2 ≤ ix y) : 0 ≤ ((y - nI 1) - nI 1).toInt ∧ ix ((y - nI 1) - nI 1) = ix y - 1 - 1 ∧ ((y - nI 1) - nI 1).toInt < 260 := by
  have e := q_dn h hy (by omega)
  have e2 := q_dn e.1 (by omega) (by omega)
  omega
theorem q_5 {y v1 v2 : Int32} (h : v1.toInt ≤ y.toInt ∧ y.toInt ≤ v2.toInt) (hc : ¬ v2.toInt ≤ y.toInt) (hv : 0 ≤ v1.toInt ∧ v2.toInt ≤ 260) : (v1.toInt ≤ (y + nI 1).toInt ∧ (y + nI 1).toInt ≤ v2.toInt) ∧ ix (y + nI 1) = ix y + 1 ∧ (v2.toInt - (y + nI 1).toInt).toNat < (v2.toInt - y.toInt).toNat := by
  have e1 := i_up (x := y) (by omega)
  omega
theorem q_j {y x v1 v2 : Int32} {t : Nat} (h : v1.toInt ≤ y.toInt ∧ y.toInt ≤ v2.toInt) (hv : 0 ≤ v1.toInt ∧ v2.toInt ≤ 260) (hx : 0 ≤ x.toInt) (e : ix x = t) (h1 : ix y < t) (h2 : t ≤ ix v2) : (v1.toInt ≤ x.toInt ∧ x.toInt ≤ v2.toInt) ∧ (v2.toInt - x.toInt).toNat < (v2.toInt - y.toInt).toNat := by
  have f1 := t_ixn y (by omega)
  have f2 := t_ixn x hx
  have f3 := t_ixn v2 (by omega)
  omega
theorem q_260 {y : Int32} (h : 0 ≤ y.toInt) (hy : ix y ≤ 17) : y.toInt < 260 := by
  have e := t_ixn y h
  omega
theorem sl8 {x : Int} (h : 0 ≤ x ∧ x < 8) : x.toNat < 8 := by omega
