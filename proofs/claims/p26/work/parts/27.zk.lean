/-! a night: what a stone feels, where it goes -/
def vlF (F : Mem) (i : Nat) (d : Int32) (j : Nat) : Int32 := if j = 0 then nI i else if j = 1 then F 1 i else if j = 2 then F 2 i else if j = 3 then F 3 i else if j = 4 then F 5 i else if j = 5 then clF F i 40 else if j = 6 then d else rm (F 0 5) (nI 100)
theorem vl_0 (F : Mem) (i : Nat) (d : Int32) : vlF F i d 0 = nI i := if_pos rfl
theorem vl_1 (F : Mem) (i : Nat) (d : Int32) : vlF F i d 1 = F 1 i := by
  unfold vlF
  rw [if_neg (by omega), if_pos rfl]
theorem vl_2 (F : Mem) (i : Nat) (d : Int32) : vlF F i d 2 = F 2 i := by
  unfold vlF
  rw [if_neg (by omega), if_neg (by omega), if_pos rfl]
theorem vl_3 (F : Mem) (i : Nat) (d : Int32) : vlF F i d 3 = F 3 i := by
  unfold vlF
  rw [if_neg (by omega), if_neg (by omega), if_neg (by omega), if_pos rfl]
theorem vl_4 (F : Mem) (i : Nat) (d : Int32) : vlF F i d 4 = F 5 i := by
  unfold vlF
  rw [if_neg (by omega), if_neg (by omega), if_neg (by omega), if_neg (by omega), if_pos rfl]
theorem vl_5 (F : Mem) (i : Nat) (d : Int32) : vlF F i d 5 = clF F i 40 := by
  unfold vlF
  rw [if_neg (by omega), if_neg (by omega), if_neg (by omega), if_neg (by omega), if_neg (by omega), if_pos rfl]
theorem vl_6 (F : Mem) (i : Nat) (d : Int32) : vlF F i d 6 = d := by
  unfold vlF
  rw [if_neg (by omega), if_neg (by omega), if_neg (by omega), if_neg (by omega), if_neg (by omega), if_neg (by omega), if_pos rfl]
theorem vl_7 (F : Mem) (i : Nat) (d : Int32) : vlF F i d 7 = rm (F 0 5) (nI 100) := by
  unfold vlF
  rw [if_neg (by omega), if_neg (by omega), if_neg (by omega), if_neg (by omega), if_neg (by omega), if_neg (by omega), if_neg (by omega)]
def UdB (F : Mem) : Prop := ∀ i, i < 40 → (F 5 i).toInt = 0 ∨ (F 5 i).toInt = 1
theorem n0 (F : Mem) : nI 0 = 0 := by decide
theorem b01x {x : Int32} (h : x.toInt = 0 ∨ x.toInt = 1) : (x.toInt = 0 → nI 0 = x) ∧ (¬ x.toInt = 0 → nI 1 = x) := by
  rcases b01_of h with rfl | rfl <;> decide
theorem fdc_n (M : Mem) (b : Nat) : FdC M b 0 5 = M b 5 := by
  unfold FdC
  rw [mk_0 (by omega)]
  rfl
theorem fdr_n (M : Mem) : FdR M 1 0 5 = M 1 200 := by
  unfold FdR
  rw [mk_0 (by omega)]
  rfl
theorem lt8 {j : Nat} (h : j < 8) : j = 0 ∨ j = 1 ∨ j = 2 ∨ j = 3 ∨ j = 4 ∨ j = 5 ∨ j = 6 ∨ j = 7 := by omega
/-! where it goes -/
def gx (F : Mem) (i : Nat) (v : Int32) : Int32 := mx (nI 0) (mn (nI 39) (F 1 i + v))
def gy (F : Mem) (i : Nat) (v : Int32) : Int32 := mx (nI 1) (mn (nI 20) (F 2 i + v))
/-- 0: it stays of itself, 1: it moves, 2: the place is taken -/
def hwF (F : Mem) (i : Nat) (x y : Int32) : Nat := if x.toInt = (F 1 i).toInt ∧ y.toInt = (F 2 i).toInt then 0 else if (stA F x.toInt y.toInt 40 0).toInt = -1 then 1 else 2
def shF (F : Mem) (i : Nat) (x y : Int32) : Mem := if hwF F i x y = 1 then mset (mset F 1 i x) 2 i y else F
theorem hw_0 {F : Mem} {i : Nat} {x y : Int32} (h : x.toInt = (F 1 i).toInt ∧ y.toInt = (F 2 i).toInt) : hwF F i x y = 0 := if_pos h
theorem hw_1 {F : Mem} {i : Nat} {x y : Int32} (h : ¬ (x.toInt = (F 1 i).toInt ∧ y.toInt = (F 2 i).toInt)) (h2 : (stA F x.toInt y.toInt 40 0).toInt = -1) : hwF F i x y = 1 := by
  unfold hwF
  rw [if_neg h, if_pos h2]
theorem hw_2 {F : Mem} {i : Nat} {x y : Int32} (h : ¬ (x.toInt = (F 1 i).toInt ∧ y.toInt = (F 2 i).toInt)) (h2 : ¬ (stA F x.toInt y.toInt 40 0).toInt = -1) : hwF F i x y = 2 := by
  unfold hwF
  rw [if_neg h, if_neg h2]
theorem sh_1 {F : Mem} {i : Nat} {x y : Int32} (h : hwF F i x y = 1) : shF F i x y = mset (mset F 1 i x) 2 i y := if_pos h
theorem sh_n {F : Mem} {i : Nat} {x y : Int32} (h : ¬ hwF F i x y = 1) : shF F i x y = F := if_neg h
def Uq (F : Mem) : Prop := ∀ i j, i < 40 → j < 40 → tld F i → tld F j → (F 1 i).toInt = (F 1 j).toInt → (F 2 i).toInt = (F 2 j).toInt → i = j
/-- what stA says -/
theorem stA_is {F : Mem} {x y : Int} : ∀ (n j : Nat), n = 40 - j → (stA F x y n j = -1 ∧ ∀ k, j ≤ k → k < 40 → ¬ (tld F k ∧ (F 1 k).toInt = x ∧ (F 2 k).toInt = y)) ∨ ∃ k, j ≤ k ∧ k < 40 ∧ stA F x y n j = nI k ∧ tld F k ∧ (F 1 k).toInt = x ∧ (F 2 k).toInt = y
  | 0, j, h => Or.inl ⟨rfl, fun k k1 k2 => absurd k2 (by omega)⟩
  | n + 1, j, h => by
    by_cases c : (¬ (F 4 j).toInt = 0) ∧ (F 1 j).toInt = x ∧ (F 2 j).toInt = y
    · exact Or.inr ⟨j, Nat.le_refl _, by omega, if_pos c, c.1, c.2.1, c.2.2⟩
    · have e : stA F x y (n + 1) j = stA F x y n (j + 1) := if_neg c
      rw [e]
      rcases stA_is n (j + 1) (by omega) with z | ⟨k, k1, k2, k3⟩
      · refine Or.inl ⟨z.1, fun k k1 k2 => ?_⟩
        by_cases d : k = j
        · rw [d]; exact c
        · exact z.2 k (by omega) k2
      · exact Or.inr ⟨k, by omega, k2, k3⟩
theorem st_own {F : Mem} {i : Nat} (hU : Uq F) (hi : i < 40) (ht : tld F i) : stA F (F 1 i).toInt (F 2 i).toInt 40 0 = nI i := by
  rcases stA_is (F := F) (x := (F 1 i).toInt) (y := (F 2 i).toInt) 40 0 rfl with z | ⟨k, k1, k2, k3, k4, k5, k6⟩
  · exact absurd ⟨ht, rfl, rfl⟩ (z.2 i (Nat.zero_le _) hi)
  · rw [k3, hU k i k2 hi k4 ht k5 k6]
theorem st_i {F : Mem} {x y : Int} {i : Nat} (hi : i < 40) (h : (stA F x y 40 0).toInt = (i : Int)) : (F 1 i).toInt = x ∧ (F 2 i).toInt = y := by
  rcases stA_is (F := F) (x := x) (y := y) 40 0 rfl with z | ⟨k, k1, k2, k3, k4, k5, k6⟩
  · rw [z.1] at h
    have e : ((-1 : Int32)).toInt = -1 := by decide
    omega
  · rw [k3, t_lit k (by omega)] at h
    rw [show i = k from by omega]
    exact ⟨k5, k6⟩
theorem hw_own {F : Mem} {i : Nat} {x y : Int32} (hU : Uq F) (hi : i < 40) (ht : tld F i) : (hwF F i x y = 0 ↔ (stA F x.toInt y.toInt 40 0).toInt = (i : Int)) := by
  refine ⟨fun z => ?_, fun z => hw_0 (by have q := st_i hi z; exact ⟨q.1.symm, q.2.symm⟩)⟩
  by_cases c : x.toInt = (F 1 i).toInt ∧ y.toInt = (F 2 i).toInt
  · rw [c.1, c.2, st_own hU hi ht]
    exact t_lit i (by omega)
  · exfalso
    by_cases d : (stA F x.toInt y.toInt 40 0).toInt = -1
    · rw [hw_1 c d] at z
      exact absurd z (by omega)
    · rw [hw_2 c d] at z
      exact absurd z (by omega)
