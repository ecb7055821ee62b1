/-! at, stoneIs, tried, check, count -/
theorem ff_at {MC MM : Mem} {r r' x y : Int32} (h : FF MC MM) (h1 : AtP (FdC MC 1) r x y) (h2 : AtP (FdR MM 1) r' x y) : r = r' := by
  rw [h.1.1] at h1
  exact (op_fn h1 h2).2
theorem ff_si {MC MM : Mem} {r r' i w : Int32} (h : FF MC MM) (h1 : SiP (FdC MC 1) r i w) (h2 : SiP (FdR MM 1) r' i w) : r = r' := by
  rw [h.1.1] at h1
  exact (op_fn h1 h2).2
theorem ff_tr {R : Nat} {F : Nat → Int × Int} {tb : Tbl} {MC MM : Mem} {r r' v w : Int32} (h : FF MC MM) (h1 : TrP R F tb (FdC MC 1) r v w) (h2 : TrP R F tb (FdR MM 1) r' v w) : r = r' := by
  rw [h.1.1] at h1
  exact (op_fn h1 h2).2
/-- what is due at a place of CHECK; the first that is not so -/
def dueF (G : Mem) (i : Nat) : Int := if (G 4 i).toInt = 0 then 255 else (G 1 i).toInt
def ckF (G : Mem) (B : Nat → Int) : Nat → Nat → Int32
  | 0, _ => -1
  | n + 1, i => if B i = dueF G i then ckF G B n (i + 1) else nI i
theorem ck_0 {G : Mem} {B : Nat → Int} {n i : Nat} (h : n = 0) : ckF G B n i = -1 := by
  rw [h]
  rfl
theorem ck_y {G : Mem} {B : Nat → Int} {N i : Nat} (hi : i < N) (h : B i = dueF G i) : ckF G B (N - i) i = ckF G B (N - (i + 1)) (i + 1) := by
  rw [show N - i = (N - (i + 1)) + 1 from by omega]
  exact if_pos h
theorem ck_n {G : Mem} {B : Nat → Int} {N i : Nat} (hi : i < N) (h : ¬ B i = dueF G i) : ckF G B (N - i) i = nI i := by
  rw [show N - i = (N - (i + 1)) + 1 from by omega]
  exact if_neg h
theorem ck_ext {G : Mem} {B B' : Nat → Int} : ∀ (n i : Nat), (∀ j, i ≤ j → j < i + n → B j = B' j) → ckF G B n i = ckF G B' n i
  | 0, _, _ => rfl
  | n + 1, i, h => by
    show (if B i = dueF G i then ckF G B n (i + 1) else nI i) = (if B' i = dueF G i then ckF G B' n (i + 1) else nI i)
    rw [h i (Nat.le_refl _) (by omega), ck_ext n (i + 1) (fun j h1 h2 => h j (by omega) (by omega))]
theorem ff_ck {MC MM : Mem} {r r' v : Int32} {C D : Prop} {b1 b2 : Nat → Int} (h : FF MC MM) (hCD : C ↔ D) (ht : D → ∀ j : Nat, (j : Int) < v.toInt → b1 j = b2 j) (hv : D → 0 ≤ v.toInt) (h1 : (C → r = ckF (FdC MC 1) b1 (ix v) 0) ∧ (¬ C → r = -2)) (h2 : (D → r' = ckF (FdR MM 1) b2 (ix v) 0) ∧ (¬ D → r' = -2)) : r = r' := by
  by_cases d : D
  · rw [h1.1 (hCD.mpr d), h2.1 d, h.1.1]
    exact ck_ext _ _ (fun j _ hj => ht d j (by have := t_ixn v (hv d); omega))
  · rw [h1.2 (fun z => d (hCD.mp z)), h2.2 d]
/-- what count tells -/
def CnP (G : Mem) (w : Int) (r t3 r4 s5 : Int32) (T : Prop) (st : Int32) : Prop := (w = 0 → r = G 0 5) ∧ (w = 1 → r = smT 4 G 40) ∧ (w = 2 → r = smT 5 G 40) ∧ (w = 3 → r = t3) ∧ (w = 4 → r = r4) ∧ (w = 5 → r = s5) ∧ (w = 6 → r = G 0 6) ∧ (¬ (0 ≤ w ∧ w ≤ 6) → (T ∧ r = st) ∨ (¬ T ∧ r = -1))
theorem cn_fn {G : Mem} {w : Int} {r r' t3 t3' r4 r4' s5 s5' st st' : Int32} {T T' : Prop} (h : CnP G w r t3 r4 s5 T st) (h' : CnP G w r' t3' r4' s5' T' st') (e3 : t3 = t3') (e4 : r4 = r4') (e5 : s5 = s5') (eT : T ↔ T') (es : T → st = st') : r = r' := by
  obtain ⟨a0, a1, a2, a3, a4, a5, a6, a7⟩ := h
  obtain ⟨b0, b1, b2, b3, b4, b5, b6, b7⟩ := h'
  by_cases c : 0 ≤ w ∧ w ≤ 6
  · rcases (show w = 0 ∨ w = 1 ∨ w = 2 ∨ w = 3 ∨ w = 4 ∨ w = 5 ∨ w = 6 by omega) with e | e | e | e | e | e | e
    · rw [a0 e, b0 e]
    · rw [a1 e, b1 e]
    · rw [a2 e, b2 e]
    · rw [a3 e, b3 e, e3]
    · rw [a4 e, b4 e, e4]
    · rw [a5 e, b5 e, e5]
    · rw [a6 e, b6 e]
  · rcases a7 c with ⟨p, q⟩ | ⟨p, q⟩ <;> rcases b7 c with ⟨p', q'⟩ | ⟨p', q'⟩
    · rw [q, q', es p]
    · exact absurd (eT.mp p) p'
    · exact absurd (eT.mpr p') p
    · rw [q, q']
theorem ff_cn {MC MM : Mem} {r r' v : Int32} (h : FF MC MM) (hi : (MC 0 10).toInt = 44 ∨ (MC 0 10).toInt = 52) (hS : MC 19 1 = MM 0 6) (hP : PP MC MM) (hQ : QQ MC MM) (h1 : ∃ t3, MkB (fun p => ¬ (MC 43 p).toInt = 0) 8 t3 ∧ CnP (FdC MC 1) v.toInt r t3 (MC (ix (MC 0 10)) 8) (MC 19 1) (TpC MC (v - nI 10)) (MC 43 (ix (v - nI 10)))) (h2 : CnP (FdR MM 1) v.toInt r' (MM 0 4) (MM 0 15) (MM 0 6) (TpR MM (v - nI 10)) (MM 4 (ix (v - nI 10)))) : r = r' := by
  obtain ⟨t3, k1, k2⟩ := h1
  rw [h.1.1] at k2
  obtain ⟨R, F, tb, g1, g2, g3⟩ := h.2.2.2
  obtain ⟨c, hc⟩ : ∃ c : Nat, (MC 0 10).toInt = (c : Int) := ⟨(MC 0 10).toInt.toNat, by omega⟩
  have ec : ix (MC 0 10) = c := (ix_eq (by omega) (by omega)).mpr hc
  have e4 : MC (ix (MC 0 10)) 8 = MM 0 15 := by
    rw [ec]
    exact t_of ((g1 c hc).1.1.1.trans g2.1.1.symm)
  have e3 : t3 = MM 0 4 := by
    obtain ⟨n, p1, p2, p3⟩ := hP
    exact mk_fn k1 ⟨n, p1, p2, fun p hp => ⟨fun z => ⟨hp, (p3 p hp).mpr z⟩, fun z => (p3 p hp).mp z.2⟩⟩ (fun p hp => Iff.rfl)
  exact cn_fn k2 h2 e3 e4 hS (tp_iff hP) (fun t => qq_e hQ t)
theorem mk_ex {Q : Nat → Prop} : ∀ n, n ≤ 8 → ∃ y, MkB Q n y
  | 0, _ => ⟨_, mk_b0⟩
  | n + 1, h => by
    obtain ⟨y, hy⟩ := mk_ex (Q := Q) n (by omega)
    by_cases c : Q n
    · exact ⟨_, mk_by hy c (by omega) rfl⟩
    · exact ⟨y, mk_bn hy c⟩

