/-! what is asked of ways -/
def NCr (G : Mem) (s : Int) : Prop := CrK G s (-1)
def CAn (G : Mem) (s : Int) : Prop := ∃ r, CrK G s r ∧ ¬ r = -1
theorem can_no {G : Mem} {s : Int} (h : CAn G s) (h2 : NCr G s) : False := by
  obtain ⟨r, a, b⟩ := h
  exact b (crk_fn a h2)
theorem cc_n {G : Mem} {s : Int} {res : Int} (h : ∃ r : Int, CrK G s r ∧ (res = 0 ↔ r = -1)) (hr : res = 0) : NCr G s := by
  obtain ⟨r, a, b⟩ := h
  rw [b.mp hr] at a
  exact a
theorem cc_y {G : Mem} {s : Int} {res : Int} (h : ∃ r : Int, CrK G s r ∧ (res = 0 ↔ r = -1)) (hr : ¬ res = 0) : CAn G s := by
  obtain ⟨r, a, b⟩ := h
  exact ⟨r, a, fun z => hr (b.mpr z)⟩
theorem cr_n {G : Mem} {s r : Int} (h : CrK G s r) (hr : r = -1) : NCr G s := by
  rw [hr] at h
  exact h
theorem cr_y {G : Mem} {s r : Int} (h : CrK G s r) (hr : ¬ r = -1) : CAn G s := ⟨r, h, hr⟩
/-- the least stride -/
def LsP (G : Mem) (r : Int) : Prop := (r = -2 ∧ ∀ s, 1 ≤ s → s ≤ 30 → NCr G s) ∨ ((1 ≤ r ∧ r ≤ 30) ∧ CAn G r ∧ ∀ s, 1 ≤ s → s < r → NCr G s)
theorem ls_fn {G : Mem} {r r' : Int} (h : LsP G r) (h' : LsP G r') : r = r' := by
  rcases h with ⟨a, b⟩ | ⟨a, b, d⟩ <;> rcases h' with ⟨a', b'⟩ | ⟨a', b', d'⟩
  · omega
  · exact (can_no b' (b r' a'.1 a'.2)).elim
  · exact (can_no b (b' r a.1 a.2)).elim
  · rcases Int.lt_trichotomy r r' with c | c | c
    · exact (can_no b (d' r a.1 c)).elim
    · exact c
    · exact (can_no b' (d r' a'.1 c)).elim
theorem ls_nx {G : Mem} {y y1 : Int} (h : ∀ s, 1 ≤ s → s < y → NCr G s) (hy : NCr G y) (e : y1 = y + 1) : ∀ s, 1 ≤ s → s < y1 → NCr G s := fun s h1 h2 => by
  by_cases c : s = y
  · rw [c]
    exact hy
  · exact h s h1 (by omega)
/-- bits of those of whom Q holds, ahead of n -/
def MkB (Q : Nat → Prop) (n : Nat) (y : Int32) : Prop := ∃ w : Nat, w < 256 ∧ y = nI w ∧ ∀ p, p < 8 → (w.testBit p = true ↔ p < n ∧ Q p)
theorem mk_b0 {Q : Nat → Prop} : MkB Q 0 (nI 0) := ⟨0, by omega, rfl, fun p _ => by simp⟩
theorem mk_bn {Q : Nat → Prop} {n : Nat} {y : Int32} (h : MkB Q n y) (hq : ¬ Q n) : MkB Q (n + 1) y := by
  obtain ⟨w, a, b, d⟩ := h
  refine ⟨w, a, b, fun p hp => (d p hp).trans ⟨fun z => ⟨by omega, z.2⟩, fun z => ⟨?_, z.2⟩⟩⟩
  by_cases c : p = n
  · rw [c] at z
    exact absurd z.2 hq
  · omega
theorem mk_by {Q : Nat → Prop} {n : Nat} {y v : Int32} (h : MkB Q n y) (hq : Q n) (hn : n < 8) (hv : v = nI n) : MkB Q (n + 1) (y ||| shl (nI 1) v) := by
  obtain ⟨w, a, b, d⟩ := h
  refine ⟨w ||| 2 ^ n, pp_t3 w a n hn, by rw [b, hv, pp_t2 w a n hn], fun p hp => ?_⟩
  rw [Nat.testBit_or, Nat.testBit_two_pow]
  by_cases c : p = n
  · rw [c]
    simp [hq]
  · have e : decide (n = p) = false := decide_eq_false (fun z => c z.symm)
    rw [e, Bool.or_false, d p hp]
    exact ⟨fun z => ⟨by omega, z.2⟩, fun z => ⟨by omega, z.2⟩⟩
theorem mk_fn {Q Q' : Nat → Prop} {y y' : Int32} (h : MkB Q 8 y) (h' : MkB Q' 8 y') (e : ∀ p, p < 8 → (Q p ↔ Q' p)) : y = y' := by
  obtain ⟨w, a, b, d⟩ := h
  obtain ⟨w', a', b', d'⟩ := h'
  have ew : w = w' := Nat.eq_of_testBit_eq (fun p => by
    by_cases c : p < 8
    · have z : w.testBit p = true ↔ w'.testBit p = true := (d p c).trans ((and_congr_right (fun _ => e p c)).trans (d' p c).symm)
      cases x : w.testBit p with
      | true => exact (z.mp x).symm
      | false =>
        cases x' : w'.testBit p with
        | true => rw [z.mpr x'] at x; exact absurd x (by decide)
        | false => rfl
    · have hb : ∀ u : Nat, u < 256 → u.testBit p = false := fun u hu => Nat.testBit_lt_two_pow (Nat.lt_of_lt_of_le hu (by
        have q : 2 ^ 8 ≤ 2 ^ p := Nat.pow_le_pow_right (by omega) (by omega)
        exact q))
      rw [hb w a, hb w' a'])
  rw [b, b', ew]
/-- how far one comes -/
def MxS (G : Mem) (s : Int) (n : Nat) (y : Int) : Prop := (0 ≤ y ∧ ∀ i, i < n → (∃ k, RK G s k i) → (G 2 i).toInt ≤ y) ∧ (y = 0 ∨ ∃ i, i < n ∧ (∃ k, RK G s k i) ∧ y = (G 2 i).toInt)
theorem mx_0 {G : Mem} {s : Int} : MxS G s 0 0 := ⟨⟨Int.le_refl _, fun i hi => absurd hi (Nat.not_lt_zero _)⟩, Or.inl rfl⟩
theorem mx_n {G : Mem} {s : Int} {n : Nat} {y : Int} (h : MxS G s n y) (hn : ¬ ∃ k, RK G s k n) : MxS G s (n + 1) y := by
  refine ⟨⟨h.1.1, fun i hi hk => ?_⟩, h.2.elim Or.inl (fun z => Or.inr ?_)⟩
  · by_cases c : i = n
    · rw [c] at hk
      exact absurd hk hn
    · exact h.1.2 i (by omega) hk
  · obtain ⟨i, a, b, d⟩ := z
    exact ⟨i, by omega, b, d⟩
theorem mx_y {G : Mem} {s : Int} {n : Nat} {y : Int} (h : MxS G s n y) (hn : ∃ k, RK G s k n) : MxS G s (n + 1) (max y (G 2 n).toInt) := by
  refine ⟨⟨by have := h.1.1; omega, fun i hi hk => ?_⟩, ?_⟩
  · by_cases c : i = n
    · rw [c]
      omega
    · have := h.1.2 i (by omega) hk
      omega
  · by_cases c : (G 2 n).toInt ≤ y
    · rw [Int.max_eq_left c]
      exact h.2.elim Or.inl (fun z => Or.inr (by obtain ⟨i, a, b, d⟩ := z; exact ⟨i, by omega, b, d⟩))
    · rw [Int.max_eq_right (by omega)]
      exact Or.inr ⟨n, by omega, hn, rfl⟩
theorem mx_fn {G : Mem} {s : Int} {n : Nat} {y y' : Int} (h : MxS G s n y) (h' : MxS G s n y') : y = y' := by
  have a : ∀ u v, MxS G s n u → MxS G s n v → u ≤ v := fun u v hu hv => by
    rcases hu.2 with z | ⟨i, z1, z2, z3⟩
    · have := hv.1.1
      omega
    · have := hv.1.2 i z1 z2
      omega
  have := a y y' h h'
  have := a y' y h' h
  omega
def HfP (G : Mem) (s r : Int) : Prop := (CAn G s ∧ r = 21) ∨ (NCr G s ∧ MxS G s 40 r)
theorem hf_fn {G : Mem} {s r r' : Int} (h : HfP G s r) (h' : HfP G s r') : r = r' := by
  rcases h with ⟨a, b⟩ | ⟨a, b⟩ <;> rcases h' with ⟨a', b'⟩ | ⟨a', b'⟩
  · omega
  · exact (can_no a a').elim
  · exact (can_no a' a).elim
  · exact mx_fn b b'
/-- of the class: the greatest height of the nodes ahead of n that are come to -/
def MxC (G : Mem) (sC : Nat → Int) (n : Nat) (y : Int) : Prop := (0 ≤ y ∧ ∀ i, i < n → ¬ sC i = -1 → hgt G i ≤ y) ∧ (y = 0 ∨ ∃ i, i < n ∧ ¬ sC i = -1 ∧ y = hgt G i)
theorem mxc_0 {G : Mem} {sC : Nat → Int} : MxC G sC 0 0 := ⟨⟨Int.le_refl _, fun i hi => absurd hi (Nat.not_lt_zero _)⟩, Or.inl rfl⟩
theorem mxc_n {G : Mem} {sC : Nat → Int} {n : Nat} {y : Int} (h : MxC G sC n y) (hn : sC n = -1) : MxC G sC (n + 1) y := by
  refine ⟨⟨h.1.1, fun i hi hk => ?_⟩, h.2.elim Or.inl (fun z => Or.inr ?_)⟩
  · by_cases c : i = n
    · rw [c] at hk
      exact absurd hn hk
    · exact h.1.2 i (by omega) hk
  · obtain ⟨i, a, b, d⟩ := z
    exact ⟨i, by omega, b, d⟩
theorem mxc_y {G : Mem} {sC : Nat → Int} {n : Nat} {y : Int} (h : MxC G sC n y) (hn : ¬ sC n = -1) : MxC G sC (n + 1) (max y (hgt G n)) := by
  refine ⟨⟨by have := h.1.1; omega, fun i hi hk => ?_⟩, ?_⟩
  · by_cases c : i = n
    · rw [c]
      omega
    · have := h.1.2 i (by omega) hk
      omega
  · by_cases c : hgt G n ≤ y
    · rw [Int.max_eq_left c]
      exact h.2.elim Or.inl (fun z => Or.inr (by obtain ⟨i, a, b, d⟩ := z; exact ⟨i, by omega, b, d⟩))
    · rw [Int.max_eq_right (by omega)]
      exact Or.inr ⟨n, by omega, hn, rfl⟩
/-- of one who can't cross the class comes to just the stones of the rings -/
theorem rk_can {G : Mem} {s : Int} {sC : Nat → Int} (hG : GdF G) (hs : 0 ≤ s) (h : Bend 42 (fun j => j = 40) (stC G s) sC) (hf : sC 41 = -1) {i : Nat} (hi : i < 40) : ¬ sC i = -1 ↔ ∃ k, RK G s k i := by
  have hk := rk_c hG hs h
  refine ⟨fun z => ?_, fun z => by obtain ⟨k, a⟩ := z; exact (hk.1 k i a).1⟩
  have b := h.1 i (by omega)
  have e : ¬ sC i = 1 := fun q => absurd ((h.2.1 i (by omega)).mp q) (by omega)
  obtain ⟨k, e2⟩ : ∃ k : Nat, sC i = (k : Int) + 2 := ⟨(sC i - 2).toNat, by omega⟩
  exact ⟨k, hk.2 k i hi e2 (Or.inl hf)⟩
theorem hf_c {G : Mem} {s : Int} {sC : Nat → Int} {y z : Int} (hG : GdF G) (hs : 0 ≤ s) (h : Bend 42 (fun j => j = 40) (stC G s) sC) (hz : sC 41 = sp z) (h1 : -1 ≤ z) (hm : MxC G sC 42 y) : HfP G s y := by
  have hc := crk_c hG hs h hz h1
  have e40 : sC 40 = 1 := (h.2.1 40 (by omega)).mpr rfl
  have hk := rk_c hG hs h
  by_cases c : z = -1
  · rw [c] at hc
    rw [c, sp_n] at hz
    refine Or.inr ⟨hc, ⟨hm.1.1, fun i hi hr => ?_⟩, ?_⟩
    · have w := hm.1.2 i (by omega) ((rk_can hG hs h hz hi).mpr hr)
      rw [hg_s hi] at w
      exact w
    · rcases hm.2 with w | ⟨i, a, b, d⟩
      · exact Or.inl w
      · by_cases i40 : i < 40
        · rw [hg_s i40] at d
          exact Or.inr ⟨i, i40, (rk_can hG hs h hz i40).mp b, d⟩
        · have i41 : i = 40 := by
            by_cases q : i = 41
            · rw [q] at b
              exact absurd hz b
            · omega
          rw [i41, hg_40] at d
          exact Or.inl d
  · refine Or.inl ⟨⟨z, hc, c⟩, ?_⟩
    rw [sp_s c] at hz
    have w := hm.1.2 41 (by omega) (by omega)
    rw [hg_41] at w
    rcases hm.2 with x | ⟨i, a, b, d⟩
    · omega
    · by_cases i40 : i < 40
      · -- a stone that one comes to is dry
        have g := h.1 i (by omega)
        have e1 : ¬ sC i = 1 := fun q => absurd ((h.2.1 i (by omega)).mp q) (by omega)
        obtain ⟨p, hp, ep, cp⟩ := h.2.2.1 i (by omega) (by omega)
        have hd : dryG G i := cp.2.2.elim (fun q => q.1) (fun q => absurd q.1 (by omega))
        have := (dry_b hG hd).2
        rw [hg_s i40] at d
        omega
      · by_cases q : i = 41
        · rw [q, hg_41] at d
          exact d
        · rw [show i = 40 from by omega, hg_40] at d
          omega
/-! strides -/
def QQ (MC MM : Mem) : Prop := ∀ p : Nat, p < 8 → ¬ (MC 43 p).toInt = 0 → MC 43 p = MM 4 p ∧ 1 ≤ (MC 43 p).toInt ∧ (MC 43 p).toInt ≤ 30
theorem qq_fr {MC MM MC1 MM1 : Mem} (h : QQ MC MM) (e1 : ∀ p, MC1 43 p = MC 43 p) (e2 : ∀ p, MM1 4 p = MM 4 p) : QQ MC1 MM1 := fun p hp hn => by
  rw [e1] at hn
  rw [e1, e2]
  exact h p hp hn
theorem qq_pers {MC MM MC1 MM1 : Mem} {v1 v2 : Int32} (h : QQ MC MM) (h1 : MC1 43 = (if (0 ≤ v1.toInt ∧ v1.toInt < 8) ∧ 1 ≤ v2.toInt ∧ v2.toInt ≤ 30 then upd (MC 43) (ix v1) v2 else MC 43)) (h2 : MM1 4 = (if (0 ≤ v1.toInt ∧ v1.toInt < 8) ∧ 1 ≤ v2.toInt ∧ v2.toInt ≤ 30 then upd (MM 4) (ix v1) v2 else MM 4)) : QQ MC1 MM1 := fun p hp => by
  rw [h1, h2]
  by_cases c : (0 ≤ v1.toInt ∧ v1.toInt < 8) ∧ 1 ≤ v2.toInt ∧ v2.toInt ≤ 30
  · rw [if_pos c, if_pos c]
    by_cases e : p = ix v1
    · rw [e, upd_e, upd_e]
      exact fun _ => ⟨rfl, c.2.1, c.2.2⟩
    · rw [upd_o e, upd_o e]
      exact h p hp
  · rw [if_neg c, if_neg c]
    exact h p hp
def TpC (M : Mem) (v : Int32) : Prop := (0 ≤ v.toInt ∧ v.toInt < 8) ∧ ¬ (M 43 (ix v)).toInt = 0
def TpR (M : Mem) (v : Int32) : Prop := (0 ≤ v.toInt ∧ v.toInt < 8) ∧ ((shr (M 0 4) v) &&& (nI 1)).toInt = 1
def SrC (M : Mem) : Prop := ∀ p : Nat, p < 8 → ¬ (M 43 p).toInt = 0 → 1 ≤ (M 43 p).toInt ∧ (M 43 p).toInt ≤ 30
def SrR (M : Mem) : Prop := ∀ v : Int32, TpR M v → 1 ≤ (M 4 (ix v)).toInt ∧ (M 4 (ix v)).toInt ≤ 30
theorem qq_c {MC MM : Mem} (h : QQ MC MM) : SrC MC := fun p hp hn => (h p hp hn).2
theorem tp_iff {MC MM : Mem} {v : Int32} (hP : PP MC MM) : TpC MC v ↔ TpR MM v := ⟨fun z => ⟨z.1, (pp_bit hP z.1).mp z.2⟩, fun z => ⟨z.1, (pp_bit hP z.1).mpr z.2⟩⟩
theorem ix8 {v : Int32} (h : 0 ≤ v.toInt ∧ v.toInt < 8) : ix v < 8 := by
  have e := t_ixn v h.1
  omega
theorem qq_r {MC MM : Mem} (h : QQ MC MM) (hP : PP MC MM) : SrR MM := fun v hv => by
  have z := (tp_iff hP).mpr hv
  have q := h (ix v) (ix8 hv.1) z.2
  rw [← q.1]
  exact q.2
theorem qq_e {MC MM : Mem} {v : Int32} (h : QQ MC MM) (hv : TpC MC v) : MC 43 (ix v) = MM 4 (ix v) := (h (ix v) (ix8 hv.1) hv.2).1
/-- what is answered of one of the people: X of the stride -/
def PqP (T : Prop) (X : Prop) (r : Int32) : Prop := (T ∧ X) ∨ (¬ T ∧ r = -1)
theorem pq_y {T X : Prop} {r : Int32} (t : T) (x : X) : PqP T X r := Or.inl ⟨t, x⟩
theorem pq_n {T X : Prop} {r : Int32} (t : ¬ T) (h : r = -1) : PqP T X r := Or.inr ⟨t, h⟩
theorem pq_fn {T T' X X' : Prop} {r r' : Int32} (h : PqP T X r) (h' : PqP T' X' r') (e : T ↔ T') (hx : T → X → X' → r = r') : r = r' := by
  rcases h with ⟨a, b⟩ | ⟨a, b⟩ <;> rcases h' with ⟨a', b'⟩ | ⟨a', b'⟩
  · exact hx a b b'
  · exact absurd (e.mp a) a'
  · exact absurd (e.mpr a') a
  · exact b.trans b'.symm
theorem ff_ls {MC MM : Mem} {r r' : Int32} (h : FF MC MM) (h1 : LsP (FdC MC 1) r.toInt) (h2 : LsP (FdR MM 1) r'.toInt) : r = r' := by
  rw [h.1.1] at h1
  exact t_of (ls_fn h1 h2)
theorem ff_hf {MC MM : Mem} {r r' v : Int32} (h : FF MC MM) (hq : QQ MC MM) (hP : PP MC MM) (h1 : PqP (TpC MC v) (HfP (FdC MC 1) (MC 43 (ix v)).toInt r.toInt) r) (h2 : PqP (TpR MM v) (HfP (FdR MM 1) (MM 4 (ix v)).toInt r'.toInt) r') : r = r' := pq_fn h1 h2 (tp_iff hP) (fun t a b => by
  rw [h.1.1, qq_e hq t] at a
  exact t_of (hf_fn a b))
theorem ff_mk2 {MC MM : Mem} {r r' : Int32} (h : FF MC MM) (hq : QQ MC MM) (hP : PP MC MM) (h1 : MkB (fun p => ¬ (MC 43 p).toInt = 0 ∧ CAn (FdC MC 1) (MC 43 p).toInt) 8 r) (h2 : MkB (fun p => TpR MM (nI p) ∧ CAn (FdR MM 1) (MM 4 p).toInt) 8 r') : r = r' := mk_fn h1 h2 (fun p hp => by
  have hv : 0 ≤ (nI p).toInt ∧ (nI p).toInt < 8 := by
    rw [t_lit p (by omega)]
    omega
  have ep : ix (nI p) = p := (ix_eq hv.1 (by omega)).mpr (t_lit p (by omega))
  have e := tp_iff (v := nI p) hP
  unfold TpC at e
  rw [ep] at e
  refine ⟨fun z => ⟨e.mp ⟨hv, z.1⟩, ?_⟩, fun z => ?_⟩
  · rw [← h.1.1, ← (hq p hp z.1).1]
    exact z.2
  · have y := (e.mpr z.1).2
    refine ⟨y, ?_⟩
    rw [h.1.1, (hq p hp y).1]
    exact z.2)

theorem oq_X9_strideOf (M : Mem) (v1 : Int32) : Wp (f_X9_strideOf M v1) (fun q => (¬ q.toInt = 0 ↔ TpC M v1) ∧ (¬ q.toInt = 0 → q = M 43 (ix v1))) := by
  refine wp_ite (fun c1 => ?_) (fun c1 => ?_)
  · exact wp_some ⟨⟨fun z => absurd nI0 z, fun z => absurd z.1 (by omega)⟩, (fun z => absurd nI0 z)⟩
  · refine wp_ite (fun c7 => ?_) (fun c7 => ?_)
    · exact wp_some ⟨⟨fun z => absurd nI0 z, fun z => absurd z.1 (by omega)⟩, (fun z => absurd nI0 z)⟩
    · refine wp_gd (by omega) ?_
      exact wp_some ⟨⟨fun z => ⟨⟨by omega, by omega⟩, z⟩, fun z => z.2⟩, (fun _ => rfl)⟩
theorem oq_X10_person (M : Mem) (v1 : Int32) (v2 : Int32) : Wp (f_X10_person M v1 v2) (fun q => (q.1 = 0 ∨ q.1 = 1) ∧ (∀ a i, ¬ ((a = 0 ∧ i = 4) ∨ a = 4) → q.2 a i = M a i) ∧ (q.2 0 4 = (if (0 ≤ v1.toInt ∧ v1.toInt < 8) ∧ 1 ≤ v2.toInt ∧ v2.toInt ≤ 30 then (M 0 4) ||| (shl (nI 1) v1) else M 0 4)) ∧ (q.2 4 = (if (0 ≤ v1.toInt ∧ v1.toInt < 8) ∧ 1 ≤ v2.toInt ∧ v2.toInt ≤ 30 then upd (M 4) (ix v1) v2 else M 4))) := by
  refine wp_bind2 (o2_X10_in M v1 (nI 0) (nI 7)) (fun r_1 he4 hq4 => ?_)
  obtain ⟨hz_r_1, hr_4, hi_4⟩ := hq4
  replace hr_4 : ¬ r_1.toInt = 0 → (nI 0).toInt ≤ v1.toInt ∧ v1.toInt ≤ (nI 7).toInt := hr_4
  have := t_lit 0
  have := t_lit 7
  replace hi_4 : ¬ r_1.toInt = 0 ↔ (nI 0).toInt ≤ v1.toInt ∧ v1.toInt ≤ (nI 7).toInt := hi_4
  have := t_lit 0
  have := t_lit 7
  refine wp_ite (fun c7 => ?_) (fun c7 => ?_)
  · exact wp_some ⟨b01_0, (fun _ _ _ => rfl), (if_neg (by omega)).symm, (if_neg (by omega)).symm⟩
  · refine wp_bind2 (o2_X10_in M v2 (nI 1) (nI 30)) (fun r_2 he14 hq14 => ?_)
    obtain ⟨hz_r_2, hr_14, hi_14⟩ := hq14
    replace hr_14 : ¬ r_2.toInt = 0 → (nI 1).toInt ≤ v2.toInt ∧ v2.toInt ≤ (nI 30).toInt := hr_14
    have := t_lit 1
    have := t_lit 30
    replace hi_14 : ¬ r_2.toInt = 0 ↔ (nI 1).toInt ≤ v2.toInt ∧ v2.toInt ≤ (nI 30).toInt := hi_14
    have := t_lit 1
    have := t_lit 30
    refine wp_ite (fun c17 => ?_) (fun c17 => ?_)
    · exact wp_some ⟨b01_0, (fun _ _ _ => rfl), (if_neg (by omega)).symm, (if_neg (by omega)).symm⟩
    · refine wp_bnd (fun M_3 eM_3 => ?_)
      refine wp_gd (by omega) ?_
      refine wp_bnd (fun M_4 eM_4 => ?_)
      exact wp_some ⟨b01_1, (fun a i q0 => ((congrFun (congrFun eM_4 a) i).trans ((mset_ne (fun h9 => q0 (Or.inr ((h9).1)))).trans ((congrFun (congrFun eM_3 a) i).trans ((mset_ne (fun h9 => q0 (Or.inl h9))).trans rfl))))), (by show M_4 0 4 = _; rw [if_pos (by omega), eM_4, mset_ne (by first | exact nz1 (by decide) | exact nz2 (by decide) | exact nz1 (nzA hc0 (by decide)) | exact nz1 (nzE (by decide)) | exact nz1 (nzB hc0 (by decide)) | exact nz1 (nzC hc0 (by decide)) | exact nz1 (nzD hc0 (by decide)) | exact nz1 (nzF (by decide)) | exact nz1 (nzG (by decide)) | omega), eM_3, mset_eq]), (by show M_4 4 = _; rw [if_pos (by omega), eM_4, mset_s, eM_3, mset_n (by omega)])⟩
theorem oq_X10_isPerson (M : Mem) (v1 : Int32) : Wp (f_X10_isPerson M v1) (fun q => (q = 0 ∨ q = 1) ∧ (¬ q.toInt = 0 → 0 ≤ v1.toInt ∧ v1.toInt < 8) ∧ (¬ q.toInt = 0 ↔ TpR M v1)) := by
  refine wp_bind2 (o2_X10_in M v1 (nI 0) (nI 7)) (fun r_1 he4 hq4 => ?_)
  obtain ⟨hz_r_1, hr_4, hi_4⟩ := hq4
  replace hr_4 : ¬ r_1.toInt = 0 → (nI 0).toInt ≤ v1.toInt ∧ v1.toInt ≤ (nI 7).toInt := hr_4
  have := t_lit 0
  have := t_lit 7
  replace hi_4 : ¬ r_1.toInt = 0 ↔ (nI 0).toInt ≤ v1.toInt ∧ v1.toInt ≤ (nI 7).toInt := hi_4
  have := t_lit 0
  have := t_lit 7
  refine wp_ite (fun c7 => ?_) (fun c7 => ?_)
  · exact wp_some ⟨b01_0, (by show ¬ (nI 0).toInt = 0 → 0 ≤ v1.toInt ∧ v1.toInt < 8; have f0 := t_lit 0; omega), ⟨fun z => absurd nI0 z, fun z => (by have z1 := z.1; have z2 := z.2; omega)⟩⟩
  · refine wp_bind2 (o3_X10_has M (M 0 4) v1) (fun r_2 he15 hq15 => ?_)
    obtain ⟨hz_r_2, hi_15⟩ := hq15
    replace hi_15 : ¬ r_2.toInt = 0 ↔ ((shr (M 0 4) v1) &&& (nI 1)).toInt = 1 := hi_15
    refine wp_ite (fun c18 => ?_) (fun c18 => ?_)
    · exact wp_some ⟨b01_0, (by show ¬ (nI 0).toInt = 0 → 0 ≤ v1.toInt ∧ v1.toInt < 8; have f0 := t_lit 0; omega), ⟨fun z => absurd nI0 z, fun z => (by have z1 := z.1; have z2 := z.2; omega)⟩⟩
    · exact wp_some ⟨b01_1, (by show ¬ (nI 1).toInt = 0 → 0 ≤ v1.toInt ∧ v1.toInt < 8; have f0 := t_lit 1; omega), ⟨fun _ => ⟨by omega, by omega⟩, fun _ => by decide⟩⟩
