/-! what a ford keeps to; nights -/
def GdF (G : Mem) : Prop := (TdB G ∧ UdB G ∧ Uq G) ∧ ((0 ≤ (G 0 6).toInt ∧ (G 0 6).toInt ≤ 65535) ∧ (0 ≤ (G 0 5).toInt ∧ (G 0 5).toInt ≤ 9999)) ∧ ∀ i, i < 40 → tld G i → (0 ≤ (G 1 i).toInt ∧ (G 1 i).toInt ≤ 39) ∧ (1 ≤ (G 2 i).toInt ∧ (G 2 i).toInt ≤ 20) ∧ (0 ≤ (G 3 i).toInt ∧ (G 3 i).toInt ≤ 9)
theorem and16 {x : Int32} (h : 0 ≤ x.toInt) : rm x (nI 65536) = x &&& nI 65535 := t_of (by
  have r := t_rng x
  have f := t_ixn x h
  have hl := Nat.mod_lt (ix x) (show 0 < 2 ^ 16 by decide)
  have e : x.toBitVec.toNat = ix x := by
    have q := pk_tn (n := ix x) (by omega)
    rw [nI_ixx h] at q
    exact q
  rw [t_rmn x 65536 h (by omega), pk_and x (m := nI 65535) 16 (by decide +kernel), e, t_lit _ (by omega)]
  omega)
theorem drw_rm {d : Int32} (h : 0 ≤ d.toInt ∧ d.toInt ≤ 65535) : rm ((nI 25173 * d) + nI 13849) (nI 65536) = drw d := by
  have h2 := t_lit 25173
  have hm : (nI 25173 * d).toInt = 25173 * d.toInt := by
    rw [t_mul (by rw [h2]; omega), h2]
    rfl
  have f := t_add (nI 25173 * d) (nI 13849)
  have f3 := t_lit 13849
  exact and16 (by omega)
theorem drw_b (d : Int32) : 0 ≤ (drw d).toInt ∧ (drw d).toInt ≤ 65535 := by
  obtain ⟨j, hj, e⟩ := pk_andE ((nI 25173 * d) + nI 13849) (m := nI 65535) 16 (by decide +kernel)
  unfold drw
  rw [e, t_lit j (by omega)]
  omega
theorem clr_lt {a i : Nat} (h : i < 40) (ha : 1 ≤ a ∧ a ≤ 5) : clR a + i < 200 := by
  rcases (show a = 1 ∨ a = 2 ∨ a = 3 ∨ a = 4 ∨ a = 5 by omega) with e | e | e | e | e <;> rw [e] <;> simp only [clR] <;> simp <;> omega
theorem fdr_draw {f : Nat → Int32} {v : Int32} : mskF (rwR (upd f 201 v)) = mset (mskF (rwR f)) 0 6 v := by
  rw [← mk_set0 (Or.inr rfl)]
  refine mk_ext ⟨?_, ?_⟩ (fun a i h1 h2 h3 => ?_)
  · show upd f 201 v 200 = mset (rwR f) 0 6 v 0 5
    rw [upd_o (by omega), mset_ne (by first | exact nz1 (by decide) | exact nz2 (by decide) | exact nz1 (nzA hc0 (by decide)) | exact nz1 (nzE (by decide)) | exact nz1 (nzB hc0 (by decide)) | exact nz1 (nzC hc0 (by decide)) | exact nz1 (nzD hc0 (by decide)) | exact nz1 (nzF (by decide)) | exact nz1 (nzG (by decide)) | omega)]
    rfl
  · show upd f 201 v 201 = mset (rwR f) 0 6 v 0 6
    rw [upd_e, mset_eq]
  · have z := clr_lt (a := a) h3 ⟨h1, h2⟩
    rw [mset_ne (by first | exact nz1 (by decide) | exact nz2 (by decide) | exact nz1 (nzA hc0 (by decide)) | exact nz1 (nzE (by decide)) | exact nz1 (nzB hc0 (by decide)) | exact nz1 (nzC hc0 (by decide)) | exact nz1 (nzD hc0 (by decide)) | exact nz1 (nzF (by decide)) | exact nz1 (nzG (by decide)) | omega)]
    unfold rwR
    rw [if_neg (by omega), if_pos ⟨h3, h2⟩, if_neg (by omega), if_pos ⟨h3, h2⟩, upd_o (by omega)]
theorem fdr_nite {f : Nat → Int32} {v : Int32} : mskF (rwR (upd f 200 v)) = mset (mskF (rwR f)) 0 5 v := by
  rw [← mk_set0 (Or.inl rfl)]
  refine mk_ext ⟨?_, ?_⟩ (fun a i h1 h2 h3 => ?_)
  · show upd f 200 v 200 = mset (rwR f) 0 5 v 0 5
    rw [upd_e, mset_eq]
  · show upd f 200 v 201 = mset (rwR f) 0 5 v 0 6
    rw [upd_o (by omega), mset_ne (by first | exact nz1 (by decide) | exact nz2 (by decide) | exact nz1 (nzA hc0 (by decide)) | exact nz1 (nzE (by decide)) | exact nz1 (nzB hc0 (by decide)) | exact nz1 (nzC hc0 (by decide)) | exact nz1 (nzD hc0 (by decide)) | exact nz1 (nzF (by decide)) | exact nz1 (nzG (by decide)) | omega)]
    rfl
  · have z := clr_lt (a := a) h3 ⟨h1, h2⟩
    rw [mset_ne (by first | exact nz1 (by decide) | exact nz2 (by decide) | exact nz1 (nzA hc0 (by decide)) | exact nz1 (nzE (by decide)) | exact nz1 (nzB hc0 (by decide)) | exact nz1 (nzC hc0 (by decide)) | exact nz1 (nzD hc0 (by decide)) | exact nz1 (nzF (by decide)) | exact nz1 (nzG (by decide)) | omega)]
    unfold rwR
    rw [if_neg (by omega), if_pos ⟨h3, h2⟩, if_neg (by omega), if_pos ⟨h3, h2⟩, upd_o (by omega)]
theorem fdr_set {M N : Mem} {a i : Nat} {x : Int32} (h : i < 40) (ha : 1 ≤ a ∧ a ≤ 5) (h4 : ¬ a = 4) (ht : tld (FdR M 1) i) (e : N 1 = upd (M 1) (clR a + i) x) : FdR N 1 = mset (FdR M 1) a i x := by
  unfold FdR at ht ⊢
  rw [e, rwR_set h ha, mk_set h ha h4 ht]
theorem fdr_same {M N : Mem} (h : ∀ j, j < 202 → N 1 j = M 1 j) : FdR N 1 = FdR M 1 := fdr_fr h
theorem mv_1 {G : Mem} {i : Nat} {x y : Int32} (hU : Uq G) (hi : i < 40) (ht : tld G i) (h : (stA G x.toInt y.toInt 40 0).toInt = -1) : hwF G i x y = 1 := by
  refine hw_1 (fun z => ?_) h
  have q := (hw_own (x := x) (y := y) hU hi ht).mp (hw_0 z)
  omega
theorem mv_2 {G : Mem} {i : Nat} {x y : Int32} (hU : Uq G) (hi : i < 40) (ht : tld G i) (h : ¬ (stA G x.toInt y.toInt 40 0).toInt = -1) (h2 : ¬ (stA G x.toInt y.toInt 40 0).toInt = (i : Int)) : hwF G i x y = 2 := hw_2 (fun z => h2 ((hw_own hU hi ht).mp (hw_0 z))) h
theorem bd_gx {G : Mem} {i : Nat} {r w v : Int32} (h : r.toInt = max (nI 0).toInt (min (nI 39).toInt w.toInt)) (e : w = G 1 i + v) : r = gx G i v := t_of (by
  unfold gx
  rw [t_mx, t_mn, h, e])
theorem bd_gy {G : Mem} {i : Nat} {r w v : Int32} (h : r.toInt = max (nI 1).toInt (min (nI 20).toInt w.toInt)) (e : w = G 2 i + v) : r = gy G i v := t_of (by
  unfold gy
  rw [t_mx, t_mn, h, e])
theorem asub {a b c d : Int32} (h : a = d) : a + b - c = d + (b - c) := by rw [h, Int32.sub_eq_add_neg, Int32.sub_eq_add_neg, Int32.add_assoc]
theorem gx_b (G : Mem) (i : Nat) (v : Int32) : 0 ≤ (gx G i v).toInt ∧ (gx G i v).toInt ≤ 39 := by
  unfold gx
  have f1 := t_lit 0
  have f2 := t_lit 39
  rw [t_mx, t_mn]
  omega
theorem gy_b (G : Mem) (i : Nat) (v : Int32) : 1 ≤ (gy G i v).toInt ∧ (gy G i v).toInt ≤ 20 := by
  unfold gy
  have f1 := t_lit 1
  have f2 := t_lit 20
  rw [t_mx, t_mn]
  omega
theorem gd_row {G H : Mem} (h : GdF G) (e : ∀ a i, 1 ≤ a → a ≤ 5 → i < 40 → H a i = G a i) (h0 : (0 ≤ (H 0 6).toInt ∧ (H 0 6).toInt ≤ 65535) ∧ (0 ≤ (H 0 5).toInt ∧ (H 0 5).toInt ≤ 9999)) : GdF H := by
  obtain ⟨⟨h1, h2, h3⟩, h4, h5⟩ := h
  have et : ∀ i, i < 40 → (tld H i ↔ tld G i) := fun i hi => by
    unfold tld
    rw [e 4 i (by omega) (by omega) hi]
  refine ⟨⟨fun i hi => by rw [e 4 i (by omega) (by omega) hi]; exact h1 i hi, fun i hi => by rw [e 5 i (by omega) (by omega) hi]; exact h2 i hi, fun i j hi hj ti tj q1 q2 => ?_⟩, h0, fun i hi ti => ?_⟩
  · rw [e 1 i (by omega) (by omega) hi, e 1 j (by omega) (by omega) hj] at q1
    rw [e 2 i (by omega) (by omega) hi, e 2 j (by omega) (by omega) hj] at q2
    exact h3 i j hi hj ((et i hi).mp ti) ((et j hj).mp tj) q1 q2
  · rw [e 1 i (by omega) (by omega) hi, e 2 i (by omega) (by omega) hi, e 3 i (by omega) (by omega) hi]
    exact h5 i hi ((et i hi).mp ti)
theorem gd_1 {G : Mem} (h : GdF G) : GdF (tn1 G) := gd_row h (fun a i h1 h2 h3 => tn1_row (by omega)) (by
  have z := drw_b (G 0 6)
  have e6 : tn1 G 0 6 = drw (G 0 6) := mset_eq
  have e5 : tn1 G 0 5 = G 0 5 := mset_ne (by first | exact nz1 (by decide) | exact nz2 (by decide) | exact nz1 (nzA hc0 (by decide)) | exact nz1 (nzE (by decide)) | exact nz1 (nzB hc0 (by decide)) | exact nz1 (nzC hc0 (by decide)) | exact nz1 (nzD hc0 (by decide)) | exact nz1 (nzF (by decide)) | exact nz1 (nzG (by decide)) | omega)
  rw [e6, e5]
  exact ⟨z, h.2.1.2⟩)
theorem gd_mv {G : Mem} {i : Nat} {x y : Int32} (h : GdF G) (hi : i < 40) (hx : 0 ≤ x.toInt ∧ x.toInt ≤ 39) (hy : 1 ≤ y.toInt ∧ y.toInt ≤ 20) (hs : (stA G x.toInt y.toInt 40 0).toInt = -1) : GdF (mset (mset G 1 i x) 2 i y) := by
  obtain ⟨⟨h1, h2, h3⟩, h4, h5⟩ := h
  have hn : ∀ k, k < 40 → ¬ (tld G k ∧ (G 1 k).toInt = x.toInt ∧ (G 2 k).toInt = y.toInt) := by
    rcases stA_is (F := G) (x := x.toInt) (y := y.toInt) 40 0 rfl with z | ⟨k, k1, k2, k3, k4⟩
    · exact fun k hk => z.2 k (Nat.zero_le _) hk
    · rw [k3, t_lit k (by omega)] at hs
      omega
  have r4 : ∀ j, mset (mset G 1 i x) 2 i y 4 j = G 4 j := fun j => by rw [mset_ne (by first | exact nz1 (by decide) | exact nz2 (by decide) | exact nz1 (nzA hc0 (by decide)) | exact nz1 (nzE (by decide)) | exact nz1 (nzB hc0 (by decide)) | exact nz1 (nzC hc0 (by decide)) | exact nz1 (nzD hc0 (by decide)) | exact nz1 (nzF (by decide)) | exact nz1 (nzG (by decide)) | omega), mset_ne (by first | exact nz1 (by decide) | exact nz2 (by decide) | exact nz1 (nzA hc0 (by decide)) | exact nz1 (nzE (by decide)) | exact nz1 (nzB hc0 (by decide)) | exact nz1 (nzC hc0 (by decide)) | exact nz1 (nzD hc0 (by decide)) | exact nz1 (nzF (by decide)) | exact nz1 (nzG (by decide)) | omega)]
  have r5 : ∀ j, mset (mset G 1 i x) 2 i y 5 j = G 5 j := fun j => by rw [mset_ne (by first | exact nz1 (by decide) | exact nz2 (by decide) | exact nz1 (nzA hc0 (by decide)) | exact nz1 (nzE (by decide)) | exact nz1 (nzB hc0 (by decide)) | exact nz1 (nzC hc0 (by decide)) | exact nz1 (nzD hc0 (by decide)) | exact nz1 (nzF (by decide)) | exact nz1 (nzG (by decide)) | omega), mset_ne (by first | exact nz1 (by decide) | exact nz2 (by decide) | exact nz1 (nzA hc0 (by decide)) | exact nz1 (nzE (by decide)) | exact nz1 (nzB hc0 (by decide)) | exact nz1 (nzC hc0 (by decide)) | exact nz1 (nzD hc0 (by decide)) | exact nz1 (nzF (by decide)) | exact nz1 (nzG (by decide)) | omega)]
  have r3 : ∀ j, mset (mset G 1 i x) 2 i y 3 j = G 3 j := fun j => by rw [mset_ne (by first | exact nz1 (by decide) | exact nz2 (by decide) | exact nz1 (nzA hc0 (by decide)) | exact nz1 (nzE (by decide)) | exact nz1 (nzB hc0 (by decide)) | exact nz1 (nzC hc0 (by decide)) | exact nz1 (nzD hc0 (by decide)) | exact nz1 (nzF (by decide)) | exact nz1 (nzG (by decide)) | omega), mset_ne (by first | exact nz1 (by decide) | exact nz2 (by decide) | exact nz1 (nzA hc0 (by decide)) | exact nz1 (nzE (by decide)) | exact nz1 (nzB hc0 (by decide)) | exact nz1 (nzC hc0 (by decide)) | exact nz1 (nzD hc0 (by decide)) | exact nz1 (nzF (by decide)) | exact nz1 (nzG (by decide)) | omega)]
  have r0 : ∀ j, mset (mset G 1 i x) 2 i y 0 j = G 0 j := fun j => by rw [mset_ne (by first | exact nz1 (by decide) | exact nz2 (by decide) | exact nz1 (nzA hc0 (by decide)) | exact nz1 (nzE (by decide)) | exact nz1 (nzB hc0 (by decide)) | exact nz1 (nzC hc0 (by decide)) | exact nz1 (nzD hc0 (by decide)) | exact nz1 (nzF (by decide)) | exact nz1 (nzG (by decide)) | omega), mset_ne (by first | exact nz1 (by decide) | exact nz2 (by decide) | exact nz1 (nzA hc0 (by decide)) | exact nz1 (nzE (by decide)) | exact nz1 (nzB hc0 (by decide)) | exact nz1 (nzC hc0 (by decide)) | exact nz1 (nzD hc0 (by decide)) | exact nz1 (nzF (by decide)) | exact nz1 (nzG (by decide)) | omega)]
  have r1 : ∀ j, ¬ j = i → mset (mset G 1 i x) 2 i y 1 j = G 1 j := fun j hj => by rw [mset_ne (by first | exact nz1 (by decide) | exact nz2 (by decide) | exact nz1 (nzA hc0 (by decide)) | exact nz1 (nzE (by decide)) | exact nz1 (nzB hc0 (by decide)) | exact nz1 (nzC hc0 (by decide)) | exact nz1 (nzD hc0 (by decide)) | exact nz1 (nzF (by decide)) | exact nz1 (nzG (by decide)) | omega), mset_ne (by first | exact nz1 (by decide) | exact nz2 (by decide) | exact nz1 (nzA hc0 (by decide)) | exact nz1 (nzE (by decide)) | exact nz1 (nzB hc0 (by decide)) | exact nz1 (nzC hc0 (by decide)) | exact nz1 (nzD hc0 (by decide)) | exact nz1 (nzF (by decide)) | exact nz1 (nzG (by decide)) | omega)]
  have r2 : ∀ j, ¬ j = i → mset (mset G 1 i x) 2 i y 2 j = G 2 j := fun j hj => by rw [mset_ne (by first | exact nz1 (by decide) | exact nz2 (by decide) | exact nz1 (nzA hc0 (by decide)) | exact nz1 (nzE (by decide)) | exact nz1 (nzB hc0 (by decide)) | exact nz1 (nzC hc0 (by decide)) | exact nz1 (nzD hc0 (by decide)) | exact nz1 (nzF (by decide)) | exact nz1 (nzG (by decide)) | omega), mset_ne (by first | exact nz1 (by decide) | exact nz2 (by decide) | exact nz1 (nzA hc0 (by decide)) | exact nz1 (nzE (by decide)) | exact nz1 (nzB hc0 (by decide)) | exact nz1 (nzC hc0 (by decide)) | exact nz1 (nzD hc0 (by decide)) | exact nz1 (nzF (by decide)) | exact nz1 (nzG (by decide)) | omega)]
  have q1 : mset (mset G 1 i x) 2 i y 1 i = x := by rw [mset_ne (by first | exact nz1 (by decide) | exact nz2 (by decide) | exact nz1 (nzA hc0 (by decide)) | exact nz1 (nzE (by decide)) | exact nz1 (nzB hc0 (by decide)) | exact nz1 (nzC hc0 (by decide)) | exact nz1 (nzD hc0 (by decide)) | exact nz1 (nzF (by decide)) | exact nz1 (nzG (by decide)) | omega), mset_eq]
  have q2 : mset (mset G 1 i x) 2 i y 2 i = y := mset_eq
  have et : ∀ j, tld (mset (mset G 1 i x) 2 i y) j ↔ tld G j := fun j => by
    unfold tld
    rw [r4]
  refine ⟨⟨fun j hj => by rw [r4]; exact h1 j hj, fun j hj => by rw [r5]; exact h2 j hj, fun j k hj hk tj tk e1 e2 => ?_⟩, by rw [r0, r0]; exact h4, fun j hj tj => ?_⟩
  · by_cases c : j = i
    · by_cases d : k = i
      · rw [c, d]
      · rw [c, q1, r1 k d] at e1
        rw [c, q2, r2 k d] at e2
        exact absurd ⟨(et k).mp tk, e1.symm, e2.symm⟩ (hn k hk)
    · by_cases d : k = i
      · rw [d, q1, r1 j c] at e1
        rw [d, q2, r2 j c] at e2
        exact absurd ⟨(et j).mp tj, e1, e2⟩ (hn j hj)
      · rw [r1 j c, r1 k d] at e1
        rw [r2 j c, r2 k d] at e2
        exact h3 j k hj hk ((et j).mp tj) ((et k).mp tk) e1 e2
  · have z := h5 j hj ((et j).mp tj)
    rw [r3]
    by_cases c : j = i
    · rw [c, q1, q2]
      rw [c] at z
      exact ⟨hx, hy, z.2.2⟩
    · rw [r1 j c, r2 j c]
      exact z
theorem gd_sh {G : Mem} {i : Nat} {u v : Int32} (h : GdF G) (hi : i < 40) : GdF (shF G i (gx G i u) (gy G i v)) := by
  by_cases c : hwF G i (gx G i u) (gy G i v) = 1
  · rw [sh_1 c]
    refine gd_mv h hi (gx_b _ _ _) (gy_b _ _ _) ?_
    unfold hwF at c
    by_cases d : (gx G i u).toInt = (G 1 i).toInt ∧ (gy G i v).toInt = (G 2 i).toInt
    · rw [if_pos d] at c
      omega
    · rw [if_neg d] at c
      by_cases e : (stA G (gx G i u).toInt (gy G i v).toInt 40 0).toInt = -1
      · exact e
      · rw [if_neg e] at c
        omega
  · rw [sh_n c]
    exact h
theorem gd_5 {G : Mem} {i : Nat} {x : Int32} (h : GdF G) (hx : x = 0 ∨ x = 1) : GdF (mset G 5 i x) := by
  obtain ⟨⟨h1, h2, h3⟩, h4, h5⟩ := h
  have et : ∀ j, tld (mset G 5 i x) j ↔ tld G j := fun j => by
    unfold tld
    rw [mset_ne (by first | exact nz1 (by decide) | exact nz2 (by decide) | exact nz1 (nzA hc0 (by decide)) | exact nz1 (nzE (by decide)) | exact nz1 (nzB hc0 (by decide)) | exact nz1 (nzC hc0 (by decide)) | exact nz1 (nzD hc0 (by decide)) | exact nz1 (nzF (by decide)) | exact nz1 (nzG (by decide)) | omega)]
  refine ⟨⟨fun j hj => by rw [mset_ne (by first | exact nz1 (by decide) | exact nz2 (by decide) | exact nz1 (nzA hc0 (by decide)) | exact nz1 (nzE (by decide)) | exact nz1 (nzB hc0 (by decide)) | exact nz1 (nzC hc0 (by decide)) | exact nz1 (nzD hc0 (by decide)) | exact nz1 (nzF (by decide)) | exact nz1 (nzG (by decide)) | omega)]; exact h1 j hj, fun j hj => ?_, fun j k hj hk tj tk e1 e2 => ?_⟩, by rw [mset_ne (by first | exact nz1 (by decide) | exact nz2 (by decide) | exact nz1 (nzA hc0 (by decide)) | exact nz1 (nzE (by decide)) | exact nz1 (nzB hc0 (by decide)) | exact nz1 (nzC hc0 (by decide)) | exact nz1 (nzD hc0 (by decide)) | exact nz1 (nzF (by decide)) | exact nz1 (nzG (by decide)) | omega), mset_ne (by first | exact nz1 (by decide) | exact nz2 (by decide) | exact nz1 (nzA hc0 (by decide)) | exact nz1 (nzE (by decide)) | exact nz1 (nzB hc0 (by decide)) | exact nz1 (nzC hc0 (by decide)) | exact nz1 (nzD hc0 (by decide)) | exact nz1 (nzF (by decide)) | exact nz1 (nzG (by decide)) | omega)]; exact h4, fun j hj tj => ?_⟩
  · by_cases c : j = i
    · rw [c, mset_eq]
      exact b01_to hx
    · rw [mset_ne (by first | exact nz1 (by decide) | exact nz2 (by decide) | exact nz1 (nzA hc0 (by decide)) | exact nz1 (nzE (by decide)) | exact nz1 (nzB hc0 (by decide)) | exact nz1 (nzC hc0 (by decide)) | exact nz1 (nzD hc0 (by decide)) | exact nz1 (nzF (by decide)) | exact nz1 (nzG (by decide)) | omega)]
      exact h2 j hj
  · rw [mset_ne (by first | exact nz1 (by decide) | exact nz2 (by decide) | exact nz1 (nzA hc0 (by decide)) | exact nz1 (nzE (by decide)) | exact nz1 (nzB hc0 (by decide)) | exact nz1 (nzC hc0 (by decide)) | exact nz1 (nzD hc0 (by decide)) | exact nz1 (nzF (by decide)) | exact nz1 (nzG (by decide)) | omega), mset_ne (by first | exact nz1 (by decide) | exact nz2 (by decide) | exact nz1 (nzA hc0 (by decide)) | exact nz1 (nzE (by decide)) | exact nz1 (nzB hc0 (by decide)) | exact nz1 (nzC hc0 (by decide)) | exact nz1 (nzD hc0 (by decide)) | exact nz1 (nzF (by decide)) | exact nz1 (nzG (by decide)) | omega)] at e1
    rw [mset_ne (by first | exact nz1 (by decide) | exact nz2 (by decide) | exact nz1 (nzA hc0 (by decide)) | exact nz1 (nzE (by decide)) | exact nz1 (nzB hc0 (by decide)) | exact nz1 (nzC hc0 (by decide)) | exact nz1 (nzD hc0 (by decide)) | exact nz1 (nzF (by decide)) | exact nz1 (nzG (by decide)) | omega), mset_ne (by first | exact nz1 (by decide) | exact nz2 (by decide) | exact nz1 (nzA hc0 (by decide)) | exact nz1 (nzE (by decide)) | exact nz1 (nzB hc0 (by decide)) | exact nz1 (nzC hc0 (by decide)) | exact nz1 (nzD hc0 (by decide)) | exact nz1 (nzF (by decide)) | exact nz1 (nzG (by decide)) | omega)] at e2
    exact h3 j k hj hk ((et j).mp tj) ((et k).mp tk) e1 e2
  · rw [mset_ne (by first | exact nz1 (by decide) | exact nz2 (by decide) | exact nz1 (nzA hc0 (by decide)) | exact nz1 (nzE (by decide)) | exact nz1 (nzB hc0 (by decide)) | exact nz1 (nzC hc0 (by decide)) | exact nz1 (nzD hc0 (by decide)) | exact nz1 (nzF (by decide)) | exact nz1 (nzG (by decide)) | omega), mset_ne (by first | exact nz1 (by decide) | exact nz2 (by decide) | exact nz1 (nzA hc0 (by decide)) | exact nz1 (nzE (by decide)) | exact nz1 (nzB hc0 (by decide)) | exact nz1 (nzC hc0 (by decide)) | exact nz1 (nzD hc0 (by decide)) | exact nz1 (nzF (by decide)) | exact nz1 (nzG (by decide)) | omega), mset_ne (by first | exact nz1 (by decide) | exact nz2 (by decide) | exact nz1 (nzA hc0 (by decide)) | exact nz1 (nzE (by decide)) | exact nz1 (nzB hc0 (by decide)) | exact nz1 (nzC hc0 (by decide)) | exact nz1 (nzD hc0 (by decide)) | exact nz1 (nzF (by decide)) | exact nz1 (nzG (by decide)) | omega)]
    exact h5 j hj ((et j).mp tj)
theorem gd_tn {R : Nat} {F : Nat → Int × Int} {tb : Tbl} {G : Mem} {i : Nat} (h : GdF G) (hi : i < 40) : GdF (tnG R F tb G i) := gd_5 (gd_sh (gd_1 h) hi) (snk_b _ _)
/-- a ford and two counts: how many moved, how many stayed -/
def stp (R : Nat) (F : Nat → Int × Int) (tb : Tbl) (s : Mem × Int32 × Int32) (i : Nat) : Mem × Int32 × Int32 := if (s.1 4 i).toInt = 0 then s else (tnG R F tb s.1 i, (if tnH R F tb s.1 i = 1 then s.2.1 + nI 1 else s.2.1), (if tnH R F tb s.1 i = 2 then s.2.2 + nI 1 else s.2.2))
def nlp (R : Nat) (F : Nat → Int × Int) (tb : Tbl) : Nat → Nat → Mem × Int32 × Int32 → Mem × Int32 × Int32
  | 0, _, s => s
  | n + 1, j, s => nlp R F tb n (j + 1) (stp R F tb s j)
def nit (R : Nat) (F : Nat → Int × Int) (tb : Tbl) (s : Mem × Int32 × Int32) : Mem × Int32 × Int32 := (mset (nlp R F tb 40 0 s).1 0 5 ((nlp R F tb 40 0 s).1 0 5 + nI 1), (nlp R F tb 40 0 s).2)
def ngs (R : Nat) (F : Nat → Int × Int) (tb : Tbl) : Nat → Mem × Int32 × Int32 → Mem × Int32 × Int32
  | 0, s => s
  | n + 1, s => if 9999 ≤ (s.1 0 5).toInt then s else ngs R F tb n (nit R F tb s)
theorem stp_n {R : Nat} {F : Nat → Int × Int} {tb : Tbl} {s : Mem × Int32 × Int32} {i : Nat} (h : (s.1 4 i).toInt = 0) : stp R F tb s i = s := if_pos h
theorem stp_y {R : Nat} {F : Nat → Int × Int} {tb : Tbl} {G : Mem} {x y : Int32} {i : Nat} (h : ¬ (G 4 i).toInt = 0) : stp R F tb (G, x, y) i = (tnG R F tb G i, (if tnH R F tb G i = 1 then x + nI 1 else x), (if tnH R F tb G i = 2 then y + nI 1 else y)) := if_neg h
theorem nlp_1 {R : Nat} {F : Nat → Int × Int} {tb : Tbl} {j : Nat} {s : Mem × Int32 × Int32} (h : j < 40) : nlp R F tb (40 - j) j s = nlp R F tb (40 - (j + 1)) (j + 1) (stp R F tb s j) := by
  rw [show 40 - j = (40 - (j + 1)) + 1 from by omega]
  rfl
theorem nlp_0 {R : Nat} {F : Nat → Int × Int} {tb : Tbl} {n j : Nat} {s : Mem × Int32 × Int32} (h : n = 0) : nlp R F tb n j s = s := by
  rw [h]
  rfl
theorem gd_stp {R : Nat} {F : Nat → Int × Int} {tb : Tbl} {s : Mem × Int32 × Int32} {i : Nat} (h : GdF s.1) (hi : i < 40) : GdF (stp R F tb s i).1 := by
  unfold stp
  by_cases c : (s.1 4 i).toInt = 0
  · rw [if_pos c]
    exact h
  · rw [if_neg c]
    exact gd_tn h hi
theorem gd_nlp {R : Nat} {F : Nat → Int × Int} {tb : Tbl} : ∀ (n j : Nat) (s : Mem × Int32 × Int32), n + j ≤ 40 → GdF s.1 → GdF (nlp R F tb n j s).1
  | 0, _, _, _, h => h
  | n + 1, j, s, hn, h => gd_nlp n (j + 1) (stp R F tb s j) (by omega) (gd_stp h (by omega))
theorem gd_nt {G : Mem} (h : GdF G) (hl : ¬ 9999 ≤ (G 0 5).toInt) : GdF (mset G 0 5 (G 0 5 + nI 1)) := gd_row h (fun a i h1 h2 h3 => mset_ne (by first | exact nz1 (by decide) | exact nz2 (by decide) | exact nz1 (nzA hc0 (by decide)) | exact nz1 (nzE (by decide)) | exact nz1 (nzB hc0 (by decide)) | exact nz1 (nzC hc0 (by decide)) | exact nz1 (nzD hc0 (by decide)) | exact nz1 (nzF (by decide)) | exact nz1 (nzG (by decide)) | omega)) (by
  rw [mset_ne (by first | exact nz1 (by decide) | exact nz2 (by decide) | exact nz1 (nzA hc0 (by decide)) | exact nz1 (nzE (by decide)) | exact nz1 (nzB hc0 (by decide)) | exact nz1 (nzC hc0 (by decide)) | exact nz1 (nzD hc0 (by decide)) | exact nz1 (nzF (by decide)) | exact nz1 (nzG (by decide)) | omega), mset_eq]
  have f := t_inc (G 0 5) 1 (by have := h.2.1.2; omega)
  have z := h.2.1.2
  exact ⟨h.2.1.1, by omega⟩)
theorem tnG_0 {R : Nat} {F : Nat → Int × Int} {tb : Tbl} {G : Mem} {i : Nat} : tnG R F tb G i 0 5 = G 0 5 := by
  unfold tnG tn2
  rw [mset_ne (by first | exact nz1 (by decide) | exact nz2 (by decide) | exact nz1 (nzA hc0 (by decide)) | exact nz1 (nzE (by decide)) | exact nz1 (nzB hc0 (by decide)) | exact nz1 (nzC hc0 (by decide)) | exact nz1 (nzD hc0 (by decide)) | exact nz1 (nzF (by decide)) | exact nz1 (nzG (by decide)) | omega), sh_row (by omega)]
  exact mset_ne (by first | exact nz1 (by decide) | exact nz2 (by decide) | exact nz1 (nzA hc0 (by decide)) | exact nz1 (nzE (by decide)) | exact nz1 (nzB hc0 (by decide)) | exact nz1 (nzC hc0 (by decide)) | exact nz1 (nzD hc0 (by decide)) | exact nz1 (nzF (by decide)) | exact nz1 (nzG (by decide)) | omega)
theorem nlp_5 {R : Nat} {F : Nat → Int × Int} {tb : Tbl} : ∀ (n j : Nat) (s : Mem × Int32 × Int32), (nlp R F tb n j s).1 0 5 = s.1 0 5
  | 0, _, _ => rfl
  | n + 1, j, s => by
    have e : (stp R F tb s j).1 0 5 = s.1 0 5 := by
      unfold stp
      by_cases c : (s.1 4 j).toInt = 0
      · rw [if_pos c]
      · rw [if_neg c]
        exact tnG_0
    exact (nlp_5 n (j + 1) (stp R F tb s j)).trans e
theorem gd_nit {R : Nat} {F : Nat → Int × Int} {tb : Tbl} {s : Mem × Int32 × Int32} (h : GdF s.1) (hl : ¬ 9999 ≤ (s.1 0 5).toInt) : GdF (nit R F tb s).1 := gd_nt (gd_nlp 40 0 s (by omega) h) (by rw [nlp_5]; exact hl)
theorem gd_ngs {R : Nat} {F : Nat → Int × Int} {tb : Tbl} : ∀ (n : Nat) (s : Mem × Int32 × Int32), GdF s.1 → GdF (ngs R F tb n s).1
  | 0, _, h => h
  | n + 1, s, h => by
    show GdF (if 9999 ≤ (s.1 0 5).toInt then s else ngs R F tb n (nit R F tb s)).1
    by_cases c : 9999 ≤ (s.1 0 5).toInt
    · rw [if_pos c]
      exact h
    · rw [if_neg c]
      exact gd_ngs n _ (gd_nit h c)
theorem ngs_0 {R : Nat} {F : Nat → Int × Int} {tb : Tbl} {v y : Int32} {s : Mem × Int32 × Int32} (h : v.toInt ≤ y.toInt) : ngs R F tb (v.toInt - y.toInt).toNat s = s := by
  rw [show (v.toInt - y.toInt).toNat = 0 from by omega]
  rfl
theorem ngs_9 {R : Nat} {F : Nat → Int × Int} {tb : Tbl} {n : Nat} {s : Mem × Int32 × Int32} (h : 9999 ≤ (s.1 0 5).toInt) : ngs R F tb n s = s := by
  cases n with
  | zero => rfl
  | succ n => exact if_pos h
theorem ngs_1 {R : Nat} {F : Nat → Int × Int} {tb : Tbl} {v y : Int32} {s : Mem × Int32 × Int32} (h : ¬ v.toInt ≤ y.toInt) (h2 : ¬ 9999 ≤ (s.1 0 5).toInt) : ngs R F tb (v.toInt - y.toInt).toNat s = ngs R F tb (v.toInt - (y + nI 1).toInt).toNat (nit R F tb s) := by
  have r := t_rng v
  have f := t_inc y 1 (by omega)
  rw [show (v.toInt - y.toInt).toNat = (v.toInt - (y + nI 1).toInt).toNat + 1 from by omega]
  exact if_neg h2
theorem nit_of {R : Nat} {F : Nat → Int × Int} {tb : Tbl} {s : Mem × Int32 × Int32} {G H : Mem} {x y : Int32} (h : nlp R F tb 40 0 s = (G, x, y)) (e : H = mset G 0 5 (G 0 5 + nI 1)) : nit R F tb s = (H, x, y) := by
  rw [e]
  exact congrArg (fun t : Mem × Int32 × Int32 => (mset t.1 0 5 (t.1 0 5 + nI 1), t.2)) h
theorem fdc_nite {M : Mem} {b : Nat} {v : Int32} : FdC (mset M b 5 v) b = mset (FdC M b) 0 5 v := by
  unfold FdC
  rw [rwC_set0, mk_set0 (Or.inl rfl)]
theorem fdr_nt {M N : Mem} (e : N 1 = upd (M 1) 200 (M 1 200 + nI 1)) : FdR N 1 = mset (FdR M 1) 0 5 (FdR M 1 0 5 + nI 1) := by
  rw [fdr_n]
  unfold FdR
  rw [e, fdr_nite]
theorem fdr_6 (M : Mem) : FdR M 1 0 6 = M 1 201 := by
  unfold FdR
  rw [mk_0 (by omega)]
  rfl
theorem st_gd {M : Mem} (h : GdF (FdR M 1)) : ST (M 1) := fun j hj hj1 => by
  have ht := (tdr_1 h.1.1 hj).mp hj1
  have z := h.2.2 j hj ht
  have e2 : FdR M 1 2 j = M 1 (80 + j) := fdr_at (a := 2) hj (by omega) ht
  have e3 : FdR M 1 3 j = M 1 (120 + j) := fdr_at (a := 3) hj (by omega) ht
  rw [e2, e3] at z
  exact ⟨z.2.1.1, z.2.1.2, z.2.2.1, z.2.2.2⟩
