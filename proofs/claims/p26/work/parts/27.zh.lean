/-! a law that rules: R rules, codes F, the rules' table -/
def hEv (F : Nat → Int × Int) (V : Nat → Int32) (q : Int × Nat × Nat × Nat) : Int32 := ev F V q.2.2.2 q.2.2.1 []
def aEv (F : Nat → Int × Int) (V : Nat → Int32) (q : Int × Nat × Nat × Nat) : Int32 := ev F V q.2.2.1 q.2.1 []
def amt (F : Nat → Int × Int) (V : Nat → Int32) (tb : Tbl) (l : Int) : Nat → Nat → Int32
  | 0, _ => nI 0
  | n + 1, r => if (tb r).1 = l ∧ ¬ (hEv F V (tb r)).toInt = 0 then mx (nI 0) (mn (nI 9) (aEv F V (tb r))) else amt F V tb l n (r + 1)
def snk (F : Nat → Int × Int) (V : Nat → Int32) (tb : Tbl) : Nat → Nat → Int32
  | 0, _ => nI 0
  | n + 1, r => if (tb r).1 = 120 ∧ ¬ (hEv F V (tb r)).toInt = 0 then nI 1 else snk F V tb n (r + 1)
theorem amt_0 {F : Nat → Int × Int} {V : Nat → Int32} {tb : Tbl} {l : Int} {n r : Nat} (h : n = 0) : amt F V tb l n r = nI 0 := by rw [h]; rfl
theorem amt_y {F : Nat → Int × Int} {V : Nat → Int32} {tb : Tbl} {l : Int} {R r : Nat} (hr : r < R) (h : (tb r).1 = l) (h2 : ¬ (hEv F V (tb r)).toInt = 0) : amt F V tb l (R - r) r = mx (nI 0) (mn (nI 9) (aEv F V (tb r))) := by
  rw [show R - r = (R - r - 1) + 1 from by omega]
  exact if_pos ⟨h, h2⟩
theorem amt_n {F : Nat → Int × Int} {V : Nat → Int32} {tb : Tbl} {l : Int} {R r : Nat} (hr : r < R) (h : ¬ ((tb r).1 = l ∧ ¬ (hEv F V (tb r)).toInt = 0)) : amt F V tb l (R - r) r = amt F V tb l (R - (r + 1)) (r + 1) := by
  rw [show R - r = (R - (r + 1)) + 1 from by omega]
  exact if_neg h
theorem snk_0 {F : Nat → Int × Int} {V : Nat → Int32} {tb : Tbl} {n r : Nat} (h : n = 0) : snk F V tb n r = nI 0 := by rw [h]; rfl
theorem snk_y {F : Nat → Int × Int} {V : Nat → Int32} {tb : Tbl} {R r : Nat} (hr : r < R) (h : (tb r).1 = 120) (h2 : ¬ (hEv F V (tb r)).toInt = 0) : snk F V tb (R - r) r = nI 1 := by
  rw [show R - r = (R - r - 1) + 1 from by omega]
  exact if_pos ⟨h, h2⟩
theorem snk_n {F : Nat → Int × Int} {V : Nat → Int32} {tb : Tbl} {R r : Nat} (hr : r < R) (h : ¬ ((tb r).1 = 120 ∧ ¬ (hEv F V (tb r)).toInt = 0)) : snk F V tb (R - r) r = snk F V tb (R - (r + 1)) (r + 1) := by
  rw [show R - r = (R - (r + 1)) + 1 from by omega]
  exact if_neg h
/-- each rule can be reckoned -/
def RlS (F : Nat → Int × Int) (q : Int × Nat × Nat × Nat) : Prop := SegG F q.2.2.1 q.2.2.2 ∧ (q.2.2.1 < q.2.2.2 ∧ isB (F (q.2.2.2 - 1)).1) ∧ (∀ k, q.2.2.1 ≤ k → k < q.2.2.2 → Wk F q.2.2.1 q.2.2.2 k False) ∧ (¬ q.1 = 120 → SegG F q.2.1 q.2.2.1 ∧ ∀ k, q.2.1 ≤ k → k < q.2.2.1 → Wk F q.2.1 q.2.2.1 k False)
def LwQ (R : Nat) (F : Nat → Int × Int) (tb : Tbl) : Prop := ∀ r, r < R → RlS F (tb r)
/-- the class's law at c -/
def LwC (M : Mem) (c R : Nat) (F : Nat → Int × Int) (tb : Tbl) : Prop := ((M c 8).toInt = (R : Int) ∧ R ≤ 16 ∧ 0 ≤ (M c 7).toInt ∧ (M c 7).toInt ≤ 240) ∧ (∀ j : Nat, (j : Int) < (M c 7).toInt → F j = (unc (M (c + 1) j).toInt, (M (c + 2) j).toInt)) ∧ ∀ r, r < R → tb r = ((M (c + 4) r).toInt, ix (M (c + 5) r), ix (M (c + 6) r), ix (M (c + 7) r)) ∧ (0 ≤ (M (c + 5) r).toInt ∧ (M (c + 5) r).toInt ≤ (M (c + 6) r).toInt ∧ (M (c + 6) r).toInt ≤ (M (c + 7) r).toInt ∧ (M (c + 7) r).toInt ≤ (M c 7).toInt)
theorem lwc_fr {M N : Mem} {c R : Nat} {F : Nat → Int × Int} {tb : Tbl} (h : LwC M c R F tb) (e : ∀ a i, (a = c ∧ i = 7) ∨ (a = c ∧ i = 8) ∨ a = c + 1 ∨ a = c + 2 ∨ a = c + 4 ∨ a = c + 5 ∨ a = c + 6 ∨ a = c + 7 → N a i = M a i) : LwC N c R F tb := by
  obtain ⟨h1, h2, h3⟩ := h
  unfold LwC
  rw [e c 8 (by omega), e c 7 (by omega)]
  refine ⟨h1, fun j hj => by rw [e (c + 1) j (by omega), e (c + 2) j (by omega)]; exact h2 j hj, fun r hr => ?_⟩
  rw [e (c + 4) r (by omega), e (c + 5) r (by omega), e (c + 6) r (by omega), e (c + 7) r (by omega)]
  exact h3 r hr
/-- the reference's -/
def LwR (M : Mem) (R : Nat) (F : Nat → Int × Int) (tb : Tbl) : Prop := ((M 0 15).toInt = (R : Int) ∧ R ≤ 16) ∧ ∃ n : Nat, n ≤ 240 ∧ (∀ j : Nat, j < n → F j = (kd (M 12 j), vl (M 12 j)) ∧ 0 ≤ (M 12 j).toInt) ∧ ∀ r, r < R → tb r = ((M 13 r).toInt, ix (M 14 r), ix (M 15 r), ix (M 16 r)) ∧ (0 ≤ (M 14 r).toInt ∧ (M 14 r).toInt ≤ (M 15 r).toInt ∧ (M 15 r).toInt ≤ (M 16 r).toInt ∧ (M 16 r).toInt ≤ (n : Int))
theorem lwr_fr {M N : Mem} {R : Nat} {F : Nat → Int × Int} {tb : Tbl} (h : LwR M R F tb) (e : ∀ a i, (a = 0 ∧ i = 15) ∨ a = 12 ∨ a = 13 ∨ a = 14 ∨ a = 15 ∨ a = 16 → N a i = M a i) : LwR N R F tb := by
  obtain ⟨h1, n, h2, h3, h4⟩ := h
  unfold LwR
  rw [e 0 15 (by omega)]
  refine ⟨h1, n, h2, fun j hj => by rw [e 12 j (by omega)]; exact h3 j hj, fun r hr => ?_⟩
  rw [e 13 r (by omega), e 14 r (by omega), e 15 r (by omega), e 16 r (by omega)]
  exact h4 r hr
def VlC (M : Mem) (c : Nat) (F : Nat → Int × Int) (V : Nat → Int32) : Prop := ∀ k : Nat, (k : Int) < (M c 7).toInt → (F k).1 = 1 → 0 ≤ (F k).2 ∧ (F k).2 < 8 → M 22 (F k).2.toNat = V (F k).2.toNat
/-- what a rule's codes are called with: class -/
theorem rc_h {M : Mem} {c R r : Nat} {F : Nat → Int × Int} {V : Nat → Int32} {tb : Tbl} (h : LwC M c R F tb) (hq : LwQ R F tb) (hV : VlC M c F V) (hr : r < R) : (0 ≤ (M (c + 6) r).toInt ∧ (M (c + 6) r).toInt ≤ (M (c + 7) r).toInt ∧ (M (c + 7) r).toInt ≤ (M c 7).toInt ∧ (M c 7).toInt ≤ 240) ∧ (∀ j : Nat, j < ix (M (c + 7) r) → F j = (unc (M (c + 1) j).toInt, (M (c + 2) j).toInt)) ∧ SegG F (ix (M (c + 6) r)) (ix (M (c + 7) r)) ∧ (∀ k : Nat, ix (M (c + 6) r) ≤ k → k < ix (M (c + 7) r) → (F k).1 = 1 → M 22 (F k).2.toNat = V (F k).2.toNat) ∧ ev F V (ix (M (c + 7) r)) (ix (M (c + 6) r)) [] = hEv F V (tb r) ∧ (tb r).1 = (M (c + 4) r).toInt := by
  obtain ⟨h1, h2, h3⟩ := h
  obtain ⟨t1, t2⟩ := h3 r hr
  have f := t_ixn (M (c + 7) r) (by omega)
  have q := (hq r hr).1
  rw [t1] at q
  refine ⟨by omega, fun j hj => h2 j (by omega), q, fun k k1 k2 k3 => hV k (by omega) k3 (sk_l (q.1 k k1 k2) k3), ?_, by rw [t1]⟩
  unfold hEv
  rw [t1]
theorem rc_a {M : Mem} {c R r : Nat} {F : Nat → Int × Int} {V : Nat → Int32} {tb : Tbl} (h : LwC M c R F tb) (hq : LwQ R F tb) (hV : VlC M c F V) (hr : r < R) (hl : ¬ (tb r).1 = 120) : (0 ≤ (M (c + 5) r).toInt ∧ (M (c + 5) r).toInt ≤ (M (c + 6) r).toInt ∧ (M (c + 6) r).toInt ≤ (M c 7).toInt ∧ (M c 7).toInt ≤ 240) ∧ (∀ j : Nat, j < ix (M (c + 6) r) → F j = (unc (M (c + 1) j).toInt, (M (c + 2) j).toInt)) ∧ SegG F (ix (M (c + 5) r)) (ix (M (c + 6) r)) ∧ (∀ k : Nat, ix (M (c + 5) r) ≤ k → k < ix (M (c + 6) r) → (F k).1 = 1 → M 22 (F k).2.toNat = V (F k).2.toNat) ∧ ev F V (ix (M (c + 6) r)) (ix (M (c + 5) r)) [] = aEv F V (tb r) := by
  obtain ⟨h1, h2, h3⟩ := h
  obtain ⟨t1, t2⟩ := h3 r hr
  have f := t_ixn (M (c + 6) r) (by omega)
  have q := ((hq r hr).2.2.2 hl).1
  rw [t1] at q
  refine ⟨by omega, fun j hj => h2 j (by omega), q, fun k k1 k2 k3 => hV k (by omega) k3 (sk_l (q.1 k k1 k2) k3), ?_⟩
  unfold aEv
  rw [t1]
theorem rr_h {M : Mem} {R r : Nat} {F : Nat → Int × Int} {V : Nat → Int32} {tb : Tbl} (h : LwR M R F tb) (hq : LwQ R F tb) (hr : r < R) : (0 ≤ (M 15 r).toInt ∧ (M 15 r).toInt ≤ (M 16 r).toInt ∧ (M 16 r).toInt ≤ 240) ∧ (∀ j : Nat, j < ix (M 16 r) → F j = (kd (M 12 j), vl (M 12 j)) ∧ 0 ≤ (M 12 j).toInt) ∧ SegG F (ix (M 15 r)) (ix (M 16 r)) ∧ (∀ k : Nat, ix (M 15 r) ≤ k → k < ix (M 16 r) → Wk F (ix (M 15 r)) (ix (M 16 r)) k False) ∧ ev F V (ix (M 16 r)) (ix (M 15 r)) [] = hEv F V (tb r) ∧ (tb r).1 = (M 13 r).toInt ∧ ix (M 15 r) < ix (M 16 r) ∧ isB (F (ix (M 16 r) - 1)).1 := by
  obtain ⟨h1, n, h2, h3, h4⟩ := h
  obtain ⟨t1, t2⟩ := h4 r hr
  have f := t_ixn (M 16 r) (by omega)
  obtain ⟨q1, q2, q3, q4⟩ := hq r hr
  rw [t1] at q1 q2 q3
  refine ⟨by omega, fun j hj => h3 j (by omega), q1, q3, ?_, by rw [t1], q2.1, q2.2⟩
  unfold hEv
  rw [t1]
theorem rr_a {M : Mem} {R r : Nat} {F : Nat → Int × Int} {V : Nat → Int32} {tb : Tbl} (h : LwR M R F tb) (hq : LwQ R F tb) (hr : r < R) (hl : ¬ (tb r).1 = 120) : (0 ≤ (M 14 r).toInt ∧ (M 14 r).toInt ≤ (M 15 r).toInt ∧ (M 15 r).toInt ≤ 240) ∧ (∀ j : Nat, j < ix (M 15 r) → F j = (kd (M 12 j), vl (M 12 j)) ∧ 0 ≤ (M 12 j).toInt) ∧ SegG F (ix (M 14 r)) (ix (M 15 r)) ∧ (∀ k : Nat, ix (M 14 r) ≤ k → k < ix (M 15 r) → Wk F (ix (M 14 r)) (ix (M 15 r)) k False) ∧ ev F V (ix (M 15 r)) (ix (M 14 r)) [] = aEv F V (tb r) := by
  obtain ⟨h1, n, h2, h3, h4⟩ := h
  obtain ⟨t1, t2⟩ := h4 r hr
  have f := t_ixn (M 15 r) (by omega)
  have q := (hq r hr).2.2.2 hl
  rw [t1] at q
  refine ⟨by omega, fun j hj => h3 j (by omega), q.1, q.2, ?_⟩
  unfold aEv
  rw [t1]
theorem mm_1 {r : Int32} (h : ¬ 0 ≤ r.toInt) : nI 0 = mx (nI 0) (mn (nI 9) r) := t_of (by
  have f1 := t_mx (nI 0) (mn (nI 9) r)
  have f2 := t_mn (nI 9) r
  have f3 := t_lit 0
  have f4 := t_lit 9
  omega)
theorem mm_2 {r : Int32} (h : 0 ≤ r.toInt) (h2 : r.toInt ≤ (nI 9).toInt) : r = mx (nI 0) (mn (nI 9) r) := t_of (by
  have f1 := t_mx (nI 0) (mn (nI 9) r)
  have f2 := t_mn (nI 9) r
  have f3 := t_lit 0
  have f4 := t_lit 9
  omega)
theorem mm_3 {r : Int32} (h2 : ¬ r.toInt ≤ (nI 9).toInt) : nI 9 = mx (nI 0) (mn (nI 9) r) := t_of (by
  have f1 := t_mx (nI 0) (mn (nI 9) r)
  have f2 := t_mn (nI 9) r
  have f3 := t_lit 0
  have f4 := t_lit 9
  omega)
theorem rlt_ix {R : Nat} {y x : Int32} (h0 : 0 ≤ y.toInt) (e : x.toInt = (R : Int)) (h : ¬ x.toInt ≤ y.toInt) : ix y < R := by
  have f := t_ixn y h0
  omega
theorem rlt_0 {R : Nat} {y x : Int32} (h0 : 0 ≤ y.toInt) (e : x.toInt = (R : Int)) (h : x.toInt ≤ y.toInt) : R - ix y = 0 := by
  have f := t_ixn y h0
  omega
theorem rlt_16 {R : Nat} {y : Int32} (h0 : 0 ≤ y.toInt) (hR : R ≤ 16) (h : 16 ≤ y.toInt) : R - ix y = 0 := by
  have f := t_ixn y h0
  omega
theorem ix_16 {y : Int32} (h0 : 0 ≤ y.toInt) (h : y.toInt ≤ 16) : ix (y + nI 1) = ix y + 1 := (i_up (x := y) (by omega)).1
theorem nz_of {x : Int} (h : x = 0 ∨ x = 1) (hz : ¬ x = 0) : x = 1 := h.resolve_left hz
theorem ix16 {R : Nat} {y x : Int32} (h0 : 0 ≤ y.toInt) (e : x.toInt = (R : Int)) (hR : R ≤ 16) (h : ¬ x.toInt ≤ y.toInt) : 0 ≤ y.toInt ∧ y.toInt < 16 := by omega
theorem nn_up {R : Nat} {y x : Int32} (h0 : 0 ≤ y.toInt) (e : x.toInt = (R : Int)) (hR : R ≤ 16) (h : ¬ x.toInt ≤ y.toInt) : 0 ≤ (y + nI 1).toInt := by
  have f := i_up (x := y) (by omega)
  omega
theorem mu_15 {R : Nat} {y x z : Int32} (h0 : 0 ≤ y.toInt) (e : x.toInt = (R : Int)) (hR : R ≤ 16) (h : ¬ x.toInt ≤ y.toInt) (e2 : x = z) : (z.toInt - (y + nI 1).toInt).toNat < (z.toInt - y.toInt).toNat := by
  have f := i_up (x := y) (by omega)
  rw [← e2]
  omega

theorem o7_X3_doesHold {c : Nat} (hc : isL c) (M : Mem) (v1 : Int32) (R : Nat) (F : Nat → Int × Int) (tb : Tbl) (V : Nat → Int32) (hL : LwC M c R F tb) (hQ : LwQ R F tb) (hV : VlC M c F V) (hr1 : 0 ≤ v1.toInt) (hr2 : ix v1 < R) : Wp (f_X3_doesHold c M v1) (fun q => (q.1 = 0 ∨ q.1 = 1) ∧ (∀ a i, ¬ (a = (c + 3)) → q.2 a i = M a i) ∧ (q.1.toInt = 0 ↔ (hEv F V (tb (ix v1))).toInt = 0)) := by
  have hc0 : c = 44 ∨ c = 52 := hc
  have rc := rc_h hL hQ hV hr2
  have f1 := t_ixn v1 hr1
  have f2 := hL.1.2.1
  refine wp_ite (fun c1 => ?_) (fun c1 => ?_)
  · exact wp_some ⟨b01_0, (fun _ _ _ => rfl), (False.elim (by omega))⟩
  · refine wp_ite (fun c7 => ?_) (fun c7 => ?_)
    · exact wp_some ⟨b01_0, (fun _ _ _ => rfl), (False.elim (by omega))⟩
    · refine wp_gd (by omega) ?_
      refine wp_gd (by omega) ?_
      refine wp_cb2 (o7_X3_reckon hc M (M (c + 6) (ix v1)) (M (c + 7) (ix v1)) F V rc.1 rc.2.1 rc.2.2.1 rc.2.2.2.1) (fun r_1 M_2 he24 hq24 => ?_)
      obtain ⟨hg_M_2, hr_24⟩ := hq24
      replace hr_24 : r_1 = ev F V (ix (M (c + 7) (ix v1))) (ix (M (c + 6) (ix v1))) [] := hr_24
      replace hg_M_2 : ∀ a i, ¬ (a = (c + 3)) → M_2 a i = M a i := by exact fun a i q0 => hg_M_2 a i (by first | decide | (rcases hc0 with h | h <;> rw [h] <;> simp; done) | (rcases hb0 with h | h | h <;> rw [h] <;> simp; done) | (simp; done) | omega)
      refine wp_ite (fun c27 => ?_) (fun c27 => ?_)
      · exact wp_some ⟨b01_0, (fun a i q0 => ((hg_M_2 a i (fun h9 => q0 (h9))).trans rfl)), ⟨fun _ => by rw [← rc.2.2.2.2.1, ← hr_24]; exact c27, fun _ => nI0⟩⟩
      · exact wp_some ⟨b01_1, (fun a i q0 => ((hg_M_2 a i (fun h9 => q0 (h9))).trans rfl)), ⟨fun z => absurd z ne1, fun z => absurd z (by rw [← rc.2.2.2.2.1, ← hr_24]; exact c27)⟩⟩
set_option maxHeartbeats 2000000 in
theorem o7_X3_amountOf {c : Nat} (hc : isL c) (M : Mem) (v1 : Int32) (R : Nat) (F : Nat → Int × Int) (tb : Tbl) (V : Nat → Int32) (hL : LwC M c R F tb) (hQ : LwQ R F tb) (hV : VlC M c F V) (h120 : ¬ v1.toInt = 120) : Wp (f_X3_amountOf c M v1) (fun q => (∀ a i, ¬ (a = (c + 3)) → q.2 a i = M a i) ∧ (q.1 = amt F V tb v1.toInt R 0)) := by
  have hc0 : c = 44 ∨ c = 52 := hc
  refine wp_lp2 (fun M2 y3_2 => (0 ≤ y3_2.toInt) ∧ (∀ a i, ¬ (a = (c + 3)) → M2 a i = M a i) ∧ (amt F V tb v1.toInt R 0 = amt F V tb v1.toInt (R - ix y3_2) (ix y3_2))) (fun M2 y3_2 => (16 - y3_2.toInt).toNat) (fun ag2 M2 y3_2 hI2 ih2 => ?_) FU M (nI 0) ⟨(by have f0 := t_lit 0; omega), (fun _ _ _ => rfl), (by rw [show ix (nI 0) = 0 from (by decide)]; rfl)⟩ (fu_lt (by have f0 := t_lit 0; omega))
  obtain ⟨hi2, hf_M2, hA2⟩ := hI2
  have hL2 : LwC M2 c R F tb := lwc_fr hL (fun a i q => hf_M2 a i (by first | decide | (rcases hc0 with h | h <;> rw [h] <;> simp; done) | (rcases hb0 with h | h | h <;> rw [h] <;> simp; done) | (simp; done) | omega))
  have hV2 : VlC M2 c F V := fun k k1 k2 k3 => by
    rw [hf_M2 c 7 (by first | decide | (rcases hc0 with h | h <;> rw [h] <;> simp; done) | (rcases hb0 with h | h | h <;> rw [h] <;> simp; done) | (simp; done) | omega)] at k1
    rw [hf_M2 22 _ (by first | decide | (rcases hc0 with h | h <;> rw [h] <;> simp; done) | (rcases hb0 with h | h | h <;> rw [h] <;> simp; done) | (simp; done) | omega)]
    exact hV k k1 k2 k3
  have e28 := hL2.1.1
  have hR16 := hL2.1.2.1
  refine wp_ite (fun c7 => ?_) (fun c7 => ?_)
  · exact wp_some ⟨(fun a i q0 => ((hf_M2 a i (fun h9 => q0 (h9))).trans rfl)), (by show nI 0 = amt F V tb v1.toInt R 0; rw [hA2]; exact (amt_0 (rlt_0 hi2 e28 c7)).symm)⟩
  · refine wp_ite (fun c13 => ?_) (fun c13 => ?_)
    · exact wp_some ⟨(fun a i q0 => ((hf_M2 a i (fun h9 => q0 (h9))).trans rfl)), (by show nI 0 = amt F V tb v1.toInt R 0; rw [hA2]; exact (amt_0 (rlt_16 hi2 hR16 c13)).symm)⟩
    · have rlt := rlt_ix hi2 e28 c7
      have rc := rc_h hL2 hQ hV2 rlt
      have i3 := ix_16 hi2 (by omega)
      refine wp_gd (by have f0 := congrArg Int32.toInt (hf_M2 c 8 (by first | decide | (rcases hc0 with h | h <;> rw [h] <;> simp; done) | (rcases hb0 with h | h | h <;> rw [h] <;> simp; done) | (simp; done) | omega)); omega) ?_
      refine wp_ite (fun c23 => ?_) (fun c23 => ?_)
      · refine wp_cb2 (o7_X3_doesHold hc M2 y3_2 R F tb V hL2 hQ hV2 hi2 rlt) (fun r_1 M_2 he29 hq29 => ?_)
        obtain ⟨hz_r_1, hg_M_2, hr_29⟩ := hq29
        replace hr_29 : r_1.toInt = 0 ↔ (hEv F V (tb (ix y3_2))).toInt = 0 := hr_29
        replace hg_M_2 : ∀ a i, ¬ (a = (c + 3)) → M_2 a i = M2 a i := by exact fun a i q0 => hg_M_2 a i (by first | decide | (rcases hc0 with h | h <;> rw [h] <;> simp; done) | (rcases hb0 with h | h | h <;> rw [h] <;> simp; done) | (simp; done) | omega)
        have hLb : LwC M_2 c R F tb := lwc_fr hL2 (fun a i q => hg_M_2 a i (by first | decide | (rcases hc0 with h | h <;> rw [h] <;> simp; done) | (rcases hb0 with h | h | h <;> rw [h] <;> simp; done) | (simp; done) | omega))
        have hVb : VlC M_2 c F V := fun k k1 k2 k3 => by
          rw [hg_M_2 c 7 (by first | decide | (rcases hc0 with h | h <;> rw [h] <;> simp; done) | (rcases hb0 with h | h | h <;> rw [h] <;> simp; done) | (simp; done) | omega)] at k1
          rw [hg_M_2 22 _ (by first | decide | (rcases hc0 with h | h <;> rw [h] <;> simp; done) | (rcases hb0 with h | h | h <;> rw [h] <;> simp; done) | (simp; done) | omega)]
          exact hV2 k k1 k2 k3
        have j35 : (¬ (hEv F V (tb (ix y3_2))).toInt = 0) → Wp (f_X3_amountOf_L35 c y3_2 M_2) (fun q => (∀ a i, ¬ (a = (c + 3)) → q.2 a i = M a i) ∧ (q.1 = amt F V tb v1.toInt R 0)) := by
          intro h35
          unfold f_X3_amountOf_L35
          have ra := rc_a hLb hQ hVb rlt (by rw [rc.2.2.2.2.2]; intro z; rw [c23] at z; exact h120 z)
          refine wp_gd (by have f0 := congrArg Int32.toInt (hf_M2 c 8 (by first | decide | (rcases hc0 with h | h <;> rw [h] <;> simp; done) | (rcases hb0 with h | h | h <;> rw [h] <;> simp; done) | (simp; done) | omega)); have f1 := congrArg Int32.toInt (hf_M2 (c + 4) (ix y3_2) (by first | decide | (rcases hc0 with h | h <;> rw [h] <;> simp; done) | (rcases hb0 with h | h | h <;> rw [h] <;> simp; done) | (simp; done) | omega)); omega) ?_
          refine wp_gd (by have f0 := congrArg Int32.toInt (hf_M2 c 8 (by first | decide | (rcases hc0 with h | h <;> rw [h] <;> simp; done) | (rcases hb0 with h | h | h <;> rw [h] <;> simp; done) | (simp; done) | omega)); have f1 := congrArg Int32.toInt (hf_M2 (c + 4) (ix y3_2) (by first | decide | (rcases hc0 with h | h <;> rw [h] <;> simp; done) | (rcases hb0 with h | h | h <;> rw [h] <;> simp; done) | (simp; done) | omega)); omega) ?_
          refine wp_cb2 (o7_X3_reckon hc M_2 (M_2 (c + 5) (ix y3_2)) (M_2 (c + 6) (ix y3_2)) F V ra.1 ra.2.1 ra.2.2.1 ra.2.2.2.1) (fun r_3 M_4 he49 hq49 => ?_)
          obtain ⟨hg_M_4, hr_49⟩ := hq49
          replace hr_49 : r_3 = ev F V (ix (M_2 (c + 6) (ix y3_2))) (ix (M_2 (c + 5) (ix y3_2))) [] := hr_49
          replace hg_M_4 : ∀ a i, ¬ (a = (c + 3)) → M_4 a i = M_2 a i := by exact fun a i q0 => hg_M_4 a i (by first | decide | (rcases hc0 with h | h <;> rw [h] <;> simp; done) | (rcases hb0 with h | h | h <;> rw [h] <;> simp; done) | (simp; done) | omega)
          exact wp_some ⟨(fun a i q0 => ((hg_M_4 a i (fun h9 => q0 (h9))).trans ((hg_M_2 a i (fun h9 => q0 (h9))).trans ((hf_M2 a i (fun h9 => q0 (h9))).trans rfl)))), (by show mx (nI 0) (mn (nI 9) r_3) = amt F V tb v1.toInt R 0; rw [hA2, amt_y rlt (by rw [rc.2.2.2.2.2]; exact c23) h35, hr_49, ra.2.2.2.2])⟩
        refine wp_ite (fun c32 => ?_) (fun c32 => ?_)
        · exact ih2 M_2 (y3_2 + (nI 1)) ⟨(by have f0 := t_lit 1; have f1 := t_add y3_2 (nI 1); have f2 := congrArg Int32.toInt (hf_M2 c 8 (by first | decide | (rcases hc0 with h | h <;> rw [h] <;> simp; done) | (rcases hb0 with h | h | h <;> rw [h] <;> simp; done) | (simp; done) | omega)); have f3 := congrArg Int32.toInt (hf_M2 (c + 4) (ix y3_2) (by first | decide | (rcases hc0 with h | h <;> rw [h] <;> simp; done) | (rcases hb0 with h | h | h <;> rw [h] <;> simp; done) | (simp; done) | omega)); omega), (fun a i q0 => ((hg_M_2 a i (fun h9 => q0 (h9))).trans ((hf_M2 a i (fun h9 => q0 (h9))).trans rfl))), (by rw [hA2, amt_n rlt (fun z => z.2 (hr_29.mp c32)), i3])⟩ (by have f0 := t_lit 1; have f1 := t_add y3_2 (nI 1); have f2 := congrArg Int32.toInt (hf_M2 c 8 (by first | decide | (rcases hc0 with h | h <;> rw [h] <;> simp; done) | (rcases hb0 with h | h | h <;> rw [h] <;> simp; done) | (simp; done) | omega)); have f3 := congrArg Int32.toInt (hf_M2 (c + 4) (ix y3_2) (by first | decide | (rcases hc0 with h | h <;> rw [h] <;> simp; done) | (rcases hb0 with h | h | h <;> rw [h] <;> simp; done) | (simp; done) | omega)); omega)
        · exact j35 (fun z => c32 (hr_29.mpr z))
      · exact ih2 M2 (y3_2 + (nI 1)) ⟨(by have f0 := t_lit 1; have f1 := t_add y3_2 (nI 1); have f2 := congrArg Int32.toInt (hf_M2 c 8 (by first | decide | (rcases hc0 with h | h <;> rw [h] <;> simp; done) | (rcases hb0 with h | h | h <;> rw [h] <;> simp; done) | (simp; done) | omega)); have f3 := congrArg Int32.toInt (hf_M2 (c + 4) (ix y3_2) (by first | decide | (rcases hc0 with h | h <;> rw [h] <;> simp; done) | (rcases hb0 with h | h | h <;> rw [h] <;> simp; done) | (simp; done) | omega)); omega), (fun a i q0 => ((hf_M2 a i (fun h9 => q0 (h9))).trans rfl)), (by rw [hA2, amt_n rlt (fun z => c23 (by rw [← rc.2.2.2.2.2]; exact z.1)), i3])⟩ (by have f0 := t_lit 1; have f1 := t_add y3_2 (nI 1); have f2 := congrArg Int32.toInt (hf_M2 c 8 (by first | decide | (rcases hc0 with h | h <;> rw [h] <;> simp; done) | (rcases hb0 with h | h | h <;> rw [h] <;> simp; done) | (simp; done) | omega)); have f3 := congrArg Int32.toInt (hf_M2 (c + 4) (ix y3_2) (by first | decide | (rcases hc0 with h | h <;> rw [h] <;> simp; done) | (rcases hb0 with h | h | h <;> rw [h] <;> simp; done) | (simp; done) | omega)); omega)
set_option maxHeartbeats 2000000 in
theorem o7_X3_doesSink {c : Nat} (hc : isL c) (M : Mem) (R : Nat) (F : Nat → Int × Int) (tb : Tbl) (V : Nat → Int32) (hL : LwC M c R F tb) (hQ : LwQ R F tb) (hV : VlC M c F V) : Wp (f_X3_doesSink c M) (fun q => (q.1 = 0 ∨ q.1 = 1) ∧ (∀ a i, ¬ (a = (c + 3)) → q.2 a i = M a i) ∧ (q.1 = snk F V tb R 0)) := by
  have hc0 : c = 44 ∨ c = 52 := hc
  refine wp_lp2 (fun M2 y2_2 => (0 ≤ y2_2.toInt) ∧ (∀ a i, ¬ (a = (c + 3)) → M2 a i = M a i) ∧ (snk F V tb R 0 = snk F V tb (R - ix y2_2) (ix y2_2))) (fun M2 y2_2 => (16 - y2_2.toInt).toNat) (fun ag2 M2 y2_2 hI2 ih2 => ?_) FU M (nI 0) ⟨(by have f0 := t_lit 0; omega), (fun _ _ _ => rfl), (by rw [show ix (nI 0) = 0 from (by decide)]; rfl)⟩ (fu_lt (by have f0 := t_lit 0; omega))
  obtain ⟨hi2, hf_M2, hA2⟩ := hI2
  have hL2 : LwC M2 c R F tb := lwc_fr hL (fun a i q => hf_M2 a i (by first | decide | (rcases hc0 with h | h <;> rw [h] <;> simp; done) | (rcases hb0 with h | h | h <;> rw [h] <;> simp; done) | (simp; done) | omega))
  have hV2 : VlC M2 c F V := fun k k1 k2 k3 => by
    rw [hf_M2 c 7 (by first | decide | (rcases hc0 with h | h <;> rw [h] <;> simp; done) | (rcases hb0 with h | h | h <;> rw [h] <;> simp; done) | (simp; done) | omega)] at k1
    rw [hf_M2 22 _ (by first | decide | (rcases hc0 with h | h <;> rw [h] <;> simp; done) | (rcases hb0 with h | h | h <;> rw [h] <;> simp; done) | (simp; done) | omega)]
    exact hV k k1 k2 k3
  have e28 := hL2.1.1
  have hR16 := hL2.1.2.1
  refine wp_ite (fun c7 => ?_) (fun c7 => ?_)
  · exact wp_some ⟨b01_0, (fun a i q0 => ((hf_M2 a i (fun h9 => q0 (h9))).trans rfl)), (by show nI 0 = snk F V tb R 0; rw [hA2]; exact (snk_0 (rlt_0 hi2 e28 c7)).symm)⟩
  · refine wp_ite (fun c13 => ?_) (fun c13 => ?_)
    · exact wp_some ⟨b01_0, (fun a i q0 => ((hf_M2 a i (fun h9 => q0 (h9))).trans rfl)), (by show nI 0 = snk F V tb R 0; rw [hA2]; exact (snk_0 (rlt_16 hi2 hR16 c13)).symm)⟩
    · have rlt := rlt_ix hi2 e28 c7
      have rc := rc_h hL2 hQ hV2 rlt
      have i3 := ix_16 hi2 (by omega)
      refine wp_gd (by have f0 := congrArg Int32.toInt (hf_M2 c 8 (by first | decide | (rcases hc0 with h | h <;> rw [h] <;> simp; done) | (rcases hb0 with h | h | h <;> rw [h] <;> simp; done) | (simp; done) | omega)); omega) ?_
      refine wp_ite (fun c24 => ?_) (fun c24 => ?_)
      · refine wp_cb2 (o7_X3_doesHold hc M2 y2_2 R F tb V hL2 hQ hV2 hi2 rlt) (fun r_1 M_2 he30 hq30 => ?_)
        obtain ⟨hz_r_1, hg_M_2, hr_30⟩ := hq30
        replace hr_30 : r_1.toInt = 0 ↔ (hEv F V (tb (ix y2_2))).toInt = 0 := hr_30
        replace hg_M_2 : ∀ a i, ¬ (a = (c + 3)) → M_2 a i = M2 a i := by exact fun a i q0 => hg_M_2 a i (by first | decide | (rcases hc0 with h | h <;> rw [h] <;> simp; done) | (rcases hb0 with h | h | h <;> rw [h] <;> simp; done) | (simp; done) | omega)
        refine wp_ite (fun c33 => ?_) (fun c33 => ?_)
        · exact ih2 M_2 (y2_2 + (nI 1)) ⟨(by have f0 := t_lit 1; have f1 := t_add y2_2 (nI 1); have f2 := congrArg Int32.toInt (hf_M2 c 8 (by first | decide | (rcases hc0 with h | h <;> rw [h] <;> simp; done) | (rcases hb0 with h | h | h <;> rw [h] <;> simp; done) | (simp; done) | omega)); have f3 := congrArg Int32.toInt (hf_M2 (c + 4) (ix y2_2) (by first | decide | (rcases hc0 with h | h <;> rw [h] <;> simp; done) | (rcases hb0 with h | h | h <;> rw [h] <;> simp; done) | (simp; done) | omega)); omega), (fun a i q0 => ((hg_M_2 a i (fun h9 => q0 (h9))).trans ((hf_M2 a i (fun h9 => q0 (h9))).trans rfl))), (by rw [hA2, snk_n rlt (fun z => z.2 (hr_30.mp c33)), i3])⟩ (by have f0 := t_lit 1; have f1 := t_add y2_2 (nI 1); have f2 := congrArg Int32.toInt (hf_M2 c 8 (by first | decide | (rcases hc0 with h | h <;> rw [h] <;> simp; done) | (rcases hb0 with h | h | h <;> rw [h] <;> simp; done) | (simp; done) | omega)); have f3 := congrArg Int32.toInt (hf_M2 (c + 4) (ix y2_2) (by first | decide | (rcases hc0 with h | h <;> rw [h] <;> simp; done) | (rcases hb0 with h | h | h <;> rw [h] <;> simp; done) | (simp; done) | omega)); omega)
        · exact wp_some ⟨b01_1, (fun a i q0 => ((hg_M_2 a i (fun h9 => q0 (h9))).trans ((hf_M2 a i (fun h9 => q0 (h9))).trans rfl))), (by show nI 1 = snk F V tb R 0; rw [hA2, snk_y rlt (by rw [rc.2.2.2.2.2]; exact c24) (fun z => c33 (hr_30.mpr z))])⟩
      · exact ih2 M2 (y2_2 + (nI 1)) ⟨(by have f0 := t_lit 1; have f1 := t_add y2_2 (nI 1); have f2 := congrArg Int32.toInt (hf_M2 c 8 (by first | decide | (rcases hc0 with h | h <;> rw [h] <;> simp; done) | (rcases hb0 with h | h | h <;> rw [h] <;> simp; done) | (simp; done) | omega)); have f3 := congrArg Int32.toInt (hf_M2 (c + 4) (ix y2_2) (by first | decide | (rcases hc0 with h | h <;> rw [h] <;> simp; done) | (rcases hb0 with h | h | h <;> rw [h] <;> simp; done) | (simp; done) | omega)); omega), (fun a i q0 => ((hf_M2 a i (fun h9 => q0 (h9))).trans rfl)), (by rw [hA2, snk_n rlt (fun z => c24 (by rw [← rc.2.2.2.2.2]; exact z.1)), i3])⟩ (by have f0 := t_lit 1; have f1 := t_add y2_2 (nI 1); have f2 := congrArg Int32.toInt (hf_M2 c 8 (by first | decide | (rcases hc0 with h | h <;> rw [h] <;> simp; done) | (rcases hb0 with h | h | h <;> rw [h] <;> simp; done) | (simp; done) | omega)); have f3 := congrArg Int32.toInt (hf_M2 (c + 4) (ix y2_2) (by first | decide | (rcases hc0 with h | h <;> rw [h] <;> simp; done) | (rcases hb0 with h | h | h <;> rw [h] <;> simp; done) | (simp; done) | omega)); omega)
set_option maxHeartbeats 2000000 in
theorem o7_X10_byLaw (M : Mem) (v1 : Int32) (v2 : Int32) (R : Nat) (F : Nat → Int × Int) (tb : Tbl) (V : Nat → Int32) (hL : LwR M R F tb) (hQ : LwQ R F tb) (hV : ∀ j : Nat, j < 8 → M 18 j = V j) (h120 : ¬ v1.toInt = 120) (h9 : v2 = nI 9) : Wp (f_X10_byLaw M v1 v2) (fun q => (∀ a i, ¬ (a = 17) → q.2 a i = M a i) ∧ (q.1 = amt F V tb v1.toInt R 0)) := by
  refine wp_lp2 (fun M2 y3_2 => (∀ a i, ¬ (a = 17) → M2 a i = M a i) ∧ (0 ≤ y3_2.toInt) ∧ (amt F V tb v1.toInt R 0 = amt F V tb v1.toInt (R - ix y3_2) (ix y3_2))) (fun M2 y3_2 => ((M 0 15).toInt - y3_2.toInt).toNat) (fun ag2 M2 y3_2 hI2 ih2 => ?_) FU M (nI 0) ⟨(fun _ _ _ => rfl), (by decide), (by rw [show ix (nI 0) = 0 from (by decide)]; rfl)⟩ (fu_lt ((by have h9 := hL.1; have h8 := t_lit 0; omega)))
  obtain ⟨hf_M2, h2, hA2⟩ := hI2
  have hL2 : LwR M2 R F tb := lwr_fr hL (fun a i q => hf_M2 a i (by first | decide | (rcases hc0 with h | h <;> rw [h] <;> simp; done) | (rcases hb0 with h | h | h <;> rw [h] <;> simp; done) | (simp; done) | omega))
  have hV2 : ∀ j : Nat, j < 8 → M2 18 j = V j := fun j hj => by rw [hf_M2 18 j (by first | decide | (rcases hc0 with h | h <;> rw [h] <;> simp; done) | (rcases hb0 with h | h | h <;> rw [h] <;> simp; done) | (simp; done) | omega)]; exact hV j hj
  have e28 := hL2.1.1
  have hR16 := hL2.1.2
  have e15 : M2 0 15 = M 0 15 := hf_M2 0 15 (by first | decide | (rcases hc0 with h | h <;> rw [h] <;> simp; done) | (rcases hb0 with h | h | h <;> rw [h] <;> simp; done) | (simp; done) | omega)
  refine wp_ite (fun c7 => ?_) (fun c7 => ?_)
  · exact wp_some ⟨(fun a i q0 => ((hf_M2 a i (fun h9 => q0 (h9))).trans rfl)), (by show nI 0 = amt F V tb v1.toInt R 0; rw [hA2]; exact (amt_0 (rlt_0 h2 e28 c7)).symm)⟩
  · have rlt := rlt_ix h2 e28 c7
    have rr := rr_h (V := V) hL2 hQ rlt
    have i3 := ix_16 h2 (by omega)
    refine wp_gd (ix16 h2 e28 hR16 c7) ?_
    refine wp_ite (fun c17 => ?_) (fun c17 => ?_)
    · refine wp_gd (ix16 h2 e28 hR16 c7) ?_
      refine wp_gd (ix16 h2 e28 hR16 c7) ?_
      refine wp_cb2 (o7_X10_comesTo M2 (M2 15 (ix y3_2)) (M2 16 (ix y3_2)) F V rr.1 rr.2.1 rr.2.2.1 rr.2.2.2.1 hV2) (fun r_1 M_2 he33 hq33 => ?_)
      obtain ⟨hg_M_2, hr_33, hty_33⟩ := hq33
      replace hr_33 : r_1 = ev F V (ix (M2 16 (ix y3_2))) (ix (M2 15 (ix y3_2))) [] := hr_33
      replace hty_33 : ix (M2 15 (ix y3_2)) < ix (M2 16 (ix y3_2)) → isB (F (ix (M2 16 (ix y3_2)) - 1)).1 → r_1.toInt = 0 ∨ r_1.toInt = 1 := hty_33
      replace hg_M_2 : ∀ a i, ¬ (a = 17) → M_2 a i = M2 a i := hg_M_2
      have nz := nz_of (hty_33 rr.2.2.2.2.2.2.1 rr.2.2.2.2.2.2.2)
      rw [show r_1 = hEv F V (tb (ix y3_2)) from hr_33.trans rr.2.2.2.2.1] at nz
      have hr1 : r_1 = hEv F V (tb (ix y3_2)) := hr_33.trans rr.2.2.2.2.1
      have hLb : LwR M_2 R F tb := lwr_fr hL2 (fun a i q => hg_M_2 a i (by first | decide | (rcases hc0 with h | h <;> rw [h] <;> simp; done) | (rcases hb0 with h | h | h <;> rw [h] <;> simp; done) | (simp; done) | omega))
      have hVb : ∀ j : Nat, j < 8 → M_2 18 j = V j := fun j hj => by rw [hg_M_2 18 j (by first | decide | (rcases hc0 with h | h <;> rw [h] <;> simp; done) | (rcases hb0 with h | h | h <;> rw [h] <;> simp; done) | (simp; done) | omega)]; exact hV2 j hj
      have j43 : (¬ (hEv F V (tb (ix y3_2))).toInt = 0) → Wp (f_X10_byLaw_L43 v2 y3_2 M_2) (fun q => (∀ a i, ¬ (a = 17) → q.2 a i = M a i) ∧ (q.1 = amt F V tb v1.toInt R 0)) := by
        intro h43
        unfold f_X10_byLaw_L43
        have ra := rr_a (V := V) hLb hQ rlt (by rw [rr.2.2.2.2.2.1, c17]; exact h120)
        refine wp_gd (ix16 h2 e28 hR16 c7) ?_
        refine wp_gd (ix16 h2 e28 hR16 c7) ?_
        refine wp_cb2 (o7_X10_comesTo M_2 (M_2 14 (ix y3_2)) (M_2 15 (ix y3_2)) F V ra.1 ra.2.1 ra.2.2.1 ra.2.2.2.1 hVb) (fun r_3 M_4 he56 hq56 => ?_)
        obtain ⟨hg_M_4, hr_56, hty_56⟩ := hq56
        replace hr_56 : r_3 = ev F V (ix (M_2 15 (ix y3_2))) (ix (M_2 14 (ix y3_2))) [] := hr_56
        replace hty_56 : ix (M_2 14 (ix y3_2)) < ix (M_2 15 (ix y3_2)) → isB (F (ix (M_2 15 (ix y3_2)) - 1)).1 → r_3.toInt = 0 ∨ r_3.toInt = 1 := hty_56
        replace hg_M_4 : ∀ a i, ¬ (a = 17) → M_4 a i = M_2 a i := hg_M_4
        have hr3 : r_3 = aEv F V (tb (ix y3_2)) := hr_56.trans ra.2.2.2.2
        have hok : amt F V tb v1.toInt R 0 = mx (nI 0) (mn (nI 9) r_3) := by
          rw [hA2, amt_y rlt (by rw [rr.2.2.2.2.2.1]; exact c17) h43, hr3]
        refine wp_ite (fun c63 => ?_) (fun c63 => ?_)
        · refine wp_ite (fun c73 => ?_) (fun c73 => ?_)
          · exact wp_some ⟨(fun a i q0 => ((hg_M_4 a i (fun h9 => q0 (h9))).trans ((hg_M_2 a i (fun h9 => q0 (h9))).trans ((hf_M2 a i (fun h9 => q0 (h9))).trans rfl)))), (by show r_3 = amt F V tb v1.toInt R 0; rw [hok]; rw [h9] at c73; exact mm_2 c63 c73)⟩
          · exact wp_some ⟨(fun a i q0 => ((hg_M_4 a i (fun h9 => q0 (h9))).trans ((hg_M_2 a i (fun h9 => q0 (h9))).trans ((hf_M2 a i (fun h9 => q0 (h9))).trans rfl)))), (by show v2 = amt F V tb v1.toInt R 0; rw [hok]; rw [h9] at c73; rw [h9]; exact mm_3 c73)⟩
        · exact wp_some ⟨(fun a i q0 => ((hg_M_4 a i (fun h9 => q0 (h9))).trans ((hg_M_2 a i (fun h9 => q0 (h9))).trans ((hf_M2 a i (fun h9 => q0 (h9))).trans rfl)))), (by show nI 0 = amt F V tb v1.toInt R 0; rw [hok]; exact mm_1 c63)⟩
      refine wp_ite (fun c37 => ?_) (fun c37 => ?_)
      · exact j43 (by rw [← hr1, c37]; decide)
      · exact ih2 M_2 (y3_2 + (nI 1)) ⟨(fun a i q0 => ((hg_M_2 a i (fun h9 => q0 (h9))).trans ((hf_M2 a i (fun h9 => q0 (h9))).trans rfl))), (nn_up h2 e28 hR16 c7), (by rw [hA2, amt_n rlt (fun z => c37 (by rw [hr1]; exact nz z.2)), i3])⟩ (mu_15 h2 e28 hR16 c7 e15)
    · exact ih2 M2 (y3_2 + (nI 1)) ⟨(fun a i q0 => ((hf_M2 a i (fun h9 => q0 (h9))).trans rfl)), (nn_up h2 e28 hR16 c7), (by rw [hA2, amt_n rlt (fun z => c17 (by rw [← rr.2.2.2.2.2.1]; exact z.1)), i3])⟩ (mu_15 h2 e28 hR16 c7 e15)
set_option maxHeartbeats 2000000 in
theorem o7_X10_holdsAny (M : Mem) (v1 : Int32) (R : Nat) (F : Nat → Int × Int) (tb : Tbl) (V : Nat → Int32) (hL : LwR M R F tb) (hQ : LwQ R F tb) (hV : ∀ j : Nat, j < 8 → M 18 j = V j) (h120 : v1.toInt = 120) : Wp (f_X10_holdsAny M v1) (fun q => (q.1 = 0 ∨ q.1 = 1) ∧ (∀ a i, ¬ (a = 17) → q.2 a i = M a i) ∧ (q.1 = snk F V tb R 0)) := by
  refine wp_lp2 (fun M2 y2_2 => (∀ a i, ¬ (a = 17) → M2 a i = M a i) ∧ (0 ≤ y2_2.toInt) ∧ (snk F V tb R 0 = snk F V tb (R - ix y2_2) (ix y2_2))) (fun M2 y2_2 => ((M 0 15).toInt - y2_2.toInt).toNat) (fun ag2 M2 y2_2 hI2 ih2 => ?_) FU M (nI 0) ⟨(fun _ _ _ => rfl), (by decide), (by rw [show ix (nI 0) = 0 from (by decide)]; rfl)⟩ (fu_lt ((by have h9 := hL.1; have h8 := t_lit 0; omega)))
  obtain ⟨hf_M2, h2, hA2⟩ := hI2
  have hL2 : LwR M2 R F tb := lwr_fr hL (fun a i q => hf_M2 a i (by first | decide | (rcases hc0 with h | h <;> rw [h] <;> simp; done) | (rcases hb0 with h | h | h <;> rw [h] <;> simp; done) | (simp; done) | omega))
  have hV2 : ∀ j : Nat, j < 8 → M2 18 j = V j := fun j hj => by rw [hf_M2 18 j (by first | decide | (rcases hc0 with h | h <;> rw [h] <;> simp; done) | (rcases hb0 with h | h | h <;> rw [h] <;> simp; done) | (simp; done) | omega)]; exact hV j hj
  have e28 := hL2.1.1
  have hR16 := hL2.1.2
  have e15 : M2 0 15 = M 0 15 := hf_M2 0 15 (by first | decide | (rcases hc0 with h | h <;> rw [h] <;> simp; done) | (rcases hb0 with h | h | h <;> rw [h] <;> simp; done) | (simp; done) | omega)
  refine wp_ite (fun c7 => ?_) (fun c7 => ?_)
  · exact wp_some ⟨b01_0, (fun a i q0 => ((hf_M2 a i (fun h9 => q0 (h9))).trans rfl)), (by show nI 0 = snk F V tb R 0; rw [hA2]; exact (snk_0 (rlt_0 h2 e28 c7)).symm)⟩
  · have rlt := rlt_ix h2 e28 c7
    have rr := rr_h (V := V) hL2 hQ rlt
    have i3 := ix_16 h2 (by omega)
    refine wp_gd (ix16 h2 e28 hR16 c7) ?_
    refine wp_ite (fun c17 => ?_) (fun c17 => ?_)
    · refine wp_gd (ix16 h2 e28 hR16 c7) ?_
      refine wp_gd (ix16 h2 e28 hR16 c7) ?_
      refine wp_cb2 (o7_X10_comesTo M2 (M2 15 (ix y2_2)) (M2 16 (ix y2_2)) F V rr.1 rr.2.1 rr.2.2.1 rr.2.2.2.1 hV2) (fun r_1 M_2 he33 hq33 => ?_)
      obtain ⟨hg_M_2, hr_33, hty_33⟩ := hq33
      replace hr_33 : r_1 = ev F V (ix (M2 16 (ix y2_2))) (ix (M2 15 (ix y2_2))) [] := hr_33
      replace hty_33 : ix (M2 15 (ix y2_2)) < ix (M2 16 (ix y2_2)) → isB (F (ix (M2 16 (ix y2_2)) - 1)).1 → r_1.toInt = 0 ∨ r_1.toInt = 1 := hty_33
      replace hg_M_2 : ∀ a i, ¬ (a = 17) → M_2 a i = M2 a i := hg_M_2
      have nz := nz_of (hty_33 rr.2.2.2.2.2.2.1 rr.2.2.2.2.2.2.2)
      have hr1 : r_1 = hEv F V (tb (ix y2_2)) := hr_33.trans rr.2.2.2.2.1
      rw [hr1] at nz
      refine wp_ite (fun c37 => ?_) (fun c37 => ?_)
      · exact wp_some ⟨b01_1, (fun a i q0 => ((hg_M_2 a i (fun h9 => q0 (h9))).trans ((hf_M2 a i (fun h9 => q0 (h9))).trans rfl))), (by show nI 1 = snk F V tb R 0; rw [hA2, snk_y rlt (by rw [rr.2.2.2.2.2.1, c17]; exact h120) (by rw [← hr1, c37]; decide)])⟩
      · exact ih2 M_2 (y2_2 + (nI 1)) ⟨(fun a i q0 => ((hg_M_2 a i (fun h9 => q0 (h9))).trans ((hf_M2 a i (fun h9 => q0 (h9))).trans rfl))), (nn_up h2 e28 hR16 c7), (by rw [hA2, snk_n rlt (fun z => c37 (by rw [hr1]; exact nz z.2)), i3])⟩ (mu_15 h2 e28 hR16 c7 e15)
    · exact ih2 M2 (y2_2 + (nI 1)) ⟨(fun a i q0 => ((hf_M2 a i (fun h9 => q0 (h9))).trans rfl)), (nn_up h2 e28 hR16 c7), (by rw [hA2, snk_n rlt (fun z => c17 (by rw [h120, ← rr.2.2.2.2.2.1]; exact z.1)), i3])⟩ (mu_15 h2 e28 hR16 c7 e15)
