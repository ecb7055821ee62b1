/-! the reference's codes as a state; how many are open -/
def sR (M : Mem) : Cst := ((M 0 7).toInt, ix (M 0 12), fun j => (kd (M 6 j), vl (M 6 j)))
def dO (M : Mem) : Nat := (6 - (M 0 11).toInt).toNat
theorem sr_fwd {M N : Mem} {p : Int} (h7 : (N 0 7).toInt = p) (h12 : N 0 12 = M 0 12) (r6 : ∀ j, N 6 j = M 6 j) : sR N = fwd (sR M) p := by
  refine cst_ext h7 ?_ (fun j => ?_)
  · show ix (N 0 12) = ix (M 0 12)
    rw [h12]
  · show (kd (N 6 j), vl (N 6 j)) = (kd (M 6 j), vl (M 6 j))
    rw [r6]
theorem sr_eq {M N : Mem} (h7 : N 0 7 = M 0 7) (h12 : N 0 12 = M 0 12) (r6 : ∀ j, N 6 j = M 6 j) : sR N = sR M := sr_fwd (by rw [h7]) h12 r6
theorem sr_note {M N : Mem} {a b : Int32} {p : Int} (hb : 0 ≤ (M 0 12).toInt ∧ (M 0 12).toInt ≤ 1000) (ha : 0 ≤ a.toInt ∧ a.toInt ≤ 14) (hv : 0 ≤ b.toInt ∧ b.toInt < 1048576) (h7 : (N 0 7).toInt = p) (h12 : N 0 12 = M 0 12 + nI 1) (hn : N 6 (ix (M 0 12)) = (nI 1048576) * a + b) (r6 : ∀ k, ¬ k = ix (M 0 12) → N 6 k = M 6 k) : sR N = fwd (emt (sR M) a.toInt b.toInt) p := by
  have hw := wd_is ha hv
  refine cst_ext h7 ?_ (fun j => ?_)
  · show ix (N 0 12) = ix (M 0 12) + 1
    rw [h12]
    exact (i_up hb).1
  · show (kd (N 6 j), vl (N 6 j)) = pu (fun j => (kd (M 6 j), vl (M 6 j))) (ix (M 0 12)) (a.toInt, b.toInt) j
    by_cases e : j = ix (M 0 12)
    · rw [e, hn, pu_s, hw.2.2.1, hw.2.2.2]
    · rw [r6 j e, pu_n e]
theorem sr_land {M N : Mem} {i : Nat} (h0 : 0 ≤ (M 0 12).toInt) (h7 : N 0 7 = M 0 7) (h12 : N 0 12 = M 0 12) (hk : kd (N 6 i) = kd (M 6 i)) (hv : vl (N 6 i) = (M 0 12).toInt) (r6 : ∀ k, ¬ k = i → N 6 k = M 6 k) : sR N = lnd (sR M) (some i) := by
  refine cst_ext ?_ ?_ (fun k => ?_)
  · show (N 0 7).toInt = (M 0 7).toInt
    rw [h7]
  · show ix (N 0 12) = ix (M 0 12)
    rw [h12]
  · show (kd (N 6 k), vl (N 6 k)) = pu (fun j => (kd (M 6 j), vl (M 6 j))) i (kd (M 6 i), ((ix (M 0 12) : Nat) : Int)) k
    by_cases e : k = i
    · rw [e, pu_s, hk, hv, t_ixn _ h0]
    · rw [r6 k e, pu_n e]
theorem emt_f (s : Cst) (a b : Int) : fwd (emt s a b) s.1 = emt s a b := rfl
theorem fwd_e (s : Cst) (p : Int) (a b : Int) : fwd (emt s a b) p = emt (fwd s p) a b := rfl
def oN (g : Nat → Int32) : Nat → Nat
  | 0 => 0
  | n + 1 => oN g n + (if kd (g n) = 10 ∨ kd (g n) = 13 ∨ kd (g n) = 14 then 1 else 0)
theorem oN_1 {g : Nat → Int32} {n : Nat} (h : kd (g n) = 10 ∨ kd (g n) = 13 ∨ kd (g n) = 14) : oN g (n + 1) = oN g n + 1 := by
  show oN g n + (if kd (g n) = 10 ∨ kd (g n) = 13 ∨ kd (g n) = 14 then 1 else 0) = _
  rw [if_pos h]
theorem oN_0 {g : Nat → Int32} {n : Nat} (h : ¬ (kd (g n) = 10 ∨ kd (g n) = 13 ∨ kd (g n) = 14)) : oN g (n + 1) = oN g n := by
  show oN g n + (if kd (g n) = 10 ∨ kd (g n) = 13 ∨ kd (g n) = 14 then 1 else 0) = _
  rw [if_neg h]
  rfl
theorem oN_ext {g g' : Nat → Int32} : ∀ n, (∀ k, k < n → g k = g' k) → oN g n = oN g' n
  | 0, _ => rfl
  | n + 1, h => by
    show oN g n + (if kd (g n) = 10 ∨ kd (g n) = 13 ∨ kd (g n) = 14 then 1 else 0) = oN g' n + (if kd (g' n) = 10 ∨ kd (g' n) = 13 ∨ kd (g' n) = 14 then 1 else 0)
    rw [oN_ext n (fun k hk => h k (by omega)), h n (by omega)]
def On (M : Mem) : Prop := (M 0 11).toInt = ((oN (M 7) (ix (M 0 13)) : Nat) : Int) ∧ (M 0 11).toInt ≤ 6
theorem on_same {M N : Mem} (h : On M) (h11 : N 0 11 = M 0 11) (h13 : N 0 13 = M 0 13) (r7 : N 7 = M 7) : On N ∧ dO N = dO M := by
  unfold On dO
  rw [h11, h13, r7]
  exact ⟨h, rfl⟩
theorem on_open {M N : Mem} {v : Int32} (h : On M) (hw : 0 ≤ (M 0 13).toInt ∧ (M 0 13).toInt ≤ 1000) (ho : ¬ (M 0 11).toInt = 6) (h11 : N 0 11 = M 0 11 + nI 1) (h13 : N 0 13 = M 0 13 + nI 1) (r7 : N 7 = upd (M 7) (ix (M 0 13)) v) (hk : kd v = 10 ∨ kd v = 13 ∨ kd v = 14) : On N ∧ dO N = dO M - 1 ∧ ¬ dO M = 0 := by
  obtain ⟨h1, h2⟩ := h
  have e1 := i_up hw
  have e2 := i_up (x := M 0 11) (by omega)
  have e3 := oN_1 (g := upd (M 7) (ix (M 0 13)) v) (n := ix (M 0 13)) (by rw [upd_e]; exact hk)
  rw [oN_ext (g := upd (M 7) (ix (M 0 13)) v) (g' := M 7) (ix (M 0 13)) (fun k hk => upd_o (by omega))] at e3
  unfold On dO
  rw [h11, h13, r7, e1.1, e2.2, e3]
  omega
theorem on_push {M N : Mem} {v : Int32} (h : On M) (hw : 0 ≤ (M 0 13).toInt ∧ (M 0 13).toInt ≤ 1000) (h11 : N 0 11 = M 0 11) (h13 : N 0 13 = M 0 13 + nI 1) (r7 : N 7 = upd (M 7) (ix (M 0 13)) v) (hk : ¬ (kd v = 10 ∨ kd v = 13 ∨ kd v = 14)) : On N ∧ dO N = dO M := by
  obtain ⟨h1, h2⟩ := h
  have e1 := i_up hw
  have e3 := oN_0 (g := upd (M 7) (ix (M 0 13)) v) (n := ix (M 0 13)) (by rw [upd_e]; exact hk)
  rw [oN_ext (g := upd (M 7) (ix (M 0 13)) v) (g' := M 7) (ix (M 0 13)) (fun k hk => upd_o (by omega))] at e3
  unfold On dO
  rw [h11, h13, r7, e1.1, e3]
  exact ⟨⟨h1, h2⟩, rfl⟩
theorem on_popx {M N : Mem} (h : On M) (hw : 1 ≤ (M 0 13).toInt ∧ (M 0 13).toInt ≤ 1000) (h11 : N 0 11 = M 0 11) (h13 : N 0 13 = M 0 13 - nI 1) (r7 : N 7 = M 7) (hk : ¬ (kd (M 7 (ix (M 0 13) - 1)) = 10 ∨ kd (M 7 (ix (M 0 13) - 1)) = 13 ∨ kd (M 7 (ix (M 0 13) - 1)) = 14)) : On N ∧ dO N = dO M := by
  obtain ⟨h1, h2⟩ := h
  have e1 := i_dn hw
  have e2 := i_dn1 hw
  rw [← e2] at hk
  have e3 := oN_0 hk
  rw [e1.1] at e3
  unfold On dO
  rw [h11, h13, r7, ← e3]
  exact ⟨⟨h1, h2⟩, rfl⟩
theorem on_popo {M N : Mem} (h : On M) (hw : 1 ≤ (M 0 13).toInt ∧ (M 0 13).toInt ≤ 1000) (h11 : N 0 11 = M 0 11 - nI 1) (h13 : N 0 13 = M 0 13 - nI 1) (r7 : N 7 = M 7) (hk : kd (M 7 (ix (M 0 13) - 1)) = 10 ∨ kd (M 7 (ix (M 0 13) - 1)) = 13 ∨ kd (M 7 (ix (M 0 13) - 1)) = 14) : On N ∧ dO N = dO M + 1 := by
  obtain ⟨h1, h2⟩ := h
  have e1 := i_dn hw
  have e2 := i_dn1 hw
  rw [← e2] at hk
  have e3 := oN_1 hk
  rw [e1.1] at e3
  have e4 := i_dn (x := M 0 11) (by omega)
  unfold On dO
  rw [h11, h13, r7, e4.2]
  omega
theorem on_0 {N : Mem} (h11 : N 0 11 = nI 0) (h13 : N 0 13 = nI 0) : On N ∧ dO N = 6 := by
  unfold On dO
  rw [h11, h13, show ix (nI 0) = 0 from by decide, nI0]
  exact ⟨⟨rfl, by decide⟩, rfl⟩
theorem on_back {M N : Mem} (hM : On M) (hN : On N) (hw : ix (N 0 13) = ix (M 0 13)) (r7 : ∀ t, t < ix (M 0 13) → N 7 t = M 7 t) : dO N = dO M := by
  have e1 := hM.1
  have e2 := hN.1
  rw [hw, oN_ext _ r7] at e2
  unfold dO
  rw [e1, e2]
theorem ends_r {M : Mem} {T : Int → Int} (hT : TXr M = T) : Ends T (M 0 8).toInt := fun p hp => by
  rw [← hT]
  exact txt_out (by omega)
/-! signs are closed -/
theorem opt_k {s : Cst} {k : Int} (h : ¬ k = 0) : opt s k = emt s k 0 := if_neg h
theorem opt_0 (s : Cst) : opt s 0 = s := if_pos rfl
def clS (a : Int) (g : Nat → Int32) (b w : Nat) (s : Cst) : Cst × Nat := if a = 0 then (opt s (tsK g b w), tsW g b w) else (opt (opt s (tsK g b w)) (ssK g b (tsW g b w)), ssW g b (tsW g b w))
theorem clS_0 {a : Int} {g : Nat → Int32} {b w : Nat} {s : Cst} (h : a = 0) : clS a g b w s = (opt s (tsK g b w), tsW g b w) := if_pos h
theorem clS_1 {a : Int} {g : Nat → Int32} {b w : Nat} {s : Cst} (h : ¬ a = 0) : clS a g b w s = (opt (opt s (tsK g b w)) (ssK g b (tsW g b w)), ssW g b (tsW g b w)) := if_neg h
theorem clS_t {a : Int} {g : Nat → Int32} {b w : Nat} {s : Cst} (hd : Dsc g b w) (h : isT g b w) : clS a g b w s = clS a g b (w - 1) (emt s (kd (g (w - 1))) 0) := by
  have h1 := ts_y h
  have h2 := dsc_t hd
  rw [h1.2] at h2
  have h3 := ts_n h2
  have h4 := h.2.1
  unfold clS
  rw [h1.1, h1.2, h3.1, h3.2, opt_0, opt_k (s := s) (by omega)]
theorem clS_s {a : Int} {g : Nat → Int32} {b w : Nat} {s : Cst} (hd : Dsc g b w) (ht : ¬ isT g b w) (h : isS g b w) (ha : ¬ a = 0) : clS a g b w s = clS a g b (w - 1) (emt s (kd (g (w - 1))) 0) := by
  have h1 := ts_n ht
  have h2 := ss_y h
  have h3 := dsc_s hd
  rw [h1.2, h2.2] at h3
  have h4 := ts_n h3.1
  have h5 := ss_n h3.2
  have h6 := h.2.1
  rw [clS_1 ha, clS_1 ha, h1.1, h1.2, h2.1, h2.2, h4.1, h4.2, h5.1, h5.2, opt_0, opt_0, opt_0, opt_k (s := s) (by omega)]
theorem clS_e {a : Int} {g : Nat → Int32} {b w : Nat} {s : Cst} (ht : ¬ isT g b w) (h : a = 0 ∨ ¬ isS g b w) : clS a g b w s = (s, w) := by
  have h1 := ts_n ht
  by_cases c : a = 0
  · rw [clS_0 c, h1.1, h1.2, opt_0]
  · have h2 := ss_n (h.resolve_left c)
    rw [clS_1 c, h1.1, h1.2, h2.1, h2.2, opt_0, opt_0]
theorem denE_b {T : Int → Int} {g : Nat → Int32} {b d : Nat} {s : Cst} : denE T g b b d s = sumD T d s := by
  have t1 := ts_n (g := g) (b := b) (w := b) (fun z => absurd z.1 (Nat.lt_irrefl _))
  have t2 := ss_n (g := g) (b := b) (w := b) (fun z => absurd z.1 (Nat.lt_irrefl _))
  unfold denE
  rw [t1.1, t1.2, t2.1, t2.2, finS_e (Nat.le_refl _), sumD_is]
  rfl
/-! jumps are landed -/
theorem lnd_0 (s : Cst) : lnd s none = s := rfl
def clJ (a : Int) (g : Nat → Int32) (w : Nat) (s : Cst) : Cst × Nat := if a = 0 then (lnd s (ajK g w), ajW g w) else (lnd (lnd s (ajK g w)) (ojK g (ajW g w)), ojW g (ajW g w))
theorem clJ_0 {a : Int} {g : Nat → Int32} {w : Nat} {s : Cst} (h : a = 0) : clJ a g w s = (lnd s (ajK g w), ajW g w) := if_pos h
theorem clJ_1 {a : Int} {g : Nat → Int32} {w : Nat} {s : Cst} (h : ¬ a = 0) : clJ a g w s = (lnd (lnd s (ajK g w)) (ojK g (ajW g w)), ojW g (ajW g w)) := if_neg h
theorem clJ_a {a : Int} {g : Nat → Int32} {w : Nat} {s : Cst} (hd : Dsc2 g w) (h : isA g w) : clJ a g w s = clJ a g (w - 1) (lnd s (some (vl (g (w - 1))).toNat)) := by
  have h1 := aj_y h
  have h2 := ds2_a hd
  rw [h1.2] at h2
  have h3 := aj_n h2
  unfold clJ
  rw [h1.1, h1.2, h3.1, h3.2, lnd_0]
theorem clJ_o {a : Int} {g : Nat → Int32} {w : Nat} {s : Cst} (hd : Dsc2 g w) (ha : ¬ isA g w) (h : isO g w) (hz : ¬ a = 0) : clJ a g w s = clJ a g (w - 1) (lnd s (some (vl (g (w - 1))).toNat)) := by
  have h1 := aj_n ha
  have h2 := oj_y h
  have h3 := ds2_o hd
  rw [h1.2, h2.2] at h3
  have h4 := aj_n h3.1
  have h5 := oj_n h3.2
  rw [clJ_1 hz, clJ_1 hz, h1.1, h1.2, h2.1, h2.2, h4.1, h4.2, h5.1, h5.2, lnd_0, lnd_0, lnd_0]
theorem clJ_e {a : Int} {g : Nat → Int32} {w : Nat} {s : Cst} (ha : ¬ isA g w) (h : a = 0 ∨ ¬ isO g w) : clJ a g w s = (s, w) := by
  have h1 := aj_n ha
  by_cases c : a = 0
  · rw [clJ_0 c, h1.1, h1.2, lnd_0]
  · have h2 := oj_n (h.resolve_left c)
    rw [clJ_1 c, h1.1, h1.2, h2.1, h2.2, lnd_0, lnd_0]
theorem rlC_b {T : Int → Int} {n : Int} (hT : Ends T n) (hn : n ≤ 240) {g : Nat → Int32} {s : Cst} (h0 : 0 ≤ s.1) (h : T s.1 = 40) (hk : kd (g 0) = 13) : rlC T s = fin2 T g 1 5 (tstD T 5 (fwd s (s.1 + 1))) := by
  have t1 := aj_n (g := g) (w := 1) (fun z => by
    have z2 : kd (g 0) = 11 := z.2
    omega)
  have t2 := oj_n (g := g) (w := 1) (fun z => by
    have z2 : kd (g 0) = 12 := z.2
    omega)
  have k10 : ¬ kd (g (1 - 1)) = 10 := by
    show ¬ kd (g 0) = 10
    omega
  rw [fin2_c (by omega) k10, t1.1, t1.2, t2.1, t2.2, fin2_e (by omega), ← choLs_u hT hn (show 0 ≤ (fwd s (s.1 + 1)).1 by show 0 ≤ s.1 + 1; omega)]
  unfold rlC
  rw [xpc_y h, bnS_r]
  rfl
/-- what a reading method gives: its fault, or how it goes on -/
def GoP (r r' : Sum Int Cst) (res flt : Int) : Prop := (res = 0 → r = .inl flt) ∧ (¬ res = 0 → r = r')
def DE (T : Int → Int) (b : Nat) (M : Mem) : Sum Int Cst := denE T (M 7) b (ix (M 0 13)) (dO M) (sR M)
def DC (T : Int → Int) (b : Nat) (M : Mem) : Sum Int Cst := denC T (M 7) b (ix (M 0 13)) (dO M) (sR M)
def F2 (T : Int → Int) (M : Mem) (r : Sum Int Cst) : Sum Int Cst := fin2 T (M 7) (ix (M 0 13)) (dO M) r
theorem dsc_u {g : Nat → Int32} {b w : Nat} {v : Int32} (h : Dsc g b w) (hk : kd v = 14) : Dsc (upd g w v) b (w + 1) := dsc_p h (Or.inr hk) (fun _ z => absurd z (by omega)) (fun _ z => absurd z (by omega))
theorem isT_i {M : Mem} {b : Nat} (hw : ix (M 0 13) = 0 ∨ ¬ (4 ≤ kd (M 7 (ix (M 0 13) - 1)) ∧ kd (M 7 (ix (M 0 13) - 1)) ≤ 6)) : ¬ isT (M 7) b (ix (M 0 13)) := fun z => by
  have z1 := z.1
  have z2 := z.2
  omega
/-! rules -/
def tR (M : Mem) : Tbl := fun r => ((M 8 r).toInt, ix (M 9 r), ix (M 10 r), ix (M 11 r))
def lawR (T : Int → Int) (k r : Nat) (s : Cst) (tb : Tbl) : Sum Int (Nat × Cst × Tbl) := if T s.1 = -1 then .inr (r, s, tb) else if T s.1 = 59 then lawA T k r (fwd s (s.1 + 1)) tb else .inl (-1000 - s.1)
theorem lawR_e {T : Int → Int} {k r : Nat} {s : Cst} {tb : Tbl} (h : T s.1 = -1) : lawR T k r s tb = .inr (r, s, tb) := if_pos h
theorem lawR_n {T : Int → Int} {k r : Nat} {s : Cst} {tb : Tbl} (h : T s.1 = 59) : lawR T k r s tb = lawA T k r (fwd s (s.1 + 1)) tb := by
  unfold lawR
  rw [if_neg (by omega), if_pos h]
theorem lawR_w {T : Int → Int} {k r : Nat} {s : Cst} {tb : Tbl} (h : ¬ T s.1 = -1) (h2 : ¬ T s.1 = 59) : lawR T k r s tb = .inl (-1000 - s.1) := by
  unfold lawR
  rw [if_neg h, if_neg h2]
theorem lawA_r {T : Int → Int} {k r : Nat} {s s1 s2 : Cst} {tb tb' : Tbl} (h : rlt (T s.1) = true) (hr : ¬ r = 16) (h1 : rlE T s = .inr s1) (h2 : rlC T s1 = .inr s2) (ht : tb' = pu tb r (T s.1, s.2.1, s1.2.1, s2.2.1)) : lawA T (k + 1) r s tb = lawR T k (r + 1) s2 tb' := by
  rw [ht]
  by_cases c1 : T s2.1 = -1
  · rw [lawA_z h hr h1 h2 c1, lawR_e c1]
  · by_cases c2 : T s2.1 = 59
    · rw [lawA_n h hr h1 h2 c2, lawR_n c2]
    · rw [lawA_w h hr h1 h2 c1 c2, lawR_w c1 c2]
theorem tr_row {M N : Mem} {r : Nat} {l a h u : Int32} {L : Int} {A H U : Nat} (e4 : ∀ j, N 8 j = upd (M 8) r l j) (e5 : ∀ j, N 9 j = upd (M 9) r a j) (e6 : ∀ j, N 10 j = upd (M 10) r h j) (e7 : ∀ j, N 11 j = upd (M 11) r u j) (hl : l.toInt = L) (ha : ix a = A) (hh : ix h = H) (hu : ix u = U) : tR N = pu (tR M) r (L, A, H, U) := funext (fun j => by
  show ((N 8 j).toInt, ix (N 9 j), ix (N 10 j), ix (N 11 j)) = _
  rw [e4, e5, e6, e7]
  by_cases e : j = r
  · rw [e, upd_e, upd_e, upd_e, upd_e, pu_s, hl, ha, hh, hu]
  · rw [upd_o e, upd_o e, upd_o e, upd_o e, pu_n e]
    rfl)
theorem tr_fr {M N : Mem} (e4 : ∀ j, N 8 j = M 8 j) (e5 : ∀ j, N 9 j = M 9 j) (e6 : ∀ j, N 10 j = M 10 j) (e7 : ∀ j, N 11 j = M 11 j) : tR N = tR M := funext (fun j => by
  show ((N 8 j).toInt, ix (N 9 j), ix (N 10 j), ix (N 11 j)) = ((M 8 j).toInt, ix (M 9 j), ix (M 10 j), ix (M 11 j))
  rw [e4, e5, e6, e7])
def GoA (T : Int → Int) (M N : Mem) (res : Int) : Prop := ∀ k, (res = 0 → lawA T (k + 1) (ix (M 0 14)) (sR M) (tR M) = .inl (N 0 9).toInt) ∧ (¬ res = 0 → lawA T (k + 1) (ix (M 0 14)) (sR M) (tR M) = lawR T k (ix (M 0 14) + 1) (sR N) (tR N))
theorem goa_f {T : Int → Int} {M N : Mem} {res f : Int} (hr : res = 0) (h : ∀ k, lawA T (k + 1) (ix (M 0 14)) (sR M) (tR M) = .inl f) (hf : (N 0 9).toInt = f) : GoA T M N res := fun k => ⟨fun _ => by rw [h k, hf], fun z => absurd hr z⟩
def SgP (r x : Int) : Prop := (r = -1 ∧ sgn x = 0) ∨ (r = sgn x ∧ 2 ≤ sgn x ∧ sgn x ≤ 6)
theorem sgp_0 {r x : Int} (h : SgP r x) (hr : r = -1) : sgn x = 0 := by
  rcases h with z | z
  · exact z.2
  · omega
theorem sgp_1 {r x : Int} (h : SgP r x) (hr : ¬ r = -1) : r = sgn x ∧ 2 ≤ sgn x ∧ sgn x ≤ 6 := h.resolve_left (fun z => hr z.1)
def CmP (t x : Int) : Prop := (t = -1 ∧ cmq x = 0) ∨ (t = cmq x ∧ 7 ≤ t ∧ t ≤ 9)
theorem cmp_0 {r x : Int} (h : CmP r x) (hr : r = -1) : cmq x = 0 := by
  rcases h with z | z
  · exact z.2
  · omega
theorem cmp_1 {r x : Int} (h : CmP r x) (hr : ¬ r = -1) : r = cmq x ∧ 7 ≤ r ∧ r ≤ 9 := h.resolve_left (fun z => hr z.1)
def OpP (t x : Int) : Prop := (t = 10 ∧ x = 33) ∨ (t = 13 ∧ x = 40)
theorem opp_or {t x : Int} (h : OpP t x) : x = 33 ∨ x = 40 := h.elim (fun z => Or.inl z.2) (fun z => Or.inr z.2)
/-- what law answers -/
theorem lw_eq {r1 r2 v : Int32} {b1 b2 : Nat → Int} {f1 f2 : Nat → Int × Int} {t1 t2 : Tbl} {C D : Prop} {dC : Decidable C} {dD : Decidable D} (h : C ↔ D) (ht : D → ∀ j : Nat, (j : Int) < v.toInt → b1 j = b2 j) (h1 : r1.toInt = @ite _ C dC (lwV (lawA (txt b1 v.toInt) 17 0 (0, 0, f1) t1)) (-1)) (h2 : r2.toInt = @ite _ D dD (lwV (lawA (txt b2 v.toInt) 17 0 (0, 0, f2) t2)) (-1)) : r1 = r2 := t_of (by
  rw [h1, h2]
  by_cases c : D
  · rw [if_pos c, if_pos (h.mpr c), txt_ext (ht c)]
    exact lk_val (lk_lawA 17 0 _ _ _ _ ⟨rfl, rfl, fun j hj => absurd hj (Nat.not_lt_zero _)⟩ (fun i hi => absurd hi (Nat.not_lt_zero _)))
  · rw [if_neg c, if_neg (fun z => c (h.mp z))])
