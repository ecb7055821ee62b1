/-! its codes as a state -/
def unc (x : Int) : Int := if x = 48 then 0 else if x = 97 then 1 else if x = 43 then 2 else if x = 45 then 3 else if x = 42 then 4 else if x = 47 then 5 else if x = 37 then 6 else if x = 60 then 7 else if x = 62 then 8 else if x = 61 then 9 else if x = 33 then 10 else if x = 38 then 11 else if x = 124 then 12 else -1
def sC (M : Mem) (c : Nat) : Cst := ((M 19 3).toInt, ix (M c 7), fun j => (unc (M (c + 1) j).toInt, (M (c + 2) j).toInt))
theorem cst_ext {s t : Cst} (h1 : s.1 = t.1) (h2 : s.2.1 = t.2.1) (h3 : ∀ j, s.2.2 j = t.2.2 j) : s = t := by
  obtain ⟨a, b, f⟩ := s
  obtain ⟨a', b', f'⟩ := t
  have e1 : a = a' := h1
  have e2 : b = b' := h2
  have e3 : f = f' := funext h3
  rw [e1, e2, e3]
theorem sc_ord {M N : Mem} {c : Nat} {v1 v2 : Int32} (hb : 0 ≤ (M c 7).toInt ∧ (M c 7).toInt ≤ 1000) (h3 : N 19 3 = M 19 3) (h7 : N c 7 = M c 7 + nI 1) (r1 : ∀ j, N (c + 1) j = upd (M (c + 1)) (ix (M c 7)) v1 j) (r2 : ∀ j, N (c + 2) j = upd (M (c + 2)) (ix (M c 7)) v2 j) : sC N c = emt (sC M c) (unc v1.toInt) v2.toInt := by
  refine cst_ext ?_ ?_ (fun j => ?_)
  · show (N 19 3).toInt = (M 19 3).toInt
    rw [h3]
  · show ix (N c 7) = ix (M c 7) + 1
    rw [h7]
    exact (i_up hb).1
  · show (unc (N (c + 1) j).toInt, (N (c + 2) j).toInt) = pu (fun j => (unc (M (c + 1) j).toInt, (M (c + 2) j).toInt)) (ix (M c 7)) (unc v1.toInt, v2.toInt) j
    rw [r1, r2]
    by_cases e : j = ix (M c 7)
    · rw [e, upd_e, upd_e, pu_s]
    · rw [upd_o e, upd_o e, pu_n e]
theorem sc_fwd {M N : Mem} {c : Nat} {p : Int} (h3 : (N 19 3).toInt = p) (h7 : N c 7 = M c 7) (r1 : ∀ j, N (c + 1) j = M (c + 1) j) (r2 : ∀ j, N (c + 2) j = M (c + 2) j) : sC N c = fwd (sC M c) p := by
  refine cst_ext h3 ?_ (fun j => ?_)
  · show ix (N c 7) = ix (M c 7)
    rw [h7]
  · show (unc (N (c + 1) j).toInt, (N (c + 2) j).toInt) = (unc (M (c + 1) j).toInt, (M (c + 2) j).toInt)
    rw [r1, r2]
theorem sc_lnd {M N : Mem} {c j : Nat} (h0 : 0 ≤ (M c 7).toInt) (h3 : N 19 3 = M 19 3) (h7 : N c 7 = M c 7) (r1 : ∀ k, N (c + 1) k = M (c + 1) k) (r2 : ∀ k, N (c + 2) k = upd (M (c + 2)) j (M c 7) k) : sC N c = lnd (sC M c) (some j) := by
  refine cst_ext ?_ ?_ (fun k => ?_)
  · show (N 19 3).toInt = (M 19 3).toInt
    rw [h3]
  · show ix (N c 7) = ix (M c 7)
    rw [h7]
  · show (unc (N (c + 1) k).toInt, (N (c + 2) k).toInt) = pu (fun j => (unc (M (c + 1) j).toInt, (M (c + 2) j).toInt)) j (unc (M (c + 1) j).toInt, ((ix (M c 7) : Nat) : Int)) k
    rw [r1, r2]
    by_cases e : k = j
    · rw [e, upd_e, pu_s, t_ixn _ h0]
    · rw [upd_o e, pu_n e]
theorem scl_eq {M N : Mem} {c : Nat} (h3 : N 19 3 = M 19 3) (h7 : N c 7 = M c 7) (r1 : ∀ k, N (c + 1) k = M (c + 1) k) (r2 : ∀ k, N (c + 2) k = M (c + 2) k) : sC N c = sC M c := sc_fwd (by rw [h3]) h7 r1 r2
theorem sc_1 (M : Mem) (c : Nat) : (sC M c).1 = (M 19 3).toInt := rfl
theorem sc_2 (M : Mem) (c : Nat) : (sC M c).2.1 = ix (M c 7) := rfl
theorem ends_c {M : Mem} {T : Int → Int} (hT : TXc M = T) : Ends T (M 19 2).toInt := fun p hp => by
  rw [← hT]
  exact txt_out (by omega)
/-- what a reading method gives: its fault, or the state behind -/
def LwP (r : Sum Int Cst) (res flt : Int) (s : Cst) : Prop := match r with
  | .inl f => res = 0 ∧ flt = f
  | .inr s1 => ¬ res = 0 ∧ s = s1
theorem lwp_f {r : Sum Int Cst} {res flt : Int} {s : Cst} (h : LwP r res flt s) (hr : res = 0) : r = .inl flt := by
  cases r with
  | inl f => exact congrArg Sum.inl h.2.symm
  | inr q => exact absurd hr h.1
theorem lwp_v {r : Sum Int Cst} {res flt : Int} {s : Cst} (h : LwP r res flt s) (hr : ¬ res = 0) : r = .inr s := by
  cases r with
  | inl f => exact absurd h.1 hr
  | inr q => exact congrArg Sum.inr h.2.symm
theorem lwp_b {r : Sum Int Cst} {f : Cst → Sum Int Cst} {res flt : Int} {s : Cst} {e : Int} (h : r = .inl e) (h1 : res = 0) (h2 : flt = e) : LwP (bnS r f) res flt s := by
  rw [h]
  exact ⟨h1, h2⟩
theorem xpc_y {T : Int → Int} {c : Int} {s : Cst} (h : T s.1 = c) : xpc T c s = .inr (fwd s (s.1 + 1)) := if_pos h
theorem xpc_n {T : Int → Int} {c : Int} {s : Cst} (h : ¬ T s.1 = c) : xpc T c s = .inl (-1000 - s.1) := if_neg h
/-- bounds of a state behind a reading method -/
def Bds (M N : Mem) (c : Nat) : Prop := (0 ≤ (N c 7).toInt ∧ (N c 7).toInt ≤ (N 19 3).toInt) ∧ (M 19 3).toInt < (N 19 3).toInt ∧ (N 19 3).toInt ≤ (M 19 2).toInt ∧ (N c 7).toInt + (M 19 3).toInt ≤ (M c 7).toInt + (N 19 3).toInt
def sgU (x : Int) : Int := if x = 0 then 0 else unc x
theorem sgn_4 {x : Int} (h : x = 42 ∨ x = 47 ∨ x = 37) : 4 ≤ sgn x ∧ sgn x ≤ 6 := by
  rcases h with z | z | z <;> rw [z] <;> decide
theorem sgn_2 {x : Int} (h : x = 43 ∨ x = 45) : 2 ≤ sgn x ∧ sgn x ≤ 3 := by
  rcases h with z | z <;> rw [z] <;> decide
theorem sgn_0 {x : Int} (h1 : ¬ x = 42) (h2 : ¬ x = 47) (h3 : ¬ x = 37) (h4 : ¬ x = 43) (h5 : ¬ x = 45) : sgn x = 0 := by
  unfold sgn
  rw [if_neg h4, if_neg h5, if_neg h1, if_neg h2, if_neg h3]
theorem sgn_s {x : Int} (h1 : ¬ x = 42) (h2 : ¬ x = 47) (h3 : ¬ x = 37) : sgn x ≤ 3 := by
  by_cases h4 : x = 43
  · rw [h4]; decide
  · by_cases h5 : x = 45
    · rw [h5]; decide
    · rw [sgn_0 h1 h2 h3 h4 h5]; decide
theorem unc_sgn {x : Int} (h : ¬ sgn x = 0) : unc x = sgn x := by
  by_cases h1 : x = 43
  · rw [h1]; decide
  · by_cases h2 : x = 45
    · rw [h2]; decide
    · by_cases h3 : x = 42
      · rw [h3]; decide
      · by_cases h4 : x = 47
        · rw [h4]; decide
        · by_cases h5 : x = 37
          · rw [h5]; decide
          · exact absurd (sgn_0 h3 h4 h5 h1 h2) h
theorem cmq_y {x : Int} (h : x = 60 ∨ x = 62 ∨ x = 61) : ¬ cmq x = 0 := by
  rcases h with z | z | z <;> rw [z] <;> decide
theorem cmq_n {x : Int} (h1 : ¬ x = 60) (h2 : ¬ x = 62) (h3 : ¬ x = 61) : cmq x = 0 := by
  unfold cmq
  rw [if_neg h1, if_neg h2, if_neg h3]
theorem unc_cmq {x : Int} (h : ¬ cmq x = 0) : unc x = cmq x := by
  by_cases h1 : x = 60
  · rw [h1]; decide
  · by_cases h2 : x = 62
    · rw [h2]; decide
    · by_cases h3 : x = 61
      · rw [h3]; decide
      · exact absurd (cmq_n h1 h2 h3) h
def BdI (res : Int) (M N : Mem) (c : Nat) : Prop := ¬ res = 0 → Bds M N c
theorem bds_of {M N : Mem} {c : Nat} (hR : Rm (M 19 2).toInt (sC M c) 0 (sC N c)) (hn : 0 ≤ (M c 7).toInt ∧ (M c 7).toInt ≤ (M 19 3).toInt) (h1 : 0 ≤ (N c 7).toInt) : Bds M N c := by
  obtain ⟨a1, a2, a3⟩ := hR
  have b1 : (M 19 3).toInt < (N 19 3).toInt := a1
  have b2 : (N 19 3).toInt ≤ (M 19 2).toInt := a2
  have b3 : ((ix (N c 7) : Nat) : Int) + (M 19 3).toInt ≤ ((ix (M c 7) : Nat) : Int) + (N 19 3).toInt + 0 := a3
  rw [t_ixn _ h1, t_ixn _ hn.1] at b3
  exact ⟨⟨h1, by omega⟩, b1, b2, by omega⟩
theorem un48 : unc (nI 48).toInt = 0 := by decide
theorem un97 : unc (nI 97).toInt = 1 := by decide
theorem un33 : unc (nI 33).toInt = 10 := by decide
def OkS (y : Int) : Prop := ¬ y = 0 → ¬ sgn y = 0
def TsP (t r : Int) : Prop := (t = r ∧ 4 ≤ sgn r) ∨ (t = 0 ∧ sgn r ≤ 3)
theorem tsp_y {t r : Int} (h : TsP t r) (ht : ¬ t = 0) : t = r ∧ 4 ≤ sgn r := h.resolve_right (fun z => ht z.1)
theorem tsp_n {t r : Int} (h : TsP t r) (ht : t = 0) : sgn r ≤ 3 := by
  rcases h with z | z
  · rw [← z.1, ht] at z
    exact absurd z.2 (by decide)
  · exact z.2
theorem opt_n {s : Cst} {y : Int} (h : y = 0) : opt s (sgn y) = s := by
  rw [h]
  rfl
theorem opt_y {s : Cst} {y : Int} (hk : OkS y) (h : ¬ y = 0) : opt s (sgn y) = emt s (unc y) 0 := by
  unfold opt
  rw [if_neg (hk h), unc_sgn (hk h)]
theorem cn_n {y : Int} (h : y = 0) : cn (sgn y) = 0 := by
  rw [h]
  rfl
theorem cn_y {y : Int} (hk : OkS y) (h : ¬ y = 0) : cn (sgn y) = 1 := cn_1 (hk h)
theorem sumT_t {T : Int → Int} {L : Int → Int → Cst → Sum Int Cst} {ss ts : Int} {s : Cst} (h : 4 ≤ sgn (T s.1)) : sumT T L ss ts s = L ss (sgn (T s.1)) (fwd (opt s ts) (s.1 + 1)) := if_pos h
theorem sumT_e {T : Int → Int} {L : Int → Int → Cst → Sum Int Cst} {ss ts : Int} {s : Cst} (h : sgn (T s.1) = 0) : sumT T L ss ts s = .inr (opt (opt s ts) ss) := by
  unfold sumT
  rw [if_neg (by omega), if_pos h]
theorem sumT_s {T : Int → Int} {L : Int → Int → Cst → Sum Int Cst} {ss ts : Int} {s : Cst} (h : ¬ 4 ≤ sgn (T s.1)) (h2 : ¬ sgn (T s.1) = 0) : sumT T L ss ts s = L (sgn (T s.1)) 0 (fwd (opt (opt s ts) ss) (s.1 + 1)) := by
  unfold sumT
  rw [if_neg h, if_neg h2]
theorem fct_n {x : Int} (h : ¬ x = 105 ∧ ¬ x = 120 ∧ ¬ x = 121 ∧ ¬ x = 115 ∧ ¬ x = 101 ∧ ¬ x = 110 ∧ ¬ x = 114 ∧ ¬ x = 103) : fct x = -1 := by
  obtain ⟨h1, h2, h3, h4, h5, h6, h7, h8⟩ := h
  unfold fct
  rw [if_neg h1, if_neg h2, if_neg h3, if_neg h4, if_neg h5, if_neg h6, if_neg h7, if_neg h8]
theorem sgn_z {t r : Int} (h : TsP t r) (ht : t = 0) (h1 : ¬ r = 43) (h2 : ¬ r = 45) : sgn r = 0 := by
  have h3 := tsp_n h ht
  unfold sgn at h3 ⊢
  rw [if_neg h1, if_neg h2] at h3 ⊢
  split at h3
  · omega
  · rename_i h4
    rw [if_neg h4]
    split at h3
    · omega
    · rename_i h5
      rw [if_neg h5]
      split at h3
      · omega
      · rename_i h6
        rw [if_neg h6]
theorem okt_of {t r : Int} (h : TsP t r) : OkS t := fun z => by
  have h1 := tsp_y h z
  rw [h1.1]
  omega
theorem tstD_p {T : Int → Int} {d : Nat} {s : Cst} (h : T s.1 = 40) (hd : ¬ d = 0) : tstD T d s = bnS (choD T (d - 1) (fwd s (s.1 + 1))) (xpc T 41) := by
  rw [tstD_is]
  unfold tstS
  rw [if_pos (Or.inr h), if_neg hd, if_pos h]
theorem tstD_x {T : Int → Int} {d : Nat} {s : Cst} (h : T s.1 = 33) (hd : ¬ d = 0) : tstD T d s = bnS (tstD T (d - 1) (fwd s (s.1 + 1))) xNot := by
  rw [tstD_is]
  unfold tstS
  rw [if_pos (Or.inl h), if_neg hd, if_neg (by omega)]
  rfl
theorem tstD_5 {T : Int → Int} {d : Nat} {s : Cst} (h : T s.1 = 33 ∨ T s.1 = 40) (hd : d = 0) : tstD T d s = .inl (-5000 - s.1) := by
  rw [tstD_is]
  unfold tstS
  rw [if_pos h, if_pos hd]
theorem tstD_c {T : Int → Int} {d : Nat} {s : Cst} (h1 : ¬ T s.1 = 33) (h2 : ¬ T s.1 = 40) : tstD T d s = cmpS T d s := by
  rw [tstD_is]
  unfold tstS
  rw [if_neg (fun z => z.elim h1 h2)]
theorem cmpS_1 {T : Int → Int} {d : Nat} {s : Cst} {f : Int} (h : sumD T d s = .inl f) : cmpS T d s = .inl f := by
  unfold cmpS
  rw [h, bnS_l]
theorem cmpS_2 {T : Int → Int} {d : Nat} {s s1 : Cst} (h : sumD T d s = .inr s1) (hc : cmq (T s1.1) = 0) : cmpS T d s = .inl (-1000 - s1.1) := by
  unfold cmpS
  rw [h, bnS_r, if_pos hc]
theorem cmpS_3 {T : Int → Int} {d : Nat} {s s1 : Cst} {f : Int} (h : sumD T d s = .inr s1) (hc : ¬ cmq (T s1.1) = 0) (h2 : sumD T d (fwd s1 (s1.1 + 1)) = .inl f) : cmpS T d s = .inl f := by
  unfold cmpS
  rw [h, bnS_r, if_neg hc, h2, bnS_l]
theorem cmpS_4 {T : Int → Int} {d : Nat} {s s1 s2 : Cst} (h : sumD T d s = .inr s1) (hc : ¬ cmq (T s1.1) = 0) (h2 : sumD T d (fwd s1 (s1.1 + 1)) = .inr s2) : cmpS T d s = .inr (emt s2 (cmq (T s1.1)) 0) := by
  unfold cmpS
  rw [h, bnS_r, if_neg hc, h2, bnS_r]
def jo (y : Int32) : Option Nat := if y.toInt < 0 then none else some (ix y)
theorem jo_n {y : Int32} (h : y.toInt < 0) : jo y = none := if_pos h
theorem jo_y {y : Int32} (h : 0 ≤ y.toInt) : jo y = some (ix y) := if_neg (by omega)
theorem ld_is {s t : Cst} {y : Int32} (h1 : y.toInt < 0 → t = s) (h2 : 0 ≤ y.toInt → t = lnd s (some (ix y))) : t = lnd s (jo y) := by
  by_cases h : y.toInt < 0
  · rw [jo_n h]; exact h1 h
  · rw [jo_y (by omega)]; exact h2 (by omega)
theorem choT_a {T : Int → Int} {L : Option Nat → Option Nat → Cst → Sum Int Cst} {aj oj : Option Nat} {s : Cst} (h : T s.1 = 38) : choT T L aj oj s = L (some s.2.1) oj (fwd (emt (lnd s aj) 11 0) (s.1 + 1)) := if_pos h
theorem choT_o {T : Int → Int} {L : Option Nat → Option Nat → Cst → Sum Int Cst} {aj oj : Option Nat} {s : Cst} (h1 : ¬ T s.1 = 38) (h : T s.1 = 124) : choT T L aj oj s = L none (some s.2.1) (fwd (emt (lnd (lnd s aj) oj) 12 0) (s.1 + 1)) := by
  unfold choT
  rw [if_neg h1, if_pos h]
theorem choT_e {T : Int → Int} {L : Option Nat → Option Nat → Cst → Sum Int Cst} {aj oj : Option Nat} {s : Cst} (h1 : ¬ T s.1 = 38) (h : ¬ T s.1 = 124) : choT T L aj oj s = .inr (lnd (lnd s aj) oj) := by
  unfold choT
  rw [if_neg h1, if_neg h]
def B01 (x : Int) : Prop := x = 0 ∨ x = 1
/-! rules -/
def tC (M : Mem) (c : Nat) : Tbl := fun r => ((M (c + 4) r).toInt, ix (M (c + 5) r), ix (M (c + 6) r), ix (M (c + 7) r))
def LawP (r : Sum Int (Nat × Cst × Tbl)) (res : Int) (N : Mem) (c : Nat) : Prop := match r with
  | .inl f => res = f
  | .inr q => res = (q.1 : Int) ∧ sC N c = q.2.1 ∧ tC N c = q.2.2 ∧ (N c 8).toInt = (q.1 : Int)
theorem lawp_v {r : Sum Int (Nat × Cst × Tbl)} {res : Int} {N : Mem} {c : Nat} (h : LawP r res N c) : res = lwV r := by
  cases r with
  | inl f => exact h
  | inr q => exact h.1
theorem lawA_1 {T : Int → Int} {k r : Nat} {s : Cst} {tb : Tbl} (h : rlt (T s.1) = false) : lawA T (k + 1) r s tb = .inl (-1000 - s.1) := by
  simp only [lawA]
  rw [if_pos h]
theorem lawA_4 {T : Int → Int} {k r : Nat} {s : Cst} {tb : Tbl} (h : rlt (T s.1) = true) (hr : r = 16) : lawA T (k + 1) r s tb = .inl (-4000 - s.1) := by
  simp only [lawA]
  rw [if_neg (by rw [h]; decide), if_pos hr]
theorem lawA_e {T : Int → Int} {k r : Nat} {s : Cst} {tb : Tbl} {f : Int} (h : rlt (T s.1) = true) (hr : ¬ r = 16) (h1 : rlE T s = .inl f) : lawA T (k + 1) r s tb = .inl f := by
  simp only [lawA]
  rw [if_neg (by rw [h]; decide), if_neg hr, h1]
theorem lawA_c {T : Int → Int} {k r : Nat} {s s1 : Cst} {tb : Tbl} {f : Int} (h : rlt (T s.1) = true) (hr : ¬ r = 16) (h1 : rlE T s = .inr s1) (h2 : rlC T s1 = .inl f) : lawA T (k + 1) r s tb = .inl f := by
  simp only [lawA]
  rw [if_neg (by rw [h]; decide), if_neg hr, h1]
  show (match rlC T s1 with | .inl f => _ | .inr s2 => _) = _
  rw [h2]
theorem lawA_z {T : Int → Int} {k r : Nat} {s s1 s2 : Cst} {tb : Tbl} (h : rlt (T s.1) = true) (hr : ¬ r = 16) (h1 : rlE T s = .inr s1) (h2 : rlC T s1 = .inr s2) (h3 : T s2.1 = -1) : lawA T (k + 1) r s tb = .inr (r + 1, s2, pu tb r (T s.1, s.2.1, s1.2.1, s2.2.1)) := by
  simp only [lawA]
  rw [if_neg (by rw [h]; decide), if_neg hr, h1]
  show (match rlC T s1 with | .inl f => _ | .inr s2 => _) = _
  rw [h2]
  exact if_pos h3
theorem lawA_n {T : Int → Int} {k r : Nat} {s s1 s2 : Cst} {tb : Tbl} (h : rlt (T s.1) = true) (hr : ¬ r = 16) (h1 : rlE T s = .inr s1) (h2 : rlC T s1 = .inr s2) (h3 : T s2.1 = 59) : lawA T (k + 1) r s tb = lawA T k (r + 1) (fwd s2 (s2.1 + 1)) (pu tb r (T s.1, s.2.1, s1.2.1, s2.2.1)) := by
  simp only [lawA]
  rw [if_neg (by rw [h]; decide), if_neg hr, h1]
  show (match rlC T s1 with | .inl f => _ | .inr s2 => _) = _
  rw [h2]
  show (if T s2.1 = -1 then _ else _) = _
  rw [if_neg (by omega), if_pos h3]
theorem lawA_w {T : Int → Int} {k r : Nat} {s s1 s2 : Cst} {tb : Tbl} (h : rlt (T s.1) = true) (hr : ¬ r = 16) (h1 : rlE T s = .inr s1) (h2 : rlC T s1 = .inr s2) (h3 : ¬ T s2.1 = -1) (h4 : ¬ T s2.1 = 59) : lawA T (k + 1) r s tb = .inl (-1000 - s2.1) := by
  simp only [lawA]
  rw [if_neg (by rw [h]; decide), if_neg hr, h1]
  show (match rlC T s1 with | .inl f => _ | .inr s2 => _) = _
  rw [h2]
  show (if T s2.1 = -1 then _ else _) = _
  rw [if_neg h3, if_neg h4]
theorem rlE_x {T : Int → Int} {s : Cst} (h : T s.1 = 120) : rlE T s = .inr (fwd s (s.1 + 1)) := if_pos h
theorem rlE_s {T : Int → Int} {s : Cst} (h : ¬ T s.1 = 120) : rlE T s = sumD T 6 (fwd s (s.1 + 1)) := if_neg h
theorem rlC_1 {T : Int → Int} {s : Cst} (h : ¬ T s.1 = 40) : rlC T s = .inl (-1000 - s.1) := by
  unfold rlC
  rw [xpc_n h, bnS_l]
theorem rlC_2 {T : Int → Int} {s : Cst} {f : Int} (h : T s.1 = 40) (h2 : choD T 5 (fwd s (s.1 + 1)) = .inl f) : rlC T s = .inl f := by
  unfold rlC
  rw [xpc_y h, bnS_r, h2, bnS_l]
theorem rlC_3 {T : Int → Int} {s s2 : Cst} (h : T s.1 = 40) (h2 : choD T 5 (fwd s (s.1 + 1)) = .inr s2) (h3 : ¬ T s2.1 = 41) : rlC T s = .inl (-1000 - s2.1) := by
  unfold rlC
  rw [xpc_y h, bnS_r, h2, bnS_r, xpc_n h3]
theorem rlC_4 {T : Int → Int} {s s2 : Cst} (h : T s.1 = 40) (h2 : choD T 5 (fwd s (s.1 + 1)) = .inr s2) (h3 : T s2.1 = 41) : rlC T s = .inr (fwd s2 (s2.1 + 1)) := by
  unfold rlC
  rw [xpc_y h, bnS_r, h2, bnS_r, xpc_y h3]
theorem rlt_y {x : Int} (h : x = 117 ∨ x = 100 ∨ x = 111 ∨ x = 98 ∨ x = 120) : rlt x = true := decide_eq_true h
theorem rlt_n {x : Int} (h : ¬ (x = 117 ∨ x = 100 ∨ x = 111 ∨ x = 98 ∨ x = 120)) : rlt x = false := decide_eq_false h
theorem tc_row {M N : Mem} {c r : Nat} {l a h u : Int32} {L : Int} {A H U : Nat} (e4 : ∀ j, N (c + 4) j = upd (M (c + 4)) r l j) (e5 : ∀ j, N (c + 5) j = upd (M (c + 5)) r a j) (e6 : ∀ j, N (c + 6) j = upd (M (c + 6)) r h j) (e7 : ∀ j, N (c + 7) j = upd (M (c + 7)) r u j) (hl : l.toInt = L) (ha : ix a = A) (hh : ix h = H) (hu : ix u = U) : tC N c = pu (tC M c) r (L, A, H, U) := funext (fun j => by
  show ((N (c + 4) j).toInt, ix (N (c + 5) j), ix (N (c + 6) j), ix (N (c + 7) j)) = _
  rw [e4, e5, e6, e7]
  by_cases e : j = r
  · rw [e, upd_e, upd_e, upd_e, upd_e, pu_s, hl, ha, hh, hu]
  · rw [upd_o e, upd_o e, upd_o e, upd_o e, pu_n e]
    rfl)
theorem tc_fr {M N : Mem} {c : Nat} (e4 : ∀ j, N (c + 4) j = M (c + 4) j) (e5 : ∀ j, N (c + 5) j = M (c + 5) j) (e6 : ∀ j, N (c + 6) j = M (c + 6) j) (e7 : ∀ j, N (c + 7) j = M (c + 7) j) : tC N c = tC M c := funext (fun j => by
  show ((N (c + 4) j).toInt, ix (N (c + 5) j), ix (N (c + 6) j), ix (N (c + 7) j)) = ((M (c + 4) j).toInt, ix (M (c + 5) j), ix (M (c + 6) j), ix (M (c + 7) j))
  rw [e4, e5, e6, e7])
