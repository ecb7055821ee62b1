/-! faults are below 0; each code is one of a rule's; the law that rules -/
def Np (r : Sum Int Cst) : Prop := match r with
  | .inl f => f < 0
  | .inr s => 0 ≤ s.1
theorem np_l {f : Int} (h : f < 0) : Np (.inl f) := h
theorem np_r {s : Cst} (h : 0 ≤ s.1) : Np (.inr s) := h
theorem np_bn {r : Sum Int Cst} {f : Cst → Sum Int Cst} (h : Np r) (hf : ∀ s, 0 ≤ s.1 → Np (f s)) : Np (bnS r f) := by
  cases r with
  | inl e => exact h
  | inr s => exact hf s h
theorem np_x {T : Int → Int} {c : Int} {s : Cst} (h : 0 ≤ s.1) : Np (xpc T c s) := by
  unfold xpc
  by_cases e : T s.1 = c
  · rw [if_pos e]
    exact np_r (show 0 ≤ s.1 + 1 by omega)
  · rw [if_neg e]
    exact np_l (by omega)
theorem np_num {T : Int → Int} {s : Cst} (h : 0 ≤ s.1) : Np (numC T s) := by
  unfold numC numS
  by_cases a : nd T s.1 5 = 0
  · rw [if_pos a]
    exact np_l (show -1000 - s.1 < 0 by omega)
  · rw [if_neg a]
    by_cases b : dgt (T (s.1 + nd T s.1 5)) = true
    · rw [if_pos b]
      exact np_l (show -2000 - (s.1 + nd T s.1 5) < 0 by omega)
    · rw [if_neg b]
      exact np_r (show 0 ≤ s.1 + nd T s.1 5 by omega)
theorem np_fac {T : Int → Int} {d : Nat} {S : Cst → Sum Int Cst} {s : Cst} (h : 0 ≤ s.1) (hS : ¬ d = 0 → ∀ s, 0 ≤ s.1 → Np (S s)) : Np (facS T d S s) := by
  unfold facS
  by_cases a : T s.1 = 91
  · rw [if_pos a]
    by_cases b : d = 0
    · rw [if_pos b]
      exact np_l (by omega)
    · rw [if_neg b]
      exact np_bn (hS b _ (show 0 ≤ s.1 + 1 by omega)) (fun s h => np_x h)
  · rw [if_neg a]
    by_cases b : dgt (T s.1) = true
    · rw [if_pos b]
      exact np_num h
    · rw [if_neg b]
      by_cases c : fct (T s.1) = -1
      · rw [if_pos c]
        exact np_l (by omega)
      · rw [if_neg c]
        exact np_r (show 0 ≤ s.1 + 1 by omega)
theorem np_sumL {T : Int → Int} {F : Cst → Sum Int Cst} (hF : ∀ s, 0 ≤ s.1 → Np (F s)) : ∀ (k : Nat) (ss ts : Int) (s : Cst), 0 ≤ s.1 → Np (sumL T F k ss ts s)
  | 0, ss, ts, s, h => by
    rw [sumL_0]
    exact np_l (by omega)
  | k + 1, ss, ts, s, h => by
    rw [sumL_s]
    refine np_bn (hF s h) (fun s1 h1 => ?_)
    unfold sumT
    by_cases a : 4 ≤ sgn (T s1.1)
    · rw [if_pos a]
      exact np_sumL hF k _ _ _ (show 0 ≤ s1.1 + 1 by omega)
    · rw [if_neg a]
      by_cases b : sgn (T s1.1) = 0
      · rw [if_pos b]
        exact np_r (by rw [opt_1, opt_1]; exact h1)
      · rw [if_neg b]
        exact np_sumL hF k _ _ _ (show 0 ≤ s1.1 + 1 by omega)
theorem np_sumD {T : Int → Int} : ∀ (d : Nat) (s : Cst), 0 ≤ s.1 → Np (sumD T d s)
  | 0, s, h => by
    rw [sumD_is]
    exact np_sumL (fun s h => (np_fac h (fun z => absurd rfl z) : Np (facS T 0 (fun s => .inl s.1) s))) 240 0 0 s h
  | d + 1, s, h => by
    rw [sumD_is]
    exact np_sumL (fun s h => (np_fac h (fun _ => np_sumD d) : Np (facS T (d + 1) (sumD T d) s))) 240 0 0 s h
theorem np_cmp {T : Int → Int} {d : Nat} {s : Cst} (h : 0 ≤ s.1) : Np (cmpS T d s) := by
  unfold cmpS
  refine np_bn (np_sumD d s h) (fun s1 h1 => ?_)
  by_cases a : cmq (T s1.1) = 0
  · rw [if_pos a]
    exact np_l (by omega)
  · rw [if_neg a]
    exact np_bn (np_sumD d _ (show 0 ≤ s1.1 + 1 by omega)) (fun s2 h2 => np_r h2)
theorem np_tst {T : Int → Int} {d : Nat} {C P : Cst → Sum Int Cst} {s : Cst} (h : 0 ≤ s.1) (hC : ¬ d = 0 → ∀ s, 0 ≤ s.1 → Np (C s)) (hP : ¬ d = 0 → ∀ s, 0 ≤ s.1 → Np (P s)) : Np (tstS T d C P s) := by
  unfold tstS
  by_cases a : T s.1 = 33 ∨ T s.1 = 40
  · rw [if_pos a]
    by_cases b : d = 0
    · rw [if_pos b]
      exact np_l (by omega)
    · rw [if_neg b]
      by_cases c : T s.1 = 40
      · rw [if_pos c]
        exact np_bn (hC b _ (show 0 ≤ s.1 + 1 by omega)) (fun s h => np_x h)
      · rw [if_neg c]
        exact np_bn (hP b _ (show 0 ≤ s.1 + 1 by omega)) (fun s h => np_r h)
  · rw [if_neg a]
    exact np_cmp h
theorem np_choL {T : Int → Int} {P : Cst → Sum Int Cst} (hP : ∀ s, 0 ≤ s.1 → Np (P s)) : ∀ (k : Nat) (aj oj : Option Nat) (s : Cst), 0 ≤ s.1 → Np (choL T P k aj oj s)
  | 0, aj, oj, s, h => by
    rw [choL_0]
    exact np_l (by omega)
  | k + 1, aj, oj, s, h => by
    rw [choL_s]
    refine np_bn (hP s h) (fun s1 h1 => ?_)
    unfold choT
    by_cases a : T s1.1 = 38
    · rw [if_pos a]
      exact np_choL hP k _ _ _ (show 0 ≤ s1.1 + 1 by omega)
    · rw [if_neg a]
      by_cases b : T s1.1 = 124
      · rw [if_pos b]
        exact np_choL hP k _ _ _ (show 0 ≤ s1.1 + 1 by omega)
      · rw [if_neg b]
        exact np_r (by rw [lnd_1, lnd_1]; exact h1)
theorem np_tstD {T : Int → Int} : ∀ (d : Nat) (s : Cst), 0 ≤ s.1 → Np (tstD T d s)
  | 0, s, h => (np_tst h (fun z => absurd rfl z) (fun z => absurd rfl z) : Np (tstS T 0 (fun s => .inl s.1) (fun s => .inl s.1) s))
  | d + 1, s, h => (np_tst h (fun _ => np_choL (np_tstD d) 240 none none) (fun _ => np_tstD d) : Np (tstS T (d + 1) (choL T (tstD T d) 240 none none) (tstD T d) s))
theorem np_choD {T : Int → Int} (d : Nat) (s : Cst) (h : 0 ≤ s.1) : Np (choD T d s) := np_choL (np_tstD d) 240 none none s h
theorem np_rlE {T : Int → Int} {s : Cst} (h : 0 ≤ s.1) : Np (rlE T s) := by
  unfold rlE
  by_cases c : T s.1 = 120
  · rw [if_pos c]
    exact np_r (show 0 ≤ s.1 + 1 by omega)
  · rw [if_neg c]
    exact np_sumD 6 _ (show 0 ≤ s.1 + 1 by omega)
theorem np_rlC {T : Int → Int} {s : Cst} (h : 0 ≤ s.1) : Np (rlC T s) := by
  unfold rlC
  exact np_bn (np_x h) (fun s1 h1 => np_bn (np_choD 5 s1 h1) (fun s2 h2 => np_x h2))
def RlK (r : Nat) (s : Cst) (tb : Tbl) : Prop := ∀ j, j < s.2.1 → ∃ i, i < r ∧ (tb i).2.1 ≤ j ∧ j < (tb i).2.2.2
def LwZ (r : Sum Int (Nat × Cst × Tbl)) : Prop := match r with
  | .inl f => f < 0
  | .inr q => RlK q.1 q.2.1 q.2.2
theorem lwz_law {T : Int → Int} : ∀ (k r : Nat) (s : Cst) (tb : Tbl), r + k = 17 → r ≤ 16 → 0 ≤ s.1 → RlK r s tb → LwZ (lawA T k r s tb)
  | 0, r, s, tb, hk, hr, _, _ => absurd hk (by omega)
  | k + 1, r, s, tb, hk, hr, h0, g => by
    cases c1 : rlt (T s.1) with
    | false =>
      rw [lawA_1 c1]
      exact (show -1000 - s.1 < 0 by omega)
    | true =>
      by_cases c2 : r = 16
      · rw [lawA_4 c1 c2]
        exact (show -4000 - s.1 < 0 by omega)
      · have p1 := np_rlE (T := T) h0
        cases e1 : rlE T s with
        | inl f =>
          rw [lawA_e c1 c2 e1]
          rw [e1] at p1
          exact p1
        | inr s1 =>
          rw [e1] at p1
          have p2 := np_rlC (T := T) (s := s1) p1
          cases e2 : rlC T s1 with
          | inl f =>
            rw [lawA_c c1 c2 e1 e2]
            rw [e2] at p2
            exact p2
          | inr s2 =>
            rw [e2] at p2
            have p3 : 0 ≤ s2.1 := p2
            have gn : RlK (r + 1) s2 (pu tb r (T s.1, s.2.1, s1.2.1, s2.2.1)) := fun j hj => by
              by_cases c : j < s.2.1
              · obtain ⟨i, i1, i2, i3⟩ := g j c
                refine ⟨i, by omega, ?_, ?_⟩ <;> rw [pu_n (by omega)]
                · exact i2
                · exact i3
              · refine ⟨r, by omega, ?_, ?_⟩ <;> rw [pu_s]
                · exact Nat.le_of_not_lt c
                · exact hj
            by_cases c3 : T s2.1 = -1
            · rw [lawA_z c1 c2 e1 e2 c3]
              exact gn
            · by_cases c4 : T s2.1 = 59
              · rw [lawA_n c1 c2 e1 e2 c4]
                exact lwz_law k (r + 1) _ _ (by omega) (by omega) (show 0 ≤ s2.1 + 1 by omega) gn
              · rw [lawA_w c1 c2 e1 e2 c3 c4]
                exact (show -1000 - s2.1 < 0 by omega)
/-- what a law's text is compiled to, from nothing -/
def lawT (T : Int → Int) : Sum Int (Nat × Cst × Tbl) := lawA T 17 0 (0, 0, fun _ => (0, 0)) (fun _ => (0, 0, 0, 0))
theorem lk_lawT {T : Int → Int} {p : Int} {f : Nat → Int × Int} {tb : Tbl} (hp : p = 0) : LkA (lawA T 17 0 (p, 0, f) tb) (lawT T) := lk_lawA 17 0 _ _ _ _ ⟨hp, rfl, fun j hj => absurd hj (Nat.not_lt_zero _)⟩ (fun i hi => absurd hi (Nat.not_lt_zero _))
theorem lwz_T (T : Int → Int) : LwZ (lawT T) := lwz_law 17 0 _ _ rfl (by omega) (Int.le_refl _) (fun j hj => absurd hj (Nat.not_lt_zero _))
theorem rlg_T {T : Int → Int} {q : Nat × Cst × Tbl} (h : lawT T = .inr q) : RlG q.1 q.2.1 q.2.2 := rlg_law 17 0 _ _ q ⟨by omega, fun i hi => absurd hi (Nat.not_lt_zero _), fun i hi => absurd hi (Nat.not_lt_zero _)⟩ h
theorem rm_T {T : Int → Int} {n : Int} (hT : Ends T n) {q : Nat × Cst × Tbl} (h : lawT T = .inr q) : (q.2.1.2.1 : Int) ≤ n ∧ 0 < q.1 := law_rm hT 17 0 _ _ q (Int.le_refl _) h
/-! the reference -/
def LwS (M N : Mem) : Prop := N 0 15 = M 0 15 ∧ ∀ a i, 12 ≤ a → a ≤ 16 → N a i = M a i
def LwM (N : Mem) (q : Nat × Cst × Tbl) : Prop := (N 0 15).toInt = (q.1 : Int) ∧ (∀ j, j < q.2.1.2.1 → (kd (N 12 j), vl (N 12 j)) = q.2.1.2.2 j) ∧ ∀ r, r < q.1 → ((N 13 r).toInt, ix (N 14 r), ix (N 15 r), ix (N 16 r)) = q.2.2 r
def LwE (r : Sum Int (Nat × Cst × Tbl)) (M N : Mem) : Prop := match r with
  | .inl _ => LwS M N
  | .inr q => LwM N q
theorem lwe_l {r r' : Sum Int (Nat × Cst × Tbl)} {f : Int} {M N : Mem} (h : LkA r r') (e : r = .inl f) (hs : LwS M N) : LwE r' M N := by
  rw [e] at h
  have e2 : r' = .inl f := h
  rw [e2]
  exact hs
theorem lwe_r {r r' : Sum Int (Nat × Cst × Tbl)} {q : Nat × Cst × Tbl} {M N : Mem} (h : LkA r r') (e : r = .inr q) (hm : LwM N q) : LwE r' M N := by
  rw [e] at h
  obtain ⟨q', e1, e2, e3, e4⟩ : ∃ q', r' = .inr q' ∧ q.1 = q'.1 ∧ Lk q.2.1 q'.2.1 ∧ ∀ i, i < q.1 → q.2.2 i = q'.2.2 i := h
  rw [e1]
  obtain ⟨m1, m2, m3⟩ := hm
  obtain ⟨l1, l2, l3⟩ := e3
  exact ⟨by rw [← e2]; exact m1, fun j hj => by rw [← l2] at hj; rw [← l3 j hj]; exact m2 j hj, fun r hr => by rw [← e2] at hr; rw [← e4 r hr]; exact m3 r hr⟩
/-! the class -/
def LcS (M N : Mem) : Prop := N 0 10 = M 0 10 ∧ N 0 11 = M 0 11 ∧ ∀ c : Nat, (M 0 10).toInt = (c : Int) → ∀ a i, c ≤ a → a ≤ c + 7 → N a i = M a i
def LcM (N : Mem) (c : Nat) (q : Nat × Cst × Tbl) : Prop := (N c 8).toInt = (q.1 : Int) ∧ (0 ≤ (N c 7).toInt ∧ ix (N c 7) = q.2.1.2.1) ∧ (∀ j, j < q.2.1.2.1 → (unc (N (c + 1) j).toInt, (N (c + 2) j).toInt) = q.2.1.2.2 j) ∧ NR N c q.1 ∧ ∀ r, r < q.1 → tC N c r = q.2.2 r
def LcE (r : Sum Int (Nat × Cst × Tbl)) (M N : Mem) : Prop := match r with
  | .inl _ => LcS M N
  | .inr q => N 0 10 = M 0 11 ∧ N 0 11 = M 0 10 ∧ ∀ c : Nat, (M 0 11).toInt = (c : Int) → LcM N c q ∧ FLG N c
theorem lc_no {T : Int → Int} {r : Sum Int (Nat × Cst × Tbl)} {res n : Int} {M N P : Mem} {c : Nat} (hT : Ends T n) (h : LkA r (lawT T)) (hA : LawP r res P c) (hr : res ≤ 0) (hs : LcS M N) : LcE (lawT T) M N := by
  cases r with
  | inl f =>
    have e : lawT T = .inl f := h
    rw [e]
    exact hs
  | inr q =>
    obtain ⟨q', e1, e2, e3⟩ : ∃ q', lawT T = .inr q' ∧ q.1 = q'.1 ∧ Lk q.2.1 q'.2.1 ∧ ∀ i, i < q.1 → q.2.2 i = q'.2.2 i := h
    have z := (rm_T hT e1).2
    have z2 : res = (q.1 : Int) := hA.1
    omega
theorem lc_yes {T : Int → Int} {r : Sum Int (Nat × Cst × Tbl)} {res : Int} {M N P : Mem} {c : Nat} (h : LkA r (lawT T)) (hA : LawP r res P c) (hr : ¬ res ≤ 0) (hc : (M 0 11).toInt = (c : Int)) (h10 : N 0 10 = M 0 11) (h11 : N 0 11 = M 0 10) (hf : ∀ a i, c ≤ a → a ≤ c + 7 → N a i = P a i) (hN : NNR P c) (hF : FLG P c) : LcE (lawT T) M N := by
  cases r with
  | inl f =>
    have e : lawT T = .inl f := h
    have z := lwz_T T
    rw [e] at z
    have z1 : f < 0 := z
    have z2 : res = f := hA
    omega
  | inr q =>
    obtain ⟨q', e1, e2, e3, e4⟩ : ∃ q', lawT T = .inr q' ∧ q.1 = q'.1 ∧ Lk q.2.1 q'.2.1 ∧ ∀ i, i < q.1 → q.2.2 i = q'.2.2 i := h
    obtain ⟨l1, l2, l3⟩ := e3
    rw [e1]
    refine ⟨h10, h11, fun c2 hc2 => ?_⟩
    have ec : c2 = c := by omega
    rw [ec]
    obtain ⟨a1, a2, a3, a4⟩ : res = (q.1 : Int) ∧ sC P c = q.2.1 ∧ tC P c = q.2.2 ∧ (P c 8).toInt = (q.1 : Int) := hA
    obtain ⟨n1, n, n2, n3⟩ := hN
    have s1 : ix (P c 7) = q.2.1.2.1 := by
      rw [← a2]
      rfl
    have s2 : ∀ j, (unc (P (c + 1) j).toInt, (P (c + 2) j).toInt) = q.2.1.2.2 j := fun j => by
      rw [← a2]
      rfl
    have f7 : N c 7 = P c 7 := hf c 7 (by omega) (by omega)
    have f8 : N c 8 = P c 8 := hf c 8 (by omega) (by omega)
    have f9 : N c 9 = P c 9 := hf c 9 (by omega) (by omega)
    refine ⟨⟨by rw [f8, a4, e2], ⟨by rw [f7]; exact n1, by rw [f7, s1, l2]⟩, fun j hj => ?_, fun r hr => ?_, fun r hr => ?_⟩, ?_⟩
    · rw [← l2] at hj
      rw [hf (c + 1) j (by omega) (by omega), hf (c + 2) j (by omega) (by omega), s2, l3 j hj]
    · rw [hf (c + 5) r (by omega) (by omega), hf (c + 6) r (by omega) (by omega), hf (c + 7) r (by omega) (by omega)]
      exact n3 r (by omega)
    · rw [← e2] at hr
      rw [← e4 r hr, ← a3]
      unfold tC
      rw [hf (c + 4) r (by omega) (by omega), hf (c + 5) r (by omega) (by omega), hf (c + 6) r (by omega) (by omega), hf (c + 7) r (by omega) (by omega)]
    · unfold FLG
      rw [f7, f9]
      exact fun z k hk => by
        rw [hf (c + 1) k (by omega) (by omega), hf (c + 2) k (by omega) (by omega)]
        exact hF z k hk
/-! both: the law that rules is one -/
theorem dq_dP {F : Nat → Int × Int} {f : Nat → Int32} {n : Nat} (h : ∀ j, j < n → F j = (kd (f j), vl (f j))) : ∀ k, k ≤ n → dq F k = dP f k
  | 0, _ => rfl
  | k + 1, hk => by
    rw [dq_s, dP_s, dq_dP h k (by omega), h k (by omega)]
theorem segf_of {F : Nat → Int × Int} {f : Nat → Int32} {n a b : Nat} (h : ∀ j, j < n → F j = (kd (f j), vl (f j))) (hb : b ≤ n) (hS : Seg f a b) (hu : ∀ k, a ≤ k → k ≤ b → dq F k ≤ dq F a + 16) : SegF F a b := fun k k1 k2 => by
  obtain ⟨t1, t2, t3, t4, t5, t6, t7⟩ := hS k k1 k2
  have e := h k (by omega)
  have d := dq_dP h
  have z := kd_bd t1
  have u := hu k k1 (by omega)
  have ea : dq F a = dP f a := d a (by omega)
  have ek : dq F k = dP f k := d k (by omega)
  unfold SegK
  rw [e]
  refine ⟨⟨z.1, t2⟩, fun y => ⟨z.2.1, t3 y⟩, ⟨by rw [ea, ek]; exact t4, u⟩, fun y1 y2 => by rw [ea, ek]; exact t5 y1 y2, fun y => by rw [ea, ek]; exact t6 y, fun y => ?_⟩
  obtain ⟨w1, w2, w3, w4⟩ := t7 y
  have e3 : dq F (vl (f k)).toNat = dP f (vl (f k)).toNat := d _ (by omega)
  exact ⟨by rw [ea, ek]; exact w1, w2, w3, by rw [ea]; exact e3.trans w4⟩
theorem ll_new {T : Int → Int} {n : Int} {q : Nat × Cst × Tbl} {MC MM : Mem} {c : Nat} (hA : lawT T = .inr q) (hT : Ends T n) (hn : n ≤ 240) (hC : LcM MC c q) (hF : FLG MC c) (hM : LwM MM q) (hG : Gl MM) : LwC MC c q.1 q.2.1.2.2 q.2.2 ∧ LwR MM q.1 q.2.1.2.2 q.2.2 ∧ LwQ q.1 q.2.1.2.2 q.2.2 ∧ N5P MC c q.2.1.2.2 := by
  obtain ⟨g1, g2, g3⟩ := rlg_T hA
  have rm := rm_T hT hA
  have rk := lwz_T T
  rw [hA] at rk
  have hK : RlK q.1 q.2.1 q.2.2 := rk
  obtain ⟨c1, ⟨c2, c3⟩, c4, c5, c6⟩ := hC
  obtain ⟨m1, m2, m3⟩ := hM
  obtain ⟨k0, k1⟩ := hG
  have e15 := t_ixn (MM 0 15) k0.1
  have f7 := t_ixn (MC c 7) c2
  have hF2 : ∀ j, j < q.2.1.2.1 → q.2.1.2.2 j = (kd (MM 12 j), vl (MM 12 j)) := fun j hj => (m2 j hj).symm
  have tb : ∀ r, r < q.1 → (q.2.2 r).2.1 = ix (MM 14 r) ∧ (q.2.2 r).2.2.1 = ix (MM 15 r) ∧ (q.2.2 r).2.2.2 = ix (MM 16 r) := fun r hr => by
    rw [← m3 r hr]
    exact ⟨rfl, rfl, rfl⟩
  refine ⟨⟨⟨c1, g1, c2, by omega⟩, fun j hj => (c4 j (by omega)).symm, fun r hr => ⟨(c6 r hr).symm, ?_⟩⟩, ⟨⟨m1, g1⟩, q.2.1.2.1, by omega, fun j hj => ⟨hF2 j hj, ?_⟩, fun r hr => ⟨(m3 r hr).symm, ?_⟩⟩, fun r hr => ?_, fun z k hk hk1 hk5 => ?_⟩
  · obtain ⟨n5, n6, n7⟩ := c5 r hr
    obtain ⟨⟨q1, q2, -⟩, q3⟩ := g2 r hr
    rw [← c6 r hr] at q1 q2 q3
    have x5 := t_ixn _ n5
    have x6 := t_ixn _ n6
    have x7 := t_ixn _ n7
    have y1 : ix (MC (c + 5) r) ≤ ix (MC (c + 6) r) := q1
    have y2 : ix (MC (c + 6) r) ≤ ix (MC (c + 7) r) := q2
    have y3 : ix (MC (c + 7) r) ≤ q.2.1.2.1 := q3
    omega
  · obtain ⟨i, i1, i2, i3⟩ := hK j hj
    obtain ⟨a1, a2, a3, a4, a5, a6⟩ := k1 i (by omega)
    obtain ⟨t1, t2, t3⟩ := tb i i1
    rw [t1] at i2
    rw [t3] at i3
    by_cases c : j < ix (MM 15 i)
    · exact (a5 j i2 c).1
    · exact (a6 j (by omega) i3).1
  · obtain ⟨a1, a2, a3, a4, -⟩ := k1 r (by omega)
    obtain ⟨t1, t2, t3⟩ := tb r hr
    have q3 := (g2 r hr).2
    rw [t3] at q3
    have x := t_ixn (MM 16 r) (by omega)
    exact ⟨a1, a2, a3, by omega⟩
  · obtain ⟨a1, a2, a3, a4, a5, a6⟩ := k1 r (by omega)
    obtain ⟨t1, t2, t3⟩ := tb r hr
    obtain ⟨⟨q1, q2, q4, q5, q6, q7⟩, q3⟩ := g2 r hr
    obtain ⟨⟨p1, p2, p3, p4⟩, -⟩ := g3 r hr
    rw [← t1, ← t2] at a5
    rw [← t2, ← t3] at a6
    refine ⟨⟨segf_of hF2 q3 a6 q7, q6, q2⟩, ⟨p1, p2⟩, fun k k1 k2 => p3 k k1 k2, fun h120 => ⟨⟨segf_of hF2 (by omega) a5 q5, by rw [q4, if_neg h120], q1⟩, fun k k1 k2 => ?_⟩⟩
    have z := p4 k k1 k2
    exact ⟨fun y => absurd y (by omega), fun y => absurd y (by omega)⟩
  · have e := c4 k (by omega)
    rw [← e] at hk1 hk5
    exact hF z k (by omega) ⟨unc_1 hk1, hk5⟩
