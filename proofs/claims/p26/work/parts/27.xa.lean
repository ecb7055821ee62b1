/-! a law as a text: what it is compiled to, or its fault. A state: the place, how many codes, the codes -/
abbrev Cst := Int × Nat × (Nat → Int × Int)
def emt (s : Cst) (op v : Int) : Cst := (s.1, s.2.1 + 1, pu s.2.2 s.2.1 (op, v))
def fwd (s : Cst) (p : Int) : Cst := (p, s.2)
def opt (s : Cst) (k : Int) : Cst := if k = 0 then s else emt s k 0
def lnd (s : Cst) (j : Option Nat) : Cst := match j with
  | none => s
  | some i => (s.1, s.2.1, pu s.2.2 i ((s.2.2 i).1, (s.2.1 : Int)))
def bnS (r : Sum Int Cst) (f : Cst → Sum Int Cst) : Sum Int Cst := match r with
  | .inl e => .inl e
  | .inr s => f s
theorem inl_ne {a : Int} {s : Cst} {P : Prop} (h : (Sum.inl a : Sum Int Cst) = Sum.inr s) : P := nomatch h
theorem bnS_as (r : Sum Int Cst) (f g : Cst → Sum Int Cst) : bnS (bnS r f) g = bnS r (fun s => bnS (f s) g) := by cases r <;> rfl
theorem bnS_l (e : Int) (f : Cst → Sum Int Cst) : bnS (.inl e) f = .inl e := rfl
theorem bnS_r (s : Cst) (f : Cst → Sum Int Cst) : bnS (.inr s) f = f s := rfl
def fct (c : Int) : Int := if c = 105 then 0 else if c = 120 then 1 else if c = 121 then 2 else if c = 115 then 3 else if c = 101 then 4 else if c = 110 then 5 else if c = 114 then 6 else if c = 103 then 7 else -1
def sgn (c : Int) : Int := if c = 43 then 2 else if c = 45 then 3 else if c = 42 then 4 else if c = 47 then 5 else if c = 37 then 6 else 0
def cmq (c : Int) : Int := if c = 60 then 7 else if c = 62 then 8 else if c = 61 then 9 else 0
def xpc (T : Int → Int) (c : Int) (s : Cst) : Sum Int Cst := if T s.1 = c then .inr (fwd s (s.1 + 1)) else .inl (-1000 - s.1)
def numC (T : Int → Int) (s : Cst) : Sum Int Cst := match numS T s.1 5 with
  | .inl f => .inl f
  | .inr q => .inr (emt (fwd s q.2) 0 q.1)
def facS (T : Int → Int) (d : Nat) (S : Cst → Sum Int Cst) (s : Cst) : Sum Int Cst :=
  if T s.1 = 91 then (if d = 0 then .inl (-5000 - s.1) else bnS (S (fwd s (s.1 + 1))) (xpc T 93))
  else if dgt (T s.1) = true then numC T s
  else if fct (T s.1) = -1 then .inl (-1000 - s.1) else .inr (emt (fwd s (s.1 + 1)) 1 (fct (T s.1)))
def sumT (T : Int → Int) (L : Int → Int → Cst → Sum Int Cst) (ss ts : Int) (s : Cst) : Sum Int Cst :=
  if 4 ≤ sgn (T s.1) then L ss (sgn (T s.1)) (fwd (opt s ts) (s.1 + 1))
  else if sgn (T s.1) = 0 then .inr (opt (opt s ts) ss)
  else L (sgn (T s.1)) 0 (fwd (opt (opt s ts) ss) (s.1 + 1))
def sumL (T : Int → Int) (F : Cst → Sum Int Cst) : Nat → Int → Int → Cst → Sum Int Cst
  | 0, _, _, s => .inl (-1000 - s.1)
  | k + 1, ss, ts, s => bnS (F s) (sumT T (sumL T F k) ss ts)
termination_by k => k
theorem sumL_0 (T : Int → Int) (F : Cst → Sum Int Cst) (ss ts : Int) (s : Cst) : sumL T F 0 ss ts s = .inl (-1000 - s.1) := by rw [sumL]
theorem sumL_s (T : Int → Int) (F : Cst → Sum Int Cst) (k : Nat) (ss ts : Int) (s : Cst) : sumL T F (k + 1) ss ts s = bnS (F s) (sumT T (sumL T F k) ss ts) := by rw [sumL]
def sumD (T : Int → Int) : Nat → Cst → Sum Int Cst
  | 0 => sumL T (facS T 0 (fun s => .inl s.1)) 240 0 0
  | d + 1 => sumL T (facS T (d + 1) (sumD T d)) 240 0 0
def facD (T : Int → Int) : Nat → Cst → Sum Int Cst
  | 0 => facS T 0 (fun s => .inl s.1)
  | d + 1 => facS T (d + 1) (sumD T d)
theorem sumD_is (T : Int → Int) (d : Nat) : sumD T d = sumL T (facD T d) 240 0 0 := by cases d <;> rfl
theorem facD_is (T : Int → Int) (d : Nat) (s : Cst) : facD T d s = facS T d (sumD T (d - 1)) s := by
  cases d with
  | zero =>
    show facS T 0 (fun s => .inl s.1) s = facS T 0 (sumD T (0 - 1)) s
    unfold facS
    rw [if_pos (rfl : 0 = 0), if_pos (rfl : 0 = 0)]
  | succ d => rfl
/-- a test -/
def cmpS (T : Int → Int) (d : Nat) (s : Cst) : Sum Int Cst := bnS (sumD T d s) (fun s1 => if cmq (T s1.1) = 0 then .inl (-1000 - s1.1) else bnS (sumD T d (fwd s1 (s1.1 + 1))) (fun s2 => .inr (emt s2 (cmq (T s1.1)) 0)))
def tstS (T : Int → Int) (d : Nat) (C P : Cst → Sum Int Cst) (s : Cst) : Sum Int Cst :=
  if T s.1 = 33 ∨ T s.1 = 40 then (if d = 0 then .inl (-5000 - s.1) else if T s.1 = 40 then bnS (C (fwd s (s.1 + 1))) (xpc T 41) else bnS (P (fwd s (s.1 + 1))) (fun s2 => .inr (emt s2 10 0)))
  else cmpS T d s
def choT (T : Int → Int) (L : Option Nat → Option Nat → Cst → Sum Int Cst) (aj oj : Option Nat) (s : Cst) : Sum Int Cst :=
  if T s.1 = 38 then L (some s.2.1) oj (fwd (emt (lnd s aj) 11 0) (s.1 + 1))
  else if T s.1 = 124 then L none (some s.2.1) (fwd (emt (lnd (lnd s aj) oj) 12 0) (s.1 + 1))
  else .inr (lnd (lnd s aj) oj)
def choL (T : Int → Int) (P : Cst → Sum Int Cst) : Nat → Option Nat → Option Nat → Cst → Sum Int Cst
  | 0, _, _, s => .inl (-1000 - s.1)
  | k + 1, aj, oj, s => bnS (P s) (choT T (choL T P k) aj oj)
termination_by k => k
theorem choL_0 (T : Int → Int) (P : Cst → Sum Int Cst) (aj oj : Option Nat) (s : Cst) : choL T P 0 aj oj s = .inl (-1000 - s.1) := by rw [choL]
theorem choL_s (T : Int → Int) (P : Cst → Sum Int Cst) (k : Nat) (aj oj : Option Nat) (s : Cst) : choL T P (k + 1) aj oj s = bnS (P s) (choT T (choL T P k) aj oj) := by rw [choL]
def tstD (T : Int → Int) : Nat → Cst → Sum Int Cst
  | 0 => tstS T 0 (fun s => .inl s.1) (fun s => .inl s.1)
  | d + 1 => tstS T (d + 1) (choL T (tstD T d) 240 none none) (tstD T d)
def choD (T : Int → Int) (d : Nat) : Cst → Sum Int Cst := choL T (tstD T d) 240 none none
theorem tstD_is (T : Int → Int) (d : Nat) (s : Cst) : tstD T d s = tstS T d (choD T (d - 1)) (tstD T (d - 1)) s := by
  cases d with
  | zero =>
    show tstS T 0 _ _ s = tstS T 0 _ _ s
    unfold tstS
    rw [if_pos (rfl : 0 = 0), if_pos (rfl : 0 = 0)]
  | succ d => rfl
/-! it goes on, and there is room -/
def Ends (T : Int → Int) (n : Int) : Prop := ∀ p, n ≤ p → T p = -1
def Rm (n : Int) (s : Cst) (e : Int) (s1 : Cst) : Prop := s.1 < s1.1 ∧ s1.1 ≤ n ∧ (s1.2.1 : Int) + s.1 ≤ s.2.1 + s1.1 + e
def cn (k : Int) : Int := if k = 0 then 0 else 1
theorem cn_b (k : Int) : 0 ≤ cn k ∧ cn k ≤ 1 := by
  unfold cn
  by_cases h : k = 0
  · rw [if_pos h]; omega
  · rw [if_neg h]; omega
theorem cn_1 {k : Int} (h : ¬ k = 0) : cn k = 1 := if_neg h
theorem cn_0 : cn 0 = 0 := rfl
theorem opt_1 (s : Cst) (k : Int) : (opt s k).1 = s.1 := by
  unfold opt
  by_cases h : k = 0
  · rw [if_pos h]
  · rw [if_neg h]; rfl
theorem opt_2 (s : Cst) (k : Int) : ((opt s k).2.1 : Int) = s.2.1 + cn k := by
  unfold opt cn
  by_cases h : k = 0
  · rw [if_pos h, if_pos h]; omega
  · rw [if_neg h, if_neg h]
    show ((s.2.1 + 1 : Nat) : Int) = _
    omega
theorem lnd_1 (s : Cst) (j : Option Nat) : (lnd s j).1 = s.1 := by cases j <;> rfl
theorem lnd_2 (s : Cst) (j : Option Nat) : (lnd s j).2.1 = s.2.1 := by cases j <;> rfl
theorem sgn_in {T : Int → Int} {n p : Int} (hT : Ends T n) (h : ¬ sgn (T p) = 0) : p < n := by
  by_cases c : n ≤ p
  · rw [hT p c] at h
    exact absurd (by decide) h
  · omega
theorem nd_le (T : Int → Int) : ∀ (k : Nat) (p : Int), nd T p k ≤ k
  | 0, _ => Nat.le_refl _
  | k + 1, p => by
    show (if dgt (T p) = true then 1 + nd T (p + 1) k else 0) ≤ k + 1
    have := nd_le T k (p + 1)
    by_cases h : dgt (T p) = true
    · rw [if_pos h]; omega
    · rw [if_neg h]; omega
theorem nd_dg (T : Int → Int) : ∀ (k : Nat) (p : Int) (i : Nat), i < nd T p k → dgt (T (p + i)) = true
  | 0, p, i, h => absurd h (Nat.not_lt_zero _)
  | k + 1, p, i, h => by
    have e : nd T p (k + 1) = if dgt (T p) = true then 1 + nd T (p + 1) k else 0 := rfl
    rw [e] at h
    by_cases c : dgt (T p) = true
    · rw [if_pos c] at h
      cases i with
      | zero =>
        rw [show p + ((0 : Nat) : Int) = p from by omega]
        exact c
      | succ i =>
        have := nd_dg T k (p + 1) i (by omega)
        rw [show p + ((i + 1 : Nat) : Int) = p + 1 + (i : Int) from by omega]
        exact this
    · rw [if_neg c] at h
      exact absurd h (Nat.not_lt_zero _)
theorem numS_r {T : Int → Int} {p : Int} {k : Nat} {q : Int × Int} (h : numS T p k = .inr q) : p < q.2 ∧ dgt (T (q.2 - 1)) = true := by
  unfold numS at h
  by_cases c : nd T p k = 0
  · rw [if_pos c] at h
    exact nomatch h
  · rw [if_neg c] at h
    by_cases c2 : dgt (T (p + nd T p k)) = true
    · rw [if_pos c2] at h
      exact nomatch h
    · rw [if_neg c2] at h
      have e := Sum.inr.inj h
      have e2 : p + (nd T p k : Int) = q.2 := congrArg Prod.snd e
      have hd := nd_dg T k p (nd T p k - 1) (by omega)
      rw [show p + ((nd T p k - 1 : Nat) : Int) = q.2 - 1 from by omega] at hd
      exact ⟨by omega, hd⟩
theorem dgt_in {T : Int → Int} {n p : Int} (hT : Ends T n) (h : dgt (T p) = true) : p < n := by
  by_cases c : n ≤ p
  · rw [hT p c] at h
    exact absurd h (by decide)
  · omega
theorem ne_in {T : Int → Int} {n p : Int} (hT : Ends T n) (h : ¬ T p = -1) : p < n := by
  by_cases c : n ≤ p
  · exact absurd (hT p c) h
  · omega
theorem xpc_r {T : Int → Int} {c : Int} {s s1 : Cst} (h : xpc T c s = .inr s1) : T s.1 = c ∧ s1 = fwd s (s.1 + 1) := by
  unfold xpc at h
  by_cases e : T s.1 = c
  · rw [if_pos e] at h
    exact ⟨e, (Sum.inr.inj h).symm⟩
  · rw [if_neg e] at h
    exact nomatch h
theorem bnS_e {r : Sum Int Cst} {f : Cst → Sum Int Cst} {s : Cst} (h : bnS r f = .inr s) : ∃ s1, r = .inr s1 ∧ f s1 = .inr s := by
  cases r with
  | inl e => exact nomatch h
  | inr s1 => exact ⟨s1, rfl, h⟩
theorem facS_rm {T : Int → Int} {n : Int} (hT : Ends T n) {d : Nat} {S : Cst → Sum Int Cst} (hS : ∀ s s1, S s = .inr s1 → Rm n s 0 s1) {s s1 : Cst} (h : facS T d S s = .inr s1) : Rm n s 0 s1 := by
  unfold facS at h
  by_cases c1 : T s.1 = 91
  · rw [if_pos c1] at h
    by_cases c2 : d = 0
    · rw [if_pos c2] at h
      exact nomatch h
    · rw [if_neg c2] at h
      obtain ⟨s2, h2, h3⟩ := bnS_e h
      obtain ⟨a1, a2, a3⟩ := hS _ _ h2
      obtain ⟨b1, b2⟩ := xpc_r h3
      have b3 := ne_in hT (p := s2.1) (by omega)
      rw [b2]
      unfold fwd at *
      refine ⟨?_, ?_, ?_⟩
      · show s.1 < s2.1 + 1
        have : s.1 + 1 < s2.1 := a1
        omega
      · show s2.1 + 1 ≤ n
        omega
      · show (s2.2.1 : Int) + s.1 ≤ s.2.1 + (s2.1 + 1) + 0
        have : (s2.2.1 : Int) + (s.1 + 1) ≤ s.2.1 + s2.1 + 0 := a3
        omega
  · rw [if_neg c1] at h
    by_cases c2 : dgt (T s.1) = true
    · rw [if_pos c2] at h
      unfold numC at h
      cases e : numS T s.1 5 with
      | inl f =>
        rw [e] at h
        exact nomatch h
      | inr q =>
        rw [e] at h
        obtain ⟨q1, q2⟩ := numS_r e
        have q3 := dgt_in hT q2
        rw [← Sum.inr.inj h]
        refine ⟨q1, ?_, ?_⟩
        · show q.2 ≤ n
          omega
        · show ((s.2.1 + 1 : Nat) : Int) + s.1 ≤ s.2.1 + q.2 + 0
          omega
    · rw [if_neg c2] at h
      by_cases c3 : fct (T s.1) = -1
      · rw [if_pos c3] at h
        exact nomatch h
      · rw [if_neg c3] at h
        have q3 := ne_in hT (p := s.1) (fun z => c3 (by rw [z]; decide))
        rw [← Sum.inr.inj h]
        refine ⟨?_, ?_, ?_⟩
        · show s.1 < s.1 + 1
          omega
        · show s.1 + 1 ≤ n
          omega
        · show ((s.2.1 + 1 : Nat) : Int) + s.1 ≤ s.2.1 + (s.1 + 1) + 0
          omega
theorem sumL_rm {T : Int → Int} {n : Int} (hT : Ends T n) {F : Cst → Sum Int Cst} (hF : ∀ s s1, F s = .inr s1 → Rm n s 0 s1) : ∀ (k : Nat) (ss ts : Int) (s s1 : Cst), sumL T F k ss ts s = .inr s1 → Rm n s (cn ss + cn ts) s1
  | 0, ss, ts, s, s1, h => by
    rw [sumL_0] at h
    exact nomatch h
  | k + 1, ss, ts, s, s1, h => by
    rw [sumL_s] at h
    obtain ⟨s2, h2, h3⟩ := bnS_e h
    obtain ⟨a1, a2, a3⟩ := hF _ _ h2
    have o1 := opt_1 s2 ts
    have o2 := opt_2 s2 ts
    have o3 := opt_1 (opt s2 ts) ss
    have o4 := opt_2 (opt s2 ts) ss
    have n1 := cn_b ss
    have n2 := cn_b ts
    unfold sumT at h3
    by_cases c1 : 4 ≤ sgn (T s2.1)
    · rw [if_pos c1] at h3
      obtain ⟨b1, b2, b3⟩ := sumL_rm hT hF k _ _ _ _ h3
      have n3 : cn (sgn (T s2.1)) = 1 := cn_1 (by omega)
      have b4 : s2.1 + 1 < s1.1 := b1
      have b5 : (s1.2.1 : Int) + (s2.1 + 1) ≤ (opt s2 ts).2.1 + s1.1 + (cn ss + cn (sgn (T s2.1))) := b3
      exact ⟨by omega, b2, by omega⟩
    · rw [if_neg c1] at h3
      by_cases c2 : sgn (T s2.1) = 0
      · rw [if_pos c2] at h3
        rw [← Sum.inr.inj h3]
        refine ⟨?_, ?_, ?_⟩
        · rw [o3, o1]; exact a1
        · rw [o3, o1]; exact a2
        · rw [o3, o1]; omega
      · rw [if_neg c2] at h3
        obtain ⟨b1, b2, b3⟩ := sumL_rm hT hF k _ _ _ _ h3
        have n3 : cn (sgn (T s2.1)) = 1 := cn_1 (by omega)
        have b4 : s2.1 + 1 < s1.1 := b1
        have b5 : (s1.2.1 : Int) + (s2.1 + 1) ≤ (opt (opt s2 ts) ss).2.1 + s1.1 + (cn (sgn (T s2.1)) + cn 0) := b3
        rw [n3, cn_0] at b5
        exact ⟨by omega, b2, by omega⟩
theorem sumD_rm {T : Int → Int} {n : Int} (hT : Ends T n) : ∀ (d : Nat) (s s1 : Cst), sumD T d s = .inr s1 → Rm n s 0 s1
  | 0, s, s1, h => by
    have := sumL_rm hT (F := facS T 0 (fun s => .inl s.1)) (fun s s1 h => facS_rm hT (fun _ _ z => inl_ne z) h) 240 0 0 s s1 h
    rw [cn_0] at this
    exact this
  | d + 1, s, s1, h => by
    have := sumL_rm hT (F := facS T (d + 1) (sumD T d)) (fun s s1 h => facS_rm hT (fun a b z => sumD_rm hT d a b z) h) 240 0 0 s s1 h
    rw [cn_0] at this
    exact this
theorem facD_rm {T : Int → Int} {n : Int} (hT : Ends T n) (d : Nat) (s s1 : Cst) (h : facD T d s = .inr s1) : Rm n s 0 s1 := by
  rw [facD_is] at h
  exact facS_rm hT (fun a b z => sumD_rm hT _ a b z) h
/-- how much is left to count with does not matter -/
theorem sumL_fu {T : Int → Int} {n : Int} (hT : Ends T n) {F : Cst → Sum Int Cst} (hF : ∀ s s1, F s = .inr s1 → Rm n s 0 s1) : ∀ (k k2 : Nat) (ss ts : Int) (s : Cst), n - s.1 < k → n - s.1 < k2 → s.1 ≤ n → sumL T F k ss ts s = sumL T F k2 ss ts s
  | 0, k2, ss, ts, s, h1, h2, h3 => absurd h1 (by omega)
  | k + 1, 0, ss, ts, s, h1, h2, h3 => absurd h2 (by omega)
  | k + 1, k2 + 1, ss, ts, s, h1, h2, h3 => by
    rw [sumL_s, sumL_s]
    cases e : F s with
    | inl f => rfl
    | inr s2 =>
      rw [bnS_r, bnS_r]
      obtain ⟨a1, a2, a3⟩ := hF _ _ e
      unfold sumT
      by_cases c1 : 4 ≤ sgn (T s2.1)
      · rw [if_pos c1, if_pos c1]
        have := sgn_in hT (p := s2.1) (by omega)
        exact sumL_fu hT hF k k2 _ _ _ (by show n - (s2.1 + 1) < k; omega) (by show n - (s2.1 + 1) < k2; omega) (by show s2.1 + 1 ≤ n; omega)
      · rw [if_neg c1, if_neg c1]
        by_cases c2 : sgn (T s2.1) = 0
        · rw [if_pos c2, if_pos c2]
        · rw [if_neg c2, if_neg c2]
          have := sgn_in hT (p := s2.1) c2
          exact sumL_fu hT hF k k2 _ _ _ (by show n - (s2.1 + 1) < k; omega) (by show n - (s2.1 + 1) < k2; omega) (by show s2.1 + 1 ≤ n; omega)
def sumLs (T : Int → Int) (d : Nat) : Int → Int → Cst → Sum Int Cst := sumL T (facD T d) 240
theorem sumLs_u {T : Int → Int} {n : Int} (hT : Ends T n) (hn : n ≤ 240) {d : Nat} {ss ts : Int} {s : Cst} (h0 : 0 ≤ s.1) : sumLs T d ss ts s = bnS (facD T d s) (sumT T (sumLs T d) ss ts) := by
  refine (sumL_s T (facD T d) 239 ss ts s).trans ?_
  cases e : facD T d s with
  | inl f => rw [bnS_l, bnS_l]
  | inr s2 =>
    rw [bnS_r, bnS_r]
    obtain ⟨a1, a2, a3⟩ := facD_rm hT d _ _ e
    unfold sumT sumLs
    by_cases c1 : 4 ≤ sgn (T s2.1)
    · rw [if_pos c1, if_pos c1]
      have := sgn_in hT (p := s2.1) (by omega)
      exact sumL_fu hT (facD_rm hT d) 239 240 _ _ _ (by show n - (s2.1 + 1) < 239; omega) (by show n - (s2.1 + 1) < 240; omega) (by show s2.1 + 1 ≤ n; omega)
    · rw [if_neg c1, if_neg c1]
      by_cases c2 : sgn (T s2.1) = 0
      · rw [if_pos c2, if_pos c2]
      · rw [if_neg c2, if_neg c2]
        have := sgn_in hT (p := s2.1) c2
        exact sumL_fu hT (facD_rm hT d) 239 240 _ _ _ (by show n - (s2.1 + 1) < 239; omega) (by show n - (s2.1 + 1) < 240; omega) (by show s2.1 + 1 ≤ n; omega)
/-! what waits in the reference: the signs of the sum at hand on top, behind each bracket those of the sum around it -/
def isT (g : Nat → Int32) (b w : Nat) : Prop := b < w ∧ 4 ≤ kd (g (w - 1)) ∧ kd (g (w - 1)) ≤ 6
def isS (g : Nat → Int32) (b w : Nat) : Prop := b < w ∧ 2 ≤ kd (g (w - 1)) ∧ kd (g (w - 1)) ≤ 3
def tsK (g : Nat → Int32) (b w : Nat) : Int := if b < w ∧ 4 ≤ kd (g (w - 1)) ∧ kd (g (w - 1)) ≤ 6 then kd (g (w - 1)) else 0
def tsW (g : Nat → Int32) (b w : Nat) : Nat := if b < w ∧ 4 ≤ kd (g (w - 1)) ∧ kd (g (w - 1)) ≤ 6 then w - 1 else w
def ssK (g : Nat → Int32) (b w : Nat) : Int := if b < w ∧ 2 ≤ kd (g (w - 1)) ∧ kd (g (w - 1)) ≤ 3 then kd (g (w - 1)) else 0
def ssW (g : Nat → Int32) (b w : Nat) : Nat := if b < w ∧ 2 ≤ kd (g (w - 1)) ∧ kd (g (w - 1)) ≤ 3 then w - 1 else w
theorem ts_y {g : Nat → Int32} {b w : Nat} (h : isT g b w) : tsK g b w = kd (g (w - 1)) ∧ tsW g b w = w - 1 := ⟨if_pos h, if_pos h⟩
theorem ts_n {g : Nat → Int32} {b w : Nat} (h : ¬ isT g b w) : tsK g b w = 0 ∧ tsW g b w = w := ⟨if_neg h, if_neg h⟩
theorem ss_y {g : Nat → Int32} {b w : Nat} (h : isS g b w) : ssK g b w = kd (g (w - 1)) ∧ ssW g b w = w - 1 := ⟨if_pos h, if_pos h⟩
theorem ss_n {g : Nat → Int32} {b w : Nat} (h : ¬ isS g b w) : ssK g b w = 0 ∧ ssW g b w = w := ⟨if_neg h, if_neg h⟩
theorem tsW_b (g : Nat → Int32) (b w : Nat) : tsW g b w ≤ w ∧ (b ≤ w → b ≤ tsW g b w) := by
  by_cases h : isT g b w
  · rw [(ts_y h).2]
    have := h.1
    omega
  · rw [(ts_n h).2]; omega
theorem ssW_b (g : Nat → Int32) (b w : Nat) : ssW g b w ≤ w ∧ (b ≤ w → b ≤ ssW g b w) := by
  by_cases h : isS g b w
  · rw [(ss_y h).2]
    have := h.1
    omega
  · rw [(ss_n h).2]; omega
theorem ts_ext {g g' : Nat → Int32} {b w : Nat} (h : ∀ t, t < w → g t = g' t) : tsK g b w = tsK g' b w ∧ tsW g b w = tsW g' b w := by
  unfold tsK tsW
  by_cases c : b < w
  · rw [h (w - 1) (by omega)]
    exact ⟨rfl, rfl⟩
  · rw [if_neg (fun z => c z.1), if_neg (fun z => c z.1), if_neg (fun z => c z.1), if_neg (fun z => c z.1)]
    exact ⟨rfl, rfl⟩
theorem ss_ext {g g' : Nat → Int32} {b w : Nat} (h : ∀ t, t < w → g t = g' t) : ssK g b w = ssK g' b w ∧ ssW g b w = ssW g' b w := by
  unfold ssK ssW
  by_cases c : b < w
  · rw [h (w - 1) (by omega)]
    exact ⟨rfl, rfl⟩
  · rw [if_neg (fun z => c z.1), if_neg (fun z => c z.1), if_neg (fun z => c z.1), if_neg (fun z => c z.1)]
    exact ⟨rfl, rfl⟩
def finS (T : Int → Int) (g : Nat → Int32) (b : Nat) (w d : Nat) (r : Sum Int Cst) : Sum Int Cst :=
  if h : w ≤ b then r else finS T g b (ssW g b (tsW g b (w - 1))) (d + 1) (bnS (bnS r (xpc T 93)) (sumT T (sumLs T (d + 1)) (ssK g b (tsW g b (w - 1))) (tsK g b (w - 1))))
termination_by w
decreasing_by
  have h1 := (tsW_b g b (w - 1)).1
  have h2 := (ssW_b g b (tsW g b (w - 1))).1
  omega
theorem finS_e {T : Int → Int} {g : Nat → Int32} {b w d : Nat} {r : Sum Int Cst} (h : w ≤ b) : finS T g b w d r = r := by
  rw [finS, dif_pos h]
theorem finS_u {T : Int → Int} {g : Nat → Int32} {b w d : Nat} {r : Sum Int Cst} (h : ¬ w ≤ b) : finS T g b w d r = finS T g b (ssW g b (tsW g b (w - 1))) (d + 1) (bnS (bnS r (xpc T 93)) (sumT T (sumLs T (d + 1)) (ssK g b (tsW g b (w - 1))) (tsK g b (w - 1)))) := by
  rw [finS, dif_neg h]
theorem finS_l {T : Int → Int} {g : Nat → Int32} {b : Nat} {e : Int} : ∀ (m w d : Nat), w ≤ m → finS T g b w d (.inl e) = .inl e
  | 0, w, d, h => finS_e (by omega)
  | m + 1, w, d, h => by
    by_cases c : w ≤ b
    · exact finS_e c
    · rw [finS_u c]
      have h1 := (tsW_b g b (w - 1)).1
      have h2 := (ssW_b g b (tsW g b (w - 1))).1
      exact finS_l m _ _ (by omega)
theorem finS_x {T : Int → Int} {g g' : Nat → Int32} {b : Nat} : ∀ (m w d : Nat) (r : Sum Int Cst), w ≤ m → (∀ t, t < w → g t = g' t) → finS T g b w d r = finS T g' b w d r
  | 0, w, d, r, h, _ => by rw [finS_e (by omega), finS_e (by omega)]
  | m + 1, w, d, r, h, he => by
    by_cases c : w ≤ b
    · rw [finS_e c, finS_e c]
    · have h1 := (tsW_b g b (w - 1)).1
      have h2 := (ssW_b g b (tsW g b (w - 1))).1
      have e1 := ts_ext (g := g) (g' := g') (b := b) (w := w - 1) (fun t ht => he t (by omega))
      have e2 := ss_ext (g := g) (g' := g') (b := b) (w := tsW g b (w - 1)) (fun t ht => he t (by omega))
      rw [finS_u c, finS_u c, finS_x m _ _ _ (by omega) (fun t ht => he t (by omega)), e2.1, e2.2, e1.1, e1.2]
def denE (T : Int → Int) (g : Nat → Int32) (b w d : Nat) (s : Cst) : Sum Int Cst := finS T g b (ssW g b (tsW g b w)) d (sumLs T d (ssK g b (tsW g b w)) (tsK g b w) s)
def denC (T : Int → Int) (g : Nat → Int32) (b w d : Nat) (s : Cst) : Sum Int Cst := finS T g b (ssW g b (tsW g b w)) d (sumT T (sumLs T d) (ssK g b (tsW g b w)) (tsK g b w) s)
theorem denE_c {T : Int → Int} {n : Int} (hT : Ends T n) (hn : n ≤ 240) {g : Nat → Int32} {b w d : Nat} {s s1 : Cst} (h0 : 0 ≤ s.1) (h : facD T d s = .inr s1) : denE T g b w d s = denC T g b w d s1 := by
  unfold denE denC
  rw [sumLs_u hT hn h0, h, bnS_r]
theorem denE_f {T : Int → Int} {n : Int} (hT : Ends T n) (hn : n ≤ 240) {g : Nat → Int32} {b w d : Nat} {s : Cst} {f : Int} (h0 : 0 ≤ s.1) (h : facD T d s = .inl f) : denE T g b w d s = .inl f := by
  unfold denE
  rw [sumLs_u hT hn h0, h, bnS_l]
  exact finS_l _ _ _ (Nat.le_refl _)
theorem facD_o {T : Int → Int} {d : Nat} {s : Cst} (h : T s.1 = 91) (hd : ¬ d = 0) : facD T d s = bnS (sumD T (d - 1) (fwd s (s.1 + 1))) (xpc T 93) := by
  rw [facD_is]
  unfold facS
  rw [if_pos h, if_neg hd]
theorem facD_5 {T : Int → Int} {d : Nat} {s : Cst} (h : T s.1 = 91) (hd : d = 0) : facD T d s = .inl (-5000 - s.1) := by
  rw [facD_is]
  unfold facS
  rw [if_pos h, if_pos hd]
theorem facD_n {T : Int → Int} {d : Nat} {s : Cst} (h : ¬ T s.1 = 91) (hd : dgt (T s.1) = true) : facD T d s = numC T s := by
  rw [facD_is]
  unfold facS
  rw [if_neg h, if_pos hd]
theorem facD_1 {T : Int → Int} {d : Nat} {s : Cst} (h : ¬ T s.1 = 91) (hd : dgt (T s.1) = false) (hf : fct (T s.1) = -1) : facD T d s = .inl (-1000 - s.1) := by
  rw [facD_is]
  unfold facS
  rw [if_neg h, if_neg (by rw [hd]; decide), if_pos hf]
theorem facD_l {T : Int → Int} {d : Nat} {s : Cst} (h : ¬ T s.1 = 91) (hd : dgt (T s.1) = false) (hf : ¬ fct (T s.1) = -1) : facD T d s = .inr (emt (fwd s (s.1 + 1)) 1 (fct (T s.1))) := by
  rw [facD_is]
  unfold facS
  rw [if_neg h, if_neg (by rw [hd]; decide), if_neg hf]
theorem den_k {g : Nat → Int32} {b w : Nat} {v : Int32} (hb : b ≤ w) : (upd g w v) (w + 1 - 1) = v := by
  rw [Nat.add_sub_cancel, upd_e]
theorem denE_o {T : Int → Int} {n : Int} (hT : Ends T n) (hn : n ≤ 240) {g : Nat → Int32} {b w d : Nat} {s : Cst} {v : Int32} (h0 : 0 ≤ s.1) (hb : b ≤ w) (h : T s.1 = 91) (hd : ¬ d = 0) (hv : kd v = 14) : denE T g b w d s = denE T (upd g w v) b (w + 1) (d - 1) (fwd s (s.1 + 1)) := by
  have hk := den_k (g := g) (b := b) (w := w) (v := v) hb
  have t1 := ts_n (g := upd g w v) (b := b) (w := w + 1) (fun z => by have := z.2; rw [hk, hv] at this; omega)
  have t2 := ss_n (g := upd g w v) (b := b) (w := w + 1) (fun z => by have := z.2; rw [hk, hv] at this; omega)
  have e1 := ts_ext (g := upd g w v) (g' := g) (b := b) (w := w) (fun t ht => upd_o (by omega))
  have b1 := tsW_b g b w
  have e2 := ss_ext (g := upd g w v) (g' := g) (b := b) (w := tsW g b w) (fun t ht => upd_o (by omega))
  have b2 := ssW_b g b (tsW g b w)
  have hR : denE T (upd g w v) b (w + 1) (d - 1) (fwd s (s.1 + 1)) = finS T (upd g w v) b (w + 1) (d - 1) (sumD T (d - 1) (fwd s (s.1 + 1))) := by
    unfold denE
    rw [t1.1, t1.2, t2.1, t2.2, sumD_is]
    rfl
  rw [hR, finS_u (by omega), Nat.add_sub_cancel, e1.1, e1.2, e2.1, e2.2, show d - 1 + 1 = d from by omega, finS_x (g := upd g w v) (g' := g) _ _ _ _ (Nat.le_refl _) (fun t ht => upd_o (by omega))]
  unfold denE
  rw [sumLs_u hT hn h0, facD_o h hd]
theorem denC_t {T : Int → Int} {g : Nat → Int32} {b w d : Nat} {s : Cst} {v : Int32} (hb : b ≤ w) (h : 4 ≤ sgn (T s.1)) (h6 : sgn (T s.1) ≤ 6) (hv : kd v = sgn (T s.1)) : denC T g b w d s = denE T (upd g (tsW g b w) v) b (tsW g b w + 1) d (fwd (opt s (tsK g b w)) (s.1 + 1)) := by
  have b1 := tsW_b g b w
  have hk := den_k (g := g) (b := b) (w := tsW g b w) (v := v) (by omega)
  have t1 := ts_y (g := upd g (tsW g b w) v) (b := b) (w := tsW g b w + 1) ⟨by omega, by rw [hk, hv]; omega⟩
  rw [hk, Nat.add_sub_cancel] at t1
  have e2 := ss_ext (g := upd g (tsW g b w) v) (g' := g) (b := b) (w := tsW g b w) (fun t ht => upd_o (by omega))
  have b2 := ssW_b g b (tsW g b w)
  unfold denC denE
  rw [t1.1, t1.2, e2.1, e2.2, finS_x (g := upd g (tsW g b w) v) (g' := g) _ _ _ _ (Nat.le_refl _) (fun t ht => upd_o (by omega)), hv]
  unfold sumT
  rw [if_pos h]
theorem denC_s {T : Int → Int} {g : Nat → Int32} {b w d : Nat} {s : Cst} {v : Int32} (hb : b ≤ w) (h : 2 ≤ sgn (T s.1)) (h6 : sgn (T s.1) ≤ 3) (hv : kd v = sgn (T s.1)) : denC T g b w d s = denE T (upd g (ssW g b (tsW g b w)) v) b (ssW g b (tsW g b w) + 1) d (fwd (opt (opt s (tsK g b w)) (ssK g b (tsW g b w))) (s.1 + 1)) := by
  have b1 := tsW_b g b w
  have b2 := ssW_b g b (tsW g b w)
  have hk := den_k (g := g) (b := b) (w := ssW g b (tsW g b w)) (v := v) (by omega)
  have t1 := ts_n (g := upd g (ssW g b (tsW g b w)) v) (b := b) (w := ssW g b (tsW g b w) + 1) (fun z => by have := z.2; rw [hk, hv] at this; omega)
  have t2 := ss_y (g := upd g (ssW g b (tsW g b w)) v) (b := b) (w := ssW g b (tsW g b w) + 1) ⟨by omega, by rw [hk, hv]; omega⟩
  rw [hk, Nat.add_sub_cancel] at t2
  unfold denC denE
  rw [t1.1, t1.2, t2.1, t2.2, finS_x (g := upd g (ssW g b (tsW g b w)) v) (g' := g) _ _ _ _ (Nat.le_refl _) (fun t ht => upd_o (by omega)), hv]
  unfold sumT
  rw [if_neg (by omega), if_neg (by omega)]
theorem denC_e {T : Int → Int} {g : Nat → Int32} {b w d : Nat} {s : Cst} (h : sgn (T s.1) = 0) (hw : ssW g b (tsW g b w) ≤ b) : denC T g b w d s = .inr (opt (opt s (tsK g b w)) (ssK g b (tsW g b w))) := by
  unfold denC
  rw [finS_e hw]
  unfold sumT
  rw [if_neg (by omega), if_pos h]
theorem denC_w {T : Int → Int} {g : Nat → Int32} {b w d : Nat} {s : Cst} (h : sgn (T s.1) = 0) (hc : ¬ T s.1 = 93) (hw : ¬ ssW g b (tsW g b w) ≤ b) : denC T g b w d s = .inl (-1000 - s.1) := by
  unfold denC
  have e : sumT T (sumLs T d) (ssK g b (tsW g b w)) (tsK g b w) s = .inr (opt (opt s (tsK g b w)) (ssK g b (tsW g b w))) := by
    unfold sumT
    rw [if_neg (by omega), if_pos h]
  have e2 : xpc T 93 (opt (opt s (tsK g b w)) (ssK g b (tsW g b w))) = .inl (-1000 - s.1) := by
    unfold xpc
    rw [opt_1, opt_1, if_neg hc]
  rw [finS_u hw, e, bnS_r, e2, bnS_l]
  exact finS_l _ _ _ (Nat.le_refl _)
theorem denC_c {T : Int → Int} {g : Nat → Int32} {b w d : Nat} {s : Cst} (h : sgn (T s.1) = 0) (hc : T s.1 = 93) (hw : ¬ ssW g b (tsW g b w) ≤ b) : denC T g b w d s = denC T g b (ssW g b (tsW g b w) - 1) (d + 1) (fwd (opt (opt s (tsK g b w)) (ssK g b (tsW g b w))) (s.1 + 1)) := by
  have e : sumT T (sumLs T d) (ssK g b (tsW g b w)) (tsK g b w) s = .inr (opt (opt s (tsK g b w)) (ssK g b (tsW g b w))) := by
    unfold sumT
    rw [if_neg (by omega), if_pos h]
  have e2 : xpc T 93 (opt (opt s (tsK g b w)) (ssK g b (tsW g b w))) = .inr (fwd (opt (opt s (tsK g b w)) (ssK g b (tsW g b w))) (s.1 + 1)) := by
    unfold xpc
    rw [opt_1, opt_1, if_pos hc]
  unfold denC
  rw [finS_u hw, e, bnS_r, e2, bnS_r]
/-- no sign stands on one that it would have closed -/
def Dsc (g : Nat → Int32) (b w : Nat) : Prop := ∀ t, b ≤ t → t < w → ((2 ≤ kd (g t) ∧ kd (g t) ≤ 6) ∨ kd (g t) = 14) ∧ (4 ≤ kd (g t) → kd (g t) ≤ 6 → ¬ isT g b t) ∧ (2 ≤ kd (g t) → kd (g t) ≤ 3 → ¬ isT g b t ∧ ¬ isS g b t)
theorem dsc_0 (g : Nat → Int32) (b : Nat) : Dsc g b b := fun t h1 h2 => absurd h2 (by omega)
theorem dsc_x {g g' : Nat → Int32} {b w : Nat} (h : Dsc g b w) (he : ∀ t, t < w → g t = g' t) : Dsc g' b w := fun t h1 h2 => by
  have e := he t h2
  have f : b < t → g (t - 1) = g' (t - 1) := fun z => he (t - 1) (by omega)
  obtain ⟨a1, a2, a3⟩ := h t h1 h2
  unfold isT isS at *
  rw [← e]
  refine ⟨a1, fun z1 z2 q => a2 z1 z2 ⟨q.1, by rw [f q.1]; exact q.2⟩, fun z1 z2 => ⟨fun q => (a3 z1 z2).1 ⟨q.1, by rw [f q.1]; exact q.2⟩, fun q => (a3 z1 z2).2 ⟨q.1, by rw [f q.1]; exact q.2⟩⟩⟩
theorem dsc_d {g : Nat → Int32} {b w w' : Nat} (h : Dsc g b w) (hw : w' ≤ w) : Dsc g b w' := fun t h1 h2 => h t h1 (by omega)
theorem dsc_p {g : Nat → Int32} {b w : Nat} {v : Int32} (h : Dsc g b w) (hk : (2 ≤ kd v ∧ kd v ≤ 6) ∨ kd v = 14) (h4 : 4 ≤ kd v → kd v ≤ 6 → ¬ isT g b w) (h2 : 2 ≤ kd v → kd v ≤ 3 → ¬ isT g b w ∧ ¬ isS g b w) : Dsc (upd g w v) b (w + 1) := fun t h1 ht => by
  by_cases e : t = w
  · have f : b < w → upd g w v (w - 1) = g (w - 1) := fun z => upd_o (by omega)
    unfold isT isS at *
    rw [e, upd_e]
    exact ⟨hk, fun z1 z2 q => h4 z1 z2 ⟨q.1, by rw [← f q.1]; exact q.2⟩, fun z1 z2 => ⟨fun q => (h2 z1 z2).1 ⟨q.1, by rw [← f q.1]; exact q.2⟩, fun q => (h2 z1 z2).2 ⟨q.1, by rw [← f q.1]; exact q.2⟩⟩⟩
  · exact dsc_x h (fun t ht => (upd_o (by omega)).symm) t h1 (by omega)
theorem dsc_t {g : Nat → Int32} {b w : Nat} (h : Dsc g b w) : ¬ isT g b (tsW g b w) := by
  by_cases c : isT g b w
  · rw [(ts_y c).2]
    have h1 := c.1
    exact (h (w - 1) (by omega) (by omega)).2.1 c.2.1 c.2.2
  · rw [(ts_n c).2]; exact c
theorem dsc_s {g : Nat → Int32} {b w : Nat} (h : Dsc g b w) : ¬ isT g b (ssW g b (tsW g b w)) ∧ ¬ isS g b (ssW g b (tsW g b w)) := by
  have b1 := tsW_b g b w
  by_cases c : isS g b (tsW g b w)
  · rw [(ss_y c).2]
    have h1 := c.1
    exact (h (tsW g b w - 1) (by omega) (by omega)).2.2 c.2.1 c.2.2
  · rw [(ss_n c).2]; exact ⟨dsc_t h, c⟩
theorem dsc_n {g : Nat → Int32} {b w : Nat} (h : Dsc g b w) (hn : ∀ t, b ≤ t → t < w → ¬ kd (g t) = 14) : ssW g b (tsW g b w) ≤ b := by
  have b1 := tsW_b g b w
  have b2 := ssW_b g b (tsW g b w)
  have hs := dsc_s h
  by_cases c : ssW g b (tsW g b w) ≤ b
  · exact c
  · have a1 := (h (ssW g b (tsW g b w) - 1) (by omega) (by omega)).1
    have a2 := hn (ssW g b (tsW g b w) - 1) (by omega) (by omega)
    unfold isT isS at hs
    omega
theorem dsc_o {g : Nat → Int32} {b w t : Nat} (h1 : b ≤ t) (h2 : t < w) (hk : kd (g t) = 14) : ¬ ssW g b (tsW g b w) ≤ b := by
  have a1 : t < tsW g b w := by
    by_cases c : isT g b w
    · rw [(ts_y c).2]
      by_cases e : t = w - 1
      · have := c.2
        rw [← e, hk] at this
        omega
      · omega
    · rw [(ts_n c).2]; exact h2
  have a2 : t < ssW g b (tsW g b w) := by
    by_cases c : isS g b (tsW g b w)
    · rw [(ss_y c).2]
      by_cases e : t = tsW g b w - 1
      · have := c.2
        rw [← e, hk] at this
        omega
      · omega
    · rw [(ss_n c).2]; exact a1
  omega
/-! tests and choices -/
def xNot (s : Cst) : Sum Int Cst := .inr (emt s 10 0)
theorem cmpS_rm {T : Int → Int} {n : Int} (hT : Ends T n) {d : Nat} {s s1 : Cst} (h : cmpS T d s = .inr s1) : Rm n s 0 s1 := by
  unfold cmpS at h
  obtain ⟨s2, h2, h3⟩ := bnS_e h
  obtain ⟨a1, a2, a3⟩ := sumD_rm hT _ _ _ h2
  by_cases c : cmq (T s2.1) = 0
  · rw [if_pos c] at h3
    exact nomatch h3
  · rw [if_neg c] at h3
    obtain ⟨s3, h4, h5⟩ := bnS_e h3
    obtain ⟨b1, b2, b3⟩ := sumD_rm hT _ _ _ h4
    rw [← Sum.inr.inj h5]
    have b4 : s2.1 + 1 < s3.1 := b1
    have b5 : (s3.2.1 : Int) + (s2.1 + 1) ≤ s2.2.1 + s3.1 + 0 := b3
    refine ⟨?_, b2, ?_⟩
    · show s.1 < s3.1
      omega
    · show ((s3.2.1 + 1 : Nat) : Int) + s.1 ≤ s.2.1 + s3.1 + 0
      omega
theorem tstS_rm {T : Int → Int} {n : Int} (hT : Ends T n) {d : Nat} {C P : Cst → Sum Int Cst} (hC : ∀ s s1, C s = .inr s1 → Rm n s 0 s1) (hP : ∀ s s1, P s = .inr s1 → Rm n s 0 s1) {s s1 : Cst} (h : tstS T d C P s = .inr s1) : Rm n s 0 s1 := by
  unfold tstS at h
  by_cases c1 : T s.1 = 33 ∨ T s.1 = 40
  · rw [if_pos c1] at h
    by_cases c2 : d = 0
    · rw [if_pos c2] at h
      exact nomatch h
    · rw [if_neg c2] at h
      by_cases c3 : T s.1 = 40
      · rw [if_pos c3] at h
        obtain ⟨s2, h2, h3⟩ := bnS_e h
        obtain ⟨a1, a2, a3⟩ := hC _ _ h2
        obtain ⟨b1, b2⟩ := xpc_r h3
        have b3 := ne_in hT (p := s2.1) (by omega)
        have a4 : s.1 + 1 < s2.1 := a1
        have a5 : (s2.2.1 : Int) + (s.1 + 1) ≤ s.2.1 + s2.1 + 0 := a3
        rw [b2]
        refine ⟨?_, ?_, ?_⟩
        · show s.1 < s2.1 + 1
          omega
        · show s2.1 + 1 ≤ n
          omega
        · show (s2.2.1 : Int) + s.1 ≤ s.2.1 + (s2.1 + 1) + 0
          omega
      · rw [if_neg c3] at h
        obtain ⟨s2, h2, h3⟩ := bnS_e h
        obtain ⟨a1, a2, a3⟩ := hP _ _ h2
        have a4 : s.1 + 1 < s2.1 := a1
        have a5 : (s2.2.1 : Int) + (s.1 + 1) ≤ s.2.1 + s2.1 + 0 := a3
        rw [← Sum.inr.inj h3]
        refine ⟨?_, a2, ?_⟩
        · show s.1 < s2.1
          omega
        · show ((s2.2.1 + 1 : Nat) : Int) + s.1 ≤ s.2.1 + s2.1 + 0
          omega
  · rw [if_neg c1] at h
    exact cmpS_rm hT h
theorem choL_rm {T : Int → Int} {n : Int} (hT : Ends T n) {P : Cst → Sum Int Cst} (hP : ∀ s s1, P s = .inr s1 → Rm n s 0 s1) : ∀ (k : Nat) (aj oj : Option Nat) (s s1 : Cst), choL T P k aj oj s = .inr s1 → Rm n s 0 s1
  | 0, aj, oj, s, s1, h => by
    rw [choL_0] at h
    exact nomatch h
  | k + 1, aj, oj, s, s1, h => by
    rw [choL_s] at h
    obtain ⟨s2, h2, h3⟩ := bnS_e h
    obtain ⟨a1, a2, a3⟩ := hP _ _ h2
    have o1 := lnd_2 s2 aj
    have o2 := lnd_2 (lnd s2 aj) oj
    have o3 := lnd_1 (lnd s2 aj) oj
    have o4 := lnd_1 s2 aj
    unfold choT at h3
    by_cases c1 : T s2.1 = 38
    · rw [if_pos c1] at h3
      obtain ⟨b1, b2, b3⟩ := choL_rm hT hP k _ _ _ _ h3
      have b4 : s2.1 + 1 < s1.1 := b1
      have b5 : (s1.2.1 : Int) + (s2.1 + 1) ≤ (((lnd s2 aj).2.1 + 1 : Nat) : Int) + s1.1 + 0 := b3
      exact ⟨by omega, b2, by omega⟩
    · rw [if_neg c1] at h3
      by_cases c2 : T s2.1 = 124
      · rw [if_pos c2] at h3
        obtain ⟨b1, b2, b3⟩ := choL_rm hT hP k _ _ _ _ h3
        have b4 : s2.1 + 1 < s1.1 := b1
        have b5 : (s1.2.1 : Int) + (s2.1 + 1) ≤ (((lnd (lnd s2 aj) oj).2.1 + 1 : Nat) : Int) + s1.1 + 0 := b3
        exact ⟨by omega, b2, by omega⟩
      · rw [if_neg c2] at h3
        rw [← Sum.inr.inj h3]
        refine ⟨?_, ?_, ?_⟩
        · rw [o3, o4]; exact a1
        · rw [o3, o4]; exact a2
        · rw [o3, o4, o2, o1]; exact a3
theorem tstD_rm {T : Int → Int} {n : Int} (hT : Ends T n) : ∀ (d : Nat) (s s1 : Cst), tstD T d s = .inr s1 → Rm n s 0 s1
  | 0, s, s1, h => tstS_rm hT (fun _ _ z => inl_ne z) (fun _ _ z => inl_ne z) h
  | d + 1, s, s1, h => tstS_rm hT (fun a b z => choL_rm hT (fun a b z => tstD_rm hT d a b z) _ _ _ _ _ z) (fun a b z => tstD_rm hT d a b z) h
theorem choD_rm {T : Int → Int} {n : Int} (hT : Ends T n) (d : Nat) (s s1 : Cst) (h : choD T d s = .inr s1) : Rm n s 0 s1 := choL_rm hT (tstD_rm hT d) _ _ _ _ _ h
theorem choL_fu {T : Int → Int} {n : Int} (hT : Ends T n) {P : Cst → Sum Int Cst} (hP : ∀ s s1, P s = .inr s1 → Rm n s 0 s1) : ∀ (k k2 : Nat) (aj oj : Option Nat) (s : Cst), n - s.1 < k → n - s.1 < k2 → s.1 ≤ n → choL T P k aj oj s = choL T P k2 aj oj s
  | 0, k2, aj, oj, s, h1, h2, h3 => absurd h1 (by omega)
  | k + 1, 0, aj, oj, s, h1, h2, h3 => absurd h2 (by omega)
  | k + 1, k2 + 1, aj, oj, s, h1, h2, h3 => by
    rw [choL_s, choL_s]
    cases e : P s with
    | inl f => rfl
    | inr s2 =>
      rw [bnS_r, bnS_r]
      obtain ⟨a1, a2, a3⟩ := hP _ _ e
      unfold choT
      by_cases c1 : T s2.1 = 38
      · rw [if_pos c1, if_pos c1]
        have := ne_in hT (p := s2.1) (by omega)
        exact choL_fu hT hP k k2 _ _ _ (by show n - (s2.1 + 1) < k; omega) (by show n - (s2.1 + 1) < k2; omega) (by show s2.1 + 1 ≤ n; omega)
      · rw [if_neg c1, if_neg c1]
        by_cases c2 : T s2.1 = 124
        · rw [if_pos c2, if_pos c2]
          have := ne_in hT (p := s2.1) (by omega)
          exact choL_fu hT hP k k2 _ _ _ (by show n - (s2.1 + 1) < k; omega) (by show n - (s2.1 + 1) < k2; omega) (by show s2.1 + 1 ≤ n; omega)
        · rw [if_neg c2, if_neg c2]
def choLs (T : Int → Int) (d : Nat) : Option Nat → Option Nat → Cst → Sum Int Cst := choL T (tstD T d) 240
theorem choLs_u {T : Int → Int} {n : Int} (hT : Ends T n) (hn : n ≤ 240) {d : Nat} {aj oj : Option Nat} {s : Cst} (h0 : 0 ≤ s.1) : choLs T d aj oj s = bnS (tstD T d s) (choT T (choLs T d) aj oj) := by
  refine (choL_s T (tstD T d) 239 aj oj s).trans ?_
  cases e : tstD T d s with
  | inl f => rw [bnS_l, bnS_l]
  | inr s2 =>
    rw [bnS_r, bnS_r]
    obtain ⟨a1, a2, a3⟩ := tstD_rm hT d _ _ e
    unfold choT choLs
    by_cases c1 : T s2.1 = 38
    · rw [if_pos c1, if_pos c1]
      have := ne_in hT (p := s2.1) (by omega)
      exact choL_fu hT (tstD_rm hT d) 239 240 _ _ _ (by show n - (s2.1 + 1) < 239; omega) (by show n - (s2.1 + 1) < 240; omega) (by show s2.1 + 1 ≤ n; omega)
    · rw [if_neg c1, if_neg c1]
      by_cases c2 : T s2.1 = 124
      · rw [if_pos c2, if_pos c2]
        have := ne_in hT (p := s2.1) (by omega)
        exact choL_fu hT (tstD_rm hT d) 239 240 _ _ _ (by show n - (s2.1 + 1) < 239; omega) (by show n - (s2.1 + 1) < 240; omega) (by show s2.1 + 1 ≤ n; omega)
      · rw [if_neg c2, if_neg c2]
def isA (g : Nat → Int32) (w : Nat) : Prop := 0 < w ∧ kd (g (w - 1)) = 11
def isO (g : Nat → Int32) (w : Nat) : Prop := 0 < w ∧ kd (g (w - 1)) = 12
def ajK (g : Nat → Int32) (w : Nat) : Option Nat := if 0 < w ∧ kd (g (w - 1)) = 11 then some (vl (g (w - 1))).toNat else none
def ajW (g : Nat → Int32) (w : Nat) : Nat := if 0 < w ∧ kd (g (w - 1)) = 11 then w - 1 else w
def ojK (g : Nat → Int32) (w : Nat) : Option Nat := if 0 < w ∧ kd (g (w - 1)) = 12 then some (vl (g (w - 1))).toNat else none
def ojW (g : Nat → Int32) (w : Nat) : Nat := if 0 < w ∧ kd (g (w - 1)) = 12 then w - 1 else w
theorem aj_y {g : Nat → Int32} {w : Nat} (h : isA g w) : ajK g w = some (vl (g (w - 1))).toNat ∧ ajW g w = w - 1 := ⟨if_pos h, if_pos h⟩
theorem aj_n {g : Nat → Int32} {w : Nat} (h : ¬ isA g w) : ajK g w = none ∧ ajW g w = w := ⟨if_neg h, if_neg h⟩
theorem oj_y {g : Nat → Int32} {w : Nat} (h : isO g w) : ojK g w = some (vl (g (w - 1))).toNat ∧ ojW g w = w - 1 := ⟨if_pos h, if_pos h⟩
theorem oj_n {g : Nat → Int32} {w : Nat} (h : ¬ isO g w) : ojK g w = none ∧ ojW g w = w := ⟨if_neg h, if_neg h⟩
theorem ajW_b (g : Nat → Int32) (w : Nat) : ajW g w ≤ w := by
  by_cases h : isA g w
  · rw [(aj_y h).2]; omega
  · rw [(aj_n h).2]; omega
theorem ojW_b (g : Nat → Int32) (w : Nat) : ojW g w ≤ w := by
  by_cases h : isO g w
  · rw [(oj_y h).2]; omega
  · rw [(oj_n h).2]; omega
theorem aj_ext {g g' : Nat → Int32} {w : Nat} (h : ∀ t, t < w → g t = g' t) : ajK g w = ajK g' w ∧ ajW g w = ajW g' w := by
  unfold ajK ajW
  by_cases c : 0 < w
  · rw [h (w - 1) (by omega)]
    exact ⟨rfl, rfl⟩
  · rw [if_neg (fun z => c z.1), if_neg (fun z => c z.1), if_neg (fun z => c z.1), if_neg (fun z => c z.1)]
    exact ⟨rfl, rfl⟩
theorem oj_ext {g g' : Nat → Int32} {w : Nat} (h : ∀ t, t < w → g t = g' t) : ojK g w = ojK g' w ∧ ojW g w = ojW g' w := by
  unfold ojK ojW
  by_cases c : 0 < w
  · rw [h (w - 1) (by omega)]
    exact ⟨rfl, rfl⟩
  · rw [if_neg (fun z => c z.1), if_neg (fun z => c z.1), if_neg (fun z => c z.1), if_neg (fun z => c z.1)]
    exact ⟨rfl, rfl⟩
/-- a test is done: what waits is done with it -/
def fin2 (T : Int → Int) (g : Nat → Int32) (w d : Nat) (r : Sum Int Cst) : Sum Int Cst :=
  if h : w = 0 then r else if kd (g (w - 1)) = 10 then fin2 T g (w - 1) (d + 1) (bnS r xNot)
  else fin2 T g (ojW g (ajW g w) - 1) (d + 1) (bnS (bnS r (choT T (choLs T d) (ajK g w) (ojK g (ajW g w)))) (xpc T 41))
termination_by w
decreasing_by
  · omega
  · have h1 := ajW_b g w
    have h2 := ojW_b g (ajW g w)
    omega
theorem fin2_e {T : Int → Int} {g : Nat → Int32} {w d : Nat} {r : Sum Int Cst} (h : w = 0) : fin2 T g w d r = r := by
  rw [fin2, dif_pos h]
theorem fin2_n {T : Int → Int} {g : Nat → Int32} {w d : Nat} {r : Sum Int Cst} (h : ¬ w = 0) (hk : kd (g (w - 1)) = 10) : fin2 T g w d r = fin2 T g (w - 1) (d + 1) (bnS r xNot) := by
  rw [fin2, dif_neg h, if_pos hk]
theorem fin2_c {T : Int → Int} {g : Nat → Int32} {w d : Nat} {r : Sum Int Cst} (h : ¬ w = 0) (hk : ¬ kd (g (w - 1)) = 10) : fin2 T g w d r = fin2 T g (ojW g (ajW g w) - 1) (d + 1) (bnS (bnS r (choT T (choLs T d) (ajK g w) (ojK g (ajW g w)))) (xpc T 41)) := by
  rw [fin2, dif_neg h, if_neg hk]
theorem fin2_l {T : Int → Int} {g : Nat → Int32} {e : Int} : ∀ (m w d : Nat), w ≤ m → fin2 T g w d (.inl e) = .inl e
  | 0, w, d, h => fin2_e (by omega)
  | m + 1, w, d, h => by
    by_cases c : w = 0
    · exact fin2_e c
    · have h1 := ajW_b g w
      have h2 := ojW_b g (ajW g w)
      by_cases c2 : kd (g (w - 1)) = 10
      · rw [fin2_n c c2]
        exact fin2_l m _ _ (by omega)
      · rw [fin2_c c c2]
        exact fin2_l m _ _ (by omega)
theorem fin2_x {T : Int → Int} {g g' : Nat → Int32} : ∀ (m w d : Nat) (r : Sum Int Cst), w ≤ m → (∀ t, t < w → g t = g' t) → fin2 T g w d r = fin2 T g' w d r
  | 0, w, d, r, h, _ => by rw [fin2_e (by omega), fin2_e (by omega)]
  | m + 1, w, d, r, h, he => by
    by_cases c : w = 0
    · rw [fin2_e c, fin2_e c]
    · have h1 := ajW_b g w
      have h2 := ojW_b g (ajW g w)
      have e1 := aj_ext (g := g) (g' := g') (w := w) he
      have e2 := oj_ext (g := g) (g' := g') (w := ajW g w) (fun t ht => he t (by omega))
      have e3 := he (w - 1) (by omega)
      by_cases c2 : kd (g (w - 1)) = 10
      · rw [fin2_n c c2, fin2_n c (by rw [← e3]; exact c2)]
        exact fin2_x m _ _ _ (by omega) (fun t ht => he t (by omega))
      · rw [fin2_c c c2, fin2_c (g := g') c (by rw [← e3]; exact c2), ← e1.1, ← e1.2, ← e2.1, ← e2.2]
        exact fin2_x m _ _ _ (by omega) (fun t ht => he t (by omega))
theorem d2_k {g : Nat → Int32} {w : Nat} {v : Int32} : (upd g w v) (w + 1 - 1) = v := by
  rw [Nat.add_sub_cancel, upd_e]
theorem denT_n {T : Int → Int} {g : Nat → Int32} {w d : Nat} {s : Cst} {v : Int32} (h : T s.1 = 33) (hd : ¬ d = 0) (hv : kd v = 10) : fin2 T g w d (tstD T d s) = fin2 T (upd g w v) (w + 1) (d - 1) (tstD T (d - 1) (fwd s (s.1 + 1))) := by
  rw [fin2_n (g := upd g w v) (w := w + 1) (by omega) (by rw [d2_k]; exact hv), Nat.add_sub_cancel, show d - 1 + 1 = d from by omega, fin2_x (g := upd g w v) (g' := g) _ _ _ _ (Nat.le_refl _) (fun t ht => upd_o (by omega)), tstD_is T d s]
  unfold tstS
  rw [if_pos (Or.inl h), if_neg hd, if_neg (by omega)]
  rfl
theorem denT_o {T : Int → Int} {n : Int} (hT : Ends T n) (hn : n ≤ 240) {g : Nat → Int32} {w d : Nat} {s : Cst} {v : Int32} (h0 : 0 ≤ s.1) (h : T s.1 = 40) (hd : ¬ d = 0) (hv : kd v = 13) : fin2 T g w d (tstD T d s) = fin2 T (upd g w v) (w + 1) (d - 1) (tstD T (d - 1) (fwd s (s.1 + 1))) := by
  have t1 := aj_n (g := upd g w v) (w := w + 1) (fun z => by have := z.2; rw [d2_k, hv] at this; omega)
  have t2 := oj_n (g := upd g w v) (w := w + 1) (fun z => by have := z.2; rw [d2_k, hv] at this; omega)
  rw [fin2_c (g := upd g w v) (w := w + 1) (by omega) (by rw [d2_k, hv]; omega), t1.1, t1.2, t2.1, t2.2, Nat.add_sub_cancel, show d - 1 + 1 = d from by omega, fin2_x (g := upd g w v) (g' := g) _ _ _ _ (Nat.le_refl _) (fun t ht => upd_o (by omega)), tstD_is T d s, ← choLs_u hT hn (show 0 ≤ (fwd s (s.1 + 1)).1 by show 0 ≤ s.1 + 1; omega)]
  unfold tstS
  rw [if_pos (Or.inr h), if_neg hd, if_pos h]
  rfl
theorem denT_5 {T : Int → Int} {g : Nat → Int32} {w d : Nat} {s : Cst} (h : T s.1 = 33 ∨ T s.1 = 40) (hd : d = 0) : fin2 T g w d (tstD T d s) = .inl (-5000 - s.1) := by
  rw [tstD_is]
  unfold tstS
  rw [if_pos h, if_pos hd]
  exact fin2_l _ _ _ (Nat.le_refl _)
theorem denT_c {T : Int → Int} {g : Nat → Int32} {w d : Nat} {s : Cst} (h : ¬ (T s.1 = 33 ∨ T s.1 = 40)) : fin2 T g w d (tstD T d s) = fin2 T g w d (cmpS T d s) := by
  rw [tstD_is]
  unfold tstS
  rw [if_neg h]
theorem denP_n {T : Int → Int} {g : Nat → Int32} {w d : Nat} {s : Cst} (h : ¬ w = 0) (hk : kd (g (w - 1)) = 10) : fin2 T g w d (.inr s) = fin2 T g (w - 1) (d + 1) (.inr (emt s 10 0)) := by
  rw [fin2_n h hk]
  rfl
theorem denP_c {T : Int → Int} {g : Nat → Int32} {w d : Nat} {s : Cst} (h : ¬ w = 0) (hk : ¬ kd (g (w - 1)) = 10) (hc : T s.1 = 41) : fin2 T g w d (.inr s) = fin2 T g (ojW g (ajW g w) - 1) (d + 1) (.inr (fwd (lnd (lnd s (ajK g w)) (ojK g (ajW g w))) (s.1 + 1))) := by
  rw [fin2_c h hk, bnS_r]
  have e : choT T (choLs T d) (ajK g w) (ojK g (ajW g w)) s = .inr (lnd (lnd s (ajK g w)) (ojK g (ajW g w))) := by
    unfold choT
    rw [if_neg (by omega), if_neg (by omega)]
  rw [e, bnS_r]
  unfold xpc
  rw [lnd_1, lnd_1, if_pos hc]
theorem denP_w {T : Int → Int} {g : Nat → Int32} {w d : Nat} {s : Cst} (h : ¬ w = 0) (hk : ¬ kd (g (w - 1)) = 10) (h1 : ¬ T s.1 = 41) (h2 : ¬ T s.1 = 38) (h3 : ¬ T s.1 = 124) : fin2 T g w d (.inr s) = .inl (-1000 - s.1) := by
  rw [fin2_c h hk, bnS_r]
  have e : choT T (choLs T d) (ajK g w) (ojK g (ajW g w)) s = .inr (lnd (lnd s (ajK g w)) (ojK g (ajW g w))) := by
    unfold choT
    rw [if_neg h2, if_neg h3]
  have e2 : xpc T 41 (lnd (lnd s (ajK g w)) (ojK g (ajW g w))) = .inl (-1000 - s.1) := by
    unfold xpc
    rw [lnd_1, lnd_1, if_neg h1]
  rw [e, bnS_r, e2]
  exact fin2_l _ _ _ (Nat.le_refl _)
theorem denP_a {T : Int → Int} {n : Int} (hT : Ends T n) (hn : n ≤ 240) {g : Nat → Int32} {w d : Nat} {s : Cst} {v : Int32} (h0 : 0 ≤ s.1) (h : ¬ w = 0) (hk : ¬ kd (g (w - 1)) = 10) (hc : T s.1 = 38) (hv : kd v = 11) (hx : vl v = s.2.1) : fin2 T g w d (.inr s) = fin2 T (upd g (ajW g w) v) (ajW g w + 1) d (tstD T d (fwd (emt (lnd s (ajK g w)) 11 0) (s.1 + 1))) := by
  have b1 := ajW_b g w
  have b2 := ojW_b g (ajW g w)
  have t1 := aj_y (g := upd g (ajW g w) v) (w := ajW g w + 1) ⟨by omega, by rw [d2_k]; exact hv⟩
  rw [d2_k, Nat.add_sub_cancel, hx, show ((s.2.1 : Int)).toNat = s.2.1 from by omega] at t1
  have e2 := oj_ext (g := upd g (ajW g w) v) (g' := g) (w := ajW g w) (fun t ht => upd_o (by omega))
  rw [fin2_c h hk, fin2_c (g := upd g (ajW g w) v) (w := ajW g w + 1) (by omega) (by rw [d2_k, hv]; omega), t1.1, t1.2, e2.1, e2.2, fin2_x (g := upd g (ajW g w) v) (g' := g) _ _ _ _ (Nat.le_refl _) (fun t ht => upd_o (by omega)), ← choLs_u hT hn (show 0 ≤ (fwd (emt (lnd s (ajK g w)) 11 0) (s.1 + 1)).1 by show 0 ≤ s.1 + 1; omega), bnS_r]
  unfold choT
  rw [if_pos hc]
theorem denP_o {T : Int → Int} {n : Int} (hT : Ends T n) (hn : n ≤ 240) {g : Nat → Int32} {w d : Nat} {s : Cst} {v : Int32} (h0 : 0 ≤ s.1) (h : ¬ w = 0) (hk : ¬ kd (g (w - 1)) = 10) (hc : T s.1 = 124) (hv : kd v = 12) (hx : vl v = s.2.1) : fin2 T g w d (.inr s) = fin2 T (upd g (ojW g (ajW g w)) v) (ojW g (ajW g w) + 1) d (tstD T d (fwd (emt (lnd (lnd s (ajK g w)) (ojK g (ajW g w))) 12 0) (s.1 + 1))) := by
  have b1 := ajW_b g w
  have b2 := ojW_b g (ajW g w)
  have t1 := aj_n (g := upd g (ojW g (ajW g w)) v) (w := ojW g (ajW g w) + 1) (fun z => by have := z.2; rw [d2_k, hv] at this; omega)
  have t2 := oj_y (g := upd g (ojW g (ajW g w)) v) (w := ojW g (ajW g w) + 1) ⟨by omega, by rw [d2_k]; exact hv⟩
  rw [d2_k, Nat.add_sub_cancel, hx, show ((s.2.1 : Int)).toNat = s.2.1 from by omega] at t2
  rw [fin2_c h hk, fin2_c (g := upd g (ojW g (ajW g w)) v) (w := ojW g (ajW g w) + 1) (by omega) (by rw [d2_k, hv]; omega), t1.1, t1.2, t2.1, t2.2, fin2_x (g := upd g (ojW g (ajW g w)) v) (g' := g) _ _ _ _ (Nat.le_refl _) (fun t ht => upd_o (by omega)), ← choLs_u hT hn (show 0 ≤ (fwd (emt (lnd (lnd s (ajK g w)) (ojK g (ajW g w))) 12 0) (s.1 + 1)).1 by show 0 ≤ s.1 + 1; omega), bnS_r]
  unfold choT
  rw [if_neg (by omega), if_pos hc]
/-- jumps that wait: at most one of each kind above a bracket -/
def Dsc2 (g : Nat → Int32) (w : Nat) : Prop := ∀ t, t < w → (kd (g t) = 11 → ¬ isA g t) ∧ (kd (g t) = 12 → ¬ isA g t ∧ ¬ isO g t)
theorem ds2_x {g g' : Nat → Int32} {w : Nat} (h : Dsc2 g w) (he : ∀ t, t < w → g t = g' t) : Dsc2 g' w := fun t ht => by
  have e := he t ht
  have f : 0 < t → g (t - 1) = g' (t - 1) := fun z => he (t - 1) (by omega)
  obtain ⟨a2, a3⟩ := h t ht
  unfold isA isO at *
  rw [← e]
  exact ⟨fun z1 q => a2 z1 ⟨q.1, by rw [f q.1]; exact q.2⟩, fun z1 => ⟨fun q => (a3 z1).1 ⟨q.1, by rw [f q.1]; exact q.2⟩, fun q => (a3 z1).2 ⟨q.1, by rw [f q.1]; exact q.2⟩⟩⟩
theorem ds2_d {g : Nat → Int32} {w w' : Nat} (h : Dsc2 g w) (hw : w' ≤ w) : Dsc2 g w' := fun t ht => h t (by omega)
theorem ds2_p {g : Nat → Int32} {w : Nat} {v : Int32} (h : Dsc2 g w) (h4 : kd v = 11 → ¬ isA g w) (h2 : kd v = 12 → ¬ isA g w ∧ ¬ isO g w) : Dsc2 (upd g w v) (w + 1) := fun t ht => by
  by_cases e : t = w
  · have f : 0 < w → upd g w v (w - 1) = g (w - 1) := fun z => upd_o (by omega)
    unfold isA isO at *
    rw [e, upd_e]
    exact ⟨fun z1 q => h4 z1 ⟨q.1, by rw [← f q.1]; exact q.2⟩, fun z1 => ⟨fun q => (h2 z1).1 ⟨q.1, by rw [← f q.1]; exact q.2⟩, fun q => (h2 z1).2 ⟨q.1, by rw [← f q.1]; exact q.2⟩⟩⟩
  · exact ds2_x h (fun t ht => (upd_o (by omega)).symm) t (by omega)
theorem ds2_a {g : Nat → Int32} {w : Nat} (h : Dsc2 g w) : ¬ isA g (ajW g w) := by
  by_cases c : isA g w
  · rw [(aj_y c).2]
    have h1 := c.1
    exact (h (w - 1) (by omega)).1 c.2
  · rw [(aj_n c).2]; exact c
theorem ds2_o {g : Nat → Int32} {w : Nat} (h : Dsc2 g w) : ¬ isA g (ojW g (ajW g w)) ∧ ¬ isO g (ojW g (ajW g w)) := by
  have b1 := ajW_b g w
  by_cases c : isO g (ajW g w)
  · rw [(oj_y c).2]
    have h1 := c.1
    exact (h (ajW g w - 1) (by omega)).2 c.2
  · rw [(oj_n c).2]; exact ⟨ds2_a h, c⟩
/-! rules -/
def rlt (c : Int) : Bool := decide (c = 117 ∨ c = 100 ∨ c = 111 ∨ c = 98 ∨ c = 120)
def rlE (T : Int → Int) (s : Cst) : Sum Int Cst := if T s.1 = 120 then .inr (fwd s (s.1 + 1)) else sumD T 6 (fwd s (s.1 + 1))
def rlC (T : Int → Int) (s : Cst) : Sum Int Cst := bnS (xpc T 40 s) (fun s1 => bnS (choD T 5 s1) (xpc T 41))
abbrev Tbl := Nat → Int × Nat × Nat × Nat
def lawA (T : Int → Int) : Nat → Nat → Cst → Tbl → Sum Int (Nat × Cst × Tbl)
  | 0, _, s, _ => .inl s.1
  | k + 1, r, s, tb => if rlt (T s.1) = false then .inl (-1000 - s.1) else if r = 16 then .inl (-4000 - s.1) else match rlE T s with
    | .inl f => .inl f
    | .inr s1 => match rlC T s1 with
      | .inl f => .inl f
      | .inr s2 => if T s2.1 = -1 then .inr (r + 1, s2, pu tb r (T s.1, s.2.1, s1.2.1, s2.2.1)) else if T s2.1 = 59 then lawA T k (r + 1) (fwd s2 (s2.1 + 1)) (pu tb r (T s.1, s.2.1, s1.2.1, s2.2.1)) else .inl (-1000 - s2.1)
termination_by k => k
/-- what law answers -/
def lwV (r : Sum Int (Nat × Cst × Tbl)) : Int := match r with
  | .inl f => f
  | .inr q => (q.1 : Int)
/-! codes beyond those that are written do not matter -/
def Lk (s s' : Cst) : Prop := s.1 = s'.1 ∧ s.2.1 = s'.2.1 ∧ ∀ j, j < s.2.1 → s.2.2 j = s'.2.2 j
def LkR (r r' : Sum Int Cst) : Prop := match r with
  | .inl f => r' = .inl f
  | .inr s => ∃ s', r' = .inr s' ∧ Lk s s'
theorem lk_emt {s s' : Cst} (h : Lk s s') (op v : Int) : Lk (emt s op v) (emt s' op v) := by
  obtain ⟨h1, h2, h3⟩ := h
  refine ⟨h1, congrArg (· + 1) h2, fun j hj => ?_⟩
  have hj2 : j < s.2.1 + 1 := hj
  show pu s.2.2 s.2.1 (op, v) j = pu s'.2.2 s'.2.1 (op, v) j
  rw [← h2]
  by_cases e : j = s.2.1
  · rw [e, pu_s, pu_s]
  · rw [pu_n e, pu_n e]
    exact h3 j (by omega)
theorem lk_fwd {s s' : Cst} (h : Lk s s') (p : Int) : Lk (fwd s p) (fwd s' p) := ⟨rfl, h.2.1, h.2.2⟩
theorem lk_opt {s s' : Cst} (h : Lk s s') (k : Int) : Lk (opt s k) (opt s' k) := by
  unfold opt
  by_cases c : k = 0
  · rw [if_pos c, if_pos c]; exact h
  · rw [if_neg c, if_neg c]; exact lk_emt h k 0
theorem lk_lnd {s s' : Cst} (h : Lk s s') (j : Option Nat) (hj : ∀ i, j = some i → i < s.2.1) : Lk (lnd s j) (lnd s' j) := by
  cases j with
  | none => exact h
  | some i =>
    have hi := hj i rfl
    obtain ⟨h1, h2, h3⟩ := h
    refine ⟨h1, h2, fun k hk => ?_⟩
    have hk2 : k < s.2.1 := hk
    show pu s.2.2 i ((s.2.2 i).1, (s.2.1 : Int)) k = pu s'.2.2 i ((s'.2.2 i).1, (s'.2.1 : Int)) k
    rw [h3 i hi, h2]
    by_cases e : k = i
    · rw [e, pu_s, pu_s]
    · rw [pu_n e, pu_n e]
      exact h3 k hk2
theorem lk_bn {r r' : Sum Int Cst} {f f' : Cst → Sum Int Cst} (h : LkR r r') (hf : ∀ s s', r = .inr s → Lk s s' → LkR (f s) (f' s')) : LkR (bnS r f) (bnS r' f') := by
  cases r with
  | inl e =>
    have h2 : r' = .inl e := h
    rw [h2]
    rfl
  | inr s =>
    obtain ⟨s', e, hl⟩ : ∃ s', r' = .inr s' ∧ Lk s s' := h
    rw [e]
    exact hf s s' rfl hl
theorem lk_ok {s s' : Cst} (h : Lk s s') : LkR (.inr s) (.inr s') := ⟨s', rfl, h⟩
theorem lk_xpc {T : Int → Int} {c : Int} {s s' : Cst} (h : Lk s s') : LkR (xpc T c s) (xpc T c s') := by
  unfold xpc
  rw [← h.1]
  by_cases e : T s.1 = c
  · rw [if_pos e, if_pos e]; exact lk_ok (lk_fwd h _)
  · rw [if_neg e, if_neg e]; rfl
theorem lk_fac {T : Int → Int} {d : Nat} {S : Cst → Sum Int Cst} (hS : ∀ s s', Lk s s' → LkR (S s) (S s')) {s s' : Cst} (h : Lk s s') : LkR (facS T d S s) (facS T d S s') := by
  unfold facS
  rw [← h.1]
  by_cases c1 : T s.1 = 91
  · rw [if_pos c1, if_pos c1]
    by_cases c2 : d = 0
    · rw [if_pos c2, if_pos c2]; rfl
    · rw [if_neg c2, if_neg c2]
      exact lk_bn (hS _ _ (lk_fwd h _)) (fun a b _ z => lk_xpc z)
  · rw [if_neg c1, if_neg c1]
    by_cases c2 : dgt (T s.1) = true
    · rw [if_pos c2, if_pos c2]
      unfold numC
      rw [← h.1]
      cases e : numS T s.1 5 with
      | inl f => rfl
      | inr q => exact lk_ok (lk_emt (lk_fwd h _) _ _)
    · rw [if_neg c2, if_neg c2]
      by_cases c3 : fct (T s.1) = -1
      · rw [if_pos c3, if_pos c3]; rfl
      · rw [if_neg c3, if_neg c3]
        exact lk_ok (lk_emt (lk_fwd h _) _ _)
theorem lk_sumL {T : Int → Int} {F : Cst → Sum Int Cst} (hF : ∀ s s', Lk s s' → LkR (F s) (F s')) : ∀ (k : Nat) (ss ts : Int) (s s' : Cst), Lk s s' → LkR (sumL T F k ss ts s) (sumL T F k ss ts s')
  | 0, ss, ts, s, s', h => by
    rw [sumL_0, sumL_0, h.1]
    rfl
  | k + 1, ss, ts, s, s', h => by
    rw [sumL_s, sumL_s]
    refine lk_bn (hF _ _ h) (fun a b _ z => ?_)
    unfold sumT
    rw [← z.1]
    by_cases c1 : 4 ≤ sgn (T a.1)
    · rw [if_pos c1, if_pos c1]
      exact lk_sumL hF k _ _ _ _ (lk_fwd (lk_opt z _) _)
    · rw [if_neg c1, if_neg c1]
      by_cases c2 : sgn (T a.1) = 0
      · rw [if_pos c2, if_pos c2]
        exact lk_ok (lk_opt (lk_opt z _) _)
      · rw [if_neg c2, if_neg c2]
        exact lk_sumL hF k _ _ _ _ (lk_fwd (lk_opt (lk_opt z _) _) _)
theorem lk_sumD {T : Int → Int} : ∀ (d : Nat) (s s' : Cst), Lk s s' → LkR (sumD T d s) (sumD T d s')
  | 0, s, s', h => lk_sumL (fun a b z => lk_fac (fun c e y => by rw [y.1]; rfl) z) 240 0 0 s s' h
  | d + 1, s, s', h => lk_sumL (fun a b z => lk_fac (fun c e y => lk_sumD d c e y) z) 240 0 0 s s' h
theorem lk_cmp {T : Int → Int} {d : Nat} {s s' : Cst} (h : Lk s s') : LkR (cmpS T d s) (cmpS T d s') := by
  unfold cmpS
  refine lk_bn (lk_sumD d _ _ h) (fun a b _ z => ?_)
  rw [← z.1]
  by_cases c : cmq (T a.1) = 0
  · rw [if_pos c, if_pos c]; rfl
  · rw [if_neg c, if_neg c]
    exact lk_bn (lk_sumD d _ _ (lk_fwd z _)) (fun a b _ z => lk_ok (lk_emt z _ _))
theorem lk_tst {T : Int → Int} {d : Nat} {C P : Cst → Sum Int Cst} (hC : ∀ s s', Lk s s' → LkR (C s) (C s')) (hP : ∀ s s', Lk s s' → LkR (P s) (P s')) {s s' : Cst} (h : Lk s s') : LkR (tstS T d C P s) (tstS T d C P s') := by
  unfold tstS
  rw [← h.1]
  by_cases c1 : T s.1 = 33 ∨ T s.1 = 40
  · rw [if_pos c1, if_pos c1]
    by_cases c2 : d = 0
    · rw [if_pos c2, if_pos c2]; rfl
    · rw [if_neg c2, if_neg c2]
      by_cases c3 : T s.1 = 40
      · rw [if_pos c3, if_pos c3]
        exact lk_bn (hC _ _ (lk_fwd h _)) (fun a b _ z => lk_xpc z)
      · rw [if_neg c3, if_neg c3]
        exact lk_bn (hP _ _ (lk_fwd h _)) (fun a b _ z => lk_ok (lk_emt z _ _))
  · rw [if_neg c1, if_neg c1]
    exact lk_cmp h
/-! codes only grow -/
theorem opt_m (s : Cst) (k : Int) : s.2.1 ≤ (opt s k).2.1 := by
  have h1 := opt_2 s k
  have h2 := cn_b k
  omega
theorem facS_mn {T : Int → Int} {d : Nat} {S : Cst → Sum Int Cst} (hS : ∀ s s1, S s = .inr s1 → s.2.1 ≤ s1.2.1) {s s1 : Cst} (h : facS T d S s = .inr s1) : s.2.1 ≤ s1.2.1 := by
  unfold facS at h
  by_cases c1 : T s.1 = 91
  · rw [if_pos c1] at h
    by_cases c2 : d = 0
    · rw [if_pos c2] at h
      exact nomatch h
    · rw [if_neg c2] at h
      obtain ⟨s2, h2, h3⟩ := bnS_e h
      have z := hS _ _ h2
      have a1 : s.2.1 ≤ s2.2.1 := z
      rw [(xpc_r h3).2]
      exact a1
  · rw [if_neg c1] at h
    by_cases c2 : dgt (T s.1) = true
    · rw [if_pos c2] at h
      unfold numC at h
      cases e : numS T s.1 5 with
      | inl f =>
        rw [e] at h
        exact nomatch h
      | inr q =>
        rw [e] at h
        rw [← Sum.inr.inj h]
        exact Nat.le_succ _
    · rw [if_neg c2] at h
      by_cases c3 : fct (T s.1) = -1
      · rw [if_pos c3] at h
        exact nomatch h
      · rw [if_neg c3] at h
        rw [← Sum.inr.inj h]
        exact Nat.le_succ _
theorem sumL_mn {T : Int → Int} {F : Cst → Sum Int Cst} (hF : ∀ s s1, F s = .inr s1 → s.2.1 ≤ s1.2.1) : ∀ (k : Nat) (ss ts : Int) (s s1 : Cst), sumL T F k ss ts s = .inr s1 → s.2.1 ≤ s1.2.1
  | 0, ss, ts, s, s1, h => by
    rw [sumL_0] at h
    exact nomatch h
  | k + 1, ss, ts, s, s1, h => by
    rw [sumL_s] at h
    obtain ⟨s2, h2, h3⟩ := bnS_e h
    have a1 := hF _ _ h2
    have o1 := opt_m s2 ts
    have o2 := opt_m (opt s2 ts) ss
    unfold sumT at h3
    by_cases c1 : 4 ≤ sgn (T s2.1)
    · rw [if_pos c1] at h3
      have z := sumL_mn hF k _ _ _ _ h3
      have b1 : (opt s2 ts).2.1 ≤ s1.2.1 := z
      omega
    · rw [if_neg c1] at h3
      by_cases c2 : sgn (T s2.1) = 0
      · rw [if_pos c2] at h3
        rw [← Sum.inr.inj h3]
        omega
      · rw [if_neg c2] at h3
        have z := sumL_mn hF k _ _ _ _ h3
        have b1 : (opt (opt s2 ts) ss).2.1 ≤ s1.2.1 := z
        omega
theorem sumD_mn {T : Int → Int} : ∀ (d : Nat) (s s1 : Cst), sumD T d s = .inr s1 → s.2.1 ≤ s1.2.1
  | 0, s, s1, h => sumL_mn (F := facS T 0 (fun s => .inl s.1)) (fun a b z => facS_mn (fun _ _ y => inl_ne y) z) 240 0 0 s s1 h
  | d + 1, s, s1, h => sumL_mn (F := facS T (d + 1) (sumD T d)) (fun a b z => facS_mn (fun a b y => sumD_mn d a b y) z) 240 0 0 s s1 h
theorem cmpS_mn {T : Int → Int} {d : Nat} {s s1 : Cst} (h : cmpS T d s = .inr s1) : s.2.1 ≤ s1.2.1 := by
  unfold cmpS at h
  obtain ⟨s2, h2, h3⟩ := bnS_e h
  have a1 := sumD_mn _ _ _ h2
  by_cases c : cmq (T s2.1) = 0
  · rw [if_pos c] at h3
    exact nomatch h3
  · rw [if_neg c] at h3
    obtain ⟨s3, h4, h5⟩ := bnS_e h3
    have z := sumD_mn _ _ _ h4
    have b1 : s2.2.1 ≤ s3.2.1 := z
    rw [← Sum.inr.inj h5]
    show s.2.1 ≤ s3.2.1 + 1
    omega
theorem tstS_mn {T : Int → Int} {d : Nat} {C P : Cst → Sum Int Cst} (hC : ∀ s s1, C s = .inr s1 → s.2.1 ≤ s1.2.1) (hP : ∀ s s1, P s = .inr s1 → s.2.1 ≤ s1.2.1) {s s1 : Cst} (h : tstS T d C P s = .inr s1) : s.2.1 ≤ s1.2.1 := by
  unfold tstS at h
  by_cases c1 : T s.1 = 33 ∨ T s.1 = 40
  · rw [if_pos c1] at h
    by_cases c2 : d = 0
    · rw [if_pos c2] at h
      exact nomatch h
    · rw [if_neg c2] at h
      by_cases c3 : T s.1 = 40
      · rw [if_pos c3] at h
        obtain ⟨s2, h2, h3⟩ := bnS_e h
        have z := hC _ _ h2
        have a1 : s.2.1 ≤ s2.2.1 := z
        rw [(xpc_r h3).2]
        exact a1
      · rw [if_neg c3] at h
        obtain ⟨s2, h2, h3⟩ := bnS_e h
        have z := hP _ _ h2
        have a1 : s.2.1 ≤ s2.2.1 := z
        rw [← Sum.inr.inj h3]
        exact Nat.le_succ_of_le a1
  · rw [if_neg c1] at h
    exact cmpS_mn h
theorem choL_mn {T : Int → Int} {P : Cst → Sum Int Cst} (hP : ∀ s s1, P s = .inr s1 → s.2.1 ≤ s1.2.1) : ∀ (k : Nat) (aj oj : Option Nat) (s s1 : Cst), choL T P k aj oj s = .inr s1 → s.2.1 ≤ s1.2.1
  | 0, aj, oj, s, s1, h => by
    rw [choL_0] at h
    exact nomatch h
  | k + 1, aj, oj, s, s1, h => by
    rw [choL_s] at h
    obtain ⟨s2, h2, h3⟩ := bnS_e h
    have a1 := hP _ _ h2
    have o1 := lnd_2 s2 aj
    have o2 := lnd_2 (lnd s2 aj) oj
    unfold choT at h3
    by_cases c1 : T s2.1 = 38
    · rw [if_pos c1] at h3
      have z := choL_mn hP k _ _ _ _ h3
      have b1 : (lnd s2 aj).2.1 + 1 ≤ s1.2.1 := z
      omega
    · rw [if_neg c1] at h3
      by_cases c2 : T s2.1 = 124
      · rw [if_pos c2] at h3
        have z := choL_mn hP k _ _ _ _ h3
        have b1 : (lnd (lnd s2 aj) oj).2.1 + 1 ≤ s1.2.1 := z
        omega
      · rw [if_neg c2] at h3
        rw [← Sum.inr.inj h3]
        omega
theorem tstD_mn {T : Int → Int} : ∀ (d : Nat) (s s1 : Cst), tstD T d s = .inr s1 → s.2.1 ≤ s1.2.1
  | 0, s, s1, h => tstS_mn (C := fun s => .inl s.1) (P := fun s => .inl s.1) (fun _ _ z => inl_ne z) (fun _ _ z => inl_ne z) h
  | d + 1, s, s1, h => tstS_mn (C := choL T (tstD T d) 240 none none) (P := tstD T d) (fun a b z => choL_mn (fun a b y => tstD_mn d a b y) _ _ _ _ _ z) (fun a b z => tstD_mn d a b z) h
theorem lk_choL {T : Int → Int} {P : Cst → Sum Int Cst} (hm : ∀ s s1, P s = .inr s1 → s.2.1 ≤ s1.2.1) (hP : ∀ s s', Lk s s' → LkR (P s) (P s')) : ∀ (k : Nat) (aj oj : Option Nat) (s s' : Cst), Lk s s' → (∀ i, aj = some i → i < s.2.1) → (∀ i, oj = some i → i < s.2.1) → LkR (choL T P k aj oj s) (choL T P k aj oj s')
  | 0, aj, oj, s, s', h, _, _ => by
    rw [choL_0, choL_0, h.1]
    rfl
  | k + 1, aj, oj, s, s', h, ha, ho => by
    rw [choL_s, choL_s]
    refine lk_bn (hP _ _ h) (fun a b ea z => ?_)
    have hg := hm _ _ ea
    have ha2 : ∀ i, aj = some i → i < a.2.1 := fun i hi => Nat.lt_of_lt_of_le (ha i hi) hg
    have ho2 : ∀ i, oj = some i → i < a.2.1 := fun i hi => Nat.lt_of_lt_of_le (ho i hi) hg
    have z1 := lk_lnd z aj ha2
    have z2 := lk_lnd z1 oj (fun i hi => by rw [lnd_2]; exact ho2 i hi)
    have o1 := lnd_2 a aj
    have o2 := lnd_2 (lnd a aj) oj
    unfold choT
    rw [← z.1, ← z.2.1]
    by_cases c1 : T a.1 = 38
    · rw [if_pos c1, if_pos c1]
      refine lk_choL hm hP k _ _ _ _ (lk_fwd (lk_emt z1 _ _) _) (fun i hi => ?_) (fun i hi => ?_)
      · show i < (lnd a aj).2.1 + 1
        have := Option.some.inj hi
        omega
      · show i < (lnd a aj).2.1 + 1
        have := ho2 i hi
        omega
    · rw [if_neg c1, if_neg c1]
      by_cases c2 : T a.1 = 124
      · rw [if_pos c2, if_pos c2]
        refine lk_choL hm hP k _ _ _ _ (lk_fwd (lk_emt z2 _ _) _) (fun i hi => nomatch hi) (fun i hi => ?_)
        show i < (lnd (lnd a aj) oj).2.1 + 1
        have := Option.some.inj hi
        omega
      · rw [if_neg c2, if_neg c2]
        exact lk_ok z2
theorem lk_tstD {T : Int → Int} : ∀ (d : Nat) (s s' : Cst), Lk s s' → LkR (tstD T d s) (tstD T d s')
  | 0, s, s', h => lk_tst (fun c e y => by rw [y.1]; rfl) (fun c e y => by rw [y.1]; rfl) h
  | d + 1, s, s', h => lk_tst (fun c e y => lk_choL (tstD_mn d) (fun a b z => lk_tstD d a b z) 240 none none c e y (fun _ z => nomatch z) (fun _ z => nomatch z)) (fun a b z => lk_tstD d a b z) h
theorem lk_choD {T : Int → Int} (d : Nat) (s s' : Cst) (h : Lk s s') : LkR (choD T d s) (choD T d s') := lk_choL (tstD_mn d) (lk_tstD d) 240 none none s s' h (fun _ z => nomatch z) (fun _ z => nomatch z)
theorem lk_rlE {T : Int → Int} {s s' : Cst} (h : Lk s s') : LkR (rlE T s) (rlE T s') := by
  unfold rlE
  rw [← h.1]
  by_cases c : T s.1 = 120
  · rw [if_pos c, if_pos c]; exact lk_ok (lk_fwd h _)
  · rw [if_neg c, if_neg c]; exact lk_sumD 6 _ _ (lk_fwd h _)
theorem lk_rlC {T : Int → Int} {s s' : Cst} (h : Lk s s') : LkR (rlC T s) (rlC T s') := lk_bn (lk_xpc h) (fun a b _ z => lk_bn (lk_choD 5 _ _ z) (fun a b _ z => lk_xpc z))
/-- two that read the same text: the same fault, or as many rules, the same codes and tables -/
def LkA (r r' : Sum Int (Nat × Cst × Tbl)) : Prop := match r with
  | .inl f => r' = .inl f
  | .inr q => ∃ q', r' = .inr q' ∧ q.1 = q'.1 ∧ Lk q.2.1 q'.2.1 ∧ ∀ i, i < q.1 → q.2.2 i = q'.2.2 i
theorem lk_lawA {T : Int → Int} : ∀ (k r : Nat) (s s' : Cst) (tb tb' : Tbl), Lk s s' → (∀ i, i < r → tb i = tb' i) → LkA (lawA T k r s tb) (lawA T k r s' tb')
  | 0, r, s, s', tb, tb', h, _ => by
    simp only [lawA]
    rw [h.1]
    rfl
  | k + 1, r, s, s', tb, tb', h, ht => by
    simp only [lawA]
    rw [← h.1]
    by_cases c1 : rlt (T s.1) = false
    · rw [if_pos c1, if_pos c1]; rfl
    · rw [if_neg c1, if_neg c1]
      by_cases c2 : r = 16
      · rw [if_pos c2, if_pos c2]; rfl
      · rw [if_neg c2, if_neg c2]
        have h1 := lk_rlE (T := T) h
        cases e1 : rlE T s with
        | inl f =>
          rw [e1] at h1
          have h2 : rlE T s' = .inl f := h1
          rw [h2]
          rfl
        | inr s1 =>
          rw [e1] at h1
          obtain ⟨s1', e1', hl1⟩ : ∃ t, rlE T s' = .inr t ∧ Lk s1 t := h1
          rw [e1']
          have h2 := lk_rlC (T := T) hl1
          show LkA (match rlC T s1 with | .inl f => .inl f | .inr s2 => _) (match rlC T s1' with | .inl f => .inl f | .inr s2 => _)
          cases e2 : rlC T s1 with
          | inl f =>
            rw [e2] at h2
            have h3 : rlC T s1' = .inl f := h2
            rw [h3]
            rfl
          | inr s2 =>
            rw [e2] at h2
            obtain ⟨s2', e2', hl2⟩ : ∃ t, rlC T s1' = .inr t ∧ Lk s2 t := h2
            rw [e2']
            have hp : ∀ i, i < r + 1 → pu tb r (T s.1, s.2.1, s1.2.1, s2.2.1) i = pu tb' r (T s.1, s'.2.1, s1'.2.1, s2'.2.1) i := fun i hi => by
              rw [← h.2.1, ← hl1.2.1, ← hl2.2.1]
              by_cases e : i = r
              · rw [e, pu_s, pu_s]
              · rw [pu_n e, pu_n e]; exact ht i (by omega)
            show LkA (if T s2.1 = -1 then _ else _) (if T s2'.1 = -1 then _ else _)
            rw [← hl2.1]
            by_cases c3 : T s2.1 = -1
            · rw [if_pos c3, if_pos c3]
              exact ⟨_, rfl, rfl, hl2, hp⟩
            · rw [if_neg c3, if_neg c3]
              by_cases c4 : T s2.1 = 59
              · rw [if_pos c4, if_pos c4]
                exact lk_lawA k (r + 1) _ _ _ _ (lk_fwd hl2 _) hp
              · rw [if_neg c4, if_neg c4]; rfl
theorem lk_val {r r' : Sum Int (Nat × Cst × Tbl)} (h : LkA r r') : lwV r = lwV r' := by
  cases r with
  | inl f =>
    have h2 : r' = .inl f := h
    rw [h2]
  | inr q =>
    obtain ⟨q', e, h1, -⟩ : ∃ q', r' = .inr q' ∧ q.1 = q'.1 ∧ Lk q.2.1 q'.2.1 ∧ ∀ i, i < q.1 → q.2.2 i = q'.2.2 i := h
    rw [e]
    show (q.1 : Int) = (q'.1 : Int)
    rw [h1]
