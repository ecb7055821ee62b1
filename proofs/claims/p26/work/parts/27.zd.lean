/-! how deep the codes of a law go -/
def dq (f : Nat → Int × Int) : Nat → Int
  | 0 => 0
  | n + 1 => dq f n + ef (f n).1
theorem dq_s (f : Nat → Int × Int) (n : Nat) : dq f (n + 1) = dq f n + ef (f n).1 := rfl
theorem dq_ext {f f' : Nat → Int × Int} : ∀ n, (∀ k, k < n → (f k).1 = (f' k).1) → dq f n = dq f' n
  | 0, _ => rfl
  | n + 1, h => by rw [dq_s, dq_s, dq_ext n (fun k hk => h k (by omega)), h n (by omega)]
/-- from s to s1: what stood stays, the depth grows by e, and is never more than D above that at s -/
def Sg (s s1 : Cst) (e D : Int) : Prop := s.2.1 ≤ s1.2.1 ∧ (∀ j, j < s.2.1 → (s1.2.2 j).1 = (s.2.2 j).1) ∧ dq s1.2.2 s1.2.1 = dq s.2.2 s.2.1 + e ∧ ∀ k, s.2.1 ≤ k → k ≤ s1.2.1 → dq s1.2.2 k ≤ dq s.2.2 s.2.1 + D
theorem sg_refl (s : Cst) : Sg s s 0 0 := ⟨Nat.le_refl _, fun _ _ => rfl, by omega, fun k h1 h2 => by rw [show k = s.2.1 from by omega]; omega⟩
theorem sg_wk {s s1 : Cst} {e D D' : Int} (h : Sg s s1 e D) (hd : D ≤ D') : Sg s s1 e D' := ⟨h.1, h.2.1, h.2.2.1, fun k h1 h2 => by have := h.2.2.2 k h1 h2; omega⟩
theorem sg_tr {s s1 s2 : Cst} {e e' D D' e2 D2 : Int} (h : Sg s s1 e D) (h' : Sg s1 s2 e' D') (he : e2 = e + e') (hd : D ≤ D2) (hd' : e + D' ≤ D2) : Sg s s2 e2 D2 := by
  obtain ⟨a1, a2, a3, a4⟩ := h
  obtain ⟨b1, b2, b3, b4⟩ := h'
  refine ⟨by omega, fun j hj => by rw [b2 j (by omega), a2 j hj], by omega, fun k h1 h2 => ?_⟩
  by_cases c : k ≤ s1.2.1
  · rw [dq_ext k (fun i hi => b2 i (by omega))]
    have := a4 k h1 c
    omega
  · have := b4 k (by omega) h2
    omega
theorem sg_emt (s : Cst) {op v : Int} {e : Int} (h : ef op = e) : Sg s (emt s op v) e (max e 0) := by
  have e0 : dq (emt s op v).2.2 s.2.1 = dq s.2.2 s.2.1 := dq_ext _ (fun k hk => by
    show (pu s.2.2 s.2.1 (op, v) k).1 = _
    rw [pu_n (by omega)])
  have e1 : dq (emt s op v).2.2 (s.2.1 + 1) = dq s.2.2 s.2.1 + e := by
    rw [dq_s, e0, ← h]
    show dq s.2.2 s.2.1 + ef (pu s.2.2 s.2.1 (op, v) s.2.1).1 = _
    rw [pu_s]
  refine ⟨Nat.le_succ _, fun j hj => ?_, e1, fun k h1 h2 => ?_⟩
  · show (pu s.2.2 s.2.1 (op, v) j).1 = _
    rw [pu_n (by omega)]
  · have h3 : k ≤ s.2.1 + 1 := h2
    by_cases c : k = s.2.1
    · rw [c, e0]; omega
    · rw [show k = s.2.1 + 1 from by omega, e1]; omega
def OkP (k : Int) : Prop := k = 0 ∨ (2 ≤ k ∧ k ≤ 9)
theorem sg_opt (s : Cst) {k : Int} (h : OkP k) : Sg s (opt s k) (-(cn k)) 0 := by
  unfold opt cn
  by_cases c : k = 0
  · rw [if_pos c, if_pos c]; exact sg_refl s
  · rw [if_neg c, if_neg c]
    have h1 := h.resolve_left c
    exact sg_emt s (ef_m h1.1 (by omega))
theorem lnd_op (s : Cst) (j : Option Nat) (k : Nat) : ((lnd s j).2.2 k).1 = (s.2.2 k).1 := by
  cases j with
  | none => rfl
  | some i =>
    show (pu s.2.2 i ((s.2.2 i).1, (s.2.1 : Int)) k).1 = _
    by_cases e : k = i
    · rw [e, pu_s]
    · rw [pu_n e]
theorem sg_lnd {s s1 : Cst} {e D : Int} (h : Sg s s1 e D) (j : Option Nat) : Sg s (lnd s1 j) e D := by
  obtain ⟨a1, a2, a3, a4⟩ := h
  have h2 := lnd_2 s1 j
  have hd : ∀ n, dq (lnd s1 j).2.2 n = dq s1.2.2 n := fun n => dq_ext n (fun k _ => lnd_op s1 j k)
  refine ⟨by omega, fun k hk => by rw [lnd_op]; exact a2 k hk, by rw [h2, hd]; exact a3, fun k k1 k2 => ?_⟩
  rw [h2] at k2
  rw [hd]
  exact a4 k k1 k2
theorem sgn_ok (x : Int) : OkP (sgn x) := by
  unfold OkP sgn
  by_cases h1 : x = 43
  · rw [if_pos h1]; omega
  · rw [if_neg h1]
    by_cases h2 : x = 45
    · rw [if_pos h2]; omega
    · rw [if_neg h2]
      by_cases h3 : x = 42
      · rw [if_pos h3]; omega
      · rw [if_neg h3]
        by_cases h4 : x = 47
        · rw [if_pos h4]; omega
        · rw [if_neg h4]
          by_cases h5 : x = 37
          · rw [if_pos h5]; omega
          · rw [if_neg h5]; omega
theorem cmq_b {x : Int} (h : ¬ cmq x = 0) : 7 ≤ cmq x ∧ cmq x ≤ 9 := by
  unfold cmq at h ⊢
  by_cases h1 : x = 60
  · rw [if_pos h1]; omega
  · rw [if_neg h1] at h ⊢
    by_cases h2 : x = 62
    · rw [if_pos h2]; omega
    · rw [if_neg h2] at h ⊢
      by_cases h3 : x = 61
      · rw [if_pos h3]; omega
      · rw [if_neg h3] at h
        exact absurd rfl h
theorem facS_sg {T : Int → Int} {d : Nat} {S : Cst → Sum Int Cst} {D : Int} (hD : 1 ≤ D) (hS : ∀ s s1, S s = .inr s1 → Sg s s1 1 D) {s s1 : Cst} (h : facS T d S s = .inr s1) : Sg s s1 1 D := by
  unfold facS at h
  by_cases c1 : T s.1 = 91
  · rw [if_pos c1] at h
    by_cases c2 : d = 0
    · rw [if_pos c2] at h
      exact nomatch h
    · rw [if_neg c2] at h
      obtain ⟨s2, h2, h3⟩ := bnS_e h
      have z := hS _ _ h2
      rw [(xpc_r h3).2]
      exact z
  · rw [if_neg c1] at h
    by_cases c2 : dgt (T s.1) = true
    · rw [if_pos c2] at h
      unfold numC at h
      cases e : numS T s.1 5 with
      | inl f =>
        rw [e] at h
        exact nomatch h
      | inr q =>
        rw [e] at h
        rw [← Sum.inr.inj h]
        exact sg_wk (sg_emt (fwd s q.2) (e := 1) (by decide)) (by omega)
    · rw [if_neg c2] at h
      by_cases c3 : fct (T s.1) = -1
      · rw [if_pos c3] at h
        exact nomatch h
      · rw [if_neg c3] at h
        rw [← Sum.inr.inj h]
        exact sg_wk (sg_emt (fwd s (s.1 + 1)) (e := 1) (by decide)) (by omega)
theorem sumL_sg {T : Int → Int} {F : Cst → Sum Int Cst} {D : Int} (hD : 1 ≤ D) (hF : ∀ s s1, F s = .inr s1 → Sg s s1 1 D) : ∀ (k : Nat) (ss ts : Int) (s s1 : Cst), OkP ss → OkP ts → sumL T F k ss ts s = .inr s1 → Sg s s1 (1 - cn ss - cn ts) (D + 2 - cn ss - cn ts)
  | 0, ss, ts, s, s1, _, _, h => by
    rw [sumL_0] at h
    exact nomatch h
  | k + 1, ss, ts, s, s1, o1, o2, h => by
    rw [sumL_s] at h
    obtain ⟨s2, h2, h3⟩ := bnS_e h
    have a1 := hF _ _ h2
    have n1 := cn_b ss
    have n2 := cn_b ts
    have b1 : Sg s (opt s2 ts) (1 - cn ts) D := sg_tr a1 (sg_opt s2 o2) (by omega) (by omega) (by omega)
    have b2 : Sg s (opt (opt s2 ts) ss) (1 - cn ts - cn ss) D := sg_tr b1 (sg_opt _ o1) (by omega) (by omega) (by omega)
    unfold sumT at h3
    by_cases c1 : 4 ≤ sgn (T s2.1)
    · rw [if_pos c1] at h3
      have z := sumL_sg hD hF k _ _ _ _ o1 (sgn_ok (T s2.1)) h3
      rw [cn_1 (k := sgn (T s2.1)) (by omega)] at z
      exact sg_tr (s1 := opt s2 ts) b1 z (by omega) (by omega) (by omega)
    · rw [if_neg c1] at h3
      by_cases c2 : sgn (T s2.1) = 0
      · rw [if_pos c2] at h3
        rw [← Sum.inr.inj h3, show 1 - cn ss - cn ts = 1 - cn ts - cn ss from by omega]
        exact sg_wk b2 (by omega)
      · rw [if_neg c2] at h3
        have z := sumL_sg hD hF k _ _ _ _ (sgn_ok (T s2.1)) (Or.inl rfl) h3
        rw [cn_1 (k := sgn (T s2.1)) c2, cn_0] at z
        exact sg_tr (s1 := opt (opt s2 ts) ss) b2 z (by omega) (by omega) (by omega)
theorem sumD_sg {T : Int → Int} : ∀ (d : Nat) (s s1 : Cst), sumD T d s = .inr s1 → Sg s s1 1 (2 * d + 3)
  | 0, s, s1, h => by
    have z := sumL_sg (F := facS T 0 (fun s => .inl s.1)) (D := 1) (by omega) (fun s s1 h => facS_sg (by omega) (fun _ _ z => inl_ne z) h) 240 0 0 s s1 (Or.inl rfl) (Or.inl rfl) h
    rw [cn_0] at z
    exact sg_wk z (by omega)
  | d + 1, s, s1, h => by
    have z := sumL_sg (F := facS T (d + 1) (sumD T d)) (D := 2 * d + 3) (by omega) (fun s s1 h => facS_sg (by omega) (fun a b z => sumD_sg d a b z) h) 240 0 0 s s1 (Or.inl rfl) (Or.inl rfl) h
    rw [cn_0] at z
    exact sg_wk z (by omega)
theorem cmpS_sg {T : Int → Int} {d : Nat} {s s1 : Cst} (h : cmpS T d s = .inr s1) : Sg s s1 1 (2 * d + 4) := by
  unfold cmpS at h
  obtain ⟨s2, h2, h3⟩ := bnS_e h
  have a1 := sumD_sg _ _ _ h2
  by_cases c : cmq (T s2.1) = 0
  · rw [if_pos c] at h3
    exact nomatch h3
  · rw [if_neg c] at h3
    obtain ⟨s3, h4, h5⟩ := bnS_e h3
    have b0 := sumD_sg _ _ _ h4
    have b1 : Sg s2 s3 1 (2 * d + 3) := b0
    have cb := cmq_b c
    rw [← Sum.inr.inj h5]
    exact sg_tr (sg_tr (e2 := 2) (D2 := 2 * d + 4) a1 b1 (by omega) (by omega) (by omega)) (sg_emt s3 (ef_m (by omega) (by omega))) (by omega) (by omega) (by omega)
theorem tstS_sg {T : Int → Int} {d : Nat} {C P : Cst → Sum Int Cst} {D : Int} (hD : 2 * (d : Int) + 4 ≤ D) (hC : ∀ s s1, C s = .inr s1 → Sg s s1 1 D) (hP : ∀ s s1, P s = .inr s1 → Sg s s1 1 D) {s s1 : Cst} (h : tstS T d C P s = .inr s1) : Sg s s1 1 D := by
  unfold tstS at h
  by_cases c1 : T s.1 = 33 ∨ T s.1 = 40
  · rw [if_pos c1] at h
    by_cases c2 : d = 0
    · rw [if_pos c2] at h
      exact nomatch h
    · rw [if_neg c2] at h
      by_cases c3 : T s.1 = 40
      · rw [if_pos c3] at h
        obtain ⟨s2, h2, h3⟩ := bnS_e h
        have z := hC _ _ h2
        rw [(xpc_r h3).2]
        exact z
      · rw [if_neg c3] at h
        obtain ⟨s2, h2, h3⟩ := bnS_e h
        have z0 := hP _ _ h2
        have z : Sg s s2 1 D := z0
        rw [← Sum.inr.inj h3]
        exact sg_tr z (sg_emt s2 (e := 0) (by decide)) (by omega) (by omega) (by omega)
  · rw [if_neg c1] at h
    exact sg_wk (cmpS_sg h) hD
theorem choL_sg {T : Int → Int} {P : Cst → Sum Int Cst} {D : Int} (hD : 1 ≤ D) (hP : ∀ s s1, P s = .inr s1 → Sg s s1 1 D) : ∀ (k : Nat) (aj oj : Option Nat) (s s1 : Cst), choL T P k aj oj s = .inr s1 → Sg s s1 1 D
  | 0, aj, oj, s, s1, h => by
    rw [choL_0] at h
    exact nomatch h
  | k + 1, aj, oj, s, s1, h => by
    rw [choL_s] at h
    obtain ⟨s2, h2, h3⟩ := bnS_e h
    have a1 := sg_lnd (hP _ _ h2) aj
    have a2 := sg_lnd a1 oj
    unfold choT at h3
    by_cases c1 : T s2.1 = 38
    · rw [if_pos c1] at h3
      have z := choL_sg hD hP k _ _ _ _ h3
      have y : Sg s (emt (lnd s2 aj) 11 0) 0 D := sg_tr a1 (sg_emt _ (e := -1) (by decide)) (by omega) (by omega) (by omega)
      exact sg_tr (s1 := emt (lnd s2 aj) 11 0) y z (by omega) (by omega) (by omega)
    · rw [if_neg c1] at h3
      by_cases c2 : T s2.1 = 124
      · rw [if_pos c2] at h3
        have z := choL_sg hD hP k _ _ _ _ h3
        have y : Sg s (emt (lnd (lnd s2 aj) oj) 12 0) 0 D := sg_tr a2 (sg_emt _ (e := -1) (by decide)) (by omega) (by omega) (by omega)
        exact sg_tr (s1 := emt (lnd (lnd s2 aj) oj) 12 0) y z (by omega) (by omega) (by omega)
      · rw [if_neg c2] at h3
        rw [← Sum.inr.inj h3]
        exact a2
theorem tstD_sg {T : Int → Int} {D : Int} : ∀ (d : Nat), 2 * (d : Int) + 4 ≤ D → ∀ (s s1 : Cst), tstD T d s = .inr s1 → Sg s s1 1 D
  | 0, hd, s, s1, h => tstS_sg (C := fun s => .inl s.1) (P := fun s => .inl s.1) (by omega) (fun _ _ z => inl_ne z) (fun _ _ z => inl_ne z) h
  | d + 1, hd, s, s1, h => tstS_sg (C := choL T (tstD T d) 240 none none) (P := tstD T d) hd (fun a b z => choL_sg (by omega) (fun a b y => tstD_sg d (by omega) a b y) _ _ _ _ _ z) (fun a b z => tstD_sg d (by omega) a b z) h
theorem choD_sg {T : Int → Int} {D : Int} {d : Nat} (hd : 2 * (d : Int) + 4 ≤ D) {s s1 : Cst} (h : choD T d s = .inr s1) : Sg s s1 1 D := choL_sg (by omega) (tstD_sg d hd) _ _ _ _ _ h
theorem rlE_sg {T : Int → Int} {s s1 : Cst} (h : rlE T s = .inr s1) : Sg s s1 (if T s.1 = 120 then 0 else 1) 16 := by
  unfold rlE at h
  by_cases c : T s.1 = 120
  · rw [if_pos c] at h ⊢
    rw [← Sum.inr.inj h]
    exact sg_wk (sg_refl s) (by omega)
  · rw [if_neg c] at h ⊢
    have z := sumD_sg _ _ _ h
    exact sg_wk z (by omega)
theorem rlC_sg {T : Int → Int} {s s1 : Cst} (h : rlC T s = .inr s1) : Sg s s1 1 16 := by
  unfold rlC at h
  obtain ⟨s2, h2, h3⟩ := bnS_e h
  obtain ⟨s3, h4, h5⟩ := bnS_e h3
  have z := choD_sg (D := 16) (by decide) h4
  rw [(xpc_r h5).2]
  rw [(xpc_r h2).2] at z
  exact z
/-! tests: what ends one, where jumps go -/
def isB (o : Int) : Prop := 7 ≤ o ∧ o ≤ 10
/-- of a code at k, from a on: a test has just ended ahead of it, if it asks for one; and where it jumps to, too -/
def Wk (f : Nat → Int × Int) (a b k : Nat) (Q : Prop) : Prop := (10 ≤ (f k).1 → a < k ∧ isB (f (k - 1)).1) ∧ (11 ≤ (f k).1 → Q ∨ ((k : Int) < (f k).2 ∧ (f k).2 ≤ b ∧ isB (f ((f k).2.toNat - 1)).1))
def Wt (f : Nat → Int × Int) (a b : Nat) : Prop := ∀ k, a ≤ k → k < b → Wk f a b k False
def Tq (s s1 : Cst) : Prop := s.2.1 < s1.2.1 ∧ isB (s1.2.2 (s1.2.1 - 1)).1 ∧ Wt s1.2.2 s.2.1 s1.2.1 ∧ ∀ j, j < s.2.1 → s1.2.2 j = s.2.2 j
def Sq (s s1 : Cst) : Prop := s.2.1 ≤ s1.2.1 ∧ (∀ k, s.2.1 ≤ k → k < s1.2.1 → (s1.2.2 k).1 ≤ 9) ∧ ∀ j, j < s.2.1 → s1.2.2 j = s.2.2 j
theorem sq_tr {s s1 s2 : Cst} (h : Sq s s1) (h' : Sq s1 s2) : Sq s s2 := by
  obtain ⟨a1, a2, a3⟩ := h
  obtain ⟨b1, b2, b3⟩ := h'
  refine ⟨by omega, fun k k1 k2 => ?_, fun j hj => by rw [b3 j (by omega), a3 j hj]⟩
  by_cases c : k < s1.2.1
  · rw [b3 k c]; exact a2 k k1 c
  · exact b2 k (by omega) k2
theorem sq_refl (s : Cst) : Sq s s := ⟨Nat.le_refl _, fun k k1 k2 => absurd k1 (by omega), fun _ _ => rfl⟩
theorem sq_emt (s : Cst) {op v : Int} (h : op ≤ 9) : Sq s (emt s op v) := by
  refine ⟨Nat.le_succ _, fun k k1 k2 => ?_, fun j hj => ?_⟩
  · have h3 : k < s.2.1 + 1 := k2
    show (pu s.2.2 s.2.1 (op, v) k).1 ≤ 9
    rw [show k = s.2.1 from by omega, pu_s]
    exact h
  · show pu s.2.2 s.2.1 (op, v) j = _
    rw [pu_n (by omega)]
theorem sq_opt (s : Cst) {k : Int} (h : OkP k) : Sq s (opt s k) := by
  unfold opt
  by_cases c : k = 0
  · rw [if_pos c]; exact sq_refl s
  · rw [if_neg c]
    have h1 := h.resolve_left c
    exact sq_emt s (by omega)
theorem facS_sq {T : Int → Int} {d : Nat} {S : Cst → Sum Int Cst} (hS : ∀ s s1, S s = .inr s1 → Sq s s1) {s s1 : Cst} (h : facS T d S s = .inr s1) : Sq s s1 := by
  unfold facS at h
  by_cases c1 : T s.1 = 91
  · rw [if_pos c1] at h
    by_cases c2 : d = 0
    · rw [if_pos c2] at h
      exact nomatch h
    · rw [if_neg c2] at h
      obtain ⟨s2, h2, h3⟩ := bnS_e h
      have z := hS _ _ h2
      rw [(xpc_r h3).2]
      exact z
  · rw [if_neg c1] at h
    by_cases c2 : dgt (T s.1) = true
    · rw [if_pos c2] at h
      unfold numC at h
      cases e : numS T s.1 5 with
      | inl f =>
        rw [e] at h
        exact nomatch h
      | inr q =>
        rw [e] at h
        rw [← Sum.inr.inj h]
        exact sq_emt (fwd s q.2) (by decide)
    · rw [if_neg c2] at h
      by_cases c3 : fct (T s.1) = -1
      · rw [if_pos c3] at h
        exact nomatch h
      · rw [if_neg c3] at h
        rw [← Sum.inr.inj h]
        exact sq_emt (fwd s (s.1 + 1)) (by decide)
theorem sumL_sq {T : Int → Int} {F : Cst → Sum Int Cst} (hF : ∀ s s1, F s = .inr s1 → Sq s s1) : ∀ (k : Nat) (ss ts : Int) (s s1 : Cst), OkP ss → OkP ts → sumL T F k ss ts s = .inr s1 → Sq s s1
  | 0, ss, ts, s, s1, _, _, h => by
    rw [sumL_0] at h
    exact nomatch h
  | k + 1, ss, ts, s, s1, o1, o2, h => by
    rw [sumL_s] at h
    obtain ⟨s2, h2, h3⟩ := bnS_e h
    have b1 := sq_tr (hF _ _ h2) (sq_opt s2 o2)
    have b2 := sq_tr b1 (sq_opt _ o1)
    unfold sumT at h3
    by_cases c1 : 4 ≤ sgn (T s2.1)
    · rw [if_pos c1] at h3
      have z := sumL_sq hF k _ _ _ _ o1 (sgn_ok (T s2.1)) h3
      exact sq_tr (s1 := opt s2 ts) b1 z
    · rw [if_neg c1] at h3
      by_cases c2 : sgn (T s2.1) = 0
      · rw [if_pos c2] at h3
        rw [← Sum.inr.inj h3]
        exact b2
      · rw [if_neg c2] at h3
        have z := sumL_sq hF k _ _ _ _ (sgn_ok (T s2.1)) (Or.inl rfl) h3
        exact sq_tr (s1 := opt (opt s2 ts) ss) b2 z
theorem sumD_sq {T : Int → Int} : ∀ (d : Nat) (s s1 : Cst), sumD T d s = .inr s1 → Sq s s1
  | 0, s, s1, h => sumL_sq (F := facS T 0 (fun s => .inl s.1)) (fun s s1 h => facS_sq (fun _ _ z => inl_ne z) h) 240 0 0 s s1 (Or.inl rfl) (Or.inl rfl) h
  | d + 1, s, s1, h => sumL_sq (F := facS T (d + 1) (sumD T d)) (fun s s1 h => facS_sq (fun a b z => sumD_sq d a b z) h) 240 0 0 s s1 (Or.inl rfl) (Or.inl rfl) h
theorem cmpS_tq {T : Int → Int} {d : Nat} {s s1 : Cst} (h : cmpS T d s = .inr s1) : Tq s s1 := by
  unfold cmpS at h
  obtain ⟨s2, h2, h3⟩ := bnS_e h
  have a1 := sumD_sq _ _ _ h2
  by_cases c : cmq (T s2.1) = 0
  · rw [if_pos c] at h3
    exact nomatch h3
  · rw [if_neg c] at h3
    obtain ⟨s3, h4, h5⟩ := bnS_e h3
    have b0 := sumD_sq _ _ _ h4
    have b1 : Sq s2 s3 := b0
    have cb := cmq_b c
    rw [← Sum.inr.inj h5]
    obtain ⟨z1, z2, z3⟩ := sq_tr (sq_tr a1 b1) (sq_emt s3 (op := cmq (T s2.1)) (v := 0) (by omega))
    have z4 := (sq_tr a1 b1).1
    refine ⟨Nat.lt_succ_of_le z4, ?_, fun k k1 k2 => ⟨fun y => absurd (z2 k k1 k2) (by omega), fun y => absurd (z2 k k1 k2) (by omega)⟩, z3⟩
    show isB (pu s3.2.2 s3.2.1 (cmq (T s2.1), 0) (s3.2.1 + 1 - 1)).1
    rw [Nat.add_sub_cancel, pu_s]
    exact ⟨cb.1, by show cmq (T s2.1) ≤ 10; omega⟩
theorem wk_ext {f f' : Nat → Int × Int} {a b b' k : Nat} {Q Q' : Prop} (h : Wk f a b k Q) (hk : k < b) (hb : b ≤ b') (he : ∀ j, j < b → f' j = f j) (hq : Q → Q') (h0 : 0 < b) : Wk f' a b' k Q' := by
  obtain ⟨h1, h2⟩ := h
  unfold Wk
  rw [he k hk]
  refine ⟨fun z => ⟨(h1 z).1, ?_⟩, fun z => (h2 z).elim (fun y => Or.inl (hq y)) (fun y => Or.inr ⟨y.1, by omega, ?_⟩)⟩
  · rw [he (k - 1) (by omega)]; exact (h1 z).2
  · rw [he _ (by omega)]; exact y.2.2
theorem tq_not {s s1 : Cst} (h : Tq s s1) : Tq s (emt s1 10 0) := by
  obtain ⟨a1, a2, a3, a4⟩ := h
  have hs : ∀ j, j < s1.2.1 → (emt s1 10 0).2.2 j = s1.2.2 j := fun j hj => by
    show pu s1.2.2 s1.2.1 (10, 0) j = _
    rw [pu_n (by omega)]
  have hn : (emt s1 10 0).2.2 s1.2.1 = (10, 0) := by
    show pu s1.2.2 s1.2.1 (10, 0) s1.2.1 = _
    rw [pu_s]
  refine ⟨Nat.lt_succ_of_lt a1, ?_, fun k k1 k2 => ?_, fun j hj => by rw [hs j (by omega)]; exact a4 j hj⟩
  · show isB ((emt s1 10 0).2.2 (s1.2.1 + 1 - 1)).1
    rw [Nat.add_sub_cancel, hn]
    exact ⟨by decide, by decide⟩
  · have k3 : k < s1.2.1 + 1 := k2
    by_cases c : k = s1.2.1
    · unfold Wk
      rw [c, hn, hs (s1.2.1 - 1) (by omega)]
      exact ⟨fun _ => ⟨a1, a2⟩, fun z => absurd z (by show ¬ (11 : Int) ≤ 10; omega)⟩
    · exact wk_ext (a3 k k1 (by omega)) (by omega) (Nat.le_succ _) hs id (by omega)
theorem tstS_tq {T : Int → Int} {d : Nat} {C P : Cst → Sum Int Cst} (hC : ∀ s s1, C s = .inr s1 → Tq s s1) (hP : ∀ s s1, P s = .inr s1 → Tq s s1) {s s1 : Cst} (h : tstS T d C P s = .inr s1) : Tq s s1 := by
  unfold tstS at h
  by_cases c1 : T s.1 = 33 ∨ T s.1 = 40
  · rw [if_pos c1] at h
    by_cases c2 : d = 0
    · rw [if_pos c2] at h
      exact nomatch h
    · rw [if_neg c2] at h
      by_cases c3 : T s.1 = 40
      · rw [if_pos c3] at h
        obtain ⟨s2, h2, h3⟩ := bnS_e h
        have z := hC _ _ h2
        rw [(xpc_r h3).2]
        exact z
      · rw [if_neg c3] at h
        obtain ⟨s2, h2, h3⟩ := bnS_e h
        have z0 := hP _ _ h2
        have z : Tq s s2 := z0
        rw [← Sum.inr.inj h3]
        exact tq_not z
  · rw [if_neg c1] at h
    exact cmpS_tq h
theorem wk_a {f : Nat → Int × Int} {a a' b k : Nat} {Q Q' : Prop} (h : Wk f a b k Q) (ha : a' ≤ a) (hq : Q → Q') : Wk f a' b k Q' := ⟨fun z => ⟨by have := (h.1 z).1; omega, (h.1 z).2⟩, fun z => (h.2 z).elim (fun y => Or.inl (hq y)) Or.inr⟩
theorem wk_lnd {s : Cst} {a : Nat} {j : Option Nat} {Q : Nat → Prop} (hb : isB (s.2.2 (s.2.1 - 1)).1) (hj : ∀ i, j = some i → i < s.2.1) (h : ∀ k, a ≤ k → k < s.2.1 → Wk s.2.2 a s.2.1 k (j = some k ∨ Q k)) : ∀ k, a ≤ k → k < (lnd s j).2.1 → Wk (lnd s j).2.2 a (lnd s j).2.1 k (Q k) := by
  intro k k1 k2
  have e2 := lnd_2 s j
  rw [e2] at k2
  have hk := h k k1 k2
  have op := lnd_op s j
  cases j with
  | none => exact ⟨hk.1, fun z => (hk.2 z).elim (fun y => y.elim (fun y => nomatch y) Or.inl) Or.inr⟩
  | some i =>
    have hi := hj i rfl
    refine ⟨fun z => ?_, fun z => ?_⟩
    · rw [op] at z
      rw [op]
      exact hk.1 z
    · rw [op] at z
      rw [e2]
      by_cases e : k = i
      · have v : ((lnd s (some i)).2.2 k).2 = (s.2.1 : Int) := by
          show (pu s.2.2 i ((s.2.2 i).1, (s.2.1 : Int)) k).2 = _
          rw [e, pu_s]
        rw [v]
        refine Or.inr ⟨by omega, Int.le_refl _, ?_⟩
        rw [op, show ((s.2.1 : Int)).toNat = s.2.1 from by omega]
        exact hb
      · have v : (lnd s (some i)).2.2 k = s.2.2 k := by
          show pu s.2.2 i ((s.2.2 i).1, (s.2.1 : Int)) k = _
          rw [pu_n e]
        rw [v]
        refine (hk.2 z).elim (fun y => y.elim (fun y => absurd (Option.some.inj y).symm e) Or.inl) (fun y => Or.inr ⟨y.1, y.2.1, ?_⟩)
        rw [op]
        exact y.2.2
def Jm (a : Nat) (s : Cst) (j : Option Nat) : Prop := ∀ i, j = some i → a ≤ i ∧ i < s.2.1
theorem lnd_lo {a : Nat} {s : Cst} {j : Option Nat} (hj : Jm a s j) : ∀ k, k < a → (lnd s j).2.2 k = s.2.2 k := fun k hk => by
  cases j with
  | none => rfl
  | some i =>
    have := hj i rfl
    show pu s.2.2 i ((s.2.2 i).1, (s.2.1 : Int)) k = _
    rw [pu_n (by omega)]
theorem wk_new {s : Cst} {a : Nat} {o : Int} {Q : Nat → Prop} (ha : a < s.2.1) (hb : isB (s.2.2 (s.2.1 - 1)).1) (h : ∀ k, a ≤ k → k < s.2.1 → Wk s.2.2 a s.2.1 k (Q k)) : ∀ k, a ≤ k → k < (emt s o 0).2.1 → Wk (emt s o 0).2.2 a (emt s o 0).2.1 k (k = s.2.1 ∨ Q k) := by
  intro k k1 k2
  have k3 : k < s.2.1 + 1 := k2
  have hs : ∀ j, j < s.2.1 → (emt s o 0).2.2 j = s.2.2 j := fun j hj => by
    show pu s.2.2 s.2.1 (o, 0) j = _
    rw [pu_n (by omega)]
  by_cases c : k = s.2.1
  · refine ⟨fun z => ⟨by omega, ?_⟩, fun z => Or.inl (Or.inl c)⟩
    rw [c, hs _ (by omega)]
    exact hb
  · exact wk_ext (h k k1 (by omega)) (by omega) (Nat.le_succ _) hs Or.inr (by omega)
theorem choL_tq {T : Int → Int} {P : Cst → Sum Int Cst} (hP : ∀ s s1, P s = .inr s1 → Tq s s1) : ∀ (k : Nat) (aj oj : Option Nat) (a : Nat) (s s1 : Cst), a ≤ s.2.1 → (∀ k, a ≤ k → k < s.2.1 → Wk s.2.2 a s.2.1 k (aj = some k ∨ oj = some k)) → Jm a s aj → Jm a s oj → choL T P k aj oj s = .inr s1 → a < s1.2.1 ∧ isB (s1.2.2 (s1.2.1 - 1)).1 ∧ Wt s1.2.2 a s1.2.1 ∧ ∀ j, j < a → s1.2.2 j = s.2.2 j
  | 0, aj, oj, a, s, s1, _, _, _, _, h => by
    rw [choL_0] at h
    exact nomatch h
  | k + 1, aj, oj, a, s, s1, ha, hw, ja, jo, h => by
    rw [choL_s] at h
    obtain ⟨s2, h2, h3⟩ := bnS_e h
    obtain ⟨t1, t2, t3, t4⟩ := hP _ _ h2
    have ha2 : a < s2.2.1 := by omega
    have w2 : ∀ k, a ≤ k → k < s2.2.1 → Wk s2.2.2 a s2.2.1 k (aj = some k ∨ oj = some k) := fun k k1 k2 => by
      by_cases c : k < s.2.1
      · exact wk_ext (hw k k1 c) c (by omega) t4 id (by omega)
      · exact wk_a (t3 k (by omega) k2) ha (fun z => absurd z id)
    have ja2 : Jm a s2 aj := fun i hi => by have := ja i hi; omega
    have jo2 : Jm a s2 oj := fun i hi => by have := jo i hi; omega
    have l1 := lnd_2 s2 aj
    have w3 := wk_lnd (Q := fun k => oj = some k) t2 (fun i hi => (ja2 i hi).2) w2
    have b3 : isB ((lnd s2 aj).2.2 ((lnd s2 aj).2.1 - 1)).1 := by rw [lnd_op, l1]; exact t2
    have jo3 : Jm a (lnd s2 aj) oj := fun i hi => by have := jo2 i hi; omega
    have l2 := lnd_2 (lnd s2 aj) oj
    have w4 := wk_lnd (Q := fun _ => False) b3 (fun i hi => (jo3 i hi).2) (fun k k1 k2 => wk_a (w3 k k1 k2) (Nat.le_refl _) Or.inl)
    have b4 : isB ((lnd (lnd s2 aj) oj).2.2 ((lnd (lnd s2 aj) oj).2.1 - 1)).1 := by rw [lnd_op, l2]; exact b3
    have lo : ∀ j, j < a → (lnd (lnd s2 aj) oj).2.2 j = s.2.2 j := fun j hj => by rw [lnd_lo jo3 j hj, lnd_lo ja2 j hj, t4 j (by omega)]
    unfold choT at h3
    by_cases c1 : T s2.1 = 38
    · rw [if_pos c1] at h3
      have z := choL_tq hP k _ _ a (fwd (emt (lnd s2 aj) 11 0) (s2.1 + 1)) _ (by show a ≤ (lnd s2 aj).2.1 + 1; omega) (fun k k1 k2 => wk_a (wk_new (s := lnd s2 aj) (o := 11) (by omega) b3 w3 k k1 k2) (Nat.le_refl _) (fun y => y.elim (fun y => Or.inl (by rw [y, l1])) Or.inr)) (fun i hi => by
        have := Option.some.inj hi
        show a ≤ i ∧ i < (lnd s2 aj).2.1 + 1
        omega) (fun i hi => by
        have := jo3 i hi
        show a ≤ i ∧ i < (lnd s2 aj).2.1 + 1
        omega) h3
      refine ⟨z.1, z.2.1, z.2.2.1, fun j hj => ?_⟩
      rw [z.2.2.2 j hj]
      show pu (lnd s2 aj).2.2 (lnd s2 aj).2.1 (11, 0) j = _
      rw [pu_n (by omega), lnd_lo ja2 j hj, t4 j (by omega)]
    · rw [if_neg c1] at h3
      by_cases c2 : T s2.1 = 124
      · rw [if_pos c2] at h3
        have z := choL_tq hP k none (some s2.2.1) a (fwd (emt (lnd (lnd s2 aj) oj) 12 0) (s2.1 + 1)) _ (by show a ≤ (lnd (lnd s2 aj) oj).2.1 + 1; omega) (fun k k1 k2 => wk_a (wk_new (s := lnd (lnd s2 aj) oj) (o := 12) (by omega) b4 w4 k k1 k2) (Nat.le_refl _) (fun y => y.elim (fun y => Or.inr (by rw [y, l2, l1])) (fun y => absurd y id))) (fun i hi => nomatch hi) (fun i hi => by
          have := Option.some.inj hi
          show a ≤ i ∧ i < (lnd (lnd s2 aj) oj).2.1 + 1
          omega) h3
        refine ⟨z.1, z.2.1, z.2.2.1, fun j hj => ?_⟩
        rw [z.2.2.2 j hj]
        show pu (lnd (lnd s2 aj) oj).2.2 (lnd (lnd s2 aj) oj).2.1 (12, 0) j = _
        rw [pu_n (by omega), lo j hj]
      · rw [if_neg c2] at h3
        rw [← Sum.inr.inj h3]
        exact ⟨by omega, b4, w4, lo⟩
theorem choL_tq0 {T : Int → Int} {P : Cst → Sum Int Cst} (hP : ∀ s s1, P s = .inr s1 → Tq s s1) {s s1 : Cst} (h : choL T P 240 none none s = .inr s1) : Tq s s1 := choL_tq hP 240 none none s.2.1 s s1 (Nat.le_refl _) (fun k k1 k2 => absurd k2 (by omega)) (fun i hi => nomatch hi) (fun i hi => nomatch hi) h
theorem tstD_tq {T : Int → Int} : ∀ (d : Nat) (s s1 : Cst), tstD T d s = .inr s1 → Tq s s1
  | 0, s, s1, h => tstS_tq (C := fun s => .inl s.1) (P := fun s => .inl s.1) (fun _ _ z => inl_ne z) (fun _ _ z => inl_ne z) h
  | d + 1, s, s1, h => tstS_tq (C := choL T (tstD T d) 240 none none) (P := tstD T d) (fun a b z => choL_tq0 (fun a b y => tstD_tq d a b y) z) (fun a b z => tstD_tq d a b z) h
theorem rlC_tq {T : Int → Int} {s s1 : Cst} (h : rlC T s = .inr s1) : Tq s s1 := by
  unfold rlC at h
  obtain ⟨s2, h2, h3⟩ := bnS_e h
  obtain ⟨s3, h4, h5⟩ := bnS_e h3
  have z := choL_tq0 (tstD_tq 5) h4
  rw [(xpc_r h5).2]
  rw [(xpc_r h2).2] at z
  exact z
theorem rlE_sq {T : Int → Int} {s s1 : Cst} (h : rlE T s = .inr s1) : Sq s s1 := by
  unfold rlE at h
  by_cases c : T s.1 = 120
  · rw [if_pos c] at h
    rw [← Sum.inr.inj h]
    exact sq_refl s
  · rw [if_neg c] at h
    have z := sumD_sq _ _ _ h
    exact z
/-- a rule of codes f: its places, how deep -/
def RlQ (f : Nat → Int × Int) (q : Int × Nat × Nat × Nat) : Prop := q.2.1 ≤ q.2.2.1 ∧ q.2.2.1 ≤ q.2.2.2 ∧ dq f q.2.2.1 = dq f q.2.1 + (if q.1 = 120 then 0 else 1) ∧ (∀ k, q.2.1 ≤ k → k ≤ q.2.2.1 → dq f k ≤ dq f q.2.1 + 16) ∧ dq f q.2.2.2 = dq f q.2.2.1 + 1 ∧ ∀ k, q.2.2.1 ≤ k → k ≤ q.2.2.2 → dq f k ≤ dq f q.2.2.1 + 16
theorem rlq_ext {f f' : Nat → Int × Int} {q : Int × Nat × Nat × Nat} (h : RlQ f q) (he : ∀ k, k < q.2.2.2 → (f' k).1 = (f k).1) : RlQ f' q := by
  obtain ⟨a1, a2, a3, a4, a5, a6⟩ := h
  have hd : ∀ n, n ≤ q.2.2.2 → dq f' n = dq f n := fun n hn => dq_ext n (fun k hk => he k (by omega))
  refine ⟨a1, a2, by rw [hd _ a2, hd _ (by omega)]; exact a3, fun k k1 k2 => by rw [hd _ (by omega), hd _ (by omega)]; exact a4 k k1 k2, by rw [hd _ (Nat.le_refl _), hd _ a2]; exact a5, fun k k1 k2 => by rw [hd _ k2, hd _ a2]; exact a6 k k1 k2⟩
def RlA (r : Nat) (s : Cst) (tb : Tbl) : Prop := ∀ i, i < r → RlQ s.2.2 (tb i) ∧ (tb i).2.2.2 ≤ s.2.1
theorem rla_step {T : Int → Int} {r : Nat} {s s1 s2 : Cst} {tb : Tbl} (h : RlA r s tb) (h1 : rlE T s = .inr s1) (h2 : rlC T s1 = .inr s2) : RlA (r + 1) s2 (pu tb r (T s.1, s.2.1, s1.2.1, s2.2.1)) := fun i hi => by
  obtain ⟨a1, a2, a3, a4⟩ := rlE_sg h1
  obtain ⟨b1, b2, b3, b4⟩ := rlC_sg h2
  by_cases e : i = r
  · rw [e, pu_s]
    have hd : ∀ n, n ≤ s1.2.1 → dq s2.2.2 n = dq s1.2.2 n := fun n hn => dq_ext n (fun k hk => b2 k (by omega))
    have hd0 : dq s1.2.2 s.2.1 = dq s.2.2 s.2.1 := dq_ext _ (fun k hk => a2 k hk)
    refine ⟨⟨a1, b1, ?_, fun k k1 k2 => ?_, ?_, fun k k1 k2 => ?_⟩, Nat.le_refl _⟩
    · show dq s2.2.2 s1.2.1 = dq s2.2.2 s.2.1 + (if T s.1 = 120 then 0 else 1)
      rw [hd _ (Nat.le_refl _), hd _ a1, hd0]
      exact a3
    · show dq s2.2.2 k ≤ dq s2.2.2 s.2.1 + 16
      rw [hd _ k2, hd _ a1, hd0]
      exact a4 k k1 k2
    · show dq s2.2.2 s2.2.1 = dq s2.2.2 s1.2.1 + 1
      rw [hd _ (Nat.le_refl _)]
      exact b3
    · show dq s2.2.2 k ≤ dq s2.2.2 s1.2.1 + 16
      rw [hd _ (Nat.le_refl _)]
      exact b4 k k1 k2
  · rw [pu_n e]
    obtain ⟨c1, c2⟩ := h i (by omega)
    exact ⟨rlq_ext c1 (fun k hk => by rw [b2 k (by omega), a2 k (by omega)]), by omega⟩
/-- and its kinds -/
def RlT (f : Nat → Int × Int) (q : Int × Nat × Nat × Nat) : Prop := q.2.2.1 < q.2.2.2 ∧ isB (f (q.2.2.2 - 1)).1 ∧ Wt f q.2.2.1 q.2.2.2 ∧ ∀ k, q.2.1 ≤ k → k < q.2.2.1 → (f k).1 ≤ 9
theorem rlt_ext {f f' : Nat → Int × Int} {q : Int × Nat × Nat × Nat} (h : RlT f q) (he : ∀ k, k < q.2.2.2 → f' k = f k) : RlT f' q := by
  obtain ⟨a1, a2, a3, a4⟩ := h
  refine ⟨a1, by rw [he _ (by omega)]; exact a2, fun k k1 k2 => wk_ext (a3 k k1 k2) k2 (Nat.le_refl _) he id (by omega), fun k k1 k2 => by rw [he k (by omega)]; exact a4 k k1 k2⟩
def RlB (r : Nat) (s : Cst) (tb : Tbl) : Prop := ∀ i, i < r → RlT s.2.2 (tb i) ∧ (tb i).2.2.2 ≤ s.2.1
theorem rlb_step {T : Int → Int} {r : Nat} {s s1 s2 : Cst} {tb : Tbl} (h : RlB r s tb) (h1 : rlE T s = .inr s1) (h2 : rlC T s1 = .inr s2) : RlB (r + 1) s2 (pu tb r (T s.1, s.2.1, s1.2.1, s2.2.1)) := fun i hi => by
  obtain ⟨a1, a2, a3⟩ := rlE_sq h1
  obtain ⟨b1, b2, b3, b4⟩ := rlC_tq h2
  by_cases e : i = r
  · rw [e, pu_s]
    exact ⟨⟨b1, b2, b3, fun k k1 k2 => by
      show (s2.2.2 k).1 ≤ 9
      rw [b4 k k2]
      exact a2 k k1 k2⟩, Nat.le_refl _⟩
  · rw [pu_n e]
    obtain ⟨c1, c2⟩ := h i (by omega)
    exact ⟨rlt_ext c1 (fun k hk => by rw [b4 k (by omega), a3 k (by omega)]), by omega⟩
def RlG (r : Nat) (s : Cst) (tb : Tbl) : Prop := r ≤ 16 ∧ RlA r s tb ∧ RlB r s tb
theorem rlg_law {T : Int → Int} : ∀ (k r : Nat) (s : Cst) (tb : Tbl) (q : Nat × Cst × Tbl), RlG r s tb → lawA T k r s tb = .inr q → RlG q.1 q.2.1 q.2.2
  | 0, r, s, tb, q, _, h => by
    simp only [lawA] at h
    exact nomatch h
  | k + 1, r, s, tb, q, g, h => by
    cases c1 : rlt (T s.1) with
    | false =>
      rw [lawA_1 c1] at h
      exact nomatch h
    | true =>
      by_cases c2 : r = 16
      · rw [lawA_4 c1 c2] at h
        exact nomatch h
      · cases e1 : rlE T s with
        | inl f =>
          rw [lawA_e c1 c2 e1] at h
          exact nomatch h
        | inr s1 =>
          cases e2 : rlC T s1 with
          | inl f =>
            rw [lawA_c c1 c2 e1 e2] at h
            exact nomatch h
          | inr s2 =>
            have g1 := g.1
            have gn : RlG (r + 1) s2 (pu tb r (T s.1, s.2.1, s1.2.1, s2.2.1)) := ⟨by omega, rla_step g.2.1 e1 e2, rlb_step g.2.2 e1 e2⟩
            by_cases c3 : T s2.1 = -1
            · rw [lawA_z c1 c2 e1 e2 c3] at h
              rw [← Sum.inr.inj h]
              exact gn
            · by_cases c4 : T s2.1 = 59
              · rw [lawA_n c1 c2 e1 e2 c4] at h
                exact rlg_law k (r + 1) (fwd s2 (s2.1 + 1)) _ q gn h
              · rw [lawA_w c1 c2 e1 e2 c3 c4] at h
                exact nomatch h
theorem law_rm {T : Int → Int} {n : Int} (hT : Ends T n) : ∀ (k r : Nat) (s : Cst) (tb : Tbl) (q : Nat × Cst × Tbl), (s.2.1 : Int) ≤ s.1 → lawA T k r s tb = .inr q → (q.2.1.2.1 : Int) ≤ n ∧ 0 < q.1
  | 0, r, s, tb, q, _, h => by
    simp only [lawA] at h
    exact nomatch h
  | k + 1, r, s, tb, q, g, h => by
    cases c1 : rlt (T s.1) with
    | false =>
      rw [lawA_1 c1] at h
      exact nomatch h
    | true =>
      by_cases c2 : r = 16
      · rw [lawA_4 c1 c2] at h
        exact nomatch h
      · cases e1 : rlE T s with
        | inl f =>
          rw [lawA_e c1 c2 e1] at h
          exact nomatch h
        | inr s1 =>
          cases e2 : rlC T s1 with
          | inl f =>
            rw [lawA_c c1 c2 e1 e2] at h
            exact nomatch h
          | inr s2 =>
            have g1 : (s1.2.1 : Int) ≤ s1.1 := by
              have z := e1
              unfold rlE at z
              by_cases c : T s.1 = 120
              · rw [if_pos c] at z
                rw [← Sum.inr.inj z]
                show (s.2.1 : Int) ≤ s.1 + 1
                omega
              · rw [if_neg c] at z
                obtain ⟨y1, y2, y3⟩ := sumD_rm hT _ _ _ z
                have y4 : (s1.2.1 : Int) + (s.1 + 1) ≤ s.2.1 + s1.1 + 0 := y3
                omega
            have g2 : (s2.2.1 : Int) ≤ s2.1 ∧ s2.1 ≤ n := by
              have z := e2
              unfold rlC at z
              obtain ⟨s3, h3, h4⟩ := bnS_e z
              obtain ⟨s4, h5, h6⟩ := bnS_e h4
              rw [(xpc_r h3).2] at h5
              obtain ⟨y1, y2, y3⟩ := choD_rm hT _ _ _ h5
              have y4 : (s4.2.1 : Int) + (s1.1 + 1) ≤ s1.2.1 + s4.1 + 0 := y3
              obtain ⟨x1, x2⟩ := xpc_r h6
              have x3 := ne_in hT (p := s4.1) (by omega)
              rw [x2]
              refine ⟨?_, ?_⟩
              · show (s4.2.1 : Int) ≤ s4.1 + 1
                omega
              · show s4.1 + 1 ≤ n
                omega
            by_cases c3 : T s2.1 = -1
            · rw [lawA_z c1 c2 e1 e2 c3] at h
              rw [← Sum.inr.inj h]
              exact ⟨by show (s2.2.1 : Int) ≤ n; omega, Nat.succ_pos _⟩
            · by_cases c4 : T s2.1 = 59
              · rw [lawA_n c1 c2 e1 e2 c4] at h
                exact law_rm hT k (r + 1) (fwd s2 (s2.1 + 1)) _ q (by show (s2.2.1 : Int) ≤ s2.1 + 1; omega) h
              · rw [lawA_w c1 c2 e1 e2 c3 c4] at h
                exact nomatch h
