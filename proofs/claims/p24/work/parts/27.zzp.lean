/-! a walk as a text: its steps, or its fault. A state: the place, how many steps, the steps -/
def hpb (c : Int) : Bool := decide (c = 117 ∨ c = 100 ∨ c = 111 ∨ c = 98)
theorem hpb_t {c : Int} (h : c = 117 ∨ c = 100 ∨ c = 111 ∨ c = 98) : hpb c = true := decide_eq_true h
theorem hpb_f {c : Int} (h : ¬ (c = 117 ∨ c = 100 ∨ c = 111 ∨ c = 98)) : hpb c = false := decide_eq_false h
theorem hpb_i {c : Int} (h : hpb c = true) : c = 117 ∨ c = 100 ∨ c = 111 ∨ c = 98 := of_decide_eq_true h
def hpU (c v : Int) : Int := if c = 117 then v else if c = 100 then -v else 0
def hpO (c v : Int) : Int := if c = 111 then v else if c = 98 then -v else 0
theorem hpU_1 {c v : Int} (h : c = 117) : hpU c v = v := if_pos h
theorem hpU_2 {c v : Int} (h1 : ¬ c = 117) (h : c = 100) : hpU c v = -v := (if_neg h1).trans (if_pos h)
theorem hpU_3 {c v : Int} (h1 : ¬ c = 117) (h2 : ¬ c = 100) : hpU c v = 0 := (if_neg h1).trans (if_neg h2)
theorem hpO_1 {c v : Int} (h : c = 111) : hpO c v = v := if_pos h
theorem hpO_2 {c v : Int} (h1 : ¬ c = 111) (h : c = 98) : hpO c v = -v := (if_neg h1).trans (if_pos h)
theorem hpO_3 {c v : Int} (h1 : ¬ c = 111) (h2 : ¬ c = 98) : hpO c v = 0 := (if_neg h1).trans (if_neg h2)
/-- how far a hop goes that ends ahead of p -/
def hopV (T : Int → Int) (p : Int) : Sum Int (Int × Int) := if dgt (T p) = true then numS T p 2 else .inr (1, p)
theorem hopV_n {T : Int → Int} {p : Int} (h : dgt (T p) = false) : hopV T p = .inr (1, p) := if_neg (by rw [h]; decide)
theorem hopV_y {T : Int → Int} {p : Int} (h : dgt (T p) = true) : hopV T p = numS T p 2 := if_pos h
def hopL (T : Int → Int) : Nat → Int → Int → Int → Sum Int (Int × Int × Int)
  | 0, p, u, o => .inr (u, o, p)
  | k + 1, p, u, o => if hpb (T p) = true then (match hopV T (p + 1) with
    | .inl f => .inl f
    | .inr q => hopL T k q.2 (u + hpU (T p) q.1) (o + hpO (T p) q.1)) else .inr (u, o, p)
termination_by k => k
theorem hopL_0 {T : Int → Int} {p u o : Int} : hopL T 0 p u o = .inr (u, o, p) := by rw [hopL]
theorem hopL_n {T : Int → Int} {k : Nat} {p u o : Int} (h : hpb (T p) = false) : hopL T k p u o = .inr (u, o, p) := by
  cases k with
  | zero => exact hopL_0
  | succ k =>
    rw [hopL, if_neg (by rw [h]; decide)]
theorem hopL_f {T : Int → Int} {k : Nat} {p u o f : Int} (h : hpb (T p) = true) (hv : hopV T (p + 1) = .inl f) : hopL T (k + 1) p u o = .inl f := by
  rw [hopL, if_pos h, hv]
theorem hopL_y {T : Int → Int} {k : Nat} {p u o v q : Int} (h : hpb (T p) = true) (hv : hopV T (p + 1) = .inr (v, q)) : hopL T (k + 1) p u o = hopL T k q (u + hpU (T p) v) (o + hpO (T p) v) := by
  rw [hopL, if_pos h, hv]
theorem hopV_r {T : Int → Int} {p : Int} {q : Int × Int} (h : hopV T p = .inr q) : p ≤ q.2 := by
  by_cases c : dgt (T p) = true
  · rw [hopV_y c] at h
    have := (numS_r h).1
    omega
  · rw [hopV_n (Bool.eq_false_iff.mpr c)] at h
    have e := Sum.inr.inj h
    rw [← e]
    exact Int.le_refl _
theorem hpb_in {T : Int → Int} {n p : Int} (hT : Ends T n) (h : hpb (T p) = true) : p < n := ne_in hT (fun z => by
  rw [z] at h
  exact absurd h (by decide))
theorem hopL_fu {T : Int → Int} {n : Int} (hT : Ends T n) : ∀ (k k2 : Nat) (p u o : Int), n - p ≤ k → n - p ≤ k2 → hopL T k p u o = hopL T k2 p u o
  | 0, k2, p, u, o, h1, _ => by
    have z : hpb (T p) = false := Bool.eq_false_iff.mpr (fun q => by
      have := hpb_in hT q
      omega)
    rw [hopL_n z, hopL_n z]
  | k + 1, 0, p, u, o, _, h2 => by
    have z : hpb (T p) = false := Bool.eq_false_iff.mpr (fun q => by
      have := hpb_in hT q
      omega)
    rw [hopL_n z, hopL_n z]
  | k + 1, k2 + 1, p, u, o, h1, h2 => by
    by_cases c : hpb (T p) = true
    · cases hv : hopV T (p + 1) with
      | inl f => rw [hopL_f c hv, hopL_f c hv]
      | inr q =>
        have r := hopV_r hv
        rw [hopL_y (v := q.1) (q := q.2) c hv, hopL_y (v := q.1) (q := q.2) c hv]
        exact hopL_fu hT k k2 _ _ _ (by omega) (by omega)
    · have z : hpb (T p) = false := Bool.eq_false_iff.mpr c
      rw [hopL_n z, hopL_n z]
/-- once more, the count as it was -/
theorem hopL_60 {T : Int → Int} {n : Int} (hT : Ends T n) (hn : n ≤ 60) {p u o v q : Int} (h0 : 0 ≤ p) (h : hpb (T p) = true) (hv : hopV T (p + 1) = .inr (v, q)) : hopL T 60 p u o = hopL T 60 q (u + hpU (T p) v) (o + hpO (T p) v) := by
  have r := hopV_r hv
  rw [hopL_y (k := 59) h hv]
  have r2 : p + 1 ≤ q := r
  exact hopL_fu hT 59 60 _ _ _ (by omega) (by omega)
theorem hopL_r {T : Int → Int} {n : Int} (hT : Ends T n) : ∀ (k : Nat) (p u o : Int) (q : Int × Int × Int), p ≤ n → hopL T k p u o = .inr q → p ≤ q.2.2 ∧ q.2.2 ≤ n
  | 0, p, u, o, q, h1, h => by
    rw [hopL_0] at h
    have e := Sum.inr.inj h
    rw [← e]
    exact ⟨Int.le_refl _, h1⟩
  | k + 1, p, u, o, q, h1, h => by
    by_cases c : hpb (T p) = true
    · cases hv : hopV T (p + 1) with
      | inl f =>
        rw [hopL_f c hv] at h
        exact nomatch h
      | inr w =>
        have r := hopV_r hv
        have i := hpb_in hT c
        have wn : w.2 ≤ n := by
          by_cases d : dgt (T (p + 1)) = true
          · rw [hopV_y d] at hv
            have := dgt_in hT (numS_r hv).2
            omega
          · rw [hopV_n (Bool.eq_false_iff.mpr d)] at hv
            have e := Sum.inr.inj hv
            rw [← e]
            show p + 1 ≤ n
            omega
        rw [hopL_y (v := w.1) (q := w.2) c hv] at h
        have y := hopL_r hT k _ _ _ q wn h
        omega
    · rw [hopL_n (Bool.eq_false_iff.mpr c)] at h
      have e := Sum.inr.inj h
      rw [← e]
      exact ⟨Int.le_refl _, h1⟩
def hopE (s : Cst) (q : Int × Int × Int) : Sum Int Cst := if q.2.2 = s.1 then .inl (-1000 - s.1) else if 60 ≤ s.2.1 then .inl (-6000 - s.1) else .inr (emt (fwd s q.2.2) q.1 q.2.1)
def hopS (T : Int → Int) (s : Cst) : Sum Int Cst := match hopL T 60 s.1 0 0 with
  | .inl f => .inl f
  | .inr q => hopE s q
theorem hopS_f {T : Int → Int} {s : Cst} {f : Int} (h : hopL T 60 s.1 0 0 = .inl f) : hopS T s = .inl f := by
  unfold hopS
  rw [h]
theorem hopS_e {T : Int → Int} {s : Cst} {q : Int × Int × Int} (h : hopL T 60 s.1 0 0 = .inr q) : hopS T s = hopE s q := by
  unfold hopS
  rw [h]
theorem hopE_1 {s : Cst} {q : Int × Int × Int} (h : q.2.2 = s.1) : hopE s q = .inl (-1000 - s.1) := if_pos h
theorem hopE_6 {s : Cst} {q : Int × Int × Int} (h : ¬ q.2.2 = s.1) (h6 : 60 ≤ s.2.1) : hopE s q = .inl (-6000 - s.1) := (if_neg h).trans (if_pos h6)
theorem hopE_v {s : Cst} {q : Int × Int × Int} (h : ¬ q.2.2 = s.1) (h6 : ¬ 60 ≤ s.2.1) : hopE s q = .inr (emt (fwd s q.2.2) q.1 q.2.1) := (if_neg h).trans (if_neg h6)
/-- it goes on -/
def Fw (n : Int) (s s1 : Cst) : Prop := s.1 < s1.1 ∧ s1.1 ≤ n
theorem hopS_rm {T : Int → Int} {n : Int} (hT : Ends T n) {s s1 : Cst} (hn : s.1 ≤ n) (h : hopS T s = .inr s1) : Fw n s s1 := by
  cases hl : hopL T 60 s.1 0 0 with
  | inl f =>
    rw [hopS_f hl] at h
    exact nomatch h
  | inr q =>
    have r := hopL_r hT 60 s.1 0 0 q hn hl
    rw [hopS_e hl] at h
    by_cases c : q.2.2 = s.1
    · rw [hopE_1 c] at h
      exact nomatch h
    · by_cases d : 60 ≤ s.2.1
      · rw [hopE_6 c d] at h
        exact nomatch h
      · rw [hopE_v c d] at h
        have e := Sum.inr.inj h
        rw [← e]
        show s.1 < q.2.2 ∧ q.2.2 ≤ n
        omega
/-- so many times: the places from b on are written over again, len ahead -/
def cpK (f : Nat → Int × Int) (len b : Nat) : Nat → Nat → Int × Int
  | 0 => f
  | k + 1 => pu (cpK f len b k) (b + k) (cpK f len b k (b + k - len))
theorem cpK_o {f : Nat → Int × Int} {len b : Nat} : ∀ {k j : Nat}, (j < b ∨ b + k ≤ j) → cpK f len b k j = f j
  | 0, _, _ => rfl
  | k + 1, j, h => by
    show pu (cpK f len b k) (b + k) (cpK f len b k (b + k - len)) j = f j
    rw [pu_n (by omega)]
    exact cpK_o (by omega)
def repS (s : Cst) (p0 : Int) (a m : Nat) : Sum Int Cst := if 60 < s.2.1 + (s.2.1 - a) * m then .inl (-6000 - p0) else .inr (s.1, s.2.1 + (s.2.1 - a) * m, cpK s.2.2 (s.2.1 - a) s.2.1 ((s.2.1 - a) * m))
theorem repS_6 {s : Cst} {p0 : Int} {a m : Nat} (h : 60 < s.2.1 + (s.2.1 - a) * m) : repS s p0 a m = .inl (-6000 - p0) := if_pos h
theorem repS_v {s : Cst} {p0 : Int} {a m : Nat} (h : ¬ 60 < s.2.1 + (s.2.1 - a) * m) : repS s p0 a m = .inr (s.1, s.2.1 + (s.2.1 - a) * m, cpK s.2.2 (s.2.1 - a) s.2.1 ((s.2.1 - a) * m)) := if_neg h
/-- what ends a round that began at p0, a steps ahead of it; s: behind what is inside -/
def rndX (T : Int → Int) (p0 : Int) (a : Nat) (s : Cst) : Sum Int Cst :=
  if T s.1 = 41 then (if T (s.1 + 1) = 120 then (if 50 ≤ T (s.1 + 2) ∧ T (s.1 + 2) ≤ 57 then repS (fwd s (s.1 + 3)) p0 a (T (s.1 + 2) - 49).toNat else .inl (-1000 - (s.1 + 2))) else .inr (fwd s (s.1 + 1))) else .inl (-1000 - s.1)
theorem rndX_n {T : Int → Int} {p0 : Int} {a : Nat} {s : Cst} (h : ¬ T s.1 = 41) : rndX T p0 a s = .inl (-1000 - s.1) := if_neg h
theorem rndX_1 {T : Int → Int} {p0 : Int} {a : Nat} {s : Cst} (h : T s.1 = 41) (h2 : ¬ T (s.1 + 1) = 120) : rndX T p0 a s = .inr (fwd s (s.1 + 1)) := (if_pos h).trans (if_neg h2)
theorem rndX_d {T : Int → Int} {p0 : Int} {a : Nat} {s : Cst} (h : T s.1 = 41) (h2 : T (s.1 + 1) = 120) (h3 : ¬ (50 ≤ T (s.1 + 2) ∧ T (s.1 + 2) ≤ 57)) : rndX T p0 a s = .inl (-1000 - (s.1 + 2)) := (if_pos h).trans ((if_pos h2).trans (if_neg h3))
theorem rndX_v {T : Int → Int} {p0 : Int} {a : Nat} {s : Cst} (h : T s.1 = 41) (h2 : T (s.1 + 1) = 120) (h3 : 50 ≤ T (s.1 + 2) ∧ T (s.1 + 2) ≤ 57) : rndX T p0 a s = repS (fwd s (s.1 + 3)) p0 a (T (s.1 + 2) - 49).toNat := (if_pos h).trans ((if_pos h2).trans (if_pos h3))
theorem rndX_rm {T : Int → Int} {n : Int} (hT : Ends T n) {p0 : Int} {a : Nat} {s s1 : Cst} (h : rndX T p0 a s = .inr s1) : Fw n s s1 := by
  by_cases c : T s.1 = 41
  · have i0 := ne_in hT (p := s.1) (by omega)
    by_cases d : T (s.1 + 1) = 120
    · by_cases e : 50 ≤ T (s.1 + 2) ∧ T (s.1 + 2) ≤ 57
      · have i2 := ne_in hT (p := s.1 + 2) (by omega)
        rw [rndX_v c d e] at h
        by_cases g : 60 < (fwd s (s.1 + 3)).2.1 + ((fwd s (s.1 + 3)).2.1 - a) * (T (s.1 + 2) - 49).toNat
        · rw [repS_6 g] at h
          exact nomatch h
        · rw [repS_v g] at h
          have z := Sum.inr.inj h
          rw [← z]
          show s.1 < s.1 + 3 ∧ s.1 + 3 ≤ n
          omega
      · rw [rndX_d c d e] at h
        exact nomatch h
    · rw [rndX_1 c d] at h
      have z := Sum.inr.inj h
      rw [← z]
      show s.1 < s.1 + 1 ∧ s.1 + 1 ≤ n
      omega
  · rw [rndX_n c] at h
    exact nomatch h
/-- steps with a comma between two -/
def wkT (T : Int → Int) (L : Cst → Sum Int Cst) (s : Cst) : Sum Int Cst := if T s.1 = 44 then L (fwd s (s.1 + 1)) else .inr s
theorem wkT_y {T : Int → Int} {L : Cst → Sum Int Cst} {s : Cst} (h : T s.1 = 44) : wkT T L s = L (fwd s (s.1 + 1)) := if_pos h
theorem wkT_n {T : Int → Int} {L : Cst → Sum Int Cst} {s : Cst} (h : ¬ T s.1 = 44) : wkT T L s = .inr s := if_neg h
def wkL (T : Int → Int) (I : Cst → Sum Int Cst) : Nat → Cst → Sum Int Cst
  | 0, s => .inl (-1000 - s.1)
  | k + 1, s => bnS (I s) (wkT T (wkL T I k))
termination_by k => k
theorem wkL_0 (T : Int → Int) (I : Cst → Sum Int Cst) (s : Cst) : wkL T I 0 s = .inl (-1000 - s.1) := by rw [wkL]
theorem wkL_s (T : Int → Int) (I : Cst → Sum Int Cst) (k : Nat) (s : Cst) : wkL T I (k + 1) s = bnS (I s) (wkT T (wkL T I k)) := by rw [wkL]
def itD (T : Int → Int) : Nat → Cst → Sum Int Cst
  | 0, s => if T s.1 = 40 then .inl (-5000 - s.1) else hopS T s
  | d + 1, s => if T s.1 = 40 then bnS (wkL T (itD T d) 60 (fwd s (s.1 + 1))) (rndX T s.1 s.2.1) else hopS T s
def wkD (T : Int → Int) (d : Nat) : Cst → Sum Int Cst := wkL T (itD T d) 60
theorem itD_5 {T : Int → Int} {s : Cst} (h : T s.1 = 40) : itD T 0 s = .inl (-5000 - s.1) := if_pos h
theorem itD_o {T : Int → Int} {d : Nat} {s : Cst} (h : T s.1 = 40) : itD T (d + 1) s = bnS (wkD T d (fwd s (s.1 + 1))) (rndX T s.1 s.2.1) := if_pos h
theorem itD_h {T : Int → Int} {d : Nat} {s : Cst} (h : ¬ T s.1 = 40) : itD T d s = hopS T s := by
  cases d with
  | zero => exact if_neg h
  | succ d => exact if_neg h
theorem wkL_rm {T : Int → Int} {n : Int} (hT : Ends T n) {I : Cst → Sum Int Cst} (hI : ∀ s s1, s.1 ≤ n → I s = .inr s1 → Fw n s s1) : ∀ (k : Nat) (s s1 : Cst), s.1 ≤ n → wkL T I k s = .inr s1 → Fw n s s1
  | 0, s, s1, _, h => by
    rw [wkL_0] at h
    exact nomatch h
  | k + 1, s, s1, hn, h => by
    rw [wkL_s] at h
    obtain ⟨s2, e1, e2⟩ := bnS_e h
    have r := hI s s2 hn e1
    by_cases c : T s2.1 = 44
    · rw [wkT_y c] at e2
      have i := ne_in hT (p := s2.1) (by omega)
      have y := wkL_rm hT hI k _ _ (show s2.1 + 1 ≤ n by omega) e2
      have y1 : s2.1 + 1 < s1.1 := y.1
      have r1 := r.1
      exact ⟨by omega, y.2⟩
    · rw [wkT_n c] at e2
      rw [← Sum.inr.inj e2]
      exact r
theorem itD_rm {T : Int → Int} {n : Int} (hT : Ends T n) : ∀ (d : Nat) (s s1 : Cst), s.1 ≤ n → itD T d s = .inr s1 → Fw n s s1
  | 0, s, s1, hn, h => by
    by_cases c : T s.1 = 40
    · rw [itD_5 c] at h
      exact nomatch h
    · rw [itD_h c] at h
      exact hopS_rm hT hn h
  | d + 1, s, s1, hn, h => by
    by_cases c : T s.1 = 40
    · rw [itD_o c] at h
      obtain ⟨s2, e1, e2⟩ := bnS_e h
      have i := ne_in hT (p := s.1) (by omega)
      have y := wkL_rm hT (itD_rm hT d) 60 _ _ (show s.1 + 1 ≤ n by omega) e1
      have z := rndX_rm hT e2
      have y1 : s.1 + 1 < s2.1 := y.1
      have z1 := z.1
      exact ⟨by omega, z.2⟩
    · rw [itD_h c] at h
      exact hopS_rm hT hn h
theorem wkD_rm {T : Int → Int} {n : Int} (hT : Ends T n) (d : Nat) {s s1 : Cst} (hn : s.1 ≤ n) (h : wkD T d s = .inr s1) : Fw n s s1 := wkL_rm hT (itD_rm hT d) 60 s s1 hn h
theorem wkL_fu {T : Int → Int} {n : Int} (hT : Ends T n) {I : Cst → Sum Int Cst} (hI : ∀ s s1, s.1 ≤ n → I s = .inr s1 → Fw n s s1) : ∀ (k k2 : Nat) (s : Cst), s.1 ≤ n → n - s.1 < k → n - s.1 < k2 → wkL T I k s = wkL T I k2 s
  | 0, _, s, hn, h1, _ => by omega
  | k + 1, 0, s, hn, _, h2 => by omega
  | k + 1, k2 + 1, s, hn, h1, h2 => by
    rw [wkL_s, wkL_s]
    cases hi : I s with
    | inl f => rw [bnS_l, bnS_l]
    | inr s2 =>
      rw [bnS_r, bnS_r]
      have r := hI s s2 hn hi
      by_cases c : T s2.1 = 44
      · rw [wkT_y c, wkT_y c]
        have i := ne_in hT (p := s2.1) (by omega)
        have r1 := r.1
        exact wkL_fu hT hI k k2 _ (show s2.1 + 1 ≤ n by omega) (show n - (s2.1 + 1) < k by omega) (show n - (s2.1 + 1) < k2 by omega)
      · rw [wkT_n c, wkT_n c]
/-- behind the first place it goes on as it began -/
theorem wkD_u {T : Int → Int} {n : Int} (hT : Ends T n) (hn : n ≤ 60) {d : Nat} {s : Cst} (h0 : 1 ≤ s.1) (h1 : s.1 ≤ n) : wkD T d s = bnS (itD T d s) (wkT T (wkD T d)) := by
  have e : wkD T d s = wkL T (itD T d) 61 s := wkL_fu hT (itD_rm hT d) 60 61 s h1 (by omega) (by omega)
  rw [e, wkL_s]
  rfl
/-- at the first place, too -/
theorem wkD_u0 {T : Int → Int} {n : Int} (hT : Ends T n) (hn : n ≤ 60) {d : Nat} {s : Cst} (h0 : 0 ≤ s.1) (h1 : s.1 ≤ n) : wkD T d s = bnS (itD T d s) (wkT T (wkD T d)) := by
  by_cases c : 1 ≤ s.1
  · exact wkD_u hT hn c h1
  · have e : wkD T d s = bnS (itD T d s) (wkT T (wkL T (itD T d) 59)) := wkL_s T (itD T d) 59 s
    rw [e]
    cases hi : itD T d s with
    | inl f => rw [bnS_l, bnS_l]
    | inr s2 =>
      rw [bnS_r, bnS_r]
      have r := itD_rm hT d s s2 h1 hi
      have r1 := r.1
      have r2 := r.2
      by_cases q : T s2.1 = 44
      · rw [wkT_y q, wkT_y q]
        have i := ne_in hT (p := s2.1) (by omega)
        exact wkL_fu hT (itD_rm hT d) 59 60 _ (show s2.1 + 1 ≤ n by omega) (show n - (s2.1 + 1) < (59 : Nat) by omega) (show n - (s2.1 + 1) < (60 : Nat) by omega)
      · rw [wkT_n q, wkT_n q]
/-- the whole -/
def endX (T : Int → Int) (s : Cst) : Sum Int Cst := if T s.1 = -1 then .inr s else .inl (-1000 - s.1)
theorem endX_y {T : Int → Int} {s : Cst} (h : T s.1 = -1) : endX T s = .inr s := if_pos h
theorem endX_n {T : Int → Int} {s : Cst} (h : ¬ T s.1 = -1) : endX T s = .inl (-1000 - s.1) := if_neg h
def wk0 : Cst := (0, 0, fun _ => (0, 0))
def walkA (T : Int → Int) : Sum Int Cst := bnS (wkD T 2 wk0) (endX T)
/-! of the reference: r rounds are open, their places and steps are P, A -/
def finW (T : Int → Int) (P : Nat → Int) (A : Nat → Nat) : Nat → Sum Int Cst → Sum Int Cst
  | 0, x => bnS x (endX T)
  | r + 1, x => finW T P A r (bnS (bnS x (rndX T (P r) (A r))) (wkT T (wkD T (2 - r))))
theorem fin_s {T : Int → Int} {P : Nat → Int} {A : Nat → Nat} {r : Nat} {x : Sum Int Cst} : finW T P A (r + 1) x = finW T P A r (bnS (bnS x (rndX T (P r) (A r))) (wkT T (wkD T (2 - r)))) := rfl
theorem itD_q {T : Int → Int} {r : Nat} {s : Cst} (h : T s.1 = 40) (hr : r < 2) : itD T (2 - r) s = bnS (wkD T (2 - (r + 1)) (fwd s (s.1 + 1))) (rndX T s.1 s.2.1) := by
  rcases (show r = 0 ∨ r = 1 by omega) with z | z
  · subst z
    exact itD_o (d := 1) h
  · subst z
    exact itD_o (d := 0) h
theorem fin_l {T : Int → Int} {P : Nat → Int} {A : Nat → Nat} {e : Int} : ∀ r, finW T P A r (.inl e) = .inl e
  | 0 => rfl
  | r + 1 => fin_l r
theorem fin_x {T : Int → Int} {P P' : Nat → Int} {A A' : Nat → Nat} : ∀ (r : Nat) (x : Sum Int Cst), (∀ t, t < r → P t = P' t ∧ A t = A' t) → finW T P A r x = finW T P' A' r x
  | 0, _, _ => rfl
  | r + 1, x, h => by
    show finW T P A r _ = finW T P' A' r _
    rw [(h r (by omega)).1, (h r (by omega)).2]
    exact fin_x r _ (fun t ht => h t (by omega))
/-- ahead of a step -/
def denW (T : Int → Int) (P : Nat → Int) (A : Nat → Nat) (r : Nat) (s : Cst) : Sum Int Cst := finW T P A r (wkD T (2 - r) s)
/-- behind a step -/
def denV (T : Int → Int) (P : Nat → Int) (A : Nat → Nat) (r : Nat) (s : Cst) : Sum Int Cst := finW T P A r (wkT T (wkD T (2 - r)) s)
theorem den_0 {T : Int → Int} {P : Nat → Int} {A : Nat → Nat} : denW T P A 0 wk0 = walkA T := rfl
theorem denW_o {T : Int → Int} {n : Int} (hT : Ends T n) (hn : n ≤ 60) {P P' : Nat → Int} {A A' : Nat → Nat} {r : Nat} {s : Cst} (h0 : 0 ≤ s.1) (h1 : s.1 ≤ n) (h : T s.1 = 40) (hr : r < 2) (hP : ∀ t, t < r → P t = P' t ∧ A t = A' t) (e1 : P' r = s.1) (e2 : A' r = s.2.1) : denW T P A r s = denW T P' A' (r + 1) (fwd s (s.1 + 1)) := by
  unfold denW
  rw [wkD_u0 hT hn h0 h1, itD_q h hr, fin_s, e1, e2]
  exact fin_x r _ hP
theorem denW_5 {T : Int → Int} {n : Int} (hT : Ends T n) (hn : n ≤ 60) {P : Nat → Int} {A : Nat → Nat} {r : Nat} {s : Cst} (h0 : 0 ≤ s.1) (h1 : s.1 ≤ n) (h : T s.1 = 40) (hr : r = 2) : denW T P A r s = .inl (-5000 - s.1) := by
  unfold denW
  rw [wkD_u0 hT hn h0 h1, hr, show 2 - 2 = 0 from rfl, itD_5 h]
  exact fin_l 2
theorem denW_h {T : Int → Int} {n : Int} (hT : Ends T n) (hn : n ≤ 60) {P : Nat → Int} {A : Nat → Nat} {r : Nat} {s s1 : Cst} (h0 : 0 ≤ s.1) (h1 : s.1 ≤ n) (h : ¬ T s.1 = 40) (hh : hopS T s = .inr s1) : denW T P A r s = denV T P A r s1 := by
  unfold denW denV
  rw [wkD_u0 hT hn h0 h1, itD_h h, hh, bnS_r]
theorem denW_f {T : Int → Int} {n : Int} (hT : Ends T n) (hn : n ≤ 60) {P : Nat → Int} {A : Nat → Nat} {r : Nat} {s : Cst} {f : Int} (h0 : 0 ≤ s.1) (h1 : s.1 ≤ n) (h : ¬ T s.1 = 40) (hh : hopS T s = .inl f) : denW T P A r s = .inl f := by
  unfold denW
  rw [wkD_u0 hT hn h0 h1, itD_h h, hh, bnS_l]
  exact fin_l r
theorem denV_c {T : Int → Int} {P : Nat → Int} {A : Nat → Nat} {r : Nat} {s : Cst} (h : T s.1 = 44) : denV T P A r s = denW T P A r (fwd s (s.1 + 1)) := by
  unfold denW denV
  rw [wkT_y h]
theorem denV_e {T : Int → Int} {P : Nat → Int} {A : Nat → Nat} {s : Cst} (h : T s.1 = -1) : denV T P A 0 s = .inr s := by
  show bnS (wkT T (wkD T 2) s) (endX T) = _
  rw [wkT_n (by omega), bnS_r, endX_y h]
theorem denV_n {T : Int → Int} {P : Nat → Int} {A : Nat → Nat} {r : Nat} {s : Cst} (h : ¬ T s.1 = 44) (h2 : r = 0 → ¬ T s.1 = -1) (h3 : ¬ r = 0 → ¬ T s.1 = 41) : denV T P A r s = .inl (-1000 - s.1) := by
  unfold denV
  rw [wkT_n h]
  cases r with
  | zero =>
    show bnS (.inr s) (endX T) = _
    rw [bnS_r, endX_n (h2 rfl)]
  | succ r =>
    show finW T P A r (bnS (bnS (.inr s) (rndX T (P r) (A r))) _) = _
    rw [bnS_r, rndX_n (h3 (by omega)), bnS_l]
    exact fin_l r
theorem denV_r {T : Int → Int} {P : Nat → Int} {A : Nat → Nat} {r : Nat} {s s1 : Cst} (h : T s.1 = 41) (hr : rndX T (P r) (A r) s = .inr s1) : denV T P A (r + 1) s = denV T P A r s1 := by
  unfold denV
  rw [wkT_n (by omega)]
  show finW T P A r (bnS (bnS (.inr s) (rndX T (P r) (A r))) _) = _
  rw [bnS_r, hr, bnS_r]
theorem denV_f {T : Int → Int} {P : Nat → Int} {A : Nat → Nat} {r : Nat} {s : Cst} {f : Int} (h : T s.1 = 41) (hr : rndX T (P r) (A r) s = .inl f) : denV T P A (r + 1) s = .inl f := by
  unfold denV
  rw [wkT_n (by omega)]
  show finW T P A r (bnS (bnS (.inr s) (rndX T (P r) (A r))) _) = _
  rw [bnS_r, hr, bnS_l]
  exact fin_l r
/-! as states -/
def mskW (n : Nat) (g : Nat → Int × Int) : Nat → Int × Int := fun j => if j < n then g j else (0, 0)
theorem msk_i {n : Nat} {g : Nat → Int × Int} {j : Nat} (h : j < n) : mskW n g j = g j := if_pos h
theorem msk_o {n : Nat} {g : Nat → Int × Int} {j : Nat} (h : ¬ j < n) : mskW n g j = (0, 0) := if_neg h
theorem msk_0 {g : Nat → Int × Int} : mskW 0 g = fun _ => (0, 0) := funext (fun j => msk_o (Nat.not_lt_zero _))
theorem msk_e {n m : Nat} {g g' : Nat → Int × Int} (h : m = n) (e : ∀ j, j < n → g' j = g j) : mskW m g' = mskW n g := funext (fun j => by
  rw [h]
  by_cases c : j < n
  · rw [msk_i c, msk_i c, e j c]
  · rw [msk_o c, msk_o c])
theorem msk_p {n m : Nat} {g g' : Nat → Int × Int} {x : Int × Int} (h : m = n + 1) (e : ∀ j, j < n → g' j = g j) (e2 : g' n = x) : mskW m g' = pu (mskW n g) n x := funext (fun j => by
  rw [h]
  by_cases c : j = n
  · rw [c, pu_s, msk_i (by omega), e2]
  · rw [pu_n c]
    by_cases d : j < n
    · rw [msk_i d, msk_i (by omega), e j d]
    · rw [msk_o d, msk_o (by omega)])
def wst (p : Int32) (n : Int32) (f g : Nat → Int32) : Cst := (p.toInt, ix n, mskW (ix n) (fun j => ((f j).toInt, (g j).toInt)))
def sWc (M : Mem) : Cst := wst (M 19 3) (M 34 2) (M 35) (M 36)
def sWr (M : Mem) : Cst := wst (M 0 7) (M 0 49) (M 32) (M 33)
theorem wst_f {p n p' n' : Int32} {f g f' g' : Nat → Int32} {q : Int} (e1 : p'.toInt = q) (e2 : n' = n) (e3 : f' = f) (e4 : g' = g) : wst p' n' f' g' = fwd (wst p n f g) q := by
  subst e2 e3 e4
  show (p'.toInt, _) = (q, _)
  rw [e1]
  rfl
theorem wst_e {p n p' n' : Int32} {f g f' g' : Nat → Int32} {q u o : Int} (hn : 0 ≤ n.toInt ∧ n.toInt ≤ 100) (e1 : p'.toInt = q) (e2 : n' = n + nI 1) (e3 : ∀ j, ¬ j = ix n → f' j = f j ∧ g' j = g j) (e4 : (f' (ix n)).toInt = u ∧ (g' (ix n)).toInt = o) : wst p' n' f' g' = emt (fwd (wst p n f g) q) u o := by
  have z := i_up (x := n) (by omega)
  subst e2
  refine cst_ext e1 z.1 (fun j => ?_)
  show mskW (ix (n + nI 1)) (fun j => ((f' j).toInt, (g' j).toInt)) j = pu (mskW (ix n) (fun j => ((f j).toInt, (g j).toInt))) (ix n) (u, o) j
  rw [msk_p (x := (u, o)) z.1 (fun j hj => by
    show ((f' j).toInt, (g' j).toInt) = ((f j).toInt, (g j).toInt)
    rw [(e3 j (by omega)).1, (e3 j (by omega)).2]) (by
    show ((f' (ix n)).toInt, (g' (ix n)).toInt) = (u, o)
    rw [e4.1, e4.2])]
/-- k places of the copy are written: b, len as above -/
def CpW (f0 g0 f g : Nat → Int32) (len b k : Nat) : Prop := ∀ j, (j < b + k → ((f j).toInt, (g j).toInt) = cpK (mskW b (fun j => ((f0 j).toInt, (g0 j).toInt))) len b k j)
theorem cpw_0 {f g : Nat → Int32} {len b : Nat} : CpW f g f g len b 0 := fun j hj => by
  show _ = mskW b (fun j => ((f j).toInt, (g j).toInt)) j
  rw [msk_i (by omega)]
theorem cpw_s {f0 g0 f g f' g' : Nat → Int32} {len b k : Nat} (h : CpW f0 g0 f g len b k) (hl : 1 ≤ len ∧ len ≤ b) (e1 : f' = upd f (b + k) (f (b + k - len))) (e2 : g' = upd g (b + k) (g (b + k - len))) : CpW f0 g0 f' g' len b (k + 1) := fun j hj => by
  show _ = pu (cpK _ len b k) (b + k) (cpK _ len b k (b + k - len)) j
  rw [e1, e2]
  by_cases c : j = b + k
  · rw [c, upd_e, upd_e, pu_s]
    exact h (b + k - len) (by omega)
  · rw [upd_o c, upd_o c, pu_n c]
    exact h j (by omega)
theorem cpw_e {p n p' n' : Int32} {f0 g0 f g : Nat → Int32} {len b k : Nat} {q : Int} (h : CpW f0 g0 f g len b k) (eb : ix n = b) (e1 : p'.toInt = q) (e2 : ix n' = b + k) : wst p' n' f g = (q, b + k, cpK (wst p n f0 g0).2.2 len b k) := by
  refine cst_ext e1 e2 (fun j => ?_)
  show mskW (ix n') (fun j => ((f j).toInt, (g j).toInt)) j = cpK (mskW (ix n) (fun j => ((f0 j).toInt, (g0 j).toInt))) len b k j
  rw [e2, eb]
  by_cases c : j < b + k
  · rw [msk_i c]
    exact h j c
  · rw [msk_o c, cpK_o (by omega), msk_o (by omega)]
/-! how far one comes -/
def ftG (G : Mem) (x y : Int) : Prop := ((y = 0 ∨ y = 21) ∧ 0 ≤ x ∧ x ≤ 39) ∨ (¬ (y = 0 ∨ y = 21) ∧ ¬ (stA G x y 40 0).toInt = -1 ∧ dryG G (ix (stA G x y 40 0)))
def StW (G : Mem) (s : Int) (d : Int × Int) (x y x2 y2 : Int) : Prop := x2 = x + d.1 ∧ y2 = max 0 (min 21 (y + d.2)) ∧ dd d.1 d.2 ≤ s * s ∧ ftG G x2 y2
def GoI (G : Mem) (s : Int) (f : Nat → Int × Int) (x0 : Int) : Nat → Int → Int → Prop
  | 0, x, y => x = x0 ∧ y = 0
  | i + 1, x, y => ∃ x' y', GoI G s f x0 i x' y' ∧ y' < 21 ∧ StW G s (f i) x' y' x y
theorem go_fn {G : Mem} {s : Int} {f : Nat → Int × Int} {x0 : Int} : ∀ {i : Nat} {x y x' y' : Int}, GoI G s f x0 i x y → GoI G s f x0 i x' y' → x = x' ∧ y = y'
  | 0, _, _, _, _, h, h' => ⟨h.1.trans h'.1.symm, h.2.trans h'.2.symm⟩
  | i + 1, _, _, _, _, ⟨a, b, h, _, k⟩, ⟨a', b', h', _, k'⟩ => by
    obtain ⟨e1, e2⟩ := go_fn h h'
    subst e1 e2
    exact ⟨k.1.trans k'.1.symm, k.2.1.trans k'.2.1.symm⟩
def StpX (G : Mem) (s : Int) (f : Nat → Int × Int) (i : Nat) (x y : Int) : Prop := y < 21 ∧ ∃ x2 y2, StW G s (f i) x y x2 y2
theorem go_ah {G : Mem} {s : Int} {f : Nat → Int × Int} {x0 : Int} : ∀ {k i : Nat} {x y x' y' : Int}, GoI G s f x0 (i + 1 + k) x y → GoI G s f x0 i x' y' → StpX G s f i x' y'
  | 0, _, x, y, _, _, ⟨a, b, h, hb, k⟩, h' => by
    obtain ⟨e1, e2⟩ := go_fn h h'
    subst e1 e2
    exact ⟨hb, x, y, k⟩
  | k + 1, i, _, _, _, _, ⟨a, b, h, _, _⟩, h' => go_ah (k := k) (i := i) h h'
def GoE (G : Mem) (s : Int) (f : Nat → Int × Int) (n : Nat) (x0 : Int) (i : Nat) (x y : Int) : Prop := i ≤ n ∧ GoI G s f x0 i x y ∧ (i = n ∨ ¬ StpX G s f i x y)
theorem ge_fn {G : Mem} {s : Int} {f : Nat → Int × Int} {n : Nat} {x0 : Int} {i i' : Nat} {x y x' y' : Int} (h : GoE G s f n x0 i x y) (h' : GoE G s f n x0 i' x' y') : i = i' ∧ x = x' ∧ y = y' := by
  have e : i = i' := by
    rcases Nat.lt_trichotomy i i' with c | c | c
    · have z := h'.2.1
      rw [show i' = i + 1 + (i' - i - 1) from by omega] at z
      have w := go_ah z h.2.1
      rcases h.2.2 with q | q
      · have := h'.1
        omega
      · exact absurd w q
    · exact c
    · have z := h.2.1
      rw [show i = i' + 1 + (i - i' - 1) from by omega] at z
      have w := go_ah z h'.2.1
      rcases h'.2.2 with q | q
      · have := h.1
        omega
      · exact absurd w q
  subst e
  obtain ⟨e1, e2⟩ := go_fn h.2.1 h'.2.1
  exact ⟨rfl, e1, e2⟩
def WkQ (G : Mem) (s : Int) (T : Int → Int) (x0 w r : Int) : Prop := (∃ e, walkA T = .inl e ∧ r = e) ∨ ∃ st, walkA T = .inr st ∧ ∃ i x y, GoE G s st.2.2 st.2.1 x0 i x y ∧ ((w = 0 ∧ r = (i : Int)) ∨ (w = 1 ∧ r = y) ∨ (w = 2 ∧ r = x) ∨ (w = 3 ∧ ((y = 21 ∧ r = 1) ∨ (¬ y = 21 ∧ r = 0))))
theorem wk_fn {G : Mem} {s : Int} {T : Int → Int} {x0 w r r' : Int} (h : WkQ G s T x0 w r) (h' : WkQ G s T x0 w r') : r = r' := by
  rcases h with ⟨e, a, b⟩ | ⟨st, a, i, x, y, b, d⟩ <;> rcases h' with ⟨e', a', b'⟩ | ⟨st', a', i', x', y', b', d'⟩
  · rw [a] at a'
    rw [b, b', Sum.inl.inj a']
  · rw [a] at a'
    exact nomatch a'
  · rw [a] at a'
    exact nomatch a'
  · rw [a] at a'
    have es := Sum.inr.inj a'
    subst es
    obtain ⟨e1, e2, e3⟩ := ge_fn b b'
    subst e1 e2 e3
    omega
theorem go_s {G : Mem} {s : Int} {f : Nat → Int × Int} {x0 : Int} {i : Nat} {x y x2 y2 : Int} (h : GoI G s f x0 i x y) (hy : y < 21) (hs : StW G s (f i) x y x2 y2) : GoI G s f x0 (i + 1) x2 y2 := ⟨x, y, h, hy, hs⟩
def WkW (x w n sz : Int) : Prop := (0 ≤ x ∧ x ≤ 39) ∧ (0 ≤ w ∧ w ≤ 3) ∧ (1 ≤ n ∧ n ≤ 60) ∧ n ≤ sz
theorem ff_wk {MC MM : Mem} {r r' v x n w : Int32} (h : FF MC MM) (hq : QQ MC MM) (hP : PP MC MM) (eS : (MC 19 1).toInt = (MM 0 6).toInt) (hT : ∀ j : Nat, (j : Int) < (MM 0 6).toInt → (MC 20 j).toInt = ((MM 5 j) &&& (nI 255)).toInt) (h1 : PqP (TpC MC v ∧ WkW x.toInt w.toInt n.toInt (MC 19 1).toInt) (WkQ (FdC MC 1) (MC 43 (ix v)).toInt (txt (fun j => (MC 20 j).toInt) n.toInt) x.toInt w.toInt r.toInt) r) (h2 : PqP (TpR MM v ∧ WkW x.toInt w.toInt n.toInt (MM 0 6).toInt) (WkQ (FdR MM 1) (MM 4 (ix v)).toInt (txt (fun j => ((MM 5 j) &&& (nI 255)).toInt) n.toInt) x.toInt w.toInt r'.toInt) r') : r = r' := pq_fn h1 h2 ⟨fun z => ⟨(tp_iff hP).mp z.1, eS ▸ z.2⟩, fun z => ⟨(tp_iff hP).mpr z.1, eS ▸ z.2⟩⟩ (fun t a b => by
  have e : txt (fun j => (MC 20 j).toInt) n.toInt = txt (fun j => ((MM 5 j) &&& (nI 255)).toInt) n.toInt := txt_ext (fun j hj => hT j (by have := t.2.2.2.2; omega))
  rw [h.1.1, qq_e hq t.1, e] at a
  exact t_of (wk_fn a b))
/-! what the rows want -/
theorem hopL_b {T : Int → Int} {A : Sum Int (Int × Int × Int)} {k k' : Nat} {p u o v q u' o' : Int} (h : A = hopL T k p u o) (hk : k = k' + 1) (hp : hpb (T p) = true) (hv : hopV T (p + 1) = .inr (v, q)) (eu : u' = u + hpU (T p) v) (eo : o' = o + hpO (T p) v) : A = hopL T k' q u' o' := by
  rw [h, hk, hopL_y hp hv, eu, eo]
theorem hopL_c {T : Int → Int} {n : Int} (hT : Ends T n) (hn : n ≤ 60) {A : Sum Int (Int × Int × Int)} {p u o v q u' o' : Int} (h : A = hopL T 60 p u o) (h0 : 0 ≤ p) (hp : hpb (T p) = true) (hv : hopV T (p + 1) = .inr (v, q)) (eu : u' = u + hpU (T p) v) (eo : o' = o + hpO (T p) v) : A = hopL T 60 q u' o' := by
  rw [h, hopL_60 hT hn h0 hp hv, eu, eo]
theorem numP_w {r : Sum Int (Int × Int)} {res flt pl lo hi lo' hi' : Int} (h : NumP r res flt pl lo hi) (h1 : lo' ≤ lo) (h2 : hi = hi') : NumP r res flt pl lo' hi' := by
  cases r with
  | inl f => exact h
  | inr q =>
    obtain ⟨a, b, d, e, f, g⟩ := h
    exact ⟨a, b, d, e, by omega, by omega⟩
theorem numQ_w {r : Sum Int (Int × Int)} {res flt pl num lo hi lo' hi' : Int} (h : NumQ r res flt pl num lo hi) (h1 : lo' ≤ lo) (h2 : hi = hi') : NumQ r res flt pl num lo' hi' := by
  cases r with
  | inl f => exact h
  | inr q =>
    obtain ⟨a, b, d, e, f, g, i⟩ := h
    exact ⟨a, b, d, e, f, by omega, by omega⟩
/-- of a repeating -/
def RpP (s s1 : Cst) (a m : Nat) (res : Int) : Prop := (¬ res = 0 ∧ ¬ 60 < s.2.1 + (s.2.1 - a) * m ∧ s1 = (s.1, s.2.1 + (s.2.1 - a) * m, cpK s.2.2 (s.2.1 - a) s.2.1 ((s.2.1 - a) * m))) ∨ (res = 0 ∧ 60 < s.2.1 + (s.2.1 - a) * m)
theorem rpp_y {s s1 : Cst} {a m : Nat} {res p0 : Int} (h : RpP s s1 a m res) (hr : ¬ res = 0) : repS s p0 a m = .inr s1 := by
  obtain ⟨-, b, d⟩ := h.resolve_right (fun z => hr z.1)
  rw [repS_v b, d]
theorem rpp_n {s s1 : Cst} {a m : Nat} {res p0 : Int} (h : RpP s s1 a m res) (hr : res = 0) : repS s p0 a m = .inl (-6000 - p0) := repS_6 (h.resolve_left (fun z => z.1 hr)).2
theorem mulN {a b : Int32} (ha : 0 ≤ a.toInt ∧ a.toInt ≤ 60) (hb : 0 ≤ b.toInt ∧ b.toInt ≤ 9) : (a * b).toInt = ((ix a * ix b : Nat) : Int) ∧ ix a * ix b ≤ 540 := by
  have e1 := t_ixn a ha.1
  have e2 := t_ixn b hb.1
  have l : ix a * ix b ≤ 60 * 9 := Nat.mul_le_mul (by omega) (by omega)
  have e : a.toInt * b.toInt = ((ix a * ix b : Nat) : Int) := by rw [← e1, ← e2, Int.natCast_mul]
  rw [t_mul (by rw [e]; omega), e]
  exact ⟨rfl, by omega⟩
theorem wk_k {T : Int → Int} {k k' : Nat} {A : Sum Int Cst} {s s1 : Cst} {I : Cst → Sum Int Cst} (h : A = wkL T I k s) (hk : k = k' + 1) (hi : I s = .inr s1) : A = wkT T (wkL T I k') s1 := by
  rw [h, hk, wkL_s, hi, bnS_r]
theorem wk_i {T : Int → Int} {k k' : Nat} {A : Sum Int Cst} {s : Cst} {I : Cst → Sum Int Cst} {f : Int} (h : A = wkL T I k s) (hk : k = k' + 1) (hi : I s = .inl f) : A = .inl f := by
  rw [h, hk, wkL_s, hi, bnS_l]
/-! how far a step goes -/
def SmB (s : Cst) : Prop := ∀ j, (-6000 ≤ (s.2.2 j).1 ∧ (s.2.2 j).1 ≤ 6000) ∧ -6000 ≤ (s.2.2 j).2 ∧ (s.2.2 j).2 ≤ 6000
theorem numS_b {T : Int → Int} {p : Int} {q : Int × Int} (h : numS T p 2 = .inr q) : 0 ≤ q.1 ∧ q.1 ≤ 99 := by
  unfold numS at h
  by_cases c : nd T p 2 = 0
  · rw [if_pos c] at h
    exact nomatch h
  · rw [if_neg c] at h
    by_cases d : dgt (T (p + nd T p 2)) = true
    · rw [if_pos d] at h
      exact nomatch h
    · rw [if_neg d] at h
      have e := Sum.inr.inj h
      have b := nvv_bd (T := T) (p := p) (c := nd T p 2) (fun i hi => nd_dg T 2 p i hi)
      have l := nd_le T 2 p
      have w := pow10_le l
      have w2 : (10 : Int) ^ 2 = 100 := by decide
      rw [← e]
      show 0 ≤ nvv T p (nd T p 2) ∧ nvv T p (nd T p 2) ≤ 99
      omega
theorem hopV_b {T : Int → Int} {p : Int} {q : Int × Int} (h : hopV T p = .inr q) : 0 ≤ q.1 ∧ q.1 ≤ 99 := by
  by_cases c : dgt (T p) = true
  · rw [hopV_y c] at h
    exact numS_b h
  · rw [hopV_n (Bool.eq_false_iff.mpr c)] at h
    have e := Sum.inr.inj h
    rw [← e]
    show (0 : Int) ≤ 1 ∧ (1 : Int) ≤ 99
    decide
theorem hpU_b {c v : Int} (h : 0 ≤ v ∧ v ≤ 99) : -99 ≤ hpU c v ∧ hpU c v ≤ 99 := by
  unfold hpU
  split
  · omega
  · split <;> omega
theorem hpO_b {c v : Int} (h : 0 ≤ v ∧ v ≤ 99) : -99 ≤ hpO c v ∧ hpO c v ≤ 99 := by
  unfold hpO
  split
  · omega
  · split <;> omega
theorem hopL_m {T : Int → Int} : ∀ (k : Nat) (p u o B : Int) (q : Int × Int × Int), (-B ≤ u ∧ u ≤ B) → (-B ≤ o ∧ o ≤ B) → hopL T k p u o = .inr q → (-(B + 99 * k) ≤ q.1 ∧ q.1 ≤ B + 99 * k) ∧ -(B + 99 * k) ≤ q.2.1 ∧ q.2.1 ≤ B + 99 * k
  | 0, p, u, o, B, q, hu, ho, h => by
    rw [hopL_0] at h
    have e := Sum.inr.inj h
    rw [← e]
    show (-(B + 99 * ((0 : Nat) : Int)) ≤ u ∧ u ≤ B + 99 * ((0 : Nat) : Int)) ∧ -(B + 99 * ((0 : Nat) : Int)) ≤ o ∧ o ≤ B + 99 * ((0 : Nat) : Int)
    omega
  | k + 1, p, u, o, B, q, hu, ho, h => by
    by_cases c : hpb (T p) = true
    · cases hv : hopV T (p + 1) with
      | inl f =>
        rw [hopL_f c hv] at h
        exact nomatch h
      | inr w =>
        rw [hopL_y (v := w.1) (q := w.2) c hv] at h
        have b := hopV_b hv
        have b1 := hpU_b (c := T p) b
        have b2 := hpO_b (c := T p) b
        have y := hopL_m k _ _ _ (B + 99) q (by omega) (by omega) h
        omega
    · rw [hopL_n (Bool.eq_false_iff.mpr c)] at h
      have e := Sum.inr.inj h
      rw [← e]
      show (-(B + 99 * ((k + 1 : Nat) : Int)) ≤ u ∧ u ≤ B + 99 * ((k + 1 : Nat) : Int)) ∧ -(B + 99 * ((k + 1 : Nat) : Int)) ≤ o ∧ o ≤ B + 99 * ((k + 1 : Nat) : Int)
      omega
theorem hopS_m {T : Int → Int} {s s1 : Cst} (hs : SmB s) (h : hopS T s = .inr s1) : SmB s1 := by
  cases hl : hopL T 60 s.1 0 0 with
  | inl f =>
    rw [hopS_f hl] at h
    exact nomatch h
  | inr q =>
    have r := hopL_m 60 s.1 0 0 0 q (by omega) (by omega) hl
    rw [hopS_e hl] at h
    by_cases c : q.2.2 = s.1
    · rw [hopE_1 c] at h
      exact nomatch h
    · by_cases d : 60 ≤ s.2.1
      · rw [hopE_6 c d] at h
        exact nomatch h
      · rw [hopE_v c d] at h
        have e := Sum.inr.inj h
        rw [← e]
        intro j
        show (-6000 ≤ (pu s.2.2 s.2.1 (q.1, q.2.1) j).1 ∧ (pu s.2.2 s.2.1 (q.1, q.2.1) j).1 ≤ 6000) ∧ -6000 ≤ (pu s.2.2 s.2.1 (q.1, q.2.1) j).2 ∧ (pu s.2.2 s.2.1 (q.1, q.2.1) j).2 ≤ 6000
        by_cases g : j = s.2.1
        · rw [g, pu_s]
          show (-6000 ≤ q.1 ∧ q.1 ≤ 6000) ∧ -6000 ≤ q.2.1 ∧ q.2.1 ≤ 6000
          omega
        · rw [pu_n g]
          exact hs j
theorem cpK_m {f : Nat → Int × Int} {len b : Nat} (h : ∀ j, (-6000 ≤ (f j).1 ∧ (f j).1 ≤ 6000) ∧ -6000 ≤ (f j).2 ∧ (f j).2 ≤ 6000) : ∀ (k j : Nat), (-6000 ≤ (cpK f len b k j).1 ∧ (cpK f len b k j).1 ≤ 6000) ∧ -6000 ≤ (cpK f len b k j).2 ∧ (cpK f len b k j).2 ≤ 6000
  | 0, j => h j
  | k + 1, j => by
    show (-6000 ≤ (pu (cpK f len b k) (b + k) (cpK f len b k (b + k - len)) j).1 ∧ (pu (cpK f len b k) (b + k) (cpK f len b k (b + k - len)) j).1 ≤ 6000) ∧ -6000 ≤ (pu (cpK f len b k) (b + k) (cpK f len b k (b + k - len)) j).2 ∧ (pu (cpK f len b k) (b + k) (cpK f len b k (b + k - len)) j).2 ≤ 6000
    by_cases c : j = b + k
    · rw [c, pu_s]
      exact cpK_m h k _
    · rw [pu_n c]
      exact cpK_m h k j
theorem rndX_m {T : Int → Int} {p0 : Int} {a : Nat} {s s1 : Cst} (hs : SmB s) (h : rndX T p0 a s = .inr s1) : SmB s1 := by
  by_cases c : T s.1 = 41
  · by_cases d : T (s.1 + 1) = 120
    · by_cases e : 50 ≤ T (s.1 + 2) ∧ T (s.1 + 2) ≤ 57
      · rw [rndX_v c d e] at h
        by_cases g : 60 < (fwd s (s.1 + 3)).2.1 + ((fwd s (s.1 + 3)).2.1 - a) * (T (s.1 + 2) - 49).toNat
        · rw [repS_6 g] at h
          exact nomatch h
        · rw [repS_v g] at h
          have z := Sum.inr.inj h
          rw [← z]
          exact fun j => cpK_m hs _ j
      · rw [rndX_d c d e] at h
        exact nomatch h
    · rw [rndX_1 c d] at h
      rw [← Sum.inr.inj h]
      exact hs
  · rw [rndX_n c] at h
    exact nomatch h
theorem wkL_m {T : Int → Int} {I : Cst → Sum Int Cst} (hI : ∀ s s1, SmB s → I s = .inr s1 → SmB s1) : ∀ (k : Nat) (s s1 : Cst), SmB s → wkL T I k s = .inr s1 → SmB s1
  | 0, s, s1, _, h => by
    rw [wkL_0] at h
    exact nomatch h
  | k + 1, s, s1, hn, h => by
    rw [wkL_s] at h
    obtain ⟨s2, e1, e2⟩ := bnS_e h
    have r := hI s s2 hn e1
    by_cases c : T s2.1 = 44
    · rw [wkT_y c] at e2
      exact wkL_m hI k (fwd s2 (s2.1 + 1)) _ r e2
    · rw [wkT_n c] at e2
      rw [← Sum.inr.inj e2]
      exact r
theorem itD_m {T : Int → Int} : ∀ (d : Nat) (s s1 : Cst), SmB s → itD T d s = .inr s1 → SmB s1
  | 0, s, s1, hn, h => by
    by_cases c : T s.1 = 40
    · rw [itD_5 c] at h
      exact nomatch h
    · rw [itD_h c] at h
      exact hopS_m hn h
  | d + 1, s, s1, hn, h => by
    by_cases c : T s.1 = 40
    · rw [itD_o c] at h
      obtain ⟨s2, e1, e2⟩ := bnS_e h
      exact rndX_m (wkL_m (itD_m d) 60 (fwd s (s.1 + 1)) _ hn e1) e2
    · rw [itD_h c] at h
      exact hopS_m hn h
theorem walk_m {T : Int → Int} {s : Cst} (h : walkA T = .inr s) : SmB s := by
  obtain ⟨s2, e1, e2⟩ := bnS_e h
  have r : SmB s2 := wkL_m (itD_m 2) 60 wk0 s2 (fun j => by
    show (-6000 ≤ (0 : Int) ∧ (0 : Int) ≤ 6000) ∧ -6000 ≤ (0 : Int) ∧ (0 : Int) ≤ 6000
    omega) e1
  unfold endX at e2
  by_cases c : T s2.1 = -1
  · rw [if_pos c] at e2
    rw [← Sum.inr.inj e2]
    exact r
  · rw [if_neg c] at e2
    exact nomatch e2
/-! going -/
theorem t_sq6 {x : Int32} (h : -6000 ≤ x.toInt ∧ x.toInt ≤ 6000) : (x * x).toInt = x.toInt * x.toInt ∧ 0 ≤ x.toInt * x.toInt ∧ x.toInt * x.toInt ≤ 36000000 := by
  have u : x.toInt * x.toInt ≤ 36000000 ∧ 0 ≤ x.toInt * x.toInt := by
    by_cases c : 0 ≤ x.toInt
    · have z := sq_le c h.2
      have y := Int.mul_nonneg c c
      omega
    · have z := sq_le (a := 0 - x.toInt) (b := 6000) (by omega) (by omega)
      have y := Int.mul_nonneg (a := 0 - x.toInt) (b := 0 - x.toInt) (by omega) (by omega)
      rw [sq_neg] at z y
      omega
  exact ⟨t_mul (by omega), u.2, u.1⟩
theorem t_dd6 {x y : Int32} (hx : -6000 ≤ x.toInt ∧ x.toInt ≤ 6000) (hy : -6000 ≤ y.toInt ∧ y.toInt ≤ 6000) : (x * x + y * y).toInt = dd x.toInt y.toInt := by
  have a := t_sq6 hx
  have b := t_sq6 hy
  have f := t_add (x * x) (y * y)
  unfold dd
  omega
theorem wst_j {p n : Int32} {f g : Nat → Int32} {j : Nat} (h : j < ix n) : (wst p n f g).2.2 j = ((f j).toInt, (g j).toInt) := by
  show mskW (ix n) (fun j => ((f j).toInt, (g j).toInt)) j = _
  rw [msk_i h]
theorem ge_n {G : Mem} {s : Int} {f : Nat → Int × Int} {n : Nat} {x0 : Int} {i : Nat} {x y : Int} (h : GoI G s f x0 i x y) (hi : i ≤ n) (hn : i = n ∨ 21 ≤ y ∨ ¬ dd (f i).1 (f i).2 ≤ s * s ∨ ¬ ftG G (x + (f i).1) (max 0 (min 21 (y + (f i).2)))) : GoE G s f n x0 i x y := ⟨hi, h, by
  rcases hn with z | z | z | z
  · exact Or.inl z
  · exact Or.inr (fun q => by have := q.1; omega)
  · exact Or.inr (fun ⟨_, a, b, q⟩ => z q.2.2.1)
  · exact Or.inr (fun ⟨_, a, b, q⟩ => z (by rw [← q.1, ← q.2.1]; exact q.2.2.2))⟩
theorem hpU_w {c v : Int} (h : 0 ≤ v ∧ v ≤ 99999) : -99999 ≤ hpU c v ∧ hpU c v ≤ 99999 := by
  unfold hpU
  split
  · omega
  · split <;> omega
theorem hpO_w {c v : Int} (h : 0 ≤ v ∧ v ≤ 99999) : -99999 ≤ hpO c v ∧ hpO c v ≤ 99999 := by
  unfold hpO
  split
  · omega
  · split <;> omega
theorem hopS_g {T : Int → Int} {s s1 : Cst} (h : hopS T s = .inr s1) : s.2.1 ≤ s1.2.1 := by
  cases hl : hopL T 60 s.1 0 0 with
  | inl f =>
    rw [hopS_f hl] at h
    exact nomatch h
  | inr q =>
    rw [hopS_e hl] at h
    by_cases c : q.2.2 = s.1
    · rw [hopE_1 c] at h
      exact nomatch h
    · by_cases d : 60 ≤ s.2.1
      · rw [hopE_6 c d] at h
        exact nomatch h
      · rw [hopE_v c d] at h
        rw [← Sum.inr.inj h]
        exact Nat.le_succ _
theorem rndX_g {T : Int → Int} {p0 : Int} {a : Nat} {s s1 : Cst} (h : rndX T p0 a s = .inr s1) : s.2.1 ≤ s1.2.1 := by
  by_cases c : T s.1 = 41
  · by_cases d : T (s.1 + 1) = 120
    · by_cases e : 50 ≤ T (s.1 + 2) ∧ T (s.1 + 2) ≤ 57
      · rw [rndX_v c d e] at h
        by_cases g : 60 < (fwd s (s.1 + 3)).2.1 + ((fwd s (s.1 + 3)).2.1 - a) * (T (s.1 + 2) - 49).toNat
        · rw [repS_6 g] at h
          exact nomatch h
        · rw [repS_v g] at h
          rw [← Sum.inr.inj h]
          exact Nat.le_add_right _ _
      · rw [rndX_d c d e] at h
        exact nomatch h
    · rw [rndX_1 c d] at h
      rw [← Sum.inr.inj h]
      exact Nat.le_refl _
  · rw [rndX_n c] at h
    exact nomatch h
theorem wkL_g {T : Int → Int} {I : Cst → Sum Int Cst} (hI : ∀ s s1, I s = .inr s1 → s.2.1 ≤ s1.2.1) : ∀ (k : Nat) (s s1 : Cst), wkL T I k s = .inr s1 → s.2.1 ≤ s1.2.1
  | 0, s, s1, h => by
    rw [wkL_0] at h
    exact nomatch h
  | k + 1, s, s1, h => by
    rw [wkL_s] at h
    obtain ⟨s2, e1, e2⟩ := bnS_e h
    have r := hI s s2 e1
    by_cases c : T s2.1 = 44
    · rw [wkT_y c] at e2
      exact Nat.le_trans r (wkL_g hI k (fwd s2 (s2.1 + 1)) _ e2)
    · rw [wkT_n c] at e2
      rw [← Sum.inr.inj e2]
      exact r
theorem itD_g {T : Int → Int} : ∀ (d : Nat) (s s1 : Cst), itD T d s = .inr s1 → s.2.1 ≤ s1.2.1
  | 0, s, s1, h => by
    by_cases c : T s.1 = 40
    · rw [itD_5 c] at h
      exact nomatch h
    · rw [itD_h c] at h
      exact hopS_g h
  | d + 1, s, s1, h => by
    by_cases c : T s.1 = 40
    · rw [itD_o c] at h
      obtain ⟨s2, e1, e2⟩ := bnS_e h
      exact Nat.le_trans (wkL_g (itD_g d) 60 (fwd s (s.1 + 1)) _ e1) (rndX_g e2)
    · rw [itD_h c] at h
      exact hopS_g h
theorem wkD_g {T : Int → Int} {d : Nat} {s s1 : Cst} (h : wkD T d s = .inr s1) : s.2.1 ≤ s1.2.1 := wkL_g (itD_g d) 60 s s1 h
theorem sta_r9 {F : Mem} {x y : Int} : ∀ (n j : Nat), n + j ≤ 40 → ¬ (stA F x y n j).toInt = -1 → 0 ≤ (stA F x y n j).toInt ∧ (stA F x y n j).toInt < 40
  | 0, j, _, h => absurd (show (-1 : Int32).toInt = -1 by decide) h
  | n + 1, j, hn, h => by
    have e : stA F x y (n + 1) j = if (¬ (F 4 j).toInt = 0) ∧ (F 1 j).toInt = x ∧ (F 2 j).toInt = y then nI j else stA F x y n (j + 1) := rfl
    rw [e] at h ⊢
    by_cases c : (¬ (F 4 j).toInt = 0) ∧ (F 1 j).toInt = x ∧ (F 2 j).toInt = y
    · rw [if_pos c, t_lit j (by omega)]
      omega
    · rw [if_neg c] at h ⊢
      exact sta_r9 n (j + 1) (by omega) h
theorem sta_r {F : Mem} {x y : Int} (h : ¬ (stA F x y 40 0).toInt = -1) : 0 ≤ (stA F x y 40 0).toInt ∧ (stA F x y 40 0).toInt < 40 := sta_r9 40 0 (by omega) h
theorem repS_0 {s : Cst} {p0 : Int} {a : Nat} (h : s.2.1 ≤ 60) : repS s p0 a 0 = .inr s := by
  rw [repS_v (by rw [Nat.mul_zero]; omega), Nat.mul_zero]
  rfl
def PR (M : Mem) : Nat → Int := fun t => (M 34 t).toInt
def AR (M : Mem) : Nat → Nat := fun t => ix (M 35 t)
theorem denW_x {T : Int → Int} {P P' : Nat → Int} {A A' : Nat → Nat} {r : Nat} {s : Cst} (h : ∀ t, t < r → P t = P' t ∧ A t = A' t) : denW T P A r s = denW T P' A' r s := fin_x r _ h
theorem denV_x {T : Int → Int} {P P' : Nat → Int} {A A' : Nat → Nat} {r : Nat} {s : Cst} (h : ∀ t, t < r → P t = P' t ∧ A t = A' t) : denV T P A r s = denV T P' A' r s := fin_x r _ h
theorem wst_g {p n p' n' : Int32} {f g f' g' : Nat → Int32} (e1 : p'.toInt = p.toInt) (e2 : n' = n) (e3 : f' = f) (e4 : g' = g) : wst p' n' f' g' = wst p n f g := by
  subst e2 e3 e4
  unfold wst
  rw [e1]
theorem ft_b {G : Mem} {x y : Int} (h : y = 0 ∨ y = 21) : ftG G x y ↔ 0 ≤ x ∧ x ≤ 39 := ⟨fun z => z.elim (fun q => q.2) (fun q => absurd h q.1), fun z => Or.inl ⟨h, z⟩⟩
theorem ft_n {G : Mem} {x y : Int} (h : ¬ (y = 0 ∨ y = 21)) (z : ftG G x y) : ¬ (stA G x y 40 0).toInt = -1 ∧ dryG G (ix (stA G x y 40 0)) := z.elim (fun q => absurd q.1 h) (fun q => q.2)
theorem ft_s {G : Mem} {x y : Int} (h : ¬ (y = 0 ∨ y = 21)) (h1 : ¬ (stA G x y 40 0).toInt = -1) (h2 : dryG G (ix (stA G x y 40 0))) : ftG G x y := Or.inr ⟨h, h1, h2⟩
/-! the reference's going -/
def WkI (G : Mem) (s : Int) (F : Nat → Int × Int) (N : Nat) (x0 : Int) (y6 y7 y8 y9 y10 : Int32) : Prop := (ix y6 ≤ N ∧ 0 ≤ y6.toInt ∧ y6.toInt ≤ 60) ∧ GoI G s F x0 (ix y6) y7.toInt y8.toInt ∧ (¬ y9.toInt = 0 → y6 = y10) ∧ (y9.toInt = 0 → ¬ StpX G s F (ix y6) y7.toInt y8.toInt) ∧ (-6000 * (y6.toInt + 1) ≤ y7.toInt ∧ y7.toInt ≤ 6000 * (y6.toInt + 1)) ∧ 0 ≤ y8.toInt ∧ y8.toInt ≤ 21
theorem wi_0 {G : Mem} {s : Int} {F : Nat → Int × Int} {N : Nat} {v : Int32} (h : 0 ≤ v.toInt ∧ v.toInt ≤ 39) : WkI G s F N v.toInt (nI 0) v (nI 0) (nI 1) (nI 0) := by
  have e : ix (nI 0) = 0 := by decide
  have e2 : (nI 0).toInt = 0 := nI0
  refine ⟨⟨by rw [e]; exact Nat.zero_le _, by rw [e2]; omega⟩, by rw [e]; exact ⟨rfl, nI0⟩, fun _ => rfl, fun z => absurd z ne1, by rw [e2]; omega, by rw [e2]; omega⟩
theorem wi_e {G : Mem} {s : Int} {F : Nat → Int × Int} {n : Int32} {x0 : Int} {y6 y7 y8 y9 y10 : Int32} (h : WkI G s F (ix n) x0 y6 y7 y8 y9 y10) (hc : n.toInt ≤ y10.toInt ∨ y9.toInt = 0 ∨ 21 ≤ y8.toInt) : GoE G s F (ix n) x0 (ix y6) y7.toInt y8.toInt := by
  obtain ⟨h1, h2, h3, h4, -, -⟩ := h
  refine ⟨h1.1, h2, ?_⟩
  by_cases q : y9.toInt = 0
  · exact Or.inr (h4 q)
  · rcases hc with z | z | z
    · have e := h3 q
      rw [e] at h1 ⊢
      have a := t_ix y10
      have b := t_ix n
      exact Or.inl (by omega)
    · exact absurd z q
    · exact Or.inr (fun w => by
        have w1 := w.1
        omega)
theorem wi_b {G : Mem} {s : Int} {F : Nat → Int × Int} {N : Nat} {x0 : Int} {y6 y7 y8 y9 y10 : Int32} (h : WkI G s F N x0 y6 y7 y8 y9 y10) : (-366000 ≤ y7.toInt ∧ y7.toInt ≤ 366000) ∧ (0 ≤ y8.toInt ∧ y8.toInt ≤ 21) ∧ 0 ≤ y6.toInt ∧ y6.toInt ≤ 60 := by
  obtain ⟨h1, -, -, -, h5, h6⟩ := h
  omega
theorem wi_n {G : Mem} {s : Int} {F : Nat → Int × Int} {N : Nat} {x0 : Int} {y6 y7 y8 y9 y10 t y : Int32} {x2 y2 : Int} (h : WkI G s F N x0 y6 y7 y8 y9 y10) (hg : ¬ y9.toInt = 0) (e1 : x2 = y7.toInt + (F (ix y10)).1) (e2 : y2 = max 0 (min 21 (y8.toInt + (F (ix y10)).2))) (hs : ¬ StW G s (F (ix y10)) y7.toInt y8.toInt x2 y2) (ht : t.toInt = 0) : WkI G s F N x0 y6 y7 y8 t y := by
  obtain ⟨h1, h2, h3, h4, h5, h6⟩ := h
  have e := h3 hg
  refine ⟨h1, h2, fun z => absurd ht z, fun _ w => ?_, h5, h6⟩
  rw [e] at w
  obtain ⟨-, a, b, q⟩ := w
  rw [q.1, ← e1, q.2.1, ← e2] at q
  exact hs q
theorem wi_y {G : Mem} {s : Int} {F : Nat → Int × Int} {N : Nat} {x0 : Int} {y6 y7 y8 y9 y10 t x r : Int32} (h : WkI G s F N x0 y6 y7 y8 y9 y10) (hg : ¬ y9.toInt = 0) (h8 : y8.toInt < 21) (hs : StW G s (F (ix y10)) y7.toInt y8.toInt x.toInt r.toInt) (hN : ix y10 < N) (h60 : N ≤ 60) (hb : -6000 ≤ (F (ix y10)).1 ∧ (F (ix y10)).1 ≤ 6000) (ht : ¬ t.toInt = 0) : WkI G s F N x0 (y6 + nI 1) x r t (y10 + nI 1) := by
  obtain ⟨h1, h2, h3, h4, h5, h6⟩ := h
  have e := h3 hg
  have a := t_ixn y6 h1.2.1
  have u := i_up (x := y6) (by omega)
  have e10 : ix y6 = ix y10 := by rw [e]
  rw [← e10] at hs hN hb
  have q1 := hs.1
  have q2 := hs.2.1
  refine ⟨⟨by rw [u.1]; omega, by rw [u.2]; omega⟩, by rw [u.1]; exact go_s h2 h8 hs, fun _ => by rw [e], fun z => absurd z ht, by rw [u.2]; omega, by omega⟩
