/-! hold: the search, and one more way woven in -/
def ekC (G : Mem) (s : Int) (b : Nat → Int) (x j : Nat) : Prop := (x < 40 ∧ ((j = x + 40 ∧ b x = -1) ∨ ((j : Int) = 40 + b x ∧ 0 ≤ b x ∧ b x < 40))) ∨ ((40 ≤ x ∧ x < 80) ∧ j < 40 ∧ (j = x - 40 ∨ adjG G s (x - 40) j))
def bfM (M : Mem) : Nat → Int := fun i => (M 31 i).toInt
def cfM (M : Mem) : Nat → Int := fun j => (M 32 j).toInt
def mtC (M : Mem) (j : Nat) : Prop := ¬ (M 32 j).toInt = -1
def ErC (G : Mem) (s : Int) (b cf : Nat → Int) (ρ : Nat → Nat) (j : Nat) : Prop := (cf j = -2 ∧ j < 40 ∧ nearG G s j) ∨ ∃ x : Nat, x < 80 ∧ cf j = (x : Int) ∧ ¬ cf x = -1 ∧ ρ x < ρ j ∧ ekC G s b x j
def BbC (M : Mem) : Prop := ∀ i, i < 40 → -1 ≤ (M 31 i).toInt ∧ (M 31 i).toInt ≤ 40
def ScR (G : Mem) (s : Int) (M : Mem) (ρ : Nat → Nat) : Prop := ∀ j, j < 80 → mtC M j → ρ j < ix (M 30 3) ∧ ix (M 33 (ρ j)) = j ∧ ErC G s (bfM M) (cfM M) ρ j
def ScI (G : Mem) (s : Int) (M : Mem) : Prop := BbC M ∧ (0 ≤ (M 30 3).toInt ∧ ix (M 30 3) ≤ cN (fun j => (M 32 j).toInt) 80) ∧ (∀ t, t < ix (M 30 3) → (0 ≤ (M 33 t).toInt ∧ (M 33 t).toInt < 80) ∧ mtC M (ix (M 33 t))) ∧ ∃ ρ : Nat → Nat, ScR G s M ρ
def GrC (M M1 : Mem) : Prop := (∀ j, j < 80 → mtC M j → mtC M1 j) ∧ (M 30 3).toInt ≤ (M1 30 3).toInt ∧ (∀ t, t < ix (M 30 3) → M1 33 t = M 33 t) ∧ ∀ i, M1 31 i = M 31 i
theorem gr_r {M : Mem} : GrC M M := ⟨fun _ _ h => h, Int.le_refl _, fun _ _ => rfl, fun _ => rfl⟩
theorem ix_le {a b : Int32} (h : a.toInt ≤ b.toInt) : ix a ≤ ix b := by
  have x := t_ix a
  have y := t_ix b
  omega
theorem gr_t {M M1 M2 : Mem} (h : GrC M M1) (h' : GrC M1 M2) : GrC M M2 := ⟨fun j hj q => h'.1 j hj (h.1 j hj q), Int.le_trans h.2.1 h'.2.1, fun t ht => (h'.2.2.1 t (Nat.lt_of_lt_of_le ht (ix_le h.2.1))).trans (h.2.2.1 t ht), fun i => (h'.2.2.2 i).trans (h.2.2.2 i)⟩
theorem gr_b {M M1 : Mem} (h : GrC M M1) : bfM M1 = bfM M := funext (fun i => congrArg Int32.toInt (h.2.2.2 i))
def ClC (G : Mem) (s : Int) (M : Mem) (x : Nat) : Prop := ClQ G s (bfM M) (mtC M) x
theorem cl_g {G : Mem} {s : Int} {M M1 : Mem} {x : Nat} (hx : x < 80) (h : ClC G s M x) (g : GrC M M1) : ClC G s M1 x := by
  unfold ClC at h ⊢
  rw [gr_b g]
  exact ⟨fun c => ⟨fun e => g.1 _ (by omega) ((h.1 c).1 e), fun j hj e => g.1 _ (by omega) ((h.1 c).2 j hj e)⟩, fun c => ⟨(h.2 c).1, fun j hj n a => g.1 _ (by omega) ((h.2 c).2.1 j hj n a), g.1 _ (by omega) (h.2 c).2.2⟩⟩
theorem sc_le {G : Mem} {s : Int} {M : Mem} (h : ScI G s M) : (M 30 3).toInt ≤ 80 := by
  have a := h.2.1
  have b := cN_le (fun j => (M 32 j).toInt) 80
  have c := t_ixn (M 30 3) a.1
  omega
/-- what reach does -/
def RcP (M M1 : Mem) (v f : Int32) : Prop := (((0 ≤ v.toInt ∧ v.toInt < 80) ∧ (0 ≤ (M 30 3).toInt ∧ (M 30 3).toInt < 80) ∧ (M 32 (ix v)).toInt = -1) ∧ M1 = mset (mset (mset M 32 (ix v) f) 33 (ix (M 30 3)) v) 30 3 (M 30 3 + nI 1)) ∨ (¬ ((0 ≤ v.toInt ∧ v.toInt < 80) ∧ (0 ≤ (M 30 3).toInt ∧ (M 30 3).toInt < 80) ∧ (M 32 (ix v)).toInt = -1) ∧ M1 = M)
/-- whence a side may be met -/
def ErO (G : Mem) (s : Int) (M : Mem) (f : Int) (j : Nat) : Prop := (f = -2 ∧ j < 40 ∧ nearG G s j) ∨ ∃ x : Nat, x < 80 ∧ f = (x : Int) ∧ mtC M x ∧ ekC G s (bfM M) x j
theorem rc_s {G : Mem} {s : Int} {M M1 : Mem} {v f : Int32} (h : ScI G s M) (r : RcP M M1 v f) (hv : 0 ≤ v.toInt ∧ v.toInt < 80) (ho : ErO G s M f.toInt (ix v)) : ScI G s M1 ∧ GrC M M1 ∧ mtC M1 (ix v) := by
  have fv := t_ixn v hv.1
  rcases r with ⟨⟨-, ht, hm⟩, em⟩ | ⟨hn, em⟩
  · obtain ⟨h0, h1, h2, ρ, h3⟩ := h
    have ft := t_ixn (M 30 3) h1.1
    have ut := i_up (x := M 30 3) (by omega)
    have fne : ¬ f.toInt = -1 := fun z => by
      rcases ho with q | ⟨x, -, q, -⟩ <;> omega
    have a1 : ∀ i, M1 31 i = M 31 i := fun i => by rw [em, mset_ne (by first | exact nz1 (by decide) | exact nz2 (by decide) | exact nz1 (nzA hc0 (by decide)) | exact nz1 (nzE (by decide)) | exact nz1 (nzB hc0 (by decide)) | exact nz1 (nzC hc0 (by decide)) | exact nz1 (nzD hc0 (by decide)) | exact nz1 (nzF (by decide)) | exact nz1 (nzG (by decide)) | omega), mset_ne (by first | exact nz1 (by decide) | exact nz2 (by decide) | exact nz1 (nzA hc0 (by decide)) | exact nz1 (nzE (by decide)) | exact nz1 (nzB hc0 (by decide)) | exact nz1 (nzC hc0 (by decide)) | exact nz1 (nzD hc0 (by decide)) | exact nz1 (nzF (by decide)) | exact nz1 (nzG (by decide)) | omega), mset_ne (by first | exact nz1 (by decide) | exact nz2 (by decide) | exact nz1 (nzA hc0 (by decide)) | exact nz1 (nzE (by decide)) | exact nz1 (nzB hc0 (by decide)) | exact nz1 (nzC hc0 (by decide)) | exact nz1 (nzD hc0 (by decide)) | exact nz1 (nzF (by decide)) | exact nz1 (nzG (by decide)) | omega)]
    have a2 : ∀ j, ¬ j = ix v → M1 32 j = M 32 j := fun j hj => by rw [em, mset_ne (by first | exact nz1 (by decide) | exact nz2 (by decide) | exact nz1 (nzA hc0 (by decide)) | exact nz1 (nzE (by decide)) | exact nz1 (nzB hc0 (by decide)) | exact nz1 (nzC hc0 (by decide)) | exact nz1 (nzD hc0 (by decide)) | exact nz1 (nzF (by decide)) | exact nz1 (nzG (by decide)) | omega), mset_ne (by first | exact nz1 (by decide) | exact nz2 (by decide) | exact nz1 (nzA hc0 (by decide)) | exact nz1 (nzE (by decide)) | exact nz1 (nzB hc0 (by decide)) | exact nz1 (nzC hc0 (by decide)) | exact nz1 (nzD hc0 (by decide)) | exact nz1 (nzF (by decide)) | exact nz1 (nzG (by decide)) | omega), mset_ne (by first | exact nz1 (by decide) | exact nz2 (by decide) | exact nz1 (nzA hc0 (by decide)) | exact nz1 (nzE (by decide)) | exact nz1 (nzB hc0 (by decide)) | exact nz1 (nzC hc0 (by decide)) | exact nz1 (nzD hc0 (by decide)) | exact nz1 (nzF (by decide)) | exact nz1 (nzG (by decide)) | omega)]
    have a3 : M1 32 (ix v) = f := by rw [em, mset_ne (by first | exact nz1 (by decide) | exact nz2 (by decide) | exact nz1 (nzA hc0 (by decide)) | exact nz1 (nzE (by decide)) | exact nz1 (nzB hc0 (by decide)) | exact nz1 (nzC hc0 (by decide)) | exact nz1 (nzD hc0 (by decide)) | exact nz1 (nzF (by decide)) | exact nz1 (nzG (by decide)) | omega), mset_ne (by first | exact nz1 (by decide) | exact nz2 (by decide) | exact nz1 (nzA hc0 (by decide)) | exact nz1 (nzE (by decide)) | exact nz1 (nzB hc0 (by decide)) | exact nz1 (nzC hc0 (by decide)) | exact nz1 (nzD hc0 (by decide)) | exact nz1 (nzF (by decide)) | exact nz1 (nzG (by decide)) | omega), mset_eq]
    have a4 : ∀ t, ¬ t = ix (M 30 3) → M1 33 t = M 33 t := fun t q => by rw [em, mset_ne (by first | exact nz1 (by decide) | exact nz2 (by decide) | exact nz1 (nzA hc0 (by decide)) | exact nz1 (nzE (by decide)) | exact nz1 (nzB hc0 (by decide)) | exact nz1 (nzC hc0 (by decide)) | exact nz1 (nzD hc0 (by decide)) | exact nz1 (nzF (by decide)) | exact nz1 (nzG (by decide)) | omega), mset_ne (by first | exact nz1 (by decide) | exact nz2 (by decide) | exact nz1 (nzA hc0 (by decide)) | exact nz1 (nzE (by decide)) | exact nz1 (nzB hc0 (by decide)) | exact nz1 (nzC hc0 (by decide)) | exact nz1 (nzD hc0 (by decide)) | exact nz1 (nzF (by decide)) | exact nz1 (nzG (by decide)) | omega), mset_ne (by first | exact nz1 (by decide) | exact nz2 (by decide) | exact nz1 (nzA hc0 (by decide)) | exact nz1 (nzE (by decide)) | exact nz1 (nzB hc0 (by decide)) | exact nz1 (nzC hc0 (by decide)) | exact nz1 (nzD hc0 (by decide)) | exact nz1 (nzF (by decide)) | exact nz1 (nzG (by decide)) | omega)]
    have a5 : M1 33 (ix (M 30 3)) = v := by rw [em, mset_ne (by first | exact nz1 (by decide) | exact nz2 (by decide) | exact nz1 (nzA hc0 (by decide)) | exact nz1 (nzE (by decide)) | exact nz1 (nzB hc0 (by decide)) | exact nz1 (nzC hc0 (by decide)) | exact nz1 (nzD hc0 (by decide)) | exact nz1 (nzF (by decide)) | exact nz1 (nzG (by decide)) | omega), mset_eq]
    have a6 : M1 30 3 = M 30 3 + nI 1 := by rw [em, mset_eq]
    have mv : mtC M1 (ix v) := by
      unfold mtC
      rw [a3]
      exact fne
    have gm : ∀ j, mtC M j → mtC M1 j := fun j hj => by
      by_cases c : j = ix v
      · rw [c]
        exact mv
      · unfold mtC
        rw [a2 j c]
        exact hj
    have nv : ∀ j, mtC M j → ¬ j = ix v := fun j hj c => hj (by rw [c]; exact hm)
    have eb : bfM M1 = bfM M := funext (fun i => congrArg Int32.toInt (a1 i))
    refine ⟨⟨fun i hi => by rw [a1 i]; exact h0 i hi, ?_, fun t ht2 => ?_, pu ρ (ix v) (ix (M 30 3)), fun j hj hj2 => ?_⟩, ⟨fun j _ hj2 => gm j hj2, by rw [a6, ut.2]; omega, fun t ht2 => a4 t (by omega), a1⟩, mv⟩
    · rw [a6, ut.1, ut.2]
      have e : (fun j => (M1 32 j).toInt) = pu (fun j => (M 32 j).toInt) (ix v) f.toInt := funext (fun j => by
        show (M1 32 j).toInt = pu (fun j => (M 32 j).toInt) (ix v) f.toInt j
        by_cases c : j = ix v
        · rw [c, pu_s, a3]
        · rw [pu_n c, a2 j c])
      rw [e, cN_in (s := fun j => (M 32 j).toInt) hm fne 80 (by omega)]
      omega
    · rw [a6, ut.1] at ht2
      by_cases c : t = ix (M 30 3)
      · rw [c, a5]
        exact ⟨hv, mv⟩
      · rw [a4 t c]
        have z := h2 t (by omega)
        exact ⟨z.1, gm _ z.2⟩
    · rw [a6, ut.1, eb]
      by_cases c : j = ix v
      · rw [c, pu_s, a5]
        refine ⟨by omega, rfl, ?_⟩
        rcases ho with q | ⟨x, q1, q2, q3, q4⟩
        · exact Or.inl ⟨by show (M1 32 (ix v)).toInt = -2; rw [a3]; exact q.1, q.2⟩
        · refine Or.inr ⟨x, q1, by show (M1 32 (ix v)).toInt = _; rw [a3]; exact q2, gm x q3, ?_, q4⟩
          rw [pu_s, pu_n (nv x q3)]
          exact (h3 x q1 q3).1
      · unfold mtC at hj2
        rw [a2 j c] at hj2
        obtain ⟨b1, b2, b3⟩ := h3 j hj hj2
        rw [pu_n c, a4 _ (by omega)]
        refine ⟨by omega, b2, ?_⟩
        have ec : cfM M1 j = cfM M j := congrArg Int32.toInt (a2 j c)
        rcases b3 with q | ⟨x, q1, q2, q3, q4, q5⟩
        · exact Or.inl ⟨ec.trans q.1, q.2⟩
        · refine Or.inr ⟨x, q1, ec.trans q2, gm x q3, ?_, q5⟩
          rw [pu_n c, pu_n (nv x q3)]
          exact q4
  · have me : mtC M (ix v) := fun z => hn ⟨hv, ⟨h.2.1.1, by
      have a := h.2.1
      have c := t_ixn (M 30 3) a.1
      have d := cN_lt (s := fun j => (M 32 j).toInt) (j := ix v) z 80 (by omega)
      omega⟩, z⟩
    rw [em]
    exact ⟨h, gr_r, me⟩
/-! the way back -/
def PthP (G : Mem) (s : Int) (b cf : Nat → Int) (N : Nat) (p : Nat → Nat) : Prop := (∀ m, m ≤ N → p m < 80) ∧ (∀ m, m < N → cf (p m) = (p (m + 1) : Int) ∧ ekC G s b (p (m + 1)) (p m)) ∧ (cf (p N) = -2 ∧ p N < 40 ∧ nearG G s (p N)) ∧ N ≤ 79 ∧ ∀ m l, m ≤ N → l ≤ N → p m = p l → m = l
theorem pt_ex {G : Mem} {s : Int} {M : Mem} {ρ : Nat → Nat} (h : ScR G s M ρ) : ∀ n j, ρ j < n → j < 80 → mtC M j → ∃ (N : Nat) (p : Nat → Nat), p 0 = j ∧ N ≤ ρ j ∧ (∀ m, m ≤ N → p m < 80 ∧ ρ (p m) + m ≤ ρ j) ∧ (∀ m, m < N → cfM M (p m) = (p (m + 1) : Int) ∧ ρ (p (m + 1)) < ρ (p m) ∧ ekC G s (bfM M) (p (m + 1)) (p m)) ∧ (cfM M (p N) = -2 ∧ p N < 40 ∧ nearG G s (p N))
  | 0, j, hr, _, _ => absurd hr (Nat.not_lt_zero _)
  | n + 1, j, hr, hj, hm => by
    rcases (h j hj hm).2.2 with q | ⟨x, q1, q2, q3, q4, q5⟩
    · exact ⟨0, fun _ => j, rfl, Nat.zero_le _, fun m hm2 => ⟨hj, by show ρ j + m ≤ ρ j; omega⟩, fun m hm2 => absurd hm2 (Nat.not_lt_zero _), q⟩
    · obtain ⟨N, p, a1, a2, a3, a4, a5⟩ := pt_ex h n x (by omega) q1 q3
      refine ⟨N + 1, fun m => if m = 0 then j else p (m - 1), if_pos rfl, by omega, fun m hm2 => ?_, fun m hm2 => ?_, ?_⟩
      · by_cases c : m = 0
        · show (if m = 0 then j else p (m - 1)) < 80 ∧ ρ (if m = 0 then j else p (m - 1)) + m ≤ ρ j
          rw [if_pos c]
          exact ⟨hj, by omega⟩
        · show (if m = 0 then j else p (m - 1)) < 80 ∧ ρ (if m = 0 then j else p (m - 1)) + m ≤ ρ j
          rw [if_neg c]
          have z := a3 (m - 1) (by omega)
          exact ⟨z.1, by omega⟩
      · show cfM M (if m = 0 then j else p (m - 1)) = ((if m + 1 = 0 then j else p (m + 1 - 1) : Nat) : Int) ∧ ρ (if m + 1 = 0 then j else p (m + 1 - 1)) < ρ (if m = 0 then j else p (m - 1)) ∧ ekC G s (bfM M) (if m + 1 = 0 then j else p (m + 1 - 1)) (if m = 0 then j else p (m - 1))
        rw [if_neg (show ¬ m + 1 = 0 by omega), show m + 1 - 1 = m from by omega]
        by_cases c : m = 0
        · rw [if_pos c, c, a1]
          exact ⟨q2, q4, q5⟩
        · rw [if_neg c]
          have z := a4 (m - 1) (by omega)
          rw [show m - 1 + 1 = m from by omega] at z
          exact z
      · show cfM M (if N + 1 = 0 then j else p (N + 1 - 1)) = -2 ∧ (if N + 1 = 0 then j else p (N + 1 - 1)) < 40 ∧ nearG G s (if N + 1 = 0 then j else p (N + 1 - 1))
        rw [if_neg (show ¬ N + 1 = 0 by omega), show N + 1 - 1 = N from by omega]
        exact a5
theorem pt_of {G : Mem} {s : Int} {M : Mem} {j : Nat} (h : ScI G s M) (hj : j < 80) (hm : mtC M j) : ∃ (N : Nat) (p : Nat → Nat), PthP G s (bfM M) (cfM M) N p ∧ p 0 = j := by
  have l8 := sc_le h
  obtain ⟨-, h1, -, ρ, h3⟩ := h
  obtain ⟨N, p, a1, a2, a3, a4, a5⟩ := pt_ex h3 (ρ j + 1) j (by omega) hj hm
  have rj := (h3 j hj hm).1
  have ft := t_ixn (M 30 3) h1.1
  have dn : ∀ d m, m + d + 1 ≤ N → ρ (p (m + d + 1)) < ρ (p m) := fun d => by
    induction d with
    | zero => exact fun m hm2 => (a4 m (by omega)).2.1
    | succ d ih =>
      intro m hm2
      have x := ih m (by omega)
      have y := (a4 (m + d + 1) (by omega)).2.1
      rw [show m + (d + 1) + 1 = m + d + 1 + 1 from by omega]
      omega
  refine ⟨N, p, ⟨fun m hm2 => (a3 m hm2).1, fun m hm2 => ⟨(a4 m hm2).1, (a4 m hm2).2.2⟩, a5, by omega, fun m l hm2 hl2 e => ?_⟩, a1⟩
  by_cases c : m < l
  · have z := dn (l - m - 1) m (by omega)
    rw [show m + (l - m - 1) + 1 = l from by omega, e] at z
    omega
  · by_cases d : l < m
    · have z := dn (m - l - 1) l (by omega)
      rw [show l + (m - l - 1) + 1 = m from by omega, e] at z
      omega
    · omega
theorem pt_i {G : Mem} {s : Int} {b cf : Nat → Int} {N m : Nat} {p : Nat → Nat} (h : PthP G s b cf N p) (hm : m < N) (hp : p m < 40) : (40 ≤ p (m + 1) ∧ p (m + 1) < 80) ∧ (p (m + 1) = p m + 40 ∨ (¬ p (m + 1) = p m + 40 ∧ adjG G s (p (m + 1) - 40) (p m))) := by
  have z := (h.2.1 m hm).2
  rcases z with ⟨z1, z2 | z2⟩ | ⟨z1, z2, z3⟩
  · exfalso
    omega
  · exfalso
    omega
  · refine ⟨z1, ?_⟩
    by_cases c : p (m + 1) = p m + 40
    · exact Or.inl c
    · exact Or.inr ⟨c, z3.resolve_left (by omega)⟩
theorem pt_o {G : Mem} {s : Int} {b cf : Nat → Int} {N m : Nat} {p : Nat → Nat} (h : PthP G s b cf N p) (hm : m ≤ N) (hp : 40 ≤ p m) : m < N ∧ p (m + 1) < 40 ∧ ((p m = p (m + 1) + 40 ∧ b (p (m + 1)) = -1) ∨ ((p m : Int) = 40 + b (p (m + 1)) ∧ 0 ≤ b (p (m + 1)) ∧ b (p (m + 1)) < 40)) := by
  have l : m < N := by
    by_cases c : m = N
    · rw [c] at hp
      have := h.2.2.1.2.1
      omega
    · omega
  have z := (h.2.1 m l).2
  rcases z with ⟨z1, z2⟩ | ⟨z1, z2, z3⟩
  · exact ⟨l, z1, z2⟩
  · exfalso
    omega
theorem pt_b {G : Mem} {s : Int} {b cf : Nat → Int} {N m : Nat} {p : Nat → Nat} (h : PthP G s b cf N p) (h0 : 40 ≤ p 0) (hm : m ≤ N) (hp : p m < 40) : ∃ m0, m = m0 + 1 ∧ ((p m0 = p m + 40 ∧ b (p m) = -1) ∨ ((p m0 : Int) = 40 + b (p m) ∧ 0 ≤ b (p m) ∧ b (p m) < 40)) := by
  have c : ¬ m = 0 := fun c => by
    rw [c] at hp
    omega
  refine ⟨m - 1, by omega, ?_⟩
  have e : m - 1 + 1 = m := by omega
  have q : 40 ≤ p (m - 1) := by
    by_cases q : 40 ≤ p (m - 1)
    · exact q
    · have z := (pt_i h (m := m - 1) (by omega) (by omega)).1.1
      rw [e] at z
      omega
  have z := (pt_o h (m := m - 1) (by omega) q).2.2
  rw [e] at z
  exact z
/-- the stones behind the new way -/
def NwP (b b' : Nat → Int) (N : Nat) (p : Nat → Nat) : Prop := (∀ m, m < N → p m < 40 → (p (m + 1) = p m + 40 → b' (p m) = -1) ∧ (¬ p (m + 1) = p m + 40 → b' (p m) = (p (m + 1) : Int) - 40)) ∧ b' (p N) = 40 ∧ ∀ j, j < 40 → (∀ m, m ≤ N → ¬ p m = j) → b' j = b j
theorem nw_u {G : Mem} {s : Int} {b b' cf : Nat → Int} {N i : Nat} {p : Nat → Nat} (h : PthP G s b cf N p) (w : NwP b b' N p) (hi : i < 40) (h1 : ∀ m, m < N → p m = i → ¬ p (m + 1) = i + 40) (h2 : (∀ m, m ≤ N → ¬ p m = i) → ¬ b i = -1) : ¬ b' i = -1 := by
  rcases Classical.em (∃ m, m ≤ N ∧ p m = i) with ⟨m, q1, q2⟩ | q
  · by_cases c : m = N
    · rw [← q2, c, w.2.1]
      omega
    · have z := (pt_i h (m := m) (by omega) (by omega)).1
      have y := (w.1 m (by omega) (by omega)).2 (by rw [q2]; exact h1 m (by omega) q2)
      rw [q2] at y
      rw [y]
      omega
  · have q' : ∀ m, m ≤ N → ¬ p m = i := fun m a e => q ⟨m, a, e⟩
    rw [w.2.2 i hi q']
    exact h2 q'
theorem nw_v {G : Mem} {s : Int} {b b' cf : Nat → Int} {N i j : Nat} {p : Nat → Nat} (h : PthP G s b cf N p) (w : NwP b b' N p) (hj : j < 40) (hi : i < 40) (e : b' j = (i : Int)) : (∃ m, m < N ∧ p m = j ∧ p (m + 1) = i + 40 ∧ ¬ i = j) ∨ ((∀ m, m ≤ N → ¬ p m = j) ∧ b j = (i : Int)) := by
  rcases Classical.em (∃ m, m ≤ N ∧ p m = j) with ⟨m, q1, q2⟩ | q
  · by_cases c : m = N
    · rw [← q2, c, w.2.1] at e
      exfalso
      omega
    · have z := (pt_i h (m := m) (by omega) (by omega)).1
      by_cases d : p (m + 1) = p m + 40
      · have y := (w.1 m (by omega) (by omega)).1 d
        rw [q2] at y
        exfalso
        omega
      · have y := (w.1 m (by omega) (by omega)).2 d
        rw [q2] at y
        exact Or.inl ⟨m, by omega, q2, by omega, by omega⟩
  · have q' : ∀ m, m ≤ N → ¬ p m = j := fun m a e => q ⟨m, a, e⟩
    rw [w.2.2 j hj q'] at e
    exact Or.inr ⟨q', e⟩
theorem pk_u {G : Mem} {s : Int} {b : Nat → Int} {i l : Nat} (h : Pck G s b) (hl : l < 40) (hi : i < 40) (e : b l = (i : Int)) : ¬ b i = -1 ∧ adjG G s i l ∧ ¬ i = l := by
  rcases h.1 l hl with z | z | ⟨m, z1, z2, z3, z4, z5⟩
  · omega
  · have := z.1
    omega
  · rw [show i = m from by omega]
    exact ⟨z5, z4, z3⟩
theorem nw_a {G : Mem} {s : Int} {b b' cf : Nat → Int} {N i j : Nat} {p : Nat → Nat} (hb : Pck G s b) (h : PthP G s b cf N p) (w : NwP b b' N p) (hj : j < 40) (hi : i < 40) (e : b' j = (i : Int)) : adjG G s i j ∧ ¬ i = j ∧ ¬ b' i = -1 := by
  rcases nw_v h w hj hi e with ⟨m, q1, q2, q3, q4⟩ | ⟨q1, q2⟩
  · have z := (pt_i h q1 (by omega)).2
    rw [q2, q3, show i + 40 - 40 = i from by omega] at z
    refine ⟨(z.resolve_left (by omega)).2, q4, ?_⟩
    obtain ⟨o1, o2, o3⟩ := pt_o h (m := m + 1) (by omega) (by omega)
    refine nw_u h w hi (fun l hl e1 e2 => ?_) (fun q => ?_)
    · have := h.2.2.2.2 (l + 1) (m + 1) (by omega) (by omega) (by omega)
      have : l = m := by omega
      rw [this] at e1
      omega
    · rcases o3 with o3 | o3
      · exact absurd (show p (m + 1 + 1) = i by omega) (q (m + 1 + 1) (by omega))
      · exact (pk_u hb o2 hi (by omega)).1
  · have z := pk_u hb hj hi q2
    refine ⟨z.2.1, z.2.2, nw_u h w hi (fun l hl e1 e2 => ?_) (fun _ => z.1)⟩
    obtain ⟨o1, o2, o3⟩ := pt_o h (m := l + 1) (by omega) (by omega)
    rcases o3 with o3 | o3
    · have := h.2.2.2.2 l (l + 1 + 1) (by omega) (by omega) (by omega)
      omega
    · have y := hb.2.1 (p (l + 1 + 1)) j o2 hj (by omega) (by omega) (by omega)
      exact q1 (l + 1 + 1) (by omega) y
theorem nw_i {G : Mem} {s : Int} {b b' cf : Nat → Int} {N i j l : Nat} {p : Nat → Nat} (hb : Pck G s b) (h : PthP G s b cf N p) (w : NwP b b' N p) (hj : j < 40) (hl : l < 40) (hi : i < 40) (e : b' j = (i : Int)) (e' : b' l = (i : Int)) : j = l := by
  have mix : ∀ j l : Nat, j < 40 → l < 40 → (∃ m, m < N ∧ p m = j ∧ p (m + 1) = i + 40 ∧ ¬ i = j) → ¬ ((∀ m, m ≤ N → ¬ p m = l) ∧ b l = (i : Int)) := fun j l hj hl a c => by
    obtain ⟨m, q1, q2, q3, q4⟩ := a
    obtain ⟨r1, r2⟩ := c
    obtain ⟨o1, o2, o3⟩ := pt_o h (m := m + 1) (by omega) (by omega)
    rcases o3 with o3 | o3
    · have y := (pk_u hb hl hi r2).1
      rw [show p (m + 1 + 1) = i from by omega] at o3
      exact y o3.2
    · have y := hb.2.1 (p (m + 1 + 1)) l o2 hl (by omega) (by omega) (by omega)
      exact r1 (m + 1 + 1) (by omega) y
  rcases nw_v h w hj hi e with a | a
  · rcases nw_v h w hl hi e' with c | c
    · obtain ⟨m, q1, q2, q3, q4⟩ := a
      obtain ⟨m', r1, r2, r3, r4⟩ := c
      have := h.2.2.2.2 (m + 1) (m' + 1) (by omega) (by omega) (by omega)
      have : m = m' := by omega
      rw [← q2, ← r2, this]
    · exact absurd c (mix j l hj hl a)
  · rcases nw_v h w hl hi e' with c | c
    · exact absurd a (mix l j hl hj c)
    · exact hb.2.1 j l hj hl (by omega) (by omega) (by omega)
theorem nw_f {G : Mem} {s : Int} {b b' cf : Nat → Int} {N i i0 : Nat} {p : Nat → Nat} (hb : Pck G s b) (h : PthP G s b cf N p) (w : NwP b b' N p) (h0 : p 0 = i0 + 40) (hf : farG G s i0) (hi : i < 40) (hu : ¬ b' i = -1) (hs : ∀ j, j < 40 → ¬ b' j = (i : Int)) : farG G s i := by
  rcases Classical.em (∃ m, m ≤ N ∧ p m = i + 40) with ⟨m, q1, q2⟩ | q
  · by_cases c : m = 0
    · rw [c] at q2
      rw [show i = i0 from by omega]
      exact hf
    · exfalso
      have e : m - 1 + 1 = m := by omega
      have lo : p (m - 1) < 40 := by
        by_cases d : p (m - 1) < 40
        · exact d
        · have z := (pt_o h (m := m - 1) (by omega) (by omega)).2.1
          rw [e] at z
          omega
      have z := w.1 (m - 1) (by omega) lo
      rw [e, q2] at z
      by_cases d : i + 40 = p (m - 1) + 40
      · have y := z.1 d
        rw [show p (m - 1) = i from by omega] at y
        exact hu y
      · have y := z.2 d
        exact hs (p (m - 1)) lo (by omega)
  · have q' : ∀ m, m ≤ N → ¬ p m = i + 40 := fun m a e => q ⟨m, a, e⟩
    have hbi : ¬ b i = -1 := fun c => by
      rcases Classical.em (∃ m, m ≤ N ∧ p m = i) with ⟨m, r1, r2⟩ | r
      · obtain ⟨m0, e, z⟩ := pt_b h (by omega) r1 (by omega)
        rw [r2] at z
        rcases z with z | z
        · exact q' m0 (by omega) z.1
        · omega
      · exact hu ((w.2.2 i hi (fun m a e => r ⟨m, a, e⟩)).trans c)
    refine hb.2.2 i hi hbi (fun j hj c => ?_)
    rcases Classical.em (∃ m, m ≤ N ∧ p m = j) with ⟨m, r1, r2⟩ | r
    · obtain ⟨m0, e, z⟩ := pt_b h (by omega) r1 (by omega)
      rw [r2] at z
      rcases z with z | z
      · omega
      · exact q' m0 (by omega) (by omega)
    · exact hs j hj ((w.2.2 j hj (fun m a e => r ⟨m, a, e⟩)).trans c)
theorem nw_c {G : Mem} {s : Int} {b b' cf : Nat → Int} {N : Nat} {p : Nat → Nat} (h : PthP G s b cf N p) (w : NwP b b' N p) (h0 : 40 ≤ p 0) : nrC b' = nrC b + 1 := by
  have pn := h.2.2.1.2.1
  have e : nrC b' = sI (fun i => (if b i = 40 then 1 else 0) + (if i = p N then 1 else 0)) 40 := sI_cg (fun i hi => by
    show (if b' i = 40 then (1 : Int) else 0) = (if b i = 40 then 1 else 0) + (if i = p N then 1 else 0)
    rcases Classical.em (∃ m, m ≤ N ∧ p m = i) with ⟨m, r1, r2⟩ | r
    · obtain ⟨m0, e, z⟩ := pt_b h h0 r1 (by omega)
      rw [r2] at z
      have nb : ¬ b i = 40 := by omega
      rw [if_neg nb]
      by_cases c : m = N
      · rw [c] at r2
        rw [if_pos r2.symm, ← r2, w.2.1, if_pos rfl] <;> rfl
      · have ni : ¬ i = p N := fun y => c (h.2.2.2.2 m N r1 (Nat.le_refl _) (r2.trans y))
        have z2 := w.1 m (by omega) (by omega)
        have z3 := (pt_i h (m := m) (by omega) (by omega)).1
        rw [r2] at z2
        have nb' : ¬ b' i = 40 := by
          by_cases d : p (m + 1) = i + 40
          · rw [z2.1 d]
            omega
          · rw [z2.2 d]
            omega
        rw [if_neg ni, if_neg nb'] <;> rfl
    · have r' : ∀ m, m ≤ N → ¬ p m = i := fun m a e => r ⟨m, a, e⟩
      rw [w.2.2 i hi r', if_neg (show ¬ i = p N from fun y => r' N (Nat.le_refl _) y.symm)]
      exact (Int.add_zero _).symm)
  rw [e, sI_add, sI_at (f := fun i => if i = p N then (1 : Int) else 0) (k := p N) (fun v hv => if_neg hv) 40 pn, if_pos rfl] <;> rfl
theorem pk_s {G : Mem} {s : Int} {b b' cf : Nat → Int} {N i0 : Nat} {p : Nat → Nat} (hb : Pck G s b) (h : PthP G s b cf N p) (w : NwP b b' N p) (h0 : p 0 = i0 + 40) (hf : farG G s i0) : Pck G s b' ∧ nrC b' = nrC b + 1 := by
  have val : ∀ j, j < 40 → b' j = -1 ∨ (b' j = 40 ∧ nearG G s j) ∨ ∃ i : Nat, i < 40 ∧ b' j = (i : Int) := fun j hj => by
    rcases Classical.em (∃ m, m ≤ N ∧ p m = j) with ⟨m, r1, r2⟩ | r
    · by_cases c : m = N
      · rw [c] at r2
        rw [← r2]
        exact Or.inr (Or.inl ⟨w.2.1, h.2.2.1.2.2⟩)
      · have z2 := w.1 m (by omega) (by omega)
        have z3 := (pt_i h (m := m) (by omega) (by omega)).1
        rw [r2] at z2
        by_cases d : p (m + 1) = j + 40
        · exact Or.inl (z2.1 d)
        · exact Or.inr (Or.inr ⟨p (m + 1) - 40, by omega, by rw [z2.2 d]; omega⟩)
    · rw [w.2.2 j hj (fun m a e => r ⟨m, a, e⟩)]
      rcases hb.1 j hj with z | z | ⟨i, z1, z2, z3⟩
      · exact Or.inl z
      · exact Or.inr (Or.inl z)
      · exact Or.inr (Or.inr ⟨i, z1, z2⟩)
  refine ⟨⟨fun j hj => ?_, fun j l hj hl q0 q4 e => ?_, fun i hi hu hs => nw_f hb h w h0 hf hi hu hs⟩, nw_c h w (by omega)⟩
  · rcases val j hj with z | z | ⟨i, z1, z2⟩
    · exact Or.inl z
    · exact Or.inr (Or.inl z)
    · have y := nw_a hb h w hj z1 z2
      exact Or.inr (Or.inr ⟨i, z1, z2, y.2.1, y.1, y.2.2⟩)
  · exact nw_i (i := (b' j).toNat) hb h w hj hl (by omega) (by omega) (by omega)
/-! weaving, side by side -/
def WvI (N : Nat) (p : Nat → Nat) (b b8 : Nat → Int) (si to : Int) (k : Nat) : Prop := k ≤ N + 1 ∧ (k ≤ N → si = (p k : Int)) ∧ (k = N + 1 → si = -2) ∧ (k = 0 → to = 41) ∧ (1 ≤ k → to = (p (k - 1) : Int)) ∧ (∀ m, m + 1 < k → m < N → p m < 40 → (p (m + 1) = p m + 40 → b8 (p m) = -1) ∧ (¬ p (m + 1) = p m + 40 → b8 (p m) = (p (m + 1) : Int) - 40)) ∧ (k = N + 1 → b8 (p N) = 40) ∧ ∀ j, j < 40 → (∀ m, m ≤ N → p m = j → ¬ (m + 1 < k ∨ k = N + 1)) → b8 j = b j
theorem wv_0 {N : Nat} {p : Nat → Nat} {b : Nat → Int} {v : Int} (hv : v = (p 0 : Int)) : WvI N p b b v 41 0 := ⟨Nat.zero_le _, fun _ => hv, fun z => absurd z (by omega), fun _ => rfl, fun z => absurd z (by omega), fun m hm => absurd hm (Nat.not_lt_zero _), fun z => absurd z (by omega), fun _ _ _ => rfl⟩
theorem wv_e {N k : Nat} {p : Nat → Nat} {b b8 : Nat → Int} {si to : Int} (h : WvI N p b b8 si to k) (hs : ¬ k ≤ N) : NwP b b8 N p := by
  obtain ⟨h1, h2, h3, h4, h5, h6, h7, h8⟩ := h
  have e : k = N + 1 := by omega
  exact ⟨fun m hm hp => h6 m (by omega) hm hp, h7 e, fun j hj q => h8 j hj (fun m hm e2 => absurd e2 (q m hm))⟩
theorem wv_k {G : Mem} {s : Int} {b cf b8 : Nat → Int} {N k : Nat} {p : Nat → Nat} {si to x : Int} (hp : PthP G s b cf N p) (h : WvI N p b b8 si to k) (hk : k ≤ N) (hx : x = cf (p k)) : (p k < 40 ∧ ¬ cf (p k) = -2 → WvI N p b b8 x si (k + 1)) ∧ (∀ b9 : Nat → Int, p k < 40 → cf (p k) = -2 → b9 (p k) = 40 → (∀ j, ¬ j = p k → b9 j = b8 j) → WvI N p b b9 x si (k + 1)) ∧ (∀ b9 : Nat → Int, 40 ≤ p k → (∀ t : Nat, t < 40 → to = (t : Int) → ((p k = t + 40 → b9 t = -1) ∧ (¬ p k = t + 40 → b9 t = (p k : Int) - 40)) ∧ ∀ j, ¬ j = t → b9 j = b8 j) → (to = 41 → b9 = b8) → WvI N p b b9 x si (k + 1)) := by
  obtain ⟨h1, h2, h3, h4, h5, h6, h7, h8⟩ := h
  have esi := h2 hk
  have inj := hp.2.2.2.2
  have lastN : ¬ k = N → cf (p k) = (p (k + 1) : Int) := fun c => (hp.2.1 k (by omega)).1
  have bef : 1 ≤ k → (p k < 40 → 40 ≤ p (k - 1)) ∧ (40 ≤ p k → p (k - 1) < 40) := fun c => by
    have e : k - 1 + 1 = k := by omega
    refine ⟨fun q => ?_, fun q => ?_⟩
    · by_cases d : 40 ≤ p (k - 1)
      · exact d
      · have z := (pt_i hp (m := k - 1) (by omega) (by omega)).1.1
        rw [e] at z
        omega
    · by_cases d : p (k - 1) < 40
      · exact d
      · have z := (pt_o hp (m := k - 1) (by omega) (by omega)).2.1
        rw [e] at z
        omega
  refine ⟨fun q => ?_, fun b9 q q2 e9 o9 => ?_, fun b9 q e9 o9 => ?_⟩
  · have kn : ¬ k = N := fun c => q.2 (by rw [c]; exact hp.2.2.1.1)
    refine ⟨by omega, fun _ => by rw [hx]; exact lastN kn, fun z => absurd z (by omega), fun z => absurd z (by omega), fun _ => by rw [show k + 1 - 1 = k from by omega]; exact esi, fun m hm hmN hpm => ?_, fun z => absurd z (by omega), fun j hj z => h8 j hj (fun m hm e z2 => z m hm e (by omega))⟩
    by_cases c : m + 1 = k
    · have y := (bef (by omega)).1 q.1
      rw [show k - 1 = m from by omega] at y
      omega
    · exact h6 m (by omega) hmN hpm
  · have kn : k = N := Classical.byContradiction (fun c => by
      have := lastN c
      omega)
    refine ⟨by omega, fun z => absurd z (by omega), fun _ => by rw [hx]; exact q2, fun z => absurd z (by omega), fun _ => by rw [show k + 1 - 1 = k from by omega]; exact esi, fun m hm hmN hpm => ?_, fun _ => by rw [← kn]; exact e9, fun j hj z => ?_⟩
    · have ne : ¬ p m = p k := fun c => by
        have := inj m k (by omega) hk c
        omega
      rw [o9 _ ne]
      by_cases c : m + 1 = k
      · have y := (bef (by omega)).1 q
        rw [show k - 1 = m from by omega] at y
        omega
      · exact h6 m (by omega) hmN hpm
    · have ne : ¬ j = p k := fun c => z k hk c.symm (Or.inr (by omega))
      rw [o9 j ne]
      exact h8 j hj (fun m hm e z2 => z m hm e (Or.inr (by omega)))
  · have kn := (pt_o hp hk q).1
    by_cases k0 : k = 0
    · rw [o9 (h4 k0)]
      refine ⟨by omega, fun _ => by rw [hx]; exact lastN (by omega), fun z => absurd z (by omega), fun z => absurd z (by omega), fun _ => by rw [show k + 1 - 1 = k from by omega]; exact esi, fun m hm => absurd hm (by omega), fun z => absurd z (by omega), fun j hj z => h8 j hj (fun m hm e z2 => z m hm e (by omega))⟩
    · have lo := (bef (by omega)).2 q
      have et := h5 (by omega)
      have e9 := e9 (p (k - 1)) lo et
      have ek : k - 1 + 1 = k := by omega
      refine ⟨by omega, fun _ => by rw [hx]; exact lastN (by omega), fun z => absurd z (by omega), fun z => absurd z (by omega), fun _ => by rw [show k + 1 - 1 = k from by omega]; exact esi, fun m hm hmN hpm => ?_, fun z => absurd z (by omega), fun j hj z => ?_⟩
      · by_cases c : m + 1 = k
        · have em : m = k - 1 := by omega
          rw [em, ek]
          exact e9.1
        · have ne : ¬ p m = p (k - 1) := fun d => by
            have := inj m (k - 1) (by omega) (by omega) d
            omega
          rw [e9.2 _ ne]
          exact h6 m (by omega) hmN hpm
      · have ne : ¬ j = p (k - 1) := fun c => z (k - 1) (by omega) c.symm (Or.inl (by omega))
        rw [e9.2 j ne]
        exact h8 j hj (fun m hm e z2 => z m hm e (by omega))
