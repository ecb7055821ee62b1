/-! hold: what the rows want -/
theorem ix_40 {v : Int32} (h : 0 ≤ v.toInt ∧ v.toInt ≤ 40) : ix (v + nI 40) = ix v + 40 ∧ (v + nI 40).toInt = v.toInt + 40 := by
  have a := t_inc v 40 (by omega)
  have b := t_ixn v h.1
  have c := t_ixn (v + nI 40) (by omega)
  omega
def CoP (G : Mem) (s : Int) (M M1 : Mem) (x : Nat) : Prop := ScI G s M1 ∧ GrC M M1 ∧ ClC G s M1 x
theorem cow_1 {G : Mem} {s : Int} {M M1 : Mem} {v : Int32} (h : ScI G s M) (hv : 0 ≤ v.toInt ∧ v.toInt < 40) (hm : mtC M (ix v)) (hb : (M 31 (ix v)).toInt = -1) (r : RcP M M1 (v + nI 40) v) : CoP G s M M1 (ix v) := by
  have u := ix_40 (v := v) (by omega)
  have iv := t_ixn v hv.1
  have z := rc_s h r (by omega) (Or.inr ⟨ix v, by omega, iv.symm, hm, Or.inl ⟨by omega, Or.inl ⟨u.1, hb⟩⟩⟩)
  rw [u.1] at z
  refine ⟨z.1, z.2.1, ?_⟩
  unfold ClC
  rw [gr_b z.2.1]
  exact ⟨fun _ => ⟨fun _ => z.2.2, fun j hj e => by
    have e2 : (M 31 (ix v)).toInt = (j : Int) := e
    omega⟩, fun c => absurd c (by omega)⟩
theorem cow_2 {G : Mem} {s : Int} {M : Mem} {v : Int32} (h : ScI G s M) (hv : 0 ≤ v.toInt ∧ v.toInt < 40) (hb : 40 ≤ (M 31 (ix v)).toInt) : CoP G s M M (ix v) := by
  have iv := t_ixn v hv.1
  exact ⟨h, gr_r, fun _ => ⟨fun e => by
    have e2 : (M 31 (ix v)).toInt = -1 := e
    omega, fun j hj e => by
    have e2 : (M 31 (ix v)).toInt = (j : Int) := e
    omega⟩, fun c => absurd c (by omega)⟩
theorem cow_3 {G : Mem} {s : Int} {M M1 : Mem} {v : Int32} (h : ScI G s M) (hv : 0 ≤ v.toInt ∧ v.toInt < 40) (hm : mtC M (ix v)) (hb : ¬ (M 31 (ix v)).toInt = -1) (hb4 : ¬ 40 ≤ (M 31 (ix v)).toInt) (r : RcP M M1 ((M 31 (ix v)) + nI 40) v) : CoP G s M M1 (ix v) := by
  have iv := t_ixn v hv.1
  have bb := h.1 (ix v) (by omega)
  have u := ix_40 (v := M 31 (ix v)) (by omega)
  have ib := t_ixn (M 31 (ix v)) (by omega)
  have z := rc_s h r (by omega) (Or.inr ⟨ix v, by omega, iv.symm, hm, Or.inl ⟨by omega, Or.inr (by
    show ((ix (M 31 (ix v) + nI 40) : Nat) : Int) = 40 + (M 31 (ix v)).toInt ∧ 0 ≤ (M 31 (ix v)).toInt ∧ (M 31 (ix v)).toInt < 40
    omega)⟩⟩)
  rw [u.1] at z
  refine ⟨z.1, z.2.1, ?_⟩
  unfold ClC
  rw [gr_b z.2.1]
  exact ⟨fun _ => ⟨fun e => absurd e hb, fun j hj e => by
    have e2 : (M 31 (ix v)).toInt = (j : Int) := e
    rw [show j = ix (M 31 (ix v)) from by omega]
    exact z.2.2⟩, fun c => absurd c (by omega)⟩
def LvP (G : Mem) (s : Int) (M M1 : Mem) (v r : Int32) : Prop := ScI G s M1 ∧ GrC M M1 ∧ (¬ r.toInt = 0 → farG G s (ix v)) ∧ (r.toInt = 0 → ClC G s M1 (ix v + 40))
def LvI (G : Mem) (s : Int) (M M1 : Mem) (v : Int32) (n : Nat) : Prop := ScI G s M1 ∧ GrC M M1 ∧ ∀ j, j < n → ¬ j = ix v → adjG G s (ix v) j → mtC M1 j
theorem lv_0 {G : Mem} {s : Int} {M : Mem} {v : Int32} {n : Nat} (h : ScI G s M) (hn : n = 0) : LvI G s M M v n := ⟨h, gr_r, fun j hj => absurd hj (by omega)⟩
theorem lv_n {G : Mem} {s : Int} {M M1 : Mem} {v : Int32} {n : Nat} (h : LvI G s M M1 v n) (hn : ¬ stC G s (ix v) n) (hv : ix v < 40) (hn4 : n < 40) : LvI G s M M1 v (n + 1) := ⟨h.1, h.2.1, fun j hj c a => by
  by_cases e : j = n
  · rw [e] at a c
    exact absurd ((st_s hv hn4 (fun z => c z.symm)).mpr a) hn
  · exact h.2.2 j (by omega) c a⟩
theorem lv_y {G : Mem} {s : Int} {M M1 M2 : Mem} {v y : Int32} (h : LvI G s M M1 v (ix y)) (hn : stC G s (ix v) (ix y)) (hv : 0 ≤ v.toInt ∧ v.toInt < 40) (hy : 0 ≤ y.toInt ∧ y.toInt < 40) (hm : mtC M (ix v + 40)) (r : RcP M1 M2 y (v + nI 40)) : LvI G s M M2 v (ix y + 1) := by
  have u := ix_40 (v := v) (by omega)
  have iv := t_ixn v hv.1
  have iy := t_ixn y hy.1
  have ad := (st_s (by omega) (by omega) hn.1).mp hn
  have z := rc_s h.1 r (by omega) (Or.inr ⟨ix v + 40, by omega, by omega, h.2.1.1 _ (by omega) hm, Or.inr ⟨by omega, by omega, Or.inr (by rw [show ix v + 40 - 40 = ix v from by omega]; exact ad)⟩⟩)
  refine ⟨z.1, gr_t h.2.1 z.2.1, fun j hj c a => ?_⟩
  by_cases e : j = ix y
  · rw [e]
    exact z.2.2
  · exact z.2.1.1 j (by omega) (h.2.2 j (by omega) c a)
theorem lv_e {G : Mem} {s : Int} {M M1 M2 : Mem} {v r : Int32} {n : Nat} (h : LvI G s M M1 v n) (hn : 40 ≤ n) (hf : ¬ farG G s (ix v)) (hv : 0 ≤ v.toInt ∧ v.toInt < 40) (hm : mtC M (ix v + 40)) (rc : RcP M1 M2 v (v + nI 40)) (hr : r.toInt = 0) : LvP G s M M2 v r := by
  have u := ix_40 (v := v) (by omega)
  have iv := t_ixn v hv.1
  have z := rc_s h.1 rc (by omega) (Or.inr ⟨ix v + 40, by omega, by omega, h.2.1.1 _ (by omega) hm, Or.inr ⟨by omega, by omega, Or.inl (by omega)⟩⟩)
  refine ⟨z.1, gr_t h.2.1 z.2.1, fun q => absurd hr q, fun _ => ⟨fun c => absurd c (by omega), fun _ => ?_⟩⟩
  rw [show ix v + 40 - 40 = ix v from by omega]
  exact ⟨hf, fun j hj c a => z.2.1.1 j (by omega) (h.2.2 j (by omega) c a), z.2.2⟩
def SrP (G : Mem) (s : Int) (M : Mem) (r : Int32) : Prop := (r.toInt = -1 ∧ (∀ i, i < 40 → nearG G s i → mtC M i) ∧ ∀ x, x < 80 → mtC M x → ClC G s M x) ∨ ((40 ≤ r.toInt ∧ r.toInt < 80) ∧ ScI G s M ∧ mtC M (ix r) ∧ farG G s (ix r - 40))
theorem sc_0 {G : Mem} {s : Int} {M : Mem} (hb : BbC M) (h : ∀ j, j < 80 → (M 32 j).toInt = -1) (ht : M 30 3 = nI 0) : ScI G s M := by
  have z : ix (nI 0) = 0 := by decide
  refine ⟨hb, by rw [ht, z, nI0]; omega, fun t q => ?_, fun _ => 0, fun j hj q => absurd (h j hj) q⟩
  rw [ht, z] at q
  exact absurd q (Nat.not_lt_zero _)
def NrI (G : Mem) (s : Int) (M : Mem) (n : Nat) : Prop := ScI G s M ∧ ∀ j, j < n → nearG G s j → mtC M j
theorem ni_0 {G : Mem} {s : Int} {M : Mem} {n : Nat} (h : ScI G s M) (hn : n = 0) : NrI G s M n := ⟨h, fun j hj => absurd hj (by omega)⟩
theorem ni_n {G : Mem} {s : Int} {M : Mem} {n : Nat} (h : NrI G s M n) (hn : ¬ nearG G s n) : NrI G s M (n + 1) := ⟨h.1, fun j hj a => by
  by_cases e : j = n
  · rw [e] at a
    exact absurd a hn
  · exact h.2 j (by omega) a⟩
theorem ni_y {G : Mem} {s : Int} {M M1 : Mem} {y f : Int32} (h : NrI G s M (ix y)) (hn : nearG G s (ix y)) (hy : 0 ≤ y.toInt ∧ y.toInt < 40) (hf : f.toInt = -2) (r : RcP M M1 y f) : NrI G s M1 (ix y + 1) := by
  have iy := t_ixn y hy.1
  have z := rc_s h.1 r (by omega) (Or.inl ⟨hf, by omega, hn⟩)
  exact ⟨z.1, fun j hj a => by
    by_cases e : j = ix y
    · rw [e]
      exact z.2.2
    · exact z.2.1.1 j (by omega) (h.2 j (by omega) a)⟩
def HdI (G : Mem) (s : Int) (M : Mem) (n : Nat) : Prop := NrI G s M 40 ∧ ∀ t, t < n → t < ix (M 30 3) ∧ ClC G s M (ix (M 33 t))
theorem hi_0 {G : Mem} {s : Int} {M : Mem} {n m : Nat} (h : NrI G s M n) (hn : 40 ≤ n) (hm : m = 0) : HdI G s M m := ⟨⟨h.1, fun j hj => h.2 j (by omega)⟩, fun t ht => absurd ht (by omega)⟩
theorem hi_x {G : Mem} {s : Int} {M : Mem} {n : Nat} (h : HdI G s M n) (hn : n < ix (M 30 3)) : (0 ≤ (M 33 n).toInt ∧ (M 33 n).toInt < 80) ∧ mtC M (ix (M 33 n)) := h.1.1.2.2.1 n hn
theorem hiw_s {G : Mem} {s : Int} {M M1 : Mem} {n : Nat} (h : HdI G s M n) (hn : n < ix (M 30 3)) (h1 : ScI G s M1) (g : GrC M M1) (c : ClC G s M1 (ix (M 33 n))) : HdI G s M1 (n + 1) := by
  have il := ix_le g.2.1
  refine ⟨⟨h1, fun j hj a => g.1 j (by omega) (h.1.2 j hj a)⟩, fun t ht => ⟨by omega, ?_⟩⟩
  rw [g.2.2.1 t (by omega)]
  by_cases e : t = n
  · rw [e]
    exact c
  · have x := h.1.1.2.2.1 t (by omega)
    have ix9 := t_ixn (M 33 t) x.1.1
    exact cl_g (by omega) (h.2 t (by omega)).2 g
theorem hi_e {G : Mem} {s : Int} {M : Mem} {n : Nat} {r : Int32} (h : HdI G s M n) (hn : ix (M 30 3) ≤ n) (hr : r.toInt = -1) : SrP G s M r := Or.inl ⟨hr, h.1.2, fun x hx hm => by
  obtain ⟨ρ, h3⟩ := h.1.1.2.2.2
  have z := h3 x hx hm
  have y := (h.2 (ρ x) (by omega)).2
  rw [z.2.1] at y
  exact y⟩
theorem sr_y {G : Mem} {s : Int} {M : Mem} {r : Int32} (h : 40 ≤ r.toInt ∧ r.toInt < 80) (h2 : ScI G s M) (h3 : mtC M (ix r)) (h4 : farG G s (ix r - 40)) : SrP G s M r := Or.inr ⟨h, h2, h3, h4⟩
def JnP (M M1 : Mem) (i t : Int32) : Prop := (¬ (0 ≤ t.toInt ∧ t.toInt < 40) ∧ M1 = M) ∨ ((0 ≤ t.toInt ∧ t.toInt < 40) ∧ ((t.toInt = i.toInt ∧ M1 = mset M 31 (ix t) (-1)) ∨ (¬ t.toInt = i.toInt ∧ M1 = mset M 31 (ix t) i)))
theorem wv_l {G : Mem} {s : Int} {b cf b8 : Nat → Int} {N k : Nat} {p : Nat → Nat} {to : Int} {y : Int32} (hp : PthP G s b cf N p) (h : WvI N p b b8 y.toInt to k) (hy : ¬ y.toInt < 0) : k ≤ N ∧ ix y = p k ∧ y.toInt = (p k : Int) := by
  have l : k ≤ N := Classical.byContradiction (fun c => by
    have z := h.2.2.1 (by have := h.1; omega)
    omega)
  have e := h.2.1 l
  have i := t_ixn y (by omega)
  exact ⟨l, by omega, e⟩
theorem wv_x {G : Mem} {s : Int} {b cf b8 : Nat → Int} {N k : Nat} {p : Nat → Nat} {to si : Int} (hp : PthP G s b cf N p) (h : WvI N p b b8 si to k) (hy : 80 < k ∨ si < 0 ∨ 80 ≤ si) : NwP b b8 N p := wv_e h (fun l => by
  have e := h.2.1 l
  have a := hp.1 k l
  have c := hp.2.2.2.1
  omega)
theorem bf_s {M M1 : Mem} {i : Nat} {x : Int32} (e : M1 = mset M 31 i x) : bfM M1 i = x.toInt ∧ ∀ j, ¬ j = i → bfM M1 j = bfM M j := ⟨by unfold bfM; rw [e, mset_eq], fun j hj => by unfold bfM; rw [e, mset_ne (fun z => hj z.2)]⟩
/-- a side's turn -/
theorem wv_1 {G : Mem} {s : Int} {b cf : Nat → Int} {M8 : Mem} {N k : Nat} {p : Nat → Nat} {to : Int} {y : Int32} (hp : PthP G s b cf N p) (h : WvI N p b (bfM M8) y.toInt to k) (hy : ¬ y.toInt < 0) (h4 : y.toInt < 40) (hc : ¬ cf (ix y) = -2) : WvI N p b (bfM M8) (cf (ix y)) y.toInt (k + 1) := by
  have l := wv_l hp h hy
  have z := (wv_k hp h l.1 (x := cf (ix y)) (by rw [l.2.1])).1
  rw [l.2.1] at hc ⊢
  rw [l.2.1] at z
  exact z ⟨by omega, hc⟩
theorem wv_2 {G : Mem} {s : Int} {b cf : Nat → Int} {M8 M9 : Mem} {N k : Nat} {p : Nat → Nat} {to : Int} {y : Int32} (hp : PthP G s b cf N p) (h : WvI N p b (bfM M8) y.toInt to k) (hy : ¬ y.toInt < 0) (h4 : y.toInt < 40) (hc : cf (ix y) = -2) (e : M9 = mset M8 31 (ix y) (nI 40)) : WvI N p b (bfM M9) (cf (ix y)) y.toInt (k + 1) := by
  have l := wv_l hp h hy
  have z := (wv_k hp h l.1 (x := cf (ix y)) (by rw [l.2.1])).2.1 (bfM M9)
  have e9 := bf_s e
  rw [l.2.1] at hc e9 z ⊢
  exact z (by omega) hc (by rw [e9.1]; exact t_lit 40) e9.2
theorem wv_3 {G : Mem} {s : Int} {b cf : Nat → Int} {M8 M9 : Mem} {N k : Nat} {p : Nat → Nat} {t y : Int32} (hp : PthP G s b cf N p) (h : WvI N p b (bfM M8) y.toInt t.toInt k) (hy : ¬ y.toInt < 0) (h4 : ¬ y.toInt < 40) (e : JnP M8 M9 (y - nI 40) t) : WvI N p b (bfM M9) (cf (ix y)) y.toInt (k + 1) := by
  have l := wv_l hp h hy
  have z := (wv_k hp h l.1 (x := cf (ix y)) (by rw [l.2.1])).2.2 (bfM M9) (by omega)
  have p8 := hp.1 k l.1
  have f := t_sub y (nI 40)
  have f4 : (nI 40).toInt = 40 := t_lit 40
  have fy : (y - nI 40).toInt = (p k : Int) - 40 := by omega
  refine z (fun a ha et => ?_) (fun et => ?_)
  · have ia := t_ixn t (by omega)
    have ea : ix t = a := by omega
    rcases e with ⟨e1, e2⟩ | ⟨e1, ⟨e2, e3⟩ | ⟨e2, e3⟩⟩
    · exfalso
      omega
    · have e9 := bf_s e3
      rw [ea] at e9
      exact ⟨⟨fun _ => by rw [e9.1]; decide, fun q => absurd (show p k = a + 40 by omega) q⟩, e9.2⟩
    · have e9 := bf_s e3
      rw [ea] at e9
      exact ⟨⟨fun q => absurd (show t.toInt = (y - nI 40).toInt by omega) e2, fun _ => by rw [e9.1]; exact fy⟩, e9.2⟩
  · rcases e with ⟨e1, e2⟩ | ⟨e1, e2⟩
    · rw [e2]
    · exfalso
      omega
def PkI (G : Mem) (s : Int) (M : Mem) (k : Int) : Prop := Pck G s (bfM M) ∧ nrC (bfM M) = k
theorem pi_b {G : Mem} {s : Int} {M : Mem} {k : Int} (h : PkI G s M k) : BbC M := fun i hi => pk_r h.1 hi
theorem pi_e {G : Mem} {s : Int} {M M1 : Mem} {k : Int} {r : Int32} (h : PkI G s M k) (e : ∀ i, M1 31 i = M 31 i) (hs : SrP G s M1 r) (hr : r.toInt = -1) : McP (cpG G s) k := by
  rcases hs with ⟨a, c, d⟩ | ⟨a, c⟩
  · have eb : bfM M1 = bfM M := funext (fun i => congrArg Int32.toInt (e i))
    unfold ClC at d
    rw [eb] at d
    have z := pk_mc h.1 c d
    rw [h.2] at z
    exact z
  · exfalso
    omega
theorem pi_p {G : Mem} {s : Int} {M1 : Mem} {r : Int32} (hs : SrP G s M1 r) (hr : ¬ r.toInt = -1) : ((40 ≤ r.toInt ∧ r.toInt < 80) ∧ farG G s (ix r - 40)) ∧ ∃ (N : Nat) (p : Nat → Nat), PthP G s (bfM M1) (cfM M1) N p ∧ r.toInt = (p 0 : Int) := by
  rcases hs with ⟨a, c⟩ | ⟨a, c, d, e⟩
  · exact absurd a hr
  · have i := t_ixn r (by omega)
    obtain ⟨N, p, h1, h2⟩ := pt_of c (by omega) d
    exact ⟨⟨a, e⟩, N, p, h1, by omega⟩
theorem pi_s {G : Mem} {s : Int} {M M1 M2 : Mem} {k : Int} {r : Int32} {N : Nat} {p : Nat → Nat} (h : PkI G s M k) (e : ∀ i, M1 31 i = M 31 i) (hr : (40 ≤ r.toInt ∧ r.toInt < 80) ∧ farG G s (ix r - 40)) (hp : PthP G s (bfM M1) (cfM M1) N p) (h0 : r.toInt = (p 0 : Int)) (w : NwP (bfM M1) (bfM M2) N p) : PkI G s M2 (k + 1) := by
  have eb : bfM M1 = bfM M := funext (fun i => congrArg Int32.toInt (e i))
  have i := t_ixn r (by omega)
  rw [eb] at hp w
  have z := pk_s (i0 := ix r - 40) h.1 hp w (by omega) hr.2
  exact ⟨z.1, by rw [z.2, h.2]⟩
theorem pi_4 {G : Mem} {s : Int} {M : Mem} {k : Int} (h : PkI G s M k) (hk : k = 40) : McP (cpG G s) 40 := by
  have e : nrC (bfM M) = 40 := by rw [h.2, hk]
  have z := pk_40 h.1 e
  rw [e] at z
  exact z
theorem pi_0 {G : Mem} {s : Int} {M : Mem} (h : ∀ i, i < 40 → M 31 i = -1) : PkI G s M 0 := pk_0 (fun i hi => by
  show (M 31 i).toInt = -1
  rw [h i hi]
  decide)
