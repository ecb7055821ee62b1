/-! bits of a long -/
def bitL (s : Int64) (i : Int32) : Prop := ¬ (lg_cmp ((lshr s i) &&& 1) 0).toInt = 0
theorem lgc_0 (x : Int64) : (lg_cmp x 0).toInt = 0 ↔ x = 0 := by
  rw [← lg_cmp_eq x 0]
  exact ⟨fun h => t_of (by rw [h]; decide), fun h => by rw [h]; decide⟩
theorem lshr_or (a b : Int64) (y : Int32) : lshr (a ||| b) y = lshr a y ||| lshr b y := Int64.toBitVec_inj.1 (BitVec.sshiftRight_or_distrib _ _ _)
theorem and_or1 (a b : Int64) : (a ||| b) &&& 1 = (a &&& 1) ||| (b &&& 1) := Int64.toBitVec_inj.1 BitVec.and_or_distrib_right
theorem bit_or {a b : Int64} {i : Int32} : bitL (a ||| b) i ↔ bitL a i ∨ bitL b i := by
  unfold bitL
  rw [lgc_0, lgc_0, lgc_0, lshr_or, and_or1, Int64.or_eq_zero_iff]
  by_cases c : (lshr a i) &&& 1 = 0
  · exact ⟨fun z => Or.inr (fun q => z ⟨c, q⟩), fun z q => z.elim (fun w => w c) (fun w => w q.2)⟩
  · exact ⟨fun _ => Or.inl c, fun _ q => c q.1⟩
theorem bit_1k : ∀ y, y < 40 → ∀ i, i < 40 → ((lg_cmp ((lshr (lshl 1 (nI y)) (nI i)) &&& 1) 0).toInt = 0 ↔ ¬ i = y) := by decide +kernel
theorem bit_1 {y i : Nat} (hy : y < 40) (hi : i < 40) : bitL (lshl 1 (nI y)) (nI i) ↔ i = y := by
  unfold bitL
  rw [bit_1k y hy i hi]
  exact ⟨fun z => Classical.byContradiction z, fun z q => q z⟩
/-! sums of throws -/
def sI (f : Nat → Int) : Nat → Int
  | 0 => 0
  | m + 1 => sI f m + f m
theorem sI_cg {f g : Nat → Int} : ∀ {m : Nat}, (∀ j, j < m → f j = g j) → sI f m = sI g m
  | 0, _ => rfl
  | m + 1, h => by
    show sI f m + f m = sI g m + g m
    rw [sI_cg (m := m) (fun j hj => h j (by omega)), h m (by omega)]
theorem sI_h (f : Nat → Int) : ∀ m, sI f (m + 1) = f 0 + sI (fun j => f (j + 1)) m
  | 0 => by
    show (0 : Int) + f 0 = f 0 + 0
    omega
  | m + 1 => by
    show sI f (m + 1) + f (m + 1) = f 0 + (sI (fun j => f (j + 1)) m + f (m + 1))
    rw [sI_h f m]
    omega
theorem sI_b {f : Nat → Int} {B : Int} (hB : 0 ≤ B) : ∀ {m : Nat}, (∀ j, j < m → 0 ≤ f j ∧ f j ≤ B) → m ≤ 7 → 0 ≤ sI f m ∧ sI f m ≤ 7 * B
  | m, h, hm => by
    have z : ∀ k : Nat, k ≤ m → 0 ≤ sI f k ∧ sI f k ≤ k * B := fun k => by
      induction k with
      | zero =>
        intro _
        show (0 : Int) ≤ 0 ∧ (0 : Int) ≤ ((0 : Nat) : Int) * B
        rw [show ((0 : Nat) : Int) = 0 from rfl, Int.zero_mul]
        omega
      | succ k ih =>
        intro hk
        have a := ih (by omega)
        have b := h k (by omega)
        show 0 ≤ sI f k + f k ∧ sI f k + f k ≤ ((k + 1 : Nat) : Int) * B
        rw [Int.natCast_add, Int.add_mul, show ((1 : Nat) : Int) = 1 from rfl, Int.one_mul]
        omega
    have a := z m (Nat.le_refl _)
    have b : (m : Int) * B ≤ 7 * B := Int.mul_le_mul_of_nonneg_right (by omega) hB
    omega
theorem sqb {a B : Int} (h : -B ≤ a ∧ a ≤ B) : 0 ≤ a * a ∧ a * a ≤ B * B := by
  by_cases c : 0 ≤ a
  · have z := sq_le c h.2
    have y := Int.mul_nonneg c c
    omega
  · have z := sq_le (a := 0 - a) (b := B) (by omega) (by omega)
    have y := Int.mul_nonneg (a := 0 - a) (b := 0 - a) (by omega) (by omega)
    rw [sq_neg] at z y
    omega
def dW (G : Mem) (w : Nat → Nat) (u v : Nat) : Int := dd ((G 1 (w u)).toInt - (G 1 (w v)).toInt) ((G 2 (w u)).toInt - (G 2 (w v)).toInt)
theorem dd_bd {G : Mem} {i j : Nat} (hG : GdF G) (hi : dryG G i) (hj : dryG G j) : 0 ≤ dd ((G 1 i).toInt - (G 1 j).toInt) ((G 2 i).toInt - (G 2 j).toInt) ∧ dd ((G 1 i).toInt - (G 1 j).toInt) ((G 2 i).toInt - (G 2 j).toInt) ≤ 2000 := by
  have a := dry_b hG hi
  have b := dry_b hG hj
  have p := sqb (a := (G 1 i).toInt - (G 1 j).toInt) (B := 39) (by omega)
  have q := sqb (a := (G 2 i).toInt - (G 2 j).toInt) (B := 20) (by omega)
  unfold dd
  omega
theorem sqF_t {G : Mem} {i j : Nat} (hG : GdF G) (hi : dryG G i) (hj : dryG G j) : (sqF G i j).toInt = dd ((G 1 i).toInt - (G 1 j).toInt) ((G 2 i).toInt - (G 2 j).toInt) := by
  have a := dry_b hG hi
  have b := dry_b hG hj
  have e1 : (G 1 i - G 1 j).toInt = (G 1 i).toInt - (G 1 j).toInt := by
    have f := t_sub (G 1 i) (G 1 j)
    omega
  have e2 : (G 2 i - G 2 j).toInt = (G 2 i).toInt - (G 2 j).toInt := by
    have f := t_sub (G 2 i) (G 2 j)
    omega
  unfold sqF
  rw [t_dd (by omega) (by omega), e1, e2]
def TcS (G : Mem) (w : Nat → Nat) (c : Nat → Nat) (k n : Nat) : Int := sI (fun j => dW G w (c (k - 1 + j)) (c (k + j))) (n - k)
theorem tc_h {G : Mem} {w c : Nat → Nat} {k n : Nat} (hk : 1 ≤ k) (hn : k < n) : TcS G w c k n = dW G w (c (k - 1)) (c k) + TcS G w c (k + 1) n := by
  unfold TcS
  rw [show n - k = (n - (k + 1)) + 1 from by omega, sI_h]
  show dW G w (c (k - 1 + 0)) (c (k + 0)) + _ = _
  rw [Nat.add_zero, Nat.add_zero, sI_cg (g := fun j => dW G w (c (k + 1 - 1 + j)) (c (k + 1 + j))) (fun j hj => by
    show dW G w (c (k - 1 + (j + 1))) (c (k + (j + 1))) = dW G w (c (k + 1 - 1 + j)) (c (k + 1 + j))
    rw [show k - 1 + (j + 1) = k + 1 - 1 + j from by omega, show k + (j + 1) = k + 1 + j from by omega])]
theorem tc_n {G : Mem} {w c : Nat → Nat} {n : Nat} : TcS G w c n n = 0 := by
  unfold TcS
  rw [Nat.sub_self]
  rfl
/-- rows that begin as q does, k places -/
def ExR (n : Nat) (q : Nat → Nat) (k : Nat) (c : Nat → Nat) : Prop := Pm c n ∧ ∀ j, j < k → c j = q j
def exq (q : Nat → Nat) (k m : Nat) : Nat → Nat := fun j => if j = k then m else q j
theorem exq_k {q : Nat → Nat} {k m : Nat} : exq q k m k = m := if_pos rfl
theorem exq_o {q : Nat → Nat} {k m j : Nat} (h : ¬ j = k) : exq q k m j = q j := if_neg h
def LeE (G : Mem) (w : Nat → Nat) (n : Nat) (q : Nat → Nat) (k : Nat) (L : Int) : Prop := (∃ c, ExR n q k c ∧ TcS G w c k n = L) ∧ ∀ c, ExR n q k c → L ≤ TcS G w c k n
def UsD (q : Nat → Nat) (k m : Nat) : Prop := ∃ t, t < k ∧ q t = m
/-- a list of n stones that are dry, the lowest -/
def LsW (G : Mem) (w : Nat → Nat) (n : Nat) : Prop := (∀ m, m < n → w m < 40 ∧ dryG G (w m)) ∧ (∀ i j, i < j → j < n → w i < w j) ∧ ∀ i, dryG G i → i ≤ w (n - 1) → ∃ m, m < n ∧ w m = i
theorem lsw_of {G : Mem} {w : Nat → Nat} {n i : Nat} (h : LsI (dryG G) n i w) (hn : 1 ≤ n) (hi : i ≤ 40) : LsW G w n := ⟨fun m hm => ⟨by have := (h.1 m hm).1; omega, (h.1 m hm).2⟩, h.2.1, fun t ht h1 => h.2.2 t (by have := (h.1 (n - 1) (by omega)).1; omega) ht⟩
theorem tc_b {G : Mem} {w c : Nat → Nat} {k n : Nat} (hG : GdF G) (hw : LsW G w n) (hc : Pm c n) (hk : 1 ≤ k) (hn : n ≤ 7) : 0 ≤ TcS G w c k n ∧ TcS G w c k n ≤ 14000 := by
  have z := sI_b (f := fun j => dW G w (c (k - 1 + j)) (c (k + j))) (B := 2000) (by omega) (m := n - k) (fun j hj => dd_bd hG (hw.1 _ (hc.1 _ (by omega))).2 (hw.1 _ (hc.1 _ (by omega))).2) (by omega)
  unfold TcS
  omega
theorem lee_b {G : Mem} {w q : Nat → Nat} {k n : Nat} {L : Int} (hG : GdF G) (hw : LsW G w n) (hk : 1 ≤ k) (hn : n ≤ 7) (h : LeE G w n q k L) : 0 ≤ L ∧ L ≤ 14000 := by
  obtain ⟨⟨c, h1, h2⟩, -⟩ := h
  rw [← h2]
  exact tc_b hG hw h1.1 hk hn
theorem w_in {G : Mem} {w : Nat → Nat} {n i j : Nat} (h : LsW G w n) (hi : i < n) (hj : j < n) (e : w i = w j) : i = j := by
  rcases Nat.lt_trichotomy i j with c | c | c
  · have := h.2.1 i j c hj
    omega
  · exact c
  · have := h.2.1 j i c hi
    omega
def LeI (G : Mem) (w : Nat → Nat) (n : Nat) (q : Nat → Nat) (k i : Nat) (y : Int) : Prop := (y = 2147483647 ∧ ∀ m, m < n → w m < i → UsD q k m) ∨ ((∃ m, m < n ∧ w m < i ∧ ¬ UsD q k m ∧ ∃ L, LeE G w n (exq q k m) (k + 1) L ∧ y = dW G w (q (k - 1)) m + L) ∧ ∀ m, m < n → w m < i → ¬ UsD q k m → ∃ L, LeE G w n (exq q k m) (k + 1) L ∧ y ≤ dW G w (q (k - 1)) m + L)
theorem lei_0 {G : Mem} {w q : Nat → Nat} {n k : Nat} : LeI G w n q k 0 (nI 2147483647).toInt := Or.inl ⟨t_lit 2147483647, fun m _ h => absurd h (Nat.not_lt_zero _)⟩
theorem lei_n {G : Mem} {w q : Nat → Nat} {n k i : Nat} {y : Int} (h : LeI G w n q k i y) (hn : ∀ m, m < n → w m = i → UsD q k m) : LeI G w n q k (i + 1) y := by
  rcases h with ⟨a, b⟩ | ⟨⟨m, h1, h2, h3, h4⟩, b⟩
  · refine Or.inl ⟨a, fun m hm hi => ?_⟩
    by_cases c : w m = i
    · exact hn m hm c
    · exact b m hm (by omega)
  · refine Or.inr ⟨⟨m, h1, by omega, h3, h4⟩, fun m hm hi hu => ?_⟩
    by_cases c : w m = i
    · exact absurd (hn m hm c) hu
    · exact b m hm (by omega) hu
theorem lei_y {G : Mem} {w q : Nat → Nat} {n k i m : Nat} {y y' L : Int} (h : LeI G w n q k i y) (hw : LsW G w n) (hm : m < n) (e : w m = i) (hu : ¬ UsD q k m) (hL : LeE G w n (exq q k m) (k + 1) L) (hb : dW G w (q (k - 1)) m + L < 2147483647) (hy : y' = min y (dW G w (q (k - 1)) m + L)) : LeI G w n q k (i + 1) y' := by
  refine Or.inr ⟨?_, fun m2 hm2 hi2 hu2 => ?_⟩
  · by_cases c : y' = dW G w (q (k - 1)) m + L
    · exact ⟨m, hm, by omega, hu, L, hL, c⟩
    · rcases h with ⟨a, b⟩ | ⟨⟨m1, h1, h2, h3, L1, h4, h5⟩, b⟩
      · omega
      · exact ⟨m1, h1, by omega, h3, L1, h4, by omega⟩
  · by_cases c : w m2 = i
    · have e2 : m2 = m := w_in hw hm2 hm (c.trans e.symm)
      rw [e2]
      exact ⟨L, hL, by omega⟩
    · rcases h with ⟨a, b⟩ | ⟨-, b⟩
      · exact absurd (b m2 hm2 (by omega)) hu2
      · obtain ⟨L2, h1, h2⟩ := b m2 hm2 (by omega) hu2
        exact ⟨L2, h1, by omega⟩
theorem lei_e {G : Mem} {w q : Nat → Nat} {n k i : Nat} {y : Int} (h : LeI G w n q k i y) (hi : ∀ m, m < n → w m < i) (hk : 1 ≤ k) (hn : k < n) (h0 : ∃ c, ExR n q k c) : LeE G w n q k y := by
  have un : ∀ c, ExR n q k c → c k < n ∧ ¬ UsD q k (c k) := fun c hc => ⟨hc.1.1 k hn, fun ⟨t, ht, e⟩ => by
    have := hc.1.2 t k (by omega) hn ((hc.2 t ht).trans e)
    omega⟩
  have sp : ∀ c, ExR n q k c → ExR n (exq q k (c k)) (k + 1) c ∧ TcS G w c k n = dW G w (q (k - 1)) (c k) + TcS G w c (k + 1) n := fun c hc => ⟨⟨hc.1, fun j hj => by
    by_cases d : j = k
    · rw [d, exq_k]
    · rw [exq_o d]
      exact hc.2 j (by omega)⟩, by rw [tc_h hk hn, hc.2 (k - 1) (by omega)]⟩
  rcases h with ⟨a, b⟩ | ⟨⟨m, h1, h2, h3, L, h4, h5⟩, b⟩
  · obtain ⟨c, hc⟩ := h0
    have u := un c hc
    exact absurd (b _ u.1 (hi _ u.1)) u.2
  · refine ⟨?_, fun c hc => ?_⟩
    · obtain ⟨⟨c, g1, g2⟩, -⟩ := h4
      have ck : c k = m := by
        have z := g1.2 k (by omega)
        rw [exq_k] at z
        exact z
      have hc : ExR n q k c := ⟨g1.1, fun j hj => by
        have z := g1.2 j (by omega)
        rw [exq_o (by omega)] at z
        exact z⟩
      exact ⟨c, hc, by rw [(sp c hc).2, ck, g2, h5]⟩
    · have u := un c hc
      obtain ⟨L2, g1, g2⟩ := b _ u.1 (hi _ u.1) u.2
      have s := sp c hc
      have := g1.2 c s.1
      rw [s.2]
      omega
theorem lee_0 {G : Mem} {w q : Nat → Nat} {n : Nat} (h0 : ∃ c, ExR n q n c) : LeE G w n q n 0 := by
  obtain ⟨c, hc⟩ := h0
  exact ⟨⟨c, hc, tc_n⟩, fun _ _ => by rw [tc_n]; exact Int.le_refl _⟩
/-- what stands as a child holds it -/
def ThS (G : Mem) (w : Nat → Nat) (n : Nat) (q : Nat → Nat) (k : Nat) (h : Int32) (s : Int64) (l e : Int32) : Prop := LsW G w n ∧ (1 ≤ k ∧ k ≤ n ∧ n ≤ 6) ∧ h = nI (w (q (k - 1))) ∧ (∀ i, i < 40 → (bitL s (nI i) ↔ ∃ t, t < k ∧ w (q t) = i)) ∧ l = nI (w (n - 1)) ∧ e.toInt = (n : Int) - k ∧ ∃ c, ExR n q k c
theorem th_q {G : Mem} {w q : Nat → Nat} {n k : Nat} {h l e : Int32} {s : Int64} (H : ThS G w n q k h s l e) {t : Nat} (ht : t < k) : q t < n := by
  obtain ⟨-, a, -, -, -, -, c, hc⟩ := H
  rw [← hc.2 t ht]
  exact hc.1.1 t (by omega)
theorem th_u {G : Mem} {w q : Nat → Nat} {n k i : Nat} {h l e : Int32} {s : Int64} (H : ThS G w n q k h s l e) (hi : i < 40) (hb : bitL s (nI i)) : ∀ m, m < n → w m = i → UsD q k m := fun m hm e1 => by
  obtain ⟨t, ht, e2⟩ := (H.2.2.2.1 i hi).mp hb
  exact ⟨t, ht, w_in H.1 (th_q H ht) hm (e2.trans e1.symm)⟩
theorem th_m {G : Mem} {w q : Nat → Nat} {n k i : Nat} {h l e : Int32} {s : Int64} (H : ThS G w n q k h s l e) (hi : i < 40) (hd : dryG G i) (hl : i ≤ w (n - 1)) (hb : ¬ bitL s (nI i)) : ∃ m, m < n ∧ w m = i ∧ ¬ UsD q k m := by
  obtain ⟨m, h1, h2⟩ := H.1.2.2 i hd hl
  exact ⟨m, h1, h2, fun ⟨t, ht, e1⟩ => hb ((H.2.2.2.1 i hi).mpr ⟨t, ht, by rw [e1]; exact h2⟩)⟩
theorem pm_sw {c : Nat → Nat} {n k p : Nat} (hc : Pm c n) (hk : k < n) (hp : p < n) : Pm (fun j => if j = k then c p else if j = p then c k else c j) n := by
  refine ⟨fun j hj => ?_, fun i j hi hj e => ?_⟩
  · show (if j = k then c p else if j = p then c k else c j) < n
    by_cases a : j = k
    · rw [if_pos a]; exact hc.1 p hp
    · rw [if_neg a]
      by_cases b : j = p
      · rw [if_pos b]; exact hc.1 k hk
      · rw [if_neg b]; exact hc.1 j hj
  · have e1 : (if i = k then c p else if i = p then c k else c i) = (if j = k then c p else if j = p then c k else c j) := e
    by_cases a : i = k
    · by_cases b : j = k
      · omega
      · rw [if_pos a, if_neg b] at e1
        by_cases d : j = p
        · rw [if_pos d] at e1
          have := hc.2 p k hp hk e1
          omega
        · rw [if_neg d] at e1
          have := hc.2 p j hp hj e1
          omega
    · rw [if_neg a] at e1
      by_cases b : j = k
      · rw [if_pos b] at e1
        by_cases d : i = p
        · rw [if_pos d] at e1
          have := hc.2 k p hk hp e1
          omega
        · rw [if_neg d] at e1
          have := hc.2 i p hi hp e1
          omega
      · rw [if_neg b] at e1
        by_cases d : i = p
        · rw [if_pos d] at e1
          by_cases f : j = p
          · omega
          · rw [if_neg f] at e1
            have := hc.2 k j hk hj e1
            omega
        · rw [if_neg d] at e1
          by_cases f : j = p
          · rw [if_pos f] at e1
            have := hc.2 i k hi hk e1
            omega
          · rw [if_neg f] at e1
            exact hc.2 i j hi hj e1
theorem th_r {G : Mem} {w q : Nat → Nat} {n k m : Nat} {h l e y e' : Int32} {s : Int64} (H : ThS G w n q k h s l e) (hm : m < n) (hy : y = nI (w m)) (hu : ¬ UsD q k m) (hk : k < n) (he : e'.toInt = e.toInt - 1) : ThS G w n (exq q k m) (k + 1) y (s ||| lshl 1 y) l e' := by
  obtain ⟨h1, h2, h3, h4, h5, h6, c, hc⟩ := H
  refine ⟨h1, by omega, ?_, fun i hi => ?_, h5, by omega, ?_⟩
  · rw [Nat.add_sub_cancel, exq_k]
    exact hy
  · rw [bit_or, h4 i hi, hy, bit_1 (h1.1 m hm).1 hi]
    refine ⟨fun z => ?_, fun ⟨t, ht, z⟩ => ?_⟩
    · rcases z with ⟨t, ht, z⟩ | z
      · exact ⟨t, by omega, by rw [exq_o (by omega)]; exact z⟩
      · exact ⟨k, by omega, by rw [exq_k]; exact z.symm⟩
    · by_cases d : t = k
      · rw [d, exq_k] at z
        exact Or.inr z.symm
      · rw [exq_o d] at z
        exact Or.inl ⟨t, by omega, z⟩
  · obtain ⟨p, hp, ep⟩ := pm_on hc.1 hm
    have kp : k ≤ p := by
      by_cases d : k ≤ p
      · exact d
      · exact absurd ⟨p, by omega, (hc.2 p (by omega)).symm.trans ep⟩ hu
    refine ⟨_, pm_sw hc.1 hk hp, fun j hj => ?_⟩
    show (if j = k then c p else if j = p then c k else c j) = exq q k m j
    by_cases d : j = k
    · rw [if_pos d, d, exq_k]
      exact ep
    · rw [if_neg d, if_neg (by omega), exq_o d]
      exact hc.2 j (by omega)
/-! what is answered -/
def ThQ (G : Mem) (v r : Int) : Prop := (¬ (1 ≤ v ∧ v ≤ 6) ∧ r = -1) ∨ ((1 ≤ v ∧ v ≤ 6) ∧ ((∃ w i, i ≤ 40 ∧ LsI (dryG G) v.toNat i w ∧ LeE G w v.toNat (fun _ => 0) 1 r) ∨ ((∃ m w, m < v.toNat ∧ LsI (dryG G) m 40 w) ∧ r = -2)))
theorem dW_cg {G : Mem} {w w' : Nat → Nat} {n u v : Nat} (h : ∀ k, k < n → w k = w' k) (hu : u < n) (hv : v < n) : dW G w u v = dW G w' u v := by
  unfold dW
  rw [h u hu, h v hv]
theorem tc_cg {G : Mem} {w w' c : Nat → Nat} {k n : Nat} (h : ∀ k, k < n → w k = w' k) (hc : Pm c n) (hk : 1 ≤ k) : TcS G w c k n = TcS G w' c k n := sI_cg (fun j hj => dW_cg h (hc.1 _ (by omega)) (hc.1 _ (by omega)))
theorem lee_fn {G : Mem} {w w' q : Nat → Nat} {k n : Nat} {L L' : Int} (h : ∀ k, k < n → w k = w' k) (hk : 1 ≤ k) (h1 : LeE G w n q k L) (h2 : LeE G w' n q k L') : L = L' := by
  obtain ⟨⟨c, a1, a2⟩, a3⟩ := h1
  obtain ⟨⟨d, b1, b2⟩, b3⟩ := h2
  have x := a3 d b1
  have y := b3 c a1
  rw [tc_cg h b1.1 hk] at x
  rw [← tc_cg h a1.1 hk] at y
  omega
theorem thq_fn {G : Mem} {v r r' : Int} (h : ThQ G v r) (h' : ThQ G v r') : r = r' := by
  rcases h with ⟨a, b⟩ | ⟨a, b⟩ <;> rcases h' with ⟨a', b'⟩ | ⟨a', b'⟩
  · omega
  · exact absurd a' a
  · exact absurd a a'
  · rcases b with ⟨w, i, b1, b2, b3⟩ | ⟨⟨m, w, b1, b2⟩, b3⟩ <;> rcases b' with ⟨w', i', d1, d2, d3⟩ | ⟨⟨m', w', d1, d2⟩, d3⟩
    · exact lee_fn (fun k hk => ls_eq b2 d2 k hk hk) (Nat.le_refl _) b3 d3
    · exact (ls_no b2 b1 d2 d1).elim
    · exact (ls_no d2 d1 b2 b1).elim
    · omega
theorem ff_th {MC MM : Mem} {r r' v : Int32} (h : FF MC MM) (h1 : ThQ (FdC MC 1) v.toInt r.toInt) (h2 : ThQ (FdR MM 1) v.toInt r'.toInt) : r = r' := by
  rw [h.1.1] at h1
  exact t_of (thq_fn h1 h2)
theorem pm_i {n : Nat} : Pm (fun j => j) n := ⟨fun j hj => hj, fun i j _ _ e => e⟩
/-- the class's first child -/
theorem th_0 {G : Mem} {w : Nat → Nat} {n i : Nat} {f l e : Int32} (h : LsI (dryG G) n i w) (hi : i ≤ 40) (hn : 1 ≤ n ∧ n ≤ 6) (hf : f = nI (w 0)) (hl : l = nI (w (n - 1))) (he : e.toInt = (n : Int) - 1) : ThS G w n (fun _ => 0) 1 f (lshl 1 f) l e := by
  have hw := lsw_of h hn.1 hi
  refine ⟨hw, by omega, hf, fun i hi => ?_, hl, by omega, fun j => j, pm_i, fun j hj => by
    show j = 0
    omega⟩
  rw [hf, bit_1 (hw.1 0 (by omega)).1 hi]
  exact ⟨fun z => ⟨0, by omega, z.symm⟩, fun ⟨t, _, z⟩ => z.symm⟩
def NdP (P : Nat → Prop) (v r : Int32) : Prop := (r.toInt = -1 ∧ ∀ i : Nat, v.toInt ≤ (i : Int) → i < 40 → ¬ P i) ∨ ((0 ≤ r.toInt ∧ r.toInt < 40) ∧ v.toInt ≤ r.toInt ∧ P (ix r) ∧ ∀ i : Nat, v.toInt ≤ (i : Int) → i < ix r → ¬ P i)
/-- so many have been found, the last is y -/
def TlI (P : Nat → Prop) (k : Nat) (f y : Int32) : Prop := (y.toInt = -1 ∧ ∃ m w, m < k ∧ LsI P m 40 w) ∨ ((0 ≤ y.toInt ∧ y.toInt < 40) ∧ ∃ w, LsI P k (ix y + 1) w ∧ w 0 = ix f ∧ w (k - 1) = ix y ∧ 0 ≤ f.toInt)
theorem tl_1 {P : Nat → Prop} {r : Int32} (h : NdP P (nI 0) r) : TlI P 1 r r := by
  have z := nI0
  rcases h with ⟨a, b⟩ | ⟨a, b, d, e⟩
  · exact Or.inl ⟨a, 0, fun _ => 0, by omega, ls_up ls_0 (Nat.zero_le _) (fun t _ ht => b t (by omega) ht)⟩
  · exact Or.inr ⟨a, fun _ => ix r, ls_y (w := fun _ => 0) (ls_up ls_0 (Nat.zero_le _) (fun t _ ht => e t (by omega) ht)) d (fun k hk => absurd hk (Nat.not_lt_zero _)) rfl, rfl, rfl, a.1⟩
theorem tl_s {P : Nat → Prop} {k : Nat} {f y r : Int32} (h : TlI P k f y) (hk : 1 ≤ k) (hy : ¬ y.toInt = -1) (hr : NdP P (y + nI 1) r) : TlI P (k + 1) f r := by
  obtain ⟨a, w, h1, h2, h3, h0⟩ := h.resolve_left (fun z => hy z.1)
  have u := i_up (x := y) (by omega)
  have ey := t_ixn y a.1
  rcases hr with ⟨b, d⟩ | ⟨b, d, e, g⟩
  · exact Or.inl ⟨b, k, w, by omega, ls_up h1 (by omega) (fun t h4 h5 => d t (by omega) h5)⟩
  · have er := t_ixn r b.1
    refine Or.inr ⟨b, fun j => if j = k then ix r else w j, ls_y (ls_up h1 (by omega) (fun t h4 h5 => g t (by omega) h5)) e (fun j hj => if_neg (by omega)) (if_pos rfl), ?_, ?_, h0⟩
    · show (if 0 = k then ix r else w 0) = ix f
      rw [if_neg (by omega)]
      exact h2
    · show (if k + 1 - 1 = k then ix r else w (k + 1 - 1)) = ix r
      rw [if_pos (by omega)]
theorem tl_e {P : Nat → Prop} {k n : Nat} {f y : Int32} (h : TlI P k f y) (hk : k ≤ n) (hc : k = n ∨ y.toInt = -1) : TlI P n f y := by
  rcases hc with c | c
  · rw [← c]
    exact h
  · rcases h with ⟨a, m, w, h1, h2⟩ | ⟨a, -⟩
    · exact Or.inl ⟨a, m, w, by omega, h2⟩
    · have := a.1
      omega
theorem lsi_cg {P P' : Nat → Prop} {m i : Nat} {w : Nat → Nat} (h : LsI P m i w) (e : ∀ i, P i ↔ P' i) : LsI P' m i w := ⟨fun k hk => ⟨(h.1 k hk).1, (e _).mp (h.1 k hk).2⟩, h.2.1, fun t ht hp => h.2.2 t ht ((e t).mpr hp)⟩
