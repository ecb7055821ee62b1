/-! words of codes: a kind and a value -/
theorem t_divn (x : Int32) (n : Nat) (h : 0 ≤ x.toInt) (hn : 1 ≤ n ∧ n < 2147483648) : (x / nI n).toInt = x.toInt / n := by
  have h1 := t_rng x
  have h2 : (nI n).toInt = (n : Int) := nI_toInt hn.2
  have h3 : 0 ≤ x.toInt / (n : Int) := Int.ediv_nonneg h (by omega)
  have h4 : x.toInt / (n : Int) ≤ x.toInt := Int.ediv_le_self _ h
  rw [Int32.toInt_div, h2, Int.tdiv_eq_ediv_of_nonneg h, Int.bmod_eq_of_le (by omega) (by omega)]
theorem t_rmn (x : Int32) (n : Nat) (h : 0 ≤ x.toInt) (hn : 1 ≤ n ∧ n < 2147483648) : (rm x (nI n)).toInt = x.toInt % n := by
  have h1 := t_rng x
  have h2 : (nI n).toInt = (n : Int) := nI_toInt hn.2
  have hd := t_divn x n h hn
  have h3 : 0 ≤ x.toInt / (n : Int) := Int.ediv_nonneg h (by omega)
  have e := Int.mul_ediv_add_emod x.toInt n
  have h5 : 0 ≤ x.toInt % (n : Int) := Int.emod_nonneg _ (by omega)
  have h6 : 0 ≤ (n : Int) * (x.toInt / n) := Int.mul_nonneg (by omega) h3
  have hm : (x / nI n * nI n).toInt = n * (x.toInt / n) := by
    rw [t_mul (by rw [hd, h2, Int.mul_comm]; omega), hd, h2, Int.mul_comm]
  have f := t_sub x (x / nI n * nI n)
  unfold rm
  omega
def kd (x : Int32) : Int := x.toInt / 1048576
def vl (x : Int32) : Int := x.toInt % 1048576
theorem kd_div {x : Int32} (h : 0 ≤ x.toInt) : (x / nI 1048576).toInt = kd x := t_divn x 1048576 h (by omega)
theorem vl_rm {x : Int32} (h : 0 ≤ x.toInt) : (rm x (nI 1048576)).toInt = vl x := t_rmn x 1048576 h (by omega)
theorem wd_mul {a : Int32} (h : 0 ≤ a.toInt ∧ a.toInt ≤ 14) : (nI 1048576 * a).toInt = 1048576 * a.toInt := by
  have h2 : (nI 1048576).toInt = 1048576 := nI_toInt (by omega)
  rw [t_mul (by rw [h2]; omega), h2]
theorem wd_is {a b : Int32} (h : 0 ≤ a.toInt ∧ a.toInt ≤ 14) (hb : 0 ≤ b.toInt ∧ b.toInt < 1048576) : 0 ≤ (nI 1048576 * a + b).toInt ∧ (nI 1048576 * a + b).toInt < 15 * 1048576 ∧ kd (nI 1048576 * a + b) = a.toInt ∧ vl (nI 1048576 * a + b) = b.toInt := by
  have e := wd_mul h
  have f := t_add (nI 1048576 * a) b
  unfold kd vl
  have e2 : (nI 1048576 * a + b).toInt = 1048576 * a.toInt + b.toInt := by omega
  rw [e2]
  omega
theorem wd_0 {a : Int32} (h : 0 ≤ a.toInt ∧ a.toInt ≤ 14) : 0 ≤ (nI 1048576 * a).toInt ∧ (nI 1048576 * a).toInt < 15 * 1048576 ∧ kd (nI 1048576 * a) = a.toInt ∧ vl (nI 1048576 * a) = 0 := by
  have e := wd_mul h
  unfold kd vl
  rw [e]
  omega
theorem kd_bd {x : Int32} (h : 0 ≤ x.toInt) : 0 ≤ kd x ∧ 0 ≤ vl x ∧ vl x < 1048576 := by unfold kd vl; omega
/-! the depth ahead of each code; the waiting ones -/
def ef (k : Int) : Int := if k ≤ 1 then 1 else if k = 10 then 0 else -1
theorem ef_le (k : Int) : ef k ≤ 1 := by
  unfold ef
  by_cases h : k ≤ 1
  · rw [if_pos h]; omega
  · rw [if_neg h]
    by_cases h2 : k = 10
    · rw [if_pos h2]; omega
    · rw [if_neg h2]; omega
theorem ef_1 {k : Int} (h : k ≤ 1) : ef k = 1 := if_pos h
theorem ef_10 : ef 10 = 0 := by decide
theorem ef_m {k : Int} (h : 2 ≤ k) (h2 : ¬ k = 10) : ef k = -1 := by
  unfold ef
  rw [if_neg (by omega), if_neg h2]
def dP (f : Nat → Int32) : Nat → Int
  | 0 => 0
  | n + 1 => dP f n + ef (kd (f n))
def aN (g : Nat → Int32) : Nat → Nat
  | 0 => 0
  | n + 1 => aN g n + (if kd (g n) = 11 ∨ kd (g n) = 12 then 0 else 1)
def sN (g : Nat → Int32) : Nat → Nat
  | 0 => 0
  | n + 1 => sN g n + (if 2 ≤ kd (g n) ∧ kd (g n) ≤ 6 then 1 else 0)
theorem dP_s (f : Nat → Int32) (n : Nat) : dP f (n + 1) = dP f n + ef (kd (f n)) := rfl
theorem dP_kd {f f' : Nat → Int32} : ∀ n, (∀ k, k < n → kd (f k) = kd (f' k)) → dP f n = dP f' n
  | 0, _ => rfl
  | n + 1, h => by rw [dP_s, dP_s, dP_kd n (fun k hk => h k (by omega)), h n (by omega)]
theorem dP_ext {f f' : Nat → Int32} (n : Nat) (h : ∀ k, k < n → f k = f' k) : dP f n = dP f' n := dP_kd n (fun k hk => by rw [h k hk])
theorem dP_le (f : Nat → Int32) (a : Nat) : ∀ n, dP f (a + n) ≤ dP f a + n
  | 0 => by simp
  | n + 1 => by
    have h1 := dP_le f a n
    have h2 := ef_le (kd (f (a + n)))
    rw [show a + (n + 1) = (a + n) + 1 from rfl, dP_s]
    omega
theorem aN_s (g : Nat → Int32) (n : Nat) : aN g (n + 1) = aN g n + (if kd (g n) = 11 ∨ kd (g n) = 12 then 0 else 1) := rfl
theorem aN_1 {g : Nat → Int32} {n : Nat} (h : ¬ (kd (g n) = 11 ∨ kd (g n) = 12)) : aN g (n + 1) = aN g n + 1 := by rw [aN_s, if_neg h]
theorem aN_0 {g : Nat → Int32} {n : Nat} (h : kd (g n) = 11 ∨ kd (g n) = 12) : aN g (n + 1) = aN g n := by rw [aN_s, if_pos h]; rfl
theorem aN_b (g : Nat → Int32) (n : Nat) : aN g n ≤ aN g (n + 1) ∧ aN g (n + 1) ≤ aN g n + 1 := by
  by_cases h : kd (g n) = 11 ∨ kd (g n) = 12
  · rw [aN_0 h]; omega
  · rw [aN_1 h]; omega
theorem aN_ext {g g' : Nat → Int32} : ∀ n, (∀ k, k < n → g k = g' k) → aN g n = aN g' n
  | 0, _ => rfl
  | n + 1, h => by rw [aN_s, aN_s, aN_ext n (fun k hk => h k (by omega)), h n (by omega)]
theorem sN_s (g : Nat → Int32) (n : Nat) : sN g (n + 1) = sN g n + (if 2 ≤ kd (g n) ∧ kd (g n) ≤ 6 then 1 else 0) := rfl
theorem sN_1 {g : Nat → Int32} {n : Nat} (h : 2 ≤ kd (g n) ∧ kd (g n) ≤ 6) : sN g (n + 1) = sN g n + 1 := by rw [sN_s, if_pos h]
theorem sN_0 {g : Nat → Int32} {n : Nat} (h : ¬ (2 ≤ kd (g n) ∧ kd (g n) ≤ 6)) : sN g (n + 1) = sN g n := by rw [sN_s, if_neg h]; rfl
theorem sN_ext {g g' : Nat → Int32} : ∀ n, (∀ k, k < n → g k = g' k) → sN g n = sN g' n
  | 0, _ => rfl
  | n + 1, h => by rw [sN_s, sN_s, sN_ext n (fun k hk => h k (by omega)), h n (by omega)]
theorem sN_mono (g : Nat → Int32) (a : Nat) : ∀ n, sN g a ≤ sN g (a + n)
  | 0 => Nat.le_refl _
  | n + 1 => by
    have h1 := sN_mono g a n
    rw [show a + (n + 1) = (a + n) + 1 from rfl, sN_s]
    omega
theorem upd_e {f : Nat → Int32} {i : Nat} {x : Int32} : upd f i x i = x := by simp [upd]
theorem upd_o {f : Nat → Int32} {i j : Nat} {x : Int32} (h : ¬ j = i) : upd f i x j = f j := by simp [upd, h]
/-! room for what is written -/
def Pst (g : Nat → Int32) (c w p n : Nat) : Prop := w ≤ p ∧ c + aN g w ≤ p ∧ p ≤ n ∧ n ≤ 240 ∧ ∀ t, t < w → 0 ≤ (g t).toInt ∧ (g t).toInt < 15 * 1048576
theorem pst_push {g : Nat → Int32} {c w p n : Nat} {x : Int32} (h : Pst g c w p n) (hp : p < n) (hx : 0 ≤ x.toInt ∧ x.toInt < 15 * 1048576) : Pst (upd g w x) c (w + 1) (p + 1) n := by
  obtain ⟨h1, h2, h3, h4, h5⟩ := h
  have e := aN_b (upd g w x) w
  rw [aN_ext (g := upd g w x) (g' := g) w (fun k hk => upd_o (by omega))] at e
  refine ⟨by omega, by omega, by omega, h4, fun t ht => ?_⟩
  by_cases e2 : t = w
  · rw [e2, upd_e]; exact hx
  · rw [upd_o e2]; exact h5 t (by omega)
theorem pst_jump {g : Nat → Int32} {c w p n : Nat} {x : Int32} (h : Pst g c w p n) (hp : p < n) (hx : 0 ≤ x.toInt ∧ x.toInt < 15 * 1048576) (hk : kd x = 11 ∨ kd x = 12) : Pst (upd g w x) (c + 1) (w + 1) (p + 1) n := by
  obtain ⟨h1, h2, h3, h4, h5⟩ := h
  have e := aN_0 (g := upd g w x) (n := w) (by rw [upd_e]; exact hk)
  rw [aN_ext (g := upd g w x) (g' := g) w (fun k hk => upd_o (by omega))] at e
  refine ⟨by omega, by omega, by omega, h4, fun t ht => ?_⟩
  by_cases e2 : t = w
  · rw [e2, upd_e]; exact hx
  · rw [upd_o e2]; exact h5 t (by omega)
theorem pst_pop {g : Nat → Int32} {c w p n : Nat} (h : Pst g c (w + 1) p n) : Pst g c w p n := by
  obtain ⟨h1, h2, h3, h4, h5⟩ := h
  have e := aN_b g w
  exact ⟨by omega, by omega, h3, h4, fun t ht => h5 t (by omega)⟩
theorem pst_popn {g : Nat → Int32} {c w p n : Nat} (h : Pst g c (w + 1) p n) (hk : ¬ (kd (g w) = 11 ∨ kd (g w) = 12)) : Pst g (c + 1) w p n := by
  obtain ⟨h1, h2, h3, h4, h5⟩ := h
  have e := aN_1 hk
  exact ⟨by omega, by omega, h3, h4, fun t ht => h5 t (by omega)⟩
theorem pst_note {g : Nat → Int32} {c w p q n : Nat} (h : Pst g c w p n) (hq : p < q ∧ q ≤ n) : Pst g (c + 1) w q n := by
  obtain ⟨h1, h2, h3, h4, h5⟩ := h
  exact ⟨by omega, by omega, hq.2, h4, h5⟩
theorem pst_go {g : Nat → Int32} {c w p q n : Nat} (h : Pst g c w p n) (hq : p ≤ q ∧ q ≤ n) : Pst g c w q n := by
  obtain ⟨h1, h2, h3, h4, h5⟩ := h
  exact ⟨by omega, by omega, hq.2, h4, h5⟩
/-! a sum -/
def Sok (f : Nat → Int32) (a k : Nat) : Prop := 0 ≤ (f k).toInt ∧ kd (f k) ≤ 6 ∧ (kd (f k) = 1 → vl (f k) < 8) ∧ dP f a ≤ dP f k ∧ (2 ≤ kd (f k) → dP f a + 2 ≤ dP f k)
theorem sok_ext {f f' : Nat → Int32} {a k : Nat} (h : Sok f a k) (ha : a ≤ k) (he : ∀ j, j ≤ k → f' j = f j) : Sok f' a k := by
  unfold Sok at *
  rw [he k (Nat.le_refl _), dP_ext (f := f') (f' := f) a (fun j hj => he j (by omega)), dP_ext (f := f') (f' := f) k (fun j hj => he j (by omega))]
  exact h
def Sm (f g : Nat → Int32) (c w c0 x : Nat) (e : Int) : Prop := c0 ≤ c ∧ x ≤ w ∧ (∀ t, x ≤ t → t < w → (2 ≤ kd (g t) ∧ kd (g t) ≤ 6) ∨ kd (g t) = 14) ∧ dP f c = dP f c0 + (sN g w : Int) - (sN g x : Int) + e ∧ ∀ k, c0 ≤ k → k < c → Sok f c0 k
theorem sm_begin {f g : Nat → Int32} {c w : Nat} : Sm f g c w c w 0 := ⟨Nat.le_refl _, Nat.le_refl _, fun t h1 h2 => absurd h2 (by omega), by omega, fun k h1 h2 => absurd h2 (by omega)⟩
theorem sm_note {f f' g : Nat → Int32} {c w c0 x : Nat} (h : Sm f g c w c0 x 0) (he : ∀ k, k < c → f' k = f k) (h0 : 0 ≤ (f' c).toInt) (hk : kd (f' c) ≤ 1) (hv : kd (f' c) = 1 → vl (f' c) < 8) : Sm f' g (c + 1) w c0 x 1 := by
  obtain ⟨h1, h2, h3, h4, h5⟩ := h
  have e0 := dP_ext (f := f') (f' := f) c0 (fun j hj => he j (by omega))
  have e1 := dP_ext (f := f') (f' := f) c (fun j hj => he j (by omega))
  have e2 := sN_mono g x (w - x)
  rw [show x + (w - x) = w from by omega] at e2
  refine ⟨by omega, h2, h3, ?_, fun k hk1 hk2 => ?_⟩
  · rw [dP_s, e0, e1, ef_1 hk]; omega
  · by_cases e : k = c
    · rw [e]
      refine ⟨h0, by omega, hv, by omega, fun z => absurd z (by omega)⟩
    · exact sok_ext (h5 k hk1 (by omega)) hk1 (fun j hj => he j (by omega))
theorem sm_open {f g : Nat → Int32} {c w c0 x : Nat} {e : Int} {v : Int32} (h : Sm f g c w c0 x e) (hk : kd v = 14) : Sm f (upd g w v) c (w + 1) c0 x e := by
  obtain ⟨h1, h2, h3, h4, h5⟩ := h
  have e1 := sN_ext (g := upd g w v) (g' := g) w (fun k hk => upd_o (by omega))
  have e2 := sN_ext (g := upd g w v) (g' := g) x (fun k hk => upd_o (by omega))
  have e3 := sN_0 (g := upd g w v) (n := w) (by rw [upd_e]; omega)
  refine ⟨h1, by omega, fun t ht1 ht2 => ?_, by omega, h5⟩
  by_cases e4 : t = w
  · rw [e4, upd_e]; exact Or.inr hk
  · rw [upd_o e4]; exact h3 t ht1 (by omega)
theorem sm_op {f g : Nat → Int32} {c w c0 x : Nat} {v : Int32} (h : Sm f g c w c0 x 1) (hk : 2 ≤ kd v ∧ kd v ≤ 6) : Sm f (upd g w v) c (w + 1) c0 x 0 := by
  obtain ⟨h1, h2, h3, h4, h5⟩ := h
  have e1 := sN_ext (g := upd g w v) (g' := g) w (fun k hk => upd_o (by omega))
  have e2 := sN_ext (g := upd g w v) (g' := g) x (fun k hk => upd_o (by omega))
  have e3 := sN_1 (g := upd g w v) (n := w) (by rw [upd_e]; exact hk)
  refine ⟨h1, by omega, fun t ht1 ht2 => ?_, by omega, h5⟩
  by_cases e4 : t = w
  · rw [e4, upd_e]; exact Or.inl hk
  · rw [upd_o e4]; exact h3 t ht1 (by omega)
theorem sm_popn {f f' g : Nat → Int32} {c w c0 x : Nat} (h : Sm f g c (w + 1) c0 x 1) (hw : x ≤ w) (hk : 2 ≤ kd (g w) ∧ kd (g w) ≤ 6) (he : ∀ k, k < c → f' k = f k) (h0 : 0 ≤ (f' c).toInt) (hc : kd (f' c) = kd (g w)) : Sm f' g (c + 1) w c0 x 1 := by
  obtain ⟨h1, h2, h3, h4, h5⟩ := h
  have e0 := dP_ext (f := f') (f' := f) c0 (fun j hj => he j (by omega))
  have e1 := dP_ext (f := f') (f' := f) c (fun j hj => he j (by omega))
  have e2 := sN_mono g x (w - x)
  rw [show x + (w - x) = w from by omega] at e2
  have e3 := sN_1 hk
  refine ⟨by omega, hw, fun t ht1 ht2 => h3 t ht1 (by omega), ?_, fun k hk1 hk2 => ?_⟩
  · rw [dP_s, e0, e1, ef_m (by omega) (by omega)]; omega
  · by_cases e : k = c
    · rw [e]
      exact ⟨h0, by omega, fun z => absurd z (by omega), by omega, fun z => by omega⟩
    · exact sok_ext (h5 k hk1 (by omega)) hk1 (fun j hj => he j (by omega))
theorem sm_pop {f g : Nat → Int32} {c w c0 x : Nat} {e : Int} (h : Sm f g c (w + 1) c0 x e) (hw : x ≤ w) (hk : kd (g w) = 14) : Sm f g c w c0 x e := by
  obtain ⟨h1, h2, h3, h4, h5⟩ := h
  have e3 := sN_0 (g := g) (n := w) (by omega)
  exact ⟨h1, hw, fun t ht1 ht2 => h3 t ht1 (by omega), by omega, h5⟩
/-! a test -/
def Tok (f : Nat → Int32) (a k : Nat) (Q : Prop) : Prop := 0 ≤ (f k).toInt ∧ kd (f k) ≤ 12 ∧ (kd (f k) = 1 → vl (f k) < 8) ∧ dP f a ≤ dP f k ∧ (2 ≤ kd (f k) → kd (f k) ≤ 9 → dP f a + 2 ≤ dP f k) ∧ (kd (f k) = 10 → dP f a + 1 ≤ dP f k) ∧ (11 ≤ kd (f k) → dP f k = dP f a + 1 ∧ Q)
def Lnd (f : Nat → Int32) (a b k : Nat) : Prop := (k : Int) < vl (f k) ∧ vl (f k) ≤ b ∧ dP f (vl (f k)).toNat = dP f a + 1
def Seg (f : Nat → Int32) (a b : Nat) : Prop := ∀ k, a ≤ k → k < b → Tok f a k (Lnd f a b k)
theorem tok_of {f f' : Nat → Int32} {a k : Nat} {Q Q' : Prop} (h : Tok f a k Q) (ha : a ≤ k) (he : ∀ j, j ≤ k → f' j = f j) (hq : 11 ≤ kd (f k) → Q → Q') : Tok f' a k Q' := by
  unfold Tok at *
  rw [he k (Nat.le_refl _), dP_ext (f := f') (f' := f) a (fun j hj => he j (by omega)), dP_ext (f := f') (f' := f) k (fun j hj => he j (by omega))]
  obtain ⟨h1, h2, h3, h4, h5, h6, h7⟩ := h
  exact ⟨h1, h2, h3, h4, h5, h6, fun z => ⟨(h7 z).1, hq z (h7 z).2⟩⟩
theorem lnd_ext {f f' : Nat → Int32} {a b b' k : Nat} (h : Lnd f a b k) (h0 : 0 ≤ (f k).toInt) (ha : a ≤ k) (hk : k < b) (hb : b ≤ b') (he : ∀ j, j < b → f' j = f j) : Lnd f' a b' k := by
  obtain ⟨h1, h2, h3⟩ := h
  have hv := kd_bd h0
  unfold Lnd
  rw [he k hk, dP_ext (f := f') (f' := f) a (fun j hj => he j (by omega)), dP_ext (f := f') (f' := f) (vl (f k)).toNat (fun j hj => he j (by omega))]
  exact ⟨h1, by omega, h3⟩
theorem seg_ext {f f' : Nat → Int32} {a b : Nat} (h : Seg f a b) (he : ∀ j, j < b → f' j = f j) : Seg f' a b := fun k h1 h2 =>
  tok_of (h k h1 h2) h1 (fun j hj => he j (by omega)) (fun _ q => lnd_ext q (h k h1 h2).1 h1 h2 (Nat.le_refl _) he)
theorem sok_seg {f : Nat → Int32} {a b : Nat} (h : ∀ k, a ≤ k → k < b → Sok f a k) : Seg f a b := fun k h1 h2 => by
  obtain ⟨s1, s2, s3, s4, s5⟩ := h k h1 h2
  exact ⟨s1, by omega, s3, s4, fun z _ => s5 z, fun z => absurd z (by omega), fun z => absurd z (by omega)⟩
def Pnd (g : Nat → Int32) (w k : Nat) : Prop := ∃ t, t < w ∧ (kd (g t) = 11 ∨ kd (g t) = 12) ∧ vl (g t) = k
def Tm (f g : Nat → Int32) (c w c1 : Nat) (e : Int) : Prop := c1 ≤ c ∧ 1 ≤ w ∧ kd (g 0) = 13 ∧ (∀ t, t < w → 10 ≤ kd (g t) ∧ kd (g t) ≤ 13 ∧ (kd (g t) = 11 ∨ kd (g t) = 12 → (c1 : Int) ≤ vl (g t) ∧ vl (g t) < c ∧ 11 ≤ kd (f (vl (g t)).toNat))) ∧ dP f c = dP f c1 + e ∧ ∀ k, c1 ≤ k → k < c → Tok f c1 k (Pnd g w k ∨ Lnd f c1 c k)
theorem tm_begin {f g : Nat → Int32} {c : Nat} (h : kd (g 0) = 13) : Tm f g c 1 c 0 := ⟨Nat.le_refl _, Nat.le_refl _, h, fun t ht => by
  rw [show t = 0 from by omega, h]
  exact ⟨by omega, by omega, fun z => absurd z (by omega)⟩, by omega, fun k h1 h2 => absurd h2 (by omega)⟩
theorem pnd_up {g : Nat → Int32} {w k : Nat} {v : Int32} (h : Pnd g w k) : Pnd (upd g w v) (w + 1) k := by
  obtain ⟨t, h1, h2, h3⟩ := h
  exact ⟨t, by omega, by rw [upd_o (by omega)]; exact h2, by rw [upd_o (by omega)]; exact h3⟩
theorem tm_open {f g : Nat → Int32} {c w c1 : Nat} {e : Int} {v : Int32} (h : Tm f g c w c1 e) (hk : kd v = 10 ∨ kd v = 13) : Tm f (upd g w v) c (w + 1) c1 e := by
  obtain ⟨h1, h2, h3, h4, h5, h6⟩ := h
  refine ⟨h1, by omega, by rw [upd_o (by omega)]; exact h3, fun t ht => ?_, h5, fun k hk1 hk2 => tok_of (h6 k hk1 hk2) hk1 (fun _ _ => rfl) (fun _ q => q.elim (fun q => Or.inl (pnd_up q)) Or.inr)⟩
  by_cases e4 : t = w
  · rw [e4, upd_e]; exact ⟨by omega, by omega, fun z => absurd z (by omega)⟩
  · rw [upd_o e4]; exact h4 t (by omega)
/-- new codes without jumps behind the old ones -/
theorem tm_more {f f' g : Nat → Int32} {c c' w c1 : Nat} {e e' : Int} (h : Tm f g c w c1 e) (hc : c ≤ c') (he : ∀ k, k < c → f' k = f k) (hd : dP f' c' = dP f' c1 + e') (hn : ∀ k, c ≤ k → k < c' → Tok f' c1 k False) : Tm f' g c' w c1 e' := by
  obtain ⟨h1, h2, h3, h4, h5, h6⟩ := h
  refine ⟨by omega, h2, h3, fun t ht => ?_, hd, fun k hk1 hk2 => ?_⟩
  · obtain ⟨a1, a2, a3⟩ := h4 t ht
    refine ⟨a1, a2, fun z => ?_⟩
    have := a3 z
    rw [he _ (by omega)]
    exact ⟨this.1, by omega, this.2.2⟩
  · by_cases e4 : k < c
    · exact tok_of (h6 k hk1 e4) hk1 (fun j hj => he j (by omega)) (fun _ q => q.elim Or.inl (fun q => Or.inr (lnd_ext q (h6 k hk1 e4).1 hk1 e4 hc he)))
    · obtain ⟨a1, a2, a3, a4, a5, a6, a7⟩ := hn k (by omega) hk2
      exact ⟨a1, a2, a3, a4, a5, a6, fun z => absurd (a7 z).2 id⟩
theorem tm_sum {f f' g : Nat → Int32} {c c' w c1 : Nat} {e : Int} (h : Tm f g c w c1 e) (h0 : 0 ≤ e) (hc : c ≤ c') (he : ∀ k, k < c → f' k = f k) (hd : dP f' c' = dP f' c + 1) (hn : ∀ k, c ≤ k → k < c' → Sok f' c k) : Tm f' g c' w c1 (e + 1) := by
  have e0 := dP_ext (f := f') (f' := f) c1 (fun j hj => he j (by have := h.1; omega))
  have e1 := dP_ext (f := f') (f' := f) c (fun j hj => he j hj)
  have e2 := h.2.2.2.2.1
  refine tm_more h hc he (by omega) (fun k h1 h2 => ?_)
  obtain ⟨s1, s2, s3, s4, s5⟩ := hn k h1 h2
  exact ⟨s1, by omega, s3, by omega, fun z _ => by have := s5 z; omega, fun z => absurd z (by omega), fun z => absurd z (by omega)⟩
theorem tm_cmp {f f' g : Nat → Int32} {c w c1 : Nat} (h : Tm f g c w c1 2) (he : ∀ k, k < c → f' k = f k) (h0 : 0 ≤ (f' c).toInt) (hk : 7 ≤ kd (f' c) ∧ kd (f' c) ≤ 9) : Tm f' g (c + 1) w c1 1 := by
  have e0 := dP_ext (f := f') (f' := f) c1 (fun j hj => he j (by have := h.1; omega))
  have e1 := dP_ext (f := f') (f' := f) c (fun j hj => he j hj)
  have e2 := h.2.2.2.2.1
  refine tm_more h (by omega) he (by rw [dP_s, ef_m (by omega) (by omega)]; omega) (fun k h1 h2 => ?_)
  rw [show k = c from by omega]
  exact ⟨h0, by omega, fun z => absurd z (by omega), by omega, fun _ _ => by omega, fun z => absurd z (by omega), fun z => absurd z (by omega)⟩
theorem tm_pop {f g : Nat → Int32} {c w c1 : Nat} {e : Int} (h : Tm f g c (w + 1) c1 e) (hw : 1 ≤ w) (hk : ¬ (kd (g w) = 11 ∨ kd (g w) = 12)) : Tm f g c w c1 e := by
  obtain ⟨h1, h2, h3, h4, h5, h6⟩ := h
  refine ⟨h1, hw, h3, fun t ht => h4 t (by omega), h5, fun k hk1 hk2 => tok_of (h6 k hk1 hk2) hk1 (fun _ _ => rfl) (fun _ q => q.elim (fun q => ?_) Or.inr)⟩
  obtain ⟨t, t1, t2, t3⟩ := q
  by_cases e4 : t = w
  · rw [e4] at t2; exact absurd t2 hk
  · exact Or.inl ⟨t, by omega, t2, t3⟩
theorem tm_not {f f' g : Nat → Int32} {c w c1 : Nat} (h : Tm f g c (w + 1) c1 1) (hk : kd (g w) = 10) (he : ∀ k, k < c → f' k = f k) (h0 : 0 ≤ (f' c).toInt) (hc : kd (f' c) = 10) : Tm f' g (c + 1) w c1 1 := by
  have hw : 1 ≤ w := by
    by_cases e4 : w = 0
    · have := h.2.2.1
      rw [e4] at hk
      omega
    · omega
  have e0 := dP_ext (f := f') (f' := f) c1 (fun j hj => he j (by have := h.1; omega))
  have e1 := dP_ext (f := f') (f' := f) c (fun j hj => he j hj)
  have e2 := h.2.2.2.2.1
  refine tm_more (tm_pop h hw (by omega)) (by omega) he (by rw [dP_s, hc, ef_10]; omega) (fun k h1 h2 => ?_)
  rw [show k = c from by omega]
  exact ⟨h0, by omega, fun z => absurd z (by omega), by omega, fun _ z => absurd z (by omega), fun z => by omega, fun z => absurd z (by omega)⟩
theorem tm_land {f f' g : Nat → Int32} {c w c1 : Nat} (h : Tm f g c (w + 1) c1 1) (hk : kd (g w) = 11 ∨ kd (g w) = 12) (he : ∀ k, ¬ k = (vl (g w)).toNat → f' k = f k) (h0 : 0 ≤ (f' (vl (g w)).toNat).toInt) (hc : kd (f' (vl (g w)).toNat) = kd (f (vl (g w)).toNat)) (hv : vl (f' (vl (g w)).toNat) = c) : Tm f' g c w c1 1 := by
  have hw : 1 ≤ w := by
    by_cases e4 : w = 0
    · have := h.2.2.1
      rw [e4] at hk
      omega
    · omega
  obtain ⟨h1, h2, h3, h4, h5, h6⟩ := h
  have hd : ∀ n, dP f' n = dP f n := fun n => dP_kd n (fun k _ => by
    by_cases e : k = (vl (g w)).toNat
    · rw [e]; exact hc
    · rw [he k e])
  have hkd : ∀ k, kd (f' k) = kd (f k) := fun k => by
    by_cases e : k = (vl (g w)).toNat
    · rw [e]; exact hc
    · rw [he k e]
  have hb := (h4 w (by omega)).2.2 hk
  refine ⟨h1, hw, h3, fun t ht => ?_, by rw [hd, hd]; exact h5, fun k hk1 hk2 => ?_⟩
  · obtain ⟨a1, a2, a3⟩ := h4 t (by omega)
    exact ⟨a1, a2, fun z => by rw [hkd]; exact a3 z⟩
  · obtain ⟨a1, a2, a3, a4, a5, a6, a7⟩ := h6 k hk1 hk2
    by_cases e : k = (vl (g w)).toNat
    · have hx : 11 ≤ kd (f k) := by rw [e]; exact hb.2.2
      refine ⟨by rw [e]; exact h0, by rw [hkd]; exact a2, fun z => absurd z (by rw [hkd]; omega), by rw [hd, hd]; exact a4, fun _ z => absurd z (by rw [hkd]; omega), fun z => absurd z (by rw [hkd]; omega), fun _ => ⟨by rw [hd, hd]; exact (a7 hx).1, Or.inr ?_⟩⟩
      unfold Lnd
      rw [hd, hd, e, hv]
      refine ⟨by omega, by omega, ?_⟩
      rw [show ((c : Int)).toNat = c from by omega]
      exact h5
    · refine ⟨by rw [he k e]; exact a1, by rw [hkd]; exact a2, by rw [he k e]; exact a3, by rw [hd, hd]; exact a4, by rw [hkd, hd, hd]; exact a5, by rw [hkd, hd, hd]; exact a6, fun z => ?_⟩
      rw [hkd] at z
      refine ⟨by rw [hd, hd]; exact (a7 z).1, (a7 z).2.elim (fun q => ?_) (fun q => Or.inr ?_)⟩
      · obtain ⟨t, t1, t2, t3⟩ := q
        by_cases e4 : t = w
        · rw [e4] at t3
          exact absurd (by omega : k = (vl (g w)).toNat) e
        · exact Or.inl ⟨t, by omega, t2, t3⟩
      · unfold Lnd at *
        rw [hd, hd, he k e]
        exact q
theorem tm_jump {f f' g : Nat → Int32} {c w c1 : Nat} {v : Int32} (h : Tm f g c w c1 1) (he : ∀ k, k < c → f' k = f k) (h0 : 0 ≤ (f' c).toInt) (hk : kd (f' c) = 11 ∨ kd (f' c) = 12) (hv : kd v = 11 ∨ kd v = 12) (hx : vl v = c) : Tm f' (upd g w v) (c + 1) (w + 1) c1 0 := by
  have e0 := dP_ext (f := f') (f' := f) c1 (fun j hj => he j (by have := h.1; omega))
  have e1 := dP_ext (f := f') (f' := f) c (fun j hj => he j hj)
  obtain ⟨h1, h2, h3, h4, h5, h6⟩ := h
  refine ⟨by omega, by omega, by rw [upd_o (by omega)]; exact h3, fun t ht => ?_, by rw [dP_s, ef_m (by omega) (by omega)]; omega, fun k hk1 hk2 => ?_⟩
  · by_cases e4 : t = w
    · rw [e4, upd_e]
      refine ⟨by omega, by omega, fun _ => ⟨by omega, by omega, ?_⟩⟩
      rw [hx, show ((c : Int)).toNat = c from by omega]
      omega
    · rw [upd_o e4]
      obtain ⟨a1, a2, a3⟩ := h4 t (by omega)
      refine ⟨a1, a2, fun z => ?_⟩
      have := a3 z
      rw [he _ (by omega)]
      exact ⟨this.1, by omega, this.2.2⟩
  · by_cases e4 : k < c
    · exact tok_of (h6 k hk1 e4) hk1 (fun j hj => he j (by omega)) (fun _ q => q.elim (fun q => Or.inl (pnd_up q)) (fun q => Or.inr (lnd_ext q (h6 k hk1 e4).1 hk1 e4 (by omega) he)))
    · rw [show k = c from by omega]
      exact ⟨h0, by omega, fun z => absurd z (by omega), by omega, fun _ z => absurd z (by omega), fun z => absurd z (by omega), fun _ => ⟨by omega, Or.inl ⟨w, by omega, by rw [upd_e]; exact hv, by rw [upd_e]; exact hx⟩⟩⟩
theorem tm_end {f g : Nat → Int32} {c c1 : Nat} {e : Int} (h : Tm f g c 1 c1 e) : Seg f c1 c := fun k h1 h2 => by
  obtain ⟨a1, a2, a3, a4, a5, a6⟩ := h
  refine tok_of (a6 k h1 h2) h1 (fun _ _ => rfl) (fun _ q => q.elim (fun q => ?_) id)
  obtain ⟨t, t1, t2, t3⟩ := q
  rw [show t = 0 from by omega, a3] at t2
  omega
/-! the same of a memory -/
def PMm (M : Mem) : Prop := (0 ≤ (M 0 12).toInt ∧ 0 ≤ (M 0 13).toInt ∧ 0 ≤ (M 0 7).toInt ∧ 0 ≤ (M 0 8).toInt) ∧ Pst (M 7) (ix (M 0 12)) (ix (M 0 13)) (ix (M 0 7)) (ix (M 0 8))
theorem pm_bd {M : Mem} (h : PMm M) : (0 ≤ (M 0 12).toInt ∧ (M 0 12).toInt ≤ 240) ∧ (0 ≤ (M 0 13).toInt ∧ (M 0 13).toInt ≤ 240) ∧ 0 ≤ (M 0 7).toInt ∧ (M 0 7).toInt ≤ (M 0 8).toInt ∧ (M 0 8).toInt ≤ 240 := by
  obtain ⟨⟨a1, a2, a3, a4⟩, h1, h2, h3, h4, h5⟩ := h
  have e1 := t_ixn _ a1
  have e2 := t_ixn _ a2
  have e3 := t_ixn _ a3
  have e4 := t_ixn _ a4
  omega
theorem pm_hp {M : Mem} (h : PMm M) : 0 ≤ (M 0 7).toInt ∧ (M 0 7).toInt ≤ (M 0 8).toInt ∧ (M 0 8).toInt ≤ 240 := (pm_bd h).2.2
theorem pm_ix {M : Mem} (h : PMm M) : ((ix (M 0 12) : Nat) : Int) = (M 0 12).toInt ∧ ((ix (M 0 13) : Nat) : Int) = (M 0 13).toInt ∧ ((ix (M 0 7) : Nat) : Int) = (M 0 7).toInt ∧ ((ix (M 0 8) : Nat) : Int) = (M 0 8).toInt := by
  obtain ⟨⟨a1, a2, a3, a4⟩, -⟩ := h
  exact ⟨t_ixn _ a1, t_ixn _ a2, t_ixn _ a3, t_ixn _ a4⟩
theorem pm_top {M : Mem} (h : PMm M) {t : Nat} (ht : t < ix (M 0 13)) : 0 ≤ (M 7 t).toInt := (h.2.2.2.2.2 t ht).1
theorem i_up {x : Int32} (h : 0 ≤ x.toInt ∧ x.toInt ≤ 1000) : ix (x + nI 1) = ix x + 1 ∧ (x + nI 1).toInt = x.toInt + 1 := by
  have e := t_inc x 1 (by omega)
  have e1 := t_ixn x h.1
  have e2 := t_ixn (x + nI 1) (by omega)
  omega
theorem i_dn {x : Int32} (h : 1 ≤ x.toInt ∧ x.toInt ≤ 1000) : ix (x - nI 1) + 1 = ix x ∧ (x - nI 1).toInt = x.toInt - 1 := by
  have e := t_sub x (nI 1)
  have e0 := t_lit 1
  have e1 := t_ixn x (by omega)
  have e3 : (x - nI 1).toInt = x.toInt - 1 := by omega
  have e2 := t_ixn (x - nI 1) (by omega)
  omega
theorem i_dn1 {x : Int32} (h : 1 ≤ x.toInt ∧ x.toInt ≤ 1000) : ix (x - nI 1) = ix x - 1 := by
  have := i_dn h
  omega
theorem pm_push {M N : Mem} {v : Int32} (h : PMm M) (hp : (M 0 7).toInt < (M 0 8).toInt) (h13 : N 0 13 = M 0 13 + nI 1) (r7 : N 7 = upd (M 7) (ix (M 0 13)) v) (h7 : N 0 7 = M 0 7 + nI 1) (h12 : N 0 12 = M 0 12) (h8 : N 0 8 = M 0 8) (hv : 0 ≤ v.toInt ∧ v.toInt < 15 * 1048576) : PMm N := by
  have hb := pm_bd h
  have hx := pm_ix h
  obtain ⟨e1, e2⟩ := i_up (x := M 0 13) (by omega)
  obtain ⟨e3, e4⟩ := i_up (x := M 0 7) (by omega)
  unfold PMm
  rw [h12, h13, h7, h8, r7, e1, e3]
  exact ⟨by omega, pst_push h.2 (by omega) hv⟩
theorem pm_go {M N : Mem} (h : PMm M) (h7 : (M 0 7).toInt ≤ (N 0 7).toInt ∧ (N 0 7).toInt ≤ (M 0 8).toInt) (h12 : N 0 12 = M 0 12) (h13 : N 0 13 = M 0 13) (h8 : N 0 8 = M 0 8) (r7 : N 7 = M 7) : PMm N := by
  have hb := pm_bd h
  have hx := pm_ix h
  have e := t_ixn (N 0 7) (by omega)
  unfold PMm
  rw [h12, h13, h8, r7]
  exact ⟨by omega, pst_go h.2 (by omega)⟩
theorem pm_note {M N : Mem} (h : PMm M) (h7 : (M 0 7).toInt < (N 0 7).toInt ∧ (N 0 7).toInt ≤ (M 0 8).toInt) (h12 : N 0 12 = M 0 12 + nI 1) (h13 : N 0 13 = M 0 13) (h8 : N 0 8 = M 0 8) (r7 : N 7 = M 7) : PMm N := by
  have hb := pm_bd h
  have hx := pm_ix h
  have e := t_ixn (N 0 7) (by omega)
  obtain ⟨e1, e2⟩ := i_up (x := M 0 12) (by omega)
  unfold PMm
  rw [h12, h13, h8, r7, e1]
  exact ⟨by omega, pst_note h.2 (by omega)⟩
theorem pm_popn {M N : Mem} (h : PMm M) (hw : 0 < ix (M 0 13)) (hk : ¬ (kd (M 7 (ix (M 0 13) - 1)) = 11 ∨ kd (M 7 (ix (M 0 13) - 1)) = 12)) (h12 : N 0 12 = M 0 12 + nI 1) (h13 : N 0 13 = M 0 13 - nI 1) (h7 : N 0 7 = M 0 7) (h8 : N 0 8 = M 0 8) (r7 : N 7 = M 7) : PMm N := by
  have hb := pm_bd h
  have hx := pm_ix h
  obtain ⟨e1, e2⟩ := i_up (x := M 0 12) (by omega)
  obtain ⟨e3, e4⟩ := i_dn (x := M 0 13) (by omega)
  have hs := h.2
  rw [← e3] at hs
  rw [← e3, Nat.add_sub_cancel] at hk
  unfold PMm
  rw [h12, h13, h7, h8, r7, e1]
  exact ⟨by omega, pst_popn hs hk⟩
theorem pm_pop {M N : Mem} (h : PMm M) (hw : 0 < ix (M 0 13)) (h7 : (M 0 7).toInt ≤ (N 0 7).toInt ∧ (N 0 7).toInt ≤ (M 0 8).toInt) (h12 : N 0 12 = M 0 12) (h13 : N 0 13 = M 0 13 - nI 1) (h8 : N 0 8 = M 0 8) (r7 : N 7 = M 7) : PMm N := by
  have hb := pm_bd h
  have hx := pm_ix h
  have e := t_ixn (N 0 7) (by omega)
  obtain ⟨e3, e4⟩ := i_dn (x := M 0 13) (by omega)
  have hs := h.2
  rw [← e3] at hs
  unfold PMm
  rw [h12, h13, h8, r7]
  exact ⟨by omega, pst_go (pst_pop hs) (by omega)⟩
/-! a sum that is being read, from memory B on -/
def RS (B M : Mem) (e : Int) : Prop := PMm M ∧ Sm (M 6) (M 7) (ix (M 0 12)) (ix (M 0 13)) (ix (B 0 12)) (ix (B 0 13)) e ∧ (∀ k, k < ix (B 0 12) → M 6 k = B 6 k) ∧ (∀ t, t < ix (B 0 13) → M 7 t = B 7 t) ∧ M 0 8 = B 0 8 ∧ (ix (M 0 12) + aN (M 7) (ix (M 0 13)) + ix (B 0 7) ≤ ix (M 0 7) + ix (B 0 12) + aN (B 7) (ix (B 0 13))) ∧ (ix (B 0 13) = 0 ∨ 6 < kd (B 7 (ix (B 0 13) - 1)))
theorem rs_begin {M : Mem} (h : PMm M) (hb : ix (M 0 13) = 0 ∨ 6 < kd (M 7 (ix (M 0 13) - 1))) : RS M M 0 := ⟨h, sm_begin, fun _ _ => rfl, fun _ _ => rfl, rfl, by omega, hb⟩
theorem rs_note {B M N : Mem} (h : RS B M 0) (h12 : N 0 12 = M 0 12 + nI 1) (h13 : N 0 13 = M 0 13) (h8 : N 0 8 = M 0 8) (h7 : (M 0 7).toInt < (N 0 7).toInt ∧ (N 0 7).toInt ≤ (M 0 8).toInt) (r7 : N 7 = M 7) (r6 : ∀ k, ¬ k = ix (M 0 12) → N 6 k = M 6 k) (h0 : 0 ≤ (N 6 (ix (M 0 12))).toInt) (hk : kd (N 6 (ix (M 0 12))) ≤ 1) (hv : kd (N 6 (ix (M 0 12))) = 1 → vl (N 6 (ix (M 0 12))) < 8) : RS B N 1 := by
  obtain ⟨a1, a2, a3, a4, a5, a6, a7⟩ := h
  have hb := pm_bd a1
  have hx := pm_ix a1
  have e := t_ixn (N 0 7) (by omega)
  obtain ⟨e1, e2⟩ := i_up (x := M 0 12) (by omega)
  have hc := a2.1
  refine ⟨pm_note a1 h7 h12 h13 h8 r7, ?_, fun k hk => ?_, fun t ht => by rw [r7]; exact a4 t ht, by rw [h8, a5], ?_, a7⟩
  · rw [h12, h13, r7, e1]
    exact sm_note a2 (fun k hk => r6 k (by omega)) h0 hk hv
  · rw [r6 k (by omega)]; exact a3 k hk
  · rw [h12, h13, r7, e1]; omega
theorem rs_open {B M N : Mem} {v : Int32} (h : RS B M 0) (hp : (M 0 7).toInt < (M 0 8).toInt) (h13 : N 0 13 = M 0 13 + nI 1) (r7 : N 7 = upd (M 7) (ix (M 0 13)) v) (h7 : N 0 7 = M 0 7 + nI 1) (h12 : N 0 12 = M 0 12) (h8 : N 0 8 = M 0 8) (r6 : N 6 = M 6) (hv : 0 ≤ v.toInt ∧ v.toInt < 15 * 1048576) (hk : kd v = 14) : RS B N 0 := by
  obtain ⟨a1, a2, a3, a4, a5, a6, a7⟩ := h
  have hb := pm_bd a1
  obtain ⟨e1, e2⟩ := i_up (x := M 0 13) (by omega)
  obtain ⟨e3, e4⟩ := i_up (x := M 0 7) (by omega)
  have hc := a2.2.1
  refine ⟨pm_push a1 hp h13 r7 h7 h12 h8 hv, ?_, by rw [r6]; exact a3, fun t ht => ?_, by rw [h8, a5], ?_, a7⟩
  · rw [h12, h13, r7, r6, e1]; exact sm_open a2 hk
  · rw [r7, upd_o (by omega)]; exact a4 t ht
  · rw [h12, h13, r7, h7, e1, e3]
    have e := aN_b (upd (M 7) (ix (M 0 13)) v) (ix (M 0 13))
    rw [aN_ext (g := upd (M 7) (ix (M 0 13)) v) (g' := M 7) (ix (M 0 13)) (fun k hk => upd_o (by omega))] at e
    omega
theorem rs_op {B M N : Mem} {v : Int32} (h : RS B M 1) (hp : (M 0 7).toInt < (M 0 8).toInt) (h13 : N 0 13 = M 0 13 + nI 1) (r7 : N 7 = upd (M 7) (ix (M 0 13)) v) (h7 : N 0 7 = M 0 7 + nI 1) (h12 : N 0 12 = M 0 12) (h8 : N 0 8 = M 0 8) (r6 : N 6 = M 6) (hv : 0 ≤ v.toInt ∧ v.toInt < 15 * 1048576) (hk : 2 ≤ kd v ∧ kd v ≤ 6) : RS B N 0 := by
  obtain ⟨a1, a2, a3, a4, a5, a6, a7⟩ := h
  have hb := pm_bd a1
  obtain ⟨e1, e2⟩ := i_up (x := M 0 13) (by omega)
  obtain ⟨e3, e4⟩ := i_up (x := M 0 7) (by omega)
  have hc := a2.2.1
  refine ⟨pm_push a1 hp h13 r7 h7 h12 h8 hv, ?_, by rw [r6]; exact a3, fun t ht => ?_, by rw [h8, a5], ?_, a7⟩
  · rw [h12, h13, r7, r6, e1]; exact sm_op a2 hk
  · rw [r7, upd_o (by omega)]; exact a4 t ht
  · rw [h12, h13, r7, h7, e1, e3]
    have e := aN_b (upd (M 7) (ix (M 0 13)) v) (ix (M 0 13))
    rw [aN_ext (g := upd (M 7) (ix (M 0 13)) v) (g' := M 7) (ix (M 0 13)) (fun k hk => upd_o (by omega))] at e
    omega
theorem rs_in {B M : Mem} {e : Int} (h : RS B M e) (hw : 0 < ix (M 0 13)) (hk : 2 ≤ kd (M 7 (ix (M 0 13) - 1)) ∧ kd (M 7 (ix (M 0 13) - 1)) ≤ 6) : ix (B 0 13) < ix (M 0 13) := by
  obtain ⟨a1, a2, a3, a4, a5, a6, a7⟩ := h
  have hc := a2.2.1
  by_cases e1 : ix (B 0 13) = ix (M 0 13)
  · rcases a7 with q | q
    · omega
    · rw [← a4 (ix (B 0 13) - 1) (by omega), e1] at q
      omega
  · omega
theorem rs_popn {B M N : Mem} (h : RS B M 1) (hw : 0 < ix (M 0 13)) (hk : 2 ≤ kd (M 7 (ix (M 0 13) - 1)) ∧ kd (M 7 (ix (M 0 13) - 1)) ≤ 6) (h12 : N 0 12 = M 0 12 + nI 1) (h13 : N 0 13 = M 0 13 - nI 1) (h7 : N 0 7 = M 0 7) (h8 : N 0 8 = M 0 8) (r7 : N 7 = M 7) (r6 : ∀ k, ¬ k = ix (M 0 12) → N 6 k = M 6 k) (h0 : 0 ≤ (N 6 (ix (M 0 12))).toInt) (hc : kd (N 6 (ix (M 0 12))) = kd (M 7 (ix (M 0 13) - 1))) : RS B N 1 := by
  have hi := rs_in h hw hk
  obtain ⟨a1, a2, a3, a4, a5, a6, a7⟩ := h
  have hb := pm_bd a1
  have hx := pm_ix a1
  obtain ⟨e1, e2⟩ := i_up (x := M 0 12) (by omega)
  obtain ⟨e3, e4⟩ := i_dn (x := M 0 13) (by omega)
  have e5 : ix (M 0 13) - 1 = ix (M 0 13 - nI 1) := by omega
  have hcc := a2.1
  refine ⟨pm_popn a1 hw (by omega) h12 h13 h7 h8 r7, ?_, fun k hk => ?_, fun t ht => by rw [r7]; exact a4 t ht, by rw [h8, a5], ?_, a7⟩
  · rw [← e3] at a2
    rw [e5] at hk hc
    rw [h12, h13, r7, e1]
    exact sm_popn a2 (by omega) hk (fun k hk => r6 k (by omega)) h0 hc
  · rw [r6 k (by omega)]; exact a3 k hk
  · rw [h12, h13, r7, h7, e1]
    have e6 := aN_1 (g := M 7) (n := ix (M 0 13 - nI 1)) (by rw [← e5]; omega)
    rw [e3] at e6
    omega
theorem rs_pop {B M N : Mem} (h : RS B M 1) (hi : ix (B 0 13) < ix (M 0 13)) (hk : kd (M 7 (ix (M 0 13) - 1)) = 14) (hp : (M 0 7).toInt < (M 0 8).toInt) (h13 : N 0 13 = M 0 13 - nI 1) (h7 : N 0 7 = M 0 7 + nI 1) (h12 : N 0 12 = M 0 12) (h8 : N 0 8 = M 0 8) (r7 : N 7 = M 7) (r6 : N 6 = M 6) : RS B N 1 := by
  obtain ⟨a1, a2, a3, a4, a5, a6, a7⟩ := h
  have hb := pm_bd a1
  have hx := pm_ix a1
  obtain ⟨e1, e2⟩ := i_up (x := M 0 7) (by omega)
  obtain ⟨e3, e4⟩ := i_dn (x := M 0 13) (by omega)
  have e5 : ix (M 0 13) - 1 = ix (M 0 13 - nI 1) := by omega
  refine ⟨pm_pop a1 (by omega) (by rw [h7]; omega) h12 h13 h8 r7, ?_, by rw [r6]; exact a3, fun t ht => by rw [r7]; exact a4 t ht, by rw [h8, a5], ?_, a7⟩
  · rw [← e3] at a2
    rw [e5] at hk
    rw [h12, h13, r7, r6]
    exact sm_pop a2 (by omega) hk
  · rw [h12, h13, r7, h7, e1]
    have e6 := aN_b (M 7) (ix (M 0 13 - nI 1))
    rw [e3] at e6
    omega
theorem rs_end {B M : Mem} (h : RS B M 1) (hn : ∀ t, ix (B 0 13) ≤ t → t < ix (M 0 13) → ¬ kd (M 7 t) = 14) (ht : ix (M 0 13) = 0 ∨ ¬ (2 ≤ kd (M 7 (ix (M 0 13) - 1)) ∧ kd (M 7 (ix (M 0 13) - 1)) ≤ 6)) : ix (M 0 13) = ix (B 0 13) := by
  obtain ⟨a1, a2, a3, a4, a5, a6, a7⟩ := h
  have hc := a2.2.1
  by_cases e : ix (M 0 13) = ix (B 0 13)
  · exact e
  · have h1 := a2.2.2.1 (ix (M 0 13) - 1) (by omega) (by omega)
    have h2 := hn (ix (M 0 13) - 1) (by omega) (by omega)
    omega
/-! a test that is being read -/
def TM (B M : Mem) (e : Int) : Prop := PMm M ∧ Tm (M 6) (M 7) (ix (M 0 12)) (ix (M 0 13)) (ix (B 0 12)) e ∧ (∀ k, k < ix (B 0 12) → M 6 k = B 6 k) ∧ M 0 8 = B 0 8
theorem tm_gext {f g g' : Nat → Int32} {c w c1 : Nat} {e : Int} (h : Tm f g c w c1 e) (hg : ∀ t, t < w → g' t = g t) : Tm f g' c w c1 e := by
  obtain ⟨h1, h2, h3, h4, h5, h6⟩ := h
  refine ⟨h1, h2, by rw [hg 0 (by omega)]; exact h3, fun t ht => by rw [hg t ht]; exact h4 t ht, h5, fun k hk1 hk2 => tok_of (h6 k hk1 hk2) hk1 (fun _ _ => rfl) (fun _ q => q.elim (fun q => Or.inl ?_) Or.inr)⟩
  obtain ⟨t, t1, t2, t3⟩ := q
  exact ⟨t, t1, by rw [hg t t1]; exact t2, by rw [hg t t1]; exact t3⟩
theorem tmm_begin {M N : Mem} {v : Int32} (h : PMm N) (h13 : N 0 13 = nI 0 + nI 1) (r7 : N 7 0 = v) (hv : kd v = 13) (h12 : N 0 12 = M 0 12) (h8 : N 0 8 = M 0 8) (r6 : N 6 = M 6) : TM M N 0 := by
  have e : ix (nI 0 + nI 1) = 1 := by decide
  refine ⟨h, ?_, fun k _ => by rw [r6], h8⟩
  rw [h12, h13, r6, e]
  exact tm_begin (by rw [r7]; exact hv)
theorem tmm_open {B M N : Mem} {v : Int32} (h : TM B M 0) (hp : (M 0 7).toInt < (M 0 8).toInt) (h13 : N 0 13 = M 0 13 + nI 1) (r7 : N 7 = upd (M 7) (ix (M 0 13)) v) (h7 : N 0 7 = M 0 7 + nI 1) (h12 : N 0 12 = M 0 12) (h8 : N 0 8 = M 0 8) (r6 : N 6 = M 6) (hv : 0 ≤ v.toInt ∧ v.toInt < 15 * 1048576) (hk : kd v = 10 ∨ kd v = 13) : TM B N 0 := by
  obtain ⟨a1, a2, a3, a4⟩ := h
  have hb := pm_bd a1
  obtain ⟨e1, e2⟩ := i_up (x := M 0 13) (by omega)
  refine ⟨pm_push a1 hp h13 r7 h7 h12 h8 hv, ?_, by rw [r6]; exact a3, by rw [h8, a4]⟩
  rw [h12, h13, r7, r6, e1]
  exact tm_open a2 hk
theorem tmm_below {B M : Mem} {e : Int} (h : TM B M e) : ix (M 0 13) = 0 ∨ 6 < kd (M 7 (ix (M 0 13) - 1)) := by
  obtain ⟨a1, a2, a3, a4⟩ := h
  have h1 := a2.2.1
  have h2 := a2.2.2.2.1 (ix (M 0 13) - 1) (by omega)
  omega
theorem tmm_sum {B M N : Mem} {e : Int} (h : TM B M e) (h0 : 0 ≤ e) (hr : RS M N 1) (hw : ix (N 0 13) = ix (M 0 13)) : TM B N (e + 1) := by
  obtain ⟨a1, a2, a3, a4⟩ := h
  obtain ⟨b1, b2, b3, b4, b5, b6, b7⟩ := hr
  have hc := a2.1
  refine ⟨b1, ?_, fun k hk => by rw [b3 k (by omega)]; exact a3 k hk, by rw [b5, a4]⟩
  rw [hw]
  rw [hw] at b2
  have hd := b2.2.2.2.1
  exact tm_gext (tm_sum a2 h0 b2.1 b3 (by omega) b2.2.2.2.2) b4
theorem tmm_go {B M N : Mem} {e : Int} (h : TM B M e) (h7 : (M 0 7).toInt ≤ (N 0 7).toInt ∧ (N 0 7).toInt ≤ (M 0 8).toInt) (h12 : N 0 12 = M 0 12) (h13 : N 0 13 = M 0 13) (h8 : N 0 8 = M 0 8) (r7 : N 7 = M 7) (r6 : N 6 = M 6) : TM B N e := by
  obtain ⟨a1, a2, a3, a4⟩ := h
  refine ⟨pm_go a1 h7 h12 h13 h8 r7, ?_, by rw [r6]; exact a3, by rw [h8, a4]⟩
  rw [h12, h13, r7, r6]
  exact a2
theorem tmm_cmp {B M N : Mem} (h : TM B M 2) (hs : ix (M 0 12) + aN (M 7) (ix (M 0 13)) + 1 ≤ ix (M 0 7)) (h12 : N 0 12 = M 0 12 + nI 1) (h13 : N 0 13 = M 0 13) (h7 : N 0 7 = M 0 7) (h8 : N 0 8 = M 0 8) (r7 : N 7 = M 7) (r6 : ∀ k, ¬ k = ix (M 0 12) → N 6 k = M 6 k) (h0 : 0 ≤ (N 6 (ix (M 0 12))).toInt) (hk : 7 ≤ kd (N 6 (ix (M 0 12))) ∧ kd (N 6 (ix (M 0 12))) ≤ 9) : TM B N 1 := by
  obtain ⟨a1, a2, a3, a4⟩ := h
  have hb := pm_bd a1
  obtain ⟨e1, e2⟩ := i_up (x := M 0 12) (by omega)
  have hc := a2.1
  refine ⟨?_, ?_, fun k hk => by rw [r6 k (by omega)]; exact a3 k hk, by rw [h8, a4]⟩
  · obtain ⟨b1, b2, b3, b4, b5, b6⟩ := a1
    unfold PMm
    rw [h12, h13, h7, h8, r7, e1]
    exact ⟨by omega, b2, by omega, b4, b5, b6⟩
  · rw [h12, h13, r7, e1]
    exact tm_cmp a2 (fun k hk => r6 k (by omega)) h0 hk
theorem tmm_not {B M N : Mem} (h : TM B M 1) (hk : kd (M 7 (ix (M 0 13) - 1)) = 10) (h12 : N 0 12 = M 0 12 + nI 1) (h13 : N 0 13 = M 0 13 - nI 1) (h7 : N 0 7 = M 0 7) (h8 : N 0 8 = M 0 8) (r7 : N 7 = M 7) (r6 : ∀ k, ¬ k = ix (M 0 12) → N 6 k = M 6 k) (h0 : 0 ≤ (N 6 (ix (M 0 12))).toInt) (hc : kd (N 6 (ix (M 0 12))) = 10) : TM B N 1 := by
  obtain ⟨a1, a2, a3, a4⟩ := h
  have hb := pm_bd a1
  have hx := pm_ix a1
  have hw := a2.2.1
  obtain ⟨e1, e2⟩ := i_up (x := M 0 12) (by omega)
  obtain ⟨e3, e4⟩ := i_dn (x := M 0 13) (by omega)
  have e5 : ix (M 0 13) - 1 = ix (M 0 13 - nI 1) := by omega
  have hcc := a2.1
  refine ⟨pm_popn a1 hw (by omega) h12 h13 h7 h8 r7, ?_, fun k hk => by rw [r6 k (by omega)]; exact a3 k hk, by rw [h8, a4]⟩
  rw [← e3] at a2
  rw [e5] at hk
  rw [h12, h13, r7, e1]
  exact tm_not a2 hk (fun k hk => r6 k (by omega)) h0 hc
theorem tmm_pend {B M : Mem} {e : Int} (h : TM B M e) (hk : kd (M 7 (ix (M 0 13) - 1)) = 11 ∨ kd (M 7 (ix (M 0 13) - 1)) = 12) : 0 ≤ vl (M 7 (ix (M 0 13) - 1)) ∧ vl (M 7 (ix (M 0 13) - 1)) < (M 0 12).toInt ∧ 11 ≤ kd (M 6 (vl (M 7 (ix (M 0 13) - 1))).toNat) ∧ kd (M 6 (vl (M 7 (ix (M 0 13) - 1))).toNat) ≤ 12 ∧ 0 ≤ (M 6 (vl (M 7 (ix (M 0 13) - 1))).toNat).toInt := by
  obtain ⟨a1, a2, a3, a4⟩ := h
  have hx := pm_ix a1
  have hw := a2.2.1
  have h2 := (a2.2.2.2.1 (ix (M 0 13) - 1) (by omega)).2.2 hk
  have h3 := a2.2.2.2.2.2 (vl (M 7 (ix (M 0 13) - 1))).toNat (by omega) (by omega)
  exact ⟨by omega, by omega, h2.2.2, h3.2.1, h3.1⟩
theorem tmm_land {B M N : Mem} (h : TM B M 1) (hk : kd (M 7 (ix (M 0 13) - 1)) = 11 ∨ kd (M 7 (ix (M 0 13) - 1)) = 12) (h12 : N 0 12 = M 0 12) (h13 : N 0 13 = M 0 13 - nI 1) (h7 : N 0 7 = M 0 7) (h8 : N 0 8 = M 0 8) (r7 : N 7 = M 7) (r6 : ∀ k, ¬ k = (vl (M 7 (ix (M 0 13) - 1))).toNat → N 6 k = M 6 k) (h0 : 0 ≤ (N 6 (vl (M 7 (ix (M 0 13) - 1))).toNat).toInt) (hc : kd (N 6 (vl (M 7 (ix (M 0 13) - 1))).toNat) = kd (M 6 (vl (M 7 (ix (M 0 13) - 1))).toNat)) (hv : vl (N 6 (vl (M 7 (ix (M 0 13) - 1))).toNat) = (M 0 12).toInt) : TM B N 1 := by
  have hp := tmm_pend h hk
  obtain ⟨a1, a2, a3, a4⟩ := h
  have hb := pm_bd a1
  have hx := pm_ix a1
  have hw := a2.2.1
  have h2 := (a2.2.2.2.1 (ix (M 0 13) - 1) (by omega)).2.2 hk
  obtain ⟨e3, e4⟩ := i_dn (x := M 0 13) (by omega)
  have e5 : ix (M 0 13) - 1 = ix (M 0 13 - nI 1) := by omega
  refine ⟨pm_pop a1 hw (by rw [h7]; omega) h12 h13 h8 r7, ?_, fun k hk => by rw [r6 k (by omega)]; exact a3 k hk, by rw [h8, a4]⟩
  rw [← e3] at a2
  rw [e5] at hk r6 h0 hc hv
  rw [h12, h13, r7]
  exact tm_land a2 hk r6 h0 hc (by omega)
theorem tmm_pop {B M N : Mem} (h : TM B M 1) (hw : 2 ≤ ix (M 0 13)) (hk : ¬ (kd (M 7 (ix (M 0 13) - 1)) = 11 ∨ kd (M 7 (ix (M 0 13) - 1)) = 12)) (h7 : (M 0 7).toInt ≤ (N 0 7).toInt ∧ (N 0 7).toInt ≤ (M 0 8).toInt) (h13 : N 0 13 = M 0 13 - nI 1) (h12 : N 0 12 = M 0 12) (h8 : N 0 8 = M 0 8) (r7 : N 7 = M 7) (r6 : N 6 = M 6) : TM B N 1 := by
  obtain ⟨a1, a2, a3, a4⟩ := h
  have hb := pm_bd a1
  have hx := pm_ix a1
  obtain ⟨e3, e4⟩ := i_dn (x := M 0 13) (by omega)
  have e5 : ix (M 0 13) - 1 = ix (M 0 13 - nI 1) := by omega
  refine ⟨pm_pop a1 (by omega) h7 h12 h13 h8 r7, ?_, by rw [r6]; exact a3, by rw [h8, a4]⟩
  rw [← e3] at a2
  rw [e5] at hk
  rw [h12, h13, r7, r6]
  exact tm_pop a2 (by omega) hk
theorem tmm_jump {B M N : Mem} {v : Int32} (h : TM B M 1) (hp : (M 0 7).toInt < (M 0 8).toInt) (h13 : N 0 13 = M 0 13 + nI 1) (r7 : N 7 = upd (M 7) (ix (M 0 13)) v) (h7 : N 0 7 = M 0 7 + nI 1) (h12 : N 0 12 = M 0 12 + nI 1) (h8 : N 0 8 = M 0 8) (r6 : ∀ k, ¬ k = ix (M 0 12) → N 6 k = M 6 k) (h0 : 0 ≤ (N 6 (ix (M 0 12))).toInt) (hc : kd (N 6 (ix (M 0 12))) = 11 ∨ kd (N 6 (ix (M 0 12))) = 12) (hv : 0 ≤ v.toInt ∧ v.toInt < 15 * 1048576) (hk : kd v = 11 ∨ kd v = 12) (hx : vl v = (M 0 12).toInt) : TM B N 0 := by
  obtain ⟨a1, a2, a3, a4⟩ := h
  have hb := pm_bd a1
  have hi := pm_ix a1
  obtain ⟨e1, e2⟩ := i_up (x := M 0 12) (by omega)
  obtain ⟨e3, e4⟩ := i_up (x := M 0 13) (by omega)
  obtain ⟨e5, e6⟩ := i_up (x := M 0 7) (by omega)
  have hcc := a2.1
  refine ⟨?_, ?_, fun k hk => by rw [r6 k (by omega)]; exact a3 k hk, by rw [h8, a4]⟩
  · unfold PMm
    rw [h12, h13, h7, h8, r7, e1, e3, e5]
    exact ⟨by omega, pst_jump a1.2 (by omega) hv hk⟩
  · rw [h12, h13, r7, e1, e3]
    exact tm_jump a2 (fun k hk => r6 k (by omega)) h0 hc hk (by omega)
theorem tmm_end {B M : Mem} (h : TM B M 1) (hw : ix (M 0 13) = 1) : Seg (M 6) (ix (B 0 12)) (ix (M 0 12)) := by
  obtain ⟨a1, a2, a3, a4⟩ := h
  rw [hw] at a2
  exact tm_end a2
/-! memories one behind another -/
theorem push_is {M A C D : Mem} {v : Int32} (e1 : A = mset M 7 (ix (M 0 13)) v) (e2 : C = mset A 0 13 (A 0 13 + nI 1)) (e3 : D = mset C 0 7 (C 0 7 + nI 1)) : D 0 13 = M 0 13 + nI 1 ∧ D 7 = upd (M 7) (ix (M 0 13)) v ∧ D 0 7 = M 0 7 + nI 1 ∧ D 0 12 = M 0 12 ∧ D 0 8 = M 0 8 ∧ D 6 = M 6 := by
  have a : ∀ i, A 0 i = M 0 i := fun i => by rw [e1, mset_ne (by first | exact nz1 (by decide) | exact nz2 (by decide) | exact nz1 (nzA hc0 (by decide)) | exact nz1 (nzE (by decide)) | exact nz1 (nzB hc0 (by decide)) | exact nz1 (nzC hc0 (by decide)) | exact nz1 (nzD hc0 (by decide)) | exact nz1 (nzF (by decide)) | exact nz1 (nzG (by decide)) | omega)]
  refine ⟨?_, ?_, ?_, ?_, ?_, ?_⟩
  · rw [e3, mset_ne (by first | exact nz1 (by decide) | exact nz2 (by decide) | exact nz1 (nzA hc0 (by decide)) | exact nz1 (nzE (by decide)) | exact nz1 (nzB hc0 (by decide)) | exact nz1 (nzC hc0 (by decide)) | exact nz1 (nzD hc0 (by decide)) | exact nz1 (nzF (by decide)) | exact nz1 (nzG (by decide)) | omega), e2, mset_eq, a]
  · rw [e3, mset_n (by omega), e2, mset_n (by omega), e1, mset_s]
  · rw [e3, mset_eq, e2, mset_ne (by first | exact nz1 (by decide) | exact nz2 (by decide) | exact nz1 (nzA hc0 (by decide)) | exact nz1 (nzE (by decide)) | exact nz1 (nzB hc0 (by decide)) | exact nz1 (nzC hc0 (by decide)) | exact nz1 (nzD hc0 (by decide)) | exact nz1 (nzF (by decide)) | exact nz1 (nzG (by decide)) | omega), a]
  · rw [e3, mset_ne (by first | exact nz1 (by decide) | exact nz2 (by decide) | exact nz1 (nzA hc0 (by decide)) | exact nz1 (nzE (by decide)) | exact nz1 (nzB hc0 (by decide)) | exact nz1 (nzC hc0 (by decide)) | exact nz1 (nzD hc0 (by decide)) | exact nz1 (nzF (by decide)) | exact nz1 (nzG (by decide)) | omega), e2, mset_ne (by first | exact nz1 (by decide) | exact nz2 (by decide) | exact nz1 (nzA hc0 (by decide)) | exact nz1 (nzE (by decide)) | exact nz1 (nzB hc0 (by decide)) | exact nz1 (nzC hc0 (by decide)) | exact nz1 (nzD hc0 (by decide)) | exact nz1 (nzF (by decide)) | exact nz1 (nzG (by decide)) | omega), a]
  · rw [e3, mset_ne (by first | exact nz1 (by decide) | exact nz2 (by decide) | exact nz1 (nzA hc0 (by decide)) | exact nz1 (nzE (by decide)) | exact nz1 (nzB hc0 (by decide)) | exact nz1 (nzC hc0 (by decide)) | exact nz1 (nzD hc0 (by decide)) | exact nz1 (nzF (by decide)) | exact nz1 (nzG (by decide)) | omega), e2, mset_ne (by first | exact nz1 (by decide) | exact nz2 (by decide) | exact nz1 (nzA hc0 (by decide)) | exact nz1 (nzE (by decide)) | exact nz1 (nzB hc0 (by decide)) | exact nz1 (nzC hc0 (by decide)) | exact nz1 (nzD hc0 (by decide)) | exact nz1 (nzF (by decide)) | exact nz1 (nzG (by decide)) | omega), a]
  · rw [e3, mset_n (by omega), e2, mset_n (by omega), e1, mset_n (by omega)]
theorem opens_is {M A B C D : Mem} {u v : Int32} (e0 : A = mset M 0 11 u) (e1 : B = mset A 7 (ix (A 0 13)) v) (e2 : C = mset B 0 13 (B 0 13 + nI 1)) (e3 : D = mset C 0 7 (C 0 7 + nI 1)) : D 0 13 = M 0 13 + nI 1 ∧ D 7 = upd (M 7) (ix (M 0 13)) v ∧ D 0 7 = M 0 7 + nI 1 := by
  have h := push_is e1 e2 e3
  have a1 : A 0 13 = M 0 13 := by rw [e0, mset_ne (by first | exact nz1 (by decide) | exact nz2 (by decide) | exact nz1 (nzA hc0 (by decide)) | exact nz1 (nzE (by decide)) | exact nz1 (nzB hc0 (by decide)) | exact nz1 (nzC hc0 (by decide)) | exact nz1 (nzD hc0 (by decide)) | exact nz1 (nzF (by decide)) | exact nz1 (nzG (by decide)) | omega)]
  have a2 : A 0 7 = M 0 7 := by rw [e0, mset_ne (by first | exact nz1 (by decide) | exact nz2 (by decide) | exact nz1 (nzA hc0 (by decide)) | exact nz1 (nzE (by decide)) | exact nz1 (nzB hc0 (by decide)) | exact nz1 (nzC hc0 (by decide)) | exact nz1 (nzD hc0 (by decide)) | exact nz1 (nzF (by decide)) | exact nz1 (nzG (by decide)) | omega)]
  have a3 : A 7 = M 7 := by rw [e0, mset_n (by omega)]
  rw [a1, a2, a3] at h
  exact ⟨h.1, h.2.1, h.2.2.1⟩
theorem pop_is {M A C D : Mem} {u : Int32} (e1 : A = mset M 0 13 (M 0 13 - nI 1)) (e2 : C = mset A 0 11 u) (e3 : D = mset C 0 7 (C 0 7 + nI 1)) : D 0 13 = M 0 13 - nI 1 ∧ D 0 7 = M 0 7 + nI 1 ∧ D 0 12 = M 0 12 ∧ D 0 8 = M 0 8 ∧ D 7 = M 7 ∧ D 6 = M 6 := by
  refine ⟨?_, ?_, ?_, ?_, ?_, ?_⟩
  · rw [e3, mset_ne (by first | exact nz1 (by decide) | exact nz2 (by decide) | exact nz1 (nzA hc0 (by decide)) | exact nz1 (nzE (by decide)) | exact nz1 (nzB hc0 (by decide)) | exact nz1 (nzC hc0 (by decide)) | exact nz1 (nzD hc0 (by decide)) | exact nz1 (nzF (by decide)) | exact nz1 (nzG (by decide)) | omega), e2, mset_ne (by first | exact nz1 (by decide) | exact nz2 (by decide) | exact nz1 (nzA hc0 (by decide)) | exact nz1 (nzE (by decide)) | exact nz1 (nzB hc0 (by decide)) | exact nz1 (nzC hc0 (by decide)) | exact nz1 (nzD hc0 (by decide)) | exact nz1 (nzF (by decide)) | exact nz1 (nzG (by decide)) | omega), e1, mset_eq]
  · rw [e3, mset_eq, e2, mset_ne (by first | exact nz1 (by decide) | exact nz2 (by decide) | exact nz1 (nzA hc0 (by decide)) | exact nz1 (nzE (by decide)) | exact nz1 (nzB hc0 (by decide)) | exact nz1 (nzC hc0 (by decide)) | exact nz1 (nzD hc0 (by decide)) | exact nz1 (nzF (by decide)) | exact nz1 (nzG (by decide)) | omega), e1, mset_ne (by first | exact nz1 (by decide) | exact nz2 (by decide) | exact nz1 (nzA hc0 (by decide)) | exact nz1 (nzE (by decide)) | exact nz1 (nzB hc0 (by decide)) | exact nz1 (nzC hc0 (by decide)) | exact nz1 (nzD hc0 (by decide)) | exact nz1 (nzF (by decide)) | exact nz1 (nzG (by decide)) | omega)]
  · rw [e3, mset_ne (by first | exact nz1 (by decide) | exact nz2 (by decide) | exact nz1 (nzA hc0 (by decide)) | exact nz1 (nzE (by decide)) | exact nz1 (nzB hc0 (by decide)) | exact nz1 (nzC hc0 (by decide)) | exact nz1 (nzD hc0 (by decide)) | exact nz1 (nzF (by decide)) | exact nz1 (nzG (by decide)) | omega), e2, mset_ne (by first | exact nz1 (by decide) | exact nz2 (by decide) | exact nz1 (nzA hc0 (by decide)) | exact nz1 (nzE (by decide)) | exact nz1 (nzB hc0 (by decide)) | exact nz1 (nzC hc0 (by decide)) | exact nz1 (nzD hc0 (by decide)) | exact nz1 (nzF (by decide)) | exact nz1 (nzG (by decide)) | omega), e1, mset_ne (by first | exact nz1 (by decide) | exact nz2 (by decide) | exact nz1 (nzA hc0 (by decide)) | exact nz1 (nzE (by decide)) | exact nz1 (nzB hc0 (by decide)) | exact nz1 (nzC hc0 (by decide)) | exact nz1 (nzD hc0 (by decide)) | exact nz1 (nzF (by decide)) | exact nz1 (nzG (by decide)) | omega)]
  · rw [e3, mset_ne (by first | exact nz1 (by decide) | exact nz2 (by decide) | exact nz1 (nzA hc0 (by decide)) | exact nz1 (nzE (by decide)) | exact nz1 (nzB hc0 (by decide)) | exact nz1 (nzC hc0 (by decide)) | exact nz1 (nzD hc0 (by decide)) | exact nz1 (nzF (by decide)) | exact nz1 (nzG (by decide)) | omega), e2, mset_ne (by first | exact nz1 (by decide) | exact nz2 (by decide) | exact nz1 (nzA hc0 (by decide)) | exact nz1 (nzE (by decide)) | exact nz1 (nzB hc0 (by decide)) | exact nz1 (nzC hc0 (by decide)) | exact nz1 (nzD hc0 (by decide)) | exact nz1 (nzF (by decide)) | exact nz1 (nzG (by decide)) | omega), e1, mset_ne (by first | exact nz1 (by decide) | exact nz2 (by decide) | exact nz1 (nzA hc0 (by decide)) | exact nz1 (nzE (by decide)) | exact nz1 (nzB hc0 (by decide)) | exact nz1 (nzC hc0 (by decide)) | exact nz1 (nzD hc0 (by decide)) | exact nz1 (nzF (by decide)) | exact nz1 (nzG (by decide)) | omega)]
  · rw [e3, mset_n (by omega), e2, mset_n (by omega), e1, mset_n (by omega)]
  · rw [e3, mset_n (by omega), e2, mset_n (by omega), e1, mset_n (by omega)]
theorem pop_w {g : Nat → Int32} {w w0 w1 : Nat} (h : w ≤ w0 ∧ ∀ t : Nat, w ≤ t → t < w0 → 2 ≤ kd (g t) ∧ kd (g t) ≤ 6) (e : w1 + 1 = w) (hk : 2 ≤ kd (g (w - 1)) ∧ kd (g (w - 1)) ≤ 6) : w1 ≤ w0 ∧ ∀ t : Nat, w1 ≤ t → t < w0 → 2 ≤ kd (g t) ∧ kd (g t) ≤ 6 := by
  refine ⟨by omega, fun t h1 h2 => ?_⟩
  by_cases e9 : t = w1
  · rw [e9, show w1 = w - 1 from by omega]; exact hk
  · exact h.2 t (by omega) h2
theorem rs_top {B M : Mem} {e : Int} (h : RS B M e) (hi : ix (B 0 13) < ix (M 0 13)) (ht : ix (M 0 13) = 0 ∨ ¬ (2 ≤ kd (M 7 (ix (M 0 13) - 1)) ∧ kd (M 7 (ix (M 0 13) - 1)) ≤ 6)) : kd (M 7 (ix (M 0 13) - 1)) = 14 := by
  have h1 := h.2.1.2.2.1 (ix (M 0 13) - 1) (by omega) (by omega)
  omega
theorem pm_mk {N : Mem} (h13 : N 0 13 = nI 0) (hc : 0 ≤ (N 0 12).toInt ∧ (N 0 12).toInt ≤ (N 0 7).toInt ∧ (N 0 7).toInt ≤ (N 0 8).toInt ∧ (N 0 8).toInt ≤ 240) : PMm N := by
  have e0 : ix (nI 0) = 0 := by decide
  have e1 := t_ixn (N 0 12) hc.1
  have e2 := t_ixn (N 0 7) (by omega)
  have e3 := t_ixn (N 0 8) (by omega)
  unfold PMm Pst
  rw [h13, e0]
  refine ⟨⟨hc.1, by decide, by omega, by omega⟩, by omega, ?_, by omega, by omega, fun t ht => absurd ht (Nat.not_lt_zero _)⟩
  show ix (N 0 12) + 0 ≤ ix (N 0 7)
  omega
/-! what a law comes to -/
def Rule (f : Nat → Int32) (a b d c : Int32) : Prop := 0 ≤ a.toInt ∧ a.toInt ≤ b.toInt ∧ b.toInt ≤ d.toInt ∧ d.toInt ≤ c.toInt ∧ Seg f (ix a) (ix b) ∧ Seg f (ix b) (ix d)
def Said (M : Mem) : Prop := (0 ≤ (M 0 14).toInt ∧ (M 0 14).toInt ≤ 16) ∧ ∀ r, r < ix (M 0 14) → Rule (M 6) (M 9 r) (M 10 r) (M 11 r) (M 0 12)
def Gr (f : Nat → Int32) (a b d : Int32) : Prop := 0 ≤ a.toInt ∧ a.toInt ≤ b.toInt ∧ b.toInt ≤ d.toInt ∧ d.toInt ≤ 260 ∧ Seg f (ix a) (ix b) ∧ Seg f (ix b) (ix d)
def Gl (M : Mem) : Prop := (0 ≤ (M 0 15).toInt ∧ (M 0 15).toInt ≤ 16) ∧ ∀ r, r < ix (M 0 15) → Gr (M 12) (M 14 r) (M 15 r) (M 16 r)
theorem gl_ext {M N : Mem} (h : Gl M) (h15 : N 0 15 = M 0 15) (r12 : ∀ i, N 12 i = M 12 i) (r14 : ∀ i, N 14 i = M 14 i) (r15 : ∀ i, N 15 i = M 15 i) (r16 : ∀ i, N 16 i = M 16 i) : Gl N := by
  unfold Gl
  rw [h15, show N 12 = M 12 from funext r12, show N 14 = M 14 from funext r14, show N 15 = M 15 from funext r15, show N 16 = M 16 from funext r16]
  exact h
theorem said_ext {M N : Mem} (h : Said M) (h14 : N 0 14 = M 0 14) (h12 : N 0 12 = M 0 12) (r6 : ∀ i, N 6 i = M 6 i) (r9 : ∀ i, N 9 i = M 9 i) (r10 : ∀ i, N 10 i = M 10 i) (r11 : ∀ i, N 11 i = M 11 i) : Said N := by
  unfold Said
  rw [h14, h12, show N 6 = M 6 from funext r6, show N 9 = M 9 from funext r9, show N 10 = M 10 from funext r10, show N 11 = M 11 from funext r11]
  exact h
theorem said_0 {M : Mem} (h : (M 0 14).toInt = 0) : Said M := ⟨by omega, fun r hr => absurd hr (by unfold ix; rw [h]; exact Nat.not_lt_zero _)⟩
theorem rule_more {f f' : Nat → Int32} {a b d c c' : Int32} (h : Rule f a b d c) (hc : c.toInt ≤ c'.toInt) (he : ∀ k, k < ix c → f' k = f k) : Rule f' a b d c' := by
  obtain ⟨h1, h2, h3, h4, h5, h6⟩ := h
  have e1 := t_ixn b (by omega)
  have e2 := t_ixn d (by omega)
  have e3 := t_ixn c (by omega)
  exact ⟨h1, h2, h3, by omega, seg_ext h5 (fun j hj => he j (by omega)), seg_ext h6 (fun j hj => he j (by omega))⟩
theorem said_more {M N : Mem} {b : Int32} (h : Said M) (hm : (M 0 14).toInt < 16) (h14 : N 0 14 = M 0 14 + nI 1) (r9 : ∀ r, r < ix (M 0 14) → N 9 r = M 9 r) (r10 : ∀ r, r < ix (M 0 14) → N 10 r = M 10 r) (r11 : ∀ r, r < ix (M 0 14) → N 11 r = M 11 r) (v9 : N 9 (ix (M 0 14)) = M 0 12) (v10 : N 10 (ix (M 0 14)) = b) (v11 : N 11 (ix (M 0 14)) = N 0 12) (r6 : ∀ k, k < ix (M 0 12) → N 6 k = M 6 k) (hc : 0 ≤ (M 0 12).toInt ∧ (M 0 12).toInt ≤ b.toInt ∧ b.toInt ≤ (N 0 12).toInt) (s1 : Seg (N 6) (ix (M 0 12)) (ix b)) (s2 : Seg (N 6) (ix b) (ix (N 0 12))) : Said N := by
  obtain ⟨h0, h1⟩ := h
  obtain ⟨e1, e2⟩ := i_up (x := M 0 14) (by omega)
  refine ⟨by rw [h14]; omega, fun r hr => ?_⟩
  rw [h14, e1] at hr
  by_cases e : r = ix (M 0 14)
  · rw [e, v9, v10, v11]
    exact ⟨hc.1, hc.2.1, hc.2.2, Int.le_refl _, s1, s2⟩
  · rw [r9 r (by omega), r10 r (by omega), r11 r (by omega)]
    exact rule_more (h1 r (by omega)) (by omega) r6
theorem gl_of {M N : Mem} (h : Said M) (hc : (M 0 12).toInt ≤ 240) (h15 : N 0 15 = M 0 14) (r12 : ∀ j : Nat, (j : Int) < (M 0 12).toInt → N 12 j = M 6 j) (hr : ∀ j : Nat, (j : Int) < (M 0 14).toInt → N 14 j = M 9 j ∧ N 15 j = M 10 j ∧ N 16 j = M 11 j) : Gl N := by
  obtain ⟨h0, h1⟩ := h
  have e := t_ixn (M 0 14) h0.1
  refine ⟨by rw [h15]; exact h0, fun r hr2 => ?_⟩
  rw [h15] at hr2
  obtain ⟨q1, q2, q3⟩ := hr r (by omega)
  rw [q1, q2, q3]
  obtain ⟨a1, a2, a3, a4, a5, a6⟩ := h1 r hr2
  have e1 := t_ixn (M 10 r) (by omega)
  have e2 := t_ixn (M 11 r) (by omega)
  exact ⟨a1, a2, a3, by omega, seg_ext a5 (fun j hj => r12 j (by omega)), seg_ext a6 (fun j hj => r12 j (by omega))⟩
