def ST (f : Nat → Int32) : Prop := ∀ j, j < 40 → (f j).toInt = 1 → 1 ≤ (f (80 + j)).toInt ∧ (f (80 + j)).toInt ≤ 20 ∧ 0 ≤ (f (120 + j)).toInt ∧ (f (120 + j)).toInt ≤ 9
theorem st_lay {f g : Nat → Int32} {i : Nat} (hi : i < 40) (h : ST f) (h1 : 1 ≤ (g (80 + i)).toInt ∧ (g (80 + i)).toInt ≤ 20) (h2 : 0 ≤ (g (120 + i)).toInt ∧ (g (120 + i)).toInt ≤ 9) (hr : ∀ j : Nat, ¬ j = i → ¬ j = 40 + i → ¬ j = 80 + i → ¬ j = 120 + i → ¬ j = 160 + i → g j = f j) : ST g := by
  intro j hj ht
  by_cases e : j = i
  · subst e; exact ⟨h1.1, h1.2, h2.1, h2.2⟩
  · rw [hr j e (by omega) (by omega) (by omega) (by omega)] at ht
    rw [hr (80 + j) (by omega) (by omega) (by omega) (by omega) (by omega), hr (120 + j) (by omega) (by omega) (by omega) (by omega) (by omega)]
    exact h j hj ht
theorem st_off {f g : Nat → Int32} {i : Nat} (h : ST f) (hi : ¬ (g i).toInt = 1) (hr : ∀ j : Nat, ¬ j = i → g j = f j) (hi2 : i < 40) : ST g := by
  intro j hj ht
  have e : ¬ j = i := fun z => hi (z ▸ ht)
  rw [hr j e] at ht
  rw [hr (80 + j) (by omega), hr (120 + j) (by omega)]
  exact h j hj ht
theorem st_hi {f g : Nat → Int32} {i : Nat} (h : ST f) (hr : ∀ j : Nat, ¬ j = 160 + i → g j = f j) : ST g := by
  intro j hj ht
  rw [hr j (by omega)] at ht
  rw [hr (80 + j) (by omega), hr (120 + j) (by omega)]
  exact h j hj ht
theorem st_copy {f g : Nat → Int32} (h : ST f) (hr : ∀ j : Nat, j < 202 → g j = f j) : ST g := by
  intro j hj ht
  rw [hr j (by omega)] at ht
  rw [hr (80 + j) (by omega), hr (120 + j) (by omega)]
  exact h j hj ht
theorem ix_add {x : Int32} {n : Nat} (h0 : 0 ≤ x.toInt ∧ x.toInt < 1000000) (hn : n < 1000000) : ix ((nI n) + x) = n + ix x := by
  have f0 := t_lit n (by omega)
  have f1 := t_add (nI n) x
  have f2 := t_ixn x h0.1
  have f3 := t_ixn ((nI n) + x) (by omega)
  omega
theorem mu_f2 {y : Int32} {r : Nat} (h : r < 1000000) : (if y.toInt = 0 then 0 else 1 + r) < 4294967296 := by
  by_cases h2 : y.toInt = 0
  · simp [h2]
  · simp only [if_neg h2]; omega
theorem mu_d0 {y : Int32} {r s : Nat} (h : ¬ y.toInt = 0) : (if (nI 0).toInt = 0 then 0 else 1 + s) < (if y.toInt = 0 then 0 else 1 + r) := by
  rw [if_pos nI0, if_neg h]; omega
theorem mu_d1 {y z : Int32} {r s : Nat} (h : ¬ y.toInt = 0) (hr : s < r) : (if z.toInt = 0 then 0 else 1 + s) < (if y.toInt = 0 then 0 else 1 + r) := by
  rw [if_neg h]
  by_cases h2 : z.toInt = 0
  · rw [if_pos h2]; omega
  · rw [if_neg h2]; omega
theorem o_X10_apart (M : Mem) (v1 : Int32) (v2 : Int32) (hv1 : 0 ≤ v1.toInt ∧ v1.toInt < 40) (hv2 : 0 ≤ v2.toInt ∧ v2.toInt < 40) : Wp (f_X10_apart M v1 v2) (fun q => True) := by
  refine wp_gd (by have f0 := t_lit 40; have f1 := t_add (nI 40) v1; omega) ?_
  refine wp_gd (by have f0 := t_lit 40; have f1 := t_add (nI 40) v2; omega) ?_
  refine wp_bnd (fun x_1 ex_1 => ?_)
  refine wp_gd (by have f0 := t_lit 80; have f1 := t_add (nI 80) v1; omega) ?_
  refine wp_gd (by have f0 := t_lit 80; have f1 := t_add (nI 80) v2; omega) ?_
  refine wp_bnd (fun x_2 ex_2 => ?_)
  exact wp_some trivial
theorem o_X10_areInLine (M : Mem) (v1 : Int32) (v2 : Int32) (v3 : Int32) (hv1 : 0 ≤ v1.toInt ∧ v1.toInt < 40) (hv2 : 0 ≤ v2.toInt ∧ v2.toInt < 40) (hv3 : 0 ≤ v3.toInt ∧ v3.toInt < 40) : Wp (f_X10_areInLine M v1 v2 v3) (fun q => (q = 0 ∨ q = 1)) := by
  refine wp_gd (by have f0 := t_lit 40; have f1 := t_add (nI 40) v2; omega) ?_
  refine wp_gd (by have f0 := t_lit 40; have f1 := t_add (nI 40) v1; omega) ?_
  refine wp_bnd (fun x_1 ex_1 => ?_)
  refine wp_gd (by have f0 := t_lit 80; have f1 := t_add (nI 80) v2; omega) ?_
  refine wp_gd (by have f0 := t_lit 80; have f1 := t_add (nI 80) v1; omega) ?_
  refine wp_bnd (fun x_2 ex_2 => ?_)
  refine wp_gd (by have f0 := t_lit 80; have f1 := t_add (nI 80) v3; omega) ?_
  refine wp_gd (by have f0 := t_lit 80; have f1 := t_add (nI 80) v1; omega) ?_
  refine wp_gd (by have f0 := t_lit 40; have f1 := t_add (nI 40) v3; omega) ?_
  refine wp_gd (by have f0 := t_lit 40; have f1 := t_add (nI 40) v1; omega) ?_
  refine wp_ite (fun c86 => ?_) (fun c86 => ?_)
  · exact wp_some b01_1
  · exact wp_some b01_0
theorem o_X10_in (M : Mem) (v0 : Int32) (v1 : Int32) (v2 : Int32) : Wp (f_X10_in v0 v1 v2) (fun q => (q = 0 ∨ q = 1) ∧ (¬ q.toInt = 0 → v1.toInt ≤ v0.toInt ∧ v0.toInt ≤ v2.toInt)) := by
  refine wp_ite (fun c2 => ?_) (fun c2 => ?_)
  · exact wp_some ⟨b01_0, (by show ¬ (nI 0).toInt = 0 → v1.toInt ≤ v0.toInt ∧ v0.toInt ≤ v2.toInt; have f0 := t_lit 0; omega)⟩
  · refine wp_ite (fun c7 => ?_) (fun c7 => ?_)
    · exact wp_some ⟨b01_0, (by show ¬ (nI 0).toInt = 0 → v1.toInt ≤ v0.toInt ∧ v0.toInt ≤ v2.toInt; have f0 := t_lit 0; omega)⟩
    · exact wp_some ⟨b01_1, (by show ¬ (nI 1).toInt = 0 → v1.toInt ≤ v0.toInt ∧ v0.toInt ≤ v2.toInt; have f0 := t_lit 1; omega)⟩
theorem o_X10_stoneAt (M : Mem) (v1 : Int32) (v2 : Int32) : Wp (f_X10_stoneAt M v1 v2) (fun q => (q.toInt = -1 ∨ ((0 ≤ q.toInt ∧ q.toInt < 40) ∧ (M 1 (ix q)).toInt = 1 ∧ (M 1 (ix (nI 40 + q))).toInt = v1.toInt ∧ (M 1 (ix (nI 80 + q))).toInt = v2.toInt))) := by
  refine wp_lp1 (fun y3_2 => (0 ≤ y3_2.toInt)) (fun y3_2 => (40 - y3_2.toInt).toNat) (fun ag2 y3_2 hI2 ih2 => ?_) FU (nI 0) (by have f0 := t_lit 0; omega) (fu_lt (by have f0 := t_lit 0; omega))
  have hi2 := hI2
  refine wp_ite (fun c5 => ?_) (fun c5 => ?_)
  · exact wp_some (by show (-1 : Int32).toInt = -1 ∨ ((0 ≤ (-1 : Int32).toInt ∧ (-1 : Int32).toInt < 40) ∧ (M 1 (ix (-1 : Int32))).toInt = 1 ∧ (M 1 (ix (nI 40 + (-1 : Int32)))).toInt = v1.toInt ∧ (M 1 (ix (nI 80 + (-1 : Int32)))).toInt = v2.toInt); have f0 := (by decide : ((-1 : Int32)).toInt = -1); have f1 := (by decide : ((-1 : Int32)).toInt = -1); omega)
  · refine wp_gd (by omega) ?_
    refine wp_ite (fun c17 => ?_) (fun c17 => ?_)
    · refine wp_gd (by have f0 := t_lit 40; have f1 := t_add (nI 40) y3_2; omega) ?_
      refine wp_ite (fun c30 => ?_) (fun c30 => ?_)
      · refine wp_gd (by have f0 := t_lit 80; have f1 := t_add (nI 80) y3_2; have f2 := t_lit 40; have f3 := t_add (nI 40) y3_2; omega) ?_
        refine wp_ite (fun c43 => ?_) (fun c43 => ?_)
        · exact wp_some (by show y3_2.toInt = -1 ∨ ((0 ≤ y3_2.toInt ∧ y3_2.toInt < 40) ∧ (M 1 (ix y3_2)).toInt = 1 ∧ (M 1 (ix (nI 40 + y3_2))).toInt = v1.toInt ∧ (M 1 (ix (nI 80 + y3_2))).toInt = v2.toInt); have f0 := t_lit 40; have f1 := t_add (nI 40) y3_2; have f2 := t_lit 80; have f3 := t_add (nI 80) y3_2; omega)
        · exact ih2 (y3_2 + (nI 1)) (by have f0 := t_lit 1; have f1 := t_add y3_2 (nI 1); have f2 := t_lit 40; have f3 := t_add (nI 40) y3_2; have f4 := t_lit 80; have f5 := t_add (nI 80) y3_2; omega) (by have f0 := t_lit 1; have f1 := t_add y3_2 (nI 1); have f2 := t_lit 40; have f3 := t_add (nI 40) y3_2; have f4 := t_lit 80; have f5 := t_add (nI 80) y3_2; omega)
      · exact ih2 (y3_2 + (nI 1)) (by have f0 := t_lit 1; have f1 := t_add y3_2 (nI 1); have f2 := t_lit 40; have f3 := t_add (nI 40) y3_2; omega) (by have f0 := t_lit 1; have f1 := t_add y3_2 (nI 1); have f2 := t_lit 40; have f3 := t_add (nI 40) y3_2; omega)
    · exact ih2 (y3_2 + (nI 1)) (by have f0 := t_lit 1; have f1 := t_add y3_2 (nI 1); omega) (by have f0 := t_lit 1; have f1 := t_add y3_2 (nI 1); omega)
theorem o_X10_at (M : Mem) (v1 : Int32) (v2 : Int32) : Wp (f_X10_at M v1 v2) (fun q => True) := by
  refine wp_bind2 (o_X10_in M v1 (nI 0) (nI 39)) (fun r_1 he4 hq4 => ?_)
  obtain ⟨hz_r_1, hr_4⟩ := hq4
  replace hr_4 : ¬ r_1.toInt = 0 → (nI 0).toInt ≤ v1.toInt ∧ v1.toInt ≤ (nI 39).toInt := hr_4
  have := t_lit 0
  have := t_lit 39
  refine wp_ite (fun c7 => ?_) (fun c7 => ?_)
  · exact wp_some trivial
  · refine wp_bind2 (o_X10_in M v2 (nI 1) (nI 20)) (fun r_2 he14 hq14 => ?_)
    obtain ⟨hz_r_2, hr_14⟩ := hq14
    replace hr_14 : ¬ r_2.toInt = 0 → (nI 1).toInt ≤ v2.toInt ∧ v2.toInt ≤ (nI 20).toInt := hr_14
    have := t_lit 1
    have := t_lit 20
    refine wp_ite (fun c17 => ?_) (fun c17 => ?_)
    · exact wp_some trivial
    · refine wp_bind2 (o_X10_stoneAt M v1 v2) (fun r_3 he25 hq25 => ?_)
      have hr_25 := hq25
      replace hr_25 : r_3.toInt = -1 ∨ ((0 ≤ r_3.toInt ∧ r_3.toInt < 40) ∧ (M 1 (ix r_3)).toInt = 1 ∧ (M 1 (ix (nI 40 + r_3))).toInt = v1.toInt ∧ (M 1 (ix (nI 80 + r_3))).toInt = v2.toInt) := hr_25
      refine wp_ite (fun c31 => ?_) (fun c31 => ?_)
      · exact wp_some trivial
      · exact wp_some trivial
def swp (f : Nat → Int32) (a b : Nat) : Nat → Int32 := upd (upd f a (f b)) b (f a)
def PermN (f : Nat → Int32) (n : Nat) : Prop := (∀ j, j < n → 0 ≤ (f j).toInt ∧ (f j).toInt < (n : Int)) ∧ ∀ i j, i < n → j < n → (f i).toInt = (f j).toInt → i = j
def rowNum (f : Nat → Int32) : Nat → Nat
  | 0 => 0
  | n + 1 => 7 * rowNum f n + (f n).toInt.toNat
theorem swp_get (f : Nat → Int32) (a b j : Nat) : swp f a b j = if j = b then f a else if j = a then f b else f j := by
  unfold swp upd
  rfl
theorem perm_swp {f : Nat → Int32} {n a b : Nat} (h : PermN f n) (ha : a < n) (hb : b < n) : PermN (swp f a b) n := by
  have key : ∀ j, j < n → ∃ k, k < n ∧ swp f a b j = f k ∧ ((j = b → k = a) ∧ (j ≠ b → j = a → k = b) ∧ (j ≠ b → j ≠ a → k = j)) := by
    intro j hj
    rw [swp_get]
    by_cases h1 : j = b
    · exact ⟨a, ha, by rw [if_pos h1], fun _ => rfl, fun z => absurd h1 z, fun z => absurd h1 z⟩
    · by_cases h2 : j = a
      · exact ⟨b, hb, by rw [if_neg h1, if_pos h2], fun z => absurd z h1, fun _ _ => rfl, fun _ z => absurd h2 z⟩
      · exact ⟨j, hj, by rw [if_neg h1, if_neg h2], fun z => absurd z h1, fun _ z => absurd z h2, fun _ _ => rfl⟩
  refine ⟨fun j hj => ?_, fun i j hi hj e => ?_⟩
  · obtain ⟨k, hk, e, _⟩ := key j hj
    rw [e]; exact h.1 k hk
  · obtain ⟨k, hk, e1, h1, h2, h3⟩ := key i hi
    obtain ⟨l, hl, e2, g1, g2, g3⟩ := key j hj
    rw [e1, e2] at e
    have ekl := h.2 k l hk hl e
    by_cases c1 : i = b
    · by_cases c2 : j = b
      · omega
      · by_cases c3 : j = a
        · have := g2 c2 c3; have := h1 c1; omega
        · have := g3 c2 c3; have := h1 c1; omega
    · by_cases c2 : i = a
      · by_cases c3 : j = b
        · have := h2 c1 c2; have := g1 c3; omega
        · by_cases c4 : j = a
          · omega
          · have := h2 c1 c2; have := g3 c3 c4; omega
      · by_cases c3 : j = b
        · have := h3 c1 c2; have := g1 c3; omega
        · by_cases c4 : j = a
          · have := h3 c1 c2; have := g2 c3 c4; omega
          · have := h3 c1 c2; have := g3 c3 c4; omega
theorem rowNum_lt {f : Nat → Int32} : ∀ {n : Nat}, (∀ j, j < n → 0 ≤ (f j).toInt ∧ (f j).toInt < 7) → rowNum f n < 7 ^ n
  | 0, _ => by simp [rowNum]
  | n + 1, h => by
    have h1 := rowNum_lt (n := n) (fun j hj => h j (by omega))
    have h2 := h n (by omega)
    simp only [rowNum, Nat.pow_succ]
    omega
theorem rowNum_eq {f g : Nat → Int32} : ∀ {n : Nat}, (∀ j, j < n → f j = g j) → rowNum f n = rowNum g n
  | 0, _ => rfl
  | n + 1, h => by simp only [rowNum]; rw [rowNum_eq (n := n) (fun j hj => h j (by omega)), h n (by omega)]
theorem rowNum_less {f g : Nat → Int32} {i : Nat} (he : ∀ j, j < i → f j = g j) (h0 : 0 ≤ (f i).toInt) (hl : (f i).toInt < (g i).toInt) : ∀ {n : Nat}, i < n → (∀ j, j < n → 0 ≤ (f j).toInt ∧ (f j).toInt < 7) → rowNum f n < rowNum g n
  | 0, hn, _ => absurd hn (by omega)
  | n + 1, hn, hf => by
    simp only [rowNum]
    by_cases e : i = n
    · rw [rowNum_eq (n := n) (fun j hj => he j (by omega))]
      rw [e] at h0 hl
      omega
    · have h1 := rowNum_less he h0 hl (n := n) (by omega) (fun j hj => hf j (by omega))
      have h2 := hf n (by omega)
      omega
theorem o_X10_beginsRows (M : Mem) (v1 : Int32) (hv : v1.toInt ≤ 7) : Wp (f_X10_beginsRows M v1) (fun q => (∀ a i, ¬ (a = 37) → q a i = M a i) ∧ (∀ j : Nat, (j : Int) < v1.toInt → q 37 j = nI j)) := by
  have ft1 := t_rng v1
  refine wp_lp2 (fun M2 y2_2 => (0 ≤ y2_2.toInt) ∧ (∀ a i, ¬ (a = 37) → M2 a i = M a i) ∧ (∀ j : Nat, (j : Int) < y2_2.toInt → M2 37 j = nI j)) (fun M2 y2_2 => (v1.toInt - y2_2.toInt).toNat) (fun ag2 M2 y2_2 hI2 ih2 => ?_) FU M (nI 0) ⟨(by have f0 := t_lit 0; omega), (fun _ _ _ => rfl), (fun j hj => absurd hj (by have := t_lit 0; omega))⟩ (fu_lt (by have f0 := t_lit 0; omega))
  obtain ⟨hi2, hf_M2, hb⟩ := hI2
  refine wp_ite (fun c4 => ?_) (fun c4 => ?_)
  · exact wp_some ⟨(fun a i q0 => ((hf_M2 a i (fun h9 => q0 (h9))).trans rfl)), (fun j hj => hb j (by omega))⟩
  · refine wp_gd (by omega) ?_
    refine wp_bnd (fun M_1 eM_1 => ?_)
    exact ih2 M_1 (y2_2 + (nI 1)) ⟨(by have f0 := t_lit 1; have f1 := t_add y2_2 (nI 1); omega), (fun a i q0 => ((congrFun (congrFun eM_1 a) i).trans ((mset_ne (fun h9 => q0 ((h9).1))).trans ((hf_M2 a i (fun h9 => q0 (h9))).trans rfl)))), (set_ext (P := fun j x => x = nI j) eM_1 (by omega) (by omega) hb (t_nI (by have := t_ix y2_2; omega) (by have := t_ix y2_2; omega)))⟩ (by have f0 := t_lit 1; have f1 := t_add y2_2 (nI 1); omega)
theorem o_X10_beginsText (M : Mem) (v1 : Int32) : Wp (f_X10_beginsText M v1) (fun q => (∀ a i, ¬ ((a = 0 ∧ i = 7) ∨ (a = 0 ∧ i = 8) ∨ (a = 0 ∧ i = 12) ∨ (a = 0 ∧ i = 14)) → q a i = M a i) ∧ ((q 0 7).toInt = 0 ∧ (q 0 8).toInt = v1.toInt)) := by
  refine wp_bnd (fun M_1 eM_1 => ?_)
  refine wp_bnd (fun M_2 eM_2 => ?_)
  refine wp_bnd (fun M_3 eM_3 => ?_)
  refine wp_bnd (fun M_4 eM_4 => ?_)
  exact wp_some ⟨(fun a i q0 => ((congrFun (congrFun eM_4 a) i).trans ((mset_ne (fun h9 => q0 (Or.inr (Or.inr (Or.inr (h9)))))).trans ((congrFun (congrFun eM_3 a) i).trans ((mset_ne (fun h9 => q0 (Or.inr (Or.inr (Or.inl h9))))).trans ((congrFun (congrFun eM_2 a) i).trans ((mset_ne (fun h9 => q0 (Or.inr (Or.inl h9)))).trans ((congrFun (congrFun eM_1 a) i).trans ((mset_ne (fun h9 => q0 (Or.inl h9))).trans rfl))))))))), (by show (M_4 0 7).toInt = 0 ∧ (M_4 0 8).toInt = v1.toInt; rw [eM_4, mset_ne (by first | exact nz1 (by decide) | exact nz2 (by decide) | exact nz1 (nzA hc0 (by decide)) | exact nz1 (nzE (by decide)) | exact nz1 (nzB hc0 (by decide)) | exact nz1 (nzC hc0 (by decide)) | exact nz1 (nzD hc0 (by decide)) | exact nz1 (nzF (by decide)) | exact nz1 (nzG (by decide)) | omega), mset_ne (by first | exact nz1 (by decide) | exact nz2 (by decide) | exact nz1 (nzA hc0 (by decide)) | exact nz1 (nzE (by decide)) | exact nz1 (nzB hc0 (by decide)) | exact nz1 (nzC hc0 (by decide)) | exact nz1 (nzD hc0 (by decide)) | exact nz1 (nzF (by decide)) | exact nz1 (nzG (by decide)) | omega), eM_3, mset_ne (by first | exact nz1 (by decide) | exact nz2 (by decide) | exact nz1 (nzA hc0 (by decide)) | exact nz1 (nzE (by decide)) | exact nz1 (nzB hc0 (by decide)) | exact nz1 (nzC hc0 (by decide)) | exact nz1 (nzD hc0 (by decide)) | exact nz1 (nzF (by decide)) | exact nz1 (nzG (by decide)) | omega), mset_ne (by first | exact nz1 (by decide) | exact nz2 (by decide) | exact nz1 (nzA hc0 (by decide)) | exact nz1 (nzE (by decide)) | exact nz1 (nzB hc0 (by decide)) | exact nz1 (nzC hc0 (by decide)) | exact nz1 (nzD hc0 (by decide)) | exact nz1 (nzF (by decide)) | exact nz1 (nzG (by decide)) | omega), eM_2, mset_eq, mset_ne (by first | exact nz1 (by decide) | exact nz2 (by decide) | exact nz1 (nzA hc0 (by decide)) | exact nz1 (nzE (by decide)) | exact nz1 (nzB hc0 (by decide)) | exact nz1 (nzC hc0 (by decide)) | exact nz1 (nzD hc0 (by decide)) | exact nz1 (nzF (by decide)) | exact nz1 (nzG (by decide)) | omega), eM_1, mset_eq]; exact ⟨nI0, rfl⟩)⟩
theorem o_X10_min (M : Mem) (v0 : Int32) (v1 : Int32) : Wp (f_X10_min v0 v1) (fun q => (q.toInt = min v0.toInt v1.toInt)) := by
  refine wp_ite (fun c2 => ?_) (fun c2 => ?_)
  · exact wp_some (by show v1.toInt = min v0.toInt v1.toInt; omega)
  · exact wp_some (by show v0.toInt = min v0.toInt v1.toInt; omega)
theorem o_X10_max (M : Mem) (v0 : Int32) (v1 : Int32) : Wp (f_X10_max v0 v1) (fun q => (q.toInt = max v0.toInt v1.toInt)) := by
  refine wp_ite (fun c2 => ?_) (fun c2 => ?_)
  · exact wp_some (by show v1.toInt = max v0.toInt v1.toInt; omega)
  · exact wp_some (by show v0.toInt = max v0.toInt v1.toInt; omega)
theorem o_X10_bounded (M : Mem) (v0 : Int32) (v1 : Int32) (v2 : Int32) : Wp (f_X10_bounded v0 v1 v2) (fun q => (q.toInt = max v1.toInt (min v2.toInt v0.toInt))) := by
  refine wp_bind2 (o_X10_min M v2 v0) (fun r_1 he3 hq3 => ?_)
  have hr_3 := hq3
  replace hr_3 : r_1.toInt = min v2.toInt v0.toInt := hr_3
  refine wp_bind2 (o_X10_max M v1 r_1) (fun r_2 he6 hq6 => ?_)
  have hr_6 := hq6
  replace hr_6 : r_2.toInt = max v1.toInt r_1.toInt := hr_6
  exact wp_some (by show r_2.toInt = max v1.toInt (min v2.toInt v0.toInt); omega)
theorem o_X10_reckon (M : Mem) (v0 : Int32) (v1 : Int32) (v2 : Int32) (hy : (v0.toInt = 5 ∨ v0.toInt = 6) → ¬ v2.toInt = 0) : Wp (f_X10_reckon v0 v1 v2) (fun q => True) := by
  refine wp_ite (fun c1 => ?_) (fun c1 => ?_)
  · exact wp_some trivial
  · refine wp_ite (fun c1 => ?_) (fun c1 => ?_)
    · exact wp_some trivial
    · refine wp_ite (fun c2 => ?_) (fun c2 => ?_)
      · exact wp_some trivial
      · refine wp_ite (fun c3 => ?_) (fun c3 => ?_)
        · refine wp_dz (by omega) ?_
          exact wp_some trivial
        · refine wp_ite (fun c4 => ?_) (fun c4 => ?_)
          · refine wp_dz (by omega) ?_
            exact wp_some trivial
          · refine wp_ite (fun c5 => ?_) (fun c5 => ?_)
            · refine wp_ite (fun c66 => ?_) (fun c66 => ?_)
              · exact wp_some trivial
              · exact wp_some trivial
            · refine wp_ite (fun c6 => ?_) (fun c6 => ?_)
              · refine wp_ite (fun c77 => ?_) (fun c77 => ?_)
                · exact wp_some trivial
                · exact wp_some trivial
              · refine wp_ite (fun c88 => ?_) (fun c88 => ?_)
                · exact wp_some trivial
                · exact wp_some trivial
theorem o_X10_isDry (M : Mem) (v1 : Int32) (hv1 : 0 ≤ v1.toInt ∧ v1.toInt < 40) : Wp (f_X10_isDry M v1) (fun q => (q = 0 ∨ q = 1) ∧ (¬ q.toInt = 0 → (M 1 (ix v1)).toInt = 1)) := by
  refine wp_gd (by omega) ?_
  refine wp_ite (fun c9 => ?_) (fun c9 => ?_)
  · refine wp_gd (by have f0 := t_lit 160; have f1 := t_add (nI 160) v1; omega) ?_
    refine wp_ite (fun c22 => ?_) (fun c22 => ?_)
    · exact wp_some ⟨b01_1, (by show ¬ (nI 1).toInt = 0 → (M 1 (ix v1)).toInt = 1; have f0 := t_lit 1; have f1 := t_lit 160; have f2 := t_add (nI 160) v1; omega)⟩
    · exact wp_some ⟨b01_0, (by show ¬ (nI 0).toInt = 0 → (M 1 (ix v1)).toInt = 1; have f0 := t_lit 0; have f1 := t_lit 160; have f2 := t_add (nI 160) v1; omega)⟩
  · exact wp_some ⟨b01_0, (by show ¬ (nI 0).toInt = 0 → (M 1 (ix v1)).toInt = 1; have f0 := t_lit 0; omega)⟩
theorem o_X10_canStep (M : Mem) (v1 : Int32) (v2 : Int32) (v3 : Int32) (hv1 : 0 ≤ v1.toInt ∧ v1.toInt < 40) (hv2 : 0 ≤ v2.toInt ∧ v2.toInt < 40) : Wp (f_X10_canStep M v1 v2 v3) (fun q => (q = 0 ∨ q = 1) ∧ (¬ q.toInt = 0 → (M 1 (ix v1)).toInt = 1 ∧ (M 1 (ix v2)).toInt = 1)) := by
  refine wp_bind2 (o_X10_isDry M v1 (by omega)) (fun r_1 he2 hq2 => ?_)
  obtain ⟨hz_r_1, hr_2⟩ := hq2
  replace hr_2 : ¬ r_1.toInt = 0 → (M 1 (ix v1)).toInt = 1 := hr_2
  refine wp_ite (fun c5 => ?_) (fun c5 => ?_)
  · exact wp_some ⟨b01_0, (by show ¬ (nI 0).toInt = 0 → (M 1 (ix v1)).toInt = 1 ∧ (M 1 (ix v2)).toInt = 1; have f0 := t_lit 0; omega)⟩
  · refine wp_bind2 (o_X10_isDry M v2 (by omega)) (fun r_2 he10 hq10 => ?_)
    obtain ⟨hz_r_2, hr_10⟩ := hq10
    replace hr_10 : ¬ r_2.toInt = 0 → (M 1 (ix v2)).toInt = 1 := hr_10
    refine wp_ite (fun c13 => ?_) (fun c13 => ?_)
    · exact wp_some ⟨b01_0, (by show ¬ (nI 0).toInt = 0 → (M 1 (ix v1)).toInt = 1 ∧ (M 1 (ix v2)).toInt = 1; have f0 := t_lit 0; omega)⟩
    · refine wp_bind2 (o_X10_apart M v1 v2 (by omega) (by omega)) (fun r_3 he19 hq19 => ?_)
      refine wp_ite (fun c25 => ?_) (fun c25 => ?_)
      · exact wp_some ⟨b01_0, (by show ¬ (nI 0).toInt = 0 → (M 1 (ix v1)).toInt = 1 ∧ (M 1 (ix v2)).toInt = 1; have f0 := t_lit 0; omega)⟩
      · exact wp_some ⟨b01_1, (by show ¬ (nI 1).toInt = 0 → (M 1 (ix v1)).toInt = 1 ∧ (M 1 (ix v2)).toInt = 1; have f0 := t_lit 1; omega)⟩
theorem o_X10_isStone (M : Mem) (v1 : Int32) : Wp (f_X10_isStone M v1) (fun q => (q = 0 ∨ q = 1) ∧ (¬ q.toInt = 0 → (0 ≤ v1.toInt ∧ v1.toInt < 40) ∧ (M 1 (ix v1)).toInt = 1)) := by
  refine wp_bind2 (o_X10_in M v1 (nI 0) (nI 39)) (fun r_1 he4 hq4 => ?_)
  obtain ⟨hz_r_1, hr_4⟩ := hq4
  replace hr_4 : ¬ r_1.toInt = 0 → (nI 0).toInt ≤ v1.toInt ∧ v1.toInt ≤ (nI 39).toInt := hr_4
  have := t_lit 0
  have := t_lit 39
  refine wp_ite (fun c7 => ?_) (fun c7 => ?_)
  · exact wp_some ⟨b01_0, (by show ¬ (nI 0).toInt = 0 → (0 ≤ v1.toInt ∧ v1.toInt < 40) ∧ (M 1 (ix v1)).toInt = 1; have f0 := t_lit 0; omega)⟩
  · refine wp_gd (by omega) ?_
    refine wp_ite (fun c19 => ?_) (fun c19 => ?_)
    · exact wp_some ⟨b01_1, (by show ¬ (nI 1).toInt = 0 → (0 ≤ v1.toInt ∧ v1.toInt < 40) ∧ (M 1 (ix v1)).toInt = 1; have f0 := t_lit 1; omega)⟩
    · exact wp_some ⟨b01_0, (by show ¬ (nI 0).toInt = 0 → (0 ≤ v1.toInt ∧ v1.toInt < 40) ∧ (M 1 (ix v1)).toInt = 1; have f0 := t_lit 0; omega)⟩
theorem o_X10_listsStones (M : Mem) (v1 : Int32) (v2 : Int32) (hv : v1.toInt ≤ 7) : Wp (f_X10_listsStones M v1 v2) (fun q => (q.1 = 0 ∨ q.1 = 1) ∧ (∀ a i, ¬ (a = 36) → q.2 a i = M a i) ∧ (¬ q.1.toInt = 0 → ∀ j : Nat, (j : Int) < v1.toInt → 0 ≤ (q.2 36 j).toInt ∧ (q.2 36 j).toInt < 40)) := by
  refine wp_lp3 (fun M5 y3_5 y4_5 => (0 ≤ y4_5.toInt) ∧ (∀ a i, ¬ (a = 36) → M5 a i = M a i) ∧ (0 ≤ y3_5.toInt) ∧ (∀ j : Nat, (j : Int) < y3_5.toInt → 0 ≤ (M5 36 j).toInt ∧ (M5 36 j).toInt < 40)) (fun M5 y3_5 y4_5 => (40 - y4_5.toInt).toNat) (fun ag5 M5 y3_5 y4_5 hI5 ih5 => ?_) FU M (nI 0) (nI 0) ⟨(by have f0 := t_lit 0; omega), (fun _ _ _ => rfl), (by decide), (fun j hj => absurd hj (by have := t_lit 0; omega))⟩ (fu_lt (by have f0 := t_lit 0; omega))
  obtain ⟨hi5, hf_M5, h3, hw⟩ := hI5
  have j60 : Wp (f_X10_listsStones_L60 v1 M5 y3_5) (fun q => (q.1 = 0 ∨ q.1 = 1) ∧ (∀ a i, ¬ (a = 36) → q.2 a i = M a i) ∧ (¬ q.1.toInt = 0 → ∀ j : Nat, (j : Int) < v1.toInt → 0 ≤ (q.2 36 j).toInt ∧ (q.2 36 j).toInt < 40)) := by
    unfold f_X10_listsStones_L60
    refine wp_ite (fun c62 => ?_) (fun c62 => ?_)
    · exact wp_some ⟨b01_1, (fun a i q0 => ((hf_M5 a i (fun h9 => q0 (h9))).trans rfl)), (fun _ j hj => hw j (by omega))⟩
    · exact wp_some ⟨b01_0, (fun a i q0 => ((hf_M5 a i (fun h9 => q0 (h9))).trans rfl)), (fun h => absurd nI0 h)⟩
  refine wp_ite (fun c9 => ?_) (fun c9 => ?_)
  · exact j60
  · refine wp_ite (fun c14 => ?_) (fun c14 => ?_)
    · exact j60
    · refine wp_bind2 (o_X10_isStone M5 y4_5) (fun r_1 he20 hq20 => ?_)
      obtain ⟨hz_r_1, hr_20⟩ := hq20
      replace hr_20 : ¬ r_1.toInt = 0 → (0 ≤ y4_5.toInt ∧ y4_5.toInt < 40) ∧ (M5 1 (ix y4_5)).toInt = 1 := hr_20
      refine wp_ite (fun c23 => ?_) (fun c23 => ?_)
      · exact ih5 M5 y3_5 (y4_5 + (nI 1)) ⟨(by have f0 := t_lit 1; have f1 := t_add y4_5 (nI 1); omega), (fun a i q0 => ((hf_M5 a i (fun h9 => q0 (h9))).trans rfl)), (by omega), hw⟩ (by have f0 := t_lit 1; have f1 := t_add y4_5 (nI 1); omega)
      · have j42 : Wp (f_X10_listsStones_L42 ag5 M5 y3_5 y4_5) (fun q => (q.1 = 0 ∨ q.1 = 1) ∧ (∀ a i, ¬ (a = 36) → q.2 a i = M a i) ∧ (¬ q.1.toInt = 0 → ∀ j : Nat, (j : Int) < v1.toInt → 0 ≤ (q.2 36 j).toInt ∧ (q.2 36 j).toInt < 40)) := by
          unfold f_X10_listsStones_L42
          refine wp_gd (by omega) ?_
          refine wp_bnd (fun M_2 eM_2 => ?_)
          exact ih5 M_2 (y3_5 + (nI 1)) (y4_5 + (nI 1)) ⟨(by have f0 := t_lit 1; have f1 := t_add y4_5 (nI 1); omega), (fun a i q0 => ((congrFun (congrFun eM_2 a) i).trans ((mset_ne (fun h9 => q0 ((h9).1))).trans ((hf_M5 a i (fun h9 => q0 (h9))).trans rfl)))), (by have f0 := t_lit 1; have f1 := t_add y3_5 (nI 1); omega), (set_ext (P := fun _ x => 0 ≤ x.toInt ∧ x.toInt < 40) eM_2 (by omega) (by omega) hw (by omega))⟩ (by have f0 := t_lit 1; have f1 := t_add y4_5 (nI 1); omega)
        refine wp_ite (fun c27 => ?_) (fun c27 => ?_)
        · exact j42
        · refine wp_bind2 (o_X10_isDry M5 y4_5 (by omega)) (fun r_3 he33 hq33 => ?_)
          obtain ⟨hz_r_3, hr_33⟩ := hq33
          replace hr_33 : ¬ r_3.toInt = 0 → (M5 1 (ix y4_5)).toInt = 1 := hr_33
          refine wp_ite (fun c36 => ?_) (fun c36 => ?_)
          · exact ih5 M5 y3_5 (y4_5 + (nI 1)) ⟨(by have f0 := t_lit 1; have f1 := t_add y4_5 (nI 1); omega), (fun a i q0 => ((hf_M5 a i (fun h9 => q0 (h9))).trans rfl)), (by omega), hw⟩ (by have f0 := t_lit 1; have f1 := t_add y4_5 (nI 1); omega)
          · exact j42
theorem o_X10_octet (M : Mem) (v1 : Int32) (hv : 0 ≤ v1.toInt ∧ v1.toInt < 260) : Wp (f_X10_octet M v1) (fun q => True) := by
  refine wp_gd (by omega) ?_
  exact wp_some trivial
theorem o_X10_size (M : Mem) (v0 : Int32) : Wp (f_X10_size v0) (fun q => True) := by
  refine wp_ite (fun c1 => ?_) (fun c1 => ?_)
  · exact wp_some trivial
  · exact wp_some trivial
theorem o_X10_chalkOff (M : Mem) (v1 : Int32) (hv : v1.toInt ≤ 7) (hr : PermN (M 37) v1.toInt.toNat) (hw : ∀ j : Nat, (j : Int) < v1.toInt → 0 ≤ (M 36 j).toInt ∧ (M 36 j).toInt < 40) : Wp (f_X10_chalkOff M v1) (fun q => True) := by
  have ft1 := t_rng v1
  refine wp_lp2 (fun y2_4 y3_4 => (0 ≤ y3_4.toInt)) (fun y2_4 y3_4 => (v1.toInt - y3_4.toInt).toNat) (fun ag4 y2_4 y3_4 hI4 ih4 => ?_) FU (nI 0) (nI 0) (by have f0 := t_lit 0; omega) (fu_lt (by have f0 := t_lit 0; omega))
  have hi4 := hI4
  refine wp_ite (fun c6 => ?_) (fun c6 => ?_)
  · exact wp_some trivial
  · refine wp_gd (by omega) ?_
    have fx := t_ixn y3_4 (by omega)
    have hr1 := hr.1 (ix y3_4) (by omega)
    refine wp_gd (by omega) ?_
    refine wp_bnd (fun x_1 ex_1 => ?_)
    have fx2 := t_ixn (M 37 (ix y3_4)) (by omega)
    have hx1 := hw (ix (M 37 (ix y3_4))) (by omega)
    rw [← ex_1] at hx1
    refine wp_gd (by have f0 := t_lit 40; have f1 := t_add (nI 40) x_1; have f2 := congrArg Int32.toInt ex_1; omega) ?_
    refine wp_bind2 (o_X10_octet M ((nI 2) * y3_4) (by have f0 := t_lit 2; have f1 := (t_mulL y3_4 2 (by omega) (by omega)); omega)) (fun r_2 he37 hq37 => ?_)
    refine wp_bind2 (o_X10_size M ((M 1 (ix ((nI 40) + x_1))) - r_2)) (fun r_3 he41 hq41 => ?_)
    refine wp_gd (by have f0 := t_lit 80; have f1 := t_add (nI 80) x_1; have f2 := congrArg Int32.toInt ex_1; omega) ?_
    refine wp_bind2 (o_X10_octet M (((nI 2) * y3_4) + (nI 1)) (by have f0 := t_lit 2; have f1 := (t_mulL y3_4 2 (by omega) (by omega)); have f2 := t_lit 1; have f3 := t_add ((nI 2) * y3_4) (nI 1); omega)) (fun r_4 he61 hq61 => ?_)
    refine wp_bind2 (o_X10_size M ((M 1 (ix ((nI 80) + x_1))) - r_4)) (fun r_5 he65 hq65 => ?_)
    refine wp_bnd (fun x_6 ex_6 => ?_)
    exact ih4 x_6 (y3_4 + (nI 1)) (by have f0 := t_lit 1; have f1 := t_add y3_4 (nI 1); omega) (by have f0 := t_lit 1; have f1 := t_add y3_4 (nI 1); omega)
theorem o_X10_changes (M : Mem) (v1 : Int32) (v2 : Int32) (h1 : 0 ≤ v1.toInt ∧ v1.toInt < 7) (h2 : 0 ≤ v2.toInt ∧ v2.toInt < 7) : Wp (f_X10_changes M v1 v2) (fun q => (∀ a i, ¬ (a = 37) → q a i = M a i) ∧ (q 37 = swp (M 37) (ix v1) (ix v2))) := by
  refine wp_gd (by omega) ?_
  refine wp_bnd (fun x_1 ex_1 => ?_)
  refine wp_gd (by omega) ?_
  refine wp_gd (by omega) ?_
  refine wp_bnd (fun M_2 eM_2 => ?_)
  refine wp_gd (by omega) ?_
  refine wp_bnd (fun M_3 eM_3 => ?_)
  exact wp_some ⟨(fun a i q0 => ((congrFun (congrFun eM_3 a) i).trans ((mset_ne (fun h9 => q0 ((h9).1))).trans ((congrFun (congrFun eM_2 a) i).trans ((mset_ne (fun h9 => q0 ((h9).1))).trans rfl))))), (by rw [eM_3, mset_s, eM_2, mset_s, ex_1]; rfl)⟩
theorem o_X10_check (M : Mem) (v1 : Int32) : Wp (f_X10_check M v1) (fun q => (∀ a i, ¬ ((a = 0 ∧ i = 6)) → q.2 a i = M a i)) := by
  refine wp_bind2 (o_X10_in M v1 (nI 0) (nI 40)) (fun r_1 he4 hq4 => ?_)
  obtain ⟨hz_r_1, hr_4⟩ := hq4
  replace hr_4 : ¬ r_1.toInt = 0 → (nI 0).toInt ≤ v1.toInt ∧ v1.toInt ≤ (nI 40).toInt := hr_4
  have := t_lit 0
  have := t_lit 40
  refine wp_ite (fun c7 => ?_) (fun c7 => ?_)
  · exact wp_some (fun _ _ _ => rfl)
  · refine wp_ite (fun c15 => ?_) (fun c15 => ?_)
    · refine wp_bnd (fun M_2 eM_2 => ?_)
      have ft1 := t_rng v1
      refine wp_lp1 (fun y2_28 => (0 ≤ y2_28.toInt)) (fun y2_28 => (v1.toInt - y2_28.toInt).toNat) (fun ag28 y2_28 hI28 ih28 => ?_) FU (nI 0) (by have f0 := t_lit 0; omega) (fu_lt (by have f0 := t_lit 0; omega))
      have hi28 := hI28
      refine wp_ite (fun c30 => ?_) (fun c30 => ?_)
      · exact wp_some (fun a i q0 => ((congrFun (congrFun eM_2 a) i).trans ((mset_ne (fun h9 => q0 (h9))).trans rfl)))
      · refine wp_bind2 (o_X10_octet M_2 y2_28 (by omega)) (fun r_3 he35 hq35 => ?_)
        refine wp_bind2 (o_X10_isStone M_2 y2_28) (fun r_4 he40 hq40 => ?_)
        obtain ⟨hz_r_4, hr_40⟩ := hq40
        replace hr_40 : ¬ r_4.toInt = 0 → (0 ≤ y2_28.toInt ∧ y2_28.toInt < 40) ∧ (M_2 1 (ix y2_28)).toInt = 1 := hr_40
        have j61 : ∀ (t0_61 : Int32), Wp (f_X10_check_L61 M_2 ag28 y2_28 r_3 t0_61) (fun q => (∀ a i, ¬ ((a = 0 ∧ i = 6)) → q.2 a i = M a i)) := by
          intro t0_61
          unfold f_X10_check_L61
          refine wp_ite (fun c61 => ?_) (fun c61 => ?_)
          · exact ih28 (y2_28 + (nI 1)) (by have f0 := t_lit 1; have f1 := t_add y2_28 (nI 1); omega) (by have f0 := t_lit 1; have f1 := t_add y2_28 (nI 1); omega)
          · exact wp_some (fun a i q0 => ((congrFun (congrFun eM_2 a) i).trans ((mset_ne (fun h9 => q0 (h9))).trans rfl)))
        refine wp_ite (fun c43 => ?_) (fun c43 => ?_)
        · exact j61 (nI 255)
        · refine wp_gd (by have f0 := t_lit 40; have f1 := t_add (nI 40) y2_28; omega) ?_
          exact j61 (M_2 1 (ix ((nI 40) + y2_28)))
    · exact wp_some (fun _ _ _ => rfl)
theorem o_X10_nearestTo (M : Mem) (v1 : Int32) (hv1 : 0 ≤ v1.toInt ∧ v1.toInt < 40) : Wp (f_X10_nearestTo M v1) (fun q => (q.toInt = -1 ∨ (0 ≤ q.toInt ∧ q.toInt < 40))) := by
  refine wp_lp2 (fun y2_4 y3_4 => (0 ≤ y3_4.toInt) ∧ (y2_4.toInt = -1 ∨ (0 ≤ y2_4.toInt ∧ y2_4.toInt < 40))) (fun y2_4 y3_4 => (40 - y3_4.toInt).toNat) (fun ag4 y2_4 y3_4 hI4 ih4 => ?_) FU (-1) (nI 0) ⟨(by have f0 := t_lit 0; omega), (Or.inl (by decide))⟩ (fu_lt (by have f0 := t_lit 0; omega))
  obtain ⟨hi4, hb⟩ := hI4
  refine wp_ite (fun c7 => ?_) (fun c7 => ?_)
  · exact wp_some (by show y2_4.toInt = -1 ∨ (0 ≤ y2_4.toInt ∧ y2_4.toInt < 40); omega)
  · refine wp_ite (fun c12 => ?_) (fun c12 => ?_)
    · exact ih4 y2_4 (y3_4 + (nI 1)) ⟨(by have f0 := t_lit 1; have f1 := t_add y3_4 (nI 1); omega), (by omega)⟩ (by have f0 := t_lit 1; have f1 := t_add y3_4 (nI 1); omega)
    · refine wp_bind2 (o_X10_isStone M y3_4) (fun r_1 he17 hq17 => ?_)
      obtain ⟨hz_r_1, hr_17⟩ := hq17
      replace hr_17 : ¬ r_1.toInt = 0 → (0 ≤ y3_4.toInt ∧ y3_4.toInt < 40) ∧ (M 1 (ix y3_4)).toInt = 1 := hr_17
      refine wp_ite (fun c20 => ?_) (fun c20 => ?_)
      · exact ih4 y2_4 (y3_4 + (nI 1)) ⟨(by have f0 := t_lit 1; have f1 := t_add y3_4 (nI 1); omega), (by omega)⟩ (by have f0 := t_lit 1; have f1 := t_add y3_4 (nI 1); omega)
      · refine wp_ite (fun c25 => ?_) (fun c25 => ?_)
        · exact ih4 y3_4 (y3_4 + (nI 1)) ⟨(by have f0 := t_lit 1; have f1 := t_add y3_4 (nI 1); omega), (by omega)⟩ (by have f0 := t_lit 1; have f1 := t_add y3_4 (nI 1); omega)
        · refine wp_bind2 (o_X10_apart M v1 y3_4 (by omega) (by omega)) (fun r_2 he31 hq31 => ?_)
          refine wp_bind2 (o_X10_apart M v1 y2_4 (by omega) (by omega)) (fun r_3 he37 hq37 => ?_)
          refine wp_ite (fun c40 => ?_) (fun c40 => ?_)
          · exact ih4 y2_4 (y3_4 + (nI 1)) ⟨(by have f0 := t_lit 1; have f1 := t_add y3_4 (nI 1); omega), (by omega)⟩ (by have f0 := t_lit 1; have f1 := t_add y3_4 (nI 1); omega)
          · exact ih4 y3_4 (y3_4 + (nI 1)) ⟨(by have f0 := t_lit 1; have f1 := t_add y3_4 (nI 1); omega), (by omega)⟩ (by have f0 := t_lit 1; have f1 := t_add y3_4 (nI 1); omega)
theorem o_X10_closest (M : Mem) : Wp (f_X10_closest M) (fun q => True) := by
  refine wp_lp2 (fun y1_5 y2_5 => (0 ≤ y2_5.toInt)) (fun y1_5 y2_5 => (40 - y2_5.toInt).toNat) (fun ag5 y1_5 y2_5 hI5 ih5 => ?_) FU (-2) (nI 0) (by have f0 := t_lit 0; omega) (fu_lt (by have f0 := t_lit 0; omega))
  have hi5 := hI5
  refine wp_ite (fun c8 => ?_) (fun c8 => ?_)
  · exact wp_some trivial
  · refine wp_bind2 (o_X10_isStone M y2_5) (fun r_1 he13 hq13 => ?_)
    obtain ⟨hz_r_1, hr_13⟩ := hq13
    replace hr_13 : ¬ r_1.toInt = 0 → (0 ≤ y2_5.toInt ∧ y2_5.toInt < 40) ∧ (M 1 (ix y2_5)).toInt = 1 := hr_13
    have j28 : ∀ (t0_28 : Int32), (t0_28.toInt = -1 ∨ (0 ≤ t0_28.toInt ∧ t0_28.toInt < 40)) → Wp (f_X10_closest_L28 M ag5 y1_5 y2_5 t0_28) (fun q => True) := by
      intro t0_28 h28
      unfold f_X10_closest_L28
      refine wp_ite (fun c31 => ?_) (fun c31 => ?_)
      · exact ih5 y1_5 (y2_5 + (nI 1)) (by have f0 := t_lit 1; have f1 := t_add y2_5 (nI 1); omega) (by have f0 := t_lit 1; have f1 := t_add y2_5 (nI 1); omega)
      · have j50 : Wp (f_X10_closest_L50 M ag5 y2_5 t0_28) (fun q => True) := by
          unfold f_X10_closest_L50
          refine wp_bind2 (o_X10_apart M y2_5 t0_28 (by omega) (by omega)) (fun r_2 he53 hq53 => ?_)
          exact ih5 r_2 (y2_5 + (nI 1)) (by have f0 := t_lit 1; have f1 := t_add y2_5 (nI 1); omega) (by have f0 := t_lit 1; have f1 := t_add y2_5 (nI 1); omega)
        refine wp_ite (fun c37 => ?_) (fun c37 => ?_)
        · exact j50
        · refine wp_bind2 (o_X10_apart M y2_5 t0_28 (by omega) (by omega)) (fun r_3 he43 hq43 => ?_)
          refine wp_ite (fun c47 => ?_) (fun c47 => ?_)
          · exact ih5 y1_5 (y2_5 + (nI 1)) (by have f0 := t_lit 1; have f1 := t_add y2_5 (nI 1); omega) (by have f0 := t_lit 1; have f1 := t_add y2_5 (nI 1); omega)
          · exact j50
    refine wp_ite (fun c16 => ?_) (fun c16 => ?_)
    · exact j28 (-1) (by have f0 := (by decide : ((-1 : Int32)).toInt = -1); omega)
    · refine wp_bind2 (o_X10_nearestTo M y2_5 (by omega)) (fun r_4 he21 hq21 => ?_)
      have hr_21 := hq21
      replace hr_21 : r_4.toInt = -1 ∨ (0 ≤ r_4.toInt ∧ r_4.toInt < 40) := hr_21
      exact j28 r_4 (by omega)
theorem o_X10_copies {k len_k : Nat} (hlk : len_k < 2 ^ 31) {k2 len_k2 : Nat} (hlk2 : len_k2 < 2 ^ 31) (M : Mem) (hlen : 202 ≤ len_k ∧ 202 ≤ len_k2) (hkk : ¬ k = k2) : Wp (f_X10_copies k len_k k2 len_k2 M) (fun q => (∀ a i, ¬ (a = k2) → q a i = M a i) ∧ (∀ j : Nat, j < 202 → q k2 j = M k j)) := by
  refine wp_lp2 (fun M2 y2_2 => (0 ≤ y2_2.toInt) ∧ (∀ a i, ¬ (a = k2) → M2 a i = M a i) ∧ (∀ j : Nat, (j : Int) < y2_2.toInt → M2 k2 j = M k j)) (fun M2 y2_2 => (202 - y2_2.toInt).toNat) (fun ag2 M2 y2_2 hI2 ih2 => ?_) FU M (nI 0) ⟨(by have f0 := t_lit 0; omega), (fun _ _ _ => rfl), (fun j hj => absurd hj (by have := t_lit 0; omega))⟩ (fu_lt (by have f0 := t_lit 0; omega))
  obtain ⟨hi2, hf_M2, hc⟩ := hI2
  refine wp_ite (fun c6 => ?_) (fun c6 => ?_)
  · exact wp_some ⟨(fun a i q0 => ((hf_M2 a i (fun h9 => q0 (h9))).trans rfl)), (fun j hj => hc j (by omega))⟩
  · refine wp_gd (by omega) ?_
    refine wp_gd (by omega) ?_
    refine wp_bnd (fun M_1 eM_1 => ?_)
    exact ih2 M_1 (y2_2 + (nI 1)) ⟨(by have f0 := t_lit 1; have f1 := t_add y2_2 (nI 1); omega), (fun a i q0 => ((congrFun (congrFun eM_1 a) i).trans ((mset_ne (fun h9 => q0 ((h9).1))).trans ((hf_M2 a i (fun h9 => q0 (h9))).trans rfl)))), (set_ext (P := fun j x => x = M k j) eM_1 (by omega) (by omega) hc (hf_M2 k (ix y2_2) (by first | decide | (rcases hc0 with h | h <;> rw [h] <;> simp; done) | (rcases hb0 with h | h | h <;> rw [h] <;> simp; done) | (simp; done) | omega)))⟩ (by have f0 := t_lit 1; have f1 := t_add y2_2 (nI 1); omega)
theorem o_X10_sumOf (M : Mem) (v1 : Int32) (hv : 0 ≤ v1.toInt ∧ v1.toInt ≤ 160) : Wp (f_X10_sumOf M v1) (fun q => True) := by
  refine wp_lp2 (fun y2_4 y3_4 => (0 ≤ y3_4.toInt)) (fun y2_4 y3_4 => (40 - y3_4.toInt).toNat) (fun ag4 y2_4 y3_4 hI4 ih4 => ?_) FU (nI 0) (nI 0) (by have f0 := t_lit 0; omega) (fu_lt (by have f0 := t_lit 0; omega))
  have hi4 := hI4
  refine wp_ite (fun c7 => ?_) (fun c7 => ?_)
  · exact wp_some trivial
  · refine wp_bind2 (o_X10_isStone M y3_4) (fun r_1 he13 hq13 => ?_)
    obtain ⟨hz_r_1, hr_13⟩ := hq13
    replace hr_13 : ¬ r_1.toInt = 0 → (0 ≤ y3_4.toInt ∧ y3_4.toInt < 40) ∧ (M 1 (ix y3_4)).toInt = 1 := hr_13
    refine wp_ite (fun c16 => ?_) (fun c16 => ?_)
    · exact ih4 (y2_4 + (nI 0)) (y3_4 + (nI 1)) (by have f0 := t_lit 1; have f1 := t_add y3_4 (nI 1); omega) (by have f0 := t_lit 1; have f1 := t_add y3_4 (nI 1); omega)
    · refine wp_gd (by have f0 := t_add v1 y3_4; omega) ?_
      refine wp_bnd (fun x_2 ex_2 => ?_)
      exact ih4 x_2 (y3_4 + (nI 1)) (by have f0 := t_lit 1; have f1 := t_add y3_4 (nI 1); omega) (by have f0 := t_lit 1; have f1 := t_add y3_4 (nI 1); omega)
theorem o_X10_has (M : Mem) (v0 : Int32) (v1 : Int32) : Wp (f_X10_has v0 v1) (fun q => (q = 0 ∨ q = 1)) := by
  refine wp_ite (fun c6 => ?_) (fun c6 => ?_)
  · exact wp_some b01_1
  · exact wp_some b01_0
theorem o_X10_isPerson (M : Mem) (v1 : Int32) : Wp (f_X10_isPerson M v1) (fun q => (q = 0 ∨ q = 1) ∧ (¬ q.toInt = 0 → 0 ≤ v1.toInt ∧ v1.toInt < 8)) := by
  refine wp_bind2 (o_X10_in M v1 (nI 0) (nI 7)) (fun r_1 he4 hq4 => ?_)
  obtain ⟨hz_r_1, hr_4⟩ := hq4
  replace hr_4 : ¬ r_1.toInt = 0 → (nI 0).toInt ≤ v1.toInt ∧ v1.toInt ≤ (nI 7).toInt := hr_4
  have := t_lit 0
  have := t_lit 7
  refine wp_ite (fun c7 => ?_) (fun c7 => ?_)
  · exact wp_some ⟨b01_0, (by show ¬ (nI 0).toInt = 0 → 0 ≤ v1.toInt ∧ v1.toInt < 8; have f0 := t_lit 0; omega)⟩
  · refine wp_bind2 (o_X10_has M (M 0 4) v1) (fun r_2 he15 hq15 => ?_)
    have hz_r_2 := hq15
    refine wp_ite (fun c18 => ?_) (fun c18 => ?_)
    · exact wp_some ⟨b01_0, (by show ¬ (nI 0).toInt = 0 → 0 ≤ v1.toInt ∧ v1.toInt < 8; have f0 := t_lit 0; omega)⟩
    · exact wp_some ⟨b01_1, (by show ¬ (nI 1).toInt = 0 → 0 ≤ v1.toInt ∧ v1.toInt < 8; have f0 := t_lit 1; omega)⟩
theorem o_X10_count (M : Mem) (v1 : Int32) : Wp (f_X10_count M v1) (fun q => True) := by
  refine wp_ite (fun c1 => ?_) (fun c1 => ?_)
  · exact wp_some trivial
  · refine wp_ite (fun c1 => ?_) (fun c1 => ?_)
    · refine wp_bind2 (o_X10_sumOf M (nI 0) (by have f0 := t_lit 0; omega)) (fun r_1 he55 hq55 => ?_)
      exact wp_some trivial
    · refine wp_ite (fun c2 => ?_) (fun c2 => ?_)
      · refine wp_bind2 (o_X10_sumOf M (nI 160) (by have f0 := t_lit 160; omega)) (fun r_2 he63 hq63 => ?_)
        exact wp_some trivial
      · refine wp_ite (fun c3 => ?_) (fun c3 => ?_)
        · exact wp_some trivial
        · refine wp_ite (fun c4 => ?_) (fun c4 => ?_)
          · exact wp_some trivial
          · refine wp_ite (fun c5 => ?_) (fun c5 => ?_)
            · exact wp_some trivial
            · refine wp_ite (fun c6 => ?_) (fun c6 => ?_)
              · exact wp_some trivial
              · refine wp_bind2 (o_X10_isPerson M (v1 - (nI 10))) (fun r_3 he96 hq96 => ?_)
                obtain ⟨hz_r_3, hr_96⟩ := hq96
                replace hr_96 : ¬ r_3.toInt = 0 → 0 ≤ (v1 - (nI 10)).toInt ∧ (v1 - (nI 10)).toInt < 8 := hr_96
                refine wp_ite (fun c99 => ?_) (fun c99 => ?_)
                · exact wp_some trivial
                · refine wp_gd (by have f0 := t_lit 10; have f1 := t_sub v1 (nI 10); omega) ?_
                  exact wp_some trivial
theorem o_X10_isByBank (M : Mem) (v1 : Int32) (v2 : Int32) (v3 : Int32) (hv1 : 0 ≤ v1.toInt ∧ v1.toInt < 40) : Wp (f_X10_isByBank M v1 v2 v3) (fun q => (q = 0 ∨ q = 1) ∧ (¬ q.toInt = 0 → (M 1 (ix v1)).toInt = 1)) := by
  have j28 : ∀ (t0_28 : Int32), Wp (f_X10_isByBank_L28 M v1 v3 t0_28) (fun q => (q = 0 ∨ q = 1) ∧ (¬ q.toInt = 0 → (M 1 (ix v1)).toInt = 1)) := by
    intro t0_28
    unfold f_X10_isByBank_L28
    refine wp_bind2 (o_X10_isDry M v1 (by omega)) (fun r_1 he32 hq32 => ?_)
    obtain ⟨hz_r_1, hr_32⟩ := hq32
    replace hr_32 : ¬ r_1.toInt = 0 → (M 1 (ix v1)).toInt = 1 := hr_32
    refine wp_ite (fun c35 => ?_) (fun c35 => ?_)
    · exact wp_some ⟨b01_0, (by show ¬ (nI 0).toInt = 0 → (M 1 (ix v1)).toInt = 1; have f0 := t_lit 0; omega)⟩
    · refine wp_ite (fun c41 => ?_) (fun c41 => ?_)
      · exact wp_some ⟨b01_0, (by show ¬ (nI 0).toInt = 0 → (M 1 (ix v1)).toInt = 1; have f0 := t_lit 0; omega)⟩
      · exact wp_some ⟨b01_1, (by show ¬ (nI 1).toInt = 0 → (M 1 (ix v1)).toInt = 1; have f0 := t_lit 1; omega)⟩
  refine wp_ite (fun c1 => ?_) (fun c1 => ?_)
  · refine wp_gd (by have f0 := t_lit 80; have f1 := t_add (nI 80) v1; omega) ?_
    exact j28 ((nI 21) - (M 1 (ix ((nI 80) + v1))))
  · refine wp_gd (by have f0 := t_lit 80; have f1 := t_add (nI 80) v1; omega) ?_
    exact j28 (M 1 (ix ((nI 80) + v1)))
theorem o_X10_laysRows (M : Mem) (v1 : Int32) : Wp (f_X10_laysRows M v1) (fun q => (∀ a i, ¬ (a = 26) → q a i = M a i)) := by
  refine wp_lp2 (fun M2 y2_2 => (0 ≤ y2_2.toInt) ∧ (∀ a i, ¬ (a = 26) → M2 a i = M a i)) (fun M2 y2_2 => (40 - y2_2.toInt).toNat) (fun ag2 M2 y2_2 hI2 ih2 => ?_) FU M (nI 0) ⟨(by have f0 := t_lit 0; omega), (fun _ _ _ => rfl)⟩ (fu_lt (by have f0 := t_lit 0; omega))
  obtain ⟨hi2, hf_M2⟩ := hI2
  have j35 : Wp (f_X10_laysRows_L35 v1 M2) (fun q => (∀ a i, ¬ (a = 26) → q a i = M a i)) := by
    unfold f_X10_laysRows_L35
    refine wp_lp2 (fun M37 y2_37 => (2 ≤ y2_37.toInt) ∧ (∀ a i, ¬ (a = 26) → M37 a i = M2 a i)) (fun M37 y2_37 => (40 + 1 - y2_37.toInt).toNat) (fun ag37 M37 y2_37 hI37 ih37 => ?_) FU M2 (nI 2) ⟨(by have f0 := t_lit 2; omega), (fun _ _ _ => rfl)⟩ (fu_lt (by have f0 := t_lit 2; omega))
    obtain ⟨hi37, hf_M37⟩ := hI37
    refine wp_ite (fun c40 => ?_) (fun c40 => ?_)
    · exact wp_some (fun a i q0 => ((hf_M37 a i (fun h9 => q0 (h9))).trans ((hf_M2 a i (fun h9 => q0 (h9))).trans rfl)))
    · refine wp_lp2 (fun M45 y3_45 => (0 ≤ y3_45.toInt) ∧ (∀ a i, ¬ (a = 26) → M45 a i = M37 a i)) (fun M45 y3_45 => (40 - y3_45.toInt).toNat) (fun ag45 M45 y3_45 hI45 ih45 => ?_) FU M37 (nI 0) ⟨(by have f0 := t_lit 0; omega), (fun _ _ _ => rfl)⟩ (fu_lt (by have f0 := t_lit 0; omega))
      obtain ⟨hi45, hf_M45⟩ := hI45
      refine wp_ite (fun c48 => ?_) (fun c48 => ?_)
      · exact ih37 M45 (y2_37 + (nI 1)) ⟨(by have f0 := t_lit 1; have f1 := t_add y2_37 (nI 1); omega), (fun a i q0 => ((hf_M45 a i (fun h9 => q0 (h9))).trans ((hf_M37 a i (fun h9 => q0 (h9))).trans rfl)))⟩ (by have f0 := t_lit 1; have f1 := t_add y2_37 (nI 1); omega)
      · refine wp_gd (by omega) ?_
        refine wp_ite (fun c58 => ?_) (fun c58 => ?_)
        · refine wp_lp2 (fun M67 y4_67 => (0 ≤ y4_67.toInt) ∧ (∀ a i, ¬ (a = 26) → M67 a i = M45 a i)) (fun M67 y4_67 => (40 - y4_67.toInt).toNat) (fun ag67 M67 y4_67 hI67 ih67 => ?_) FU M45 (nI 0) ⟨(by have f0 := t_lit 0; omega), (fun _ _ _ => rfl)⟩ (fu_lt (by have f0 := t_lit 0; omega))
          obtain ⟨hi67, hf_M67⟩ := hI67
          refine wp_ite (fun c71 => ?_) (fun c71 => ?_)
          · exact ih45 M67 (y3_45 + (nI 1)) ⟨(by have f0 := t_lit 1; have f1 := t_add y3_45 (nI 1); have f2 := congrArg Int32.toInt (hf_M45 24 (ix y3_45) (by first | decide | (rcases hc0 with h | h <;> rw [h] <;> simp; done) | (rcases hb0 with h | h | h <;> rw [h] <;> simp; done) | (simp; done) | omega)); have f3 := congrArg Int32.toInt (hf_M37 24 (ix y3_45) (by first | decide | (rcases hc0 with h | h <;> rw [h] <;> simp; done) | (rcases hb0 with h | h | h <;> rw [h] <;> simp; done) | (simp; done) | omega)); have f4 := congrArg Int32.toInt (hf_M2 24 (ix y3_45) (by first | decide | (rcases hc0 with h | h <;> rw [h] <;> simp; done) | (rcases hb0 with h | h | h <;> rw [h] <;> simp; done) | (simp; done) | omega)); omega), (fun a i q0 => ((hf_M67 a i (fun h9 => q0 (h9))).trans ((hf_M45 a i (fun h9 => q0 (h9))).trans rfl)))⟩ (by have f0 := t_lit 1; have f1 := t_add y3_45 (nI 1); have f2 := congrArg Int32.toInt (hf_M45 24 (ix y3_45) (by first | decide | (rcases hc0 with h | h <;> rw [h] <;> simp; done) | (rcases hb0 with h | h | h <;> rw [h] <;> simp; done) | (simp; done) | omega)); have f3 := congrArg Int32.toInt (hf_M37 24 (ix y3_45) (by first | decide | (rcases hc0 with h | h <;> rw [h] <;> simp; done) | (rcases hb0 with h | h | h <;> rw [h] <;> simp; done) | (simp; done) | omega)); have f4 := congrArg Int32.toInt (hf_M2 24 (ix y3_45) (by first | decide | (rcases hc0 with h | h <;> rw [h] <;> simp; done) | (rcases hb0 with h | h | h <;> rw [h] <;> simp; done) | (simp; done) | omega)); omega)
          · refine wp_gd (by omega) ?_
            refine wp_ite (fun c84 => ?_) (fun c84 => ?_)
            · refine wp_bind2 (o_X10_canStep M67 y3_45 y4_67 v1 (by have f0 := congrArg Int32.toInt (hf_M45 24 (ix y3_45) (by first | decide | (rcases hc0 with h | h <;> rw [h] <;> simp; done) | (rcases hb0 with h | h | h <;> rw [h] <;> simp; done) | (simp; done) | omega)); have f1 := congrArg Int32.toInt (hf_M37 24 (ix y3_45) (by first | decide | (rcases hc0 with h | h <;> rw [h] <;> simp; done) | (rcases hb0 with h | h | h <;> rw [h] <;> simp; done) | (simp; done) | omega)); have f2 := congrArg Int32.toInt (hf_M2 24 (ix y3_45) (by first | decide | (rcases hc0 with h | h <;> rw [h] <;> simp; done) | (rcases hb0 with h | h | h <;> rw [h] <;> simp; done) | (simp; done) | omega)); have f3 := congrArg Int32.toInt (hf_M67 24 (ix y4_67) (by first | decide | (rcases hc0 with h | h <;> rw [h] <;> simp; done) | (rcases hb0 with h | h | h <;> rw [h] <;> simp; done) | (simp; done) | omega)); have f4 := congrArg Int32.toInt (hf_M45 24 (ix y4_67) (by first | decide | (rcases hc0 with h | h <;> rw [h] <;> simp; done) | (rcases hb0 with h | h | h <;> rw [h] <;> simp; done) | (simp; done) | omega)); have f5 := congrArg Int32.toInt (hf_M37 24 (ix y4_67) (by first | decide | (rcases hc0 with h | h <;> rw [h] <;> simp; done) | (rcases hb0 with h | h | h <;> rw [h] <;> simp; done) | (simp; done) | omega)); have f6 := congrArg Int32.toInt (hf_M2 24 (ix y4_67) (by first | decide | (rcases hc0 with h | h <;> rw [h] <;> simp; done) | (rcases hb0 with h | h | h <;> rw [h] <;> simp; done) | (simp; done) | omega)); have f7 := t_lit 1; have f8 := t_sub y2_37 (nI 1); omega) (by have f0 := congrArg Int32.toInt (hf_M45 24 (ix y3_45) (by first | decide | (rcases hc0 with h | h <;> rw [h] <;> simp; done) | (rcases hb0 with h | h | h <;> rw [h] <;> simp; done) | (simp; done) | omega)); have f1 := congrArg Int32.toInt (hf_M37 24 (ix y3_45) (by first | decide | (rcases hc0 with h | h <;> rw [h] <;> simp; done) | (rcases hb0 with h | h | h <;> rw [h] <;> simp; done) | (simp; done) | omega)); have f2 := congrArg Int32.toInt (hf_M2 24 (ix y3_45) (by first | decide | (rcases hc0 with h | h <;> rw [h] <;> simp; done) | (rcases hb0 with h | h | h <;> rw [h] <;> simp; done) | (simp; done) | omega)); have f3 := congrArg Int32.toInt (hf_M67 24 (ix y4_67) (by first | decide | (rcases hc0 with h | h <;> rw [h] <;> simp; done) | (rcases hb0 with h | h | h <;> rw [h] <;> simp; done) | (simp; done) | omega)); have f4 := congrArg Int32.toInt (hf_M45 24 (ix y4_67) (by first | decide | (rcases hc0 with h | h <;> rw [h] <;> simp; done) | (rcases hb0 with h | h | h <;> rw [h] <;> simp; done) | (simp; done) | omega)); have f5 := congrArg Int32.toInt (hf_M37 24 (ix y4_67) (by first | decide | (rcases hc0 with h | h <;> rw [h] <;> simp; done) | (rcases hb0 with h | h | h <;> rw [h] <;> simp; done) | (simp; done) | omega)); have f6 := congrArg Int32.toInt (hf_M2 24 (ix y4_67) (by first | decide | (rcases hc0 with h | h <;> rw [h] <;> simp; done) | (rcases hb0 with h | h | h <;> rw [h] <;> simp; done) | (simp; done) | omega)); have f7 := t_lit 1; have f8 := t_sub y2_37 (nI 1); omega)) (fun r_1 he92 hq92 => ?_)
              obtain ⟨hz_r_1, hr_92⟩ := hq92
              replace hr_92 : ¬ r_1.toInt = 0 → (M67 1 (ix y3_45)).toInt = 1 ∧ (M67 1 (ix y4_67)).toInt = 1 := hr_92
              refine wp_ite (fun c95 => ?_) (fun c95 => ?_)
              · exact ih67 M67 (y4_67 + (nI 1)) ⟨(by have f0 := t_lit 1; have f1 := t_add y4_67 (nI 1); have f2 := congrArg Int32.toInt (hf_M67 24 (ix y4_67) (by first | decide | (rcases hc0 with h | h <;> rw [h] <;> simp; done) | (rcases hb0 with h | h | h <;> rw [h] <;> simp; done) | (simp; done) | omega)); have f3 := congrArg Int32.toInt (hf_M45 24 (ix y4_67) (by first | decide | (rcases hc0 with h | h <;> rw [h] <;> simp; done) | (rcases hb0 with h | h | h <;> rw [h] <;> simp; done) | (simp; done) | omega)); have f4 := congrArg Int32.toInt (hf_M37 24 (ix y4_67) (by first | decide | (rcases hc0 with h | h <;> rw [h] <;> simp; done) | (rcases hb0 with h | h | h <;> rw [h] <;> simp; done) | (simp; done) | omega)); have f5 := congrArg Int32.toInt (hf_M2 24 (ix y4_67) (by first | decide | (rcases hc0 with h | h <;> rw [h] <;> simp; done) | (rcases hb0 with h | h | h <;> rw [h] <;> simp; done) | (simp; done) | omega)); have f6 := t_sub y2_37 (nI 1); omega), (fun a i q0 => ((hf_M67 a i (fun h9 => q0 (h9))).trans rfl))⟩ (by have f0 := t_lit 1; have f1 := t_add y4_67 (nI 1); have f2 := congrArg Int32.toInt (hf_M67 24 (ix y4_67) (by first | decide | (rcases hc0 with h | h <;> rw [h] <;> simp; done) | (rcases hb0 with h | h | h <;> rw [h] <;> simp; done) | (simp; done) | omega)); have f3 := congrArg Int32.toInt (hf_M45 24 (ix y4_67) (by first | decide | (rcases hc0 with h | h <;> rw [h] <;> simp; done) | (rcases hb0 with h | h | h <;> rw [h] <;> simp; done) | (simp; done) | omega)); have f4 := congrArg Int32.toInt (hf_M37 24 (ix y4_67) (by first | decide | (rcases hc0 with h | h <;> rw [h] <;> simp; done) | (rcases hb0 with h | h | h <;> rw [h] <;> simp; done) | (simp; done) | omega)); have f5 := congrArg Int32.toInt (hf_M2 24 (ix y4_67) (by first | decide | (rcases hc0 with h | h <;> rw [h] <;> simp; done) | (rcases hb0 with h | h | h <;> rw [h] <;> simp; done) | (simp; done) | omega)); have f6 := t_sub y2_37 (nI 1); omega)
              · refine wp_gd (by have f0 := congrArg Int32.toInt (hf_M45 24 (ix y3_45) (by first | decide | (rcases hc0 with h | h <;> rw [h] <;> simp; done) | (rcases hb0 with h | h | h <;> rw [h] <;> simp; done) | (simp; done) | omega)); have f1 := congrArg Int32.toInt (hf_M37 24 (ix y3_45) (by first | decide | (rcases hc0 with h | h <;> rw [h] <;> simp; done) | (rcases hb0 with h | h | h <;> rw [h] <;> simp; done) | (simp; done) | omega)); have f2 := congrArg Int32.toInt (hf_M2 24 (ix y3_45) (by first | decide | (rcases hc0 with h | h <;> rw [h] <;> simp; done) | (rcases hb0 with h | h | h <;> rw [h] <;> simp; done) | (simp; done) | omega)); omega) ?_
                refine wp_gd (by have f0 := congrArg Int32.toInt (hf_M67 24 (ix y4_67) (by first | decide | (rcases hc0 with h | h <;> rw [h] <;> simp; done) | (rcases hb0 with h | h | h <;> rw [h] <;> simp; done) | (simp; done) | omega)); have f1 := congrArg Int32.toInt (hf_M45 24 (ix y4_67) (by first | decide | (rcases hc0 with h | h <;> rw [h] <;> simp; done) | (rcases hb0 with h | h | h <;> rw [h] <;> simp; done) | (simp; done) | omega)); have f2 := congrArg Int32.toInt (hf_M37 24 (ix y4_67) (by first | decide | (rcases hc0 with h | h <;> rw [h] <;> simp; done) | (rcases hb0 with h | h | h <;> rw [h] <;> simp; done) | (simp; done) | omega)); have f3 := congrArg Int32.toInt (hf_M2 24 (ix y4_67) (by first | decide | (rcases hc0 with h | h <;> rw [h] <;> simp; done) | (rcases hb0 with h | h | h <;> rw [h] <;> simp; done) | (simp; done) | omega)); have f4 := t_lit 1; have f5 := t_sub y2_37 (nI 1); omega) ?_
                refine wp_bind2 (o_X10_min M67 (nI 1000000000) ((M67 26 (ix y3_45)) + (M67 26 (ix y4_67)))) (fun r_2 he120 hq120 => ?_)
                have hr_120 := hq120
                replace hr_120 : r_2.toInt = min (nI 1000000000).toInt ((M67 26 (ix y3_45)) + (M67 26 (ix y4_67))).toInt := hr_120
                have := t_lit 1000000000
                refine wp_gd (by have f0 := congrArg Int32.toInt (hf_M45 24 (ix y3_45) (by first | decide | (rcases hc0 with h | h <;> rw [h] <;> simp; done) | (rcases hb0 with h | h | h <;> rw [h] <;> simp; done) | (simp; done) | omega)); have f1 := congrArg Int32.toInt (hf_M37 24 (ix y3_45) (by first | decide | (rcases hc0 with h | h <;> rw [h] <;> simp; done) | (rcases hb0 with h | h | h <;> rw [h] <;> simp; done) | (simp; done) | omega)); have f2 := congrArg Int32.toInt (hf_M2 24 (ix y3_45) (by first | decide | (rcases hc0 with h | h <;> rw [h] <;> simp; done) | (rcases hb0 with h | h | h <;> rw [h] <;> simp; done) | (simp; done) | omega)); omega) ?_
                refine wp_bnd (fun M_3 eM_3 => ?_)
                exact ih67 M_3 (y4_67 + (nI 1)) ⟨(by have f0 := t_lit 1; have f1 := t_add y4_67 (nI 1); have f2 := congrArg Int32.toInt (hf_M67 24 (ix y4_67) (by first | decide | (rcases hc0 with h | h <;> rw [h] <;> simp; done) | (rcases hb0 with h | h | h <;> rw [h] <;> simp; done) | (simp; done) | omega)); have f3 := congrArg Int32.toInt (hf_M45 24 (ix y4_67) (by first | decide | (rcases hc0 with h | h <;> rw [h] <;> simp; done) | (rcases hb0 with h | h | h <;> rw [h] <;> simp; done) | (simp; done) | omega)); have f4 := congrArg Int32.toInt (hf_M37 24 (ix y4_67) (by first | decide | (rcases hc0 with h | h <;> rw [h] <;> simp; done) | (rcases hb0 with h | h | h <;> rw [h] <;> simp; done) | (simp; done) | omega)); have f5 := congrArg Int32.toInt (hf_M2 24 (ix y4_67) (by first | decide | (rcases hc0 with h | h <;> rw [h] <;> simp; done) | (rcases hb0 with h | h | h <;> rw [h] <;> simp; done) | (simp; done) | omega)); have f6 := t_sub y2_37 (nI 1); omega), (fun a i q0 => ((congrFun (congrFun eM_3 a) i).trans ((mset_ne (fun h9 => q0 ((h9).1))).trans ((hf_M67 a i (fun h9 => q0 (h9))).trans rfl))))⟩ (by have f0 := t_lit 1; have f1 := t_add y4_67 (nI 1); have f2 := congrArg Int32.toInt (hf_M67 24 (ix y4_67) (by first | decide | (rcases hc0 with h | h <;> rw [h] <;> simp; done) | (rcases hb0 with h | h | h <;> rw [h] <;> simp; done) | (simp; done) | omega)); have f3 := congrArg Int32.toInt (hf_M45 24 (ix y4_67) (by first | decide | (rcases hc0 with h | h <;> rw [h] <;> simp; done) | (rcases hb0 with h | h | h <;> rw [h] <;> simp; done) | (simp; done) | omega)); have f4 := congrArg Int32.toInt (hf_M37 24 (ix y4_67) (by first | decide | (rcases hc0 with h | h <;> rw [h] <;> simp; done) | (rcases hb0 with h | h | h <;> rw [h] <;> simp; done) | (simp; done) | omega)); have f5 := congrArg Int32.toInt (hf_M2 24 (ix y4_67) (by first | decide | (rcases hc0 with h | h <;> rw [h] <;> simp; done) | (rcases hb0 with h | h | h <;> rw [h] <;> simp; done) | (simp; done) | omega)); have f6 := t_sub y2_37 (nI 1); omega)
            · exact ih67 M67 (y4_67 + (nI 1)) ⟨(by have f0 := t_lit 1; have f1 := t_add y4_67 (nI 1); have f2 := congrArg Int32.toInt (hf_M67 24 (ix y4_67) (by first | decide | (rcases hc0 with h | h <;> rw [h] <;> simp; done) | (rcases hb0 with h | h | h <;> rw [h] <;> simp; done) | (simp; done) | omega)); have f3 := congrArg Int32.toInt (hf_M45 24 (ix y4_67) (by first | decide | (rcases hc0 with h | h <;> rw [h] <;> simp; done) | (rcases hb0 with h | h | h <;> rw [h] <;> simp; done) | (simp; done) | omega)); have f4 := congrArg Int32.toInt (hf_M37 24 (ix y4_67) (by first | decide | (rcases hc0 with h | h <;> rw [h] <;> simp; done) | (rcases hb0 with h | h | h <;> rw [h] <;> simp; done) | (simp; done) | omega)); have f5 := congrArg Int32.toInt (hf_M2 24 (ix y4_67) (by first | decide | (rcases hc0 with h | h <;> rw [h] <;> simp; done) | (rcases hb0 with h | h | h <;> rw [h] <;> simp; done) | (simp; done) | omega)); have f6 := t_sub y2_37 (nI 1); omega), (fun a i q0 => ((hf_M67 a i (fun h9 => q0 (h9))).trans rfl))⟩ (by have f0 := t_lit 1; have f1 := t_add y4_67 (nI 1); have f2 := congrArg Int32.toInt (hf_M67 24 (ix y4_67) (by first | decide | (rcases hc0 with h | h <;> rw [h] <;> simp; done) | (rcases hb0 with h | h | h <;> rw [h] <;> simp; done) | (simp; done) | omega)); have f3 := congrArg Int32.toInt (hf_M45 24 (ix y4_67) (by first | decide | (rcases hc0 with h | h <;> rw [h] <;> simp; done) | (rcases hb0 with h | h | h <;> rw [h] <;> simp; done) | (simp; done) | omega)); have f4 := congrArg Int32.toInt (hf_M37 24 (ix y4_67) (by first | decide | (rcases hc0 with h | h <;> rw [h] <;> simp; done) | (rcases hb0 with h | h | h <;> rw [h] <;> simp; done) | (simp; done) | omega)); have f5 := congrArg Int32.toInt (hf_M2 24 (ix y4_67) (by first | decide | (rcases hc0 with h | h <;> rw [h] <;> simp; done) | (rcases hb0 with h | h | h <;> rw [h] <;> simp; done) | (simp; done) | omega)); have f6 := t_sub y2_37 (nI 1); omega)
        · exact ih45 M45 (y3_45 + (nI 1)) ⟨(by have f0 := t_lit 1; have f1 := t_add y3_45 (nI 1); have f2 := congrArg Int32.toInt (hf_M45 24 (ix y3_45) (by first | decide | (rcases hc0 with h | h <;> rw [h] <;> simp; done) | (rcases hb0 with h | h | h <;> rw [h] <;> simp; done) | (simp; done) | omega)); have f3 := congrArg Int32.toInt (hf_M37 24 (ix y3_45) (by first | decide | (rcases hc0 with h | h <;> rw [h] <;> simp; done) | (rcases hb0 with h | h | h <;> rw [h] <;> simp; done) | (simp; done) | omega)); have f4 := congrArg Int32.toInt (hf_M2 24 (ix y3_45) (by first | decide | (rcases hc0 with h | h <;> rw [h] <;> simp; done) | (rcases hb0 with h | h | h <;> rw [h] <;> simp; done) | (simp; done) | omega)); omega), (fun a i q0 => ((hf_M45 a i (fun h9 => q0 (h9))).trans rfl))⟩ (by have f0 := t_lit 1; have f1 := t_add y3_45 (nI 1); have f2 := congrArg Int32.toInt (hf_M45 24 (ix y3_45) (by first | decide | (rcases hc0 with h | h <;> rw [h] <;> simp; done) | (rcases hb0 with h | h | h <;> rw [h] <;> simp; done) | (simp; done) | omega)); have f3 := congrArg Int32.toInt (hf_M37 24 (ix y3_45) (by first | decide | (rcases hc0 with h | h <;> rw [h] <;> simp; done) | (rcases hb0 with h | h | h <;> rw [h] <;> simp; done) | (simp; done) | omega)); have f4 := congrArg Int32.toInt (hf_M2 24 (ix y3_45) (by first | decide | (rcases hc0 with h | h <;> rw [h] <;> simp; done) | (rcases hb0 with h | h | h <;> rw [h] <;> simp; done) | (simp; done) | omega)); omega)
  refine wp_ite (fun c5 => ?_) (fun c5 => ?_)
  · exact j35
  · refine wp_gd (by omega) ?_
    have j28 : ∀ (t0_28 : Int32), (t0_28 = 0 ∨ t0_28 = 1) → Wp (f_X10_laysRows_L28 ag2 M2 y2_2 t0_28) (fun q => (∀ a i, ¬ (a = 26) → q a i = M a i)) := by
      intro t0_28 hb_t0_28
      unfold f_X10_laysRows_L28
      refine wp_gd (by omega) ?_
      refine wp_bnd (fun M_4 eM_4 => ?_)
      exact ih2 M_4 (y2_2 + (nI 1)) ⟨(by have f0 := t_lit 1; have f1 := t_add y2_2 (nI 1); omega), (fun a i q0 => ((congrFun (congrFun eM_4 a) i).trans ((mset_ne (fun h9 => q0 ((h9).1))).trans ((hf_M2 a i (fun h9 => q0 (h9))).trans rfl))))⟩ (by have f0 := t_lit 1; have f1 := t_add y2_2 (nI 1); omega)
    refine wp_ite (fun c20 => ?_) (fun c20 => ?_)
    · exact j28 (nI 1) b01_1
    · exact j28 (nI 0) b01_0
theorem o_X10_here (M : Mem) (hp : 0 ≤ (M 0 7).toInt ∧ (M 0 7).toInt ≤ (M 0 8).toInt ∧ (M 0 8).toInt ≤ 240) : Wp (f_X10_here M) (fun q => ((q.toInt = -1 ∧ (M 0 7).toInt = (M 0 8).toInt) ∨ (0 ≤ q.toInt ∧ q.toInt ≤ 255 ∧ (M 0 7).toInt < (M 0 8).toInt))) := by
  refine wp_ite (fun c8 => ?_) (fun c8 => ?_)
  · exact wp_some (by show ((-1 : Int32).toInt = -1 ∧ (M 0 7).toInt = (M 0 8).toInt) ∨ (0 ≤ (-1 : Int32).toInt ∧ (-1 : Int32).toInt ≤ 255 ∧ (M 0 7).toInt < (M 0 8).toInt); have f0 := (by decide : ((-1 : Int32)).toInt = -1); have f1 := (by decide : ((-1 : Int32)).toInt = -1); omega)
  · refine wp_gd (by omega) ?_
    exact wp_some (by have := and255 (M 5 (ix (M 0 7))); omega)
theorem o_X10_wrongAt (M : Mem) (v1 : Int32) (v2 : Int32) : Wp (f_X10_wrongAt M v1 v2) (fun q => (q.1 = 0 ∨ q.1 = 1) ∧ (∀ a i, ¬ ((a = 0 ∧ i = 9)) → q.2 a i = M a i) ∧ (q.1.toInt = 0)) := by
  refine wp_bnd (fun M_1 eM_1 => ?_)
  exact wp_some ⟨b01_0, (fun a i q0 => ((congrFun (congrFun eM_1 a) i).trans ((mset_ne (fun h9 => q0 (h9))).trans rfl))), (by show (nI 0).toInt = 0; have f0 := t_lit 0; omega)⟩
theorem o_X10_types (M : Mem) (v1 : Int32) (ht : 0 ≤ (M 0 6).toInt ∧ (M 0 6).toInt ≤ 256) : Wp (f_X10_types M v1) (fun q => (∀ a i, ¬ ((a = 0 ∧ i = 6) ∨ a = 5) → q a i = M a i) ∧ ((q 0 6).toInt = (M 0 6).toInt + 4)) := by
  refine wp_lp2 (fun M2 y2_2 => (y2_2.toInt ≤ 3) ∧ (∀ a i, ¬ ((a = 0 ∧ i = 6) ∨ a = 5) → M2 a i = M a i) ∧ ((M2 0 6).toInt + y2_2.toInt = (M 0 6).toInt + 3 ∧ -1 ≤ y2_2.toInt)) (fun M2 y2_2 => (y2_2.toInt - 0 + 1).toNat) (fun ag2 M2 y2_2 hI2 ih2 => ?_) FU M (nI 3) ⟨(by have f0 := t_lit 3; omega), (fun _ _ _ => rfl), (by have f0 := t_lit 3; omega)⟩ (fu_lt (by have f0 := t_lit 3; omega))
  obtain ⟨hi2, hf_M2, ht2⟩ := hI2
  refine wp_ite (fun c3 => ?_) (fun c3 => ?_)
  · exact wp_some ⟨(fun a i q0 => ((hf_M2 a i (fun z8 => q0 ((fun z9 => Or.elim z9 (fun h9 => Or.inl h9) (fun h9 => Or.inr (h9))) z8))).trans rfl)), (by show (M2 0 6).toInt = (M 0 6).toInt + 4; omega)⟩
  · refine wp_gd (by omega) ?_
    refine wp_bnd (fun M_1 eM_1 => ?_)
    refine wp_bnd (fun M_2 eM_2 => ?_)
    exact ih2 M_2 (y2_2 + (-1)) ⟨(by have f0 := (by decide : ((-1 : Int32)).toInt = -1); have f1 := t_add y2_2 (-1); omega), (fun a i q0 => ((congrFun (congrFun eM_2 a) i).trans ((mset_ne (fun h9 => q0 (Or.inl h9))).trans ((congrFun (congrFun eM_1 a) i).trans ((mset_ne (fun h9 => q0 (Or.inr ((h9).1)))).trans ((hf_M2 a i (fun z8 => q0 ((fun z9 => Or.elim z9 (fun h9 => Or.inl h9) (fun h9 => Or.inr (h9))) z8))).trans rfl)))))), (by have f0 := congrArg Int32.toInt ((congrFun (congrFun eM_2 0) 6).trans mset_eq); have f1 := t_lit 1; have f2 := t_add (M_1 0 6) (nI 1); have f3 := congrArg Int32.toInt ((congrFun (congrFun eM_1 0) 6).trans (mset_ne (by first | exact nz1 (by decide) | exact nz2 (by decide) | exact nz1 (nzA hc0 (by decide)) | exact nz1 (nzE (by decide)) | exact nz1 (nzB hc0 (by decide)) | exact nz1 (nzC hc0 (by decide)) | exact nz1 (nzD hc0 (by decide)) | exact nz1 (nzF (by decide)) | exact nz1 (nzG (by decide)) | omega))); have f4 := (by decide : ((-1 : Int32)).toInt = -1); have f5 := t_add y2_2 (-1); omega)⟩ (by have f0 := (by decide : ((-1 : Int32)).toInt = -1); have f1 := t_add y2_2 (-1); omega)
theorem o_X10_feed (M : Mem) (v1 : Int32) (v2 : Int32) (v3 : Int32) (v4 : Int32) (v5 : Int32) (ht : 0 ≤ (M 0 6).toInt ∧ (M 0 6).toInt ≤ 260) : Wp (f_X10_feed M v1 v2 v3 v4 v5) (fun q => (∀ a i, ¬ ((a = 0 ∧ i = 6) ∨ a = 5) → q.2 a i = M a i) ∧ (0 ≤ (q.2 0 6).toInt ∧ (q.2 0 6).toInt ≤ 260)) := by
  have hf0 := t_add (M 0 6) (nI 20)
  have hf1 := t_lit 20
  refine wp_ite (fun c10 => ?_) (fun c10 => ?_)
  · refine wp_bind2 (o_X10_types M v1 (by have f0 := t_lit 20; have f1 := t_add (M 0 6) (nI 20); omega)) (fun M_1 he17 hq17 => ?_)
    obtain ⟨hg_M_1, ht_17⟩ := hq17
    replace ht_17 : (M_1 0 6).toInt = (M 0 6).toInt + 4 := ht_17
    replace hg_M_1 : ∀ a i, ¬ ((a = 0 ∧ i = 6) ∨ a = 5) → M_1 a i = M a i := hg_M_1
    refine wp_bind2 (o_X10_types M_1 v2 (by omega)) (fun M_2 he22 hq22 => ?_)
    obtain ⟨hg_M_2, ht_22⟩ := hq22
    replace ht_22 : (M_2 0 6).toInt = (M_1 0 6).toInt + 4 := ht_22
    replace hg_M_2 : ∀ a i, ¬ ((a = 0 ∧ i = 6) ∨ a = 5) → M_2 a i = M_1 a i := hg_M_2
    refine wp_bind2 (o_X10_types M_2 v3 (by omega)) (fun M_3 he27 hq27 => ?_)
    obtain ⟨hg_M_3, ht_27⟩ := hq27
    replace ht_27 : (M_3 0 6).toInt = (M_2 0 6).toInt + 4 := ht_27
    replace hg_M_3 : ∀ a i, ¬ ((a = 0 ∧ i = 6) ∨ a = 5) → M_3 a i = M_2 a i := hg_M_3
    refine wp_bind2 (o_X10_types M_3 v4 (by omega)) (fun M_4 he33 hq33 => ?_)
    obtain ⟨hg_M_4, ht_33⟩ := hq33
    replace ht_33 : (M_4 0 6).toInt = (M_3 0 6).toInt + 4 := ht_33
    replace hg_M_4 : ∀ a i, ¬ ((a = 0 ∧ i = 6) ∨ a = 5) → M_4 a i = M_3 a i := hg_M_4
    refine wp_bind2 (o_X10_types M_4 v5 (by omega)) (fun M_5 he39 hq39 => ?_)
    obtain ⟨hg_M_5, ht_39⟩ := hq39
    replace ht_39 : (M_5 0 6).toInt = (M_4 0 6).toInt + 4 := ht_39
    replace hg_M_5 : ∀ a i, ¬ ((a = 0 ∧ i = 6) ∨ a = 5) → M_5 a i = M_4 a i := hg_M_5
    exact wp_some ⟨(fun a i q0 => ((hg_M_5 a i (fun z8 => q0 ((fun z9 => Or.elim z9 (fun h9 => Or.inl h9) (fun h9 => Or.inr (h9))) z8))).trans ((hg_M_4 a i (fun z8 => q0 ((fun z9 => Or.elim z9 (fun h9 => Or.inl h9) (fun h9 => Or.inr (h9))) z8))).trans ((hg_M_3 a i (fun z8 => q0 ((fun z9 => Or.elim z9 (fun h9 => Or.inl h9) (fun h9 => Or.inr (h9))) z8))).trans ((hg_M_2 a i (fun z8 => q0 ((fun z9 => Or.elim z9 (fun h9 => Or.inl h9) (fun h9 => Or.inr (h9))) z8))).trans ((hg_M_1 a i (fun z8 => q0 ((fun z9 => Or.elim z9 (fun h9 => Or.inl h9) (fun h9 => Or.inr (h9))) z8))).trans rfl)))))), (by show 0 ≤ (M_5 0 6).toInt ∧ (M_5 0 6).toInt ≤ 260; omega)⟩
  · exact wp_some ⟨(fun _ _ _ => rfl), (by show 0 ≤ (M 0 6).toInt ∧ (M 0 6).toInt ≤ 260; have f0 := (by decide : ((-1 : Int32)).toInt = -1); have f1 := t_lit 20; have f2 := t_add (M 0 6) (nI 20); omega)⟩
theorem o_X10_nearTo (M : Mem) (v1 : Int32) (hv1 : 0 ≤ v1.toInt ∧ v1.toInt < 40) : Wp (f_X10_nearTo M v1) (fun q => True) := by
  refine wp_lp2 (fun y2_4 y3_4 => (0 ≤ y3_4.toInt)) (fun y2_4 y3_4 => (40 - y3_4.toInt).toNat) (fun ag4 y2_4 y3_4 hI4 ih4 => ?_) FU (nI 0) (nI 0) (by have f0 := t_lit 0; omega) (fu_lt (by have f0 := t_lit 0; omega))
  have hi4 := hI4
  refine wp_ite (fun c7 => ?_) (fun c7 => ?_)
  · exact wp_some trivial
  · refine wp_ite (fun c12 => ?_) (fun c12 => ?_)
    · exact ih4 y2_4 (y3_4 + (nI 1)) (by have f0 := t_lit 1; have f1 := t_add y3_4 (nI 1); omega) (by have f0 := t_lit 1; have f1 := t_add y3_4 (nI 1); omega)
    · refine wp_gd (by omega) ?_
      refine wp_ite (fun c24 => ?_) (fun c24 => ?_)
      · refine wp_bind2 (o_X10_apart M v1 y3_4 (by omega) (by omega)) (fun r_1 he30 hq30 => ?_)
        refine wp_ite (fun c34 => ?_) (fun c34 => ?_)
        · exact ih4 y2_4 (y3_4 + (nI 1)) (by have f0 := t_lit 1; have f1 := t_add y3_4 (nI 1); omega) (by have f0 := t_lit 1; have f1 := t_add y3_4 (nI 1); omega)
        · exact ih4 (y2_4 + (nI 1)) (y3_4 + (nI 1)) (by have f0 := t_lit 1; have f1 := t_add y3_4 (nI 1); omega) (by have f0 := t_lit 1; have f1 := t_add y3_4 (nI 1); omega)
      · exact ih4 y2_4 (y3_4 + (nI 1)) (by have f0 := t_lit 1; have f1 := t_add y3_4 (nI 1); omega) (by have f0 := t_lit 1; have f1 := t_add y3_4 (nI 1); omega)
theorem o_X10_feels (M : Mem) (v1 : Int32) (v2 : Int32) (hv1 : 0 ≤ v1.toInt ∧ v1.toInt < 40) : Wp (f_X10_feels M v1 v2) (fun q => (∀ a i, ¬ (a = 18) → q a i = M a i)) := by
  refine wp_bnd (fun M_1 eM_1 => ?_)
  refine wp_gd (by have f0 := t_lit 40; have f1 := t_add (nI 40) v1; omega) ?_
  refine wp_bnd (fun M_2 eM_2 => ?_)
  refine wp_gd (by have f0 := t_lit 80; have f1 := t_add (nI 80) v1; omega) ?_
  refine wp_bnd (fun M_3 eM_3 => ?_)
  refine wp_gd (by have f0 := t_lit 120; have f1 := t_add (nI 120) v1; omega) ?_
  refine wp_bnd (fun M_4 eM_4 => ?_)
  refine wp_gd (by have f0 := t_lit 160; have f1 := t_add (nI 160) v1; omega) ?_
  refine wp_bnd (fun M_5 eM_5 => ?_)
  refine wp_bind2 (o_X10_nearTo M_5 v1 (by omega)) (fun r_6 he75 hq75 => ?_)
  refine wp_bnd (fun M_7 eM_7 => ?_)
  refine wp_bnd (fun M_8 eM_8 => ?_)
  refine wp_bnd (fun M_9 eM_9 => ?_)
  exact wp_some (fun a i q0 => ((congrFun (congrFun eM_9 a) i).trans ((mset_ne (fun h9 => q0 ((h9).1))).trans ((congrFun (congrFun eM_8 a) i).trans ((mset_ne (fun h9 => q0 ((h9).1))).trans ((congrFun (congrFun eM_7 a) i).trans ((mset_ne (fun h9 => q0 ((h9).1))).trans ((congrFun (congrFun eM_5 a) i).trans ((mset_ne (fun h9 => q0 ((h9).1))).trans ((congrFun (congrFun eM_4 a) i).trans ((mset_ne (fun h9 => q0 ((h9).1))).trans ((congrFun (congrFun eM_3 a) i).trans ((mset_ne (fun h9 => q0 ((h9).1))).trans ((congrFun (congrFun eM_2 a) i).trans ((mset_ne (fun h9 => q0 ((h9).1))).trans ((congrFun (congrFun eM_1 a) i).trans ((mset_ne (fun h9 => q0 ((h9).1))).trans rfl)))))))))))))))))
theorem o_X10_isDigit (M : Mem) (hp : 0 ≤ (M 0 7).toInt ∧ (M 0 7).toInt ≤ (M 0 8).toInt ∧ (M 0 8).toInt ≤ 240) : Wp (f_X10_isDigit M) (fun q => (q = 0 ∨ q = 1) ∧ (¬ q.toInt = 0 → (M 0 7).toInt < (M 0 8).toInt ∧ ∀ d, f_X10_here M = some d → 48 ≤ d.toInt ∧ d.toInt ≤ 57)) := by
  refine wp_bind2 (o_X10_here M (by omega)) (fun r_1 he1 hq1 => ?_)
  have hh_1 := hq1
  replace hh_1 : (r_1.toInt = -1 ∧ (M 0 7).toInt = (M 0 8).toInt) ∨ (0 ≤ r_1.toInt ∧ r_1.toInt ≤ 255 ∧ (M 0 7).toInt < (M 0 8).toInt) := hh_1
  refine wp_ite (fun c6 => ?_) (fun c6 => ?_)
  · exact wp_some ⟨b01_0, (fun h => absurd nI0 h)⟩
  · refine wp_bind2 (o_X10_here M (by omega)) (fun r_2 he10 hq10 => ?_)
    have hh_10 := hq10
    replace hh_10 : (r_2.toInt = -1 ∧ (M 0 7).toInt = (M 0 8).toInt) ∨ (0 ≤ r_2.toInt ∧ r_2.toInt ≤ 255 ∧ (M 0 7).toInt < (M 0 8).toInt) := hh_10
    refine wp_ite (fun c15 => ?_) (fun c15 => ?_)
    · exact wp_some ⟨b01_0, (fun h => absurd nI0 h)⟩
    · exact wp_some ⟨b01_1, (fun _ => ⟨by omega, fun d hd => by rw [he1] at hd; rw [he1] at he10; cases hd; cases he10; omega⟩)⟩
theorem o_X10_keep (M : Mem) (hst : ST (M 1)) : Wp (f_X10_keep M) (fun q => (∀ a i, ¬ ((a = 0 ∧ i = 54) ∨ a = 3) → q.2 a i = M a i) ∧ (ST (q.2 1)) ∧ (ST (q.2 3))) := by
  refine wp_bnd (fun M_1 eM_1 => ?_)
  refine wp_bind2 (o_X10_copies (by decide) (by decide) M_1 (by omega) (by omega)) (fun M_2 he13 hq13 => ?_)
  obtain ⟨hg_M_2, hc_13⟩ := hq13
  replace hc_13 : ∀ j : Nat, j < 202 → M_2 3 j = M_1 1 j := hc_13
  replace hg_M_2 : ∀ a i, ¬ (a = 3) → M_2 a i = M_1 a i := by exact fun a i q0 => hg_M_2 a i (by first | decide | (rcases hc0 with h | h <;> rw [h] <;> simp; done) | (rcases hb0 with h | h | h <;> rw [h] <;> simp; done) | (simp; done) | omega)
  exact wp_some ⟨(fun a i q0 => ((hg_M_2 a i (fun h9 => q0 (Or.inr (h9)))).trans ((congrFun (congrFun eM_1 a) i).trans ((mset_ne (fun h9 => q0 (Or.inl h9))).trans rfl)))), (by have e9 : M_2 1 = M 1 := funext (fun i => ((hg_M_2 1 i (by first | decide | (rcases hc0 with h | h <;> rw [h] <;> simp; done) | (rcases hb0 with h | h | h <;> rw [h] <;> simp; done) | (simp; done) | omega)).trans ((congrFun (congrFun eM_1 1) i).trans ((mset_ne (by first | exact nz1 (by decide) | exact nz2 (by decide) | exact nz1 (nzA hc0 (by decide)) | exact nz1 (nzE (by decide)) | exact nz1 (nzB hc0 (by decide)) | exact nz1 (nzC hc0 (by decide)) | exact nz1 (nzD hc0 (by decide)) | exact nz1 (nzF (by decide)) | exact nz1 (nzG (by decide)) | omega)).trans rfl)))); show ST (M_2 1); rw [e9]; exact hst), (st_copy hst (fun j hj => by show M_2 3 j = M 1 j; rw [hc_13 j hj, eM_1, mset_ne (by first | exact nz1 (by decide) | exact nz2 (by decide) | exact nz1 (nzA hc0 (by decide)) | exact nz1 (nzE (by decide)) | exact nz1 (nzB hc0 (by decide)) | exact nz1 (nzC hc0 (by decide)) | exact nz1 (nzD hc0 (by decide)) | exact nz1 (nzF (by decide)) | exact nz1 (nzG (by decide)) | omega)]))⟩
theorem o_X10_takesSign (M : Mem) (v1 : Int32) (hp : 0 ≤ (M 0 7).toInt ∧ (M 0 7).toInt ≤ (M 0 8).toInt ∧ (M 0 8).toInt ≤ 240) (hv : 0 ≤ v1.toInt) : Wp (f_X10_takesSign M v1) (fun q => (q.1 = 0 ∨ q.1 = 1) ∧ (∀ a i, ¬ ((a = 0 ∧ i = 7) ∨ (a = 0 ∧ i = 9)) → q.2 a i = M a i) ∧ ((M 0 7).toInt ≤ (q.2 0 7).toInt ∧ (q.2 0 7).toInt ≤ (M 0 8).toInt ∧ (¬ q.1.toInt = 0 → (M 0 7).toInt < (q.2 0 7).toInt))) := by
  refine wp_bind2 (o_X10_here M (by omega)) (fun r_1 he1 hq1 => ?_)
  have hh_1 := hq1
  replace hh_1 : (r_1.toInt = -1 ∧ (M 0 7).toInt = (M 0 8).toInt) ∨ (0 ≤ r_1.toInt ∧ r_1.toInt ≤ 255 ∧ (M 0 7).toInt < (M 0 8).toInt) := hh_1
  refine wp_ite (fun c5 => ?_) (fun c5 => ?_)
  · refine wp_bnd (fun M_2 eM_2 => ?_)
    exact wp_some ⟨b01_1, (fun a i q0 => ((congrFun (congrFun eM_2 a) i).trans ((mset_ne (fun h9 => q0 (Or.inl h9))).trans rfl))), (by show (M 0 7).toInt ≤ (M_2 0 7).toInt ∧ (M_2 0 7).toInt ≤ (M 0 8).toInt ∧ (¬ (nI 1).toInt = 0 → (M 0 7).toInt < (M_2 0 7).toInt); have f0 := congrArg Int32.toInt ((congrFun (congrFun eM_2 0) 7).trans mset_eq); have f1 := t_lit 1; have f2 := t_add (M 0 7) (nI 1); omega)⟩
  · refine wp_cb2 (o_X10_wrongAt M (nI 1) (M 0 7)) (fun r_3 M_4 he14 hq14 => ?_)
    obtain ⟨hz_r_3, hg_M_4, hw_14⟩ := hq14
    replace hw_14 : r_3.toInt = 0 := hw_14
    have := t_lit 1
    replace hg_M_4 : ∀ a i, ¬ ((a = 0 ∧ i = 9)) → M_4 a i = M a i := hg_M_4
    refine wp_gb hz_r_3 ?_
    exact wp_some ⟨hz_r_3, (fun a i q0 => ((hg_M_4 a i (fun h9 => q0 (Or.inr (h9)))).trans rfl)), (by show (M 0 7).toInt ≤ (M_4 0 7).toInt ∧ (M_4 0 7).toInt ≤ (M 0 8).toInt ∧ (¬ r_3.toInt = 0 → (M 0 7).toInt < (M_4 0 7).toInt); have f0 := congrArg Int32.toInt (hg_M_4 0 7 (by first | decide | (rcases hc0 with h | h <;> rw [h] <;> simp; done) | (rcases hb0 with h | h | h <;> rw [h] <;> simp; done) | (simp; done) | omega)); omega)⟩
theorem o_X10_laysStone (M : Mem) (v1 : Int32) (v2 : Int32) (v3 : Int32) (v4 : Int32) (v5 : Int32) (hv1 : 0 ≤ v1.toInt ∧ v1.toInt < 40) : Wp (f_X10_laysStone M v1 v2 v3 v4 v5) (fun q => (∀ a i, ¬ (a = 1) → q a i = M a i) ∧ ((q 1 (ix v1)).toInt = 1 ∧ q 1 (80 + ix v1) = v3 ∧ q 1 (120 + ix v1) = v4 ∧ ∀ j : Nat, ¬ j = ix v1 → ¬ j = 40 + ix v1 → ¬ j = 80 + ix v1 → ¬ j = 120 + ix v1 → ¬ j = 160 + ix v1 → q 1 j = M 1 j)) := by
  have fx := t_ixn v1 (by omega)
  have g40 : ix ((nI 40) + v1) = 40 + ix v1 := ix_add (by omega) (by omega)
  have g80 : ix ((nI 80) + v1) = 80 + ix v1 := ix_add (by omega) (by omega)
  have g120 : ix ((nI 120) + v1) = 120 + ix v1 := ix_add (by omega) (by omega)
  have g160 : ix ((nI 160) + v1) = 160 + ix v1 := ix_add (by omega) (by omega)
  refine wp_gd (by omega) ?_
  refine wp_bnd (fun M_1 eM_1 => ?_)
  refine wp_gd (by have f0 := t_lit 40; have f1 := t_add (nI 40) v1; omega) ?_
  refine wp_bnd (fun M_2 eM_2 => ?_)
  refine wp_gd (by have f0 := t_lit 80; have f1 := t_add (nI 80) v1; omega) ?_
  refine wp_bnd (fun M_3 eM_3 => ?_)
  refine wp_gd (by have f0 := t_lit 120; have f1 := t_add (nI 120) v1; omega) ?_
  refine wp_bnd (fun M_4 eM_4 => ?_)
  refine wp_gd (by have f0 := t_lit 160; have f1 := t_add (nI 160) v1; omega) ?_
  refine wp_bnd (fun M_5 eM_5 => ?_)
  exact wp_some ⟨(fun a i q0 => ((congrFun (congrFun eM_5 a) i).trans ((mset_ne (fun h9 => q0 ((h9).1))).trans ((congrFun (congrFun eM_4 a) i).trans ((mset_ne (fun h9 => q0 ((h9).1))).trans ((congrFun (congrFun eM_3 a) i).trans ((mset_ne (fun h9 => q0 ((h9).1))).trans ((congrFun (congrFun eM_2 a) i).trans ((mset_ne (fun h9 => q0 ((h9).1))).trans ((congrFun (congrFun eM_1 a) i).trans ((mset_ne (fun h9 => q0 ((h9).1))).trans rfl))))))))))), (by rw [g40] at eM_2; rw [g80] at eM_3; rw [g120] at eM_4; rw [g160] at eM_5; exact ⟨by rw [eM_5, mset_ne (by first | exact nz1 (by decide) | exact nz2 (by decide) | exact nz1 (nzA hc0 (by decide)) | exact nz1 (nzE (by decide)) | exact nz1 (nzB hc0 (by decide)) | exact nz1 (nzC hc0 (by decide)) | exact nz1 (nzD hc0 (by decide)) | exact nz1 (nzF (by decide)) | exact nz1 (nzG (by decide)) | omega), eM_4, mset_ne (by first | exact nz1 (by decide) | exact nz2 (by decide) | exact nz1 (nzA hc0 (by decide)) | exact nz1 (nzE (by decide)) | exact nz1 (nzB hc0 (by decide)) | exact nz1 (nzC hc0 (by decide)) | exact nz1 (nzD hc0 (by decide)) | exact nz1 (nzF (by decide)) | exact nz1 (nzG (by decide)) | omega), eM_3, mset_ne (by first | exact nz1 (by decide) | exact nz2 (by decide) | exact nz1 (nzA hc0 (by decide)) | exact nz1 (nzE (by decide)) | exact nz1 (nzB hc0 (by decide)) | exact nz1 (nzC hc0 (by decide)) | exact nz1 (nzD hc0 (by decide)) | exact nz1 (nzF (by decide)) | exact nz1 (nzG (by decide)) | omega), eM_2, mset_ne (by first | exact nz1 (by decide) | exact nz2 (by decide) | exact nz1 (nzA hc0 (by decide)) | exact nz1 (nzE (by decide)) | exact nz1 (nzB hc0 (by decide)) | exact nz1 (nzC hc0 (by decide)) | exact nz1 (nzD hc0 (by decide)) | exact nz1 (nzF (by decide)) | exact nz1 (nzG (by decide)) | omega), eM_1, mset_eq]; exact nI1, by rw [eM_5, mset_ne (by first | exact nz1 (by decide) | exact nz2 (by decide) | exact nz1 (nzA hc0 (by decide)) | exact nz1 (nzE (by decide)) | exact nz1 (nzB hc0 (by decide)) | exact nz1 (nzC hc0 (by decide)) | exact nz1 (nzD hc0 (by decide)) | exact nz1 (nzF (by decide)) | exact nz1 (nzG (by decide)) | omega), eM_4, mset_ne (by first | exact nz1 (by decide) | exact nz2 (by decide) | exact nz1 (nzA hc0 (by decide)) | exact nz1 (nzE (by decide)) | exact nz1 (nzB hc0 (by decide)) | exact nz1 (nzC hc0 (by decide)) | exact nz1 (nzD hc0 (by decide)) | exact nz1 (nzF (by decide)) | exact nz1 (nzG (by decide)) | omega), eM_3, mset_eq], by rw [eM_5, mset_ne (by first | exact nz1 (by decide) | exact nz2 (by decide) | exact nz1 (nzA hc0 (by decide)) | exact nz1 (nzE (by decide)) | exact nz1 (nzB hc0 (by decide)) | exact nz1 (nzC hc0 (by decide)) | exact nz1 (nzD hc0 (by decide)) | exact nz1 (nzF (by decide)) | exact nz1 (nzG (by decide)) | omega), eM_4, mset_eq], fun j h1 h2 h3 h4 h5 => by rw [eM_5, mset_ne (by first | exact nz1 (by decide) | exact nz2 (by decide) | exact nz1 (nzA hc0 (by decide)) | exact nz1 (nzE (by decide)) | exact nz1 (nzB hc0 (by decide)) | exact nz1 (nzC hc0 (by decide)) | exact nz1 (nzD hc0 (by decide)) | exact nz1 (nzF (by decide)) | exact nz1 (nzG (by decide)) | omega), eM_4, mset_ne (by first | exact nz1 (by decide) | exact nz2 (by decide) | exact nz1 (nzA hc0 (by decide)) | exact nz1 (nzE (by decide)) | exact nz1 (nzB hc0 (by decide)) | exact nz1 (nzC hc0 (by decide)) | exact nz1 (nzD hc0 (by decide)) | exact nz1 (nzF (by decide)) | exact nz1 (nzG (by decide)) | omega), eM_3, mset_ne (by first | exact nz1 (by decide) | exact nz2 (by decide) | exact nz1 (nzA hc0 (by decide)) | exact nz1 (nzE (by decide)) | exact nz1 (nzB hc0 (by decide)) | exact nz1 (nzC hc0 (by decide)) | exact nz1 (nzD hc0 (by decide)) | exact nz1 (nzF (by decide)) | exact nz1 (nzG (by decide)) | omega), eM_2, mset_ne (by first | exact nz1 (by decide) | exact nz2 (by decide) | exact nz1 (nzA hc0 (by decide)) | exact nz1 (nzE (by decide)) | exact nz1 (nzB hc0 (by decide)) | exact nz1 (nzC hc0 (by decide)) | exact nz1 (nzD hc0 (by decide)) | exact nz1 (nzF (by decide)) | exact nz1 (nzG (by decide)) | omega), eM_1, mset_ne (by first | exact nz1 (by decide) | exact nz2 (by decide) | exact nz1 (nzA hc0 (by decide)) | exact nz1 (nzE (by decide)) | exact nz1 (nzB hc0 (by decide)) | exact nz1 (nzC hc0 (by decide)) | exact nz1 (nzD hc0 (by decide)) | exact nz1 (nzF (by decide)) | exact nz1 (nzG (by decide)) | omega)]⟩)⟩
theorem o_X10_letters (M : Mem) (v1 : Int32) (v2 : Int32) : Wp (f_X10_letters M v1 v2) (fun q => (∀ a i, ¬ ((a = 0 ∧ i = 6)) → q.2 a i = M a i)) := by
  refine wp_bind2 (o_X10_in M v1 (nI 1) (nI 8)) (fun r_1 he4 hq4 => ?_)
  obtain ⟨hz_r_1, hr_4⟩ := hq4
  replace hr_4 : ¬ r_1.toInt = 0 → (nI 1).toInt ≤ v1.toInt ∧ v1.toInt ≤ (nI 8).toInt := hr_4
  have := t_lit 1
  have := t_lit 8
  refine wp_ite (fun c7 => ?_) (fun c7 => ?_)
  · exact wp_some (fun _ _ _ => rfl)
  · refine wp_bind2 (o_X10_in M v2 (nI 0) (nI 1)) (fun r_2 he13 hq13 => ?_)
    obtain ⟨hz_r_2, hr_13⟩ := hq13
    replace hr_13 : ¬ r_2.toInt = 0 → (nI 0).toInt ≤ v2.toInt ∧ v2.toInt ≤ (nI 1).toInt := hr_13
    have := t_lit 0
    have := t_lit 1
    refine wp_ite (fun c16 => ?_) (fun c16 => ?_)
    · exact wp_some (fun _ _ _ => rfl)
    · refine wp_ite (fun c24 => ?_) (fun c24 => ?_)
      · refine wp_bnd (fun M_3 eM_3 => ?_)
        have ft1 := t_rng v1
        refine wp_lp1 (fun y3_36 => (0 ≤ y3_36.toInt)) (fun y3_36 => (v1.toInt - y3_36.toInt).toNat) (fun ag36 y3_36 hI36 ih36 => ?_) FU (nI 0) (by have f0 := t_lit 0; omega) (fu_lt (by have f0 := t_lit 0; omega))
        have hi36 := hI36
        have j58 : Wp (f_X10_letters_L58 v1 v2 M_3) (fun q => (∀ a i, ¬ ((a = 0 ∧ i = 6)) → q.2 a i = M a i)) := by
          unfold f_X10_letters_L58
          have hsh := shl8 (hr_4 (by omega)).1 (by have := t_lit 1; have := t_lit 8; omega)
          refine wp_lp3 (fun y3_68 y4_68 y5_68 => (1 ≤ y5_68.toInt ∧ y5_68.toInt ≤ 300)) (fun y3_68 y4_68 y5_68 => (300 - y5_68.toInt).toNat) (fun ag68 y3_68 y4_68 y5_68 hI68 ih68 => ?_) FU (nI 0) (nI 1000000) (nI 1) (by decide) (fu_lt (by have f0 := t_lit 1; have f1 := t_lit 0; have f2 := t_lit 1000000; omega))
          have hy := hI68
          have j157 : Wp (f_X10_letters_L157 v2 M_3 y3_68 y4_68) (fun q => (∀ a i, ¬ ((a = 0 ∧ i = 6)) → q.2 a i = M a i)) := by
            unfold f_X10_letters_L157
            refine wp_ite (fun c158 => ?_) (fun c158 => ?_)
            · exact wp_some (fun a i q0 => ((congrFun (congrFun eM_3 a) i).trans ((mset_ne (fun h9 => q0 (h9))).trans rfl)))
            · exact wp_some (fun a i q0 => ((congrFun (congrFun eM_3 a) i).trans ((mset_ne (fun h9 => q0 (h9))).trans rfl)))
          refine wp_ite (fun c73 => ?_) (fun c73 => ?_)
          · exact j157
          · refine wp_lp2 (fun y6_82 y7_82 => (0 ≤ y7_82.toInt)) (fun y6_82 y7_82 => (v1.toInt - y7_82.toInt).toNat) (fun ag82 y6_82 y7_82 hI82 ih82 => ?_) FU (nI 0) (nI 0) (by have f0 := t_lit 0; omega) (fu_lt (by have f0 := t_lit 0; omega))
            have hi82 := hI82
            have j125 : Wp (f_X10_letters_L125 ag68 y3_68 y4_68 y5_68 y6_82) (fun q => (∀ a i, ¬ ((a = 0 ∧ i = 6)) → q.2 a i = M a i)) := by
              unfold f_X10_letters_L125
              refine wp_bind2 (o_X10_size M_3 y6_82) (fun r_4 he127 hq127 => ?_)
              refine wp_ite (fun c132 => ?_) (fun c132 => ?_)
              · refine wp_bind2 (o_X10_size M_3 y6_82) (fun r_5 he140 hq140 => ?_)
                exact ih68 y5_68 r_5 (y5_68 + (nI 2)) (by have f0 := t_lit 2; have f1 := t_add y5_68 (nI 2); have f2 := t_lit 1; omega) (by have f0 := t_lit 2; have f1 := t_add y5_68 (nI 2); have f2 := t_lit 1; omega)
              · exact ih68 y3_68 y4_68 (y5_68 + (nI 2)) (by have f0 := t_lit 2; have f1 := t_add y5_68 (nI 2); have f2 := t_lit 1; omega) (by have f0 := t_lit 2; have f1 := t_add y5_68 (nI 2); have f2 := t_lit 1; omega)
            refine wp_ite (fun c85 => ?_) (fun c85 => ?_)
            · exact j125
            · refine wp_bind2 (o_X10_has M_3 y5_68 y7_82) (fun r_6 he94 hq94 => ?_)
              have hz_r_6 := hq94
              refine wp_ite (fun c97 => ?_) (fun c97 => ?_)
              · refine wp_bind2 (o_X10_octet M_3 y7_82 (by omega)) (fun r_7 he112 hq112 => ?_)
                refine wp_bnd (fun x_8 ex_8 => ?_)
                exact ih82 x_8 (y7_82 + (nI 1)) (by have f0 := t_lit 1; have f1 := t_add y7_82 (nI 1); omega) (by have f0 := t_lit 1; have f1 := t_add y7_82 (nI 1); omega)
              · refine wp_bind2 (o_X10_octet M_3 y7_82 (by omega)) (fun r_9 he103 hq103 => ?_)
                refine wp_bnd (fun x_10 ex_10 => ?_)
                exact ih82 x_10 (y7_82 + (nI 1)) (by have f0 := t_lit 1; have f1 := t_add y7_82 (nI 1); omega) (by have f0 := t_lit 1; have f1 := t_add y7_82 (nI 1); omega)
        refine wp_ite (fun c38 => ?_) (fun c38 => ?_)
        · exact j58
        · refine wp_bind2 (o_X10_octet M_3 y3_36 (by omega)) (fun r_11 he43 hq43 => ?_)
          refine wp_ite (fun c46 => ?_) (fun c46 => ?_)
          · exact wp_some (fun a i q0 => ((congrFun (congrFun eM_3 a) i).trans ((mset_ne (fun h9 => q0 (h9))).trans rfl)))
          · exact ih36 (y3_36 + (nI 1)) (by have f0 := t_lit 1; have f1 := t_add y3_36 (nI 1); omega) (by have f0 := t_lit 1; have f1 := t_add y3_36 (nI 1); omega)
      · exact wp_some (fun _ _ _ => rfl)
theorem o_X10_mostInLine (M : Mem) : Wp (f_X10_mostInLine M) (fun q => True) := by
  refine wp_bind2 (o_X10_sumOf M (nI 0) (by have f0 := t_lit 0; omega)) (fun r_1 he3 hq3 => ?_)
  refine wp_bind2 (o_X10_min M (nI 2) r_1) (fun r_2 he6 hq6 => ?_)
  have hr_6 := hq6
  replace hr_6 : r_2.toInt = min (nI 2).toInt r_1.toInt := hr_6
  have := t_lit 2
  refine wp_lp2 (fun y1_12 y2_12 => (0 ≤ y2_12.toInt)) (fun y1_12 y2_12 => (40 - y2_12.toInt).toNat) (fun ag12 y1_12 y2_12 hI12 ih12 => ?_) FU r_2 (nI 0) (by have f0 := t_lit 0; omega) (fu_lt (by have f0 := t_lit 0; omega))
  have hi12 := hI12
  refine wp_ite (fun c15 => ?_) (fun c15 => ?_)
  · exact wp_some trivial
  · have ft1 := t_rng y2_12
    refine wp_lp2 (fun y1_20 y3_20 => (0 ≤ y3_20.toInt)) (fun y1_20 y3_20 => (y2_12.toInt - y3_20.toInt).toNat) (fun ag20 y1_20 y3_20 hI20 ih20 => ?_) FU y1_12 (nI 0) (by have f0 := t_lit 0; omega) (fu_lt (by have f0 := t_lit 0; omega))
    have hi20 := hI20
    refine wp_ite (fun c22 => ?_) (fun c22 => ?_)
    · exact ih12 y1_20 (y2_12 + (nI 1)) (by have f0 := t_lit 1; have f1 := t_add y2_12 (nI 1); omega) (by have f0 := t_lit 1; have f1 := t_add y2_12 (nI 1); omega)
    · refine wp_bind2 (o_X10_isStone M y2_12) (fun r_3 he27 hq27 => ?_)
      obtain ⟨hz_r_3, hr_27⟩ := hq27
      replace hr_27 : ¬ r_3.toInt = 0 → (0 ≤ y2_12.toInt ∧ y2_12.toInt < 40) ∧ (M 1 (ix y2_12)).toInt = 1 := hr_27
      refine wp_ite (fun c30 => ?_) (fun c30 => ?_)
      · exact ih20 y1_20 (y3_20 + (nI 1)) (by have f0 := t_lit 1; have f1 := t_add y3_20 (nI 1); omega) (by have f0 := t_lit 1; have f1 := t_add y3_20 (nI 1); omega)
      · refine wp_bind2 (o_X10_isStone M y3_20) (fun r_4 he35 hq35 => ?_)
        obtain ⟨hz_r_4, hr_35⟩ := hq35
        replace hr_35 : ¬ r_4.toInt = 0 → (0 ≤ y3_20.toInt ∧ y3_20.toInt < 40) ∧ (M 1 (ix y3_20)).toInt = 1 := hr_35
        refine wp_ite (fun c38 => ?_) (fun c38 => ?_)
        · exact ih20 y1_20 (y3_20 + (nI 1)) (by have f0 := t_lit 1; have f1 := t_add y3_20 (nI 1); omega) (by have f0 := t_lit 1; have f1 := t_add y3_20 (nI 1); omega)
        · refine wp_lp2 (fun y4_50 y5_50 => (0 ≤ y5_50.toInt)) (fun y4_50 y5_50 => (40 - y5_50.toInt).toNat) (fun ag50 y4_50 y5_50 hI50 ih50 => ?_) FU (nI 0) (nI 0) (by have f0 := t_lit 0; omega) (fu_lt (by have f0 := t_lit 0; omega))
          have hi50 := hI50
          have j89 : Wp (f_X10_mostInLine_L89 ag20 y1_20 y3_20 y4_50) (fun q => True) := by
            unfold f_X10_mostInLine_L89
            refine wp_bind2 (o_X10_max M y1_20 y4_50) (fun r_5 he92 hq92 => ?_)
            have hr_92 := hq92
            replace hr_92 : r_5.toInt = max y1_20.toInt y4_50.toInt := hr_92
            exact ih20 r_5 (y3_20 + (nI 1)) (by have f0 := t_lit 1; have f1 := t_add y3_20 (nI 1); omega) (by have f0 := t_lit 1; have f1 := t_add y3_20 (nI 1); omega)
          refine wp_ite (fun c54 => ?_) (fun c54 => ?_)
          · exact j89
          · refine wp_bind2 (o_X10_isStone M y5_50) (fun r_6 he60 hq60 => ?_)
            obtain ⟨hz_r_6, hr_60⟩ := hq60
            replace hr_60 : ¬ r_6.toInt = 0 → (0 ≤ y5_50.toInt ∧ y5_50.toInt < 40) ∧ (M 1 (ix y5_50)).toInt = 1 := hr_60
            refine wp_ite (fun c63 => ?_) (fun c63 => ?_)
            · exact ih50 y4_50 (y5_50 + (nI 1)) (by have f0 := t_lit 1; have f1 := t_add y5_50 (nI 1); omega) (by have f0 := t_lit 1; have f1 := t_add y5_50 (nI 1); omega)
            · refine wp_bind2 (o_X10_areInLine M y2_12 y3_20 y5_50 (by omega) (by omega) (by omega)) (fun r_7 he71 hq71 => ?_)
              have hz_r_7 := hq71
              refine wp_ite (fun c74 => ?_) (fun c74 => ?_)
              · exact ih50 y4_50 (y5_50 + (nI 1)) (by have f0 := t_lit 1; have f1 := t_add y5_50 (nI 1); omega) (by have f0 := t_lit 1; have f1 := t_add y5_50 (nI 1); omega)
              · exact ih50 (y4_50 + (nI 1)) (y5_50 + (nI 1)) (by have f0 := t_lit 1; have f1 := t_add y5_50 (nI 1); omega) (by have f0 := t_lit 1; have f1 := t_add y5_50 (nI 1); omega)
theorem o_X10_wouldDo (M : Mem) (v1 : Int32) (v2 : Int32) (v3 : Int32) : Wp (f_X10_wouldDo M v1 v2 v3) (fun q => (q = 0 ∨ q = 1)) := by
  have j10 : ∀ (t0_10 : Int32), (t0_10 = 0 ∨ t0_10 = 1) → Wp (f_X10_wouldDo_L10 M v1 v2 v3 t0_10) (fun q => (q = 0 ∨ q = 1)) := by
    intro t0_10 hb_t0_10
    unfold f_X10_wouldDo_L10
    have j25 : ∀ (t0_25 : Int32), (t0_25 = 0 ∨ t0_25 = 1) → Wp (f_X10_wouldDo_L25 M v1 v2 v3 t0_10 t0_25) (fun q => (q = 0 ∨ q = 1)) := by
      intro t0_25 hb_t0_25
      unfold f_X10_wouldDo_L25
      refine wp_lp3 (fun y4_30 y5_30 y6_30 => (0 ≤ y6_30.toInt)) (fun y4_30 y5_30 y6_30 => (40 - y6_30.toInt).toNat) (fun ag30 y4_30 y5_30 y6_30 hI30 ih30 => ?_) FU t0_10 t0_25 (nI 0) (by have f0 := t_lit 0; omega) (fu_lt (by have f0 := t_lit 0; omega))
      have hi30 := hI30
      have j149 : Wp (f_X10_wouldDo_L149 y4_30 y5_30) (fun q => (q = 0 ∨ q = 1)) := by
        unfold f_X10_wouldDo_L149
        refine wp_ite (fun c151 => ?_) (fun c151 => ?_)
        · exact wp_some b01_0
        · refine wp_ite (fun c156 => ?_) (fun c156 => ?_)
          · exact wp_some b01_0
          · exact wp_some b01_1
      refine wp_ite (fun c34 => ?_) (fun c34 => ?_)
      · exact j149
      · refine wp_bind2 (o_X10_isDry M y6_30 (by omega)) (fun r_1 he40 hq40 => ?_)
        obtain ⟨hz_r_1, hr_40⟩ := hq40
        replace hr_40 : ¬ r_1.toInt = 0 → (M 1 (ix y6_30)).toInt = 1 := hr_40
        refine wp_ite (fun c43 => ?_) (fun c43 => ?_)
        · exact ih30 y4_30 y5_30 (y6_30 + (nI 1)) (by have f0 := t_lit 1; have f1 := t_add y6_30 (nI 1); omega) (by have f0 := t_lit 1; have f1 := t_add y6_30 (nI 1); omega)
        · refine wp_gd (by have f0 := t_lit 40; have f1 := t_add (nI 40) y6_30; omega) ?_
          refine wp_bnd (fun x_2 ex_2 => ?_)
          refine wp_gd (by have f0 := t_lit 80; have f1 := t_add (nI 80) y6_30; omega) ?_
          refine wp_bnd (fun x_3 ex_3 => ?_)
          refine wp_ite (fun c91 => ?_) (fun c91 => ?_)
          · have j118 : ∀ (t0_118 : Int32), (t0_118 = 0 ∨ t0_118 = 1) → Wp (f_X10_wouldDo_L118 M ag30 y5_30 y6_30 t0_118) (fun q => (q = 0 ∨ q = 1)) := by
              intro t0_118 hb_t0_118
              unfold f_X10_wouldDo_L118
              refine wp_ite (fun c122 => ?_) (fun c122 => ?_)
              · refine wp_gd (by omega) ?_
                refine wp_ite (fun c133 => ?_) (fun c133 => ?_)
                · exact ih30 t0_118 (nI 0) (y6_30 + (nI 1)) (by have f0 := t_lit 1; have f1 := t_add y6_30 (nI 1); omega) (by have f0 := t_lit 1; have f1 := t_add y6_30 (nI 1); omega)
                · exact ih30 t0_118 (nI 1) (y6_30 + (nI 1)) (by have f0 := t_lit 1; have f1 := t_add y6_30 (nI 1); omega) (by have f0 := t_lit 1; have f1 := t_add y6_30 (nI 1); omega)
              · exact ih30 t0_118 (nI 1) (y6_30 + (nI 1)) (by have f0 := t_lit 1; have f1 := t_add y6_30 (nI 1); omega) (by have f0 := t_lit 1; have f1 := t_add y6_30 (nI 1); omega)
            have j113 : Wp (f_X10_wouldDo_L113 M ag30 y5_30 y6_30) (fun q => (q = 0 ∨ q = 1)) := by
              unfold f_X10_wouldDo_L113
              exact j118 (nI 1) b01_1
            refine wp_ite (fun c99 => ?_) (fun c99 => ?_)
            · refine wp_gd (by omega) ?_
              refine wp_ite (fun c110 => ?_) (fun c110 => ?_)
              · exact j118 (nI 0) b01_0
              · exact j113
            · exact j113
          · exact ih30 y4_30 y5_30 (y6_30 + (nI 1)) (by have f0 := t_lit 1; have f1 := t_add y6_30 (nI 1); omega) (by have f0 := t_lit 1; have f1 := t_add y6_30 (nI 1); omega)
    refine wp_ite (fun c17 => ?_) (fun c17 => ?_)
    · exact j25 (nI 0) b01_0
    · exact j25 (nI 1) b01_1
  refine wp_ite (fun c2 => ?_) (fun c2 => ?_)
  · exact j10 (nI 0) b01_0
  · exact j10 (nI 1) b01_1
theorem o_X10_pairsOf (M : Mem) : Wp (f_X10_pairsOf M) (fun q => True) := by
  refine wp_lp2 (fun y1_4 y2_4 => (0 ≤ y2_4.toInt)) (fun y1_4 y2_4 => (40 - y2_4.toInt).toNat) (fun ag4 y1_4 y2_4 hI4 ih4 => ?_) FU (nI 0) (nI 0) (by have f0 := t_lit 0; omega) (fu_lt (by have f0 := t_lit 0; omega))
  have hi4 := hI4
  refine wp_ite (fun c7 => ?_) (fun c7 => ?_)
  · exact wp_some trivial
  · refine wp_bind2 (o_X10_isStone M y2_4) (fun r_1 he12 hq12 => ?_)
    obtain ⟨hz_r_1, hr_12⟩ := hq12
    replace hr_12 : ¬ r_1.toInt = 0 → (0 ≤ y2_4.toInt ∧ y2_4.toInt < 40) ∧ (M 1 (ix y2_4)).toInt = 1 := hr_12
    refine wp_ite (fun c15 => ?_) (fun c15 => ?_)
    · exact ih4 y1_4 (y2_4 + (nI 1)) (by have f0 := t_lit 1; have f1 := t_add y2_4 (nI 1); omega) (by have f0 := t_lit 1; have f1 := t_add y2_4 (nI 1); omega)
    · refine wp_bind2 (o_X10_nearestTo M y2_4 (by omega)) (fun r_2 he23 hq23 => ?_)
      have hr_23 := hq23
      replace hr_23 : r_2.toInt = -1 ∨ (0 ≤ r_2.toInt ∧ r_2.toInt < 40) := hr_23
      refine wp_ite (fun c29 => ?_) (fun c29 => ?_)
      · exact ih4 y1_4 (y2_4 + (nI 1)) (by have f0 := t_lit 1; have f1 := t_add y2_4 (nI 1); omega) (by have f0 := t_lit 1; have f1 := t_add y2_4 (nI 1); omega)
      · refine wp_bind2 (o_X10_nearestTo M r_2 (by omega)) (fun r_3 he34 hq34 => ?_)
        have hr_34 := hq34
        replace hr_34 : r_3.toInt = -1 ∨ (0 ≤ r_3.toInt ∧ r_3.toInt < 40) := hr_34
        refine wp_ite (fun c38 => ?_) (fun c38 => ?_)
        · exact ih4 (y1_4 + (nI 1)) (y2_4 + (nI 1)) (by have f0 := t_lit 1; have f1 := t_add y2_4 (nI 1); omega) (by have f0 := t_lit 1; have f1 := t_add y2_4 (nI 1); omega)
        · exact ih4 y1_4 (y2_4 + (nI 1)) (by have f0 := t_lit 1; have f1 := t_add y2_4 (nI 1); omega) (by have f0 := t_lit 1; have f1 := t_add y2_4 (nI 1); omega)
theorem o_X10_person (M : Mem) (v1 : Int32) (v2 : Int32) : Wp (f_X10_person M v1 v2) (fun q => (q.1 = 0 ∨ q.1 = 1) ∧ (∀ a i, ¬ ((a = 0 ∧ i = 4) ∨ a = 4) → q.2 a i = M a i)) := by
  refine wp_bind2 (o_X10_in M v1 (nI 0) (nI 7)) (fun r_1 he4 hq4 => ?_)
  obtain ⟨hz_r_1, hr_4⟩ := hq4
  replace hr_4 : ¬ r_1.toInt = 0 → (nI 0).toInt ≤ v1.toInt ∧ v1.toInt ≤ (nI 7).toInt := hr_4
  have := t_lit 0
  have := t_lit 7
  refine wp_ite (fun c7 => ?_) (fun c7 => ?_)
  · exact wp_some ⟨b01_0, (fun _ _ _ => rfl)⟩
  · refine wp_bind2 (o_X10_in M v2 (nI 1) (nI 30)) (fun r_2 he14 hq14 => ?_)
    obtain ⟨hz_r_2, hr_14⟩ := hq14
    replace hr_14 : ¬ r_2.toInt = 0 → (nI 1).toInt ≤ v2.toInt ∧ v2.toInt ≤ (nI 30).toInt := hr_14
    have := t_lit 1
    have := t_lit 30
    refine wp_ite (fun c17 => ?_) (fun c17 => ?_)
    · exact wp_some ⟨b01_0, (fun _ _ _ => rfl)⟩
    · refine wp_bnd (fun M_3 eM_3 => ?_)
      refine wp_gd (by omega) ?_
      refine wp_bnd (fun M_4 eM_4 => ?_)
      exact wp_some ⟨b01_1, (fun a i q0 => ((congrFun (congrFun eM_4 a) i).trans ((mset_ne (fun h9 => q0 (Or.inr ((h9).1)))).trans ((congrFun (congrFun eM_3 a) i).trans ((mset_ne (fun h9 => q0 (Or.inl h9))).trans rfl)))))⟩
theorem o_X10_seed (M : Mem) (v1 : Int32) : Wp (f_X10_seed M v1) (fun q => (q.1 = 0 ∨ q.1 = 1) ∧ (∀ a i, ¬ (a = 1) → q.2 a i = M a i)) := by
  refine wp_bind2 (o_X10_in M v1 (nI 0) (nI 65535)) (fun r_1 he5 hq5 => ?_)
  obtain ⟨hz_r_1, hr_5⟩ := hq5
  replace hr_5 : ¬ r_1.toInt = 0 → (nI 0).toInt ≤ v1.toInt ∧ v1.toInt ≤ (nI 65535).toInt := hr_5
  have := t_lit 0
  have := t_lit 65535
  refine wp_ite (fun c8 => ?_) (fun c8 => ?_)
  · exact wp_some ⟨b01_0, (fun _ _ _ => rfl)⟩
  · refine wp_bnd (fun M_2 eM_2 => ?_)
    exact wp_some ⟨b01_1, (fun a i q0 => ((congrFun (congrFun eM_2 a) i).trans ((mset_ne (fun h9 => q0 ((h9).1))).trans rfl)))⟩
theorem o_X10_yardRow (M : Mem) (hy : ∀ j : Nat, j < 40 → (M 1 j).toInt = 1 → 1 ≤ (M 1 (80 + j)).toInt ∧ (M 1 (80 + j)).toInt ≤ 20) : Wp (f_X10_yardRow M) (fun q => True) := by
  refine wp_lp2 (fun y1_4 y2_4 => (0 ≤ y2_4.toInt)) (fun y1_4 y2_4 => (40 - y2_4.toInt).toNat) (fun ag4 y1_4 y2_4 hI4 ih4 => ?_) FU (nI 0) (nI 0) (by have f0 := t_lit 0; omega) (fu_lt (by have f0 := t_lit 0; omega))
  have hi4 := hI4
  refine wp_ite (fun c7 => ?_) (fun c7 => ?_)
  · exact wp_some trivial
  · refine wp_lp1 (fun y3_12 => (0 ≤ y3_12.toInt ∧ y3_12.toInt ≤ 20)) (fun y3_12 => (20 - y3_12.toInt).toNat) (fun ag12 y3_12 hI12 ih12 => ?_) FU (nI 0) (by decide) (fu_lt (by have f0 := t_lit 0; omega))
    have h3 := hI12
    refine wp_bind2 (o_X10_isStone M y2_4) (fun r_1 he14 hq14 => ?_)
    obtain ⟨hz_r_1, hr_14⟩ := hq14
    replace hr_14 : ¬ r_1.toInt = 0 → (0 ≤ y2_4.toInt ∧ y2_4.toInt < 40) ∧ (M 1 (ix y2_4)).toInt = 1 := hr_14
    have hys : ¬ r_1.toInt = 0 → 1 ≤ (M 1 (ix ((nI 80) + y2_4))).toInt ∧ (M 1 (ix ((nI 80) + y2_4))).toInt ≤ 20 := fun hne => by
      have f0 := t_lit 80
      have f1 := t_add (nI 80) y2_4
      have f3 := t_ixn y2_4 (by omega)
      have f4 := t_ixn ((nI 80) + y2_4) (by omega)
      rw [show ix ((nI 80) + y2_4) = 80 + ix y2_4 from (by omega)]
      exact hy (ix y2_4) (by omega) (hr_14 hne).2
    have j55 : Wp (f_X10_yardRow_L55 ag4 y1_4 y2_4 y3_12) (fun q => True) := by
      unfold f_X10_yardRow_L55
      refine wp_bind2 (o_X10_max M y1_4 y3_12) (fun r_2 he57 hq57 => ?_)
      have hr_57 := hq57
      replace hr_57 : r_2.toInt = max y1_4.toInt y3_12.toInt := hr_57
      exact ih4 r_2 (y2_4 + (nI 1)) (by have f0 := t_lit 1; have f1 := t_add y2_4 (nI 1); omega) (by have f0 := t_lit 1; have f1 := t_add y2_4 (nI 1); omega)
    refine wp_ite (fun c17 => ?_) (fun c17 => ?_)
    · exact j55
    · refine wp_gd (by have f0 := t_lit 40; have f1 := t_add (nI 40) y2_4; omega) ?_
      refine wp_gd (by have f0 := t_lit 80; have f1 := t_add (nI 80) y2_4; omega) ?_
      refine wp_bind2 (o_X10_stoneAt M (M 1 (ix ((nI 40) + y2_4))) ((M 1 (ix ((nI 80) + y2_4))) + y3_12)) (fun r_3 he41 hq41 => ?_)
      have hr_41 := hq41
      replace hr_41 : r_3.toInt = -1 ∨ ((0 ≤ r_3.toInt ∧ r_3.toInt < 40) ∧ (M 1 (ix r_3)).toInt = 1 ∧ (M 1 (ix (nI 40 + r_3))).toInt = (M 1 (ix ((nI 40) + y2_4))).toInt ∧ (M 1 (ix (nI 80 + r_3))).toInt = ((M 1 (ix ((nI 80) + y2_4))) + y3_12).toInt) := hr_41
      have hyt : ¬ r_3.toInt = -1 → y3_12.toInt ≤ 19 := fun hne => by
        have hs := hys (by omega)
        have f2 := t_add (M 1 (ix ((nI 80) + y2_4))) y3_12
        obtain ⟨h1, h2, h3, h4⟩ := hr_41.resolve_left hne
        have f0 := t_lit 80
        have f1 := t_add (nI 80) r_3
        have f3 := t_ixn r_3 (by omega)
        have f4 := t_ixn ((nI 80) + r_3) (by omega)
        rw [show ix ((nI 80) + r_3) = 80 + ix r_3 from (by omega)] at h4
        have h5 := hy (ix r_3) (by omega) h2
        omega
      refine wp_ite (fun c45 => ?_) (fun c45 => ?_)
      · exact j55
      · exact ih12 (y3_12 + (nI 1)) (by have f0 := t_lit 1; have f1 := t_add y3_12 (nI 1); omega) (by have f0 := t_lit 1; have f1 := t_add y3_12 (nI 1); omega)
theorem o_X10_shape (M : Mem) (v1 : Int32) (hy : ∀ j : Nat, j < 40 → (M 1 j).toInt = 1 → 1 ≤ (M 1 (80 + j)).toInt ∧ (M 1 (80 + j)).toInt ≤ 20) : Wp (f_X10_shape M v1) (fun q => True) := by
  refine wp_ite (fun c1 => ?_) (fun c1 => ?_)
  · refine wp_bind2 (o_X10_mostInLine M) (fun r_1 he33 hq33 => ?_)
    exact wp_some trivial
  · refine wp_ite (fun c1 => ?_) (fun c1 => ?_)
    · refine wp_bind2 (o_X10_yardRow M hy) (fun r_2 he38 hq38 => ?_)
      exact wp_some trivial
    · refine wp_ite (fun c2 => ?_) (fun c2 => ?_)
      · refine wp_bind2 (o_X10_pairsOf M) (fun r_3 he43 hq43 => ?_)
        exact wp_some trivial
      · refine wp_ite (fun c3 => ?_) (fun c3 => ?_)
        · refine wp_bind2 (o_X10_closest M) (fun r_4 he48 hq48 => ?_)
          exact wp_some trivial
        · exact wp_some trivial
theorem o_X10_stone (M : Mem) (v1 : Int32) (v2 : Int32) (v3 : Int32) (v4 : Int32) (hst : ST (M 1)) : Wp (f_X10_stone M v1 v2 v3 v4) (fun q => (q.1 = 0 ∨ q.1 = 1) ∧ (∀ a i, ¬ (a = 1) → q.2 a i = M a i) ∧ (ST (q.2 1))) := by
  refine wp_bind2 (o_X10_in M v1 (nI 0) (nI 39)) (fun r_1 he4 hq4 => ?_)
  obtain ⟨hz_r_1, hr_4⟩ := hq4
  replace hr_4 : ¬ r_1.toInt = 0 → (nI 0).toInt ≤ v1.toInt ∧ v1.toInt ≤ (nI 39).toInt := hr_4
  have := t_lit 0
  have := t_lit 39
  refine wp_ite (fun c7 => ?_) (fun c7 => ?_)
  · exact wp_some ⟨b01_0, (fun _ _ _ => rfl), (by have e9 : M 1 = M 1 := funext (fun i => rfl); show ST (M 1); rw [e9]; exact hst)⟩
  · refine wp_bind2 (o_X10_in M v2 (nI 0) (nI 39)) (fun r_2 he14 hq14 => ?_)
    obtain ⟨hz_r_2, hr_14⟩ := hq14
    replace hr_14 : ¬ r_2.toInt = 0 → (nI 0).toInt ≤ v2.toInt ∧ v2.toInt ≤ (nI 39).toInt := hr_14
    have := t_lit 0
    have := t_lit 39
    refine wp_ite (fun c17 => ?_) (fun c17 => ?_)
    · exact wp_some ⟨b01_0, (fun _ _ _ => rfl), (by have e9 : M 1 = M 1 := funext (fun i => rfl); show ST (M 1); rw [e9]; exact hst)⟩
    · refine wp_bind2 (o_X10_in M v3 (nI 1) (nI 20)) (fun r_3 he24 hq24 => ?_)
      obtain ⟨hz_r_3, hr_24⟩ := hq24
      replace hr_24 : ¬ r_3.toInt = 0 → (nI 1).toInt ≤ v3.toInt ∧ v3.toInt ≤ (nI 20).toInt := hr_24
      have := t_lit 1
      have := t_lit 20
      have fl1 := t_lit 1
      have fl20 := t_lit 20
      refine wp_ite (fun c27 => ?_) (fun c27 => ?_)
      · exact wp_some ⟨b01_0, (fun _ _ _ => rfl), (by have e9 : M 1 = M 1 := funext (fun i => rfl); show ST (M 1); rw [e9]; exact hst)⟩
      · refine wp_bind2 (o_X10_in M v4 (nI 0) (nI 9)) (fun r_4 he35 hq35 => ?_)
        obtain ⟨hz_r_4, hr_35⟩ := hq35
        replace hr_35 : ¬ r_4.toInt = 0 → (nI 0).toInt ≤ v4.toInt ∧ v4.toInt ≤ (nI 9).toInt := hr_35
        have := t_lit 0
        have := t_lit 9
        have fl0 := t_lit 0
        have fl9 := t_lit 9
        refine wp_ite (fun c38 => ?_) (fun c38 => ?_)
        · exact wp_some ⟨b01_0, (fun _ _ _ => rfl), (by have e9 : M 1 = M 1 := funext (fun i => rfl); show ST (M 1); rw [e9]; exact hst)⟩
        · refine wp_bind2 (o_X10_stoneAt M v2 v3) (fun r_5 he46 hq46 => ?_)
          have hr_46 := hq46
          replace hr_46 : r_5.toInt = -1 ∨ ((0 ≤ r_5.toInt ∧ r_5.toInt < 40) ∧ (M 1 (ix r_5)).toInt = 1 ∧ (M 1 (ix (nI 40 + r_5))).toInt = v2.toInt ∧ (M 1 (ix (nI 80 + r_5))).toInt = v3.toInt) := hr_46
          have j65 : Wp (f_X10_stone_L65 M v1 v2 v3 v4) (fun q => (q.1 = 0 ∨ q.1 = 1) ∧ (∀ a i, ¬ (a = 1) → q.2 a i = M a i) ∧ (ST (q.2 1))) := by
            unfold f_X10_stone_L65
            refine wp_bind2 (o_X10_laysStone M v1 v2 v3 v4 (nI 0) (by have f0 := t_lit 0; omega)) (fun M_6 he72 hq72 => ?_)
            obtain ⟨hg_M_6, hl_72⟩ := hq72
            replace hl_72 : (M_6 1 (ix v1)).toInt = 1 ∧ M_6 1 (80 + ix v1) = v3 ∧ M_6 1 (120 + ix v1) = v4 ∧ ∀ j : Nat, ¬ j = ix v1 → ¬ j = 40 + ix v1 → ¬ j = 80 + ix v1 → ¬ j = 120 + ix v1 → ¬ j = 160 + ix v1 → M_6 1 j = M 1 j := hl_72
            have := t_lit 0
            replace hg_M_6 : ∀ a i, ¬ (a = 1) → M_6 a i = M a i := hg_M_6
            exact wp_some ⟨b01_1, (fun a i q0 => ((hg_M_6 a i (fun h9 => q0 (h9))).trans rfl)), (st_lay (i := ix v1) (by have := t_ixn v1 (by omega); omega) hst (by rw [show (nI 1, M_6).2 1 (80 + ix v1) = M_6 1 (80 + ix v1) from rfl, hl_72.2.1]; omega) (by rw [show (nI 1, M_6).2 1 (120 + ix v1) = M_6 1 (120 + ix v1) from rfl, hl_72.2.2.1]; omega) hl_72.2.2.2)⟩
          refine wp_ite (fun c54 => ?_) (fun c54 => ?_)
          · exact j65
          · refine wp_ite (fun c60 => ?_) (fun c60 => ?_)
            · exact j65
            · exact wp_some ⟨b01_0, (fun _ _ _ => rfl), (by have e9 : M 1 = M 1 := funext (fun i => rfl); show ST (M 1); rw [e9]; exact hst)⟩
theorem o_X10_stoneIs (M : Mem) (v1 : Int32) (v2 : Int32) : Wp (f_X10_stoneIs M v1 v2) (fun q => True) := by
  refine wp_bind2 (o_X10_isStone M v1) (fun r_1 he2 hq2 => ?_)
  obtain ⟨hz_r_1, hr_2⟩ := hq2
  replace hr_2 : ¬ r_1.toInt = 0 → (0 ≤ v1.toInt ∧ v1.toInt < 40) ∧ (M 1 (ix v1)).toInt = 1 := hr_2
  refine wp_ite (fun c5 => ?_) (fun c5 => ?_)
  · exact wp_some trivial
  · refine wp_ite (fun c11 => ?_) (fun c11 => ?_)
    · refine wp_gd (by have f0 := t_lit 40; have f1 := t_add (nI 40) v1; omega) ?_
      exact wp_some trivial
    · refine wp_ite (fun c1 => ?_) (fun c1 => ?_)
      · refine wp_gd (by have f0 := t_lit 80; have f1 := t_add (nI 80) v1; omega) ?_
        exact wp_some trivial
      · refine wp_ite (fun c2 => ?_) (fun c2 => ?_)
        · refine wp_gd (by have f0 := t_lit 120; have f1 := t_add (nI 120) v1; omega) ?_
          exact wp_some trivial
        · refine wp_ite (fun c3 => ?_) (fun c3 => ?_)
          · refine wp_gd (by have f0 := t_lit 160; have f1 := t_add (nI 160) v1; omega) ?_
            exact wp_some trivial
          · refine wp_ite (fun c4 => ?_) (fun c4 => ?_)
            · refine wp_bind2 (o_X10_nearTo M v1 (by omega)) (fun r_2 he87 hq87 => ?_)
              exact wp_some trivial
            · exact wp_some trivial
theorem o_X10_take (M : Mem) (v1 : Int32) (hst : ST (M 1)) : Wp (f_X10_take M v1) (fun q => (q.1 = 0 ∨ q.1 = 1) ∧ (∀ a i, ¬ (a = 1) → q.2 a i = M a i) ∧ (ST (q.2 1))) := by
  refine wp_bind2 (o_X10_isStone M v1) (fun r_1 he2 hq2 => ?_)
  obtain ⟨hz_r_1, hr_2⟩ := hq2
  replace hr_2 : ¬ r_1.toInt = 0 → (0 ≤ v1.toInt ∧ v1.toInt < 40) ∧ (M 1 (ix v1)).toInt = 1 := hr_2
  refine wp_ite (fun c5 => ?_) (fun c5 => ?_)
  · exact wp_some ⟨b01_0, (fun _ _ _ => rfl), (by have e9 : M 1 = M 1 := funext (fun i => rfl); show ST (M 1); rw [e9]; exact hst)⟩
  · refine wp_gd (by omega) ?_
    refine wp_bnd (fun M_2 eM_2 => ?_)
    exact wp_some ⟨b01_1, (fun a i q0 => ((congrFun (congrFun eM_2 a) i).trans ((mset_ne (fun h9 => q0 ((h9).1))).trans rfl))), (st_off (i := ix v1) hst (by show ¬ (M_2 1 (ix v1)).toInt = 1; rw [eM_2, mset_eq]; decide) (fun j hj => by show M_2 1 j = M 1 j; rw [eM_2, mset_ne (by first | exact nz1 (by decide) | exact nz2 (by decide) | exact nz1 (nzA hc0 (by decide)) | exact nz1 (nzE (by decide)) | exact nz1 (nzB hc0 (by decide)) | exact nz1 (nzC hc0 (by decide)) | exact nz1 (nzD hc0 (by decide)) | exact nz1 (nzF (by decide)) | exact nz1 (nzG (by decide)) | omega)]) (by have := t_ixn v1 (by omega); omega))⟩
theorem o_X10_under (M : Mem) (v1 : Int32) (v2 : Int32) (hst : ST (M 1)) : Wp (f_X10_under M v1 v2) (fun q => (q.1 = 0 ∨ q.1 = 1) ∧ (∀ a i, ¬ (a = 1) → q.2 a i = M a i) ∧ (ST (q.2 1))) := by
  refine wp_bind2 (o_X10_isStone M v1) (fun r_1 he2 hq2 => ?_)
  obtain ⟨hz_r_1, hr_2⟩ := hq2
  replace hr_2 : ¬ r_1.toInt = 0 → (0 ≤ v1.toInt ∧ v1.toInt < 40) ∧ (M 1 (ix v1)).toInt = 1 := hr_2
  refine wp_ite (fun c5 => ?_) (fun c5 => ?_)
  · exact wp_some ⟨b01_0, (fun _ _ _ => rfl), (by have e9 : M 1 = M 1 := funext (fun i => rfl); show ST (M 1); rw [e9]; exact hst)⟩
  · have j28 : ∀ (t0_28 : Int32), (t0_28 = 0 ∨ t0_28 = 1) → Wp (f_X10_under_L28 M v1 t0_28) (fun q => (q.1 = 0 ∨ q.1 = 1) ∧ (∀ a i, ¬ (a = 1) → q.2 a i = M a i) ∧ (ST (q.2 1))) := by
      intro t0_28 hb_t0_28
      unfold f_X10_under_L28
      refine wp_gd (by have f0 := t_lit 160; have f1 := t_add (nI 160) v1; omega) ?_
      refine wp_bnd (fun M_2 eM_2 => ?_)
      exact wp_some ⟨b01_1, (fun a i q0 => ((congrFun (congrFun eM_2 a) i).trans ((mset_ne (fun h9 => q0 ((h9).1))).trans rfl))), (st_hi (i := ix v1) hst (fun j hj => by show M_2 1 j = M 1 j; rw [eM_2, mset_ne (by have := ix_add (x := v1) (n := 160) (by omega) (by omega); omega)]))⟩
    refine wp_ite (fun c20 => ?_) (fun c20 => ?_)
    · exact j28 (nI 0) b01_0
    · exact j28 (nI 1) b01_1
theorem o_X10_undo (M : Mem) (hst : ST (M 1)) (hsk : ST (M 3)) : Wp (f_X10_undo M) (fun q => (q.1 = 0 ∨ q.1 = 1) ∧ (∀ a i, ¬ (a = 1) → q.2 a i = M a i) ∧ (ST (q.2 1))) := by
  refine wp_ite (fun c4 => ?_) (fun c4 => ?_)
  · exact wp_some ⟨b01_0, (fun _ _ _ => rfl), hst⟩
  · refine wp_bind2 (o_X10_copies (by decide) (by decide) M (by omega) (by omega)) (fun M_1 he17 hq17 => ?_)
    obtain ⟨hg_M_1, hc_17⟩ := hq17
    replace hc_17 : ∀ j : Nat, j < 202 → M_1 1 j = M 3 j := hc_17
    replace hg_M_1 : ∀ a i, ¬ (a = 1) → M_1 a i = M a i := by exact fun a i q0 => hg_M_1 a i (by first | decide | (rcases hc0 with h | h <;> rw [h] <;> simp; done) | (rcases hb0 with h | h | h <;> rw [h] <;> simp; done) | (simp; done) | omega)
    exact wp_some ⟨b01_1, (fun a i q0 => ((hg_M_1 a i (fun h9 => q0 (h9))).trans rfl)), (st_copy hsk (fun j hj => hc_17 j hj))⟩
