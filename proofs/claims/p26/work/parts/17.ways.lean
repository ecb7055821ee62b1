/-- b: the least s i + 1 of those with P ahead of n; -1: there is none -/
def Best (P : Nat → Prop) (s : Nat → Int) (b : Int) (n : Nat) : Prop := (b = -1 ∨ ∃ i, i < 40 ∧ P i ∧ b = s i + 1) ∧ ∀ i, i < n → P i → ¬ b = -1 ∧ b ≤ s i + 1
theorem best_skip {P : Nat → Prop} {s : Nat → Int} {b : Int} {n : Nat} (h : Best P s b n) (hp : ¬ P n) : Best P s b (n + 1) := ⟨h.1, fun i hi hpi => by
  by_cases e : i = n
  · exact absurd (e ▸ hpi) hp
  · exact h.2 i (by omega) hpi⟩
theorem best_keep {P : Nat → Prop} {s : Nat → Int} {b : Int} {n : Nat} (h : Best P s b n) (hb : ¬ b = -1) (hl : b ≤ s n + 1) : Best P s b (n + 1) := ⟨h.1, fun i hi hpi => by
  by_cases e : i = n
  · rw [e]; exact ⟨hb, hl⟩
  · exact h.2 i (by omega) hpi⟩
theorem best_new {P : Nat → Prop} {s : Nat → Int} {b x : Int} {n : Nat} (h : Best P s b n) (hp : P n) (hn : n < 40) (hx : x = s n + 1) (hs : 1 ≤ s n) (hb : b = -1 ∨ s n + 1 < b) : Best P s x (n + 1) := ⟨Or.inr ⟨n, hn, hp, hx⟩, fun i hi hpi => by
  by_cases e : i = n
  · rw [e]; omega
  · have := h.2 i (by omega) hpi
    omega⟩
set_option maxHeartbeats 4000000 in
theorem o_X10_crossing (M : Mem) (v1 : Int32) : Wp (f_X10_crossing M v1) (fun q => (∀ a i, ¬ (a = 23 ∨ a = 25) → q.2 a i = M a i) ∧ ((21 ≤ v1.toInt → q.1.toInt = 1) ∧ (v1.toInt < 21 → Bend 40 (byB M (nI 1) v1) (cst M v1) (fun j => (q.2 23 j).toInt) ∧ Best (fun i => ¬ (q.2 23 i).toInt = -1 ∧ byB M (nI 0) v1 i) (fun i => (q.2 23 i).toInt) q.1.toInt 40))) := by
  refine wp_ite (fun c3 => ?_) (fun c3 => ?_)
  · refine wp_bind2 (o_X10_laysSteps (by decide) M (nI 1) v1 (by omega) (by omega)) (fun M_1 he15 hq15 => ?_)
    obtain ⟨hg_M_1, hE_15⟩ := hq15
    replace hE_15 : Bend 40 (byB M (nI 1) v1) (cst M v1) (fun j => (M_1 23 j).toInt) := hE_15
    have := t_lit 1
    replace hg_M_1 : ∀ a i, ¬ (a = 23 ∨ a = 25) → M_1 a i = M a i := by exact fun a i q0 => hg_M_1 a i (by first | decide | (rcases hc0 with h | h <;> rw [h] <;> simp; done) | (rcases hb0 with h | h | h <;> rw [h] <;> simp; done) | (simp; done) | omega)
    refine wp_lp2 (fun y2_22 y3_22 => (0 ≤ y3_22.toInt ∧ y3_22.toInt ≤ 40) ∧ (Best (fun i => ¬ (M_1 23 i).toInt = -1 ∧ byB M (nI 0) v1 i) (fun i => (M_1 23 i).toInt) y2_22.toInt (ix y3_22))) (fun y2_22 y3_22 => (40 - y3_22.toInt).toNat) (fun ag22 y2_22 y3_22 hI22 ih22 => ?_) FU (-1) (nI 0) ⟨(by decide), (by rw [show ix (nI 0) = 0 from ix0]; exact ⟨Or.inl (by decide), fun i hi => absurd hi (Nat.not_lt_zero _)⟩)⟩ (fu_lt (by have f0 := t_lit 0; have f1 := (by decide : ((-1 : Int32)).toInt = -1); omega))
    obtain ⟨h22, hB⟩ := hI22
    have e1 : M_1 1 = M 1 := funext (fun i => hg_M_1 1 i (by first | decide | (rcases hc0 with h | h <;> rw [h] <;> simp; done) | (rcases hb0 with h | h | h <;> rw [h] <;> simp; done) | (simp; done) | omega))
    have hBe : Bend 40 (byB M (nI 1) v1) (cst M v1) (fun j => (M_1 23 j).toInt) := hE_15
    refine wp_ite (fun c25 => ?_) (fun c25 => ?_)
    · exact wp_some ⟨(fun a i q0 => ((hg_M_1 a i (fun z8 => q0 ((fun z9 => Or.elim z9 (fun h9 => Or.inl h9) (fun h9 => Or.inr (h9))) z8))).trans rfl)), (by show (21 ≤ v1.toInt → y2_22.toInt = 1) ∧ (v1.toInt < 21 → Bend 40 (byB M (nI 1) v1) (cst M v1) (fun j => (M_1 23 j).toInt) ∧ Best (fun i => ¬ (M_1 23 i).toInt = -1 ∧ byB M (nI 0) v1 i) (fun i => (M_1 23 i).toInt) y2_22.toInt 40); have e9 : ix y3_22 = 40 := (by have := t_ixn y3_22 (by omega); omega); rw [e9] at hB; exact ⟨fun z => absurd z (by omega), fun _ => ⟨hBe, hB⟩⟩)⟩
    · have fx := t_ixn y3_22 (by omega)
      refine wp_gd (by omega) ?_
      refine wp_ite (fun c35 => ?_) (fun c35 => ?_)
      · exact ih22 y2_22 (y3_22 + (nI 1)) ⟨(by rw [t_inc y3_22 1 (by omega)]; omega), (by rw [ix_inc (by omega)]; exact best_skip hB (fun z => z.1 c35))⟩ (by rw [t_inc y3_22 1 (by omega)]; omega)
      · have hs1 : 1 ≤ (M_1 23 (ix y3_22)).toInt ∧ (M_1 23 (ix y3_22)).toInt ≤ 40 := (hBe.1 (ix y3_22) (by omega)).resolve_left c35
        have hsi : ((M_1 23 (ix y3_22)) + (nI 1)).toInt = (M_1 23 (ix y3_22)).toInt + 1 := t_inc _ 1 (by omega)
        refine wp_bind2 (o_X10_isByBank M_1 y3_22 (nI 0) v1 (by have f0 := t_lit 0; omega)) (fun r_2 he42 hq42 => ?_)
        obtain ⟨hz_r_2, hr_42⟩ := hq42
        replace hr_42 : ¬ r_2.toInt = 0 → (M_1 1 (ix y3_22)).toInt = 1 := hr_42
        have := t_lit 0
        have hby : byB M (nI 0) v1 (ix y3_22) ↔ ¬ r_2.toInt = 0 := byB_iff he42 e1 (by omega)
        refine wp_ite (fun c45 => ?_) (fun c45 => ?_)
        · exact ih22 y2_22 (y3_22 + (nI 1)) ⟨(by rw [t_inc y3_22 1 (by omega)]; omega), (by rw [ix_inc (by omega)]; exact best_skip hB (fun z => hby.mp z.2 c45))⟩ (by rw [t_inc y3_22 1 (by omega)]; omega)
        · have j68 : (y2_22.toInt = -1 ∨ (M_1 23 (ix y3_22)).toInt + 1 < y2_22.toInt) → Wp (f_X10_crossing_L68 M_1 ag22 y3_22) (fun q => (∀ a i, ¬ (a = 23 ∨ a = 25) → q.2 a i = M a i) ∧ ((21 ≤ v1.toInt → q.1.toInt = 1) ∧ (v1.toInt < 21 → Bend 40 (byB M (nI 1) v1) (cst M v1) (fun j => (q.2 23 j).toInt) ∧ Best (fun i => ¬ (q.2 23 i).toInt = -1 ∧ byB M (nI 0) v1 i) (fun i => (q.2 23 i).toInt) q.1.toInt 40))) := by
            intro h68
            unfold f_X10_crossing_L68
            refine wp_gd (by omega) ?_
            refine wp_bnd (fun x_3 ex_3 => ?_)
            exact ih22 x_3 (y3_22 + (nI 1)) ⟨(by rw [t_inc y3_22 1 (by omega)]; omega), (by rw [ix_inc (by omega)]; exact best_new hB ⟨c35, hby.mpr c45⟩ (by omega) (by rw [ex_3, hsi]) (by omega) h68)⟩ (by rw [t_inc y3_22 1 (by omega)]; omega)
          refine wp_ite (fun c53 => ?_) (fun c53 => ?_)
          · exact j68 (by omega)
          · refine wp_gd (by omega) ?_
            refine wp_ite (fun c65 => ?_) (fun c65 => ?_)
            · exact ih22 y2_22 (y3_22 + (nI 1)) ⟨(by rw [t_inc y3_22 1 (by omega)]; omega), (by rw [ix_inc (by omega)]; exact best_keep hB c53 (by rw [hsi] at c65; exact c65))⟩ (by rw [t_inc y3_22 1 (by omega)]; omega)
            · exact j68 (by omega)
  · exact wp_some ⟨(fun _ _ _ => rfl), (by show (21 ≤ v1.toInt → (nI 1).toInt = 1) ∧ (v1.toInt < 21 → Bend 40 (byB M (nI 1) v1) (cst M v1) (fun j => (M 23 j).toInt) ∧ Best (fun i => ¬ (M 23 i).toInt = -1 ∧ byB M (nI 0) v1 i) (fun i => (M 23 i).toInt) (nI 1).toInt 40); exact ⟨fun _ => nI1, fun z => absurd z c3⟩)⟩
theorem two_ways {m : Nat} {B B' : Nat → Prop} {C : Nat → Nat → Prop} {s s' : Nat → Int} (hC : ∀ i j, i < 40 → j < 40 → C i j → C j i) (hm : m = 40) (h : Bend m B C s) (h' : Bend m B' C s') : ∀ (a i : Nat), i < m → s i = (a : Int) + 1 → ¬ s' i = -1 → ∃ v, v < m ∧ B v ∧ ¬ s' v = -1 ∧ s' v ≤ s' i + a
  | 0, i, hi, hs, hs' => ⟨i, hi, (h.2.1 i hi).mp (by omega), hs', by omega⟩
  | a + 1, i, hi, hs, hs' => by
    obtain ⟨p, hp, ep, cp⟩ := h.2.2.1 i hi (by omega)
    have h1 := h'.2.2.2 i p hi hp hs' (hC p i (by omega) (by omega) cp)
    obtain ⟨v, hv, hb, h2, h3⟩ := two_ways hC hm h h' a p hp (by omega) h1.1
    exact ⟨v, hv, hb, h2, by omega⟩
theorem best_rng {B : Nat → Prop} {C : Nat → Nat → Prop} {P : Nat → Prop} {s : Nat → Int} {r : Int} (h : Bend 40 B C s) (hb : Best (fun i => ¬ s i = -1 ∧ P i) s r 40) (hr : ¬ r = -1) : 2 ≤ r ∧ r ≤ 41 := by
  obtain ⟨i, hi, hp, e⟩ := hb.1.resolve_left hr
  have := (h.1 i hi).resolve_left hp.1
  omega
theorem cross_first {B B' : Nat → Prop} {C : Nat → Nat → Prop} {s s' : Nat → Int} {r : Int} (hC : ∀ i j, i < 40 → j < 40 → C i j → C j i) (h : Bend 40 B C s) (h' : Bend 40 B' C s') (hb : Best (fun i => ¬ s i = -1 ∧ B' i) s r 40) (hr : ¬ r = -1) : ∃ v, v < 40 ∧ B v ∧ s' v = r - 1 := by
  obtain ⟨i, hi, hp, e⟩ := hb.1.resolve_left hr
  have h1 := (h.1 i hi).resolve_left hp.1
  have h2 := (h'.2.1 i hi).mpr hp.2
  obtain ⟨v, hv, hbv, h3, h4⟩ := two_ways hC rfl h h' (s i - 1).toNat i hi (by omega) (by omega)
  have h5 := (h'.1 v hv).resolve_left h3
  have h6 := (h.2.1 v hv).mpr hbv
  obtain ⟨w, hw, hbw, h7, h8⟩ := two_ways hC rfl h' h (s' v - 1).toNat v hv (by omega) (by omega)
  have h9 := hb.2 w hw ⟨h7, hbw⟩
  exact ⟨v, hv, hbv, by omega⟩
theorem cross_next {B : Nat → Prop} {C : Nat → Nat → Prop} {s : Nat → Int} {i : Nat} (hC : ∀ i j, i < 40 → j < 40 → C i j → C j i) (h : Bend 40 B C s) (hi : i < 40) (h2 : 2 ≤ s i) : ∃ v, v < 40 ∧ s v = s i - 1 ∧ C i v := by
  obtain ⟨p, hp, ep, cp⟩ := h.2.2.1 i hi h2
  exact ⟨p, hp, ep, hC p i hp hi cp⟩
theorem byB_mem {M M' : Mem} (h : M' 1 = M 1) {n s : Int32} : byB M' n s = byB M n s := funext (fun i => by unfold byB; rw [isByBank_congr h])
theorem cst_mem {M M' : Mem} (h : M' 1 = M 1) {s : Int32} : cst M' s = cst M s := funext (fun i => funext (fun j => by unfold cst; rw [canStep_congr h]))
theorem sq_sub (x y : Int32) : (x - y) * (x - y) = (y - x) * (y - x) := by
  have e : y - x = -(x - y) := Int32.neg_sub.symm
  rw [e, Int32.neg_mul, Int32.mul_neg, Int32.neg_neg]
theorem apart_is {M : Mem} {a b : Int32} (ha : 0 ≤ a.toInt ∧ a.toInt < 40) (hb : 0 ≤ b.toInt ∧ b.toInt < 40) : f_X10_apart M a b = some ((M 1 (ix ((nI 40) + a)) - M 1 (ix ((nI 40) + b))) * (M 1 (ix ((nI 40) + a)) - M 1 (ix ((nI 40) + b))) + (M 1 (ix ((nI 80) + a)) - M 1 (ix ((nI 80) + b))) * (M 1 (ix ((nI 80) + a)) - M 1 (ix ((nI 80) + b)))) := by
  have f1 := t_lit 40
  have f2 := t_lit 80
  have f3 := t_add (nI 40) a
  have f4 := t_add (nI 40) b
  have f5 := t_add (nI 80) a
  have f6 := t_add (nI 80) b
  unfold f_X10_apart gd
  rw [if_pos (by omega), if_pos (by omega)]
  simp only [bnd]
  rw [if_pos (by omega), if_pos (by omega)]
theorem apart_sym {M : Mem} {a b : Int32} (ha : 0 ≤ a.toInt ∧ a.toInt < 40) (hb : 0 ≤ b.toInt ∧ b.toInt < 40) : f_X10_apart M a b = f_X10_apart M b a := by
  rw [apart_is ha hb, apart_is hb ha, sq_sub (M 1 (ix ((nI 40) + a))), sq_sub (M 1 (ix ((nI 80) + a)))]
theorem cst_sym {M : Mem} {s : Int32} : ∀ i j, i < 40 → j < 40 → cst M s i j → cst M s j i := by
  intro i j hi hj h
  have fi := t_lit i (by omega)
  have fj := t_lit j (by omega)
  obtain ⟨r, e, hr⟩ := h
  obtain ⟨a, ea, -⟩ := o_X10_isDry M (nI i) (by omega)
  obtain ⟨b, eb, -⟩ := o_X10_isDry M (nI j) (by omega)
  have es := apart_sym (M := M) (a := nI i) (b := nI j) (by omega) (by omega)
  have ea2 := apart_is (M := M) (a := nI i) (b := nI j) (by omega) (by omega)
  refine ⟨r, ?_, hr⟩
  unfold f_X10_canStep at e ⊢
  rw [ea, eb] at e
  rw [eb, ea]
  simp only [Option.bind_some] at e ⊢
  by_cases ca : a.toInt = 0
  · rw [if_pos ca] at e
    cases e
    exact absurd nI0 hr
  · rw [if_neg ca] at e
    by_cases cb : b.toInt = 0
    · rw [if_pos cb] at e
      cases e
      exact absurd nI0 hr
    · rw [if_neg cb] at e
      rw [if_neg cb, if_neg ca, ← es]
      exact e
set_option maxHeartbeats 8000000 in
theorem o_X10_cross (M : Mem) (v1 : Int32) (v2 : Int32) : Wp (f_X10_cross M v1 v2) (fun q => (∀ a i, ¬ (a = 23 ∨ a = 24 ∨ a = 25 ∨ a = 26) → q.2 a i = M a i)) := by
  refine wp_bind2 (o_X10_isPerson M v1) (fun r_1 he2 hq2 => ?_)
  obtain ⟨hz_r_1, hr_2⟩ := hq2
  replace hr_2 : ¬ r_1.toInt = 0 → 0 ≤ v1.toInt ∧ v1.toInt < 8 := hr_2
  refine wp_ite (fun c5 => ?_) (fun c5 => ?_)
  · exact wp_some (fun _ _ _ => rfl)
  · refine wp_bind2 (o_X10_in M v2 (nI 0) (nI 39)) (fun r_2 he12 hq12 => ?_)
    obtain ⟨hz_r_2, hr_12⟩ := hq12
    replace hr_12 : ¬ r_2.toInt = 0 → (nI 0).toInt ≤ v2.toInt ∧ v2.toInt ≤ (nI 39).toInt := hr_12
    have := t_lit 0
    have := t_lit 39
    have fl0 := t_lit 0
    have fl39 := t_lit 39
    have j31 : ((0 ≤ v2.toInt ∧ v2.toInt ≤ 39) ∨ v2.toInt = 100 ∨ v2.toInt = 101) → Wp (f_X10_cross_L31 M v1 v2) (fun q => (∀ a i, ¬ (a = 23 ∨ a = 24 ∨ a = 25 ∨ a = 26) → q.2 a i = M a i)) := by
      intro h31
      unfold f_X10_cross_L31
      refine wp_gd (by omega) ?_
      refine wp_bnd (fun x_3 ex_3 => ?_)
      refine wp_cb2 (o_X10_crossing M x_3) (fun r_4 M_5 he40 hq40 => ?_)
      obtain ⟨hg_M_5, hE_40⟩ := hq40
      replace hE_40 : (21 ≤ x_3.toInt → r_4.toInt = 1) ∧ (x_3.toInt < 21 → Bend 40 (byB M (nI 1) x_3) (cst M x_3) (fun j => (M_5 23 j).toInt) ∧ Best (fun i => ¬ (M_5 23 i).toInt = -1 ∧ byB M (nI 0) x_3 i) (fun i => (M_5 23 i).toInt) r_4.toInt 40) := hE_40
      replace hg_M_5 : ∀ a i, ¬ (a = 23 ∨ a = 25) → M_5 a i = M a i := hg_M_5
      have hr4 : (21 ≤ x_3.toInt → r_4.toInt = 1) := hE_40.1
      refine wp_ite (fun c48 => ?_) (fun c48 => ?_)
      · exact wp_some (fun a i q0 => ((hg_M_5 a i (fun z8 => q0 ((fun z9 => Or.elim z9 (fun h9 => Or.inl h9) (fun h9 => Or.inr (Or.inr (Or.inl h9)))) z8))).trans rfl))
      · have hrr0 : 1 ≤ r_4.toInt ∧ r_4.toInt ≤ 41 := by
          by_cases z : 21 ≤ x_3.toInt
          · have := hr4 z
            omega
          · have hb := hE_40.2 (by omega)
            have := best_rng hb.1 hb.2 c48
            omega
        have hfi : (r_4 - (nI 1)).toInt = r_4.toInt - 1 := by (have f1 := t_sub r_4 (nI 1); have f2 := t_lit 1; omega)
        refine wp_ite (fun c57 => ?_) (fun c57 => ?_)
        · exact wp_some (fun a i q0 => ((hg_M_5 a i (fun z8 => q0 ((fun z9 => Or.elim z9 (fun h9 => Or.inl h9) (fun h9 => Or.inr (Or.inr (Or.inl h9)))) z8))).trans rfl))
        · have j80 : (v2.toInt = 101 ∨ (0 ≤ v2.toInt ∧ v2.toInt < r_4.toInt - 1)) → Wp (f_X10_cross_L80 v2 x_3 r_4 M_5) (fun q => (∀ a i, ¬ (a = 23 ∨ a = 24 ∨ a = 25 ∨ a = 26) → q.2 a i = M a i)) := by
            intro h80
            unfold f_X10_cross_L80
            refine wp_ite (fun c83 => ?_) (fun c83 => ?_)
            · exact wp_some (fun a i q0 => ((hg_M_5 a i (fun z8 => q0 ((fun z9 => Or.elim z9 (fun h9 => Or.inl h9) (fun h9 => Or.inr (Or.inr (Or.inl h9)))) z8))).trans rfl))
            · have hs21 : x_3.toInt < 21 := by (have : ¬ 21 ≤ x_3.toInt := fun z => c83 (hr4 z)); omega
              obtain ⟨hN, hBst⟩ := hE_40.2 hs21
              have hrr : 2 ≤ r_4.toInt ∧ r_4.toInt ≤ 41 := best_rng hN hBst c48
              have e51 : M_5 1 = M 1 := funext (fun i => hg_M_5 1 i (by first | decide | (rcases hc0 with h | h <;> rw [h] <;> simp; done) | (rcases hb0 with h | h | h <;> rw [h] <;> simp; done) | (simp; done) | omega))
              refine wp_bind2 (o_X10_laysSteps (by decide) M_5 (nI 0) x_3 (by omega) (by omega)) (fun M_6 he95 hq95 => ?_)
              obtain ⟨hg_M_6, hE_95⟩ := hq95
              replace hE_95 : Bend 40 (byB M_5 (nI 0) x_3) (cst M_5 x_3) (fun j => (M_6 24 j).toInt) := hE_95
              have := t_lit 0
              replace hg_M_6 : ∀ a i, ¬ (a = 24 ∨ a = 25) → M_6 a i = M_5 a i := by exact fun a i q0 => hg_M_6 a i (by first | decide | (rcases hc0 with h | h <;> rw [h] <;> simp; done) | (rcases hb0 with h | h | h <;> rw [h] <;> simp; done) | (simp; done) | omega)
              have hFa : Bend 40 (byB M (nI 0) x_3) (cst M x_3) (fun j => (M_6 24 j).toInt) := by
                rw [← byB_mem e51, ← cst_mem e51]
                exact hE_95
              have hfst := cross_first cst_sym hN hFa hBst c48
              refine wp_bind2 (o_X10_laysRows M_6 x_3) (fun M_7 he100 hq100 => ?_)
              have hg_M_7 := hq100
              replace hg_M_7 : ∀ a i, ¬ (a = 26) → M_7 a i = M_6 a i := hg_M_7
              have e24 : ∀ j, M_7 24 j = M_6 24 j := fun j => hg_M_7 24 j (by first | decide | (rcases hc0 with h | h <;> rw [h] <;> simp; done) | (rcases hb0 with h | h | h <;> rw [h] <;> simp; done) | (simp; done) | omega)
              have e71 : M_7 1 = M 1 := funext (fun i => by rw [hg_M_7 1 i (by first | decide | (rcases hc0 with h | h <;> rw [h] <;> simp; done) | (rcases hb0 with h | h | h <;> rw [h] <;> simp; done) | (simp; done) | omega), hg_M_6 1 i (by first | decide | (rcases hc0 with h | h <;> rw [h] <;> simp; done) | (rcases hb0 with h | h | h <;> rw [h] <;> simp; done) | (simp; done) | omega)]; exact hg_M_5 1 i (by first | decide | (rcases hc0 with h | h <;> rw [h] <;> simp; done) | (rcases hb0 with h | h | h <;> rw [h] <;> simp; done) | (simp; done) | omega))
              refine wp_ite (fun c106 => ?_) (fun c106 => ?_)
              · refine wp_lp2 (fun y5_115 y6_115 => (0 ≤ y6_115.toInt)) (fun y5_115 y6_115 => (40 - y6_115.toInt).toNat) (fun ag115 y5_115 y6_115 hI115 ih115 => ?_) FU (nI 0) (nI 0) (by have f0 := t_lit 0; omega) (fu_lt (by have f0 := t_lit 0; omega))
                have hi115 := hI115
                refine wp_ite (fun c119 => ?_) (fun c119 => ?_)
                · exact wp_some (fun a i q0 => ((hg_M_7 a i (fun h9 => q0 (Or.inr (Or.inr (Or.inr (h9)))))).trans ((hg_M_6 a i (fun z8 => q0 ((fun z9 => Or.elim z9 (fun h9 => Or.inr (Or.inl h9)) (fun h9 => Or.inr (Or.inr (Or.inl h9)))) z8))).trans ((hg_M_5 a i (fun z8 => q0 ((fun z9 => Or.elim z9 (fun h9 => Or.inl h9) (fun h9 => Or.inr (Or.inr (Or.inl h9)))) z8))).trans rfl))))
                · refine wp_bind2 (o_X10_isByBank M_7 y6_115 (nI 1) x_3 (by have f0 := t_lit 1; have f1 := congrArg Int32.toInt ex_3; omega)) (fun r_10 he127 hq127 => ?_)
                  obtain ⟨hz_r_10, hr_127⟩ := hq127
                  replace hr_127 : ¬ r_10.toInt = 0 → (M_7 1 (ix y6_115)).toInt = 1 := hr_127
                  have := t_lit 1
                  refine wp_ite (fun c130 => ?_) (fun c130 => ?_)
                  · exact ih115 y5_115 (y6_115 + (nI 1)) (by have f0 := t_lit 1; have f1 := t_add y6_115 (nI 1); omega) (by have f0 := t_lit 1; have f1 := t_add y6_115 (nI 1); omega)
                  · refine wp_gd (by omega) ?_
                    refine wp_ite (fun c144 => ?_) (fun c144 => ?_)
                    · refine wp_gd (by have f0 := congrArg Int32.toInt (hg_M_7 24 (ix y6_115) (by first | decide | (rcases hc0 with h | h <;> rw [h] <;> simp; done) | (rcases hb0 with h | h | h <;> rw [h] <;> simp; done) | (simp; done) | omega)); have f1 := t_lit 1; have f2 := t_sub r_4 (nI 1); omega) ?_
                      refine wp_bind2 (o_X10_min M_7 (nI 1000000000) (y5_115 + (M_7 26 (ix y6_115)))) (fun r_11 he160 hq160 => ?_)
                      have hr_160 := hq160
                      replace hr_160 : r_11.toInt = min (nI 1000000000).toInt (y5_115 + (M_7 26 (ix y6_115))).toInt := hr_160
                      have := t_lit 1000000000
                      exact ih115 r_11 (y6_115 + (nI 1)) (by have f0 := t_lit 1; have f1 := t_add y6_115 (nI 1); have f2 := congrArg Int32.toInt (hg_M_7 24 (ix y6_115) (by first | decide | (rcases hc0 with h | h <;> rw [h] <;> simp; done) | (rcases hb0 with h | h | h <;> rw [h] <;> simp; done) | (simp; done) | omega)); have f3 := t_sub r_4 (nI 1); omega) (by have f0 := t_lit 1; have f1 := t_add y6_115 (nI 1); have f2 := congrArg Int32.toInt (hg_M_7 24 (ix y6_115) (by first | decide | (rcases hc0 with h | h <;> rw [h] <;> simp; done) | (rcases hb0 with h | h | h <;> rw [h] <;> simp; done) | (simp; done) | omega)); have f3 := t_sub r_4 (nI 1); omega)
                    · exact ih115 y5_115 (y6_115 + (nI 1)) (by have f0 := t_lit 1; have f1 := t_add y6_115 (nI 1); have f2 := congrArg Int32.toInt (hg_M_7 24 (ix y6_115) (by first | decide | (rcases hc0 with h | h <;> rw [h] <;> simp; done) | (rcases hb0 with h | h | h <;> rw [h] <;> simp; done) | (simp; done) | omega)); have f3 := t_sub r_4 (nI 1); omega) (by have f0 := t_lit 1; have f1 := t_add y6_115 (nI 1); have f2 := congrArg Int32.toInt (hg_M_7 24 (ix y6_115) (by first | decide | (rcases hc0 with h | h <;> rw [h] <;> simp; done) | (rcases hb0 with h | h | h <;> rw [h] <;> simp; done) | (simp; done) | omega)); have f3 := t_sub r_4 (nI 1); omega)
              · refine wp_lp2 (fun y5_180 y6_180 => (0 ≤ y6_180.toInt ∧ (¬ y6_180.toInt = 0 → 0 ≤ y5_180.toInt ∧ y5_180.toInt < 40 ∧ (M_7 24 (ix y5_180)).toInt = r_4.toInt - y6_180.toInt))) (fun y5_180 y6_180 => (v2.toInt + 1 - y6_180.toInt).toNat) (fun ag180 y5_180 y6_180 hI180 ih180 => ?_) FU (-1) (nI 0) ⟨by decide, fun z => absurd nI0 z⟩ (fu_lt (by have f0 := t_lit 0; have f1 := (by decide : ((-1 : Int32)).toInt = -1); omega))
                have h180 := hI180
                refine wp_ite (fun c183 => ?_) (fun c183 => ?_)
                · exact wp_some (fun a i q0 => ((hg_M_7 a i (fun h9 => q0 (Or.inr (Or.inr (Or.inr (h9)))))).trans ((hg_M_6 a i (fun z8 => q0 ((fun z9 => Or.elim z9 (fun h9 => Or.inr (Or.inl h9)) (fun h9 => Or.inr (Or.inr (Or.inl h9)))) z8))).trans ((hg_M_5 a i (fun z8 => q0 ((fun z9 => Or.elim z9 (fun h9 => Or.inl h9) (fun h9 => Or.inr (Or.inr (Or.inl h9)))) z8))).trans rfl))))
                · have htg : ((r_4 - (nI 1)) - y6_180).toInt = r_4.toInt - 1 - y6_180.toInt := by (have f1 := t_sub (r_4 - (nI 1)) y6_180); omega
                  have hex : ∃ j0, j0 < 40 ∧ (M_7 24 j0).toInt = r_4.toInt - 1 - y6_180.toInt ∧ (y6_180.toInt = 0 → byB M (nI 1) x_3 j0) ∧ (¬ y6_180.toInt = 0 → cst M x_3 (ix y5_180) j0) := by
                    by_cases h0 : y6_180.toInt = 0
                    · obtain ⟨v, hv, hb, hs⟩ := hfst
                      exact ⟨v, hv, by rw [e24]; (have hs : (M_6 24 v).toInt = r_4.toInt - 1 := hs); omega, fun _ => hb, fun z => absurd h0 z⟩
                    · have hk := h180.2 h0
                      obtain ⟨v, hv, hs, hc⟩ := cross_next cst_sym hFa (i := ix y5_180) (by have := t_ixn y5_180 hk.1; omega) (by show 2 ≤ (M_6 24 (ix y5_180)).toInt; rw [← e24]; omega)
                      exact ⟨v, hv, by rw [e24]; (have hs : (M_6 24 v).toInt = (M_6 24 (ix y5_180)).toInt - 1 := hs); rw [← e24 (ix y5_180)] at hs; omega, fun z => absurd z h0, fun _ => hc⟩
                  obtain ⟨j0, hj0, hj1, hj2, hj3⟩ := hex
                  refine wp_lp1 (fun y7_189 => (0 ≤ y7_189.toInt ∧ y7_189.toInt ≤ (j0 : Int))) (fun y7_189 => (40 - y7_189.toInt).toNat) (fun ag189 y7_189 hI189 ih189 => ?_) FU (nI 0) (by have := t_lit 0; omega) (fu_lt (by have f0 := t_lit 0; omega))
                  have h189 := hI189
                  have fx7 := t_ixn y7_189 (by omega)
                  refine wp_gd (by omega) ?_
                  refine wp_ite (fun c203 => ?_) (fun c203 => ?_)
                  · refine wp_ite (fun c208 => ?_) (fun c208 => ?_)
                    · refine wp_bind2 (o_X10_isByBank M_7 y7_189 (nI 1) x_3 (by have f0 := t_lit 1; have f1 := congrArg Int32.toInt ex_3; have f2 := congrArg Int32.toInt (hg_M_7 24 (ix y7_189) (by first | decide | (rcases hc0 with h | h <;> rw [h] <;> simp; done) | (rcases hb0 with h | h | h <;> rw [h] <;> simp; done) | (simp; done) | omega)); have f3 := t_sub r_4 (nI 1); have f4 := t_sub (r_4 - (nI 1)) y6_180; omega)) (fun r_9 he216 hq216 => ?_)
                      obtain ⟨hz_r_9, hr_216⟩ := hq216
                      replace hr_216 : ¬ r_9.toInt = 0 → (M_7 1 (ix y7_189)).toInt = 1 := hr_216
                      have := t_lit 1
                      have hby : byB M (nI 1) x_3 (ix y7_189) ↔ ¬ r_9.toInt = 0 := byB_iff he216 e71 (by omega)
                      refine wp_ite (fun c219 => ?_) (fun c219 => ?_)
                      · exact ih189 (y7_189 + (nI 1)) (by have hne : ¬ ix y7_189 = j0 := (fun z => hby.mp (by rw [z]; exact hj2 c208) c219); rw [t_inc y7_189 1 (by omega)]; omega) (by rw [t_inc y7_189 1 (by omega)]; omega)
                      · exact ih180 y7_189 (y6_180 + (nI 1)) ⟨by rw [t_inc y6_180 1 (by omega)]; omega, fun _ => ⟨by omega, by omega, by rw [t_inc y6_180 1 (by omega)]; omega⟩⟩ (by rw [t_inc y6_180 1 (by omega)]; omega)
                    · have hk := h180.2 c208
                      refine wp_bind2 (o_X10_canStep M_7 y5_180 y7_189 x_3 (by have f0 := congrArg Int32.toInt ex_3; have f1 := congrArg Int32.toInt (hg_M_7 24 (ix y7_189) (by first | decide | (rcases hc0 with h | h <;> rw [h] <;> simp; done) | (rcases hb0 with h | h | h <;> rw [h] <;> simp; done) | (simp; done) | omega)); have f2 := t_lit 1; have f3 := t_sub r_4 (nI 1); have f4 := t_sub (r_4 - (nI 1)) y6_180; omega) (by have f0 := congrArg Int32.toInt ex_3; have f1 := congrArg Int32.toInt (hg_M_7 24 (ix y7_189) (by first | decide | (rcases hc0 with h | h <;> rw [h] <;> simp; done) | (rcases hb0 with h | h | h <;> rw [h] <;> simp; done) | (simp; done) | omega)); have f2 := t_lit 1; have f3 := t_sub r_4 (nI 1); have f4 := t_sub (r_4 - (nI 1)) y6_180; omega)) (fun r_8 he231 hq231 => ?_)
                      obtain ⟨hz_r_8, hr_231⟩ := hq231
                      replace hr_231 : ¬ r_8.toInt = 0 → (M_7 1 (ix y5_180)).toInt = 1 ∧ (M_7 1 (ix y7_189)).toInt = 1 := hr_231
                      have hcs : cst M x_3 (ix y5_180) (ix y7_189) ↔ ¬ r_8.toInt = 0 := cst_iff he231 e71 (by omega) (by omega)
                      refine wp_ite (fun c234 => ?_) (fun c234 => ?_)
                      · exact ih189 (y7_189 + (nI 1)) (by have hne : ¬ ix y7_189 = j0 := (fun z => hcs.mp (by rw [z]; exact hj3 c208) c234); rw [t_inc y7_189 1 (by omega)]; omega) (by rw [t_inc y7_189 1 (by omega)]; omega)
                      · exact ih180 y7_189 (y6_180 + (nI 1)) ⟨by rw [t_inc y6_180 1 (by omega)]; omega, fun _ => ⟨by omega, by omega, by rw [t_inc y6_180 1 (by omega)]; omega⟩⟩ (by rw [t_inc y6_180 1 (by omega)]; omega)
                  · exact ih189 (y7_189 + (nI 1)) (by have hne : ¬ ix y7_189 = j0 := (fun z => by rw [← z] at hj1; omega); rw [t_inc y7_189 1 (by omega)]; omega) (by rw [t_inc y7_189 1 (by omega)]; omega)
          refine wp_ite (fun c66 => ?_) (fun c66 => ?_)
          · exact j80 (by omega)
          · refine wp_ite (fun c74 => ?_) (fun c74 => ?_)
            · exact j80 (by omega)
            · exact wp_some (fun a i q0 => ((hg_M_5 a i (fun z8 => q0 ((fun z9 => Or.elim z9 (fun h9 => Or.inl h9) (fun h9 => Or.inr (Or.inr (Or.inl h9)))) z8))).trans rfl))
    refine wp_ite (fun c15 => ?_) (fun c15 => ?_)
    · refine wp_bind2 (o_X10_in M v2 (nI 100) (nI 101)) (fun r_12 he23 hq23 => ?_)
      obtain ⟨hz_r_12, hr_23⟩ := hq23
      replace hr_23 : ¬ r_12.toInt = 0 → (nI 100).toInt ≤ v2.toInt ∧ v2.toInt ≤ (nI 101).toInt := hr_23
      have := t_lit 100
      have := t_lit 101
      have fl100 := t_lit 100
      have fl101 := t_lit 101
      refine wp_ite (fun c26 => ?_) (fun c26 => ?_)
      · exact wp_some (fun _ _ _ => rfl)
      · exact j31 (by omega)
    · exact j31 (by omega)
theorem o_X10_howFar (M : Mem) (v1 : Int32) : Wp (f_X10_howFar M v1) (fun q => (∀ a i, ¬ (a = 23 ∨ a = 25) → q.2 a i = M a i)) := by
  refine wp_bind2 (o_X10_isPerson M v1) (fun r_1 he2 hq2 => ?_)
  obtain ⟨hz_r_1, hr_2⟩ := hq2
  replace hr_2 : ¬ r_1.toInt = 0 → 0 ≤ v1.toInt ∧ v1.toInt < 8 := hr_2
  refine wp_ite (fun c5 => ?_) (fun c5 => ?_)
  · exact wp_some (fun _ _ _ => rfl)
  · refine wp_gd (by omega) ?_
    refine wp_cb2 (o_X10_crossing M (M 4 (ix v1))) (fun r_2 M_3 he17 hq17 => ?_)
    obtain ⟨hg_M_3, hE_17⟩ := hq17
    replace hE_17 : (21 ≤ (M 4 (ix v1)).toInt → r_2.toInt = 1) ∧ ((M 4 (ix v1)).toInt < 21 → Bend 40 (byB M (nI 1) (M 4 (ix v1))) (cst M (M 4 (ix v1))) (fun j => (M_3 23 j).toInt) ∧ Best (fun i => ¬ (M_3 23 i).toInt = -1 ∧ byB M (nI 0) (M 4 (ix v1)) i) (fun i => (M_3 23 i).toInt) r_2.toInt 40) := hE_17
    replace hg_M_3 : ∀ a i, ¬ (a = 23 ∨ a = 25) → M_3 a i = M a i := hg_M_3
    refine wp_ite (fun c21 => ?_) (fun c21 => ?_)
    · refine wp_lp2 (fun y2_31 y3_31 => (0 ≤ y3_31.toInt)) (fun y2_31 y3_31 => (40 - y3_31.toInt).toNat) (fun ag31 y2_31 y3_31 hI31 ih31 => ?_) FU (nI 0) (nI 0) (by have f0 := t_lit 0; omega) (fu_lt (by have f0 := t_lit 0; omega))
      have hi31 := hI31
      refine wp_ite (fun c34 => ?_) (fun c34 => ?_)
      · exact wp_some (fun a i q0 => ((hg_M_3 a i (fun z8 => q0 ((fun z9 => Or.elim z9 (fun h9 => Or.inl h9) (fun h9 => Or.inr (h9))) z8))).trans rfl))
      · refine wp_gd (by omega) ?_
        refine wp_ite (fun c44 => ?_) (fun c44 => ?_)
        · exact ih31 y2_31 (y3_31 + (nI 1)) (by have f0 := t_lit 1; have f1 := t_add y3_31 (nI 1); omega) (by have f0 := t_lit 1; have f1 := t_add y3_31 (nI 1); omega)
        · refine wp_gd (by have f0 := t_lit 80; have f1 := t_add (nI 80) y3_31; omega) ?_
          refine wp_bind2 (o_X10_max M_3 y2_31 (M_3 1 (ix ((nI 80) + y3_31)))) (fun r_4 he57 hq57 => ?_)
          have hr_57 := hq57
          replace hr_57 : r_4.toInt = max y2_31.toInt (M_3 1 (ix ((nI 80) + y3_31))).toInt := hr_57
          exact ih31 r_4 (y3_31 + (nI 1)) (by have f0 := t_lit 1; have f1 := t_add y3_31 (nI 1); omega) (by have f0 := t_lit 1; have f1 := t_add y3_31 (nI 1); omega)
    · exact wp_some (fun a i q0 => ((hg_M_3 a i (fun z8 => q0 ((fun z9 => Or.elim z9 (fun h9 => Or.inl h9) (fun h9 => Or.inr (h9))) z8))).trans rfl))
theorem o_X10_leastStride (M : Mem) : Wp (f_X10_leastStride M) (fun q => (∀ a i, ¬ (a = 23 ∨ a = 25) → q.2 a i = M a i)) := by
  refine wp_lp2 (fun M2 y1_2 => (1 ≤ y1_2.toInt) ∧ (∀ a i, ¬ (a = 23 ∨ a = 25) → M2 a i = M a i)) (fun M2 y1_2 => (30 + 1 - y1_2.toInt).toNat) (fun ag2 M2 y1_2 hI2 ih2 => ?_) FU M (nI 1) ⟨(by have f0 := t_lit 1; omega), (fun _ _ _ => rfl)⟩ (fu_lt (by have f0 := t_lit 1; omega))
  obtain ⟨hi2, hf_M2⟩ := hI2
  refine wp_ite (fun c5 => ?_) (fun c5 => ?_)
  · exact wp_some (fun a i q0 => ((hf_M2 a i (fun z8 => q0 ((fun z9 => Or.elim z9 (fun h9 => Or.inl h9) (fun h9 => Or.inr (h9))) z8))).trans rfl))
  · refine wp_cb2 (o_X10_crossing M2 y1_2) (fun r_1 M_2 he10 hq10 => ?_)
    obtain ⟨hg_M_2, hE_10⟩ := hq10
    replace hE_10 : (21 ≤ y1_2.toInt → r_1.toInt = 1) ∧ (y1_2.toInt < 21 → Bend 40 (byB M2 (nI 1) y1_2) (cst M2 y1_2) (fun j => (M_2 23 j).toInt) ∧ Best (fun i => ¬ (M_2 23 i).toInt = -1 ∧ byB M2 (nI 0) y1_2 i) (fun i => (M_2 23 i).toInt) r_1.toInt 40) := hE_10
    replace hg_M_2 : ∀ a i, ¬ (a = 23 ∨ a = 25) → M_2 a i = M2 a i := hg_M_2
    refine wp_ite (fun c14 => ?_) (fun c14 => ?_)
    · exact ih2 M_2 (y1_2 + (nI 1)) ⟨(by have f0 := t_lit 1; have f1 := t_add y1_2 (nI 1); omega), (fun a i q0 => ((hg_M_2 a i (fun z8 => q0 ((fun z9 => Or.elim z9 (fun h9 => Or.inl h9) (fun h9 => Or.inr (h9))) z8))).trans ((hf_M2 a i (fun z8 => q0 ((fun z9 => Or.elim z9 (fun h9 => Or.inl h9) (fun h9 => Or.inr (h9))) z8))).trans rfl)))⟩ (by have f0 := t_lit 1; have f1 := t_add y1_2 (nI 1); omega)
    · exact wp_some (fun a i q0 => ((hg_M_2 a i (fun z8 => q0 ((fun z9 => Or.elim z9 (fun h9 => Or.inl h9) (fun h9 => Or.inr (h9))) z8))).trans ((hf_M2 a i (fun z8 => q0 ((fun z9 => Or.elim z9 (fun h9 => Or.inl h9) (fun h9 => Or.inr (h9))) z8))).trans rfl)))
theorem o_X10_market (M : Mem) : Wp (f_X10_market M) (fun q => (∀ a i, ¬ (a = 23 ∨ a = 25) → q.2 a i = M a i)) := by
  refine wp_lp3 (fun M4 y1_4 y2_4 => (0 ≤ y2_4.toInt) ∧ (∀ a i, ¬ (a = 23 ∨ a = 25) → M4 a i = M a i)) (fun M4 y1_4 y2_4 => (8 - y2_4.toInt).toNat) (fun ag4 M4 y1_4 y2_4 hI4 ih4 => ?_) FU M (nI 0) (nI 0) ⟨(by have f0 := t_lit 0; omega), (fun _ _ _ => rfl)⟩ (fu_lt (by have f0 := t_lit 0; omega))
  obtain ⟨hi4, hf_M4⟩ := hI4
  refine wp_ite (fun c7 => ?_) (fun c7 => ?_)
  · exact wp_some (fun a i q0 => ((hf_M4 a i (fun z8 => q0 ((fun z9 => Or.elim z9 (fun h9 => Or.inl h9) (fun h9 => Or.inr (h9))) z8))).trans rfl))
  · refine wp_bind2 (o_X10_isPerson M4 y2_4) (fun r_1 he12 hq12 => ?_)
    obtain ⟨hz_r_1, hr_12⟩ := hq12
    replace hr_12 : ¬ r_1.toInt = 0 → 0 ≤ y2_4.toInt ∧ y2_4.toInt < 8 := hr_12
    refine wp_ite (fun c15 => ?_) (fun c15 => ?_)
    · exact ih4 M4 y1_4 (y2_4 + (nI 1)) ⟨(by have f0 := t_lit 1; have f1 := t_add y2_4 (nI 1); omega), (fun a i q0 => ((hf_M4 a i (fun z8 => q0 ((fun z9 => Or.elim z9 (fun h9 => Or.inl h9) (fun h9 => Or.inr (h9))) z8))).trans rfl))⟩ (by have f0 := t_lit 1; have f1 := t_add y2_4 (nI 1); omega)
    · refine wp_gd (by omega) ?_
      refine wp_cb2 (o_X10_crossing M4 (M4 4 (ix y2_4))) (fun r_2 M_3 he25 hq25 => ?_)
      obtain ⟨hg_M_3, hE_25⟩ := hq25
      replace hE_25 : (21 ≤ (M4 4 (ix y2_4)).toInt → r_2.toInt = 1) ∧ ((M4 4 (ix y2_4)).toInt < 21 → Bend 40 (byB M4 (nI 1) (M4 4 (ix y2_4))) (cst M4 (M4 4 (ix y2_4))) (fun j => (M_3 23 j).toInt) ∧ Best (fun i => ¬ (M_3 23 i).toInt = -1 ∧ byB M4 (nI 0) (M4 4 (ix y2_4)) i) (fun i => (M_3 23 i).toInt) r_2.toInt 40) := hE_25
      replace hg_M_3 : ∀ a i, ¬ (a = 23 ∨ a = 25) → M_3 a i = M4 a i := hg_M_3
      refine wp_ite (fun c29 => ?_) (fun c29 => ?_)
      · exact ih4 M_3 y1_4 (y2_4 + (nI 1)) ⟨(by have f0 := t_lit 1; have f1 := t_add y2_4 (nI 1); omega), (fun a i q0 => ((hg_M_3 a i (fun z8 => q0 ((fun z9 => Or.elim z9 (fun h9 => Or.inl h9) (fun h9 => Or.inr (h9))) z8))).trans ((hf_M4 a i (fun z8 => q0 ((fun z9 => Or.elim z9 (fun h9 => Or.inl h9) (fun h9 => Or.inr (h9))) z8))).trans rfl)))⟩ (by have f0 := t_lit 1; have f1 := t_add y2_4 (nI 1); omega)
      · refine wp_bnd (fun x_4 ex_4 => ?_)
        exact ih4 M_3 x_4 (y2_4 + (nI 1)) ⟨(by have f0 := t_lit 1; have f1 := t_add y2_4 (nI 1); omega), (fun a i q0 => ((hg_M_3 a i (fun z8 => q0 ((fun z9 => Or.elim z9 (fun h9 => Or.inl h9) (fun h9 => Or.inr (h9))) z8))).trans ((hf_M4 a i (fun z8 => q0 ((fun z9 => Or.elim z9 (fun h9 => Or.inl h9) (fun h9 => Or.inr (h9))) z8))).trans rfl)))⟩ (by have f0 := t_lit 1; have f1 := t_add y2_4 (nI 1); omega)
theorem o_X10_meet (M : Mem) (v1 : Int32) (v2 : Int32) (v3 : Int32) : Wp (f_X10_meet M v1 v2 v3) (fun q => (∀ a i, ¬ (a = 23 ∨ a = 24 ∨ a = 25) → q.2 a i = M a i)) := by
  refine wp_bind2 (o_X10_isPerson M v1) (fun r_1 he2 hq2 => ?_)
  obtain ⟨hz_r_1, hr_2⟩ := hq2
  replace hr_2 : ¬ r_1.toInt = 0 → 0 ≤ v1.toInt ∧ v1.toInt < 8 := hr_2
  refine wp_ite (fun c5 => ?_) (fun c5 => ?_)
  · exact wp_some (fun _ _ _ => rfl)
  · refine wp_bind2 (o_X10_isPerson M v2) (fun r_2 he10 hq10 => ?_)
    obtain ⟨hz_r_2, hr_10⟩ := hq10
    replace hr_10 : ¬ r_2.toInt = 0 → 0 ≤ v2.toInt ∧ v2.toInt < 8 := hr_10
    refine wp_ite (fun c13 => ?_) (fun c13 => ?_)
    · exact wp_some (fun _ _ _ => rfl)
    · refine wp_bind2 (o_X10_in M v3 (nI 0) (nI 1)) (fun r_3 he19 hq19 => ?_)
      obtain ⟨hz_r_3, hr_19⟩ := hq19
      replace hr_19 : ¬ r_3.toInt = 0 → (nI 0).toInt ≤ v3.toInt ∧ v3.toInt ≤ (nI 1).toInt := hr_19
      have := t_lit 0
      have := t_lit 1
      refine wp_ite (fun c22 => ?_) (fun c22 => ?_)
      · exact wp_some (fun _ _ _ => rfl)
      · refine wp_gd (by omega) ?_
        refine wp_bind2 (o_X10_laysSteps (by decide) M (nI 1) (M 4 (ix v1)) (by omega) (by omega)) (fun M_4 he39 hq39 => ?_)
        obtain ⟨hg_M_4, hE_39⟩ := hq39
        replace hE_39 : Bend 40 (byB M (nI 1) (M 4 (ix v1))) (cst M (M 4 (ix v1))) (fun j => (M_4 23 j).toInt) := hE_39
        have := t_lit 1
        replace hg_M_4 : ∀ a i, ¬ (a = 23 ∨ a = 25) → M_4 a i = M a i := by exact fun a i q0 => hg_M_4 a i (by first | decide | (rcases hc0 with h | h <;> rw [h] <;> simp; done) | (rcases hb0 with h | h | h <;> rw [h] <;> simp; done) | (simp; done) | omega)
        refine wp_gd (by omega) ?_
        refine wp_bind2 (o_X10_laysSteps (by decide) M_4 (nI 0) (M_4 4 (ix v2)) (by omega) (by omega)) (fun M_5 he54 hq54 => ?_)
        obtain ⟨hg_M_5, hE_54⟩ := hq54
        replace hE_54 : Bend 40 (byB M_4 (nI 0) (M_4 4 (ix v2))) (cst M_4 (M_4 4 (ix v2))) (fun j => (M_5 24 j).toInt) := hE_54
        have := t_lit 0
        replace hg_M_5 : ∀ a i, ¬ (a = 24 ∨ a = 25) → M_5 a i = M_4 a i := by exact fun a i q0 => hg_M_5 a i (by first | decide | (rcases hc0 with h | h <;> rw [h] <;> simp; done) | (rcases hb0 with h | h | h <;> rw [h] <;> simp; done) | (simp; done) | omega)
        refine wp_lp3 (fun y4_68 y5_68 y6_68 => (0 ≤ y6_68.toInt)) (fun y4_68 y5_68 y6_68 => (40 - y6_68.toInt).toNat) (fun ag68 y4_68 y5_68 y6_68 hI68 ih68 => ?_) FU (-2) (-2) (nI 0) (by have f0 := t_lit 0; omega) (fu_lt (by have f0 := t_lit 0; omega))
        have hi68 := hI68
        have j150 : Wp (f_X10_meet_L150 v3 M_5 y4_68 y5_68) (fun q => (∀ a i, ¬ (a = 23 ∨ a = 24 ∨ a = 25) → q.2 a i = M a i)) := by
          unfold f_X10_meet_L150
          refine wp_ite (fun c151 => ?_) (fun c151 => ?_)
          · exact wp_some (fun a i q0 => ((hg_M_5 a i (fun z8 => q0 ((fun z9 => Or.elim z9 (fun h9 => Or.inr (Or.inl h9)) (fun h9 => Or.inr (Or.inr (h9)))) z8))).trans ((hg_M_4 a i (fun z8 => q0 ((fun z9 => Or.elim z9 (fun h9 => Or.inl h9) (fun h9 => Or.inr (Or.inr (h9)))) z8))).trans rfl)))
          · exact wp_some (fun a i q0 => ((hg_M_5 a i (fun z8 => q0 ((fun z9 => Or.elim z9 (fun h9 => Or.inr (Or.inl h9)) (fun h9 => Or.inr (Or.inr (h9)))) z8))).trans ((hg_M_4 a i (fun z8 => q0 ((fun z9 => Or.elim z9 (fun h9 => Or.inl h9) (fun h9 => Or.inr (Or.inr (h9)))) z8))).trans rfl)))
        refine wp_ite (fun c72 => ?_) (fun c72 => ?_)
        · exact j150
        · refine wp_gd (by omega) ?_
          refine wp_ite (fun c83 => ?_) (fun c83 => ?_)
          · exact ih68 y4_68 y5_68 (y6_68 + (nI 1)) (by have f0 := t_lit 1; have f1 := t_add y6_68 (nI 1); have f2 := congrArg Int32.toInt (hg_M_5 23 (ix y6_68) (by first | decide | (rcases hc0 with h | h <;> rw [h] <;> simp; done) | (rcases hb0 with h | h | h <;> rw [h] <;> simp; done) | (simp; done) | omega)); omega) (by have f0 := t_lit 1; have f1 := t_add y6_68 (nI 1); have f2 := congrArg Int32.toInt (hg_M_5 23 (ix y6_68) (by first | decide | (rcases hc0 with h | h <;> rw [h] <;> simp; done) | (rcases hb0 with h | h | h <;> rw [h] <;> simp; done) | (simp; done) | omega)); omega)
          · refine wp_gd (by have f0 := congrArg Int32.toInt (hg_M_5 23 (ix y6_68) (by first | decide | (rcases hc0 with h | h <;> rw [h] <;> simp; done) | (rcases hb0 with h | h | h <;> rw [h] <;> simp; done) | (simp; done) | omega)); omega) ?_
            refine wp_ite (fun c94 => ?_) (fun c94 => ?_)
            · exact ih68 y4_68 y5_68 (y6_68 + (nI 1)) (by have f0 := t_lit 1; have f1 := t_add y6_68 (nI 1); have f2 := congrArg Int32.toInt (hg_M_5 23 (ix y6_68) (by first | decide | (rcases hc0 with h | h <;> rw [h] <;> simp; done) | (rcases hb0 with h | h | h <;> rw [h] <;> simp; done) | (simp; done) | omega)); omega) (by have f0 := t_lit 1; have f1 := t_add y6_68 (nI 1); have f2 := congrArg Int32.toInt (hg_M_5 23 (ix y6_68) (by first | decide | (rcases hc0 with h | h <;> rw [h] <;> simp; done) | (rcases hb0 with h | h | h <;> rw [h] <;> simp; done) | (simp; done) | omega)); omega)
            · refine wp_gd (by have f0 := congrArg Int32.toInt (hg_M_5 23 (ix y6_68) (by first | decide | (rcases hc0 with h | h <;> rw [h] <;> simp; done) | (rcases hb0 with h | h | h <;> rw [h] <;> simp; done) | (simp; done) | omega)); omega) ?_
              refine wp_gd (by have f0 := congrArg Int32.toInt (hg_M_5 23 (ix y6_68) (by first | decide | (rcases hc0 with h | h <;> rw [h] <;> simp; done) | (rcases hb0 with h | h | h <;> rw [h] <;> simp; done) | (simp; done) | omega)); omega) ?_
              refine wp_bind2 (o_X10_max M_5 (M_5 23 (ix y6_68)) (M_5 24 (ix y6_68))) (fun r_6 he114 hq114 => ?_)
              have hr_114 := hq114
              replace hr_114 : r_6.toInt = max (M_5 23 (ix y6_68)).toInt (M_5 24 (ix y6_68)).toInt := hr_114
              refine wp_ite (fun c123 => ?_) (fun c123 => ?_)
              · exact ih68 y6_68 r_6 (y6_68 + (nI 1)) (by have f0 := t_lit 1; have f1 := t_add y6_68 (nI 1); have f2 := congrArg Int32.toInt (hg_M_5 23 (ix y6_68) (by first | decide | (rcases hc0 with h | h <;> rw [h] <;> simp; done) | (rcases hb0 with h | h | h <;> rw [h] <;> simp; done) | (simp; done) | omega)); omega) (by have f0 := t_lit 1; have f1 := t_add y6_68 (nI 1); have f2 := congrArg Int32.toInt (hg_M_5 23 (ix y6_68) (by first | decide | (rcases hc0 with h | h <;> rw [h] <;> simp; done) | (rcases hb0 with h | h | h <;> rw [h] <;> simp; done) | (simp; done) | omega)); omega)
              · refine wp_ite (fun c130 => ?_) (fun c130 => ?_)
                · exact ih68 y6_68 r_6 (y6_68 + (nI 1)) (by have f0 := t_lit 1; have f1 := t_add y6_68 (nI 1); have f2 := congrArg Int32.toInt (hg_M_5 23 (ix y6_68) (by first | decide | (rcases hc0 with h | h <;> rw [h] <;> simp; done) | (rcases hb0 with h | h | h <;> rw [h] <;> simp; done) | (simp; done) | omega)); omega) (by have f0 := t_lit 1; have f1 := t_add y6_68 (nI 1); have f2 := congrArg Int32.toInt (hg_M_5 23 (ix y6_68) (by first | decide | (rcases hc0 with h | h <;> rw [h] <;> simp; done) | (rcases hb0 with h | h | h <;> rw [h] <;> simp; done) | (simp; done) | omega)); omega)
                · exact ih68 y4_68 y5_68 (y6_68 + (nI 1)) (by have f0 := t_lit 1; have f1 := t_add y6_68 (nI 1); have f2 := congrArg Int32.toInt (hg_M_5 23 (ix y6_68) (by first | decide | (rcases hc0 with h | h <;> rw [h] <;> simp; done) | (rcases hb0 with h | h | h <;> rw [h] <;> simp; done) | (simp; done) | omega)); omega) (by have f0 := t_lit 1; have f1 := t_add y6_68 (nI 1); have f2 := congrArg Int32.toInt (hg_M_5 23 (ix y6_68) (by first | decide | (rcases hc0 with h | h <;> rw [h] <;> simp; done) | (rcases hb0 with h | h | h <;> rw [h] <;> simp; done) | (simp; done) | omega)); omega)
theorem o_X10_oneMore (M : Mem) (v1 : Int32) (v2 : Int32) : Wp (f_X10_oneMore M v1 v2) (fun q => (∀ a i, ¬ (a = 23 ∨ a = 24 ∨ a = 25) → q.2 a i = M a i)) := by
  refine wp_bind2 (o_X10_isPerson M v1) (fun r_1 he2 hq2 => ?_)
  obtain ⟨hz_r_1, hr_2⟩ := hq2
  replace hr_2 : ¬ r_1.toInt = 0 → 0 ≤ v1.toInt ∧ v1.toInt < 8 := hr_2
  refine wp_ite (fun c5 => ?_) (fun c5 => ?_)
  · exact wp_some (fun _ _ _ => rfl)
  · refine wp_bind2 (o_X10_in M v2 (nI 0) (nI 1)) (fun r_2 he11 hq11 => ?_)
    obtain ⟨hz_r_2, hr_11⟩ := hq11
    replace hr_11 : ¬ r_2.toInt = 0 → (nI 0).toInt ≤ v2.toInt ∧ v2.toInt ≤ (nI 1).toInt := hr_11
    have := t_lit 0
    have := t_lit 1
    refine wp_ite (fun c14 => ?_) (fun c14 => ?_)
    · exact wp_some (fun _ _ _ => rfl)
    · refine wp_gd (by omega) ?_
      refine wp_bnd (fun x_3 ex_3 => ?_)
      refine wp_cb2 (o_X10_crossing M x_3) (fun r_4 M_5 he28 hq28 => ?_)
      obtain ⟨hg_M_5, hE_28⟩ := hq28
      replace hE_28 : (21 ≤ x_3.toInt → r_4.toInt = 1) ∧ (x_3.toInt < 21 → Bend 40 (byB M (nI 1) x_3) (cst M x_3) (fun j => (M_5 23 j).toInt) ∧ Best (fun i => ¬ (M_5 23 i).toInt = -1 ∧ byB M (nI 0) x_3 i) (fun i => (M_5 23 i).toInt) r_4.toInt 40) := hE_28
      replace hg_M_5 : ∀ a i, ¬ (a = 23 ∨ a = 25) → M_5 a i = M a i := hg_M_5
      refine wp_ite (fun c32 => ?_) (fun c32 => ?_)
      · refine wp_bind2 (o_X10_laysSteps (by decide) M_5 (nI 0) x_3 (by omega) (by omega)) (fun M_6 he45 hq45 => ?_)
        obtain ⟨hg_M_6, hE_45⟩ := hq45
        replace hE_45 : Bend 40 (byB M_5 (nI 0) x_3) (cst M_5 x_3) (fun j => (M_6 24 j).toInt) := hE_45
        have := t_lit 0
        replace hg_M_6 : ∀ a i, ¬ (a = 24 ∨ a = 25) → M_6 a i = M_5 a i := by exact fun a i q0 => hg_M_6 a i (by first | decide | (rcases hc0 with h | h <;> rw [h] <;> simp; done) | (rcases hb0 with h | h | h <;> rw [h] <;> simp; done) | (simp; done) | omega)
        refine wp_lp1 (fun y4_51 => (1 ≤ y4_51.toInt)) (fun y4_51 => (20 + 1 - y4_51.toInt).toNat) (fun ag51 y4_51 hI51 ih51 => ?_) FU (nI 1) (by have f0 := t_lit 1; omega) (fu_lt (by have f0 := t_lit 1; omega))
        have hi51 := hI51
        refine wp_ite (fun c55 => ?_) (fun c55 => ?_)
        · exact wp_some (fun a i q0 => ((hg_M_6 a i (fun z8 => q0 ((fun z9 => Or.elim z9 (fun h9 => Or.inr (Or.inl h9)) (fun h9 => Or.inr (Or.inr (h9)))) z8))).trans ((hg_M_5 a i (fun z8 => q0 ((fun z9 => Or.elim z9 (fun h9 => Or.inl h9) (fun h9 => Or.inr (Or.inr (h9)))) z8))).trans rfl)))
        · refine wp_lp1 (fun y5_61 => (0 ≤ y5_61.toInt)) (fun y5_61 => (40 - y5_61.toInt).toNat) (fun ag61 y5_61 hI61 ih61 => ?_) FU (nI 0) (by have f0 := t_lit 0; omega) (fu_lt (by have f0 := t_lit 0; omega))
          have hi61 := hI61
          refine wp_ite (fun c65 => ?_) (fun c65 => ?_)
          · exact ih51 (y4_51 + (nI 1)) (by have f0 := t_lit 1; have f1 := t_add y4_51 (nI 1); omega) (by have f0 := t_lit 1; have f1 := t_add y4_51 (nI 1); omega)
          · refine wp_bind2 (o_X10_stoneAt M_6 y5_61 y4_51) (fun r_7 he73 hq73 => ?_)
            have hr_73 := hq73
            replace hr_73 : r_7.toInt = -1 ∨ ((0 ≤ r_7.toInt ∧ r_7.toInt < 40) ∧ (M_6 1 (ix r_7)).toInt = 1 ∧ (M_6 1 (ix (nI 40 + r_7))).toInt = y5_61.toInt ∧ (M_6 1 (ix (nI 80 + r_7))).toInt = y4_51.toInt) := hr_73
            refine wp_ite (fun c77 => ?_) (fun c77 => ?_)
            · refine wp_bind2 (o_X10_wouldDo M_6 y5_61 y4_51 x_3) (fun r_8 he86 hq86 => ?_)
              have hz_r_8 := hq86
              have j92 : Wp (f_X10_oneMore_L92 v2 M_6 y4_51 y5_61) (fun q => (∀ a i, ¬ (a = 23 ∨ a = 24 ∨ a = 25) → q.2 a i = M a i)) := by
                unfold f_X10_oneMore_L92
                refine wp_ite (fun c93 => ?_) (fun c93 => ?_)
                · exact wp_some (fun a i q0 => ((hg_M_6 a i (fun z8 => q0 ((fun z9 => Or.elim z9 (fun h9 => Or.inr (Or.inl h9)) (fun h9 => Or.inr (Or.inr (h9)))) z8))).trans ((hg_M_5 a i (fun z8 => q0 ((fun z9 => Or.elim z9 (fun h9 => Or.inl h9) (fun h9 => Or.inr (Or.inr (h9)))) z8))).trans rfl)))
                · exact wp_some (fun a i q0 => ((hg_M_6 a i (fun z8 => q0 ((fun z9 => Or.elim z9 (fun h9 => Or.inr (Or.inl h9)) (fun h9 => Or.inr (Or.inr (h9)))) z8))).trans ((hg_M_5 a i (fun z8 => q0 ((fun z9 => Or.elim z9 (fun h9 => Or.inl h9) (fun h9 => Or.inr (Or.inr (h9)))) z8))).trans rfl)))
              refine wp_ite (fun c89 => ?_) (fun c89 => ?_)
              · exact ih61 (y5_61 + (nI 1)) (by have f0 := t_lit 1; have f1 := t_add y5_61 (nI 1); omega) (by have f0 := t_lit 1; have f1 := t_add y5_61 (nI 1); omega)
              · exact j92
            · exact ih61 (y5_61 + (nI 1)) (by have f0 := t_lit 1; have f1 := t_add y5_61 (nI 1); omega) (by have f0 := t_lit 1; have f1 := t_add y5_61 (nI 1); omega)
      · exact wp_some (fun a i q0 => ((hg_M_5 a i (fun z8 => q0 ((fun z9 => Or.elim z9 (fun h9 => Or.inl h9) (fun h9 => Or.inr (Or.inr (h9)))) z8))).trans rfl))
