/-! one ford, one law: class and reference -/
def FF (MC MM : Mem) : Prop := (FdC MC 1 = FdR MM 1 ∧ GdF (FdR MM 1)) ∧ (MC 0 12 = MM 0 54 ∧ (¬ (MC 0 12).toInt = 0 → FdC MC 7 = FdR MM 3 ∧ GdF (FdR MM 3))) ∧ (¬ (MC 0 10).toInt = (MC 0 11).toInt) ∧ ∃ (R : Nat) (F : Nat → Int × Int) (tb : Tbl), (∀ c : Nat, (MC 0 10).toInt = (c : Int) → LwC MC c R F tb ∧ N5P MC c F) ∧ LwR MM R F tb ∧ LwQ R F tb
theorem ff_law {MC MM MC1 MM1 : Mem} (hi : (MC 0 10).toInt = 44 ∨ (MC 0 10).toInt = 52) (h : ∃ (R : Nat) (F : Nat → Int × Int) (tb : Tbl), (∀ c : Nat, (MC 0 10).toInt = (c : Int) → LwC MC c R F tb ∧ N5P MC c F) ∧ LwR MM R F tb ∧ LwQ R F tb) (l10 : MC1 0 10 = MC 0 10) (lc : ∀ c a i : Nat, (c = 44 ∨ c = 52) → ((a = c ∧ (i = 7 ∨ i = 8 ∨ i = 9)) ∨ a = c + 1 ∨ a = c + 2 ∨ a = c + 4 ∨ a = c + 5 ∨ a = c + 6 ∨ a = c + 7) → MC1 a i = MC a i) (lr : ∀ a i : Nat, (a = 0 ∧ i = 15) ∨ a = 12 ∨ a = 13 ∨ a = 14 ∨ a = 15 ∨ a = 16 → MM1 a i = MM a i) : ∃ (R : Nat) (F : Nat → Int × Int) (tb : Tbl), (∀ c : Nat, (MC1 0 10).toInt = (c : Int) → LwC MC1 c R F tb ∧ N5P MC1 c F) ∧ LwR MM1 R F tb ∧ LwQ R F tb := by
  obtain ⟨R, F, tb, h1, h2, h3⟩ := h
  refine ⟨R, F, tb, fun c hc => ?_, lwr_fr h2 lr, h3⟩
  rw [l10] at hc
  have hcc : c = 44 ∨ c = 52 := by omega
  obtain ⟨g1, g2⟩ := h1 c hc
  exact ⟨lwc_fr g1 (fun a i q => lc c a i hcc (by omega)), n5_fr g2 (lc c c 9 hcc (by omega)) (lc c c 7 hcc (by omega))⟩
theorem ff_mk {MC MM MC1 MM1 : Mem} (h : FF MC MM) (hi : (MC 0 10).toInt = 44 ∨ (MC 0 10).toInt = 52) (f1 : FdC MC1 1 = FdR MM1 1 ∧ GdF (FdR MM1 1)) (e7 : FdC MC1 7 = FdC MC 7) (e3 : FdR MM1 3 = FdR MM 3) (k : MC1 0 12 = MC 0 12) (k2 : MM1 0 54 = MM 0 54) (l10 : MC1 0 10 = MC 0 10) (l11 : MC1 0 11 = MC 0 11) (lc : ∀ c a i : Nat, (c = 44 ∨ c = 52) → ((a = c ∧ (i = 7 ∨ i = 8 ∨ i = 9)) ∨ a = c + 1 ∨ a = c + 2 ∨ a = c + 4 ∨ a = c + 5 ∨ a = c + 6 ∨ a = c + 7) → MC1 a i = MC a i) (lr : ∀ a i : Nat, (a = 0 ∧ i = 15) ∨ a = 12 ∨ a = 13 ∨ a = 14 ∨ a = 15 ∨ a = 16 → MM1 a i = MM a i) : FF MC1 MM1 := by
  refine ⟨f1, ⟨by rw [k, k2]; exact h.2.1.1, fun z => ?_⟩, by rw [l10, l11]; exact h.2.2.1, ff_law hi h.2.2.2 l10 lc lr⟩
  rw [k] at z
  rw [e7, e3]
  exact h.2.1.2 z
theorem ff_fr {MC MM MC1 MM1 : Mem} (h : FF MC MM) (hi : (MC 0 10).toInt = 44 ∨ (MC 0 10).toInt = 52) (e1 : FdC MC1 1 = FdC MC 1) (e2 : FdR MM1 1 = FdR MM 1) (e7 : FdC MC1 7 = FdC MC 7) (e3 : FdR MM1 3 = FdR MM 3) (k : MC1 0 12 = MC 0 12) (k2 : MM1 0 54 = MM 0 54) (l10 : MC1 0 10 = MC 0 10) (l11 : MC1 0 11 = MC 0 11) (lc : ∀ c a i : Nat, (c = 44 ∨ c = 52) → ((a = c ∧ (i = 7 ∨ i = 8 ∨ i = 9)) ∨ a = c + 1 ∨ a = c + 2 ∨ a = c + 4 ∨ a = c + 5 ∨ a = c + 6 ∨ a = c + 7) → MC1 a i = MC a i) (lr : ∀ a i : Nat, (a = 0 ∧ i = 15) ∨ a = 12 ∨ a = 13 ∨ a = 14 ∨ a = 15 ∨ a = 16 → MM1 a i = MM a i) : FF MC1 MM1 := ff_mk h hi ⟨by rw [e1, e2]; exact h.1.1, by rw [e2]; exact h.1.2⟩ e7 e3 k k2 l10 l11 lc lr
theorem ff_st {MC MM MC1 MM1 : Mem} {r r' i x y s : Int32} (h : FF MC MM) (h1 : StP (FdC MC 1) (FdC MC1 1) r i x y s) (h2 : StP (FdR MM 1) (FdR MM1 1) r' i x y s) : (FdC MC1 1 = FdR MM1 1 ∧ GdF (FdR MM1 1)) ∧ r = r' := by
  rw [h.1.1] at h1
  exact ⟨⟨(op_fn h1 h2).1, gd_st h2 h.1.2⟩, (op_fn h1 h2).2⟩
theorem ff_tk {MC MM MC1 MM1 : Mem} {r r' i : Int32} (h : FF MC MM) (h1 : TkP (FdC MC 1) (FdC MC1 1) r i) (h2 : TkP (FdR MM 1) (FdR MM1 1) r' i) : (FdC MC1 1 = FdR MM1 1 ∧ GdF (FdR MM1 1)) ∧ r = r' := by
  rw [h.1.1] at h1
  exact ⟨⟨(op_fn h1 h2).1, gd_take h2 h.1.2⟩, (op_fn h1 h2).2⟩
theorem ff_un {MC MM MC1 MM1 : Mem} {r r' i v : Int32} (h : FF MC MM) (h1 : UnP (FdC MC 1) (FdC MC1 1) r i v) (h2 : UnP (FdR MM 1) (FdR MM1 1) r' i v) (hv : v = 0 ∨ v = 1) : (FdC MC1 1 = FdR MM1 1 ∧ GdF (FdR MM1 1)) ∧ r = r' := by
  rw [h.1.1] at h1
  exact ⟨⟨(op_fn h1 h2).1, gd_und h2 hv h.1.2⟩, (op_fn h1 h2).2⟩
theorem ff_sd {MC MM MC1 MM1 : Mem} {r r' v : Int32} (h : FF MC MM) (h1 : SdP (FdC MC 1) (FdC MC1 1) r v) (h2 : SdP (FdR MM 1) (FdR MM1 1) r' v) : (FdC MC1 1 = FdR MM1 1 ∧ GdF (FdR MM1 1)) ∧ r = r' := by
  rw [h.1.1] at h1
  exact ⟨⟨(op_fn h1 h2).1, gd_sd h2 h.1.2⟩, (op_fn h1 h2).2⟩
theorem ff_ng {R : Nat} {F : Nat → Int × Int} {tb : Tbl} {MC MM MC1 MM1 : Mem} {r r' v : Int32} (h : FF MC MM) (h1 : NgP R F tb (FdC MC 1) (FdC MC1 1) r v) (h2 : NgP R F tb (FdR MM 1) (FdR MM1 1) r' v) : (FdC MC1 1 = FdR MM1 1 ∧ GdF (FdR MM1 1)) ∧ r = r' := by
  rw [h.1.1] at h1
  exact ⟨⟨(op_fn h1 h2).1, gd_ng h2 h.1.2⟩, (op_fn h1 h2).2⟩
theorem ff_nb {MC MM MC1 MM1 : Mem} {v : Int32} {C D : Prop} {b1 b2 : Nat → Int} (h : FF MC MM) (hCD : C ↔ D) (ht : D → ∀ j : Nat, (j : Int) < v.toInt → b1 j = b2 j) (h1 : (C → NbE (bookT (txt b1 v.toInt)) (FdC MC 1) (FdC MC1 1)) ∧ (¬ C → FdC MC1 1 = FdC MC 1)) (h2 : (D → NbE (bookT (txt b2 v.toInt)) (FdR MM 1) (FdR MM1 1)) ∧ (¬ D → FdR MM1 1 = FdR MM 1)) : FdC MC1 1 = FdR MM1 1 ∧ GdF (FdR MM1 1) := by
  by_cases d : D
  · have q1 := h1.1 (hCD.mpr d)
    have q2 := h2.1 d
    rw [txt_ext (ht d), h.1.1] at q1
    exact ⟨nb_fn q1 q2, nb_gd q2 h.1.2⟩
  · rw [h1.2 (fun z => d (hCD.mp z)), h2.2 d]
    exact h.1
theorem ff_undo {MC MM MC1 MM1 : Mem} (h : FF MC MM) (h1 : FdC MC1 7 = FdC MC 7 ∧ ((MC 0 12).toInt = 0 → FdC MC1 1 = FdC MC 1) ∧ (¬ (MC 0 12).toInt = 0 → FdC MC1 1 = FdC MC 7)) (h2 : FdR MM1 3 = FdR MM 3 ∧ ((MM 0 54).toInt = 0 → FdR MM1 1 = FdR MM 1) ∧ (¬ (MM 0 54).toInt = 0 → FdR MM1 1 = FdR MM 3)) : FdC MC1 1 = FdR MM1 1 ∧ GdF (FdR MM1 1) := by
  rw [← h.2.1.1] at h2
  by_cases c : (MC 0 12).toInt = 0
  · rw [h1.2.1 c, h2.2.1 c]
    exact h.1
  · rw [h1.2.2 c, h2.2.2 c]
    exact h.2.1.2 c
theorem ff_keep {MC MM MC1 MM1 : Mem} (h : FF MC MM) (hi : (MC 0 10).toInt = 44 ∨ (MC 0 10).toInt = 52) (h1 : FdC MC1 7 = FdC MC 1 ∧ FdC MC1 1 = FdC MC 1) (h2 : FdR MM1 3 = FdR MM 1 ∧ FdR MM1 1 = FdR MM 1) (k : MC1 0 12 = 1) (k2 : MM1 0 54 = 1) (l10 : MC1 0 10 = MC 0 10) (l11 : MC1 0 11 = MC 0 11) (lc : ∀ c a i : Nat, (c = 44 ∨ c = 52) → ((a = c ∧ (i = 7 ∨ i = 8 ∨ i = 9)) ∨ a = c + 1 ∨ a = c + 2 ∨ a = c + 4 ∨ a = c + 5 ∨ a = c + 6 ∨ a = c + 7) → MC1 a i = MC a i) (lr : ∀ a i : Nat, (a = 0 ∧ i = 15) ∨ a = 12 ∨ a = 13 ∨ a = 14 ∨ a = 15 ∨ a = 16 → MM1 a i = MM a i) : FF MC1 MM1 := by
  refine ⟨by rw [h1.2, h2.2]; exact h.1, ⟨k.trans k2.symm, fun _ => by rw [h1.1, h2.1]; exact h.1⟩, by rw [l10, l11]; exact h.2.2.1, ff_law hi h.2.2.2 l10 lc lr⟩
theorem ff_lw {MC MM MC1 MM1 : Mem} {v : Int32} {C D : Prop} {b1 b2 : Nat → Int} (h : FF MC MM) (hi : (MC 0 10).toInt = 44 ∨ (MC 0 10).toInt = 52) (hi2 : (MC 0 11).toInt = 44 ∨ (MC 0 11).toInt = 52) (hCD : C ↔ D) (hv : D → 0 ≤ v.toInt ∧ v.toInt ≤ 240) (ht : D → ∀ j : Nat, (j : Int) < v.toInt → b1 j = b2 j) (h1 : (C → LcE (lawT (txt b1 v.toInt)) MC MC1) ∧ (¬ C → LcS MC MC1)) (h2 : (D → LwE (lawT (txt b2 v.toInt)) MM MM1) ∧ (¬ D → LwS MM MM1)) (hG : Gl MM1) (e1 : FdC MC1 1 = FdC MC 1) (e2 : FdR MM1 1 = FdR MM 1) (e7 : FdC MC1 7 = FdC MC 7) (e3 : FdR MM1 3 = FdR MM 3) (k : MC1 0 12 = MC 0 12) (k2 : MM1 0 54 = MM 0 54) : FF MC1 MM1 := by
  have same : LcS MC MC1 → LwS MM MM1 → FF MC1 MM1 := fun a b => by
    refine ⟨⟨by rw [e1, e2]; exact h.1.1, by rw [e2]; exact h.1.2⟩, ⟨by rw [k, k2]; exact h.2.1.1, fun z => ?_⟩, by rw [a.1, a.2.1]; exact h.2.2.1, ?_⟩
    · rw [k] at z
      rw [e7, e3]
      exact h.2.1.2 z
    · obtain ⟨R, F, tb, g1, g2, g3⟩ := h.2.2.2
      refine ⟨R, F, tb, fun c hc => ?_, lwr_fr g2 (fun x i q => ?_), g3⟩
      · rw [a.1] at hc
        obtain ⟨p1, p2⟩ := g1 c hc
        exact ⟨lwc_fr p1 (fun x i q => a.2.2 c hc x i (by omega) (by omega)), n5_fr p2 (a.2.2 c hc c 9 (by omega) (by omega)) (a.2.2 c hc c 7 (by omega) (by omega))⟩
      · rcases q with q | q
        · rw [q.1, q.2]
          exact b.1
        · exact b.2 x i (by omega) (by omega)
  by_cases d : D
  · have q1 := h1.1 (hCD.mpr d)
    have q2 := h2.1 d
    rw [txt_ext (ht d)] at q1
    cases e : lawT (txt b2 v.toInt) with
    | inl f =>
      rw [e] at q1 q2
      exact same q1 q2
    | inr q =>
      rw [e] at q1 q2
      obtain ⟨a1, a2, a3⟩ : MC1 0 10 = MC 0 11 ∧ MC1 0 11 = MC 0 10 ∧ ∀ c : Nat, (MC 0 11).toInt = (c : Int) → LcM MC1 c q ∧ FLG MC1 c := q1
      have m : LwM MM1 q := q2
      obtain ⟨v0, v1⟩ := hv d
      have hE : Ends (txt b2 v.toInt) v.toInt := fun p hp => txt_out (by omega)
      obtain ⟨c0, hc0⟩ : ∃ c : Nat, (MC 0 11).toInt = (c : Int) := ⟨(MC 0 11).toInt.toNat, by omega⟩
      obtain ⟨z1, z2, z3, z4⟩ := ll_new e hE v1 (a3 c0 hc0).1 (a3 c0 hc0).2 m hG
      refine ⟨⟨by rw [e1, e2]; exact h.1.1, by rw [e2]; exact h.1.2⟩, ⟨by rw [k, k2]; exact h.2.1.1, fun z => ?_⟩, by rw [a1, a2]; exact fun z => h.2.2.1 z.symm, q.1, q.2.1.2.2, q.2.2, fun c hc => ?_, z2, z3⟩
      · rw [k] at z
        rw [e7, e3]
        exact h.2.1.2 z
      · rw [a1] at hc
        rw [show c = c0 from by omega]
        exact ⟨z1, z4⟩
  · exact same (h1.2 (fun z => d (hCD.mp z))) (h2.2 d)

set_option maxHeartbeats 4000000 in
theorem ox_X10_tried (M : Mem) (v1 : Int32) (v2 : Int32) (hst : ST (M 1)) (hG : Gl M) : Wp (f_X10_tried M v1 v2) (fun q => (∀ a i, ¬ ((a = 0 ∧ i = 34) ∨ (a = 0 ∧ i = 35) ∨ a = 1 ∨ a = 2 ∨ a = 17 ∨ a = 18) → q.2 a i = M a i) ∧ (ST (q.2 1)) ∧ (FdR q.2 1 = FdR M 1)) := by
  refine wp_bind2 (o_X10_in M v1 (nI 1) (nI 60)) (fun r_1 he4 hq4 => ?_)
  obtain ⟨hz_r_1, hr_4⟩ := hq4
  replace hr_4 : ¬ r_1.toInt = 0 → (nI 1).toInt ≤ v1.toInt ∧ v1.toInt ≤ (nI 60).toInt := hr_4
  have := t_lit 1
  have := t_lit 60
  refine wp_ite (fun c7 => ?_) (fun c7 => ?_)
  · exact wp_some ⟨(fun _ _ _ => rfl), hst, rfl⟩
  · refine wp_bind2 (o_X10_in M v2 (nI 0) (nI 3)) (fun r_2 he13 hq13 => ?_)
    obtain ⟨hz_r_2, hr_13⟩ := hq13
    replace hr_13 : ¬ r_2.toInt = 0 → (nI 0).toInt ≤ v2.toInt ∧ v2.toInt ≤ (nI 3).toInt := hr_13
    have := t_lit 0
    have := t_lit 3
    have j46 : ((0 ≤ v2.toInt ∧ v2.toInt ≤ 3) ∨ (100 ≤ v2.toInt ∧ v2.toInt ≤ 139) ∨ (200 ≤ v2.toInt ∧ v2.toInt ≤ 239)) → Wp (f_X10_tried_L46 M v1 v2) (fun q => (∀ a i, ¬ ((a = 0 ∧ i = 34) ∨ (a = 0 ∧ i = 35) ∨ a = 1 ∨ a = 2 ∨ a = 17 ∨ a = 18) → q.2 a i = M a i) ∧ (ST (q.2 1)) ∧ (FdR q.2 1 = FdR M 1)) := by
      intro h46
      unfold f_X10_tried_L46
      refine wp_bind2 (o_X10_sumOf M (nI 40) (by have f0 := t_lit 40; omega)) (fun r_3 he49 hq49 => ?_)
      refine wp_bind2 (o_X10_copies (by decide) (by decide) M (by omega) (by omega)) (fun M_4 he61 hq61 => ?_)
      obtain ⟨hg_M_4, hc_61⟩ := hq61
      replace hc_61 : ∀ j : Nat, j < 202 → M_4 2 j = M 1 j := hc_61
      replace hg_M_4 : ∀ a i, ¬ (a = 2) → M_4 a i = M a i := by exact fun a i q0 => hg_M_4 a i (by first | decide | (rcases hc0 with h | h <;> rw [h] <;> simp; done) | (rcases hb0 with h | h | h <;> rw [h] <;> simp; done) | (simp; done) | omega)
      have hG4 : Gl M_4 := (gl_ext hG (hg_M_4 0 15 (by first | decide | (rcases hc0 with h | h <;> rw [h] <;> simp; done) | (rcases hb0 with h | h | h <;> rw [h] <;> simp; done) | (simp; done) | omega)) (fun i => hg_M_4 12 i (by first | decide | (rcases hc0 with h | h <;> rw [h] <;> simp; done) | (rcases hb0 with h | h | h <;> rw [h] <;> simp; done) | (simp; done) | omega)) (fun i => hg_M_4 14 i (by first | decide | (rcases hc0 with h | h <;> rw [h] <;> simp; done) | (rcases hb0 with h | h | h <;> rw [h] <;> simp; done) | (simp; done) | omega)) (fun i => hg_M_4 15 i (by first | decide | (rcases hc0 with h | h <;> rw [h] <;> simp; done) | (rcases hb0 with h | h | h <;> rw [h] <;> simp; done) | (simp; done) | omega)) (fun i => hg_M_4 16 i (by first | decide | (rcases hc0 with h | h <;> rw [h] <;> simp; done) | (rcases hb0 with h | h | h <;> rw [h] <;> simp; done) | (simp; done) | omega)))
      have hst4 : ST (M_4 1) := by rw [show M_4 1 = M 1 from funext (fun i => hg_M_4 1 i (by first | decide | (rcases hc0 with h | h <;> rw [h] <;> simp; done) | (rcases hb0 with h | h | h <;> rw [h] <;> simp; done) | (simp; done) | omega))]; exact hst
      refine wp_bind2 (o_X10_nightsGo M_4 v1 hst4 hG4) (fun M_5 he66 hq66 => ?_)
      obtain ⟨hg_M_5, hst_66⟩ := hq66
      replace hst_66 : ST (M_5 1) := hst_66
      replace hg_M_5 : ∀ a i, ¬ ((a = 0 ∧ i = 34) ∨ (a = 0 ∧ i = 35) ∨ a = 1 ∨ a = 17 ∨ a = 18) → M_5 a i = M_4 a i := hg_M_5
      have j180 : ∀ (z4_180 : Int32), Wp (f_X10_tried_L180 M_5 z4_180) (fun q => (∀ a i, ¬ ((a = 0 ∧ i = 34) ∨ (a = 0 ∧ i = 35) ∨ a = 1 ∨ a = 2 ∨ a = 17 ∨ a = 18) → q.2 a i = M a i) ∧ (ST (q.2 1)) ∧ (FdR q.2 1 = FdR M 1)) := by
        intro z4_180
        unfold f_X10_tried_L180
        refine wp_bind2 (o_X10_copies (by decide) (by decide) M_5 (by omega) (by omega)) (fun M_6 he188 hq188 => ?_)
        obtain ⟨hg_M_6, hc_188⟩ := hq188
        replace hc_188 : ∀ j : Nat, j < 202 → M_6 1 j = M_5 2 j := hc_188
        replace hg_M_6 : ∀ a i, ¬ (a = 1) → M_6 a i = M_5 a i := by exact fun a i q0 => hg_M_6 a i (by first | decide | (rcases hc0 with h | h <;> rw [h] <;> simp; done) | (rcases hb0 with h | h | h <;> rw [h] <;> simp; done) | (simp; done) | omega)
        exact wp_some ⟨(fun a i q0 => ((hg_M_6 a i (fun h9 => q0 (Or.inr (Or.inr (Or.inl h9))))).trans ((hg_M_5 a i (fun z8 => q0 ((fun z9 => Or.elim z9 (fun h9 => Or.inl h9) (fun z9 => Or.elim z9 (fun h9 => Or.inr (Or.inl h9)) (fun z9 => Or.elim z9 (fun h9 => Or.inr (Or.inr (Or.inl h9))) (fun z9 => Or.elim z9 (fun h9 => Or.inr (Or.inr (Or.inr (Or.inr (Or.inl h9))))) (fun h9 => Or.inr (Or.inr (Or.inr (Or.inr (Or.inr (h9)))))))))) z8))).trans ((hg_M_4 a i (fun h9 => q0 (Or.inr (Or.inr (Or.inr (Or.inl h9)))))).trans rfl)))), (st_copy hst (fun j hj => by show M_6 1 j = M 1 j; rw [hc_188 j hj, hg_M_5 2 j (by first | decide | (rcases hc0 with h | h <;> rw [h] <;> simp; done) | (rcases hb0 with h | h | h <;> rw [h] <;> simp; done) | (simp; done) | omega)]; exact hc_61 j hj)), (fdr_same (fun j hj => by show M_6 1 j = M 1 j; rw [hc_188 j (by omega), hg_M_5 2 j (by first | decide | (rcases hc0 with h | h <;> rw [h] <;> simp; done) | (rcases hb0 with h | h | h <;> rw [h] <;> simp; done) | (simp; done) | omega)]; exact hc_61 j (by omega)))⟩
      refine wp_ite (fun c70 => ?_) (fun c70 => ?_)
      · refine wp_bnd (fun x_7 ex_7 => ?_)
        have hv_x_7 := congrArg Int32.toInt ex_7
        exact j180 x_7
      · refine wp_ite (fun c1 => ?_) (fun c1 => ?_)
        · refine wp_bnd (fun x_8 ex_8 => ?_)
          have hv_x_8 := congrArg Int32.toInt ex_8
          exact j180 x_8
        · refine wp_ite (fun c2 => ?_) (fun c2 => ?_)
          · refine wp_bind2 (o_X10_sumOf M_5 (nI 160) (by have f0 := t_lit 160; omega)) (fun r_9 he122 hq122 => ?_)
            exact j180 r_9
          · refine wp_ite (fun c3 => ?_) (fun c3 => ?_)
            · refine wp_bind2 (o_X10_sumOf M_5 (nI 40) (by have f0 := t_lit 40; omega)) (fun r_10 he133 hq133 => ?_)
              refine wp_bnd (fun x_11 ex_11 => ?_)
              exact j180 x_11
            · have j178 : ∀ (t0_178 : Int32), Wp (f_X10_tried_L178 M_5 t0_178) (fun q => (∀ a i, ¬ ((a = 0 ∧ i = 34) ∨ (a = 0 ∧ i = 35) ∨ a = 1 ∨ a = 2 ∨ a = 17 ∨ a = 18) → q.2 a i = M a i) ∧ (ST (q.2 1)) ∧ (FdR q.2 1 = FdR M 1)) := by
                intro t0_178
                unfold f_X10_tried_L178
                exact j180 t0_178
              refine wp_ite (fun c147 => ?_) (fun c147 => ?_)
              · refine wp_gd (by have f0 := t_lit 80; have f1 := t_add (nI 80) v2; have f2 := t_lit 200; have f3 := t_sub ((nI 80) + v2) (nI 200); omega) ?_
                exact j178 (M_5 1 (ix (((nI 80) + v2) - (nI 200))))
              · refine wp_gd (by have f0 := t_lit 40; have f1 := t_add (nI 40) v2; have f2 := t_lit 100; have f3 := t_sub ((nI 40) + v2) (nI 100); omega) ?_
                exact j178 (M_5 1 (ix (((nI 40) + v2) - (nI 100))))
    refine wp_ite (fun c16 => ?_) (fun c16 => ?_)
    · refine wp_bind2 (o_X10_isStone M (v2 - (nI 100))) (fun r_12 he24 hq24 => ?_)
      obtain ⟨hz_r_12, hr_24⟩ := hq24
      replace hr_24 : ¬ r_12.toInt = 0 → (0 ≤ (v2 - (nI 100)).toInt ∧ (v2 - (nI 100)).toInt < 40) ∧ (M 1 (ix (v2 - (nI 100)))).toInt = 1 := hr_24
      refine wp_ite (fun c27 => ?_) (fun c27 => ?_)
      · refine wp_bind2 (o_X10_isStone M (v2 - (nI 200))) (fun r_13 he36 hq36 => ?_)
        obtain ⟨hz_r_13, hr_36⟩ := hq36
        replace hr_36 : ¬ r_13.toInt = 0 → (0 ≤ (v2 - (nI 200)).toInt ∧ (v2 - (nI 200)).toInt < 40) ∧ (M 1 (ix (v2 - (nI 200)))).toInt = 1 := hr_36
        refine wp_ite (fun c39 => ?_) (fun c39 => ?_)
        · exact wp_some ⟨(fun _ _ _ => rfl), hst, rfl⟩
        · have hs := (hr_36 c39).1
          have f1 := t_sub v2 (nI 200)
          have f2 := t_lit 200
          exact j46 (by omega)
      · have hs := (hr_24 c27).1
        have f1 := t_sub v2 (nI 100)
        have f2 := t_lit 100
        exact j46 (by omega)
    · exact j46 (by omega)
set_option maxHeartbeats 4000000 in
theorem ox_X10_firstNight (M : Mem) (v1 : Int32) (hst : ST (M 1)) (hG : Gl M) : Wp (f_X10_firstNight M v1) (fun q => (∀ a i, ¬ ((a = 0 ∧ i = 34) ∨ (a = 0 ∧ i = 35) ∨ a = 1 ∨ a = 2 ∨ a = 17 ∨ a = 18 ∨ a = 23 ∨ a = 25) → q.2 a i = M a i) ∧ (ST (q.2 1)) ∧ (FdR q.2 1 = FdR M 1)) := by
  refine wp_bind2 (o_X10_isPerson M v1) (fun r_1 he2 hq2 => ?_)
  obtain ⟨hz_r_1, hr_2⟩ := hq2
  replace hr_2 : ¬ r_1.toInt = 0 → 0 ≤ v1.toInt ∧ v1.toInt < 8 := hr_2
  refine wp_ite (fun c5 => ?_) (fun c5 => ?_)
  · exact wp_some ⟨(fun _ _ _ => rfl), hst, rfl⟩
  · refine wp_bind2 (o_X10_copies (by decide) (by decide) M (by omega) (by omega)) (fun M_2 he18 hq18 => ?_)
    obtain ⟨hg_M_2, hc_18⟩ := hq18
    replace hc_18 : ∀ j : Nat, j < 202 → M_2 2 j = M 1 j := hc_18
    replace hg_M_2 : ∀ a i, ¬ (a = 2) → M_2 a i = M a i := by exact fun a i q0 => hg_M_2 a i (by first | decide | (rcases hc0 with h | h <;> rw [h] <;> simp; done) | (rcases hb0 with h | h | h <;> rw [h] <;> simp; done) | (simp; done) | omega)
    have hG2 : Gl M_2 := (gl_ext hG (hg_M_2 0 15 (by first | decide | (rcases hc0 with h | h <;> rw [h] <;> simp; done) | (rcases hb0 with h | h | h <;> rw [h] <;> simp; done) | (simp; done) | omega)) (fun i => hg_M_2 12 i (by first | decide | (rcases hc0 with h | h <;> rw [h] <;> simp; done) | (rcases hb0 with h | h | h <;> rw [h] <;> simp; done) | (simp; done) | omega)) (fun i => hg_M_2 14 i (by first | decide | (rcases hc0 with h | h <;> rw [h] <;> simp; done) | (rcases hb0 with h | h | h <;> rw [h] <;> simp; done) | (simp; done) | omega)) (fun i => hg_M_2 15 i (by first | decide | (rcases hc0 with h | h <;> rw [h] <;> simp; done) | (rcases hb0 with h | h | h <;> rw [h] <;> simp; done) | (simp; done) | omega)) (fun i => hg_M_2 16 i (by first | decide | (rcases hc0 with h | h <;> rw [h] <;> simp; done) | (rcases hb0 with h | h | h <;> rw [h] <;> simp; done) | (simp; done) | omega)))
    refine wp_gd (by omega) ?_
    refine wp_cb2 (o_X10_crossing M_2 (M_2 4 (ix v1))) (fun r_3 M_4 he30 hq30 => ?_)
    obtain ⟨hg_M_4, hE_30⟩ := hq30
    replace hE_30 : (21 ≤ (M_2 4 (ix v1)).toInt → r_3.toInt = 1) ∧ ((M_2 4 (ix v1)).toInt < 21 → Bend 40 (byB M_2 (nI 1) (M_2 4 (ix v1))) (cst M_2 (M_2 4 (ix v1))) (fun j => (M_4 23 j).toInt) ∧ Best (fun i => ¬ (M_4 23 i).toInt = -1 ∧ byB M_2 (nI 0) (M_2 4 (ix v1)) i) (fun i => (M_4 23 i).toInt) r_3.toInt 40) := hE_30
    replace hg_M_4 : ∀ a i, ¬ (a = 23 ∨ a = 25) → M_4 a i = M_2 a i := hg_M_4
    have hG4 : Gl M_4 := (gl_ext hG2 (hg_M_4 0 15 (by first | decide | (rcases hc0 with h | h <;> rw [h] <;> simp; done) | (rcases hb0 with h | h | h <;> rw [h] <;> simp; done) | (simp; done) | omega)) (fun i => hg_M_4 12 i (by first | decide | (rcases hc0 with h | h <;> rw [h] <;> simp; done) | (rcases hb0 with h | h | h <;> rw [h] <;> simp; done) | (simp; done) | omega)) (fun i => hg_M_4 14 i (by first | decide | (rcases hc0 with h | h <;> rw [h] <;> simp; done) | (rcases hb0 with h | h | h <;> rw [h] <;> simp; done) | (simp; done) | omega)) (fun i => hg_M_4 15 i (by first | decide | (rcases hc0 with h | h <;> rw [h] <;> simp; done) | (rcases hb0 with h | h | h <;> rw [h] <;> simp; done) | (simp; done) | omega)) (fun i => hg_M_4 16 i (by first | decide | (rcases hc0 with h | h <;> rw [h] <;> simp; done) | (rcases hb0 with h | h | h <;> rw [h] <;> simp; done) | (simp; done) | omega)))
    have j42 : ∀ (t0_42 : Int32), (t0_42 = 0 ∨ t0_42 = 1) → Wp (f_X10_firstNight_L42 v1 M_4 t0_42) (fun q => (∀ a i, ¬ ((a = 0 ∧ i = 34) ∨ (a = 0 ∧ i = 35) ∨ a = 1 ∨ a = 2 ∨ a = 17 ∨ a = 18 ∨ a = 23 ∨ a = 25) → q.2 a i = M a i) ∧ (ST (q.2 1)) ∧ (FdR q.2 1 = FdR M 1)) := by
      intro t0_42 hb_t0_42
      unfold f_X10_firstNight_L42
      refine wp_lp3 (fun M43 y2_43 y3_43 => (0 ≤ y2_43.toInt) ∧ (∀ a i, ¬ ((a = 0 ∧ i = 34) ∨ (a = 0 ∧ i = 35) ∨ a = 1 ∨ a = 17 ∨ a = 18 ∨ a = 23 ∨ a = 25) → M43 a i = M_4 a i) ∧ (ST (M43 1)) ∧ (∀ j : Nat, j < 202 → M43 2 j = M 1 j)) (fun M43 y2_43 y3_43 => (60 - y2_43.toInt).toNat) (fun ag43 M43 y2_43 y3_43 hI43 ih43 => ?_) FU M_4 (nI 0) t0_42 ⟨(by have f0 := t_lit 0; omega), (fun _ _ _ => rfl), (by rw [show M_4 1 = M 1 from funext (fun i => by rw [hg_M_4 1 i (by first | decide | (rcases hc0 with h | h <;> rw [h] <;> simp; done) | (rcases hb0 with h | h | h <;> rw [h] <;> simp; done) | (simp; done) | omega), hg_M_2 1 i (by first | decide | (rcases hc0 with h | h <;> rw [h] <;> simp; done) | (rcases hb0 with h | h | h <;> rw [h] <;> simp; done) | (simp; done) | omega)])]; exact hst), (fun j hj => by rw [hg_M_4 2 j (by first | decide | (rcases hc0 with h | h <;> rw [h] <;> simp; done) | (rcases hb0 with h | h | h <;> rw [h] <;> simp; done) | (simp; done) | omega)]; exact hc_18 j hj)⟩ (fu_lt (by have f0 := t_lit 0; omega))
      obtain ⟨hi43, hf_M43, hst43, h2⟩ := hI43
      have hG43 : Gl M43 := (gl_ext hG4 (hf_M43 0 15 (by first | decide | (rcases hc0 with h | h <;> rw [h] <;> simp; done) | (rcases hb0 with h | h | h <;> rw [h] <;> simp; done) | (simp; done) | omega)) (fun i => hf_M43 12 i (by first | decide | (rcases hc0 with h | h <;> rw [h] <;> simp; done) | (rcases hb0 with h | h | h <;> rw [h] <;> simp; done) | (simp; done) | omega)) (fun i => hf_M43 14 i (by first | decide | (rcases hc0 with h | h <;> rw [h] <;> simp; done) | (rcases hb0 with h | h | h <;> rw [h] <;> simp; done) | (simp; done) | omega)) (fun i => hf_M43 15 i (by first | decide | (rcases hc0 with h | h <;> rw [h] <;> simp; done) | (rcases hb0 with h | h | h <;> rw [h] <;> simp; done) | (simp; done) | omega)) (fun i => hf_M43 16 i (by first | decide | (rcases hc0 with h | h <;> rw [h] <;> simp; done) | (rcases hb0 with h | h | h <;> rw [h] <;> simp; done) | (simp; done) | omega)))
      have j85 : Wp (f_X10_firstNight_L85 M43 y2_43 y3_43) (fun q => (∀ a i, ¬ ((a = 0 ∧ i = 34) ∨ (a = 0 ∧ i = 35) ∨ a = 1 ∨ a = 2 ∨ a = 17 ∨ a = 18 ∨ a = 23 ∨ a = 25) → q.2 a i = M a i) ∧ (ST (q.2 1)) ∧ (FdR q.2 1 = FdR M 1)) := by
        unfold f_X10_firstNight_L85
        refine wp_bind2 (o_X10_copies (by decide) (by decide) M43 (by omega) (by omega)) (fun M_5 he93 hq93 => ?_)
        obtain ⟨hg_M_5, hc_93⟩ := hq93
        replace hc_93 : ∀ j : Nat, j < 202 → M_5 1 j = M43 2 j := hc_93
        replace hg_M_5 : ∀ a i, ¬ (a = 1) → M_5 a i = M43 a i := by exact fun a i q0 => hg_M_5 a i (by first | decide | (rcases hc0 with h | h <;> rw [h] <;> simp; done) | (rcases hb0 with h | h | h <;> rw [h] <;> simp; done) | (simp; done) | omega)
        refine wp_ite (fun c97 => ?_) (fun c97 => ?_)
        · exact wp_some ⟨(fun a i q0 => ((hg_M_5 a i (fun h9 => q0 (Or.inr (Or.inr (Or.inl h9))))).trans ((hf_M43 a i (fun z8 => q0 ((fun z9 => Or.elim z9 (fun h9 => Or.inl h9) (fun z9 => Or.elim z9 (fun h9 => Or.inr (Or.inl h9)) (fun z9 => Or.elim z9 (fun h9 => Or.inr (Or.inr (Or.inl h9))) (fun z9 => Or.elim z9 (fun h9 => Or.inr (Or.inr (Or.inr (Or.inr (Or.inl h9))))) (fun z9 => Or.elim z9 (fun h9 => Or.inr (Or.inr (Or.inr (Or.inr (Or.inr (Or.inl h9)))))) (fun z9 => Or.elim z9 (fun h9 => Or.inr (Or.inr (Or.inr (Or.inr (Or.inr (Or.inr (Or.inl h9))))))) (fun h9 => Or.inr (Or.inr (Or.inr (Or.inr (Or.inr (Or.inr (Or.inr (h9)))))))))))))) z8))).trans ((hg_M_4 a i (fun z8 => q0 ((fun z9 => Or.elim z9 (fun h9 => Or.inr (Or.inr (Or.inr (Or.inr (Or.inr (Or.inr (Or.inl h9))))))) (fun h9 => Or.inr (Or.inr (Or.inr (Or.inr (Or.inr (Or.inr (Or.inr (h9))))))))) z8))).trans ((hg_M_2 a i (fun h9 => q0 (Or.inr (Or.inr (Or.inr (Or.inl h9)))))).trans rfl))))), (st_copy hst (fun j hj => by show M_5 1 j = M 1 j; rw [hc_93 j hj]; exact h2 j hj)), (fdr_same (fun j hj => by show M_5 1 j = M 1 j; rw [hc_93 j (by omega)]; exact h2 j (by omega)))⟩
        · exact wp_some ⟨(fun a i q0 => ((hg_M_5 a i (fun h9 => q0 (Or.inr (Or.inr (Or.inl h9))))).trans ((hf_M43 a i (fun z8 => q0 ((fun z9 => Or.elim z9 (fun h9 => Or.inl h9) (fun z9 => Or.elim z9 (fun h9 => Or.inr (Or.inl h9)) (fun z9 => Or.elim z9 (fun h9 => Or.inr (Or.inr (Or.inl h9))) (fun z9 => Or.elim z9 (fun h9 => Or.inr (Or.inr (Or.inr (Or.inr (Or.inl h9))))) (fun z9 => Or.elim z9 (fun h9 => Or.inr (Or.inr (Or.inr (Or.inr (Or.inr (Or.inl h9)))))) (fun z9 => Or.elim z9 (fun h9 => Or.inr (Or.inr (Or.inr (Or.inr (Or.inr (Or.inr (Or.inl h9))))))) (fun h9 => Or.inr (Or.inr (Or.inr (Or.inr (Or.inr (Or.inr (Or.inr (h9)))))))))))))) z8))).trans ((hg_M_4 a i (fun z8 => q0 ((fun z9 => Or.elim z9 (fun h9 => Or.inr (Or.inr (Or.inr (Or.inr (Or.inr (Or.inr (Or.inl h9))))))) (fun h9 => Or.inr (Or.inr (Or.inr (Or.inr (Or.inr (Or.inr (Or.inr (h9))))))))) z8))).trans ((hg_M_2 a i (fun h9 => q0 (Or.inr (Or.inr (Or.inr (Or.inl h9)))))).trans rfl))))), (st_copy hst (fun j hj => by show M_5 1 j = M 1 j; rw [hc_93 j hj]; exact h2 j hj)), (fdr_same (fun j hj => by show M_5 1 j = M 1 j; rw [hc_93 j (by omega)]; exact h2 j (by omega)))⟩
      refine wp_ite (fun c44 => ?_) (fun c44 => ?_)
      · refine wp_ite (fun c50 => ?_) (fun c50 => ?_)
        · exact j85
        · refine wp_bind2 (o_X10_nightsGo M43 (nI 1) hst43 hG43) (fun M_6 he55 hq55 => ?_)
          obtain ⟨hg_M_6, hst_55⟩ := hq55
          replace hst_55 : ST (M_6 1) := hst_55
          have := t_lit 1
          replace hg_M_6 : ∀ a i, ¬ ((a = 0 ∧ i = 34) ∨ (a = 0 ∧ i = 35) ∨ a = 1 ∨ a = 17 ∨ a = 18) → M_6 a i = M43 a i := hg_M_6
          refine wp_gd (by omega) ?_
          refine wp_cb2 (o_X10_crossing M_6 (M_6 4 (ix v1))) (fun r_7 M_8 he69 hq69 => ?_)
          obtain ⟨hg_M_8, hE_69⟩ := hq69
          replace hE_69 : (21 ≤ (M_6 4 (ix v1)).toInt → r_7.toInt = 1) ∧ ((M_6 4 (ix v1)).toInt < 21 → Bend 40 (byB M_6 (nI 1) (M_6 4 (ix v1))) (cst M_6 (M_6 4 (ix v1))) (fun j => (M_8 23 j).toInt) ∧ Best (fun i => ¬ (M_8 23 i).toInt = -1 ∧ byB M_6 (nI 0) (M_6 4 (ix v1)) i) (fun i => (M_8 23 i).toInt) r_7.toInt 40) := hE_69
          replace hg_M_8 : ∀ a i, ¬ (a = 23 ∨ a = 25) → M_8 a i = M_6 a i := hg_M_8
          refine wp_ite (fun c73 => ?_) (fun c73 => ?_)
          · exact ih43 M_8 (y2_43 + (nI 1)) (nI 0) ⟨(by have f0 := t_lit 1; have f1 := t_add y2_43 (nI 1); omega), (fun a i q0 => ((hg_M_8 a i (fun z8 => q0 ((fun z9 => Or.elim z9 (fun h9 => Or.inr (Or.inr (Or.inr (Or.inr (Or.inr (Or.inl h9)))))) (fun h9 => Or.inr (Or.inr (Or.inr (Or.inr (Or.inr (Or.inr (h9)))))))) z8))).trans ((hg_M_6 a i (fun z8 => q0 ((fun z9 => Or.elim z9 (fun h9 => Or.inl h9) (fun z9 => Or.elim z9 (fun h9 => Or.inr (Or.inl h9)) (fun z9 => Or.elim z9 (fun h9 => Or.inr (Or.inr (Or.inl h9))) (fun z9 => Or.elim z9 (fun h9 => Or.inr (Or.inr (Or.inr (Or.inl h9)))) (fun h9 => Or.inr (Or.inr (Or.inr (Or.inr (Or.inl h9))))))))) z8))).trans ((hf_M43 a i (fun z8 => q0 ((fun z9 => Or.elim z9 (fun h9 => Or.inl h9) (fun z9 => Or.elim z9 (fun h9 => Or.inr (Or.inl h9)) (fun z9 => Or.elim z9 (fun h9 => Or.inr (Or.inr (Or.inl h9))) (fun z9 => Or.elim z9 (fun h9 => Or.inr (Or.inr (Or.inr (Or.inl h9)))) (fun z9 => Or.elim z9 (fun h9 => Or.inr (Or.inr (Or.inr (Or.inr (Or.inl h9))))) (fun z9 => Or.elim z9 (fun h9 => Or.inr (Or.inr (Or.inr (Or.inr (Or.inr (Or.inl h9)))))) (fun h9 => Or.inr (Or.inr (Or.inr (Or.inr (Or.inr (Or.inr (h9))))))))))))) z8))).trans rfl)))), (by rw [show M_8 1 = M_6 1 from funext (fun i => hg_M_8 1 i (by first | decide | (rcases hc0 with h | h <;> rw [h] <;> simp; done) | (rcases hb0 with h | h | h <;> rw [h] <;> simp; done) | (simp; done) | omega))]; exact hst_55), (fun j hj => by rw [hg_M_8 2 j (by first | decide | (rcases hc0 with h | h <;> rw [h] <;> simp; done) | (rcases hb0 with h | h | h <;> rw [h] <;> simp; done) | (simp; done) | omega), hg_M_6 2 j (by first | decide | (rcases hc0 with h | h <;> rw [h] <;> simp; done) | (rcases hb0 with h | h | h <;> rw [h] <;> simp; done) | (simp; done) | omega)]; exact h2 j hj)⟩ (by have f0 := t_lit 1; have f1 := t_add y2_43 (nI 1); omega)
          · exact ih43 M_8 (y2_43 + (nI 1)) (nI 1) ⟨(by have f0 := t_lit 1; have f1 := t_add y2_43 (nI 1); omega), (fun a i q0 => ((hg_M_8 a i (fun z8 => q0 ((fun z9 => Or.elim z9 (fun h9 => Or.inr (Or.inr (Or.inr (Or.inr (Or.inr (Or.inl h9)))))) (fun h9 => Or.inr (Or.inr (Or.inr (Or.inr (Or.inr (Or.inr (h9)))))))) z8))).trans ((hg_M_6 a i (fun z8 => q0 ((fun z9 => Or.elim z9 (fun h9 => Or.inl h9) (fun z9 => Or.elim z9 (fun h9 => Or.inr (Or.inl h9)) (fun z9 => Or.elim z9 (fun h9 => Or.inr (Or.inr (Or.inl h9))) (fun z9 => Or.elim z9 (fun h9 => Or.inr (Or.inr (Or.inr (Or.inl h9)))) (fun h9 => Or.inr (Or.inr (Or.inr (Or.inr (Or.inl h9))))))))) z8))).trans ((hf_M43 a i (fun z8 => q0 ((fun z9 => Or.elim z9 (fun h9 => Or.inl h9) (fun z9 => Or.elim z9 (fun h9 => Or.inr (Or.inl h9)) (fun z9 => Or.elim z9 (fun h9 => Or.inr (Or.inr (Or.inl h9))) (fun z9 => Or.elim z9 (fun h9 => Or.inr (Or.inr (Or.inr (Or.inl h9)))) (fun z9 => Or.elim z9 (fun h9 => Or.inr (Or.inr (Or.inr (Or.inr (Or.inl h9))))) (fun z9 => Or.elim z9 (fun h9 => Or.inr (Or.inr (Or.inr (Or.inr (Or.inr (Or.inl h9)))))) (fun h9 => Or.inr (Or.inr (Or.inr (Or.inr (Or.inr (Or.inr (h9))))))))))))) z8))).trans rfl)))), (by rw [show M_8 1 = M_6 1 from funext (fun i => hg_M_8 1 i (by first | decide | (rcases hc0 with h | h <;> rw [h] <;> simp; done) | (rcases hb0 with h | h | h <;> rw [h] <;> simp; done) | (simp; done) | omega))]; exact hst_55), (fun j hj => by rw [hg_M_8 2 j (by first | decide | (rcases hc0 with h | h <;> rw [h] <;> simp; done) | (rcases hb0 with h | h | h <;> rw [h] <;> simp; done) | (simp; done) | omega), hg_M_6 2 j (by first | decide | (rcases hc0 with h | h <;> rw [h] <;> simp; done) | (rcases hb0 with h | h | h <;> rw [h] <;> simp; done) | (simp; done) | omega)]; exact h2 j hj)⟩ (by have f0 := t_lit 1; have f1 := t_add y2_43 (nI 1); omega)
      · exact j85
    refine wp_ite (fun c34 => ?_) (fun c34 => ?_)
    · exact j42 (nI 0) b01_0
    · exact j42 (nI 1) b01_1
theorem ox_X10_isDry (M : Mem) (v1 : Int32) (hv1 : 0 ≤ v1.toInt ∧ v1.toInt < 40) : Wp (f_X10_isDry M v1) (fun q => (q = 0 ∨ q = 1) ∧ (¬ q.toInt = 0 → (M 1 (ix v1)).toInt = 1) ∧ (¬ q.toInt = 0 → (M 1 (ix (nI 160 + v1))).toInt = 0)) := by
  refine wp_gd (by omega) ?_
  refine wp_ite (fun c9 => ?_) (fun c9 => ?_)
  · refine wp_gd (by have f0 := t_lit 160; have f1 := t_add (nI 160) v1; omega) ?_
    refine wp_ite (fun c22 => ?_) (fun c22 => ?_)
    · exact wp_some ⟨b01_1, (by show ¬ (nI 1).toInt = 0 → (M 1 (ix v1)).toInt = 1; have f0 := t_lit 1; have f1 := t_lit 160; have f2 := t_add (nI 160) v1; omega), (fun _ => c22)⟩
    · exact wp_some ⟨b01_0, (by show ¬ (nI 0).toInt = 0 → (M 1 (ix v1)).toInt = 1; have f0 := t_lit 0; have f1 := t_lit 160; have f2 := t_add (nI 160) v1; omega), (fun z => absurd nI0 z)⟩
  · exact wp_some ⟨b01_0, (by show ¬ (nI 0).toInt = 0 → (M 1 (ix v1)).toInt = 1; have f0 := t_lit 0; omega), (fun z => absurd nI0 z)⟩
theorem ox_X10_key (M : Mem) (v1 : Int32) (v2 : Int32) (hst : ST (M 1)) : Wp (f_X10_key M v1 v2) (fun q => (∀ a i, ¬ (a = 1 ∨ a = 23 ∨ a = 25) → q.2 a i = M a i) ∧ (ST (q.2 1)) ∧ (FdR q.2 1 = FdR M 1)) := by
  refine wp_bind2 (o_X10_isPerson M v1) (fun r_1 he2 hq2 => ?_)
  obtain ⟨hz_r_1, hr_2⟩ := hq2
  replace hr_2 : ¬ r_1.toInt = 0 → 0 ≤ v1.toInt ∧ v1.toInt < 8 := hr_2
  refine wp_ite (fun c5 => ?_) (fun c5 => ?_)
  · exact wp_some ⟨(fun _ _ _ => rfl), hst, rfl⟩
  · refine wp_bind2 (o_X10_in M v2 (nI 0) (nI 1)) (fun r_2 he11 hq11 => ?_)
    obtain ⟨hz_r_2, hr_11⟩ := hq11
    replace hr_11 : ¬ r_2.toInt = 0 → (nI 0).toInt ≤ v2.toInt ∧ v2.toInt ≤ (nI 1).toInt := hr_11
    have := t_lit 0
    have := t_lit 1
    refine wp_ite (fun c14 => ?_) (fun c14 => ?_)
    · exact wp_some ⟨(fun _ _ _ => rfl), hst, rfl⟩
    · refine wp_gd (by omega) ?_
      refine wp_bnd (fun x_3 ex_3 => ?_)
      refine wp_cb2 (o_X10_crossing M x_3) (fun r_4 M_5 he28 hq28 => ?_)
      obtain ⟨hg_M_5, hE_28⟩ := hq28
      replace hE_28 : (21 ≤ x_3.toInt → r_4.toInt = 1) ∧ (x_3.toInt < 21 → Bend 40 (byB M (nI 1) x_3) (cst M x_3) (fun j => (M_5 23 j).toInt) ∧ Best (fun i => ¬ (M_5 23 i).toInt = -1 ∧ byB M (nI 0) x_3 i) (fun i => (M_5 23 i).toInt) r_4.toInt 40) := hE_28
      replace hg_M_5 : ∀ a i, ¬ (a = 23 ∨ a = 25) → M_5 a i = M a i := hg_M_5
      refine wp_ite (fun c32 => ?_) (fun c32 => ?_)
      · exact wp_some ⟨(fun a i q0 => ((hg_M_5 a i (fun z8 => q0 ((fun z9 => Or.elim z9 (fun h9 => Or.inr (Or.inl h9)) (fun h9 => Or.inr (Or.inr (h9)))) z8))).trans rfl)), (by rw [show ((-3 : Int32), M_5).2 1 = M 1 from funext (fun i => hg_M_5 1 i (by first | decide | (rcases hc0 with h | h <;> rw [h] <;> simp; done) | (rcases hb0 with h | h | h <;> rw [h] <;> simp; done) | (simp; done) | omega))]; exact hst), (fdr_same (fun j hj => hg_M_5 1 j (by first | decide | (rcases hc0 with h | h <;> rw [h] <;> simp; done) | (rcases hb0 with h | h | h <;> rw [h] <;> simp; done) | (simp; done) | omega)))⟩
      · refine wp_lp4 (fun M49 y4_49 y5_49 y6_49 => (y6_49.toInt ≤ 39) ∧ (∀ a i, ¬ (a = 1 ∨ a = 23 ∨ a = 25) → M49 a i = M_5 a i) ∧ (ST (M49 1)) ∧ (∀ j, M49 1 j = M 1 j)) (fun M49 y4_49 y5_49 y6_49 => (y6_49.toInt - 0 + 1).toNat) (fun ag49 M49 y4_49 y5_49 y6_49 hI49 ih49 => ?_) FU M_5 (nI 0) (-2) (nI 39) ⟨(by have f0 := t_lit 39; omega), (fun _ _ _ => rfl), (by rw [show M_5 1 = M 1 from funext (fun i => hg_M_5 1 i (by first | decide | (rcases hc0 with h | h <;> rw [h] <;> simp; done) | (rcases hb0 with h | h | h <;> rw [h] <;> simp; done) | (simp; done) | omega))]; exact hst), (fun j => hg_M_5 1 j (by first | decide | (rcases hc0 with h | h <;> rw [h] <;> simp; done) | (rcases hb0 with h | h | h <;> rw [h] <;> simp; done) | (simp; done) | omega))⟩ (fu_lt (by have f0 := t_lit 39; omega))
        obtain ⟨hi49, hf_M49, hst49, q49⟩ := hI49
        have j130 : Wp (f_X10_key_L130 v2 M49 y4_49 y5_49) (fun q => (∀ a i, ¬ (a = 1 ∨ a = 23 ∨ a = 25) → q.2 a i = M a i) ∧ (ST (q.2 1)) ∧ (FdR q.2 1 = FdR M 1)) := by
          unfold f_X10_key_L130
          refine wp_ite (fun c131 => ?_) (fun c131 => ?_)
          · exact wp_some ⟨(fun a i q0 => ((hf_M49 a i (fun z8 => q0 ((fun z9 => Or.elim z9 (fun h9 => Or.inl h9) (fun z9 => Or.elim z9 (fun h9 => Or.inr (Or.inl h9)) (fun h9 => Or.inr (Or.inr (h9))))) z8))).trans ((hg_M_5 a i (fun z8 => q0 ((fun z9 => Or.elim z9 (fun h9 => Or.inr (Or.inl h9)) (fun h9 => Or.inr (Or.inr (h9)))) z8))).trans rfl))), hst49, (fdr_same (fun j hj => q49 j))⟩
          · exact wp_some ⟨(fun a i q0 => ((hf_M49 a i (fun z8 => q0 ((fun z9 => Or.elim z9 (fun h9 => Or.inl h9) (fun z9 => Or.elim z9 (fun h9 => Or.inr (Or.inl h9)) (fun h9 => Or.inr (Or.inr (h9))))) z8))).trans ((hg_M_5 a i (fun z8 => q0 ((fun z9 => Or.elim z9 (fun h9 => Or.inr (Or.inl h9)) (fun h9 => Or.inr (Or.inr (h9)))) z8))).trans rfl))), hst49, (fdr_same (fun j hj => q49 j))⟩
        refine wp_ite (fun c51 => ?_) (fun c51 => ?_)
        · exact j130
        · refine wp_bind2 (ox_X10_isDry M49 y6_49 (by omega)) (fun r_6 he57 hq57 => ?_)
          obtain ⟨hz_r_6, hr_57, hd_57⟩ := hq57
          replace hr_57 : ¬ r_6.toInt = 0 → (M49 1 (ix y6_49)).toInt = 1 := hr_57
          replace hd_57 : ¬ r_6.toInt = 0 → (M49 1 (ix (nI 160 + y6_49))).toInt = 0 := hd_57
          refine wp_ite (fun c60 => ?_) (fun c60 => ?_)
          · exact ih49 M49 y4_49 y5_49 (y6_49 + (-1)) ⟨(by have f0 := (by decide : ((-1 : Int32)).toInt = -1); have f1 := t_add y6_49 (-1); omega), (fun a i q0 => ((hf_M49 a i (fun z8 => q0 ((fun z9 => Or.elim z9 (fun h9 => Or.inl h9) (fun z9 => Or.elim z9 (fun h9 => Or.inr (Or.inl h9)) (fun h9 => Or.inr (Or.inr (h9))))) z8))).trans rfl)), hst49, q49⟩ (by have f0 := (by decide : ((-1 : Int32)).toInt = -1); have f1 := t_add y6_49 (-1); omega)
          · refine wp_gd (by have f0 := t_lit 160; have f1 := t_add (nI 160) y6_49; omega) ?_
            refine wp_bnd (fun M_7 eM_7 => ?_)
            have fy := t_ixn y6_49 (by omega)
            have x160 := ix_add (x := y6_49) (n := 160) (by omega) (by omega)
            refine wp_cb2 (o_X10_crossing M_7 x_3) (fun r_8 M_9 he80 hq80 => ?_)
            obtain ⟨hg_M_9, hE_80⟩ := hq80
            replace hE_80 : (21 ≤ x_3.toInt → r_8.toInt = 1) ∧ (x_3.toInt < 21 → Bend 40 (byB M_7 (nI 1) x_3) (cst M_7 x_3) (fun j => (M_9 23 j).toInt) ∧ Best (fun i => ¬ (M_9 23 i).toInt = -1 ∧ byB M_7 (nI 0) x_3 i) (fun i => (M_9 23 i).toInt) r_8.toInt 40) := hE_80
            replace hg_M_9 : ∀ a i, ¬ (a = 23 ∨ a = 25) → M_9 a i = M_7 a i := hg_M_9
            have j92 : ∀ (t0_92 : Int32), (t0_92 = 0 ∨ t0_92 = 1) → Wp (f_X10_key_L92 ag49 y4_49 y5_49 y6_49 M_9 t0_92) (fun q => (∀ a i, ¬ (a = 1 ∨ a = 23 ∨ a = 25) → q.2 a i = M a i) ∧ (ST (q.2 1)) ∧ (FdR q.2 1 = FdR M 1)) := by
              intro t0_92 hb_t0_92
              unfold f_X10_key_L92
              refine wp_gd (by have f0 := t_lit 160; have f1 := t_add (nI 160) y6_49; omega) ?_
              refine wp_bnd (fun M_10 eM_10 => ?_)
              refine wp_ite (fun c108 => ?_) (fun c108 => ?_)
              · exact ih49 M_10 y4_49 y5_49 (y6_49 + (-1)) ⟨(by have f0 := (by decide : ((-1 : Int32)).toInt = -1); have f1 := t_add y6_49 (-1); omega), (fun a i q0 => ((congrFun (congrFun eM_10 a) i).trans ((mset_ne (fun h9 => q0 (Or.inl (h9).1))).trans ((hg_M_9 a i (fun z8 => q0 ((fun z9 => Or.elim z9 (fun h9 => Or.inr (Or.inl h9)) (fun h9 => Or.inr (Or.inr (h9)))) z8))).trans ((congrFun (congrFun eM_7 a) i).trans ((mset_ne (fun h9 => q0 (Or.inl (h9).1))).trans ((hf_M49 a i (fun z8 => q0 ((fun z9 => Or.elim z9 (fun h9 => Or.inl h9) (fun z9 => Or.elim z9 (fun h9 => Or.inr (Or.inl h9)) (fun h9 => Or.inr (Or.inr (h9))))) z8))).trans rfl))))))), (st_hi (i := ix y6_49) hst49 (fun j hj => by rw [eM_10, mset_ne (by first | exact nz1 (by decide) | exact nz2 (by decide) | exact nz1 (nzA hc0 (by decide)) | exact nz1 (nzE (by decide)) | exact nz1 (nzB hc0 (by decide)) | exact nz1 (nzC hc0 (by decide)) | exact nz1 (nzD hc0 (by decide)) | exact nz1 (nzF (by decide)) | exact nz1 (nzG (by decide)) | omega), hg_M_9 1 j (by first | decide | (rcases hc0 with h | h <;> rw [h] <;> simp; done) | (rcases hb0 with h | h | h <;> rw [h] <;> simp; done) | (simp; done) | omega), eM_7, mset_ne (by first | exact nz1 (by decide) | exact nz2 (by decide) | exact nz1 (nzA hc0 (by decide)) | exact nz1 (nzE (by decide)) | exact nz1 (nzB hc0 (by decide)) | exact nz1 (nzC hc0 (by decide)) | exact nz1 (nzD hc0 (by decide)) | exact nz1 (nzF (by decide)) | exact nz1 (nzG (by decide)) | omega)])), (fun j => by rw [eM_10]; by_cases e : j = ix (nI 160 + y6_49); (rw [e, mset_eq, ← q49]; exact (t_of (by rw [hd_57 (by omega)]; exact nI0.symm)).symm); (rw [mset_ne (fun z => e z.2), hg_M_9 1 j (by first | decide | (rcases hc0 with h | h <;> rw [h] <;> simp; done) | (rcases hb0 with h | h | h <;> rw [h] <;> simp; done) | (simp; done) | omega), eM_7, mset_ne (fun z => e z.2)]; exact q49 j))⟩ (by have f0 := (by decide : ((-1 : Int32)).toInt = -1); have f1 := t_add y6_49 (-1); omega)
              · exact ih49 M_10 (y4_49 + (nI 1)) y6_49 (y6_49 + (-1)) ⟨(by have f0 := (by decide : ((-1 : Int32)).toInt = -1); have f1 := t_add y6_49 (-1); omega), (fun a i q0 => ((congrFun (congrFun eM_10 a) i).trans ((mset_ne (fun h9 => q0 (Or.inl (h9).1))).trans ((hg_M_9 a i (fun z8 => q0 ((fun z9 => Or.elim z9 (fun h9 => Or.inr (Or.inl h9)) (fun h9 => Or.inr (Or.inr (h9)))) z8))).trans ((congrFun (congrFun eM_7 a) i).trans ((mset_ne (fun h9 => q0 (Or.inl (h9).1))).trans ((hf_M49 a i (fun z8 => q0 ((fun z9 => Or.elim z9 (fun h9 => Or.inl h9) (fun z9 => Or.elim z9 (fun h9 => Or.inr (Or.inl h9)) (fun h9 => Or.inr (Or.inr (h9))))) z8))).trans rfl))))))), (st_hi (i := ix y6_49) hst49 (fun j hj => by rw [eM_10, mset_ne (by first | exact nz1 (by decide) | exact nz2 (by decide) | exact nz1 (nzA hc0 (by decide)) | exact nz1 (nzE (by decide)) | exact nz1 (nzB hc0 (by decide)) | exact nz1 (nzC hc0 (by decide)) | exact nz1 (nzD hc0 (by decide)) | exact nz1 (nzF (by decide)) | exact nz1 (nzG (by decide)) | omega), hg_M_9 1 j (by first | decide | (rcases hc0 with h | h <;> rw [h] <;> simp; done) | (rcases hb0 with h | h | h <;> rw [h] <;> simp; done) | (simp; done) | omega), eM_7, mset_ne (by first | exact nz1 (by decide) | exact nz2 (by decide) | exact nz1 (nzA hc0 (by decide)) | exact nz1 (nzE (by decide)) | exact nz1 (nzB hc0 (by decide)) | exact nz1 (nzC hc0 (by decide)) | exact nz1 (nzD hc0 (by decide)) | exact nz1 (nzF (by decide)) | exact nz1 (nzG (by decide)) | omega)])), (fun j => by rw [eM_10]; by_cases e : j = ix (nI 160 + y6_49); (rw [e, mset_eq, ← q49]; exact (t_of (by rw [hd_57 (by omega)]; exact nI0.symm)).symm); (rw [mset_ne (fun z => e z.2), hg_M_9 1 j (by first | decide | (rcases hc0 with h | h <;> rw [h] <;> simp; done) | (rcases hb0 with h | h | h <;> rw [h] <;> simp; done) | (simp; done) | omega), eM_7, mset_ne (fun z => e z.2)]; exact q49 j))⟩ (by have f0 := (by decide : ((-1 : Int32)).toInt = -1); have f1 := t_add y6_49 (-1); omega)
            refine wp_ite (fun c84 => ?_) (fun c84 => ?_)
            · exact j92 (nI 1) b01_1
            · exact j92 (nI 0) b01_0
