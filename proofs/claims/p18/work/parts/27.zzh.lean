/-! the first night; keys; one more -/
def nt1 (R : Nat) (F : Nat → Int × Int) (tb : Tbl) (G : Mem) : Mem := (ngs R F tb 1 (G, nI 0, nI 0)).1
def ntk (R : Nat) (F : Nat → Int × Int) (tb : Tbl) (G : Mem) : Nat → Mem
  | 0 => G
  | n + 1 => nt1 R F tb (ntk R F tb G n)
theorem gd_ntk {R : Nat} {F : Nat → Int × Int} {tb : Tbl} {G : Mem} (h : GdF G) : ∀ n, GdF (ntk R F tb G n)
  | 0 => h
  | n + 1 => gd_ngs 1 (ntk R F tb G n, nI 0, nI 0) (gd_ntk h n)
theorem nt1_is {R : Nat} {F : Nat → Int × Int} {tb : Tbl} {G H : Mem} {x y v : Int32} (hv : v = nI 1) (h : ngs R F tb v.toInt.toNat (G, nI 0, nI 0) = (H, x, y)) : H = nt1 R F tb G := by
  have e : v.toInt.toNat = 1 := by
    rw [hv]
    decide
  rw [e] at h
  unfold nt1
  rw [h]
def FnP (R : Nat) (F : Nat → Int × Int) (tb : Tbl) (G : Mem) (s r : Int) : Prop := (∃ k : Nat, k ≤ 60 ∧ r = (k : Int) ∧ CAn (ntk R F tb G k) s ∧ ∀ j, j < k → NCr (ntk R F tb G j) s) ∨ (r = -2 ∧ ∀ j, j ≤ 60 → NCr (ntk R F tb G j) s)
theorem fn_fn {R : Nat} {F : Nat → Int × Int} {tb : Tbl} {G : Mem} {s r r' : Int} (h : FnP R F tb G s r) (h' : FnP R F tb G s r') : r = r' := by
  rcases h with ⟨k, a, b, d, e⟩ | ⟨a, b⟩ <;> rcases h' with ⟨k', a', b', d', e'⟩ | ⟨a', b'⟩
  · rcases Nat.lt_trichotomy k k' with c | c | c
    · exact (can_no d (e' k c)).elim
    · omega
    · exact (can_no d' (e k' c)).elim
  · exact (can_no d (b' k a)).elim
  · exact (can_no d' (b k' a')).elim
  · omega
theorem nc_up {R : Nat} {F : Nat → Int × Int} {tb : Tbl} {G : Mem} {s : Int} {n : Nat} (h : ∀ j, j < n → NCr (ntk R F tb G j) s) (hn : NCr (ntk R F tb G n) s) : ∀ j, j < n + 1 → NCr (ntk R F tb G j) s := fun j hj => by
  by_cases c : j = n
  · rw [c]
    exact hn
  · exact h j (by omega)
theorem ff_fn {R : Nat} {F : Nat → Int × Int} {tb : Tbl} {MC MM : Mem} {r r' v : Int32} (h : FF MC MM) (hq : QQ MC MM) (hP : PP MC MM) (h1 : PqP (TpC MC v) (FnP R F tb (FdC MC 1) (MC 43 (ix v)).toInt r.toInt) r) (h2 : PqP (TpR MM v) (FnP R F tb (FdR MM 1) (MM 4 (ix v)).toInt r'.toInt) r') : r = r' := pq_fn h1 h2 (tp_iff hP) (fun t a b => by
  rw [h.1.1, qq_e hq t] at a
  exact t_of (fn_fn a b))
/-- a key: gone under, it leaves no way -/
def keyG (G : Mem) (s : Int) (i : Nat) : Prop := dryG G i ∧ NCr (mset G 5 i 1) s
def KyI (P : Nat → Prop) : Nat → Int32 → Int32 → Prop
  | 0, c, l => c = nI 0 ∧ l = -2
  | d + 1, c, l => ∃ c' l', KyI P d c' l' ∧ ((P (39 - d) ∧ c = c' + nI 1 ∧ l = nI (39 - d)) ∨ (¬ P (39 - d) ∧ c = c' ∧ l = l'))
theorem ky_fn {P : Nat → Prop} : ∀ {d : Nat} {c l c2 l2 : Int32}, KyI P d c l → KyI P d c2 l2 → c = c2 ∧ l = l2
  | 0, _, _, _, _, h, h' => ⟨h.1.trans h'.1.symm, h.2.trans h'.2.symm⟩
  | d + 1, c, l, c2, l2, ⟨a, b, h, q⟩, ⟨a2, b2, h2, q2⟩ => by
    obtain ⟨e1, e2⟩ := ky_fn h h2
    rcases q with ⟨q1, q3, q4⟩ | ⟨q1, q3, q4⟩ <;> rcases q2 with ⟨p1, p3, p4⟩ | ⟨p1, p3, p4⟩
    · exact ⟨by rw [q3, p3, e1], by rw [q4, p4]⟩
    · exact absurd q1 p1
    · exact absurd p1 q1
    · exact ⟨by rw [q3, p3, e1], by rw [q4, p4, e2]⟩
def KyJ (P : Nat → Prop) (y c l : Int32) : Prop := ∃ d : Nat, (d : Int) = 39 - y.toInt ∧ KyI P d c l
theorem ky_0 {P : Nat → Prop} : KyJ P (nI 39) (nI 0) (-2) := ⟨0, by decide, rfl, rfl⟩
theorem ky_40 {P : Nat → Prop} {y c l : Int32} (h : KyJ P y c l) (hy : -1 ≤ y.toInt) (hn : y.toInt < 0) : ∃ d, d = 40 ∧ KyI P d c l := by
  obtain ⟨d, e, h⟩ := h
  exact ⟨d, by omega, h⟩
theorem ky_y {P : Nat → Prop} {y c l : Int32} (h : KyJ P y c l) (h0 : 0 ≤ y.toInt) (h9 : y.toInt ≤ 39) (hP : P (ix y)) : KyJ P (y + (-1)) (c + nI 1) y := by
  obtain ⟨d, e, h⟩ := h
  have e1 := t_ixn y h0
  have yd := t_dec y (by omega)
  refine ⟨d + 1, by omega, c, l, h, Or.inl ?_⟩
  rw [show 39 - d = ix y from by omega]
  exact ⟨hP, rfl, (nI_ixx h0).symm⟩
theorem ky_n {P : Nat → Prop} {y c l : Int32} (h : KyJ P y c l) (h0 : 0 ≤ y.toInt) (h9 : y.toInt ≤ 39) (hP : ¬ P (ix y)) : KyJ P (y + (-1)) c l := by
  obtain ⟨d, e, h⟩ := h
  have e1 := t_ixn y h0
  have yd := t_dec y (by omega)
  refine ⟨d + 1, by omega, c, l, h, Or.inr ?_⟩
  rw [show 39 - d = ix y from by omega]
  exact ⟨hP, rfl, rfl⟩
def KyP (G : Mem) (s : Int) (w r : Int32) : Prop := (NCr G s ∧ r = -3) ∨ (CAn G s ∧ ∃ d c l, d = 40 ∧ KyI (keyG G s) d c l ∧ ((w.toInt = 0 ∧ r = c) ∨ (¬ w.toInt = 0 ∧ r = l)))
theorem kyp_fn {G : Mem} {s : Int} {w r r' : Int32} (h : KyP G s w r) (h' : KyP G s w r') : r = r' := by
  rcases h with ⟨a, b⟩ | ⟨a, n, c, l, hn, b, d⟩ <;> rcases h' with ⟨a', b'⟩ | ⟨a', n', c', l', hn', b', d'⟩
  · exact b.trans b'.symm
  · exact (can_no a' a).elim
  · exact (can_no a a').elim
  · rw [hn] at b
    rw [hn'] at b'
    obtain ⟨e1, e2⟩ := ky_fn b b'
    rcases d with ⟨p, q⟩ | ⟨p, q⟩ <;> rcases d' with ⟨p', q'⟩ | ⟨p', q'⟩
    · rw [q, q', e1]
    · exact absurd p p'
    · exact absurd p' p
    · rw [q, q', e2]
def EiW (w : Int32) : Prop := 0 ≤ w.toInt ∧ w.toInt ≤ 1
theorem ff_ky {MC MM : Mem} {r r' v w : Int32} (h : FF MC MM) (hq : QQ MC MM) (hP : PP MC MM) (h1 : PqP (TpC MC v ∧ EiW w) (KyP (FdC MC 1) (MC 43 (ix v)).toInt w r) r) (h2 : PqP (TpR MM v ∧ EiW w) (KyP (FdR MM 1) (MM 4 (ix v)).toInt w r') r') : r = r' := pq_fn h1 h2 ⟨fun z => ⟨(tp_iff hP).mp z.1, z.2⟩, fun z => ⟨(tp_iff hP).mpr z.1, z.2⟩⟩ (fun t a b => by
  rw [h.1.1, qq_e hq t.1] at a
  exact kyp_fn a b)
theorem mset_bk {G : Mem} {i : Nat} {x : Int32} (h : G 5 i = 0) : mset (mset G 5 i x) 5 i 0 = G := funext (fun a => funext (fun j => by
  by_cases c : a = 5 ∧ j = i
  · rw [c.1, c.2, mset_eq, h]
  · rw [mset_ne c, mset_ne c]))
theorem dry_5 {G : Mem} {i : Nat} (h : dryG G i) : G 5 i = 0 := t_of (by rw [h.2]; decide)
theorem fdc_su {M N : Mem} {b i : Nat} {v : Int32} (h : i < 40) (ht : tld (FdC M b) i) (hv : v = 0 ∨ v = 1) (e : N = mset M (b + 5) i (vp_nar .boolean v)) : FdC N b = mset (FdC M b) 5 i v := by
  rw [e, nar01 hv]
  unfold FdC at ht ⊢
  rw [rwC_set (by omega), mk_set h (by omega) (by omega) ht]

set_option maxHeartbeats 4000000 in
theorem ok_X9_firstNight (M : Mem) (v1 : Int32) (hL10 : (M 0 10).toInt = 44 ∨ (M 0 10).toInt = 52) (R : Nat) (F : Nat → Int × Int) (tb : Tbl) (hLc : ∀ c : Nat, (M 0 10).toInt = (c : Int) → LwC M c R F tb ∧ N5P M c F) (hQ : LwQ R F tb) (hGd : GdF (FdC M 1)) (hSr : SrC M) : Wp (f_X9_firstNight M v1) (fun q => (∀ a i, ¬ ((a = 13 ∧ i = 5) ∨ (a = 13 ∧ i = 6) ∨ a = 14 ∨ a = 15 ∨ a = 16 ∨ a = 17 ∨ a = 18 ∨ (a = 21 ∧ i = 1) ∨ (a = 21 ∧ i = 2) ∨ a = 22 ∨ a = 24 ∨ a = 26 ∨ a = 47 ∨ a = 55) → q.2 a i = M a i) ∧ (PqP (TpC M v1) (FnP R F tb (FdC M 1) (M 43 (ix v1)).toInt q.1.toInt) q.1)) := by
  refine wp_bind2 (oq_X9_strideOf M v1) (fun r_1 he2 hq2 => ?_)
  obtain ⟨hi_2, hv_2⟩ := hq2
  replace hi_2 : ¬ r_1.toInt = 0 ↔ TpC M v1 := hi_2
  replace hv_2 : ¬ r_1.toInt = 0 → r_1 = M 43 (ix v1) := hv_2
  refine wp_ite (fun c7 => ?_) (fun c7 => ?_)
  · exact wp_some ⟨(fun _ _ _ => rfl), (pq_n (fun z => hi_2.mpr z c7) rfl)⟩
  · have ht := hi_2.mp c7
    have es := hv_2 c7
    have sr := hSr (ix v1) (ix8 ht.1) ht.2
    refine wp_bind2 (o9_X2_copyAll (Or.inr (Or.inr rfl)) (Or.inl rfl) M (by omega)) (fun M_2 he20 hq20 => ?_)
    obtain ⟨hg_M_2, hcp_20⟩ := hq20
    replace hcp_20 : TdB (FdC M 1) → UdB (FdC M 1) → FdC M_2 13 = FdC M 1 := hcp_20
    replace hg_M_2 : ∀ a i, ¬ ((a = 13 ∧ i = 5) ∨ (a = 13 ∧ i = 6) ∨ a = 14 ∨ a = 15 ∨ a = 16 ∨ a = 17 ∨ a = 18) → M_2 a i = M a i := by exact fun a i q0 => hg_M_2 a i (by first | decide | (rcases hc0 with h | h <;> rw [h] <;> simp; done) | (rcases hb0 with h | h | h <;> rw [h] <;> simp; done) | (simp; done) | omega)
    have g2 : FdC M_2 13 = (FdC M 1) := hcp_20 hGd.1.1 hGd.1.2.1
    refine wp_lp2 (fun M25 y3_25 => (0 ≤ y3_25.toInt) ∧ (∀ a i, ¬ ((a = 13 ∧ i = 5) ∨ (a = 13 ∧ i = 6) ∨ a = 14 ∨ a = 15 ∨ a = 18 ∨ (a = 21 ∧ i = 1) ∨ (a = 21 ∧ i = 2) ∨ a = 22 ∨ a = 24 ∨ a = 26 ∨ a = 47 ∨ a = 55) → M25 a i = M_2 a i) ∧ (FdC M25 13 = ntk R F tb (FdC M 1) (ix y3_25) ∧ ∀ j, j < ix y3_25 → NCr (ntk R F tb (FdC M 1) j) (M 43 (ix v1)).toInt)) (fun M25 y3_25 => (60 + 1 - y3_25.toInt).toNat) (fun ag25 M25 y3_25 hI25 ih25 => ?_) FU M_2 (nI 0) ⟨(by have f0 := t_lit 0; omega), (fun _ _ _ => rfl), ⟨by rw [show ix (nI 0) = 0 from (by decide)]; exact g2, fun j hj => absurd hj (by rw [show ix (nI 0) = 0 from (by decide)]; omega)⟩⟩ (fu_lt (by have f0 := t_lit 0; omega))
    obtain ⟨hi25, hf_M25, h25⟩ := hI25
    have l25 : M25 0 10 = M 0 10 := by rw [hf_M25 0 10 (by first | decide | (rcases hc0 with h | h <;> rw [h] <;> simp; done) | (rcases hb0 with h | h | h <;> rw [h] <;> simp; done) | (simp; done) | omega), hg_M_2 0 10 (by first | decide | (rcases hc0 with h | h <;> rw [h] <;> simp; done) | (rcases hb0 with h | h | h <;> rw [h] <;> simp; done) | (simp; done) | omega)]
    refine wp_ite (fun c28 => ?_) (fun c28 => ?_)
    · exact wp_some ⟨(fun a i q0 => ((hf_M25 a i (fun z8 => q0 ((fun z9 => Or.elim z9 (fun h9 => Or.inl h9) (fun z9 => Or.elim z9 (fun h9 => Or.inr (Or.inl h9)) (fun z9 => Or.elim z9 (fun h9 => Or.inr (Or.inr (Or.inl h9))) (fun z9 => Or.elim z9 (fun h9 => Or.inr (Or.inr (Or.inr (Or.inl h9)))) (fun z9 => Or.elim z9 (fun h9 => Or.inr (Or.inr (Or.inr (Or.inr (Or.inr (Or.inr (Or.inl h9))))))) (fun z9 => Or.elim z9 (fun h9 => Or.inr (Or.inr (Or.inr (Or.inr (Or.inr (Or.inr (Or.inr (Or.inl h9)))))))) (fun z9 => Or.elim z9 (fun h9 => Or.inr (Or.inr (Or.inr (Or.inr (Or.inr (Or.inr (Or.inr (Or.inr (Or.inl h9))))))))) (fun z9 => Or.elim z9 (fun h9 => Or.inr (Or.inr (Or.inr (Or.inr (Or.inr (Or.inr (Or.inr (Or.inr (Or.inr (Or.inl h9)))))))))) (fun z9 => Or.elim z9 (fun h9 => Or.inr (Or.inr (Or.inr (Or.inr (Or.inr (Or.inr (Or.inr (Or.inr (Or.inr (Or.inr (Or.inl h9))))))))))) (fun z9 => Or.elim z9 (fun h9 => Or.inr (Or.inr (Or.inr (Or.inr (Or.inr (Or.inr (Or.inr (Or.inr (Or.inr (Or.inr (Or.inr (Or.inl h9)))))))))))) (fun z9 => Or.elim z9 (fun h9 => Or.inr (Or.inr (Or.inr (Or.inr (Or.inr (Or.inr (Or.inr (Or.inr (Or.inr (Or.inr (Or.inr (Or.inr (Or.inl h9))))))))))))) (fun h9 => Or.inr (Or.inr (Or.inr (Or.inr (Or.inr (Or.inr (Or.inr (Or.inr (Or.inr (Or.inr (Or.inr (Or.inr (Or.inr (h9))))))))))))))))))))))))) z8))).trans ((hg_M_2 a i (fun z8 => q0 ((fun z9 => Or.elim z9 (fun h9 => Or.inl h9) (fun z9 => Or.elim z9 (fun h9 => Or.inr (Or.inl h9)) (fun z9 => Or.elim z9 (fun h9 => Or.inr (Or.inr (Or.inl h9))) (fun z9 => Or.elim z9 (fun h9 => Or.inr (Or.inr (Or.inr (Or.inl h9)))) (fun z9 => Or.elim z9 (fun h9 => Or.inr (Or.inr (Or.inr (Or.inr (Or.inl h9))))) (fun z9 => Or.elim z9 (fun h9 => Or.inr (Or.inr (Or.inr (Or.inr (Or.inr (Or.inl h9)))))) (fun h9 => Or.inr (Or.inr (Or.inr (Or.inr (Or.inr (Or.inr (Or.inl h9))))))))))))) z8))).trans rfl))), (pq_y ht (Or.inr ⟨(show (-2 : Int32).toInt = -2 by decide), fun j hj => h25.2 j (by have := t_ixn y3_25 (by omega); omega)⟩))⟩
    · have i25 := t_ixn y3_25 (by omega)
      have u := i_up (x := y3_25) (by omega)
      refine wp_cb2 (ow_X8_canCross (Or.inr (Or.inr rfl)) M25 r_1 (by rw [es]; exact sr) (by rw [h25.1]; exact gd_ntk hGd _)) (fun r_3 M_4 he40 hq40 => ?_)
      obtain ⟨hz_r_3, hg_M_4, hcc_40⟩ := hq40
      replace hcc_40 : ∃ r : Int, CrK (FdC M25 13) r_1.toInt r ∧ (r_3.toInt = 0 ↔ r = -1) := hcc_40
      replace hg_M_4 : ∀ a i, ¬ (a = 24 ∨ a = 26) → M_4 a i = M25 a i := by exact fun a i q0 => hg_M_4 a i (by first | decide | (rcases hc0 with h | h <;> rw [h] <;> simp; done) | (rcases hb0 with h | h | h <;> rw [h] <;> simp; done) | (simp; done) | omega)
      rw [h25.1, es] at hcc_40
      have f4 : FdC M_4 13 = ntk R F tb (FdC M 1) (ix y3_25) := (fdc_fr (fun a i h1 h2 => hg_M_4 a i (by first | decide | (rcases hc0 with h | h <;> rw [h] <;> simp; done) | (rcases hb0 with h | h | h <;> rw [h] <;> simp; done) | (simp; done) | omega))).trans h25.1
      have l4 : M_4 0 10 = M 0 10 := (hg_M_4 0 10 (by first | decide | (rcases hc0 with h | h <;> rw [h] <;> simp; done) | (rcases hb0 with h | h | h <;> rw [h] <;> simp; done) | (simp; done) | omega)).trans l25
      refine wp_ite (fun c43 => ?_) (fun c43 => ?_)
      · refine wp_rl (by rw [l4]; exact hL10) (fun c_5 hc_5 ecc_5 => ?_)
        have hc_50 : c_5 = 44 ∨ c_5 = 52 := hc_5
        have q3 := hLc c_5 (by rw [← l4]; exact ecc_5)
        have fr4 : ∀ a i : Nat, (a = c_5 ∧ (i = 7 ∨ i = 8 ∨ i = 9)) ∨ a = c_5 + 1 ∨ a = c_5 + 2 ∨ a = c_5 + 4 ∨ a = c_5 + 5 ∨ a = c_5 + 6 ∨ a = c_5 + 7 → M_4 a i = M a i := fun a i q => by rw [hg_M_4 a i (by first | decide | (rcases hc0 with h | h <;> rw [h] <;> simp; done) | (rcases hb0 with h | h | h <;> rw [h] <;> simp; done) | (simp; done) | omega), hf_M25 a i (by first | decide | (rcases hc0 with h | h <;> rw [h] <;> simp; done) | (rcases hb0 with h | h | h <;> rw [h] <;> simp; done) | (simp; done) | omega), hg_M_2 a i (by first | decide | (rcases hc0 with h | h <;> rw [h] <;> simp; done) | (rcases hb0 with h | h | h <;> rw [h] <;> simp; done) | (simp; done) | omega)]
        refine wp_bind2 (o8_X5_pass (Or.inr (Or.inr rfl)) hc_5 M_4 (nI 1) R F tb (lwc_fr q3.1 (fun a i q => fr4 a i (by omega))) hQ (n5_fr q3.2 (fr4 c_5 9 (by omega)) (fr4 c_5 7 (by omega))) (by rw [f4]; exact gd_ntk hGd _)) (fun M_6 he61 hq61 => ?_)
        obtain ⟨hg_M_6, hps_61⟩ := hq61
        replace hps_61 : ngs R F tb (nI 1).toInt.toNat (FdC M_4 13, nI 0, nI 0) = (FdC M_6 13, M_6 21 1, M_6 21 2) := hps_61
        have := t_lit 1
        replace hg_M_6 : ∀ a i, ¬ ((a = 13 ∧ i = 5) ∨ (a = 13 ∧ i = 6) ∨ a = 14 ∨ a = 15 ∨ a = 18 ∨ (a = 21 ∧ i = 1) ∨ (a = 21 ∧ i = 2) ∨ a = 22 ∨ a = 47 ∨ a = 55) → M_6 a i = M_4 a i := by rcases hc_50 with e9 | e9 <;> subst e9 <;> exact fun a i q0 => hg_M_6 a i (by first | decide | (rcases hc0 with h | h <;> rw [h] <;> simp; done) | (rcases hb0 with h | h | h <;> rw [h] <;> simp; done) | (simp; done) | omega)
        rw [f4] at hps_61
        have n6 := nt1_is rfl hps_61
        exact ih25 M_6 (y3_25 + (nI 1)) ⟨(by have f0 := t_lit 1; have f1 := t_add y3_25 (nI 1); omega), (fun a i q0 => ((hg_M_6 a i (fun z8 => q0 ((fun z9 => Or.elim z9 (fun h9 => Or.inl h9) (fun z9 => Or.elim z9 (fun h9 => Or.inr (Or.inl h9)) (fun z9 => Or.elim z9 (fun h9 => Or.inr (Or.inr (Or.inl h9))) (fun z9 => Or.elim z9 (fun h9 => Or.inr (Or.inr (Or.inr (Or.inl h9)))) (fun z9 => Or.elim z9 (fun h9 => Or.inr (Or.inr (Or.inr (Or.inr (Or.inl h9))))) (fun z9 => Or.elim z9 (fun h9 => Or.inr (Or.inr (Or.inr (Or.inr (Or.inr (Or.inl h9)))))) (fun z9 => Or.elim z9 (fun h9 => Or.inr (Or.inr (Or.inr (Or.inr (Or.inr (Or.inr (Or.inl h9))))))) (fun z9 => Or.elim z9 (fun h9 => Or.inr (Or.inr (Or.inr (Or.inr (Or.inr (Or.inr (Or.inr (Or.inl h9)))))))) (fun z9 => Or.elim z9 (fun h9 => Or.inr (Or.inr (Or.inr (Or.inr (Or.inr (Or.inr (Or.inr (Or.inr (Or.inr (Or.inr (Or.inl h9))))))))))) (fun h9 => Or.inr (Or.inr (Or.inr (Or.inr (Or.inr (Or.inr (Or.inr (Or.inr (Or.inr (Or.inr (Or.inr (h9))))))))))))))))))))) z8))).trans ((hg_M_4 a i (fun z8 => q0 ((fun z9 => Or.elim z9 (fun h9 => Or.inr (Or.inr (Or.inr (Or.inr (Or.inr (Or.inr (Or.inr (Or.inr (Or.inl h9))))))))) (fun h9 => Or.inr (Or.inr (Or.inr (Or.inr (Or.inr (Or.inr (Or.inr (Or.inr (Or.inr (Or.inl h9))))))))))) z8))).trans ((hf_M25 a i (fun z8 => q0 ((fun z9 => Or.elim z9 (fun h9 => Or.inl h9) (fun z9 => Or.elim z9 (fun h9 => Or.inr (Or.inl h9)) (fun z9 => Or.elim z9 (fun h9 => Or.inr (Or.inr (Or.inl h9))) (fun z9 => Or.elim z9 (fun h9 => Or.inr (Or.inr (Or.inr (Or.inl h9)))) (fun z9 => Or.elim z9 (fun h9 => Or.inr (Or.inr (Or.inr (Or.inr (Or.inl h9))))) (fun z9 => Or.elim z9 (fun h9 => Or.inr (Or.inr (Or.inr (Or.inr (Or.inr (Or.inl h9)))))) (fun z9 => Or.elim z9 (fun h9 => Or.inr (Or.inr (Or.inr (Or.inr (Or.inr (Or.inr (Or.inl h9))))))) (fun z9 => Or.elim z9 (fun h9 => Or.inr (Or.inr (Or.inr (Or.inr (Or.inr (Or.inr (Or.inr (Or.inl h9)))))))) (fun z9 => Or.elim z9 (fun h9 => Or.inr (Or.inr (Or.inr (Or.inr (Or.inr (Or.inr (Or.inr (Or.inr (Or.inl h9))))))))) (fun z9 => Or.elim z9 (fun h9 => Or.inr (Or.inr (Or.inr (Or.inr (Or.inr (Or.inr (Or.inr (Or.inr (Or.inr (Or.inl h9)))))))))) (fun z9 => Or.elim z9 (fun h9 => Or.inr (Or.inr (Or.inr (Or.inr (Or.inr (Or.inr (Or.inr (Or.inr (Or.inr (Or.inr (Or.inl h9))))))))))) (fun h9 => Or.inr (Or.inr (Or.inr (Or.inr (Or.inr (Or.inr (Or.inr (Or.inr (Or.inr (Or.inr (Or.inr (h9))))))))))))))))))))))) z8))).trans rfl)))), ⟨by rw [u.1]; exact n6, by rw [u.1]; exact nc_up h25.2 (cc_n hcc_40 c43)⟩⟩ (by have f0 := t_lit 1; have f1 := t_add y3_25 (nI 1); omega)
      · exact wp_some ⟨(fun a i q0 => ((hg_M_4 a i (fun z8 => q0 ((fun z9 => Or.elim z9 (fun h9 => Or.inr (Or.inr (Or.inr (Or.inr (Or.inr (Or.inr (Or.inr (Or.inr (Or.inr (Or.inr (Or.inl h9))))))))))) (fun h9 => Or.inr (Or.inr (Or.inr (Or.inr (Or.inr (Or.inr (Or.inr (Or.inr (Or.inr (Or.inr (Or.inr (Or.inl h9))))))))))))) z8))).trans ((hf_M25 a i (fun z8 => q0 ((fun z9 => Or.elim z9 (fun h9 => Or.inl h9) (fun z9 => Or.elim z9 (fun h9 => Or.inr (Or.inl h9)) (fun z9 => Or.elim z9 (fun h9 => Or.inr (Or.inr (Or.inl h9))) (fun z9 => Or.elim z9 (fun h9 => Or.inr (Or.inr (Or.inr (Or.inl h9)))) (fun z9 => Or.elim z9 (fun h9 => Or.inr (Or.inr (Or.inr (Or.inr (Or.inr (Or.inr (Or.inl h9))))))) (fun z9 => Or.elim z9 (fun h9 => Or.inr (Or.inr (Or.inr (Or.inr (Or.inr (Or.inr (Or.inr (Or.inl h9)))))))) (fun z9 => Or.elim z9 (fun h9 => Or.inr (Or.inr (Or.inr (Or.inr (Or.inr (Or.inr (Or.inr (Or.inr (Or.inl h9))))))))) (fun z9 => Or.elim z9 (fun h9 => Or.inr (Or.inr (Or.inr (Or.inr (Or.inr (Or.inr (Or.inr (Or.inr (Or.inr (Or.inl h9)))))))))) (fun z9 => Or.elim z9 (fun h9 => Or.inr (Or.inr (Or.inr (Or.inr (Or.inr (Or.inr (Or.inr (Or.inr (Or.inr (Or.inr (Or.inl h9))))))))))) (fun z9 => Or.elim z9 (fun h9 => Or.inr (Or.inr (Or.inr (Or.inr (Or.inr (Or.inr (Or.inr (Or.inr (Or.inr (Or.inr (Or.inr (Or.inl h9)))))))))))) (fun z9 => Or.elim z9 (fun h9 => Or.inr (Or.inr (Or.inr (Or.inr (Or.inr (Or.inr (Or.inr (Or.inr (Or.inr (Or.inr (Or.inr (Or.inr (Or.inl h9))))))))))))) (fun h9 => Or.inr (Or.inr (Or.inr (Or.inr (Or.inr (Or.inr (Or.inr (Or.inr (Or.inr (Or.inr (Or.inr (Or.inr (Or.inr (h9))))))))))))))))))))))))) z8))).trans ((hg_M_2 a i (fun z8 => q0 ((fun z9 => Or.elim z9 (fun h9 => Or.inl h9) (fun z9 => Or.elim z9 (fun h9 => Or.inr (Or.inl h9)) (fun z9 => Or.elim z9 (fun h9 => Or.inr (Or.inr (Or.inl h9))) (fun z9 => Or.elim z9 (fun h9 => Or.inr (Or.inr (Or.inr (Or.inl h9)))) (fun z9 => Or.elim z9 (fun h9 => Or.inr (Or.inr (Or.inr (Or.inr (Or.inl h9))))) (fun z9 => Or.elim z9 (fun h9 => Or.inr (Or.inr (Or.inr (Or.inr (Or.inr (Or.inl h9)))))) (fun h9 => Or.inr (Or.inr (Or.inr (Or.inr (Or.inr (Or.inr (Or.inl h9))))))))))))) z8))).trans rfl)))), (pq_y ht (Or.inl ⟨ix y3_25, by omega, (show y3_25.toInt = _ by omega), cc_y hcc_40 c43, h25.2⟩))⟩
set_option maxHeartbeats 4000000 in
theorem ok_X10_firstNight (M : Mem) (v1 : Int32) (R : Nat) (F : Nat → Int × Int) (tb : Tbl) (hL : LwR M R F tb) (hQ : LwQ R F tb) (hGd : GdF (FdR M 1)) (hSr : SrR M) : Wp (f_X10_firstNight M v1) (fun q => (∀ a i, ¬ ((a = 0 ∧ i = 34) ∨ (a = 0 ∧ i = 35) ∨ a = 1 ∨ a = 2 ∨ a = 17 ∨ a = 18 ∨ a = 23 ∨ a = 25) → q.2 a i = M a i) ∧ (ST (q.2 1)) ∧ (FdR q.2 1 = (FdR M 1)) ∧ (PqP (TpR M v1) (FnP R F tb (FdR M 1) (M 4 (ix v1)).toInt q.1.toInt) q.1)) := by
  refine wp_bind2 (oq_X10_isPerson M v1) (fun r_1 he2 hq2 => ?_)
  obtain ⟨hz_r_1, hr_2, hi_2⟩ := hq2
  replace hr_2 : ¬ r_1.toInt = 0 → 0 ≤ v1.toInt ∧ v1.toInt < 8 := hr_2
  replace hi_2 : ¬ r_1.toInt = 0 ↔ TpR M v1 := hi_2
  refine wp_ite (fun c5 => ?_) (fun c5 => ?_)
  · exact wp_some ⟨(fun _ _ _ => rfl), (st_gd hGd), rfl, (pq_n (fun z => hi_2.mpr z c5) rfl)⟩
  · have ht := hi_2.mp c5
    have sr := hSr v1 ht
    refine wp_bind2 (o_X10_copies (by decide) (by decide) M (by omega) (by omega)) (fun M_2 he18 hq18 => ?_)
    obtain ⟨hg_M_2, hc_18⟩ := hq18
    replace hc_18 : ∀ j : Nat, j < 202 → M_2 2 j = M 1 j := hc_18
    replace hg_M_2 : ∀ a i, ¬ (a = 2) → M_2 a i = M a i := by exact fun a i q0 => hg_M_2 a i (by first | decide | (rcases hc0 with h | h <;> rw [h] <;> simp; done) | (rcases hb0 with h | h | h <;> rw [h] <;> simp; done) | (simp; done) | omega)
    have f2 : FdR M_2 1 = (FdR M 1) := fdr_same (fun j hj => hg_M_2 1 j (by first | decide | (rcases hc0 with h | h <;> rw [h] <;> simp; done) | (rcases hb0 with h | h | h <;> rw [h] <;> simp; done) | (simp; done) | omega))
    have s2 : M_2 4 (ix v1) = M 4 (ix v1) := hg_M_2 4 _ (by first | decide | (rcases hc0 with h | h <;> rw [h] <;> simp; done) | (rcases hb0 with h | h | h <;> rw [h] <;> simp; done) | (simp; done) | omega)
    refine wp_gd (by omega) ?_
    refine wp_cb2 (ow_X10_crossing M_2 (M_2 4 (ix v1)) (by rw [s2]; omega) (by rw [f2]; exact hGd)) (fun r_3 M_4 he30 hq30 => ?_)
    obtain ⟨hg_M_4, hcr_30, hst_30⟩ := hq30
    replace hcr_30 : CrK (FdR M_2 1) (M_2 4 (ix v1)).toInt r_3.toInt := hcr_30
    replace hst_30 : (M_2 4 (ix v1)).toInt < 21 → Bend 40 (nearG (FdR M_2 1) (M_2 4 (ix v1)).toInt) (adjG (FdR M_2 1) (M_2 4 (ix v1)).toInt) (fun j => (M_4 23 j).toInt) := hst_30
    replace hg_M_4 : ∀ a i, ¬ (a = 23 ∨ a = 25) → M_4 a i = M_2 a i := hg_M_4
    rw [f2, s2] at hcr_30
    have f4 : FdR M_4 1 = (FdR M 1) := (fdr_same (fun j hj => hg_M_4 1 j (by first | decide | (rcases hc0 with h | h <;> rw [h] <;> simp; done) | (rcases hb0 with h | h | h <;> rw [h] <;> simp; done) | (simp; done) | omega))).trans f2
    have j42 : ∀ (t0_42 : Int32), (t0_42 = 0 ∨ t0_42 = 1) → ((t0_42.toInt = 0 → NCr (ntk R F tb (FdR M 1) 0) (M 4 (ix v1)).toInt) ∧ (¬ t0_42.toInt = 0 → CAn (ntk R F tb (FdR M 1) 0) (M 4 (ix v1)).toInt)) → Wp (f_X10_firstNight_L42 v1 M_4 t0_42) (fun q => (∀ a i, ¬ ((a = 0 ∧ i = 34) ∨ (a = 0 ∧ i = 35) ∨ a = 1 ∨ a = 2 ∨ a = 17 ∨ a = 18 ∨ a = 23 ∨ a = 25) → q.2 a i = M a i) ∧ (ST (q.2 1)) ∧ (FdR q.2 1 = (FdR M 1)) ∧ (PqP (TpR M v1) (FnP R F tb (FdR M 1) (M 4 (ix v1)).toInt q.1.toInt) q.1)) := by
      intro t0_42 hb_t0_42 h42
      unfold f_X10_firstNight_L42
      refine wp_lp3 (fun M43 y2_43 y3_43 => (∀ a i, ¬ ((a = 0 ∧ i = 34) ∨ (a = 0 ∧ i = 35) ∨ a = 1 ∨ a = 17 ∨ a = 18 ∨ a = 23 ∨ a = 25) → M43 a i = M_4 a i) ∧ (0 ≤ y2_43.toInt ∧ y2_43.toInt ≤ 60) ∧ (FdR M43 1 = ntk R F tb (FdR M 1) (ix y2_43) ∧ (∀ j, j < ix y2_43 → NCr (ntk R F tb (FdR M 1) j) (M 4 (ix v1)).toInt) ∧ (y3_43.toInt = 0 → NCr (ntk R F tb (FdR M 1) (ix y2_43)) (M 4 (ix v1)).toInt) ∧ (¬ y3_43.toInt = 0 → CAn (ntk R F tb (FdR M 1) (ix y2_43)) (M 4 (ix v1)).toInt)) ∧ (∀ j : Nat, j < 202 → M43 2 j = M 1 j)) (fun M43 y2_43 y3_43 => (if y3_43.toInt = 0 then 1 + (60 - y2_43.toInt).toNat else 0)) (fun ag43 M43 y2_43 y3_43 hI43 ih43 => ?_) FU M_4 (nI 0) t0_42 ⟨(fun _ _ _ => rfl), (by decide), ⟨by rw [show ix (nI 0) = 0 from (by decide)]; exact f4, fun j hj => absurd hj (by rw [show ix (nI 0) = 0 from (by decide)]; omega), by rw [show ix (nI 0) = 0 from (by decide)]; exact h42⟩, (fun j hj => by rw [hg_M_4 2 j (by first | decide | (rcases hc0 with h | h <;> rw [h] <;> simp; done) | (rcases hb0 with h | h | h <;> rw [h] <;> simp; done) | (simp; done) | omega)]; exact hc_18 j hj)⟩ (fu_lt ((by have f0 := t_lit 0; split <;> omega)))
      obtain ⟨hf_M43, k43, h43, h2⟩ := hI43
      have hL43 : LwR M43 R F tb := lwr_fr hL (fun a i q => by rw [hf_M43 a i (by first | decide | (rcases hc0 with h | h <;> rw [h] <;> simp; done) | (rcases hb0 with h | h | h <;> rw [h] <;> simp; done) | (simp; done) | omega), hg_M_4 a i (by first | decide | (rcases hc0 with h | h <;> rw [h] <;> simp; done) | (rcases hb0 with h | h | h <;> rw [h] <;> simp; done) | (simp; done) | omega), hg_M_2 a i (by first | decide | (rcases hc0 with h | h <;> rw [h] <;> simp; done) | (rcases hb0 with h | h | h <;> rw [h] <;> simp; done) | (simp; done) | omega)])
      have r4 : ∀ p, M43 4 p = M 4 p := fun p => by rw [hf_M43 4 p (by first | decide | (rcases hc0 with h | h <;> rw [h] <;> simp; done) | (rcases hb0 with h | h | h <;> rw [h] <;> simp; done) | (simp; done) | omega), hg_M_4 4 p (by first | decide | (rcases hc0 with h | h <;> rw [h] <;> simp; done) | (rcases hb0 with h | h | h <;> rw [h] <;> simp; done) | (simp; done) | omega), hg_M_2 4 p (by first | decide | (rcases hc0 with h | h <;> rw [h] <;> simp; done) | (rcases hb0 with h | h | h <;> rw [h] <;> simp; done) | (simp; done) | omega)]
      have i43 := t_ixn y2_43 k43.1
      have j85 : (y3_43.toInt = 0 → 60 ≤ y2_43.toInt) → Wp (f_X10_firstNight_L85 M43 y2_43 y3_43) (fun q => (∀ a i, ¬ ((a = 0 ∧ i = 34) ∨ (a = 0 ∧ i = 35) ∨ a = 1 ∨ a = 2 ∨ a = 17 ∨ a = 18 ∨ a = 23 ∨ a = 25) → q.2 a i = M a i) ∧ (ST (q.2 1)) ∧ (FdR q.2 1 = (FdR M 1)) ∧ (PqP (TpR M v1) (FnP R F tb (FdR M 1) (M 4 (ix v1)).toInt q.1.toInt) q.1)) := by
        intro h85
        unfold f_X10_firstNight_L85
        refine wp_bind2 (o_X10_copies (by decide) (by decide) M43 (by omega) (by omega)) (fun M_5 he93 hq93 => ?_)
        obtain ⟨hg_M_5, hc_93⟩ := hq93
        replace hc_93 : ∀ j : Nat, j < 202 → M_5 1 j = M43 2 j := hc_93
        replace hg_M_5 : ∀ a i, ¬ (a = 1) → M_5 a i = M43 a i := by exact fun a i q0 => hg_M_5 a i (by first | decide | (rcases hc0 with h | h <;> rw [h] <;> simp; done) | (rcases hb0 with h | h | h <;> rw [h] <;> simp; done) | (simp; done) | omega)
        have hF5 : FdR M_5 1 = (FdR M 1) := fdr_same (fun j hj => by rw [hc_93 j (by omega)]; exact h2 j (by omega))
        refine wp_ite (fun c97 => ?_) (fun c97 => ?_)
        · exact wp_some ⟨(fun a i q0 => ((hg_M_5 a i (fun h9 => q0 (Or.inr (Or.inr (Or.inl h9))))).trans ((hf_M43 a i (fun z8 => q0 ((fun z9 => Or.elim z9 (fun h9 => Or.inl h9) (fun z9 => Or.elim z9 (fun h9 => Or.inr (Or.inl h9)) (fun z9 => Or.elim z9 (fun h9 => Or.inr (Or.inr (Or.inl h9))) (fun z9 => Or.elim z9 (fun h9 => Or.inr (Or.inr (Or.inr (Or.inr (Or.inl h9))))) (fun z9 => Or.elim z9 (fun h9 => Or.inr (Or.inr (Or.inr (Or.inr (Or.inr (Or.inl h9)))))) (fun z9 => Or.elim z9 (fun h9 => Or.inr (Or.inr (Or.inr (Or.inr (Or.inr (Or.inr (Or.inl h9))))))) (fun h9 => Or.inr (Or.inr (Or.inr (Or.inr (Or.inr (Or.inr (Or.inr (h9)))))))))))))) z8))).trans ((hg_M_4 a i (fun z8 => q0 ((fun z9 => Or.elim z9 (fun h9 => Or.inr (Or.inr (Or.inr (Or.inr (Or.inr (Or.inr (Or.inl h9))))))) (fun h9 => Or.inr (Or.inr (Or.inr (Or.inr (Or.inr (Or.inr (Or.inr (h9))))))))) z8))).trans ((hg_M_2 a i (fun h9 => q0 (Or.inr (Or.inr (Or.inr (Or.inl h9)))))).trans rfl))))), (st_gd (by show GdF (FdR M_5 1); rw [hF5]; exact hGd)), hF5, (pq_y ht (Or.inr ⟨(show (-2 : Int32).toInt = -2 by decide), fun j hj => (nc_up h43.2.1 (h43.2.2.1 c97)) j (by have := h85 c97; omega)⟩))⟩
        · exact wp_some ⟨(fun a i q0 => ((hg_M_5 a i (fun h9 => q0 (Or.inr (Or.inr (Or.inl h9))))).trans ((hf_M43 a i (fun z8 => q0 ((fun z9 => Or.elim z9 (fun h9 => Or.inl h9) (fun z9 => Or.elim z9 (fun h9 => Or.inr (Or.inl h9)) (fun z9 => Or.elim z9 (fun h9 => Or.inr (Or.inr (Or.inl h9))) (fun z9 => Or.elim z9 (fun h9 => Or.inr (Or.inr (Or.inr (Or.inr (Or.inl h9))))) (fun z9 => Or.elim z9 (fun h9 => Or.inr (Or.inr (Or.inr (Or.inr (Or.inr (Or.inl h9)))))) (fun z9 => Or.elim z9 (fun h9 => Or.inr (Or.inr (Or.inr (Or.inr (Or.inr (Or.inr (Or.inl h9))))))) (fun h9 => Or.inr (Or.inr (Or.inr (Or.inr (Or.inr (Or.inr (Or.inr (h9)))))))))))))) z8))).trans ((hg_M_4 a i (fun z8 => q0 ((fun z9 => Or.elim z9 (fun h9 => Or.inr (Or.inr (Or.inr (Or.inr (Or.inr (Or.inr (Or.inl h9))))))) (fun h9 => Or.inr (Or.inr (Or.inr (Or.inr (Or.inr (Or.inr (Or.inr (h9))))))))) z8))).trans ((hg_M_2 a i (fun h9 => q0 (Or.inr (Or.inr (Or.inr (Or.inl h9)))))).trans rfl))))), (st_gd (by show GdF (FdR M_5 1); rw [hF5]; exact hGd)), hF5, (pq_y ht (Or.inl ⟨ix y2_43, by omega, (show y2_43.toInt = _ by omega), h43.2.2.2 c97, h43.2.1⟩))⟩
      refine wp_ite (fun c44 => ?_) (fun c44 => ?_)
      · refine wp_ite (fun c50 => ?_) (fun c50 => ?_)
        · exact j85 (fun _ => c50)
        · have u := i_up (x := y2_43) (by omega)
          refine wp_bind2 (o8_X10_nightsGo M43 (nI 1) R F tb hL43 hQ (by rw [h43.1]; exact gd_ntk hGd _)) (fun M_6 he55 hq55 => ?_)
          obtain ⟨hg_M_6, hst_55, hps_55⟩ := hq55
          replace hst_55 : ST (M_6 1) := hst_55
          have := t_lit 1
          replace hps_55 : ngs R F tb (nI 1).toInt.toNat (FdR M43 1, nI 0, nI 0) = (FdR M_6 1, M_6 0 34, M_6 0 35) := hps_55
          have := t_lit 1
          replace hg_M_6 : ∀ a i, ¬ ((a = 0 ∧ i = 34) ∨ (a = 0 ∧ i = 35) ∨ a = 1 ∨ a = 17 ∨ a = 18) → M_6 a i = M43 a i := hg_M_6
          rw [h43.1] at hps_55
          have n6 := nt1_is rfl hps_55
          have s6 : M_6 4 (ix v1) = M 4 (ix v1) := (hg_M_6 4 _ (by first | decide | (rcases hc0 with h | h <;> rw [h] <;> simp; done) | (rcases hb0 with h | h | h <;> rw [h] <;> simp; done) | (simp; done) | omega)).trans (r4 _)
          refine wp_gd (by omega) ?_
          refine wp_cb2 (ow_X10_crossing M_6 (M_6 4 (ix v1)) (by rw [s6]; omega) (by rw [n6]; exact gd_ntk hGd (ix y2_43 + 1))) (fun r_7 M_8 he69 hq69 => ?_)
          obtain ⟨hg_M_8, hcr_69, hst_69⟩ := hq69
          replace hcr_69 : CrK (FdR M_6 1) (M_6 4 (ix v1)).toInt r_7.toInt := hcr_69
          replace hst_69 : (M_6 4 (ix v1)).toInt < 21 → Bend 40 (nearG (FdR M_6 1) (M_6 4 (ix v1)).toInt) (adjG (FdR M_6 1) (M_6 4 (ix v1)).toInt) (fun j => (M_8 23 j).toInt) := hst_69
          replace hg_M_8 : ∀ a i, ¬ (a = 23 ∨ a = 25) → M_8 a i = M_6 a i := hg_M_8
          rw [n6, s6] at hcr_69
          have f8 : FdR M_8 1 = ntk R F tb (FdR M 1) (ix y2_43 + 1) := (fdr_same (fun j hj => hg_M_8 1 j (by first | decide | (rcases hc0 with h | h <;> rw [h] <;> simp; done) | (rcases hb0 with h | h | h <;> rw [h] <;> simp; done) | (simp; done) | omega))).trans n6
          refine wp_ite (fun c73 => ?_) (fun c73 => ?_)
          · exact ih43 M_8 (y2_43 + (nI 1)) (nI 0) ⟨(fun a i q0 => ((hg_M_8 a i (fun z8 => q0 ((fun z9 => Or.elim z9 (fun h9 => Or.inr (Or.inr (Or.inr (Or.inr (Or.inr (Or.inl h9)))))) (fun h9 => Or.inr (Or.inr (Or.inr (Or.inr (Or.inr (Or.inr (h9)))))))) z8))).trans ((hg_M_6 a i (fun z8 => q0 ((fun z9 => Or.elim z9 (fun h9 => Or.inl h9) (fun z9 => Or.elim z9 (fun h9 => Or.inr (Or.inl h9)) (fun z9 => Or.elim z9 (fun h9 => Or.inr (Or.inr (Or.inl h9))) (fun z9 => Or.elim z9 (fun h9 => Or.inr (Or.inr (Or.inr (Or.inl h9)))) (fun h9 => Or.inr (Or.inr (Or.inr (Or.inr (Or.inl h9))))))))) z8))).trans ((hf_M43 a i (fun z8 => q0 ((fun z9 => Or.elim z9 (fun h9 => Or.inl h9) (fun z9 => Or.elim z9 (fun h9 => Or.inr (Or.inl h9)) (fun z9 => Or.elim z9 (fun h9 => Or.inr (Or.inr (Or.inl h9))) (fun z9 => Or.elim z9 (fun h9 => Or.inr (Or.inr (Or.inr (Or.inl h9)))) (fun z9 => Or.elim z9 (fun h9 => Or.inr (Or.inr (Or.inr (Or.inr (Or.inl h9))))) (fun z9 => Or.elim z9 (fun h9 => Or.inr (Or.inr (Or.inr (Or.inr (Or.inr (Or.inl h9)))))) (fun h9 => Or.inr (Or.inr (Or.inr (Or.inr (Or.inr (Or.inr (h9))))))))))))) z8))).trans rfl)))), ⟨by rw [u.2]; omega, by rw [u.2]; omega⟩, ⟨by rw [u.1]; exact f8, by rw [u.1]; exact nc_up h43.2.1 (h43.2.2.1 c44), by rw [u.1]; exact ⟨fun _ => cr_n hcr_69 c73, fun z => absurd nI0 z⟩⟩, (fun j hj => by rw [hg_M_8 2 j (by first | decide | (rcases hc0 with h | h <;> rw [h] <;> simp; done) | (rcases hb0 with h | h | h <;> rw [h] <;> simp; done) | (simp; done) | omega), hg_M_6 2 j (by first | decide | (rcases hc0 with h | h <;> rw [h] <;> simp; done) | (rcases hb0 with h | h | h <;> rw [h] <;> simp; done) | (simp; done) | omega)]; exact h2 j hj)⟩ (by rw [u.2, if_pos c44]; rw [if_pos nI0]; omega)
          · exact ih43 M_8 (y2_43 + (nI 1)) (nI 1) ⟨(fun a i q0 => ((hg_M_8 a i (fun z8 => q0 ((fun z9 => Or.elim z9 (fun h9 => Or.inr (Or.inr (Or.inr (Or.inr (Or.inr (Or.inl h9)))))) (fun h9 => Or.inr (Or.inr (Or.inr (Or.inr (Or.inr (Or.inr (h9)))))))) z8))).trans ((hg_M_6 a i (fun z8 => q0 ((fun z9 => Or.elim z9 (fun h9 => Or.inl h9) (fun z9 => Or.elim z9 (fun h9 => Or.inr (Or.inl h9)) (fun z9 => Or.elim z9 (fun h9 => Or.inr (Or.inr (Or.inl h9))) (fun z9 => Or.elim z9 (fun h9 => Or.inr (Or.inr (Or.inr (Or.inl h9)))) (fun h9 => Or.inr (Or.inr (Or.inr (Or.inr (Or.inl h9))))))))) z8))).trans ((hf_M43 a i (fun z8 => q0 ((fun z9 => Or.elim z9 (fun h9 => Or.inl h9) (fun z9 => Or.elim z9 (fun h9 => Or.inr (Or.inl h9)) (fun z9 => Or.elim z9 (fun h9 => Or.inr (Or.inr (Or.inl h9))) (fun z9 => Or.elim z9 (fun h9 => Or.inr (Or.inr (Or.inr (Or.inl h9)))) (fun z9 => Or.elim z9 (fun h9 => Or.inr (Or.inr (Or.inr (Or.inr (Or.inl h9))))) (fun z9 => Or.elim z9 (fun h9 => Or.inr (Or.inr (Or.inr (Or.inr (Or.inr (Or.inl h9)))))) (fun h9 => Or.inr (Or.inr (Or.inr (Or.inr (Or.inr (Or.inr (h9))))))))))))) z8))).trans rfl)))), ⟨by rw [u.2]; omega, by rw [u.2]; omega⟩, ⟨by rw [u.1]; exact f8, by rw [u.1]; exact nc_up h43.2.1 (h43.2.2.1 c44), by rw [u.1]; exact ⟨fun z => absurd z ne1, fun _ => cr_y hcr_69 c73⟩⟩, (fun j hj => by rw [hg_M_8 2 j (by first | decide | (rcases hc0 with h | h <;> rw [h] <;> simp; done) | (rcases hb0 with h | h | h <;> rw [h] <;> simp; done) | (simp; done) | omega), hg_M_6 2 j (by first | decide | (rcases hc0 with h | h <;> rw [h] <;> simp; done) | (rcases hb0 with h | h | h <;> rw [h] <;> simp; done) | (simp; done) | omega)]; exact h2 j hj)⟩ (by rw [u.2, if_pos c44]; rw [if_neg ne1]; omega)
      · exact j85 (fun z => absurd z c44)
    refine wp_ite (fun c34 => ?_) (fun c34 => ?_)
    · exact j42 (nI 0) b01_0 ⟨fun _ => cr_n hcr_30 c34, fun z => absurd nI0 z⟩
    · exact j42 (nI 1) b01_1 ⟨fun z => absurd z ne1, fun _ => cr_y hcr_30 c34⟩
theorem ok_X9_isEither (M : Mem) (v0 : Int32) : Wp (f_X9_isEither v0) (fun q => (q = 0 ∨ q = 1) ∧ (¬ q.toInt = 0 ↔ 0 ≤ v0.toInt ∧ v0.toInt ≤ 1)) := by
  refine wp_ite (fun c1 => ?_) (fun c1 => ?_)
  · exact wp_some ⟨b01_1, ⟨fun _ => by omega, fun _ => by decide⟩⟩
  · refine wp_ite (fun c6 => ?_) (fun c6 => ?_)
    · exact wp_some ⟨b01_1, ⟨fun _ => by omega, fun _ => by decide⟩⟩
    · exact wp_some ⟨b01_0, ⟨fun z => absurd nI0 z, fun z => absurd z (by omega)⟩⟩
theorem ok_X8_needs {b : Nat} (hb : isF b) (M : Mem) (v2 : Int32) (v3 : Int32) (hs : 1 ≤ v2.toInt ∧ v2.toInt ≤ 30) (hGd : GdF (FdC M b)) : Wp (f_X8_needs b M v2 v3) (fun q => (q.1 = 0 ∨ q.1 = 1) ∧ (∀ a i, ¬ (a = 24 ∨ a = 26 ∨ a = (b + 5)) → q.2 a i = M a i) ∧ ((¬ q.1.toInt = 0 ↔ (0 ≤ v3.toInt ∧ v3.toInt < 40) ∧ keyG (FdC M b) v2.toInt (ix v3)) ∧ FdC q.2 b = (FdC M b))) := by
  have hb0 : b = 1 ∨ b = 7 ∨ b = 13 := hb
  refine wp_bind2 (ow_X2_isDry hb M v3) (fun r_1 he2 hq2 => ?_)
  obtain ⟨hz_r_1, hr_2, hd_2⟩ := hq2
  replace hr_2 : ¬ r_1.toInt = 0 → 0 ≤ v3.toInt ∧ v3.toInt < 40 := hr_2
  replace hd_2 : ¬ r_1.toInt = 0 ↔ (0 ≤ v3.toInt ∧ v3.toInt < 40) ∧ dryG (FdC M b) (ix v3) := hd_2
  refine wp_ite (fun c5 => ?_) (fun c5 => ?_)
  · exact wp_some ⟨b01_0, (fun _ _ _ => rfl), ⟨⟨fun z => absurd nI0 z, fun z => (hd_2.mpr ⟨z.1, z.2.1⟩ c5 : False).elim⟩, rfl⟩⟩
  · have d := hd_2.mp c5
    refine wp_gd (by omega) ?_
    refine wp_bnd (fun M_2 eM_2 => ?_)
    have f2 := fdc_su (b := b) d.2.1.1 d.2.1.2 (Or.inr (by decide)) eM_2
    rw [show nI 1 = 1 from (by decide)] at f2
    have g2 : GdF (FdC M_2 b) := by rw [f2]; exact gd_5 hGd (Or.inr rfl)
    refine wp_cb2 (ow_X8_canCross hb M_2 v2 hs g2) (fun r_3 M_4 he20 hq20 => ?_)
    obtain ⟨hz_r_3, hg_M_4, hcc_20⟩ := hq20
    replace hcc_20 : ∃ r : Int, CrK (FdC M_2 b) v2.toInt r ∧ (r_3.toInt = 0 ↔ r = -1) := hcc_20
    replace hg_M_4 : ∀ a i, ¬ (a = 24 ∨ a = 26) → M_4 a i = M_2 a i := by exact fun a i q0 => hg_M_4 a i (by first | decide | (rcases hc0 with h | h <;> rw [h] <;> simp; done) | (rcases hb0 with h | h | h <;> rw [h] <;> simp; done) | (simp; done) | omega)
    rw [f2] at hcc_20
    have f4 : FdC M_4 b = mset (FdC M b) 5 (ix v3) 1 := (fdc_fr (fun a i h1 h2 => hg_M_4 a i (by first | decide | (rcases hc0 with h | h <;> rw [h] <;> simp; done) | (rcases hb0 with h | h | h <;> rw [h] <;> simp; done) | (simp; done) | omega))).trans f2
    have t4 : tld (FdC M_4 b) (ix v3) := by
      rw [f4]
      unfold tld
      rw [mset_ne (by first | exact nz1 (by decide) | exact nz2 (by decide) | exact nz1 (nzA hc0 (by decide)) | exact nz1 (nzE (by decide)) | exact nz1 (nzB hc0 (by decide)) | exact nz1 (nzC hc0 (by decide)) | exact nz1 (nzD hc0 (by decide)) | exact nz1 (nzF (by decide)) | exact nz1 (nzG (by decide)) | omega)]
      exact d.2.1.2
    have j31 : ∀ (t0_31 : Int32), (t0_31 = 0 ∨ t0_31 = 1) → (¬ t0_31.toInt = 0 ↔ NCr (mset (FdC M b) 5 (ix v3) 1) v2.toInt) → Wp (f_X8_needs_L31 b v3 M_4 t0_31) (fun q => (q.1 = 0 ∨ q.1 = 1) ∧ (∀ a i, ¬ (a = 24 ∨ a = 26 ∨ a = (b + 5)) → q.2 a i = M a i) ∧ ((¬ q.1.toInt = 0 ↔ (0 ≤ v3.toInt ∧ v3.toInt < 40) ∧ keyG (FdC M b) v2.toInt (ix v3)) ∧ FdC q.2 b = (FdC M b))) := by
      intro t0_31 hb_t0_31 h31
      unfold f_X8_needs_L31
      refine wp_gd (by omega) ?_
      refine wp_bnd (fun M_5 eM_5 => ?_)
      have f5 := fdc_su (b := b) d.2.1.1 t4 (Or.inl (by decide)) eM_5
      rw [show nI 0 = 0 from (by decide), f4, mset_bk (dry_5 d.2)] at f5
      refine wp_gb hb_t0_31 ?_
      exact wp_some ⟨hb_t0_31, (fun a i q0 => ((congrFun (congrFun eM_5 a) i).trans ((mset_ne (fun h9 => q0 (Or.inr (Or.inr ((h9).1))))).trans ((hg_M_4 a i (fun z8 => q0 ((fun z9 => Or.elim z9 (fun h9 => Or.inl h9) (fun h9 => Or.inr (Or.inl h9))) z8))).trans ((congrFun (congrFun eM_2 a) i).trans ((mset_ne (fun h9 => q0 (Or.inr (Or.inr ((h9).1))))).trans rfl)))))), ⟨⟨fun z => ⟨d.1, d.2, h31.mp z⟩, fun z => h31.mpr z.2.2⟩, f5⟩⟩
    refine wp_ite (fun c23 => ?_) (fun c23 => ?_)
    · exact j31 (nI 1) b01_1 ⟨fun _ => cc_n hcc_20 c23, fun _ => ne1⟩
    · exact j31 (nI 0) b01_0 ⟨fun z => absurd nI0 z, fun z => (can_no (cc_y hcc_20 c23) z).elim⟩
set_option maxHeartbeats 4000000 in
theorem ok_X9_key (M : Mem) (v1 : Int32) (v2 : Int32) (hGd : GdF (FdC M 1)) (hSr : SrC M) : Wp (f_X9_key M v1 v2) (fun q => (∀ a i, ¬ ((a = 13 ∧ i = 5) ∨ (a = 13 ∧ i = 6) ∨ a = 14 ∨ a = 15 ∨ a = 16 ∨ a = 17 ∨ a = 18 ∨ a = 24 ∨ a = 26) → q.2 a i = M a i) ∧ (PqP (TpC M v1 ∧ EiW v2) (KyP (FdC M 1) (M 43 (ix v1)).toInt v2 q.1) q.1)) := by
  refine wp_bind2 (oq_X9_strideOf M v1) (fun r_1 he2 hq2 => ?_)
  obtain ⟨hi_2, hv_2⟩ := hq2
  replace hi_2 : ¬ r_1.toInt = 0 ↔ TpC M v1 := hi_2
  replace hv_2 : ¬ r_1.toInt = 0 → r_1 = M 43 (ix v1) := hv_2
  refine wp_ite (fun c7 => ?_) (fun c7 => ?_)
  · exact wp_some ⟨(fun _ _ _ => rfl), (pq_n (fun z => hi_2.mpr z.1 c7) rfl)⟩
  · have ht := hi_2.mp c7
    have es := hv_2 c7
    have sr := hSr (ix v1) (ix8 ht.1) ht.2
    refine wp_bind2 (ok_X9_isEither M v2) (fun r_2 he11 hq11 => ?_)
    obtain ⟨hz_r_2, hr_11⟩ := hq11
    replace hr_11 : ¬ r_2.toInt = 0 ↔ 0 ≤ v2.toInt ∧ v2.toInt ≤ 1 := hr_11
    refine wp_ite (fun c14 => ?_) (fun c14 => ?_)
    · exact wp_some ⟨(fun _ _ _ => rfl), (pq_n (fun z => hr_11.mpr z.2 c14) rfl)⟩
    · refine wp_cb2 (ow_X8_canCross (Or.inl rfl) M r_1 (by rw [es]; exact sr) hGd) (fun r_3 M_4 he28 hq28 => ?_)
      obtain ⟨hz_r_3, hg_M_4, hcc_28⟩ := hq28
      replace hcc_28 : ∃ r : Int, CrK (FdC M 1) r_1.toInt r ∧ (r_3.toInt = 0 ↔ r = -1) := hcc_28
      replace hg_M_4 : ∀ a i, ¬ (a = 24 ∨ a = 26) → M_4 a i = M a i := by exact fun a i q0 => hg_M_4 a i (by first | decide | (rcases hc0 with h | h <;> rw [h] <;> simp; done) | (rcases hb0 with h | h | h <;> rw [h] <;> simp; done) | (simp; done) | omega)
      rw [es] at hcc_28
      have f4 : FdC M_4 1 = (FdC M 1) := fdc_fr (fun a i h1 h2 => hg_M_4 a i (by first | decide | (rcases hc0 with h | h <;> rw [h] <;> simp; done) | (rcases hb0 with h | h | h <;> rw [h] <;> simp; done) | (simp; done) | omega))
      refine wp_ite (fun c31 => ?_) (fun c31 => ?_)
      · exact wp_some ⟨(fun a i q0 => ((hg_M_4 a i (fun z8 => q0 ((fun z9 => Or.elim z9 (fun h9 => Or.inr (Or.inr (Or.inr (Or.inr (Or.inr (Or.inr (Or.inr (Or.inl h9)))))))) (fun h9 => Or.inr (Or.inr (Or.inr (Or.inr (Or.inr (Or.inr (Or.inr (Or.inr (h9)))))))))) z8))).trans rfl)), (pq_y ⟨ht, hr_11.mp c14⟩ (Or.inl ⟨cc_n hcc_28 c31, rfl⟩))⟩
      · refine wp_bind2 (o9_X2_copyAll (Or.inr (Or.inr rfl)) (Or.inl rfl) M_4 (by omega)) (fun M_5 he45 hq45 => ?_)
        obtain ⟨hg_M_5, hcp_45⟩ := hq45
        replace hcp_45 : TdB (FdC M_4 1) → UdB (FdC M_4 1) → FdC M_5 13 = FdC M_4 1 := hcp_45
        replace hg_M_5 : ∀ a i, ¬ ((a = 13 ∧ i = 5) ∨ (a = 13 ∧ i = 6) ∨ a = 14 ∨ a = 15 ∨ a = 16 ∨ a = 17 ∨ a = 18) → M_5 a i = M_4 a i := by exact fun a i q0 => hg_M_5 a i (by first | decide | (rcases hc0 with h | h <;> rw [h] <;> simp; done) | (rcases hb0 with h | h | h <;> rw [h] <;> simp; done) | (simp; done) | omega)
        have g5 : FdC M_5 13 = (FdC M 1) := (hcp_45 (by rw [f4]; exact hGd.1.1) (by rw [f4]; exact hGd.1.2.1)).trans f4
        refine wp_lp4 (fun M59 y4_59 y5_59 y6_59 => (y6_59.toInt ≤ 39) ∧ (∀ a i, ¬ (a = 18 ∨ a = 24 ∨ a = 26) → M59 a i = M_5 a i) ∧ (FdC M59 13 = (FdC M 1) ∧ KyJ (keyG (FdC M 1) (M 43 (ix v1)).toInt) y6_59 y4_59 y5_59 ∧ y6_59.toInt ≤ 39 ∧ -1 ≤ y6_59.toInt)) (fun M59 y4_59 y5_59 y6_59 => (y6_59.toInt - 0 + 1).toNat) (fun ag59 M59 y4_59 y5_59 y6_59 hI59 ih59 => ?_) FU M_5 (nI 0) (-2) (nI 39) ⟨(by have f0 := t_lit 39; omega), (fun _ _ _ => rfl), ⟨g5, ky_0, by decide, by decide⟩⟩ (fu_lt (by have f0 := t_lit 39; omega))
        obtain ⟨hi59, hf_M59, h59⟩ := hI59
        have j94 : (y6_59.toInt < 0) → Wp (f_X9_key_L94 v2 M59 y4_59 y5_59) (fun q => (∀ a i, ¬ ((a = 13 ∧ i = 5) ∨ (a = 13 ∧ i = 6) ∨ a = 14 ∨ a = 15 ∨ a = 16 ∨ a = 17 ∨ a = 18 ∨ a = 24 ∨ a = 26) → q.2 a i = M a i) ∧ (PqP (TpC M v1 ∧ EiW v2) (KyP (FdC M 1) (M 43 (ix v1)).toInt v2 q.1) q.1)) := by
          intro h94
          unfold f_X9_key_L94
          refine wp_ite (fun c95 => ?_) (fun c95 => ?_)
          · exact wp_some ⟨(fun a i q0 => ((hf_M59 a i (fun z8 => q0 ((fun z9 => Or.elim z9 (fun h9 => Or.inr (Or.inr (Or.inr (Or.inr (Or.inr (Or.inr (Or.inl h9))))))) (fun z9 => Or.elim z9 (fun h9 => Or.inr (Or.inr (Or.inr (Or.inr (Or.inr (Or.inr (Or.inr (Or.inl h9)))))))) (fun h9 => Or.inr (Or.inr (Or.inr (Or.inr (Or.inr (Or.inr (Or.inr (Or.inr (h9))))))))))) z8))).trans ((hg_M_5 a i (fun z8 => q0 ((fun z9 => Or.elim z9 (fun h9 => Or.inl h9) (fun z9 => Or.elim z9 (fun h9 => Or.inr (Or.inl h9)) (fun z9 => Or.elim z9 (fun h9 => Or.inr (Or.inr (Or.inl h9))) (fun z9 => Or.elim z9 (fun h9 => Or.inr (Or.inr (Or.inr (Or.inl h9)))) (fun z9 => Or.elim z9 (fun h9 => Or.inr (Or.inr (Or.inr (Or.inr (Or.inl h9))))) (fun z9 => Or.elim z9 (fun h9 => Or.inr (Or.inr (Or.inr (Or.inr (Or.inr (Or.inl h9)))))) (fun h9 => Or.inr (Or.inr (Or.inr (Or.inr (Or.inr (Or.inr (Or.inl h9))))))))))))) z8))).trans ((hg_M_4 a i (fun z8 => q0 ((fun z9 => Or.elim z9 (fun h9 => Or.inr (Or.inr (Or.inr (Or.inr (Or.inr (Or.inr (Or.inr (Or.inl h9)))))))) (fun h9 => Or.inr (Or.inr (Or.inr (Or.inr (Or.inr (Or.inr (Or.inr (Or.inr (h9)))))))))) z8))).trans rfl)))), (by obtain ⟨d, d1, d2⟩ := ky_40 h59.2.1 h59.2.2.2 h94; exact pq_y ⟨ht, hr_11.mp c14⟩ (Or.inr ⟨cc_y hcc_28 c31, d, y4_59, y5_59, d1, d2, Or.inl ⟨c95, rfl⟩⟩))⟩
          · exact wp_some ⟨(fun a i q0 => ((hf_M59 a i (fun z8 => q0 ((fun z9 => Or.elim z9 (fun h9 => Or.inr (Or.inr (Or.inr (Or.inr (Or.inr (Or.inr (Or.inl h9))))))) (fun z9 => Or.elim z9 (fun h9 => Or.inr (Or.inr (Or.inr (Or.inr (Or.inr (Or.inr (Or.inr (Or.inl h9)))))))) (fun h9 => Or.inr (Or.inr (Or.inr (Or.inr (Or.inr (Or.inr (Or.inr (Or.inr (h9))))))))))) z8))).trans ((hg_M_5 a i (fun z8 => q0 ((fun z9 => Or.elim z9 (fun h9 => Or.inl h9) (fun z9 => Or.elim z9 (fun h9 => Or.inr (Or.inl h9)) (fun z9 => Or.elim z9 (fun h9 => Or.inr (Or.inr (Or.inl h9))) (fun z9 => Or.elim z9 (fun h9 => Or.inr (Or.inr (Or.inr (Or.inl h9)))) (fun z9 => Or.elim z9 (fun h9 => Or.inr (Or.inr (Or.inr (Or.inr (Or.inl h9))))) (fun z9 => Or.elim z9 (fun h9 => Or.inr (Or.inr (Or.inr (Or.inr (Or.inr (Or.inl h9)))))) (fun h9 => Or.inr (Or.inr (Or.inr (Or.inr (Or.inr (Or.inr (Or.inl h9))))))))))))) z8))).trans ((hg_M_4 a i (fun z8 => q0 ((fun z9 => Or.elim z9 (fun h9 => Or.inr (Or.inr (Or.inr (Or.inr (Or.inr (Or.inr (Or.inr (Or.inl h9)))))))) (fun h9 => Or.inr (Or.inr (Or.inr (Or.inr (Or.inr (Or.inr (Or.inr (Or.inr (h9)))))))))) z8))).trans rfl)))), (by obtain ⟨d, d1, d2⟩ := ky_40 h59.2.1 h59.2.2.2 h94; exact pq_y ⟨ht, hr_11.mp c14⟩ (Or.inr ⟨cc_y hcc_28 c31, d, y4_59, y5_59, d1, d2, Or.inr ⟨c95, rfl⟩⟩))⟩
        refine wp_ite (fun c61 => ?_) (fun c61 => ?_)
        · exact j94 c61
        · have yd := t_dec y6_59 (by omega)
          refine wp_cb2 (ok_X8_needs (Or.inr (Or.inr rfl)) M59 r_1 y6_59 (by rw [es]; exact sr) (by rw [h59.1]; exact hGd)) (fun r_6 M_7 he75 hq75 => ?_)
          obtain ⟨hz_r_6, hg_M_7, hn_75⟩ := hq75
          replace hn_75 : (¬ r_6.toInt = 0 ↔ (0 ≤ y6_59.toInt ∧ y6_59.toInt < 40) ∧ keyG (FdC M59 13) r_1.toInt (ix y6_59)) ∧ FdC M_7 13 = (FdC M59 13) := hn_75
          replace hg_M_7 : ∀ a i, ¬ (a = 18 ∨ a = 24 ∨ a = 26) → M_7 a i = M59 a i := by exact fun a i q0 => hg_M_7 a i (by first | decide | (rcases hc0 with h | h <;> rw [h] <;> simp; done) | (rcases hb0 with h | h | h <;> rw [h] <;> simp; done) | (simp; done) | omega)
          rw [h59.1, es] at hn_75
          refine wp_ite (fun c78 => ?_) (fun c78 => ?_)
          · exact ih59 M_7 y4_59 y5_59 (y6_59 + (-1)) ⟨(by have f0 := (by decide : ((-1 : Int32)).toInt = -1); have f1 := t_add y6_59 (-1); omega), (fun a i q0 => ((hg_M_7 a i (fun z8 => q0 ((fun z9 => Or.elim z9 (fun h9 => Or.inl h9) (fun z9 => Or.elim z9 (fun h9 => Or.inr (Or.inl h9)) (fun h9 => Or.inr (Or.inr (h9))))) z8))).trans ((hf_M59 a i (fun z8 => q0 ((fun z9 => Or.elim z9 (fun h9 => Or.inl h9) (fun z9 => Or.elim z9 (fun h9 => Or.inr (Or.inl h9)) (fun h9 => Or.inr (Or.inr (h9))))) z8))).trans rfl))), ⟨hn_75.2, ky_n h59.2.1 (by omega) h59.2.2.1 (fun z => hn_75.1.mpr ⟨⟨by omega, by omega⟩, z⟩ c78), by rw [yd]; omega, by rw [yd]; omega⟩⟩ (by have f0 := (by decide : ((-1 : Int32)).toInt = -1); have f1 := t_add y6_59 (-1); omega)
          · exact ih59 M_7 (y4_59 + (nI 1)) y6_59 (y6_59 + (-1)) ⟨(by have f0 := (by decide : ((-1 : Int32)).toInt = -1); have f1 := t_add y6_59 (-1); omega), (fun a i q0 => ((hg_M_7 a i (fun z8 => q0 ((fun z9 => Or.elim z9 (fun h9 => Or.inl h9) (fun z9 => Or.elim z9 (fun h9 => Or.inr (Or.inl h9)) (fun h9 => Or.inr (Or.inr (h9))))) z8))).trans ((hf_M59 a i (fun z8 => q0 ((fun z9 => Or.elim z9 (fun h9 => Or.inl h9) (fun z9 => Or.elim z9 (fun h9 => Or.inr (Or.inl h9)) (fun h9 => Or.inr (Or.inr (h9))))) z8))).trans rfl))), ⟨hn_75.2, ky_y h59.2.1 (by omega) h59.2.2.1 (hn_75.1.mp c78).2, by rw [yd]; omega, by rw [yd]; omega⟩⟩ (by have f0 := (by decide : ((-1 : Int32)).toInt = -1); have f1 := t_add y6_59 (-1); omega)
set_option maxHeartbeats 4000000 in
theorem ok_X10_key (M : Mem) (v1 : Int32) (v2 : Int32) (hGd : GdF (FdR M 1)) (hSr : SrR M) : Wp (f_X10_key M v1 v2) (fun q => (∀ a i, ¬ (a = 1 ∨ a = 23 ∨ a = 25) → q.2 a i = M a i) ∧ (ST (q.2 1)) ∧ (FdR q.2 1 = (FdR M 1)) ∧ (PqP (TpR M v1 ∧ EiW v2) (KyP (FdR M 1) (M 4 (ix v1)).toInt v2 q.1) q.1)) := by
  refine wp_bind2 (oq_X10_isPerson M v1) (fun r_1 he2 hq2 => ?_)
  obtain ⟨hz_r_1, hr_2, hi_2⟩ := hq2
  replace hr_2 : ¬ r_1.toInt = 0 → 0 ≤ v1.toInt ∧ v1.toInt < 8 := hr_2
  replace hi_2 : ¬ r_1.toInt = 0 ↔ TpR M v1 := hi_2
  refine wp_ite (fun c5 => ?_) (fun c5 => ?_)
  · exact wp_some ⟨(fun _ _ _ => rfl), (st_gd hGd), rfl, (pq_n (fun z => hi_2.mpr z.1 c5) rfl)⟩
  · have ht := hi_2.mp c5
    have sr := hSr v1 ht
    refine wp_bind2 (o2_X10_in M v2 (nI 0) (nI 1)) (fun r_2 he11 hq11 => ?_)
    obtain ⟨hz_r_2, hr_11, hi_11⟩ := hq11
    replace hr_11 : ¬ r_2.toInt = 0 → (nI 0).toInt ≤ v2.toInt ∧ v2.toInt ≤ (nI 1).toInt := hr_11
    have := t_lit 0
    have := t_lit 1
    replace hi_11 : ¬ r_2.toInt = 0 ↔ (nI 0).toInt ≤ v2.toInt ∧ v2.toInt ≤ (nI 1).toInt := hi_11
    have := t_lit 0
    have := t_lit 1
    refine wp_ite (fun c14 => ?_) (fun c14 => ?_)
    · exact wp_some ⟨(fun _ _ _ => rfl), (st_gd hGd), rfl, (pq_n (fun z => hi_11.mpr (by have f0 := t_lit 0; have f1 := t_lit 1; have q := z.2.1; have q2 := z.2.2; omega) c14) rfl)⟩
    · refine wp_gd (by omega) ?_
      refine wp_bnd (fun x_3 ex_3 => ?_)
      rw [← ex_3] at sr
      refine wp_cb2 (ow_X10_crossing M x_3 ⟨by omega, by omega⟩ hGd) (fun r_4 M_5 he28 hq28 => ?_)
      obtain ⟨hg_M_5, hcr_28, hst_28⟩ := hq28
      replace hcr_28 : CrK (FdR M 1) x_3.toInt r_4.toInt := hcr_28
      replace hst_28 : x_3.toInt < 21 → Bend 40 (nearG (FdR M 1) x_3.toInt) (adjG (FdR M 1) x_3.toInt) (fun j => (M_5 23 j).toInt) := hst_28
      replace hg_M_5 : ∀ a i, ¬ (a = 23 ∨ a = 25) → M_5 a i = M a i := hg_M_5
      rw [ex_3] at hcr_28
      have f5 : FdR M_5 1 = (FdR M 1) := fdr_same (fun j hj => hg_M_5 1 j (by first | decide | (rcases hc0 with h | h <;> rw [h] <;> simp; done) | (rcases hb0 with h | h | h <;> rw [h] <;> simp; done) | (simp; done) | omega))
      refine wp_ite (fun c32 => ?_) (fun c32 => ?_)
      · exact wp_some ⟨(fun a i q0 => ((hg_M_5 a i (fun z8 => q0 ((fun z9 => Or.elim z9 (fun h9 => Or.inr (Or.inl h9)) (fun h9 => Or.inr (Or.inr (h9)))) z8))).trans rfl)), (st_gd (by show GdF (FdR M_5 1); rw [f5]; exact hGd)), f5, (pq_y ⟨ht, (show EiW v2 from by unfold EiW; have f0 := t_lit 0; have f1 := t_lit 1; have q := hi_11.mp c14; omega)⟩ (Or.inl ⟨cr_n hcr_28 c32, rfl⟩))⟩
      · refine wp_lp4 (fun M49 y4_49 y5_49 y6_49 => (y6_49.toInt ≤ 39) ∧ (∀ a i, ¬ (a = 1 ∨ a = 23 ∨ a = 25) → M49 a i = M_5 a i) ∧ (FdR M49 1 = (FdR M 1) ∧ KyJ (keyG (FdR M 1) (M 4 (ix v1)).toInt) y6_49 y4_49 y5_49 ∧ y6_49.toInt ≤ 39 ∧ -1 ≤ y6_49.toInt)) (fun M49 y4_49 y5_49 y6_49 => (y6_49.toInt - 0 + 1).toNat) (fun ag49 M49 y4_49 y5_49 y6_49 hI49 ih49 => ?_) FU M_5 (nI 0) (-2) (nI 39) ⟨(by have f0 := t_lit 39; omega), (fun _ _ _ => rfl), ⟨f5, ky_0, by decide, by decide⟩⟩ (fu_lt (by have f0 := t_lit 39; omega))
        obtain ⟨hi49, hf_M49, h49⟩ := hI49
        have j130 : (y6_49.toInt < 0) → Wp (f_X10_key_L130 v2 M49 y4_49 y5_49) (fun q => (∀ a i, ¬ (a = 1 ∨ a = 23 ∨ a = 25) → q.2 a i = M a i) ∧ (ST (q.2 1)) ∧ (FdR q.2 1 = (FdR M 1)) ∧ (PqP (TpR M v1 ∧ EiW v2) (KyP (FdR M 1) (M 4 (ix v1)).toInt v2 q.1) q.1)) := by
          intro h130
          unfold f_X10_key_L130
          refine wp_ite (fun c131 => ?_) (fun c131 => ?_)
          · exact wp_some ⟨(fun a i q0 => ((hf_M49 a i (fun z8 => q0 ((fun z9 => Or.elim z9 (fun h9 => Or.inl h9) (fun z9 => Or.elim z9 (fun h9 => Or.inr (Or.inl h9)) (fun h9 => Or.inr (Or.inr (h9))))) z8))).trans ((hg_M_5 a i (fun z8 => q0 ((fun z9 => Or.elim z9 (fun h9 => Or.inr (Or.inl h9)) (fun h9 => Or.inr (Or.inr (h9)))) z8))).trans rfl))), (st_gd (by show GdF (FdR M49 1); rw [h49.1]; exact hGd)), h49.1, (by obtain ⟨d, d1, d2⟩ := ky_40 h49.2.1 h49.2.2.2 h130; exact pq_y ⟨ht, (show EiW v2 from by unfold EiW; have f0 := t_lit 0; have f1 := t_lit 1; have q := hi_11.mp c14; omega)⟩ (Or.inr ⟨cr_y hcr_28 c32, d, y4_49, y5_49, d1, d2, Or.inl ⟨c131, rfl⟩⟩))⟩
          · exact wp_some ⟨(fun a i q0 => ((hf_M49 a i (fun z8 => q0 ((fun z9 => Or.elim z9 (fun h9 => Or.inl h9) (fun z9 => Or.elim z9 (fun h9 => Or.inr (Or.inl h9)) (fun h9 => Or.inr (Or.inr (h9))))) z8))).trans ((hg_M_5 a i (fun z8 => q0 ((fun z9 => Or.elim z9 (fun h9 => Or.inr (Or.inl h9)) (fun h9 => Or.inr (Or.inr (h9)))) z8))).trans rfl))), (st_gd (by show GdF (FdR M49 1); rw [h49.1]; exact hGd)), h49.1, (by obtain ⟨d, d1, d2⟩ := ky_40 h49.2.1 h49.2.2.2 h130; exact pq_y ⟨ht, (show EiW v2 from by unfold EiW; have f0 := t_lit 0; have f1 := t_lit 1; have q := hi_11.mp c14; omega)⟩ (Or.inr ⟨cr_y hcr_28 c32, d, y4_49, y5_49, d1, d2, Or.inr ⟨c131, rfl⟩⟩))⟩
        refine wp_ite (fun c51 => ?_) (fun c51 => ?_)
        · exact j130 c51
        · have yd := t_dec y6_49 (by omega)
          have i40 := ix40 (v := y6_49) (by omega) (by omega)
          refine wp_bind2 (ow_X10_isDry M49 y6_49 ⟨by omega, by omega⟩ (by rw [h49.1]; exact hGd)) (fun r_6 he57 hq57 => ?_)
          obtain ⟨hz_r_6, hr_57, hd_57⟩ := hq57
          replace hr_57 : ¬ r_6.toInt = 0 → (M49 1 (ix y6_49)).toInt = 1 := hr_57
          replace hd_57 : ¬ r_6.toInt = 0 ↔ dryG (FdR M49 1) (ix y6_49) := hd_57
          rw [h49.1] at hd_57
          refine wp_ite (fun c60 => ?_) (fun c60 => ?_)
          · exact ih49 M49 y4_49 y5_49 (y6_49 + (-1)) ⟨(by have f0 := (by decide : ((-1 : Int32)).toInt = -1); have f1 := t_add y6_49 (-1); omega), (fun a i q0 => ((hf_M49 a i (fun z8 => q0 ((fun z9 => Or.elim z9 (fun h9 => Or.inl h9) (fun z9 => Or.elim z9 (fun h9 => Or.inr (Or.inl h9)) (fun h9 => Or.inr (Or.inr (h9))))) z8))).trans rfl)), ⟨h49.1, ky_n h49.2.1 (by omega) h49.2.2.1 (fun z => hd_57.mpr z.1 c60), by rw [yd]; omega, by rw [yd]; omega⟩⟩ (by have f0 := (by decide : ((-1 : Int32)).toInt = -1); have f1 := t_add y6_49 (-1); omega)
          · have d := hd_57.mp c60
            have x160 := ixc (v := y6_49) (n := 160) (by omega) (by omega) (by omega)
            refine wp_gd (by have f0 := t_lit 160; have f1 := t_add (nI 160) y6_49; omega) ?_
            refine wp_bnd (fun M_7 eM_7 => ?_)
            have f7 := fdr_set (M := M49) (N := M_7) (a := 5) (x := nI 1) i40 (by omega) (by omega) (by rw [h49.1]; exact d.1.2) (by rw [eM_7, mset_s, x160]; rfl)
            rw [h49.1, show nI 1 = 1 from (by decide)] at f7
            have g7 : GdF (FdR M_7 1) := by rw [f7]; exact gd_5 hGd (Or.inr rfl)
            refine wp_cb2 (ow_X10_crossing M_7 x_3 ⟨by omega, by omega⟩ g7) (fun r_8 M_9 he80 hq80 => ?_)
            obtain ⟨hg_M_9, hcr_80, hst_80⟩ := hq80
            replace hcr_80 : CrK (FdR M_7 1) x_3.toInt r_8.toInt := hcr_80
            replace hst_80 : x_3.toInt < 21 → Bend 40 (nearG (FdR M_7 1) x_3.toInt) (adjG (FdR M_7 1) x_3.toInt) (fun j => (M_9 23 j).toInt) := hst_80
            replace hg_M_9 : ∀ a i, ¬ (a = 23 ∨ a = 25) → M_9 a i = M_7 a i := hg_M_9
            rw [f7, ex_3] at hcr_80
            have f9 : FdR M_9 1 = mset (FdR M 1) 5 (ix y6_49) 1 := (fdr_same (fun j hj => hg_M_9 1 j (by first | decide | (rcases hc0 with h | h <;> rw [h] <;> simp; done) | (rcases hb0 with h | h | h <;> rw [h] <;> simp; done) | (simp; done) | omega))).trans f7
            have t9 : tld (FdR M_9 1) (ix y6_49) := by
              rw [f9]
              unfold tld
              rw [mset_ne (by first | exact nz1 (by decide) | exact nz2 (by decide) | exact nz1 (nzA hc0 (by decide)) | exact nz1 (nzE (by decide)) | exact nz1 (nzB hc0 (by decide)) | exact nz1 (nzC hc0 (by decide)) | exact nz1 (nzD hc0 (by decide)) | exact nz1 (nzF (by decide)) | exact nz1 (nzG (by decide)) | omega)]
              exact d.1.2
            have j92 : ∀ (t0_92 : Int32), (t0_92 = 0 ∨ t0_92 = 1) → (¬ t0_92.toInt = 0 ↔ NCr (mset (FdR M 1) 5 (ix y6_49) 1) (M 4 (ix v1)).toInt) → Wp (f_X10_key_L92 ag49 y4_49 y5_49 y6_49 M_9 t0_92) (fun q => (∀ a i, ¬ (a = 1 ∨ a = 23 ∨ a = 25) → q.2 a i = M a i) ∧ (ST (q.2 1)) ∧ (FdR q.2 1 = (FdR M 1)) ∧ (PqP (TpR M v1 ∧ EiW v2) (KyP (FdR M 1) (M 4 (ix v1)).toInt v2 q.1) q.1)) := by
              intro t0_92 hb_t0_92 h92
              unfold f_X10_key_L92
              refine wp_gd (by have f0 := t_lit 160; have f1 := t_add (nI 160) y6_49; omega) ?_
              refine wp_bnd (fun M_10 eM_10 => ?_)
              have f10 := fdr_set (M := M_9) (N := M_10) (a := 5) (x := nI 0) i40 (by omega) (by omega) t9 (by rw [eM_10, mset_s, x160]; rfl)
              rw [f9, show nI 0 = 0 from (by decide), mset_bk (dry_5 d)] at f10
              refine wp_ite (fun c108 => ?_) (fun c108 => ?_)
              · exact ih49 M_10 y4_49 y5_49 (y6_49 + (-1)) ⟨(by have f0 := (by decide : ((-1 : Int32)).toInt = -1); have f1 := t_add y6_49 (-1); omega), (fun a i q0 => ((congrFun (congrFun eM_10 a) i).trans ((mset_ne (fun h9 => q0 (Or.inl (h9).1))).trans ((hg_M_9 a i (fun z8 => q0 ((fun z9 => Or.elim z9 (fun h9 => Or.inr (Or.inl h9)) (fun h9 => Or.inr (Or.inr (h9)))) z8))).trans ((congrFun (congrFun eM_7 a) i).trans ((mset_ne (fun h9 => q0 (Or.inl (h9).1))).trans ((hf_M49 a i (fun z8 => q0 ((fun z9 => Or.elim z9 (fun h9 => Or.inl h9) (fun z9 => Or.elim z9 (fun h9 => Or.inr (Or.inl h9)) (fun h9 => Or.inr (Or.inr (h9))))) z8))).trans rfl))))))), ⟨f10, ky_n h49.2.1 (by omega) h49.2.2.1 (fun z => h92.mpr z.2 c108), by rw [yd]; omega, by rw [yd]; omega⟩⟩ (by have f0 := (by decide : ((-1 : Int32)).toInt = -1); have f1 := t_add y6_49 (-1); omega)
              · exact ih49 M_10 (y4_49 + (nI 1)) y6_49 (y6_49 + (-1)) ⟨(by have f0 := (by decide : ((-1 : Int32)).toInt = -1); have f1 := t_add y6_49 (-1); omega), (fun a i q0 => ((congrFun (congrFun eM_10 a) i).trans ((mset_ne (fun h9 => q0 (Or.inl (h9).1))).trans ((hg_M_9 a i (fun z8 => q0 ((fun z9 => Or.elim z9 (fun h9 => Or.inr (Or.inl h9)) (fun h9 => Or.inr (Or.inr (h9)))) z8))).trans ((congrFun (congrFun eM_7 a) i).trans ((mset_ne (fun h9 => q0 (Or.inl (h9).1))).trans ((hf_M49 a i (fun z8 => q0 ((fun z9 => Or.elim z9 (fun h9 => Or.inl h9) (fun z9 => Or.elim z9 (fun h9 => Or.inr (Or.inl h9)) (fun h9 => Or.inr (Or.inr (h9))))) z8))).trans rfl))))))), ⟨f10, ky_y h49.2.1 (by omega) h49.2.2.1 ⟨d, h92.mp c108⟩, by rw [yd]; omega, by rw [yd]; omega⟩⟩ (by have f0 := (by decide : ((-1 : Int32)).toInt = -1); have f1 := t_add y6_49 (-1); omega)
            refine wp_ite (fun c84 => ?_) (fun c84 => ?_)
            · exact j92 (nI 1) b01_1 ⟨fun _ => cr_n hcr_80 c84, fun _ => ne1⟩
            · exact j92 (nI 0) b01_0 ⟨fun z => absurd nI0 z, fun z => (can_no (cr_y hcr_80 c84) z).elim⟩
