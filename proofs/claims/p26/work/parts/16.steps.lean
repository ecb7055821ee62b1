def byB (M : Mem) (n s : Int32) (i : Nat) : Prop := ∃ r, f_X10_isByBank M (nI i) n s = some r ∧ ¬ r.toInt = 0
def cst (M : Mem) (s : Int32) (i j : Nat) : Prop := ∃ r, f_X10_canStep M (nI i) (nI j) s = some r ∧ ¬ r.toInt = 0
theorem nI_ix {x : Int32} (h : 0 ≤ x.toInt) : nI (ix x) = x := (t_nI (by rw [t_ixn x h]) (by have := t_rng x; have := t_ixn x h; omega)).symm
theorem isByBank_congr {M M' : Mem} (h : M' 1 = M 1) (a b c : Int32) : f_X10_isByBank M' a b c = f_X10_isByBank M a b c := by
  simp only [f_X10_isByBank_L28, f_X10_isByBank, f_X10_isDry, h]
theorem canStep_congr {M M' : Mem} (h : M' 1 = M 1) (a b c : Int32) : f_X10_canStep M' a b c = f_X10_canStep M a b c := by
  simp only [f_X10_canStep, f_X10_apart, f_X10_isDry, h]
theorem byB_iff {M M6 : Mem} {y n s r : Int32} (e : f_X10_isByBank M6 y n s = some r) (h1 : M6 1 = M 1) (hy : 0 ≤ y.toInt) : byB M n s (ix y) ↔ ¬ r.toInt = 0 := by
  unfold byB
  rw [nI_ix hy, ← isByBank_congr h1, e]
  exact ⟨fun z => by obtain ⟨r1, e1, h⟩ := z; cases e1; exact h, fun z => ⟨r, rfl, z⟩⟩
theorem cst_iff {M M6 : Mem} {x y s r : Int32} (e : f_X10_canStep M6 x y s = some r) (h1 : M6 1 = M 1) (hx : 0 ≤ x.toInt) (hy : 0 ≤ y.toInt) : cst M s (ix x) (ix y) ↔ ¬ r.toInt = 0 := by
  unfold cst
  rw [nI_ix hx, nI_ix hy, ← canStep_congr h1, e]
  exact ⟨fun z => by obtain ⟨r1, e1, h⟩ := z; cases e1; exact h, fun z => ⟨r, rfl, z⟩⟩
theorem ix0 : ix (nI 0) = 0 := by decide
theorem row_pu {M0 M1 : Mem} {k i : Nat} {v : Int32} (e : M1 = mset M0 k i v) : (fun j => (M1 k j).toInt) = pu (fun j => (M0 k j).toInt) i v.toInt := funext (fun j => by
  rw [e, mset_get]
  unfold pu
  by_cases h : j = i
  · rw [if_pos ⟨rfl, h⟩, if_pos h]
  · rw [if_neg (fun z => h z.2), if_neg h])
theorem row_qu {M0 M1 : Mem} {k i : Nat} {v : Int32} (e : M1 = mset M0 k i v) : (fun j => ix (M1 k j)) = pu (fun j => ix (M0 k j)) i (ix v) := funext (fun j => by
  rw [e, mset_get]
  unfold pu
  by_cases h : j = i
  · rw [if_pos ⟨rfl, h⟩, if_pos h]
  · rw [if_neg (fun z => h z.2), if_neg h])
theorem row_sn {M0 M1 : Mem} {k a i : Nat} {v : Int32} (e : M1 = mset M0 a i v) (h : ¬ k = a) : (fun j => (M1 k j).toInt) = fun j => (M0 k j).toInt := funext (fun j => by rw [e, mset_ne (by first | exact nz1 (by decide) | exact nz2 (by decide) | exact nz1 (nzA hc0 (by decide)) | exact nz1 (nzE (by decide)) | exact nz1 (nzB hc0 (by decide)) | exact nz1 (nzC hc0 (by decide)) | exact nz1 (nzD hc0 (by decide)) | exact nz1 (nzF (by decide)) | exact nz1 (nzG (by decide)) | omega)])
theorem row_qn {M0 M1 : Mem} {k i : Nat} {v : Int32} (e : M1 = mset M0 k i v) (h : ¬ k = 25) : (fun j => ix (M1 25 j)) = fun j => ix (M0 25 j) := funext (fun j => by rw [e, mset_ne (by first | exact nz1 (by decide) | exact nz2 (by decide) | exact nz1 (nzA hc0 (by decide)) | exact nz1 (nzE (by decide)) | exact nz1 (nzB hc0 (by decide)) | exact nz1 (nzC hc0 (by decide)) | exact nz1 (nzD hc0 (by decide)) | exact nz1 (nzF (by decide)) | exact nz1 (nzG (by decide)) | omega)])
theorem ix_inc {x : Int32} (h : 0 ≤ x.toInt ∧ x.toInt < 1000000) : ix (x + nI 1) = ix x + 1 := by
  have f1 := t_inc x 1 (by omega)
  have f2 := t_ixn x h.1
  have f3 := t_ixn (x + nI 1) (by omega)
  omega
theorem bini_zero {B : Nat → Prop} {s : Nat → Int} {q : Nat → Nat} : Bini B s q 0 0 := ⟨rfl, fun t ht => absurd ht (Nat.not_lt_zero _), fun j hj => absurd hj (Nat.not_lt_zero _), fun j hj => absurd hj (Nat.not_lt_zero _)⟩
set_option maxHeartbeats 8000000 in
theorem o_X10_laysSteps {k len_k : Nat} (hlk : len_k < 2 ^ 31) (M : Mem) (v2 : Int32) (v3 : Int32) (hlen : len_k = 40) (hk : ¬ k = 1 ∧ ¬ k = 25) : Wp (f_X10_laysSteps k len_k M v2 v3) (fun q => (∀ a i, ¬ (a = 25 ∨ a = k) → q a i = M a i) ∧ (Bend 40 (byB M v2 v3) (cst M v3) (fun j => (q k j).toInt))) := by
  refine wp_lp3 (fun M6 y4_6 y5_6 => (∀ a i, ¬ (a = 25 ∨ a = k) → M6 a i = M a i) ∧ (0 ≤ y4_6.toInt ∧ y4_6.toInt ≤ y5_6.toInt ∧ y5_6.toInt ≤ 40) ∧ (Bini (byB M v2 v3) (fun j => (M6 k j).toInt) (fun t => ix (M6 25 t)) (ix y4_6) (ix y5_6)) ∧ (∀ t : Nat, (t : Int) < y4_6.toInt → 0 ≤ (M6 25 t).toInt)) (fun M6 y4_6 y5_6 => (40 - y5_6.toInt).toNat) (fun ag6 M6 y4_6 y5_6 hI6 ih6 => ?_) FU M (nI 0) (nI 0) ⟨(fun _ _ _ => rfl), (by decide), (by rw [show ix (nI 0) = 0 from ix0]; exact bini_zero), (fun t ht => absurd ht (by have := t_lit 0; omega))⟩ (fu_lt (by have f0 := t_lit 0; omega))
  obtain ⟨hf_M6, h6, hB, hq6⟩ := hI6
  have e61 : M6 1 = M 1 := funext (fun i => hf_M6 1 i (by first | decide | (rcases hc0 with h | h <;> rw [h] <;> simp; done) | (rcases hb0 with h | h | h <;> rw [h] <;> simp; done) | (simp; done) | omega))
  have j65 : (40 ≤ y5_6.toInt) → Wp (f_X10_laysSteps_L65 k len_k v3 M6 y4_6) (fun q => (∀ a i, ¬ (a = 25 ∨ a = k) → q a i = M a i) ∧ (Bend 40 (byB M v2 v3) (cst M v3) (fun j => (q k j).toInt))) := by
    intro h65
    unfold f_X10_laysSteps_L65
    refine wp_lp3 (fun M68 y4_68 y5_68 => (∀ a i, ¬ (a = 25 ∨ a = k) → M68 a i = M6 a i) ∧ (0 ≤ y5_68.toInt ∧ y5_68.toInt ≤ y4_68.toInt ∧ y4_68.toInt ≤ 40) ∧ (Bfs 40 (byB M v2 v3) (cst M v3) (fun j => (M68 k j).toInt) (fun t => ix (M68 25 t)) (ix y4_68) (ix y5_68)) ∧ (∀ t : Nat, (t : Int) < y4_68.toInt → 0 ≤ (M68 25 t).toInt)) (fun M68 y4_68 y5_68 => (41 - y5_68.toInt).toNat) (fun ag68 M68 y4_68 y5_68 hI68 ih68 => ?_) FU M6 y4_6 (nI 0) ⟨(fun _ _ _ => rfl), (by have := t_lit 0; omega), (by rw [show ix (nI 0) = 0 from ix0]; exact bini_end (by have e9 : ix y5_6 = 40 := (by have := t_ixn y5_6 (by omega); omega); rw [e9] at hB; exact hB)), hq6⟩ (fu_lt (by have f0 := t_lit 0; omega))
    obtain ⟨hf_M68, h68, hF, hq68⟩ := hI68
    refine wp_ite (fun c72 => ?_) (fun c72 => ?_)
    · exact wp_some ⟨(fun a i q0 => ((hf_M68 a i (fun z8 => q0 ((fun z9 => Or.elim z9 (fun h9 => Or.inl h9) (fun h9 => Or.inr (h9))) z8))).trans ((hf_M6 a i (fun z8 => q0 ((fun z9 => Or.elim z9 (fun h9 => Or.inl h9) (fun h9 => Or.inr (h9))) z8))).trans rfl))), (bfs_end hF (by have := t_ixn y4_68 (by omega); have := t_ixn y5_68 (by omega); omega))⟩
    · have fx5 := t_ixn y5_68 (by omega)
      have fx4 := t_ixn y4_68 (by omega)
      have hqk := (hF.1.1.2.1 (ix y5_68) (by omega)).1
      refine wp_gd (by omega) ?_
      refine wp_bnd (fun x_1 ex_1 => ?_)
      have hx0 := hq68 (ix y5_68) (by omega)
      rw [← ex_1] at hx0
      have hx1 : ix x_1 < 40 := by rw [ex_1]; exact hqk
      have fxx := t_ixn x_1 hx0
      refine wp_lp3 (fun M87 y4_87 y7_87 => (∀ a i, ¬ (a = 25 ∨ a = k) → M87 a i = M68 a i) ∧ (y5_68.toInt < y4_87.toInt ∧ y4_87.toInt ≤ 40 ∧ 0 ≤ y7_87.toInt ∧ y7_87.toInt ≤ 40) ∧ (Bin 40 (byB M v2 v3) (cst M v3) (fun j => (M87 k j).toInt) (fun t => ix (M87 25 t)) (ix y4_87) (ix y5_68) (ix y7_87)) ∧ (∀ t : Nat, (t : Int) < y4_87.toInt → 0 ≤ (M87 25 t).toInt) ∧ (M87 25 (ix y5_68) = x_1)) (fun M87 y4_87 y7_87 => (40 - y7_87.toInt).toNat) (fun ag87 M87 y4_87 y7_87 hI87 ih87 => ?_) FU M68 y4_68 (nI 0) ⟨(fun _ _ _ => rfl), (by have := t_lit 0; omega), (by rw [show ix (nI 0) = 0 from ix0]; exact bfs_in hF (by omega)), hq68, ex_1.symm⟩ (fu_lt (by have f0 := t_lit 0; omega))
      obtain ⟨hf_M87, h87, hN, hq87, hx87⟩ := hI87
      have e871 : M87 1 = M 1 := funext (fun i => by rw [hf_M87 1 i (by first | decide | (rcases hc0 with h | h <;> rw [h] <;> simp; done) | (rcases hb0 with h | h | h <;> rw [h] <;> simp; done) | (simp; done) | omega), hf_M68 1 i (by first | decide | (rcases hc0 with h | h <;> rw [h] <;> simp; done) | (rcases hb0 with h | h | h <;> rw [h] <;> simp; done) | (simp; done) | omega), hf_M6 1 i (by first | decide | (rcases hc0 with h | h <;> rw [h] <;> simp; done) | (rcases hb0 with h | h | h <;> rw [h] <;> simp; done) | (simp; done) | omega)])
      have hxq : ix (M87 25 (ix y5_68)) = ix x_1 := by rw [hx87]
      refine wp_ite (fun c91 => ?_) (fun c91 => ?_)
      · exact ih68 M87 y4_87 (y5_68 + (nI 1)) ⟨(fun a i q0 => ((hf_M87 a i (fun z8 => q0 ((fun z9 => Or.elim z9 (fun h9 => Or.inl h9) (fun h9 => Or.inr (h9))) z8))).trans ((hf_M68 a i (fun z8 => q0 ((fun z9 => Or.elim z9 (fun h9 => Or.inl h9) (fun h9 => Or.inr (h9))) z8))).trans rfl))), (by rw [t_inc y5_68 1 (by omega)]; omega), (by rw [ix_inc (by omega)]; exact bin_out hN (by have := t_ixn y7_87 (by omega); omega)), hq87⟩ (by rw [t_inc y5_68 1 (by omega)]; omega)
      · refine wp_gd (by omega) ?_
        refine wp_ite (fun c99 => ?_) (fun c99 => ?_)
        · refine wp_bind2 (o_X10_canStep M87 x_1 y7_87 v3 (by have f0 := congrArg Int32.toInt ex_1; omega) (by have f0 := congrArg Int32.toInt ex_1; omega)) (fun r_2 he108 hq108 => ?_)
          obtain ⟨hz_r_2, hr_108⟩ := hq108
          replace hr_108 : ¬ r_2.toInt = 0 → (M87 1 (ix x_1)).toInt = 1 ∧ (M87 1 (ix y7_87)).toInt = 1 := hr_108
          have hcs : cst M v3 (ix x_1) (ix y7_87) ↔ ¬ r_2.toInt = 0 := cst_iff he108 e871 (by omega) (by omega)
          refine wp_ite (fun c111 => ?_) (fun c111 => ?_)
          · exact ih87 M87 y4_87 (y7_87 + (nI 1)) ⟨(fun a i q0 => ((hf_M87 a i (fun z8 => q0 ((fun z9 => Or.elim z9 (fun h9 => Or.inl h9) (fun h9 => Or.inr (h9))) z8))).trans rfl)), (by rw [t_inc y7_87 1 (by omega)]; omega), (by rw [ix_inc (by omega)]; exact bin_skip hN (Or.inr (fun z => hcs.mp (hxq ▸ z) c111)) (by have := t_ixn y7_87 (by omega); omega)), hq87, hx87⟩ (by rw [t_inc y7_87 1 (by omega)]; omega)
          · refine wp_gd (by have f0 := congrArg Int32.toInt ex_1; omega) ?_
            refine wp_gd (by omega) ?_
            refine wp_bnd (fun M_3 eM_3 => ?_)
            have fx7 := t_ixn y7_87 (by omega)
            have fx87 := t_ixn y4_87 (by omega)
            have hroom : ix y4_87 < 40 := bin_room hN c99 (by omega)
            have hsx := hN.1.1.2.1 (ix y5_68) hN.2.1
            have hval : ((M87 k (ix x_1)) + (nI 1)).toInt = (M87 k (ix (M87 25 (ix y5_68)))).toInt + 1 := by rw [hxq]; exact t_inc _ 1 (by have h9 : (M87 k (ix (M87 25 (ix y5_68)))).toInt ≤ ((ix y5_68 : Nat) : Int) + 1 := hsx.2.2; rw [hxq] at h9; omega)
            refine wp_gd (by omega) ?_
            refine wp_bnd (fun M_4 eM_4 => ?_)
            exact ih87 M_4 (y4_87 + (nI 1)) (y7_87 + (nI 1)) ⟨(fun a i q0 => ((congrFun (congrFun eM_4 a) i).trans ((mset_ne (fun h9 => q0 (Or.inl (h9).1))).trans ((congrFun (congrFun eM_3 a) i).trans ((mset_ne (fun h9 => q0 (Or.inr ((h9).1)))).trans ((hf_M87 a i (fun z8 => q0 ((fun z9 => Or.elim z9 (fun h9 => Or.inl h9) (fun h9 => Or.inr (h9))) z8))).trans rfl)))))), (by rw [t_inc y7_87 1 (by omega), t_inc y4_87 1 (by omega)]; omega), (by rw [ix_inc (by omega), ix_inc (by omega), row_sn eM_4 hk.2, row_qu eM_4, row_pu eM_3, row_qn eM_3 hk.2, hval]; exact bin_push hN c99 (by show cst M v3 (ix (M87 25 (ix y5_68))) (ix y7_87); rw [hxq]; exact hcs.mpr c111) (by omega)), (set_ext (P := fun _ x => 0 ≤ x.toInt) eM_4 (by omega) (by omega) (fun t ht => by rw [eM_3, mset_ne (by first | exact nz1 (by decide) | exact nz2 (by decide) | exact nz1 (nzA hc0 (by decide)) | exact nz1 (nzE (by decide)) | exact nz1 (nzB hc0 (by decide)) | exact nz1 (nzC hc0 (by decide)) | exact nz1 (nzD hc0 (by decide)) | exact nz1 (nzF (by decide)) | exact nz1 (nzG (by decide)) | omega)]; exact hq87 t ht) (by omega)), (by rw [eM_4, mset_ne (by have := t_ixn y4_87 (by omega); have := t_ixn y5_68 (by omega); omega), eM_3, mset_ne (by first | exact nz1 (by decide) | exact nz2 (by decide) | exact nz1 (nzA hc0 (by decide)) | exact nz1 (nzE (by decide)) | exact nz1 (nzB hc0 (by decide)) | exact nz1 (nzC hc0 (by decide)) | exact nz1 (nzD hc0 (by decide)) | exact nz1 (nzF (by decide)) | exact nz1 (nzG (by decide)) | omega)]; exact hx87)⟩ (by rw [t_inc y7_87 1 (by omega)]; omega)
        · exact ih87 M87 y4_87 (y7_87 + (nI 1)) ⟨(fun a i q0 => ((hf_M87 a i (fun z8 => q0 ((fun z9 => Or.elim z9 (fun h9 => Or.inl h9) (fun h9 => Or.inr (h9))) z8))).trans rfl)), (by rw [t_inc y7_87 1 (by omega)]; omega), (by rw [ix_inc (by omega)]; exact bin_skip hN (Or.inl c99) (by have := t_ixn y7_87 (by omega); omega)), hq87, hx87⟩ (by rw [t_inc y7_87 1 (by omega)]; omega)
  refine wp_ite (fun c10 => ?_) (fun c10 => ?_)
  · exact j65 (by omega)
  · refine wp_bind2 (o_X10_isByBank M6 y5_6 v2 v3 (by omega)) (fun r_5 he21 hq21 => ?_)
    obtain ⟨hz_r_5, hr_21⟩ := hq21
    replace hr_21 : ¬ r_5.toInt = 0 → (M6 1 (ix y5_6)).toInt = 1 := hr_21
    have j32 : ∀ (t0_32 : Int32), ((t0_32.toInt = 1 ∧ byB M v2 v3 (ix y5_6)) ∨ (t0_32.toInt = -1 ∧ ¬ byB M v2 v3 (ix y5_6))) → Wp (f_X10_laysSteps_L32 k len_k ag6 M6 y4_6 y5_6 t0_32) (fun q => (∀ a i, ¬ (a = 25 ∨ a = k) → q a i = M a i) ∧ (Bend 40 (byB M v2 v3) (cst M v3) (fun j => (q k j).toInt))) := by
      intro t0_32 h32
      unfold f_X10_laysSteps_L32
      refine wp_gd (by omega) ?_
      refine wp_bnd (fun M_6 eM_6 => ?_)
      have ev6 : M_6 k (ix y5_6) = t0_32 := by rw [eM_6, mset_eq]
      refine wp_gd (by omega) ?_
      refine wp_ite (fun c38 => ?_) (fun c38 => ?_)
      · exact ih6 M_6 y4_6 (y5_6 + (nI 1)) ⟨(fun a i q0 => ((congrFun (congrFun eM_6 a) i).trans ((mset_ne (fun h9 => q0 (Or.inr ((h9).1)))).trans ((hf_M6 a i (fun z8 => q0 ((fun z9 => Or.elim z9 (fun h9 => Or.inl h9) (fun h9 => Or.inr (h9))) z8))).trans rfl)))), (by rw [t_inc y5_6 1 (by omega)]; omega), (by rw [ix_inc (by omega), row_pu eM_6, row_qn eM_6 hk.2, show t0_32.toInt = -1 from (by rw [← ev6]; exact c38)]; exact bini_no hB ((h32.resolve_left (fun z => by rw [ev6] at c38; omega)).2)), (fun t ht => by rw [eM_6, mset_ne (by first | exact nz1 (by decide) | exact nz2 (by decide) | exact nz1 (nzA hc0 (by decide)) | exact nz1 (nzE (by decide)) | exact nz1 (nzB hc0 (by decide)) | exact nz1 (nzC hc0 (by decide)) | exact nz1 (nzD hc0 (by decide)) | exact nz1 (nzF (by decide)) | exact nz1 (nzG (by decide)) | omega)]; exact hq6 t ht)⟩ (by rw [t_inc y5_6 1 (by omega)]; omega)
      · refine wp_gd (by omega) ?_
        refine wp_bnd (fun M_7 eM_7 => ?_)
        exact ih6 M_7 (y4_6 + (nI 1)) (y5_6 + (nI 1)) ⟨(fun a i q0 => ((congrFun (congrFun eM_7 a) i).trans ((mset_ne (fun h9 => q0 (Or.inl (h9).1))).trans ((congrFun (congrFun eM_6 a) i).trans ((mset_ne (fun h9 => q0 (Or.inr ((h9).1)))).trans ((hf_M6 a i (fun z8 => q0 ((fun z9 => Or.elim z9 (fun h9 => Or.inl h9) (fun h9 => Or.inr (h9))) z8))).trans rfl)))))), (by rw [t_inc y5_6 1 (by omega), t_inc y4_6 1 (by omega)]; omega), (by rw [ix_inc (by omega), ix_inc (by omega), row_sn eM_7 hk.2, row_qu eM_7, row_pu eM_6, row_qn eM_6 hk.2, show t0_32.toInt = 1 from (h32.resolve_right (fun z => c38 (by rw [ev6]; exact z.1))).1]; exact bini_yes hB (h32.resolve_right (fun z => c38 (by rw [ev6]; exact z.1))).2), (set_ext (P := fun _ x => 0 ≤ x.toInt) eM_7 (by omega) (by omega) (fun t ht => by rw [eM_6, mset_ne (by first | exact nz1 (by decide) | exact nz2 (by decide) | exact nz1 (nzA hc0 (by decide)) | exact nz1 (nzE (by decide)) | exact nz1 (nzB hc0 (by decide)) | exact nz1 (nzC hc0 (by decide)) | exact nz1 (nzD hc0 (by decide)) | exact nz1 (nzF (by decide)) | exact nz1 (nzG (by decide)) | omega)]; exact hq6 t ht) (by omega))⟩ (by rw [t_inc y5_6 1 (by omega)]; omega)
    refine wp_ite (fun c24 => ?_) (fun c24 => ?_)
    · exact j32 (-1) (Or.inr ⟨by decide, fun z => (byB_iff he21 e61 (by omega)).mp z c24⟩)
    · exact j32 (nI 1) (Or.inl ⟨nI1, (byB_iff he21 e61 (by omega)).mpr c24⟩)
