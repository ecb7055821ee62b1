theorem ow_X10_isDry (M : Mem) (v1 : Int32) (hv1 : 0 ≤ v1.toInt ∧ v1.toInt < 40) (hGd : GdF (FdR M 1)) : Wp (f_X10_isDry M v1) (fun q => (q = 0 ∨ q = 1) ∧ (¬ q.toInt = 0 → (M 1 (ix v1)).toInt = 1) ∧ (¬ q.toInt = 0 ↔ dryG (FdR M 1) (ix v1))) := by
  have i40 := ix40 hv1.1 hv1.2
  refine wp_gd (by omega) ?_
  refine wp_ite (fun c9 => ?_) (fun c9 => ?_)
  · have ht := (tdr_1 hGd.1.1 i40).mp c9
    refine wp_gd (by have f0 := t_lit 160; have f1 := t_add (nI 160) v1; omega) ?_
    refine wp_ite (fun c22 => ?_) (fun c22 => ?_)
    · exact wp_some ⟨b01_1, (by show ¬ (nI 1).toInt = 0 → (M 1 (ix v1)).toInt = 1; have f0 := t_lit 1; have f1 := t_lit 160; have f2 := t_add (nI 160) v1; omega), ⟨fun _ => ⟨⟨i40, ht⟩, by rw [← fdr_u hv1.1 hv1.2 ht]; exact c22⟩, fun _ => ne1⟩⟩
    · exact wp_some ⟨b01_0, (by show ¬ (nI 0).toInt = 0 → (M 1 (ix v1)).toInt = 1; have f0 := t_lit 0; have f1 := t_lit 160; have f2 := t_add (nI 160) v1; omega), ⟨fun z => absurd nI0 z, fun z => (c22 (by rw [fdr_u hv1.1 hv1.2 ht]; exact z.2)).elim⟩⟩
  · exact wp_some ⟨b01_0, (by show ¬ (nI 0).toInt = 0 → (M 1 (ix v1)).toInt = 1; have f0 := t_lit 0; omega), ⟨fun z => absurd nI0 z, fun z => (c9 ((tdr_1 hGd.1.1 i40).mpr z.1.2)).elim⟩⟩
theorem ow_X10_isByBank (M : Mem) (v1 : Int32) (v2 : Int32) (v3 : Int32) (hv1 : 0 ≤ v1.toInt ∧ v1.toInt < 40) (hGd : GdF (FdR M 1)) : Wp (f_X10_isByBank M v1 v2 v3) (fun q => (q = 0 ∨ q = 1) ∧ ((¬ v2.toInt = 0 → (¬ q.toInt = 0 ↔ nearG (FdR M 1) v3.toInt (ix v1))) ∧ (v2.toInt = 0 → (¬ q.toInt = 0 ↔ farG (FdR M 1) v3.toInt (ix v1))))) := by
  have j28 : ∀ (t0_28 : Int32), ((¬ v2.toInt = 0 → dryG (FdR M 1) (ix v1) → t0_28.toInt = ((FdR M 1) 2 (ix v1)).toInt) ∧ (v2.toInt = 0 → dryG (FdR M 1) (ix v1) → t0_28.toInt = 21 - ((FdR M 1) 2 (ix v1)).toInt)) → Wp (f_X10_isByBank_L28 M v1 v3 t0_28) (fun q => (q = 0 ∨ q = 1) ∧ ((¬ v2.toInt = 0 → (¬ q.toInt = 0 ↔ nearG (FdR M 1) v3.toInt (ix v1))) ∧ (v2.toInt = 0 → (¬ q.toInt = 0 ↔ farG (FdR M 1) v3.toInt (ix v1))))) := by
    intro t0_28 h28
    unfold f_X10_isByBank_L28
    refine wp_bind2 (ow_X10_isDry M v1 hv1 hGd) (fun r_1 he32 hq32 => ?_)
    obtain ⟨hz_r_1, hr_32, hd_32⟩ := hq32
    replace hr_32 : ¬ r_1.toInt = 0 → (M 1 (ix v1)).toInt = 1 := hr_32
    replace hd_32 : ¬ r_1.toInt = 0 ↔ dryG (FdR M 1) (ix v1) := hd_32
    refine wp_ite (fun c35 => ?_) (fun c35 => ?_)
    · exact wp_some ⟨b01_0, ⟨fun _ => ⟨fun z => absurd nI0 z, fun z => (hd_32.mpr z.1 c35).elim⟩, fun _ => ⟨fun z => absurd nI0 z, fun z => (hd_32.mpr z.1 c35).elim⟩⟩⟩
    · refine wp_ite (fun c41 => ?_) (fun c41 => ?_)
      · exact wp_some ⟨b01_0, ⟨fun q => ⟨fun z => absurd nI0 z, fun z => by have y := h28.1 q z.1; have w := z.2; omega⟩, fun q => ⟨fun z => absurd nI0 z, fun z => by have y := h28.2 q z.1; have w := z.2; omega⟩⟩⟩
      · exact wp_some ⟨b01_1, ⟨fun q => ⟨fun _ => ⟨hd_32.mp c35, by have y := h28.1 q (hd_32.mp c35); omega⟩, fun _ => ne1⟩, fun q => ⟨fun _ => ⟨hd_32.mp c35, by have y := h28.2 q (hd_32.mp c35); omega⟩, fun _ => ne1⟩⟩⟩
  refine wp_ite (fun c1 => ?_) (fun c1 => ?_)
  · refine wp_gd (by have f0 := t_lit 80; have f1 := t_add (nI 80) v1; omega) ?_
    exact j28 ((nI 21) - (M 1 (ix ((nI 80) + v1)))) ⟨fun z => absurd c1 z, fun _ d => by rw [fdr_y hv1.1 hv1.2 d.1.2]; have f := t_sub (nI 21) ((FdR M 1) 2 (ix v1)); have f2 := t_lit 21; have y := (dry_b hGd d).2; omega⟩
  · refine wp_gd (by have f0 := t_lit 80; have f1 := t_add (nI 80) v1; omega) ?_
    exact j28 (M 1 (ix ((nI 80) + v1))) ⟨fun _ d => by rw [fdr_y hv1.1 hv1.2 d.1.2], fun z => absurd z c1⟩
theorem ow_X10_apart (M : Mem) (v1 : Int32) (v2 : Int32) (hv1 : 0 ≤ v1.toInt ∧ v1.toInt < 40) (hv2 : 0 ≤ v2.toInt ∧ v2.toInt < 40) (hGd : GdF (FdR M 1)) : Wp (f_X10_apart M v1 v2) (fun q => (dryG (FdR M 1) (ix v1) → dryG (FdR M 1) (ix v2) → q.toInt = dd (((FdR M 1) 1 (ix v1)).toInt - ((FdR M 1) 1 (ix v2)).toInt) (((FdR M 1) 2 (ix v1)).toInt - ((FdR M 1) 2 (ix v2)).toInt))) := by
  refine wp_gd (by have f0 := t_lit 40; have f1 := t_add (nI 40) v1; omega) ?_
  refine wp_gd (by have f0 := t_lit 40; have f1 := t_add (nI 40) v2; omega) ?_
  refine wp_bnd (fun x_1 ex_1 => ?_)
  refine wp_gd (by have f0 := t_lit 80; have f1 := t_add (nI 80) v1; omega) ?_
  refine wp_gd (by have f0 := t_lit 80; have f1 := t_add (nI 80) v2; omega) ?_
  refine wp_bnd (fun x_2 ex_2 => ?_)
  exact wp_some (fun d1 d2 => by have y1 := dry_b hGd d1; have y2 := dry_b hGd d2; have e1 : x_1.toInt = ((FdR M 1) 1 (ix v1)).toInt - ((FdR M 1) 1 (ix v2)).toInt := (by rw [ex_1, fdr_x hv1.1 hv1.2 d1.1.2, fdr_x hv2.1 hv2.2 d2.1.2]; have f := t_sub ((FdR M 1) 1 (ix v1)) ((FdR M 1) 1 (ix v2)); omega); have e2 : x_2.toInt = ((FdR M 1) 2 (ix v1)).toInt - ((FdR M 1) 2 (ix v2)).toInt := (by rw [ex_2, fdr_y hv1.1 hv1.2 d1.1.2, fdr_y hv2.1 hv2.2 d2.1.2]; have f := t_sub ((FdR M 1) 2 (ix v1)) ((FdR M 1) 2 (ix v2)); omega); show ((x_1 * x_1) + (x_2 * x_2)).toInt = _; rw [t_dd (by omega) (by omega), e1, e2])
theorem ow_X10_canStep (M : Mem) (v1 : Int32) (v2 : Int32) (v3 : Int32) (hv1 : 0 ≤ v1.toInt ∧ v1.toInt < 40) (hv2 : 0 ≤ v2.toInt ∧ v2.toInt < 40) (hs : 0 ≤ v3.toInt ∧ v3.toInt ≤ 30) (hGd : GdF (FdR M 1)) : Wp (f_X10_canStep M v1 v2 v3) (fun q => (q = 0 ∨ q = 1) ∧ (¬ q.toInt = 0 ↔ adjG (FdR M 1) v3.toInt (ix v1) (ix v2))) := by
  refine wp_bind2 (ow_X10_isDry M v1 hv1 hGd) (fun r_1 he2 hq2 => ?_)
  obtain ⟨hz_r_1, hr_2, hd_2⟩ := hq2
  replace hr_2 : ¬ r_1.toInt = 0 → (M 1 (ix v1)).toInt = 1 := hr_2
  replace hd_2 : ¬ r_1.toInt = 0 ↔ dryG (FdR M 1) (ix v1) := hd_2
  refine wp_ite (fun c5 => ?_) (fun c5 => ?_)
  · exact wp_some ⟨b01_0, ⟨fun z => absurd nI0 z, fun z => (hd_2.mpr z.1 c5).elim⟩⟩
  · refine wp_bind2 (ow_X10_isDry M v2 hv2 hGd) (fun r_2 he10 hq10 => ?_)
    obtain ⟨hz_r_2, hr_10, hd_10⟩ := hq10
    replace hr_10 : ¬ r_2.toInt = 0 → (M 1 (ix v2)).toInt = 1 := hr_10
    replace hd_10 : ¬ r_2.toInt = 0 ↔ dryG (FdR M 1) (ix v2) := hd_10
    refine wp_ite (fun c13 => ?_) (fun c13 => ?_)
    · exact wp_some ⟨b01_0, ⟨fun z => absurd nI0 z, fun z => (hd_10.mpr z.2.1 c13).elim⟩⟩
    · refine wp_bind2 (ow_X10_apart M v1 v2 hv1 hv2 hGd) (fun r_3 he19 hq19 => ?_)
      have hap_19 := hq19
      replace hap_19 : dryG (FdR M 1) (ix v1) → dryG (FdR M 1) (ix v2) → r_3.toInt = dd (((FdR M 1) 1 (ix v1)).toInt - ((FdR M 1) 1 (ix v2)).toInt) (((FdR M 1) 2 (ix v1)).toInt - ((FdR M 1) 2 (ix v2)).toInt) := hap_19
      have e := hap_19 (hd_2.mp c5) (hd_10.mp c13)
      have sv := t_sq (x := v3) (by omega)
      refine wp_ite (fun c25 => ?_) (fun c25 => ?_)
      · exact wp_some ⟨b01_0, ⟨fun z => absurd nI0 z, fun z => by have w := z.2.2; omega⟩⟩
      · exact wp_some ⟨b01_1, ⟨fun _ => ⟨hd_2.mp c5, hd_10.mp c13, by omega⟩, fun _ => ne1⟩⟩
theorem ow_byB {M : Mem} {n s : Int32} {i : Nat} (hi : i < 40) (hGd : GdF (FdR M 1)) : byB M n s i ↔ ((¬ n.toInt = 0 ∧ nearG (FdR M 1) s.toInt i) ∨ (n.toInt = 0 ∧ farG (FdR M 1) s.toInt i)) := by
  have hv : 0 ≤ (nI i).toInt ∧ (nI i).toInt < 40 := by
    rw [t_lit i (by omega)]
    omega
  have hx : ix (nI i) = i := (ix_eq hv.1 (by omega)).mpr (t_lit i (by omega))
  obtain ⟨r, e, h⟩ := ow_X10_isByBank M (nI i) n s hv hGd
  have h1 := h.2
  rw [hx] at h1
  have u : byB M n s i ↔ ¬ r.toInt = 0 := ⟨fun z => by obtain ⟨r1, e1, q⟩ := z; rw [e] at e1; cases e1; exact q, fun z => ⟨r, e, z⟩⟩
  rw [u]
  by_cases c : n.toInt = 0
  · exact ⟨fun z => Or.inr ⟨c, (h1.2 c).mp z⟩, fun z => z.elim (fun q => absurd c q.1) (fun q => (h1.2 c).mpr q.2)⟩
  · exact ⟨fun z => Or.inl ⟨c, (h1.1 c).mp z⟩, fun z => z.elim (fun q => (h1.1 c).mpr q.2) (fun q => absurd q.1 c)⟩
theorem ow_cst {M : Mem} {s : Int32} {i j : Nat} (hi : i < 40) (hj : j < 40) (hs : 0 ≤ s.toInt ∧ s.toInt ≤ 30) (hGd : GdF (FdR M 1)) : cst M s i j ↔ adjG (FdR M 1) s.toInt i j := by
  have hv : 0 ≤ (nI i).toInt ∧ (nI i).toInt < 40 := by
    rw [t_lit i (by omega)]
    omega
  have hw : 0 ≤ (nI j).toInt ∧ (nI j).toInt < 40 := by
    rw [t_lit j (by omega)]
    omega
  have hx : ix (nI i) = i := (ix_eq hv.1 (by omega)).mpr (t_lit i (by omega))
  have hy : ix (nI j) = j := (ix_eq hw.1 (by omega)).mpr (t_lit j (by omega))
  obtain ⟨r, e, h⟩ := ow_X10_canStep M (nI i) (nI j) s hv hw hs hGd
  have h1 := h.2
  rw [hx, hy] at h1
  exact ⟨fun z => by obtain ⟨r1, e1, q⟩ := z; rw [e] at e1; cases e1; exact h1.mp q, fun z => ⟨r, e, h1.mpr z⟩⟩
theorem ow_X10_laysSteps {k len_k : Nat} (hlk : len_k < 2 ^ 31) (M : Mem) (v2 : Int32) (v3 : Int32) (hlen : len_k = 40) (hk : ¬ k = 1 ∧ ¬ k = 25) (hs : 0 ≤ v3.toInt ∧ v3.toInt ≤ 30) (hGd : GdF (FdR M 1)) : Wp (f_X10_laysSteps k len_k M v2 v3) (fun q => (∀ a i, ¬ (a = 25 ∨ a = k) → q a i = M a i) ∧ (¬ v2.toInt = 0 → Bend 40 (nearG (FdR M 1) v3.toInt) (adjG (FdR M 1) v3.toInt) (fun j => (q k j).toInt)) ∧ (v2.toInt = 0 → Bend 40 (farG (FdR M 1) v3.toInt) (adjG (FdR M 1) v3.toInt) (fun j => (q k j).toInt))) := wp_mono (o_X10_laysSteps hlk M v2 v3 hlen hk) (fun q h => ⟨h.1, fun z => bend_cg (h.2) (fun j hj => (ow_byB hj hGd).trans ⟨fun y => y.elim (fun w => w.2) (fun w => absurd w.1 z), fun y => Or.inl ⟨z, y⟩⟩) (fun i j hi hj => ow_cst hi hj hs hGd), fun z => bend_cg (h.2) (fun j hj => (ow_byB hj hGd).trans ⟨fun y => y.elim (fun w => absurd z w.1) (fun w => w.2), fun y => Or.inr ⟨z, y⟩⟩) (fun i j hi hj => ow_cst hi hj hs hGd)⟩)
set_option maxHeartbeats 4000000 in
theorem ow_X10_crossing (M : Mem) (v1 : Int32) (hs : 0 ≤ v1.toInt ∧ v1.toInt ≤ 30) (hGd : GdF (FdR M 1)) : Wp (f_X10_crossing M v1) (fun q => (∀ a i, ¬ (a = 23 ∨ a = 25) → q.2 a i = M a i) ∧ (CrK (FdR M 1) v1.toInt q.1.toInt) ∧ (v1.toInt < 21 → Bend 40 (nearG (FdR M 1) v1.toInt) (adjG (FdR M 1) v1.toInt) (fun j => (q.2 23 j).toInt))) := by
  refine wp_ite (fun c3 => ?_) (fun c3 => ?_)
  · refine wp_bind2 (ow_X10_laysSteps (by decide) M (nI 1) v1 rfl (by omega) hs hGd) (fun M_1 he15 hq15 => ?_)
    obtain ⟨hg_M_1, hNR_15, hFR_15⟩ := hq15
    replace hNR_15 : ¬ (nI 1).toInt = 0 → Bend 40 (nearG (FdR M 1) v1.toInt) (adjG (FdR M 1) v1.toInt) (fun j => (M_1 23 j).toInt) := hNR_15
    have := t_lit 1
    replace hFR_15 : (nI 1).toInt = 0 → Bend 40 (farG (FdR M 1) v1.toInt) (adjG (FdR M 1) v1.toInt) (fun j => (M_1 23 j).toInt) := hFR_15
    have := t_lit 1
    replace hg_M_1 : ∀ a i, ¬ (a = 23 ∨ a = 25) → M_1 a i = M a i := by exact fun a i q0 => hg_M_1 a i (by first | decide | (rcases hc0 with h | h <;> rw [h] <;> simp; done) | (rcases hb0 with h | h | h <;> rw [h] <;> simp; done) | (simp; done) | omega)
    have hE := hNR_15 (by decide)
    have fr1 : FdR M_1 1 = (FdR M 1) := fdr_same (fun j hj => hg_M_1 1 j (by first | decide | (rcases hc0 with h | h <;> rw [h] <;> simp; done) | (rcases hb0 with h | h | h <;> rw [h] <;> simp; done) | (simp; done) | omega))
    refine wp_lp2 (fun y2_22 y3_22 => (0 ≤ y3_22.toInt) ∧ (MnP (farG (FdR M 1) v1.toInt) (fun j => (M_1 23 j).toInt) (ix y3_22) y2_22.toInt) ∧ (y3_22.toInt ≤ 40)) (fun y2_22 y3_22 => (40 - y3_22.toInt).toNat) (fun ag22 y2_22 y3_22 hI22 ih22 => ?_) FU (-1) (nI 0) ⟨(by have f0 := t_lit 0; omega), (by rw [show ix (nI 0) = 0 from (by decide), show (-1 : Int32).toInt = -1 from (by decide)]; exact mn_0), (by decide)⟩ (fu_lt (by have f0 := t_lit 0; omega))
    obtain ⟨hi22, hm, h40⟩ := hI22
    refine wp_ite (fun c25 => ?_) (fun c25 => ?_)
    · exact wp_some ⟨(fun a i q0 => ((hg_M_1 a i (fun z8 => q0 ((fun z9 => Or.elim z9 (fun h9 => Or.inl h9) (fun h9 => Or.inr (h9))) z8))).trans rfl)), (by show CrK _ _ y2_22.toInt; rw [e40 hi22 c25 h40] at hm; exact crk_m (by omega) hE hm), (fun _ => hE)⟩
    · have u := up40 hi22 c25
      have sb : (M_1 23 (ix y3_22)).toInt = -1 ∨ (1 ≤ (M_1 23 (ix y3_22)).toInt ∧ (M_1 23 (ix y3_22)).toInt ≤ 40) := hE.1 (ix y3_22) u.2.1
      refine wp_gd (by omega) ?_
      refine wp_ite (fun c35 => ?_) (fun c35 => ?_)
      · exact ih22 y2_22 (y3_22 + (nI 1)) ⟨(by have f0 := t_lit 1; have f1 := t_add y3_22 (nI 1); omega), (by rw [u.1]; exact mn_skip hm (Or.inl c35)), (le40 hi22 c25)⟩ (by have f0 := t_lit 1; have f1 := t_add y3_22 (nI 1); omega)
      · refine wp_bind2 (ow_X10_isByBank M_1 y3_22 (nI 0) v1 ⟨hi22, u.2.2⟩ (by rw [fr1]; exact hGd)) (fun r_2 he42 hq42 => ?_)
        obtain ⟨hz_r_2, hnb_42⟩ := hq42
        replace hnb_42 : (¬ (nI 0).toInt = 0 → (¬ r_2.toInt = 0 ↔ nearG (FdR M_1 1) v1.toInt (ix y3_22))) ∧ ((nI 0).toInt = 0 → (¬ r_2.toInt = 0 ↔ farG (FdR M_1 1) v1.toInt (ix y3_22))) := hnb_42
        have := t_lit 0
        refine wp_ite (fun c45 => ?_) (fun c45 => ?_)
        · exact ih22 y2_22 (y3_22 + (nI 1)) ⟨(by have f0 := t_lit 1; have f1 := t_add y3_22 (nI 1); omega), (by rw [u.1]; exact mn_skip hm (Or.inr (fun z => (hnb_42.2 nI0).mpr (by rw [fr1]; exact z) c45))), (le40 hi22 c25)⟩ (by have f0 := t_lit 1; have f1 := t_add y3_22 (nI 1); omega)
        · have ff : (farG (FdR M 1) v1.toInt) (ix y3_22) := by
            have z := (hnb_42.2 nI0).mp c45
            rw [fr1] at z
            exact z
          have j68 : (y2_22.toInt = -1 ∨ (M_1 23 (ix y3_22)).toInt + 1 ≤ y2_22.toInt) → Wp (f_X10_crossing_L68 M_1 ag22 y3_22) (fun q => (∀ a i, ¬ (a = 23 ∨ a = 25) → q.2 a i = M a i) ∧ (CrK (FdR M 1) v1.toInt q.1.toInt) ∧ (v1.toInt < 21 → Bend 40 (nearG (FdR M 1) v1.toInt) (adjG (FdR M 1) v1.toInt) (fun j => (q.2 23 j).toInt))) := by
            intro h68
            unfold f_X10_crossing_L68
            refine wp_gd (by omega) ?_
            refine wp_bnd (fun x_3 ex_3 => ?_)
            exact ih22 x_3 (y3_22 + (nI 1)) ⟨(by have f0 := t_lit 1; have f1 := t_add y3_22 (nI 1); omega), (by rw [u.1, ex_3, t_inc _ 1 (by omega)]; exact mn_take hm ff (fun z => c35 z) h68 (fun j hj => (hE.1 j (by have := u.2.1; omega)).elim Or.inl (fun q => Or.inr q.1))), (le40 hi22 c25)⟩ (by have f0 := t_lit 1; have f1 := t_add y3_22 (nI 1); omega)
          refine wp_ite (fun c53 => ?_) (fun c53 => ?_)
          · exact j68 (Or.inl c53)
          · refine wp_gd (by omega) ?_
            refine wp_ite (fun c65 => ?_) (fun c65 => ?_)
            · exact ih22 y2_22 (y3_22 + (nI 1)) ⟨(by have f0 := t_lit 1; have f1 := t_add y3_22 (nI 1); have f2 := t_add (M_1 23 (ix y3_22)) (nI 1); omega), (by rw [u.1]; exact mn_keep hm c53 (by rw [t_inc _ 1 (by omega)] at c65; exact c65)), (le40 hi22 c25)⟩ (by have f0 := t_lit 1; have f1 := t_add y3_22 (nI 1); have f2 := t_add (M_1 23 (ix y3_22)) (nI 1); omega)
            · exact j68 (Or.inr (by rw [t_inc _ 1 (by omega)] at c65; omega))
  · exact wp_some ⟨(fun _ _ _ => rfl), (Or.inl ⟨by omega, nI1⟩), (fun z => absurd z c3)⟩
