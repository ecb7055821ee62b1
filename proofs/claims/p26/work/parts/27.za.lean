set_option maxHeartbeats 2000000 in
theorem o6_X10_endsPiece (M : Mem) (T : Int → Int) (B : Mem) (hT : TM B M 1) (hO : On M) (hD : Dsc2 (M 7) (ix (M 0 13))) : Wp (f_X10_endsPiece M) (fun q => (∀ a i, ¬ ((a = 0 ∧ i = 11) ∨ (a = 0 ∧ i = 12) ∨ (a = 0 ∧ i = 13) ∨ a = 6) → q a i = M a i) ∧ (TM B q 1) ∧ (F2 T M (.inr (sR M)) = F2 T q (.inr (sR q))) ∧ (On q) ∧ (Dsc2 (q 7) (ix (q 0 13))) ∧ (¬ kd (q 7 (ix (q 0 13) - 1)) = 10)) := by
  refine wp_lp1 (fun M0 => (∀ a i, ¬ ((a = 0 ∧ i = 11) ∨ (a = 0 ∧ i = 12) ∨ (a = 0 ∧ i = 13) ∨ a = 6) → M0 a i = M a i) ∧ (TM B M0 1) ∧ (F2 T M (.inr (sR M)) = F2 T M0 (.inr (sR M0))) ∧ (On M0) ∧ (Dsc2 (M0 7) (ix (M0 0 13)))) (fun M0 => ix (M0 0 13)) (fun ag0 M0 hI0 ih0 => ?_) FU M ⟨(fun _ _ _ => rfl), hT, rfl, hO, hD⟩ (fu_lt ((by have := pm_bd hT.1; have := pm_ix hT.1; omega)))
  obtain ⟨hf_M0, hT0, hF0, hO0, hD0⟩ := hI0
  have hb := pm_bd hT0.1
  have hx := pm_ix hT0.1
  have hw1 := hT0.2.1.2.1
  refine wp_bind2 (o_X10_waitTop M0 hT0.1) (fun r_1 he1 hq1 => ?_)
  have hr_1 := hq1
  replace hr_1 : (ix (M0 0 13) = 0 ∧ r_1.toInt = -1) ∨ (0 < ix (M0 0 13) ∧ r_1.toInt = kd (M0 7 (ix (M0 0 13) - 1))) := hr_1
  refine wp_ite (fun c6 => ?_) (fun c6 => ?_)
  · refine wp_bind2 (o_X10_notes M0 (nI 10) (nI 0) (by omega)) (fun M_2 he13 hq13 => ?_)
    obtain ⟨hg_M_2, hn1_13, hn2_13, hn3_13⟩ := hq13
    replace hn1_13 : M_2 0 12 = M0 0 12 + nI 1 := hn1_13
    have := t_lit 10
    have := t_lit 0
    replace hn2_13 : M_2 6 (ix (M0 0 12)) = (nI 1048576) * (nI 10) + (nI 0) := hn2_13
    have := t_lit 10
    have := t_lit 0
    replace hn3_13 : ∀ k : Nat, ¬ k = ix (M0 0 12) → M_2 6 k = M0 6 k := hn3_13
    have := t_lit 10
    have := t_lit 0
    replace hg_M_2 : ∀ a i, ¬ ((a = 0 ∧ i = 12) ∨ a = 6) → M_2 a i = M0 a i := hg_M_2
    refine wp_bnd (fun M_3 eM_3 => ?_)
    refine wp_bnd (fun M_4 eM_4 => ?_)
    have q12 : M_4 0 12 = M0 0 12 + nI 1 := by rw [eM_4, mset_ne (by first | exact nz1 (by decide) | exact nz2 (by decide) | exact nz1 (nzA hc0 (by decide)) | exact nz1 (nzE (by decide)) | exact nz1 (nzB hc0 (by decide)) | exact nz1 (nzC hc0 (by decide)) | exact nz1 (nzD hc0 (by decide)) | exact nz1 (nzF (by decide)) | exact nz1 (nzG (by decide)) | omega), eM_3, mset_ne (by first | exact nz1 (by decide) | exact nz2 (by decide) | exact nz1 (nzA hc0 (by decide)) | exact nz1 (nzE (by decide)) | exact nz1 (nzB hc0 (by decide)) | exact nz1 (nzC hc0 (by decide)) | exact nz1 (nzD hc0 (by decide)) | exact nz1 (nzF (by decide)) | exact nz1 (nzG (by decide)) | omega)]; exact hn1_13
    have q13 : M_4 0 13 = M0 0 13 - nI 1 := by rw [eM_4, mset_ne (by first | exact nz1 (by decide) | exact nz2 (by decide) | exact nz1 (nzA hc0 (by decide)) | exact nz1 (nzE (by decide)) | exact nz1 (nzB hc0 (by decide)) | exact nz1 (nzC hc0 (by decide)) | exact nz1 (nzD hc0 (by decide)) | exact nz1 (nzF (by decide)) | exact nz1 (nzG (by decide)) | omega), eM_3, mset_eq, hg_M_2 0 13 (by first | decide | (rcases hc0 with h | h <;> rw [h] <;> simp; done) | (rcases hb0 with h | h | h <;> rw [h] <;> simp; done) | (simp; done) | omega)]
    have q7 : M_4 0 7 = M0 0 7 := by rw [eM_4, mset_ne (by first | exact nz1 (by decide) | exact nz2 (by decide) | exact nz1 (nzA hc0 (by decide)) | exact nz1 (nzE (by decide)) | exact nz1 (nzB hc0 (by decide)) | exact nz1 (nzC hc0 (by decide)) | exact nz1 (nzD hc0 (by decide)) | exact nz1 (nzF (by decide)) | exact nz1 (nzG (by decide)) | omega), eM_3, mset_ne (by first | exact nz1 (by decide) | exact nz2 (by decide) | exact nz1 (nzA hc0 (by decide)) | exact nz1 (nzE (by decide)) | exact nz1 (nzB hc0 (by decide)) | exact nz1 (nzC hc0 (by decide)) | exact nz1 (nzD hc0 (by decide)) | exact nz1 (nzF (by decide)) | exact nz1 (nzG (by decide)) | omega), hg_M_2 0 7 (by first | decide | (rcases hc0 with h | h <;> rw [h] <;> simp; done) | (rcases hb0 with h | h | h <;> rw [h] <;> simp; done) | (simp; done) | omega)]
    have q8 : M_4 0 8 = M0 0 8 := by rw [eM_4, mset_ne (by first | exact nz1 (by decide) | exact nz2 (by decide) | exact nz1 (nzA hc0 (by decide)) | exact nz1 (nzE (by decide)) | exact nz1 (nzB hc0 (by decide)) | exact nz1 (nzC hc0 (by decide)) | exact nz1 (nzD hc0 (by decide)) | exact nz1 (nzF (by decide)) | exact nz1 (nzG (by decide)) | omega), eM_3, mset_ne (by first | exact nz1 (by decide) | exact nz2 (by decide) | exact nz1 (nzA hc0 (by decide)) | exact nz1 (nzE (by decide)) | exact nz1 (nzB hc0 (by decide)) | exact nz1 (nzC hc0 (by decide)) | exact nz1 (nzD hc0 (by decide)) | exact nz1 (nzF (by decide)) | exact nz1 (nzG (by decide)) | omega), hg_M_2 0 8 (by first | decide | (rcases hc0 with h | h <;> rw [h] <;> simp; done) | (rcases hb0 with h | h | h <;> rw [h] <;> simp; done) | (simp; done) | omega)]
    have qr7 : M_4 7 = M0 7 := funext (fun i => by rw [eM_4, mset_ne (by first | exact nz1 (by decide) | exact nz2 (by decide) | exact nz1 (nzA hc0 (by decide)) | exact nz1 (nzE (by decide)) | exact nz1 (nzB hc0 (by decide)) | exact nz1 (nzC hc0 (by decide)) | exact nz1 (nzD hc0 (by decide)) | exact nz1 (nzF (by decide)) | exact nz1 (nzG (by decide)) | omega), eM_3, mset_ne (by first | exact nz1 (by decide) | exact nz2 (by decide) | exact nz1 (nzA hc0 (by decide)) | exact nz1 (nzE (by decide)) | exact nz1 (nzB hc0 (by decide)) | exact nz1 (nzC hc0 (by decide)) | exact nz1 (nzD hc0 (by decide)) | exact nz1 (nzF (by decide)) | exact nz1 (nzG (by decide)) | omega), hg_M_2 7 i (by first | decide | (rcases hc0 with h | h <;> rw [h] <;> simp; done) | (rcases hb0 with h | h | h <;> rw [h] <;> simp; done) | (simp; done) | omega)])
    have qr6 : ∀ k, ¬ k = ix (M0 0 12) → M_4 6 k = M0 6 k := fun k hk => by rw [eM_4, mset_ne (by first | exact nz1 (by decide) | exact nz2 (by decide) | exact nz1 (nzA hc0 (by decide)) | exact nz1 (nzE (by decide)) | exact nz1 (nzB hc0 (by decide)) | exact nz1 (nzC hc0 (by decide)) | exact nz1 (nzD hc0 (by decide)) | exact nz1 (nzF (by decide)) | exact nz1 (nzG (by decide)) | omega), eM_3, mset_ne (by first | exact nz1 (by decide) | exact nz2 (by decide) | exact nz1 (nzA hc0 (by decide)) | exact nz1 (nzE (by decide)) | exact nz1 (nzB hc0 (by decide)) | exact nz1 (nzC hc0 (by decide)) | exact nz1 (nzD hc0 (by decide)) | exact nz1 (nzF (by decide)) | exact nz1 (nzG (by decide)) | omega)]; exact hn3_13 k hk
    have qv : M_4 6 (ix (M0 0 12)) = _ := (by rw [eM_4, mset_ne (by first | exact nz1 (by decide) | exact nz2 (by decide) | exact nz1 (nzA hc0 (by decide)) | exact nz1 (nzE (by decide)) | exact nz1 (nzB hc0 (by decide)) | exact nz1 (nzC hc0 (by decide)) | exact nz1 (nzD hc0 (by decide)) | exact nz1 (nzF (by decide)) | exact nz1 (nzG (by decide)) | omega), eM_3, mset_ne (by first | exact nz1 (by decide) | exact nz2 (by decide) | exact nz1 (nzA hc0 (by decide)) | exact nz1 (nzE (by decide)) | exact nz1 (nzB hc0 (by decide)) | exact nz1 (nzC hc0 (by decide)) | exact nz1 (nzD hc0 (by decide)) | exact nz1 (nzF (by decide)) | exact nz1 (nzG (by decide)) | omega)]; exact hn2_13 : M_4 6 (ix (M0 0 12)) = (nI 1048576) * (nI 10) + (nI 0))
    have qd := i_dn (x := M0 0 13) (by omega)
    have hwd := wd_is (a := nI 10) (b := nI 0) (by decide) (by decide)
    have k10 : kd (M0 7 (ix (M0 0 13) - 1)) = 10 := by omega
    have on4 := on_popo hO0 (by omega) (by rw [eM_4, mset_eq, eM_3, mset_ne (by first | exact nz1 (by decide) | exact nz2 (by decide) | exact nz1 (nzA hc0 (by decide)) | exact nz1 (nzE (by decide)) | exact nz1 (nzB hc0 (by decide)) | exact nz1 (nzC hc0 (by decide)) | exact nz1 (nzD hc0 (by decide)) | exact nz1 (nzF (by decide)) | exact nz1 (nzG (by decide)) | omega), hg_M_2 0 11 (by first | decide | (rcases hc0 with h | h <;> rw [h] <;> simp; done) | (rcases hb0 with h | h | h <;> rw [h] <;> simp; done) | (simp; done) | omega)]) q13 qr7 (Or.inl k10)
    have w4 : ix (M_4 0 13) = ix (M0 0 13) - 1 := by
      rw [q13]
      omega
    have s4 := sr_note (M := M0) (a := nI 10) (b := nI 0) (p := (M0 0 7).toInt) (by omega) (by decide) (by decide) (congrArg Int32.toInt q7) q12 qv qr6
    rw [nI0, show (nI 10).toInt = 10 from t_lit 10] at s4
    have F4 : F2 T M0 (.inr (sR M0)) = F2 T M_4 (.inr (sR M_4)) := by
      unfold F2
      rw [w4, on4.2, qr7, s4]
      exact denP_n (by omega) k10
    exact ih0 M_4 ⟨(fun a i q0 => ((congrFun (congrFun eM_4 a) i).trans ((mset_ne (fun h9 => q0 (Or.inl h9))).trans ((congrFun (congrFun eM_3 a) i).trans ((mset_ne (fun h9 => q0 (Or.inr (Or.inr (Or.inl h9))))).trans ((hg_M_2 a i (fun z8 => q0 ((fun z9 => Or.elim z9 (fun h9 => Or.inr (Or.inl h9)) (fun h9 => Or.inr (Or.inr (Or.inr (h9))))) z8))).trans ((hf_M0 a i (fun z8 => q0 ((fun z9 => Or.elim z9 (fun h9 => Or.inl h9) (fun z9 => Or.elim z9 (fun h9 => Or.inr (Or.inl h9)) (fun z9 => Or.elim z9 (fun h9 => Or.inr (Or.inr (Or.inl h9))) (fun h9 => Or.inr (Or.inr (Or.inr (h9))))))) z8))).trans rfl))))))), (tmm_not hT0 (by omega) q12 q13 q7 q8 qr7 qr6 (by rw [qv]; exact hwd.1) (by rw [qv, hwd.2.2.1]; exact t_lit 10)), (hF0.trans F4), on4.1, (by rw [w4, qr7]; exact ds2_d hD0 (by omega))⟩ (by rw [q13]; omega)
  · exact wp_some ⟨(fun a i q0 => ((hf_M0 a i (fun z8 => q0 ((fun z9 => Or.elim z9 (fun h9 => Or.inl h9) (fun z9 => Or.elim z9 (fun h9 => Or.inr (Or.inl h9)) (fun z9 => Or.elim z9 (fun h9 => Or.inr (Or.inr (Or.inl h9))) (fun h9 => Or.inr (Or.inr (Or.inr (h9))))))) z8))).trans rfl)), hT0, hF0, hO0, hD0, (by omega)⟩
set_option maxHeartbeats 2000000 in
theorem o6_X10_lands (M : Mem) (v1 : Int32) (B : Mem) (hT : TM B M 1) (hO : On M) (hD : Dsc2 (M 7) (ix (M 0 13))) : Wp (f_X10_lands M v1) (fun q => (∀ a i, ¬ ((a = 0 ∧ i = 13) ∨ a = 6) → q a i = M a i) ∧ (TM B q 1) ∧ (¬ v1.toInt = 0 → ¬ (kd (q 7 (ix (q 0 13) - 1)) = 11 ∨ kd (q 7 (ix (q 0 13) - 1)) = 12)) ∧ ((sR q, ix (q 0 13)) = clJ v1.toInt (M 7) (ix (M 0 13)) (sR M)) ∧ (On q)) := by
  refine wp_lp1 (fun M0 => (∀ a i, ¬ ((a = 0 ∧ i = 13) ∨ a = 6) → M0 a i = M a i) ∧ (TM B M0 1) ∧ (clJ v1.toInt (M 7) (ix (M 0 13)) (sR M) = clJ v1.toInt (M 7) (ix (M0 0 13)) (sR M0)) ∧ (On M0) ∧ (ix (M0 0 13) ≤ ix (M 0 13))) (fun M0 => ix (M0 0 13)) (fun ag0 M0 hI0 ih0 => ?_) FU M ⟨(fun _ _ _ => rfl), hT, rfl, hO, (Nat.le_refl _)⟩ (fu_lt ((by have := pm_bd hT.1; have := pm_ix hT.1; omega)))
  obtain ⟨hf_M0, hT0, hc0, hO0, hl0⟩ := hI0
  have hb := pm_bd hT0.1
  have hx := pm_ix hT0.1
  have hw1 := hT0.2.1.2.1
  have e7 : M0 7 = M 7 := funext (fun i => hf_M0 7 i (by first | decide | (rcases hc0 with h | h <;> rw [h] <;> simp; done) | (rcases hb0 with h | h | h <;> rw [h] <;> simp; done) | (simp; done) | omega))
  refine wp_bind2 (o_X10_waitTop M0 hT0.1) (fun r_1 he1 hq1 => ?_)
  have hr_1 := hq1
  replace hr_1 : (ix (M0 0 13) = 0 ∧ r_1.toInt = -1) ∨ (0 < ix (M0 0 13) ∧ r_1.toInt = kd (M0 7 (ix (M0 0 13) - 1))) := hr_1
  have j22 : (kd (M0 7 (ix (M0 0 13) - 1)) = 11 ∨ kd (M0 7 (ix (M0 0 13) - 1)) = 12) → (kd (M0 7 (ix (M0 0 13) - 1)) = 11 ∨ ¬ v1.toInt = 0) → Wp (f_X10_lands_L22 ag0 M0) (fun q => (∀ a i, ¬ ((a = 0 ∧ i = 13) ∨ a = 6) → q a i = M a i) ∧ (TM B q 1) ∧ (¬ v1.toInt = 0 → ¬ (kd (q 7 (ix (q 0 13) - 1)) = 11 ∨ kd (q 7 (ix (q 0 13) - 1)) = 12)) ∧ ((sR q, ix (q 0 13)) = clJ v1.toInt (M 7) (ix (M 0 13)) (sR M)) ∧ (On q)) := by
    intro h22 k22
    unfold f_X10_lands_L22
    have hd := i_dn (x := M0 0 13) (by omega)
    have hd1 := i_dn1 (x := M0 0 13) (by omega)
    have hpn := tmm_pend hT0 h22
    refine wp_gd (by omega) ?_
    refine wp_bnd (fun x_2 ex_2 => ?_)
    have hx2 : x_2.toInt = vl (M0 7 (ix (M0 0 13) - 1)) := by rw [ex_2, vl_rm (by rw [hd1]; exact pm_top hT0.1 (by omega)), hd1]
    have fx2 := t_ixn x_2 (by omega)
    have hi2 : (vl (M0 7 (ix (M0 0 13) - 1))).toNat = ix x_2 := by omega
    rw [hi2] at hpn
    have hk6 := kd_div hpn.2.2.2.2
    have hwd := wd_is (a := M0 6 (ix x_2) / nI 1048576) (b := M0 0 12) (by omega) (by omega)
    refine wp_gd (by omega) ?_
    refine wp_gd (by omega) ?_
    refine wp_bnd (fun M_3 eM_3 => ?_)
    refine wp_bnd (fun M_4 eM_4 => ?_)
    have q12 : M_4 0 12 = M0 0 12 := by rw [eM_4, mset_ne (by first | exact nz1 (by decide) | exact nz2 (by decide) | exact nz1 (nzA hc0 (by decide)) | exact nz1 (nzE (by decide)) | exact nz1 (nzB hc0 (by decide)) | exact nz1 (nzC hc0 (by decide)) | exact nz1 (nzD hc0 (by decide)) | exact nz1 (nzF (by decide)) | exact nz1 (nzG (by decide)) | omega), eM_3, mset_ne (by first | exact nz1 (by decide) | exact nz2 (by decide) | exact nz1 (nzA hc0 (by decide)) | exact nz1 (nzE (by decide)) | exact nz1 (nzB hc0 (by decide)) | exact nz1 (nzC hc0 (by decide)) | exact nz1 (nzD hc0 (by decide)) | exact nz1 (nzF (by decide)) | exact nz1 (nzG (by decide)) | omega)]
    have q13 : M_4 0 13 = M0 0 13 - nI 1 := by rw [eM_4, mset_eq, eM_3, mset_ne (by first | exact nz1 (by decide) | exact nz2 (by decide) | exact nz1 (nzA hc0 (by decide)) | exact nz1 (nzE (by decide)) | exact nz1 (nzB hc0 (by decide)) | exact nz1 (nzC hc0 (by decide)) | exact nz1 (nzD hc0 (by decide)) | exact nz1 (nzF (by decide)) | exact nz1 (nzG (by decide)) | omega)]
    have q7 : M_4 0 7 = M0 0 7 := by rw [eM_4, mset_ne (by first | exact nz1 (by decide) | exact nz2 (by decide) | exact nz1 (nzA hc0 (by decide)) | exact nz1 (nzE (by decide)) | exact nz1 (nzB hc0 (by decide)) | exact nz1 (nzC hc0 (by decide)) | exact nz1 (nzD hc0 (by decide)) | exact nz1 (nzF (by decide)) | exact nz1 (nzG (by decide)) | omega), eM_3, mset_ne (by first | exact nz1 (by decide) | exact nz2 (by decide) | exact nz1 (nzA hc0 (by decide)) | exact nz1 (nzE (by decide)) | exact nz1 (nzB hc0 (by decide)) | exact nz1 (nzC hc0 (by decide)) | exact nz1 (nzD hc0 (by decide)) | exact nz1 (nzF (by decide)) | exact nz1 (nzG (by decide)) | omega)]
    have q8 : M_4 0 8 = M0 0 8 := by rw [eM_4, mset_ne (by first | exact nz1 (by decide) | exact nz2 (by decide) | exact nz1 (nzA hc0 (by decide)) | exact nz1 (nzE (by decide)) | exact nz1 (nzB hc0 (by decide)) | exact nz1 (nzC hc0 (by decide)) | exact nz1 (nzD hc0 (by decide)) | exact nz1 (nzF (by decide)) | exact nz1 (nzG (by decide)) | omega), eM_3, mset_ne (by first | exact nz1 (by decide) | exact nz2 (by decide) | exact nz1 (nzA hc0 (by decide)) | exact nz1 (nzE (by decide)) | exact nz1 (nzB hc0 (by decide)) | exact nz1 (nzC hc0 (by decide)) | exact nz1 (nzD hc0 (by decide)) | exact nz1 (nzF (by decide)) | exact nz1 (nzG (by decide)) | omega)]
    have qr7 : M_4 7 = M0 7 := funext (fun i => by rw [eM_4, mset_ne (by first | exact nz1 (by decide) | exact nz2 (by decide) | exact nz1 (nzA hc0 (by decide)) | exact nz1 (nzE (by decide)) | exact nz1 (nzB hc0 (by decide)) | exact nz1 (nzC hc0 (by decide)) | exact nz1 (nzD hc0 (by decide)) | exact nz1 (nzF (by decide)) | exact nz1 (nzG (by decide)) | omega), eM_3, mset_ne (by first | exact nz1 (by decide) | exact nz2 (by decide) | exact nz1 (nzA hc0 (by decide)) | exact nz1 (nzE (by decide)) | exact nz1 (nzB hc0 (by decide)) | exact nz1 (nzC hc0 (by decide)) | exact nz1 (nzD hc0 (by decide)) | exact nz1 (nzF (by decide)) | exact nz1 (nzG (by decide)) | omega)])
    have qr6 : ∀ k, ¬ k = ix x_2 → M_4 6 k = M0 6 k := fun k hk => by rw [eM_4, mset_ne (by first | exact nz1 (by decide) | exact nz2 (by decide) | exact nz1 (nzA hc0 (by decide)) | exact nz1 (nzE (by decide)) | exact nz1 (nzB hc0 (by decide)) | exact nz1 (nzC hc0 (by decide)) | exact nz1 (nzD hc0 (by decide)) | exact nz1 (nzF (by decide)) | exact nz1 (nzG (by decide)) | omega), eM_3, mset_ne (by first | exact nz1 (by decide) | exact nz2 (by decide) | exact nz1 (nzA hc0 (by decide)) | exact nz1 (nzE (by decide)) | exact nz1 (nzB hc0 (by decide)) | exact nz1 (nzC hc0 (by decide)) | exact nz1 (nzD hc0 (by decide)) | exact nz1 (nzF (by decide)) | exact nz1 (nzG (by decide)) | omega)]
    have qv : M_4 6 (ix x_2) = (nI 1048576) * (M0 6 (ix x_2) / (nI 1048576)) + M0 0 12 := by rw [eM_4, mset_ne (by first | exact nz1 (by decide) | exact nz2 (by decide) | exact nz1 (nzA hc0 (by decide)) | exact nz1 (nzE (by decide)) | exact nz1 (nzB hc0 (by decide)) | exact nz1 (nzC hc0 (by decide)) | exact nz1 (nzD hc0 (by decide)) | exact nz1 (nzF (by decide)) | exact nz1 (nzG (by decide)) | omega), eM_3, mset_eq]
    have hT4 : TM B M_4 1 := tmm_land hT0 h22 q12 q13 q7 q8 qr7 (by rw [hi2]; exact qr6) (by rw [hi2, qv]; exact hwd.1) (by rw [hi2, qv, hwd.2.2.1]; exact hk6) (by rw [hi2, qv]; exact hwd.2.2.2)
    have s4 : sR M_4 = lnd (sR M0) (some (vl (M0 7 (ix (M0 0 13) - 1))).toNat) := by
      rw [hi2]
      exact sr_land (by omega) q7 q12 (by rw [qv, hwd.2.2.1]; exact hk6) (by rw [qv]; exact hwd.2.2.2) qr6
    have w4 : ix (M_4 0 13) = ix (M0 0 13) - 1 := by
      rw [q13]
      omega
    have on4 := on_popx hO0 (by omega) (by rw [eM_4, mset_ne (by first | exact nz1 (by decide) | exact nz2 (by decide) | exact nz1 (nzA hc0 (by decide)) | exact nz1 (nzE (by decide)) | exact nz1 (nzB hc0 (by decide)) | exact nz1 (nzC hc0 (by decide)) | exact nz1 (nzD hc0 (by decide)) | exact nz1 (nzF (by decide)) | exact nz1 (nzG (by decide)) | omega), eM_3, mset_ne (by first | exact nz1 (by decide) | exact nz2 (by decide) | exact nz1 (nzA hc0 (by decide)) | exact nz1 (nzE (by decide)) | exact nz1 (nzB hc0 (by decide)) | exact nz1 (nzC hc0 (by decide)) | exact nz1 (nzD hc0 (by decide)) | exact nz1 (nzF (by decide)) | exact nz1 (nzG (by decide)) | omega)]) q13 qr7 (by omega)
    have hD0 := ds2_d hD hl0
    have h22b := h22
    have k22b := k22
    rw [e7] at s4 h22b k22b
    exact ih0 M_4 ⟨(fun a i q0 => ((congrFun (congrFun eM_4 a) i).trans ((mset_ne (fun h9 => q0 (Or.inl h9))).trans ((congrFun (congrFun eM_3 a) i).trans ((mset_ne (fun h9 => q0 (Or.inr ((h9).1)))).trans ((hf_M0 a i (fun z8 => q0 ((fun z9 => Or.elim z9 (fun h9 => Or.inl h9) (fun h9 => Or.inr (h9))) z8))).trans rfl)))))), hT4, (by rw [hc0, w4, s4]; by_cases c9 : kd (M 7 (ix (M0 0 13) - 1)) = 11; (exact clJ_a hD0 ⟨by omega, c9⟩); exact clJ_o hD0 (fun z => c9 z.2) ⟨by omega, by omega⟩ (by omega)), on4.1, (by rw [w4]; omega)⟩ (by rw [q13]; omega)
  refine wp_ite (fun c6 => ?_) (fun c6 => ?_)
  · exact j22 (by omega) (by omega)
  · refine wp_ite (fun c10 => ?_) (fun c10 => ?_)
    · exact wp_some ⟨(fun a i q0 => ((hf_M0 a i (fun z8 => q0 ((fun z9 => Or.elim z9 (fun h9 => Or.inl h9) (fun h9 => Or.inr (h9))) z8))).trans rfl)), hT0, (fun z => absurd c10 z), (by show (sR M0, ix (M0 0 13)) = _; rw [hc0]; exact (clJ_e (fun z => by have z1 := z.1; have z2 := z.2; rw [← e7] at z2; omega) (Or.inl c10)).symm), hO0⟩
    · refine wp_bind2 (o_X10_waitTop M0 hT0.1) (fun r_5 he14 hq14 => ?_)
      have hr_14 := hq14
      replace hr_14 : (ix (M0 0 13) = 0 ∧ r_5.toInt = -1) ∨ (0 < ix (M0 0 13) ∧ r_5.toInt = kd (M0 7 (ix (M0 0 13) - 1))) := hr_14
      refine wp_ite (fun c19 => ?_) (fun c19 => ?_)
      · exact j22 (by omega) (by omega)
      · exact wp_some ⟨(fun a i q0 => ((hf_M0 a i (fun z8 => q0 ((fun z9 => Or.elim z9 (fun h9 => Or.inl h9) (fun h9 => Or.inr (h9))) z8))).trans rfl)), hT0, (fun _ => by omega), (by show (sR M0, ix (M0 0 13)) = _; rw [hc0]; exact (clJ_e (fun z => by have z1 := z.1; have z2 := z.2; rw [← e7] at z2; omega) (Or.inr (fun z => by have z1 := z.1; have z2 := z.2; rw [← e7] at z2; omega))).symm), hO0⟩
set_option maxHeartbeats 2000000 in
theorem o6_X10_jumps (M : Mem) (v1 : Int32) (B : Mem) (hT : TM B M 1) (hv : v1.toInt = 11 ∨ v1.toInt = 12) (hl : (M 0 7).toInt < (M 0 8).toInt) (hO : On M) : Wp (f_X10_jumps M v1) (fun q => (∀ a i, ¬ ((a = 0 ∧ i = 7) ∨ (a = 0 ∧ i = 12) ∨ (a = 0 ∧ i = 13) ∨ a = 6 ∨ a = 7) → q a i = M a i) ∧ (TM B q 0) ∧ (q 0 7 = M 0 7 + nI 1) ∧ (sR q = fwd (emt (sR M) v1.toInt 0) ((M 0 7).toInt + 1)) ∧ (q 7 = upd (M 7) (ix (M 0 13)) ((nI 1048576) * v1 + M 0 12) ∧ ix (q 0 13) = ix (M 0 13) + 1) ∧ (On q ∧ dO q = dO M)) := by
  have hb := pm_bd hT.1
  have hx := pm_ix hT.1
  have hw1 := wd_is (a := v1) (b := nI 0) (by omega) (by decide)
  have hw2 := wd_is (a := v1) (b := M 0 12) (by omega) (by omega)
  refine wp_gd (by omega) ?_
  refine wp_bnd (fun M_1 eM_1 => ?_)
  refine wp_bnd (fun M_2 eM_2 => ?_)
  have a12 : M_2 0 12 = M 0 12 := by rw [eM_2, mset_ne (by first | exact nz1 (by decide) | exact nz2 (by decide) | exact nz1 (nzA hc0 (by decide)) | exact nz1 (nzE (by decide)) | exact nz1 (nzB hc0 (by decide)) | exact nz1 (nzC hc0 (by decide)) | exact nz1 (nzD hc0 (by decide)) | exact nz1 (nzF (by decide)) | exact nz1 (nzG (by decide)) | omega), eM_1, mset_ne (by first | exact nz1 (by decide) | exact nz2 (by decide) | exact nz1 (nzA hc0 (by decide)) | exact nz1 (nzE (by decide)) | exact nz1 (nzB hc0 (by decide)) | exact nz1 (nzC hc0 (by decide)) | exact nz1 (nzD hc0 (by decide)) | exact nz1 (nzF (by decide)) | exact nz1 (nzG (by decide)) | omega)]
  refine wp_bind2 (o_X10_notes M_2 v1 (nI 0) (by rw [a12]; omega)) (fun M_3 he31 hq31 => ?_)
  obtain ⟨hg_M_3, hn1_31, hn2_31, hn3_31⟩ := hq31
  replace hn1_31 : M_3 0 12 = M_2 0 12 + nI 1 := hn1_31
  have := t_lit 0
  replace hn2_31 : M_3 6 (ix (M_2 0 12)) = (nI 1048576) * v1 + (nI 0) := hn2_31
  have := t_lit 0
  replace hn3_31 : ∀ k : Nat, ¬ k = ix (M_2 0 12) → M_3 6 k = M_2 6 k := hn3_31
  have := t_lit 0
  replace hg_M_3 : ∀ a i, ¬ ((a = 0 ∧ i = 12) ∨ a = 6) → M_3 a i = M_2 a i := hg_M_3
  refine wp_bnd (fun M_4 eM_4 => ?_)
  have q12 : M_4 0 12 = M 0 12 + nI 1 := by rw [eM_4, mset_ne (by first | exact nz1 (by decide) | exact nz2 (by decide) | exact nz1 (nzA hc0 (by decide)) | exact nz1 (nzE (by decide)) | exact nz1 (nzB hc0 (by decide)) | exact nz1 (nzC hc0 (by decide)) | exact nz1 (nzD hc0 (by decide)) | exact nz1 (nzF (by decide)) | exact nz1 (nzG (by decide)) | omega), hn1_31, a12]
  have q13 : M_4 0 13 = M 0 13 + nI 1 := by rw [eM_4, mset_ne (by first | exact nz1 (by decide) | exact nz2 (by decide) | exact nz1 (nzA hc0 (by decide)) | exact nz1 (nzE (by decide)) | exact nz1 (nzB hc0 (by decide)) | exact nz1 (nzC hc0 (by decide)) | exact nz1 (nzD hc0 (by decide)) | exact nz1 (nzF (by decide)) | exact nz1 (nzG (by decide)) | omega), hg_M_3 0 13 (by first | decide | (rcases hc0 with h | h <;> rw [h] <;> simp; done) | (rcases hb0 with h | h | h <;> rw [h] <;> simp; done) | (simp; done) | omega), eM_2, mset_eq, eM_1, mset_ne (by first | exact nz1 (by decide) | exact nz2 (by decide) | exact nz1 (nzA hc0 (by decide)) | exact nz1 (nzE (by decide)) | exact nz1 (nzB hc0 (by decide)) | exact nz1 (nzC hc0 (by decide)) | exact nz1 (nzD hc0 (by decide)) | exact nz1 (nzF (by decide)) | exact nz1 (nzG (by decide)) | omega)]
  have q7 : M_4 0 7 = M 0 7 + nI 1 := by rw [eM_4, mset_eq, hg_M_3 0 7 (by first | decide | (rcases hc0 with h | h <;> rw [h] <;> simp; done) | (rcases hb0 with h | h | h <;> rw [h] <;> simp; done) | (simp; done) | omega), eM_2, mset_ne (by first | exact nz1 (by decide) | exact nz2 (by decide) | exact nz1 (nzA hc0 (by decide)) | exact nz1 (nzE (by decide)) | exact nz1 (nzB hc0 (by decide)) | exact nz1 (nzC hc0 (by decide)) | exact nz1 (nzD hc0 (by decide)) | exact nz1 (nzF (by decide)) | exact nz1 (nzG (by decide)) | omega), eM_1, mset_ne (by first | exact nz1 (by decide) | exact nz2 (by decide) | exact nz1 (nzA hc0 (by decide)) | exact nz1 (nzE (by decide)) | exact nz1 (nzB hc0 (by decide)) | exact nz1 (nzC hc0 (by decide)) | exact nz1 (nzD hc0 (by decide)) | exact nz1 (nzF (by decide)) | exact nz1 (nzG (by decide)) | omega)]
  have q8 : M_4 0 8 = M 0 8 := by rw [eM_4, mset_ne (by first | exact nz1 (by decide) | exact nz2 (by decide) | exact nz1 (nzA hc0 (by decide)) | exact nz1 (nzE (by decide)) | exact nz1 (nzB hc0 (by decide)) | exact nz1 (nzC hc0 (by decide)) | exact nz1 (nzD hc0 (by decide)) | exact nz1 (nzF (by decide)) | exact nz1 (nzG (by decide)) | omega), hg_M_3 0 8 (by first | decide | (rcases hc0 with h | h <;> rw [h] <;> simp; done) | (rcases hb0 with h | h | h <;> rw [h] <;> simp; done) | (simp; done) | omega), eM_2, mset_ne (by first | exact nz1 (by decide) | exact nz2 (by decide) | exact nz1 (nzA hc0 (by decide)) | exact nz1 (nzE (by decide)) | exact nz1 (nzB hc0 (by decide)) | exact nz1 (nzC hc0 (by decide)) | exact nz1 (nzD hc0 (by decide)) | exact nz1 (nzF (by decide)) | exact nz1 (nzG (by decide)) | omega), eM_1, mset_ne (by first | exact nz1 (by decide) | exact nz2 (by decide) | exact nz1 (nzA hc0 (by decide)) | exact nz1 (nzE (by decide)) | exact nz1 (nzB hc0 (by decide)) | exact nz1 (nzC hc0 (by decide)) | exact nz1 (nzD hc0 (by decide)) | exact nz1 (nzF (by decide)) | exact nz1 (nzG (by decide)) | omega)]
  have qr7 : M_4 7 = upd (M 7) (ix (M 0 13)) ((nI 1048576) * v1 + M 0 12) := funext (fun i => by rw [eM_4, mset_ne (by first | exact nz1 (by decide) | exact nz2 (by decide) | exact nz1 (nzA hc0 (by decide)) | exact nz1 (nzE (by decide)) | exact nz1 (nzB hc0 (by decide)) | exact nz1 (nzC hc0 (by decide)) | exact nz1 (nzD hc0 (by decide)) | exact nz1 (nzF (by decide)) | exact nz1 (nzG (by decide)) | omega), hg_M_3 7 i (by first | decide | (rcases hc0 with h | h <;> rw [h] <;> simp; done) | (rcases hb0 with h | h | h <;> rw [h] <;> simp; done) | (simp; done) | omega), eM_2, mset_ne (by first | exact nz1 (by decide) | exact nz2 (by decide) | exact nz1 (nzA hc0 (by decide)) | exact nz1 (nzE (by decide)) | exact nz1 (nzB hc0 (by decide)) | exact nz1 (nzC hc0 (by decide)) | exact nz1 (nzD hc0 (by decide)) | exact nz1 (nzF (by decide)) | exact nz1 (nzG (by decide)) | omega), eM_1, mset_s])
  have qr6 : ∀ k, ¬ k = ix (M 0 12) → M_4 6 k = M 6 k := fun k hk => by rw [eM_4, mset_ne (by first | exact nz1 (by decide) | exact nz2 (by decide) | exact nz1 (nzA hc0 (by decide)) | exact nz1 (nzE (by decide)) | exact nz1 (nzB hc0 (by decide)) | exact nz1 (nzC hc0 (by decide)) | exact nz1 (nzD hc0 (by decide)) | exact nz1 (nzF (by decide)) | exact nz1 (nzG (by decide)) | omega), hn3_31 k (by rw [a12]; exact hk), eM_2, mset_ne (by first | exact nz1 (by decide) | exact nz2 (by decide) | exact nz1 (nzA hc0 (by decide)) | exact nz1 (nzE (by decide)) | exact nz1 (nzB hc0 (by decide)) | exact nz1 (nzC hc0 (by decide)) | exact nz1 (nzD hc0 (by decide)) | exact nz1 (nzF (by decide)) | exact nz1 (nzG (by decide)) | omega), eM_1, mset_ne (by first | exact nz1 (by decide) | exact nz2 (by decide) | exact nz1 (nzA hc0 (by decide)) | exact nz1 (nzE (by decide)) | exact nz1 (nzB hc0 (by decide)) | exact nz1 (nzC hc0 (by decide)) | exact nz1 (nzD hc0 (by decide)) | exact nz1 (nzF (by decide)) | exact nz1 (nzG (by decide)) | omega)]
  have qv : M_4 6 (ix (M 0 12)) = (nI 1048576) * v1 + (nI 0) := by rw [eM_4, mset_ne (by first | exact nz1 (by decide) | exact nz2 (by decide) | exact nz1 (nzA hc0 (by decide)) | exact nz1 (nzE (by decide)) | exact nz1 (nzB hc0 (by decide)) | exact nz1 (nzC hc0 (by decide)) | exact nz1 (nzD hc0 (by decide)) | exact nz1 (nzF (by decide)) | exact nz1 (nzG (by decide)) | omega), ← a12]; exact hn2_31
  exact wp_some ⟨(fun a i q0 => ((congrFun (congrFun eM_4 a) i).trans ((mset_ne (fun h9 => q0 (Or.inl h9))).trans ((hg_M_3 a i (fun z8 => q0 ((fun z9 => Or.elim z9 (fun h9 => Or.inr (Or.inl h9)) (fun h9 => Or.inr (Or.inr (Or.inr (Or.inl h9))))) z8))).trans ((congrFun (congrFun eM_2 a) i).trans ((mset_ne (fun h9 => q0 (Or.inr (Or.inr (Or.inl h9))))).trans ((congrFun (congrFun eM_1 a) i).trans ((mset_ne (fun h9 => q0 (Or.inr (Or.inr (Or.inr (Or.inr ((h9).1))))))).trans rfl)))))))), (tmm_jump hT hl q13 qr7 q7 q12 q8 qr6 (by rw [qv]; exact hw1.1) (by rw [qv, hw1.2.2.1]; exact hv) ⟨hw2.1, hw2.2.1⟩ (by rw [hw2.2.2.1]; exact hv) hw2.2.2.2), q7, (by have s4 := sr_note (M := M) (N := M_4) (a := v1) (b := nI 0) (p := (M 0 7).toInt + 1) (by omega) (by omega) (by decide) (by rw [q7]; exact (i_up (by omega)).2) q12 qv qr6; rw [nI0] at s4; exact s4), ⟨qr7, by rw [q13]; exact (i_up (by omega)).1⟩, (on_push hO (by omega) (by rw [eM_4, mset_ne (by first | exact nz1 (by decide) | exact nz2 (by decide) | exact nz1 (nzA hc0 (by decide)) | exact nz1 (nzE (by decide)) | exact nz1 (nzB hc0 (by decide)) | exact nz1 (nzC hc0 (by decide)) | exact nz1 (nzD hc0 (by decide)) | exact nz1 (nzF (by decide)) | exact nz1 (nzG (by decide)) | omega), hg_M_3 0 11 (by first | decide | (rcases hc0 with h | h <;> rw [h] <;> simp; done) | (rcases hb0 with h | h | h <;> rw [h] <;> simp; done) | (simp; done) | omega), eM_2, mset_ne (by first | exact nz1 (by decide) | exact nz2 (by decide) | exact nz1 (nzA hc0 (by decide)) | exact nz1 (nzE (by decide)) | exact nz1 (nzB hc0 (by decide)) | exact nz1 (nzC hc0 (by decide)) | exact nz1 (nzD hc0 (by decide)) | exact nz1 (nzF (by decide)) | exact nz1 (nzG (by decide)) | omega), eM_1, mset_ne (by first | exact nz1 (by decide) | exact nz2 (by decide) | exact nz1 (nzA hc0 (by decide)) | exact nz1 (nzE (by decide)) | exact nz1 (nzB hc0 (by decide)) | exact nz1 (nzC hc0 (by decide)) | exact nz1 (nzD hc0 (by decide)) | exact nz1 (nzF (by decide)) | exact nz1 (nzG (by decide)) | omega)]) q13 qr7 (by rw [hw2.2.2.1]; omega))⟩
set_option maxHeartbeats 4000000 in
theorem o6_X10_readsCompared (M : Mem) (T : Int → Int) (hTx : TXr M = T) (B : Mem) (hT : TM B M 0) (hO : On M) (hD : Dsc2 (M 7) (ix (M 0 13))) : Wp (f_X10_readsCompared M) (fun q => (q.1 = 0 ∨ q.1 = 1) ∧ (∀ a i, ¬ ((a = 0 ∧ i = 7) ∨ (a = 0 ∧ i = 9) ∨ (a = 0 ∧ i = 10) ∨ (a = 0 ∧ i = 11) ∨ (a = 0 ∧ i = 12) ∨ (a = 0 ∧ i = 13) ∨ a = 6 ∨ a = 7) → q.2 a i = M a i) ∧ (¬ q.1.toInt = 0 → TM B q.2 1 ∧ (M 0 7).toInt < (q.2 0 7).toInt) ∧ (GoP (F2 T M (cmpS T (dO M) (sR M))) (F2 T q.2 (.inr (sR q.2))) q.1.toInt (q.2 0 9).toInt) ∧ (¬ q.1.toInt = 0 → On q.2 ∧ Dsc2 (q.2 7) (ix (q.2 0 13)) ∧ ¬ kd (q.2 7 (ix (q.2 0 13) - 1)) = 10)) := by
  refine wp_cb2 (o6_X10_readsSum M T hTx hT.1 (tmm_below hT) hO) (fun r_1 M_2 he1 hq1 => ?_)
  obtain ⟨hz_r_1, hg_M_2, hR_1, hq_1, hX_1⟩ := hq1
  replace hR_1 : ¬ r_1.toInt = 0 → RS M M_2 1 ∧ ix (M_2 0 13) = ix (M 0 13) ∧ (M 0 7).toInt < (M_2 0 7).toInt := hR_1
  replace hq_1 : LwP (sumD T (dO M) (sR M)) r_1.toInt (M_2 0 9).toInt (sR M_2) := hq_1
  replace hX_1 : ¬ r_1.toInt = 0 → On M_2 := hX_1
  replace hg_M_2 : ∀ a i, ¬ ((a = 0 ∧ i = 7) ∨ (a = 0 ∧ i = 9) ∨ (a = 0 ∧ i = 10) ∨ (a = 0 ∧ i = 11) ∨ (a = 0 ∧ i = 12) ∨ (a = 0 ∧ i = 13) ∨ a = 6 ∨ a = 7) → M_2 a i = M a i := hg_M_2
  refine wp_ite (fun c4 => ?_) (fun c4 => ?_)
  · exact wp_some ⟨b01_0, (fun a i q0 => ((hg_M_2 a i (fun z8 => q0 ((fun z9 => Or.elim z9 (fun h9 => Or.inl h9) (fun z9 => Or.elim z9 (fun h9 => Or.inr (Or.inl h9)) (fun z9 => Or.elim z9 (fun h9 => Or.inr (Or.inr (Or.inl h9))) (fun z9 => Or.elim z9 (fun h9 => Or.inr (Or.inr (Or.inr (Or.inl h9)))) (fun z9 => Or.elim z9 (fun h9 => Or.inr (Or.inr (Or.inr (Or.inr (Or.inl h9))))) (fun z9 => Or.elim z9 (fun h9 => Or.inr (Or.inr (Or.inr (Or.inr (Or.inr (Or.inl h9)))))) (fun z9 => Or.elim z9 (fun h9 => Or.inr (Or.inr (Or.inr (Or.inr (Or.inr (Or.inr (Or.inl h9))))))) (fun h9 => Or.inr (Or.inr (Or.inr (Or.inr (Or.inr (Or.inr (Or.inr (h9))))))))))))))) z8))).trans rfl)), (fun z => absurd nI0 z), (by show GoP (F2 T M (cmpS T (dO M) (sR M))) (F2 T M_2 (.inr (sR M_2))) (nI 0).toInt (M_2 0 9).toInt; exact ⟨fun _ => by rw [cmpS_1 (lwp_f hq_1 c4)]; exact fin2_l _ _ _ (Nat.le_refl _), fun z => absurd nI0 z⟩), (fun z => absurd nI0 z)⟩
  · have hr1 := hR_1 c4
    have hT2 : TM B M_2 1 := tmm_sum hT (by omega) hr1.1 hr1.2.1
    have hb2 := pm_bd hT2.1
    have hx2 := pm_ix hT2.1
    have v01 := lwp_v hq_1 c4
    have o2 := hX_1 c4
    have r72 := hr1.1.2.2.2.1
    have d2 := on_back hO o2 hr1.2.1 r72
    have hTx2 : TXr M_2 = T := (txr_fr (hg_M_2 0 8 (by first | decide | (rcases hc0 with h | h <;> rw [h] <;> simp; done) | (rcases hb0 with h | h | h <;> rw [h] <;> simp; done) | (simp; done) | omega)) (fun j => hg_M_2 5 j (by first | decide | (rcases hc0 with h | h <;> rw [h] <;> simp; done) | (rcases hb0 with h | h | h <;> rw [h] <;> simp; done) | (simp; done) | omega))).trans hTx
    refine wp_bind2 (o5_X10_here M_2 T hTx2 (pm_hp hT2.1)) (fun r_3 he10 hq10 => ?_)
    obtain ⟨hh_10, hq_10⟩ := hq10
    replace hh_10 : (r_3.toInt = -1 ∧ (M_2 0 7).toInt = (M_2 0 8).toInt) ∨ (0 ≤ r_3.toInt ∧ r_3.toInt ≤ 255 ∧ (M_2 0 7).toInt < (M_2 0 8).toInt) := hh_10
    replace hq_10 : r_3.toInt = T (M_2 0 7).toInt := hq_10
    have j52 : ∀ (t0_52 : Int32), (t0_52.toInt = -1 ∨ (7 ≤ t0_52.toInt ∧ t0_52.toInt ≤ 9 ∧ (M_2 0 7).toInt < (M_2 0 8).toInt)) → (CmP t0_52.toInt (T (M_2 0 7).toInt)) → Wp (f_X10_readsCompared_L52 M_2 t0_52) (fun q => (q.1 = 0 ∨ q.1 = 1) ∧ (∀ a i, ¬ ((a = 0 ∧ i = 7) ∨ (a = 0 ∧ i = 9) ∨ (a = 0 ∧ i = 10) ∨ (a = 0 ∧ i = 11) ∨ (a = 0 ∧ i = 12) ∨ (a = 0 ∧ i = 13) ∨ a = 6 ∨ a = 7) → q.2 a i = M a i) ∧ (¬ q.1.toInt = 0 → TM B q.2 1 ∧ (M 0 7).toInt < (q.2 0 7).toInt) ∧ (GoP (F2 T M (cmpS T (dO M) (sR M))) (F2 T q.2 (.inr (sR q.2))) q.1.toInt (q.2 0 9).toInt) ∧ (¬ q.1.toInt = 0 → On q.2 ∧ Dsc2 (q.2 7) (ix (q.2 0 13)) ∧ ¬ kd (q.2 7 (ix (q.2 0 13) - 1)) = 10)) := by
      intro t0_52 h52 k52
      unfold f_X10_readsCompared_L52
      refine wp_ite (fun c55 => ?_) (fun c55 => ?_)
      · refine wp_cb2 (o5_X10_wrongAt M_2 (nI 1) (M_2 0 7)) (fun r_9 M_10 he64 hq64 => ?_)
        obtain ⟨hz_r_9, hg_M_10, hw_64, hq_64⟩ := hq64
        replace hw_64 : r_9.toInt = 0 := hw_64
        have := t_lit 1
        replace hq_64 : 0 ≤ (nI 1).toInt → (nI 1).toInt ≤ 9 → 0 ≤ (M_2 0 7).toInt → (M_2 0 7).toInt ≤ 1000 → (M_10 0 9).toInt = -1000 * (nI 1).toInt - (M_2 0 7).toInt := hq_64
        have := t_lit 1
        replace hg_M_10 : ∀ a i, ¬ ((a = 0 ∧ i = 9)) → M_10 a i = M_2 a i := hg_M_10
        refine wp_gb hz_r_9 ?_
        exact wp_some ⟨hz_r_9, (fun a i q0 => ((hg_M_10 a i (fun h9 => q0 (Or.inr (Or.inl h9)))).trans ((hg_M_2 a i (fun z8 => q0 ((fun z9 => Or.elim z9 (fun h9 => Or.inl h9) (fun z9 => Or.elim z9 (fun h9 => Or.inr (Or.inl h9)) (fun z9 => Or.elim z9 (fun h9 => Or.inr (Or.inr (Or.inl h9))) (fun z9 => Or.elim z9 (fun h9 => Or.inr (Or.inr (Or.inr (Or.inl h9)))) (fun z9 => Or.elim z9 (fun h9 => Or.inr (Or.inr (Or.inr (Or.inr (Or.inl h9))))) (fun z9 => Or.elim z9 (fun h9 => Or.inr (Or.inr (Or.inr (Or.inr (Or.inr (Or.inl h9)))))) (fun z9 => Or.elim z9 (fun h9 => Or.inr (Or.inr (Or.inr (Or.inr (Or.inr (Or.inr (Or.inl h9))))))) (fun h9 => Or.inr (Or.inr (Or.inr (Or.inr (Or.inr (Or.inr (Or.inr (h9))))))))))))))) z8))).trans rfl))), (fun z => absurd hw_64 z), (by show GoP (F2 T M (cmpS T (dO M) (sR M))) (F2 T M_10 (.inr (sR M_10))) r_9.toInt (M_10 0 9).toInt; exact ⟨fun _ => by rw [cmpS_2 v01 (cmp_0 k52 c55), show (M_10 0 9).toInt = -1000 - (sR M_2).1 from (by rw [hq_64 (by decide) (by decide) (by omega) (by omega)]; have := t_lit 1; show _ = -1000 - (M_2 0 7).toInt; omega)]; exact fin2_l _ _ _ (Nat.le_refl _), fun z => absurd hw_64 z⟩), (fun z => absurd hw_64 z)⟩
      · have cq := cmp_1 k52 c55
        have cq0 : ¬ cmq (T (M_2 0 7).toInt) = 0 := by omega
        refine wp_bnd (fun M_4 eM_4 => ?_)
        have q7 : M_4 0 7 = M_2 0 7 + nI 1 := by rw [eM_4, mset_eq]
        have i7 := i_up (x := M_2 0 7) (by omega)
        have q12 : M_4 0 12 = M_2 0 12 := by rw [eM_4, mset_ne (by first | exact nz1 (by decide) | exact nz2 (by decide) | exact nz1 (nzA hc0 (by decide)) | exact nz1 (nzE (by decide)) | exact nz1 (nzB hc0 (by decide)) | exact nz1 (nzC hc0 (by decide)) | exact nz1 (nzD hc0 (by decide)) | exact nz1 (nzF (by decide)) | exact nz1 (nzG (by decide)) | omega)]
        have q13 : M_4 0 13 = M_2 0 13 := by rw [eM_4, mset_ne (by first | exact nz1 (by decide) | exact nz2 (by decide) | exact nz1 (nzA hc0 (by decide)) | exact nz1 (nzE (by decide)) | exact nz1 (nzB hc0 (by decide)) | exact nz1 (nzC hc0 (by decide)) | exact nz1 (nzD hc0 (by decide)) | exact nz1 (nzF (by decide)) | exact nz1 (nzG (by decide)) | omega)]
        have qr7 : M_4 7 = M_2 7 := by rw [eM_4, mset_n (by omega)]
        have hT4 : TM B M_4 1 := tmm_go hT2 (by rw [q7]; omega) q12 q13 (by rw [eM_4, mset_ne (by first | exact nz1 (by decide) | exact nz2 (by decide) | exact nz1 (nzA hc0 (by decide)) | exact nz1 (nzE (by decide)) | exact nz1 (nzB hc0 (by decide)) | exact nz1 (nzC hc0 (by decide)) | exact nz1 (nzD hc0 (by decide)) | exact nz1 (nzF (by decide)) | exact nz1 (nzG (by decide)) | omega)]) qr7 (by rw [eM_4, mset_n (by omega)])
        have hs4 : ix (M_4 0 12) + aN (M_4 7) (ix (M_4 0 13)) + 1 ≤ ix (M_4 0 7) := by
          rw [q7, i7.1, q12, q13, qr7]
          have := hT2.1.2.2.1
          omega
        have s4 := sr_fwd (M := M_2) (N := M_4) (p := (M_2 0 7).toInt + 1) (by rw [q7]; exact i7.2) q12 (fun j => by rw [eM_4, mset_ne (by first | exact nz1 (by decide) | exact nz2 (by decide) | exact nz1 (nzA hc0 (by decide)) | exact nz1 (nzE (by decide)) | exact nz1 (nzB hc0 (by decide)) | exact nz1 (nzC hc0 (by decide)) | exact nz1 (nzD hc0 (by decide)) | exact nz1 (nzF (by decide)) | exact nz1 (nzG (by decide)) | omega)])
        have on4 := on_same o2 (by rw [eM_4, mset_ne (by first | exact nz1 (by decide) | exact nz2 (by decide) | exact nz1 (nzA hc0 (by decide)) | exact nz1 (nzE (by decide)) | exact nz1 (nzB hc0 (by decide)) | exact nz1 (nzC hc0 (by decide)) | exact nz1 (nzD hc0 (by decide)) | exact nz1 (nzF (by decide)) | exact nz1 (nzG (by decide)) | omega)]) q13 qr7
        have hTx4 : TXr M_4 = T := (txr_fr (by rw [eM_4, mset_ne (by first | exact nz1 (by decide) | exact nz2 (by decide) | exact nz1 (nzA hc0 (by decide)) | exact nz1 (nzE (by decide)) | exact nz1 (nzB hc0 (by decide)) | exact nz1 (nzC hc0 (by decide)) | exact nz1 (nzD hc0 (by decide)) | exact nz1 (nzF (by decide)) | exact nz1 (nzG (by decide)) | omega)]) (fun j => by rw [eM_4, mset_ne (by first | exact nz1 (by decide) | exact nz2 (by decide) | exact nz1 (nzA hc0 (by decide)) | exact nz1 (nzE (by decide)) | exact nz1 (nzB hc0 (by decide)) | exact nz1 (nzC hc0 (by decide)) | exact nz1 (nzD hc0 (by decide)) | exact nz1 (nzF (by decide)) | exact nz1 (nzG (by decide)) | omega)])).trans hTx2
        refine wp_cb2 (o6_X10_readsSum M_4 T hTx4 hT4.1 (tmm_below hT4) on4.1) (fun r_5 M_6 he79 hq79 => ?_)
        obtain ⟨hz_r_5, hg_M_6, hR_79, hq_79, hX_79⟩ := hq79
        replace hR_79 : ¬ r_5.toInt = 0 → RS M_4 M_6 1 ∧ ix (M_6 0 13) = ix (M_4 0 13) ∧ (M_4 0 7).toInt < (M_6 0 7).toInt := hR_79
        replace hq_79 : LwP (sumD T (dO M_4) (sR M_4)) r_5.toInt (M_6 0 9).toInt (sR M_6) := hq_79
        replace hX_79 : ¬ r_5.toInt = 0 → On M_6 := hX_79
        replace hg_M_6 : ∀ a i, ¬ ((a = 0 ∧ i = 7) ∨ (a = 0 ∧ i = 9) ∨ (a = 0 ∧ i = 10) ∨ (a = 0 ∧ i = 11) ∨ (a = 0 ∧ i = 12) ∨ (a = 0 ∧ i = 13) ∨ a = 6 ∨ a = 7) → M_6 a i = M_4 a i := hg_M_6
        rw [on4.2, d2, s4] at hq_79
        refine wp_ite (fun c82 => ?_) (fun c82 => ?_)
        · exact wp_some ⟨b01_0, (fun a i q0 => ((hg_M_6 a i (fun z8 => q0 ((fun z9 => Or.elim z9 (fun h9 => Or.inl h9) (fun z9 => Or.elim z9 (fun h9 => Or.inr (Or.inl h9)) (fun z9 => Or.elim z9 (fun h9 => Or.inr (Or.inr (Or.inl h9))) (fun z9 => Or.elim z9 (fun h9 => Or.inr (Or.inr (Or.inr (Or.inl h9)))) (fun z9 => Or.elim z9 (fun h9 => Or.inr (Or.inr (Or.inr (Or.inr (Or.inl h9))))) (fun z9 => Or.elim z9 (fun h9 => Or.inr (Or.inr (Or.inr (Or.inr (Or.inr (Or.inl h9)))))) (fun z9 => Or.elim z9 (fun h9 => Or.inr (Or.inr (Or.inr (Or.inr (Or.inr (Or.inr (Or.inl h9))))))) (fun h9 => Or.inr (Or.inr (Or.inr (Or.inr (Or.inr (Or.inr (Or.inr (h9))))))))))))))) z8))).trans ((congrFun (congrFun eM_4 a) i).trans ((mset_ne (fun h9 => q0 (Or.inl h9))).trans ((hg_M_2 a i (fun z8 => q0 ((fun z9 => Or.elim z9 (fun h9 => Or.inl h9) (fun z9 => Or.elim z9 (fun h9 => Or.inr (Or.inl h9)) (fun z9 => Or.elim z9 (fun h9 => Or.inr (Or.inr (Or.inl h9))) (fun z9 => Or.elim z9 (fun h9 => Or.inr (Or.inr (Or.inr (Or.inl h9)))) (fun z9 => Or.elim z9 (fun h9 => Or.inr (Or.inr (Or.inr (Or.inr (Or.inl h9))))) (fun z9 => Or.elim z9 (fun h9 => Or.inr (Or.inr (Or.inr (Or.inr (Or.inr (Or.inl h9)))))) (fun z9 => Or.elim z9 (fun h9 => Or.inr (Or.inr (Or.inr (Or.inr (Or.inr (Or.inr (Or.inl h9))))))) (fun h9 => Or.inr (Or.inr (Or.inr (Or.inr (Or.inr (Or.inr (Or.inr (h9))))))))))))))) z8))).trans rfl))))), (fun z => absurd nI0 z), (by show GoP (F2 T M (cmpS T (dO M) (sR M))) (F2 T M_6 (.inr (sR M_6))) (nI 0).toInt (M_6 0 9).toInt; exact ⟨fun _ => by rw [cmpS_3 v01 cq0 (lwp_f hq_79 c82)]; exact fin2_l _ _ _ (Nat.le_refl _), fun z => absurd nI0 z⟩), (fun z => absurd nI0 z)⟩
        · have hr5 := hR_79 c82
          have hT6 : TM B M_6 2 := tmm_sum hT4 (by omega) hr5.1 hr5.2.1
          have hs6 : ix (M_6 0 12) + aN (M_6 7) (ix (M_6 0 13)) + 1 ≤ ix (M_6 0 7) := by
            have h9 := hr5.1.2.2.2.2.2.1
            omega
          have hb6 := pm_bd hT6.1
          have v79 := lwp_v hq_79 c82
          have o6 := hX_79 c82
          have d6 := (on_back on4.1 o6 hr5.2.1 hr5.1.2.2.2.1).trans (on4.2.trans d2)
          have w6 : ix (M_6 0 13) = ix (M 0 13) := by rw [hr5.2.1, q13, hr1.2.1]
          have r76 : ∀ t, t < ix (M 0 13) → M_6 7 t = M 7 t := fun t ht => by
            rw [hr5.1.2.2.2.1 t (by rw [q13, hr1.2.1]; exact ht), qr7]
            exact r72 t ht
          refine wp_bind2 (o_X10_notes M_6 t0_52 (nI 0) (by omega)) (fun M_7 he90 hq90 => ?_)
          obtain ⟨hg_M_7, hn1_90, hn2_90, hn3_90⟩ := hq90
          replace hn1_90 : M_7 0 12 = M_6 0 12 + nI 1 := hn1_90
          have := t_lit 0
          replace hn2_90 : M_7 6 (ix (M_6 0 12)) = (nI 1048576) * t0_52 + (nI 0) := hn2_90
          have := t_lit 0
          replace hn3_90 : ∀ k : Nat, ¬ k = ix (M_6 0 12) → M_7 6 k = M_6 6 k := hn3_90
          have := t_lit 0
          replace hg_M_7 : ∀ a i, ¬ ((a = 0 ∧ i = 12) ∨ a = 6) → M_7 a i = M_6 a i := hg_M_7
          have hwd := wd_is (a := t0_52) (b := nI 0) (by omega) (by decide)
          have hT7 : TM B M_7 1 := tmm_cmp hT6 hs6 hn1_90 (hg_M_7 0 13 (by first | decide | (rcases hc0 with h | h <;> rw [h] <;> simp; done) | (rcases hb0 with h | h | h <;> rw [h] <;> simp; done) | (simp; done) | omega)) (hg_M_7 0 7 (by first | decide | (rcases hc0 with h | h <;> rw [h] <;> simp; done) | (rcases hb0 with h | h | h <;> rw [h] <;> simp; done) | (simp; done) | omega)) (hg_M_7 0 8 (by first | decide | (rcases hc0 with h | h <;> rw [h] <;> simp; done) | (rcases hb0 with h | h | h <;> rw [h] <;> simp; done) | (simp; done) | omega)) (funext (fun i => hg_M_7 7 i (by first | decide | (rcases hc0 with h | h <;> rw [h] <;> simp; done) | (rcases hb0 with h | h | h <;> rw [h] <;> simp; done) | (simp; done) | omega))) hn3_90 (by rw [hn2_90]; exact hwd.1) (by rw [hn2_90, hwd.2.2.1]; omega)
          have s7 := sr_note (M := M_6) (a := t0_52) (b := nI 0) (p := (M_6 0 7).toInt) (by omega) (by omega) (by decide) (congrArg Int32.toInt (hg_M_7 0 7 (by first | decide | (rcases hc0 with h | h <;> rw [h] <;> simp; done) | (rcases hb0 with h | h | h <;> rw [h] <;> simp; done) | (simp; done) | omega))) hn1_90 hn2_90 hn3_90
          rw [nI0, cq.1] at s7
          have r77 : M_7 7 = M_6 7 := funext (fun i => hg_M_7 7 i (by first | decide | (rcases hc0 with h | h <;> rw [h] <;> simp; done) | (rcases hb0 with h | h | h <;> rw [h] <;> simp; done) | (simp; done) | omega))
          have on7 := on_same o6 (hg_M_7 0 11 (by first | decide | (rcases hc0 with h | h <;> rw [h] <;> simp; done) | (rcases hb0 with h | h | h <;> rw [h] <;> simp; done) | (simp; done) | omega)) (hg_M_7 0 13 (by first | decide | (rcases hc0 with h | h <;> rw [h] <;> simp; done) | (rcases hb0 with h | h | h <;> rw [h] <;> simp; done) | (simp; done) | omega)) r77
          have F7 : F2 T M (cmpS T (dO M) (sR M)) = F2 T M_7 (.inr (sR M_7)) := by
            rw [cmpS_4 v01 cq0 v79]
            unfold F2
            rw [on7.2, d6, hg_M_7 0 13 (by first | decide | (rcases hc0 with h | h <;> rw [h] <;> simp; done) | (rcases hb0 with h | h | h <;> rw [h] <;> simp; done) | (simp; done) | omega), w6, s7, r77]
            exact fin2_x _ _ _ _ (Nat.le_refl _) (fun t ht => (r76 t ht).symm)
          have D7 : Dsc2 (M_7 7) (ix (M_7 0 13)) := by
            rw [hg_M_7 0 13 (by first | decide | (rcases hc0 with h | h <;> rw [h] <;> simp; done) | (rcases hb0 with h | h | h <;> rw [h] <;> simp; done) | (simp; done) | omega), w6, r77]
            exact ds2_x hD (fun t ht => (r76 t ht).symm)
          refine wp_bind2 (o6_X10_endsPiece M_7 T B hT7 on7.1 D7) (fun M_8 he94 hq94 => ?_)
          obtain ⟨hg_M_8, hT_94, hq_94, hOn_94, hD2_94, hk_94⟩ := hq94
          replace hT_94 : TM B M_8 1 := hT_94
          replace hq_94 : F2 T M_7 (.inr (sR M_7)) = F2 T M_8 (.inr (sR M_8)) := hq_94
          replace hOn_94 : On M_8 := hOn_94
          replace hD2_94 : Dsc2 (M_8 7) (ix (M_8 0 13)) := hD2_94
          replace hk_94 : ¬ kd (M_8 7 (ix (M_8 0 13) - 1)) = 10 := hk_94
          replace hg_M_8 : ∀ a i, ¬ ((a = 0 ∧ i = 11) ∨ (a = 0 ∧ i = 12) ∨ (a = 0 ∧ i = 13) ∨ a = 6) → M_8 a i = M_7 a i := hg_M_8
          exact wp_some ⟨b01_1, (fun a i q0 => ((hg_M_8 a i (fun z8 => q0 ((fun z9 => Or.elim z9 (fun h9 => Or.inr (Or.inr (Or.inr (Or.inl h9)))) (fun z9 => Or.elim z9 (fun h9 => Or.inr (Or.inr (Or.inr (Or.inr (Or.inl h9))))) (fun z9 => Or.elim z9 (fun h9 => Or.inr (Or.inr (Or.inr (Or.inr (Or.inr (Or.inl h9)))))) (fun h9 => Or.inr (Or.inr (Or.inr (Or.inr (Or.inr (Or.inr (Or.inl h9)))))))))) z8))).trans ((hg_M_7 a i (fun z8 => q0 ((fun z9 => Or.elim z9 (fun h9 => Or.inr (Or.inr (Or.inr (Or.inr (Or.inl h9))))) (fun h9 => Or.inr (Or.inr (Or.inr (Or.inr (Or.inr (Or.inr (Or.inl h9)))))))) z8))).trans ((hg_M_6 a i (fun z8 => q0 ((fun z9 => Or.elim z9 (fun h9 => Or.inl h9) (fun z9 => Or.elim z9 (fun h9 => Or.inr (Or.inl h9)) (fun z9 => Or.elim z9 (fun h9 => Or.inr (Or.inr (Or.inl h9))) (fun z9 => Or.elim z9 (fun h9 => Or.inr (Or.inr (Or.inr (Or.inl h9)))) (fun z9 => Or.elim z9 (fun h9 => Or.inr (Or.inr (Or.inr (Or.inr (Or.inl h9))))) (fun z9 => Or.elim z9 (fun h9 => Or.inr (Or.inr (Or.inr (Or.inr (Or.inr (Or.inl h9)))))) (fun z9 => Or.elim z9 (fun h9 => Or.inr (Or.inr (Or.inr (Or.inr (Or.inr (Or.inr (Or.inl h9))))))) (fun h9 => Or.inr (Or.inr (Or.inr (Or.inr (Or.inr (Or.inr (Or.inr (h9))))))))))))))) z8))).trans ((congrFun (congrFun eM_4 a) i).trans ((mset_ne (fun h9 => q0 (Or.inl h9))).trans ((hg_M_2 a i (fun z8 => q0 ((fun z9 => Or.elim z9 (fun h9 => Or.inl h9) (fun z9 => Or.elim z9 (fun h9 => Or.inr (Or.inl h9)) (fun z9 => Or.elim z9 (fun h9 => Or.inr (Or.inr (Or.inl h9))) (fun z9 => Or.elim z9 (fun h9 => Or.inr (Or.inr (Or.inr (Or.inl h9)))) (fun z9 => Or.elim z9 (fun h9 => Or.inr (Or.inr (Or.inr (Or.inr (Or.inl h9))))) (fun z9 => Or.elim z9 (fun h9 => Or.inr (Or.inr (Or.inr (Or.inr (Or.inr (Or.inl h9)))))) (fun z9 => Or.elim z9 (fun h9 => Or.inr (Or.inr (Or.inr (Or.inr (Or.inr (Or.inr (Or.inl h9))))))) (fun h9 => Or.inr (Or.inr (Or.inr (Or.inr (Or.inr (Or.inr (Or.inr (h9))))))))))))))) z8))).trans rfl))))))), (fun _ => by show TM B M_8 1 ∧ (M 0 7).toInt < (M_8 0 7).toInt; have e1 := congrArg Int32.toInt (hg_M_8 0 7 (by first | decide | (rcases hc0 with h | h <;> rw [h] <;> simp; done) | (rcases hb0 with h | h | h <;> rw [h] <;> simp; done) | (simp; done) | omega)); have e2 := congrArg Int32.toInt (hg_M_7 0 7 (by first | decide | (rcases hc0 with h | h <;> rw [h] <;> simp; done) | (rcases hb0 with h | h | h <;> rw [h] <;> simp; done) | (simp; done) | omega)); have e3 := congrArg Int32.toInt q7; have e4 := hr5.2.2; have e5 := hr1.2.2; exact ⟨hT_94, by omega⟩), (by show GoP (F2 T M (cmpS T (dO M) (sR M))) (F2 T M_8 (.inr (sR M_8))) (nI 1).toInt (M_8 0 9).toInt; exact ⟨fun z => absurd z ne1, fun _ => F7.trans hq_94⟩), (fun _ => ⟨hOn_94, hD2_94, hk_94⟩)⟩
    refine wp_ite (fun c15 => ?_) (fun c15 => ?_)
    · exact j52 (nI 7) (by have f0 := t_lit 7; omega) (Or.inr ⟨by rw [← hq_10, c15]; decide, by decide, by decide⟩)
    · refine wp_bind2 (o5_X10_here M_2 T hTx2 (pm_hp hT2.1)) (fun r_11 he24 hq24 => ?_)
      obtain ⟨hh_24, hq_24⟩ := hq24
      replace hh_24 : (r_11.toInt = -1 ∧ (M_2 0 7).toInt = (M_2 0 8).toInt) ∨ (0 ≤ r_11.toInt ∧ r_11.toInt ≤ 255 ∧ (M_2 0 7).toInt < (M_2 0 8).toInt) := hh_24
      replace hq_24 : r_11.toInt = T (M_2 0 7).toInt := hq_24
      refine wp_ite (fun c29 => ?_) (fun c29 => ?_)
      · exact j52 (nI 8) (by have f0 := t_lit 8; omega) (Or.inr ⟨by rw [← hq_24, c29]; decide, by decide, by decide⟩)
      · refine wp_bind2 (o5_X10_here M_2 T hTx2 (pm_hp hT2.1)) (fun r_12 he38 hq38 => ?_)
        obtain ⟨hh_38, hq_38⟩ := hq38
        replace hh_38 : (r_12.toInt = -1 ∧ (M_2 0 7).toInt = (M_2 0 8).toInt) ∨ (0 ≤ r_12.toInt ∧ r_12.toInt ≤ 255 ∧ (M_2 0 7).toInt < (M_2 0 8).toInt) := hh_38
        replace hq_38 : r_12.toInt = T (M_2 0 7).toInt := hq_38
        refine wp_ite (fun c43 => ?_) (fun c43 => ?_)
        · exact j52 (nI 9) (by have f0 := t_lit 9; omega) (Or.inr ⟨by rw [← hq_38, c43]; decide, by decide, by decide⟩)
        · exact j52 (-1) (by have f0 := (by decide : ((-1 : Int32)).toInt = -1); omega) (Or.inl ⟨by decide, cmq_n (by rw [← hq_10]; exact c15) (by rw [← hq_24]; exact c29) (by rw [← hq_38]; exact c43)⟩)
set_option maxHeartbeats 8000000 in
theorem o6_X10_readsCondition (M : Mem) (T : Int → Int) (hTx : TXr M = T) (hP : PMm M) : Wp (f_X10_readsCondition M) (fun q => (q.1 = 0 ∨ q.1 = 1) ∧ (∀ a i, ¬ ((a = 0 ∧ i = 7) ∨ (a = 0 ∧ i = 9) ∨ (a = 0 ∧ i = 10) ∨ (a = 0 ∧ i = 11) ∨ (a = 0 ∧ i = 12) ∨ (a = 0 ∧ i = 13) ∨ a = 6 ∨ a = 7) → q.2 a i = M a i) ∧ (¬ q.1.toInt = 0 → PMm q.2 ∧ Seg (q.2 6) (ix (M 0 12)) (ix (q.2 0 12)) ∧ ix (M 0 12) ≤ ix (q.2 0 12) ∧ (∀ k, k < ix (M 0 12) → q.2 6 k = M 6 k) ∧ (M 0 7).toInt < (q.2 0 7).toInt) ∧ (LwP (rlC T (sR M)) q.1.toInt (q.2 0 9).toInt (sR q.2))) := by
  obtain ⟨B, eB⟩ : ∃ B : Mem, B = M := ⟨M, rfl⟩
  have hb := pm_bd hP
  have hx := pm_ix hP
  refine wp_bind2 (o5_X10_here M T hTx (pm_hp hP)) (fun r_1 he1 hq1 => ?_)
  obtain ⟨hh_1, hq_1⟩ := hq1
  replace hh_1 : (r_1.toInt = -1 ∧ (M 0 7).toInt = (M 0 8).toInt) ∨ (0 ≤ r_1.toInt ∧ r_1.toInt ≤ 255 ∧ (M 0 7).toInt < (M 0 8).toInt) := hh_1
  replace hq_1 : r_1.toInt = T (M 0 7).toInt := hq_1
  refine wp_ite (fun c6 => ?_) (fun c6 => ?_)
  · refine wp_bnd (fun M_2 eM_2 => ?_)
    refine wp_bnd (fun M_3 eM_3 => ?_)
    have a13 : M_3 0 13 = nI 0 := by rw [eM_3, mset_eq]
    have a12 : M_3 0 12 = M 0 12 := by rw [eM_3, mset_ne (by first | exact nz1 (by decide) | exact nz2 (by decide) | exact nz1 (nzA hc0 (by decide)) | exact nz1 (nzE (by decide)) | exact nz1 (nzB hc0 (by decide)) | exact nz1 (nzC hc0 (by decide)) | exact nz1 (nzD hc0 (by decide)) | exact nz1 (nzF (by decide)) | exact nz1 (nzG (by decide)) | omega), eM_2, mset_ne (by first | exact nz1 (by decide) | exact nz2 (by decide) | exact nz1 (nzA hc0 (by decide)) | exact nz1 (nzE (by decide)) | exact nz1 (nzB hc0 (by decide)) | exact nz1 (nzC hc0 (by decide)) | exact nz1 (nzD hc0 (by decide)) | exact nz1 (nzF (by decide)) | exact nz1 (nzG (by decide)) | omega)]
    have a7 : M_3 0 7 = M 0 7 := by rw [eM_3, mset_ne (by first | exact nz1 (by decide) | exact nz2 (by decide) | exact nz1 (nzA hc0 (by decide)) | exact nz1 (nzE (by decide)) | exact nz1 (nzB hc0 (by decide)) | exact nz1 (nzC hc0 (by decide)) | exact nz1 (nzD hc0 (by decide)) | exact nz1 (nzF (by decide)) | exact nz1 (nzG (by decide)) | omega), eM_2, mset_ne (by first | exact nz1 (by decide) | exact nz2 (by decide) | exact nz1 (nzA hc0 (by decide)) | exact nz1 (nzE (by decide)) | exact nz1 (nzB hc0 (by decide)) | exact nz1 (nzC hc0 (by decide)) | exact nz1 (nzD hc0 (by decide)) | exact nz1 (nzF (by decide)) | exact nz1 (nzG (by decide)) | omega)]
    have a8 : M_3 0 8 = M 0 8 := by rw [eM_3, mset_ne (by first | exact nz1 (by decide) | exact nz2 (by decide) | exact nz1 (nzA hc0 (by decide)) | exact nz1 (nzE (by decide)) | exact nz1 (nzB hc0 (by decide)) | exact nz1 (nzC hc0 (by decide)) | exact nz1 (nzD hc0 (by decide)) | exact nz1 (nzF (by decide)) | exact nz1 (nzG (by decide)) | omega), eM_2, mset_ne (by first | exact nz1 (by decide) | exact nz2 (by decide) | exact nz1 (nzA hc0 (by decide)) | exact nz1 (nzE (by decide)) | exact nz1 (nzB hc0 (by decide)) | exact nz1 (nzC hc0 (by decide)) | exact nz1 (nzD hc0 (by decide)) | exact nz1 (nzF (by decide)) | exact nz1 (nzG (by decide)) | omega)]
    have hP3 : PMm M_3 := pm_mk a13 (by rw [a12, a7, a8]; have h9 := hP.2.2.1; omega)
    have a11 : M_3 0 11 = nI 0 := by rw [eM_3, mset_ne (by first | exact nz1 (by decide) | exact nz2 (by decide) | exact nz1 (nzA hc0 (by decide)) | exact nz1 (nzE (by decide)) | exact nz1 (nzB hc0 (by decide)) | exact nz1 (nzC hc0 (by decide)) | exact nz1 (nzD hc0 (by decide)) | exact nz1 (nzF (by decide)) | exact nz1 (nzG (by decide)) | omega), eM_2, mset_eq]
    have on3 := on_0 a11 a13
    refine wp_cb2 (o6_X10_opens M_3 (nI 13) hP3) (fun r_4 M_5 he32 hq32 => ?_)
    obtain ⟨hz_r_4, hg_M_5, ho_32, hof_32, hos_32⟩ := hq32
    replace ho_32 : ¬ r_4.toInt = 0 → M_5 0 13 = M_3 0 13 + nI 1 ∧ M_5 7 = upd (M_3 7) (ix (M_3 0 13)) ((nI 1048576) * (nI 13)) ∧ M_5 0 7 = M_3 0 7 + nI 1 := ho_32
    have := t_lit 13
    replace hof_32 : r_4.toInt = 0 → (M_3 0 11).toInt = 6 ∧ (M_5 0 9).toInt = -5000 - (M_3 0 7).toInt := hof_32
    have := t_lit 13
    replace hos_32 : ¬ r_4.toInt = 0 → ¬ (M_3 0 11).toInt = 6 ∧ M_5 0 11 = M_3 0 11 + nI 1 := hos_32
    have := t_lit 13
    replace hg_M_5 : ∀ a i, ¬ ((a = 0 ∧ i = 7) ∨ (a = 0 ∧ i = 9) ∨ (a = 0 ∧ i = 11) ∨ (a = 0 ∧ i = 13) ∨ a = 7) → M_5 a i = M_3 a i := hg_M_5
    refine wp_ite (fun c35 => ?_) (fun c35 => ?_)
    · exact wp_some ⟨b01_0, (fun a i q0 => ((hg_M_5 a i (fun z8 => q0 ((fun z9 => Or.elim z9 (fun h9 => Or.inl h9) (fun z9 => Or.elim z9 (fun h9 => Or.inr (Or.inl h9)) (fun z9 => Or.elim z9 (fun h9 => Or.inr (Or.inr (Or.inr (Or.inl h9)))) (fun z9 => Or.elim z9 (fun h9 => Or.inr (Or.inr (Or.inr (Or.inr (Or.inr (Or.inl h9)))))) (fun h9 => Or.inr (Or.inr (Or.inr (Or.inr (Or.inr (Or.inr (Or.inr (h9)))))))))))) z8))).trans ((congrFun (congrFun eM_3 a) i).trans ((mset_ne (fun h9 => q0 (Or.inr (Or.inr (Or.inr (Or.inr (Or.inr (Or.inl h9)))))))).trans ((congrFun (congrFun eM_2 a) i).trans ((mset_ne (fun h9 => q0 (Or.inr (Or.inr (Or.inr (Or.inl h9)))))).trans rfl)))))), (fun z => absurd nI0 z), (False.elim (by have z := (hof_32 c35).1; rw [a11] at z; exact absurd z (by decide)))⟩
    · have ho := ho_32 c35
      have hwd := wd_0 (a := nI 13) (by decide)
      have hP5 : PMm M_5 := pm_push hP3 (by rw [a7, a8]; omega) ho.1 ho.2.1 ho.2.2 (hg_M_5 0 12 (by first | decide | (rcases hc0 with h | h <;> rw [h] <;> simp; done) | (rcases hb0 with h | h | h <;> rw [h] <;> simp; done) | (simp; done) | omega)) (hg_M_5 0 8 (by first | decide | (rcases hc0 with h | h <;> rw [h] <;> simp; done) | (rcases hb0 with h | h | h <;> rw [h] <;> simp; done) | (simp; done) | omega)) ⟨hwd.1, hwd.2.1⟩
      have hT5 : TM B M_5 0 := by
        rw [eB]
        exact tmm_begin (v := (nI 1048576) * (nI 13)) hP5 (by rw [ho.1, a13]) (by rw [ho.2.1, a13, show ix (nI 0) = 0 from (by decide), upd_e]) (by rw [hwd.2.2.1]; exact t_lit 13) (by rw [hg_M_5 0 12 (by first | decide | (rcases hc0 with h | h <;> rw [h] <;> simp; done) | (rcases hb0 with h | h | h <;> rw [h] <;> simp; done) | (simp; done) | omega), a12]) (by rw [hg_M_5 0 8 (by first | decide | (rcases hc0 with h | h <;> rw [h] <;> simp; done) | (rcases hb0 with h | h | h <;> rw [h] <;> simp; done) | (simp; done) | omega), a8]) (funext (fun i => by rw [hg_M_5 6 i (by first | decide | (rcases hc0 with h | h <;> rw [h] <;> simp; done) | (rcases hb0 with h | h | h <;> rw [h] <;> simp; done) | (simp; done) | omega), eM_3, mset_ne (by first | exact nz1 (by decide) | exact nz2 (by decide) | exact nz1 (nzA hc0 (by decide)) | exact nz1 (nzE (by decide)) | exact nz1 (nzB hc0 (by decide)) | exact nz1 (nzC hc0 (by decide)) | exact nz1 (nzD hc0 (by decide)) | exact nz1 (nzF (by decide)) | exact nz1 (nzG (by decide)) | omega), eM_2, mset_ne (by first | exact nz1 (by decide) | exact nz2 (by decide) | exact nz1 (nzA hc0 (by decide)) | exact nz1 (nzE (by decide)) | exact nz1 (nzB hc0 (by decide)) | exact nz1 (nzC hc0 (by decide)) | exact nz1 (nzD hc0 (by decide)) | exact nz1 (nzF (by decide)) | exact nz1 (nzG (by decide)) | omega)]))
      have hq5 : (M_5 0 7).toInt = (M 0 7).toInt + 1 := by rw [ho.2.2, a7]; exact (i_up (by omega)).2
      have hos5 := hos_32 c35
      have k13 : kd ((nI 1048576) * (nI 13)) = 13 := by
        rw [hwd.2.2.1]
        exact t_lit 13
      have on5 := on_open on3.1 (by rw [a13]; decide) hos5.1 hos5.2 ho.1 ho.2.1 (Or.inr (Or.inl k13))
      have w5 : ix (M_5 0 13) = 1 := by
        rw [ho.1, a13]
        decide
      have g50 : M_5 7 0 = (nI 1048576) * (nI 13) := by rw [ho.2.1, a13, show ix (nI 0) = 0 from (by decide), upd_e]
      have s5 := sr_fwd (M := M) (N := M_5) (p := (M 0 7).toInt + 1) hq5 (by rw [hg_M_5 0 12 (by first | decide | (rcases hc0 with h | h <;> rw [h] <;> simp; done) | (rcases hb0 with h | h | h <;> rw [h] <;> simp; done) | (simp; done) | omega), a12]) (fun j => by rw [hg_M_5 6 j (by first | decide | (rcases hc0 with h | h <;> rw [h] <;> simp; done) | (rcases hb0 with h | h | h <;> rw [h] <;> simp; done) | (simp; done) | omega), eM_3, mset_ne (by first | exact nz1 (by decide) | exact nz2 (by decide) | exact nz1 (nzA hc0 (by decide)) | exact nz1 (nzE (by decide)) | exact nz1 (nzB hc0 (by decide)) | exact nz1 (nzC hc0 (by decide)) | exact nz1 (nzD hc0 (by decide)) | exact nz1 (nzF (by decide)) | exact nz1 (nzG (by decide)) | omega), eM_2, mset_ne (by first | exact nz1 (by decide) | exact nz2 (by decide) | exact nz1 (nzA hc0 (by decide)) | exact nz1 (nzE (by decide)) | exact nz1 (nzB hc0 (by decide)) | exact nz1 (nzC hc0 (by decide)) | exact nz1 (nzD hc0 (by decide)) | exact nz1 (nzF (by decide)) | exact nz1 (nzG (by decide)) | omega)])
      have d5 : dO M_5 = 5 := by rw [on5.2.1, on3.2]
      have en := ends_r hTx
      have R5 : rlC T (sR M) = F2 T M_5 (tstD T (dO M_5) (sR M_5)) := by
        unfold F2
        rw [d5, w5, s5]
        exact rlC_b en (by omega) (by show 0 ≤ (M 0 7).toInt; omega) (show T (M 0 7).toInt = 40 by rw [← hq_1]; exact c6) (by rw [g50]; exact k13)
      have D5 : Dsc2 (M_5 7) (ix (M_5 0 13)) := by
        rw [w5]
        intro t ht
        rw [show t = 0 from (by omega), g50, k13]
        exact ⟨fun z => absurd z (by omega), fun z => absurd z (by omega)⟩
      refine wp_lp1 (fun M40 => (∀ a i, ¬ ((a = 0 ∧ i = 7) ∨ (a = 0 ∧ i = 9) ∨ (a = 0 ∧ i = 10) ∨ (a = 0 ∧ i = 11) ∨ (a = 0 ∧ i = 12) ∨ (a = 0 ∧ i = 13) ∨ a = 6 ∨ a = 7) → M40 a i = M_5 a i) ∧ (TM B M40 0) ∧ ((M 0 7).toInt < (M40 0 7).toInt) ∧ (rlC T (sR M) = F2 T M40 (tstD T (dO M40) (sR M40))) ∧ (On M40) ∧ (Dsc2 (M40 7) (ix (M40 0 13)))) (fun M40 => ((M40 0 8).toInt - (M40 0 7).toInt).toNat) (fun ag40 M40 hI40 ih40 => ?_) FU M_5 ⟨(fun _ _ _ => rfl), hT5, (by omega), R5, on5.1, D5⟩ (fu_lt ((by have := pm_bd hP5; omega)))
      obtain ⟨hf_M40, hT40, hp40, hR40, hO40, hD40⟩ := hI40
      have hb40 := pm_bd hT40.1
      have hx40 := pm_ix hT40.1
      have hTx40 : TXr M40 = T := (txr_fr (by rw [hf_M40 0 8 (by first | decide | (rcases hc0 with h | h <;> rw [h] <;> simp; done) | (rcases hb0 with h | h | h <;> rw [h] <;> simp; done) | (simp; done) | omega), hg_M_5 0 8 (by first | decide | (rcases hc0 with h | h <;> rw [h] <;> simp; done) | (rcases hb0 with h | h | h <;> rw [h] <;> simp; done) | (simp; done) | omega), a8]) (fun j => by rw [hf_M40 5 j (by first | decide | (rcases hc0 with h | h <;> rw [h] <;> simp; done) | (rcases hb0 with h | h | h <;> rw [h] <;> simp; done) | (simp; done) | omega), hg_M_5 5 j (by first | decide | (rcases hc0 with h | h <;> rw [h] <;> simp; done) | (rcases hb0 with h | h | h <;> rw [h] <;> simp; done) | (simp; done) | omega), eM_3, mset_ne (by first | exact nz1 (by decide) | exact nz2 (by decide) | exact nz1 (nzA hc0 (by decide)) | exact nz1 (nzE (by decide)) | exact nz1 (nzB hc0 (by decide)) | exact nz1 (nzC hc0 (by decide)) | exact nz1 (nzD hc0 (by decide)) | exact nz1 (nzF (by decide)) | exact nz1 (nzG (by decide)) | omega), eM_2, mset_ne (by first | exact nz1 (by decide) | exact nz2 (by decide) | exact nz1 (nzA hc0 (by decide)) | exact nz1 (nzE (by decide)) | exact nz1 (nzB hc0 (by decide)) | exact nz1 (nzC hc0 (by decide)) | exact nz1 (nzD hc0 (by decide)) | exact nz1 (nzF (by decide)) | exact nz1 (nzG (by decide)) | omega)])).trans hTx
      have en40 := ends_r hTx40
      refine wp_bind2 (o5_X10_here M40 T hTx40 (pm_hp hT40.1)) (fun r_6 he41 hq41 => ?_)
      obtain ⟨hh_41, hq_41⟩ := hq41
      replace hh_41 : (r_6.toInt = -1 ∧ (M40 0 7).toInt = (M40 0 8).toInt) ∨ (0 ≤ r_6.toInt ∧ r_6.toInt ≤ 255 ∧ (M40 0 7).toInt < (M40 0 8).toInt) := hh_41
      replace hq_41 : r_6.toInt = T (M40 0 7).toInt := hq_41
      have j58 : ((M40 0 7).toInt < (M40 0 8).toInt) → (T (M40 0 7).toInt = 33 ∨ T (M40 0 7).toInt = 40) → Wp (f_X10_readsCondition_L58 ag40 M40) (fun q => (q.1 = 0 ∨ q.1 = 1) ∧ (∀ a i, ¬ ((a = 0 ∧ i = 7) ∨ (a = 0 ∧ i = 9) ∨ (a = 0 ∧ i = 10) ∨ (a = 0 ∧ i = 11) ∨ (a = 0 ∧ i = 12) ∨ (a = 0 ∧ i = 13) ∨ a = 6 ∨ a = 7) → q.2 a i = M a i) ∧ (¬ q.1.toInt = 0 → PMm q.2 ∧ Seg (q.2 6) (ix (M 0 12)) (ix (q.2 0 12)) ∧ ix (M 0 12) ≤ ix (q.2 0 12) ∧ (∀ k, k < ix (M 0 12) → q.2 6 k = M 6 k) ∧ (M 0 7).toInt < (q.2 0 7).toInt) ∧ (LwP (rlC T (sR M)) q.1.toInt (q.2 0 9).toInt (sR q.2))) := by
        intro h58 k58
        unfold f_X10_readsCondition_L58
        refine wp_bind2 (o5_X10_here M40 T hTx40 (pm_hp hT40.1)) (fun r_7 he60 hq60 => ?_)
        obtain ⟨hh_60, hq_60⟩ := hq60
        replace hh_60 : (r_7.toInt = -1 ∧ (M40 0 7).toInt = (M40 0 8).toInt) ∨ (0 ≤ r_7.toInt ∧ r_7.toInt ≤ 255 ∧ (M40 0 7).toInt < (M40 0 8).toInt) := hh_60
        replace hq_60 : r_7.toInt = T (M40 0 7).toInt := hq_60
        have j75 : ∀ (t0_75 : Int32), (t0_75.toInt = 10 ∨ t0_75.toInt = 13) → (OpP t0_75.toInt (T (M40 0 7).toInt)) → Wp (f_X10_readsCondition_L75 ag40 M40 t0_75) (fun q => (q.1 = 0 ∨ q.1 = 1) ∧ (∀ a i, ¬ ((a = 0 ∧ i = 7) ∨ (a = 0 ∧ i = 9) ∨ (a = 0 ∧ i = 10) ∨ (a = 0 ∧ i = 11) ∨ (a = 0 ∧ i = 12) ∨ (a = 0 ∧ i = 13) ∨ a = 6 ∨ a = 7) → q.2 a i = M a i) ∧ (¬ q.1.toInt = 0 → PMm q.2 ∧ Seg (q.2 6) (ix (M 0 12)) (ix (q.2 0 12)) ∧ ix (M 0 12) ≤ ix (q.2 0 12) ∧ (∀ k, k < ix (M 0 12) → q.2 6 k = M 6 k) ∧ (M 0 7).toInt < (q.2 0 7).toInt) ∧ (LwP (rlC T (sR M)) q.1.toInt (q.2 0 9).toInt (sR q.2))) := by
          intro t0_75 h75 k75
          unfold f_X10_readsCondition_L75
          refine wp_cb2 (o6_X10_opens M40 t0_75 hT40.1) (fun r_8 M_9 he75 hq75 => ?_)
          obtain ⟨hz_r_8, hg_M_9, ho_75, hof_75, hos_75⟩ := hq75
          replace ho_75 : ¬ r_8.toInt = 0 → M_9 0 13 = M40 0 13 + nI 1 ∧ M_9 7 = upd (M40 7) (ix (M40 0 13)) ((nI 1048576) * t0_75) ∧ M_9 0 7 = M40 0 7 + nI 1 := ho_75
          replace hof_75 : r_8.toInt = 0 → (M40 0 11).toInt = 6 ∧ (M_9 0 9).toInt = -5000 - (M40 0 7).toInt := hof_75
          replace hos_75 : ¬ r_8.toInt = 0 → ¬ (M40 0 11).toInt = 6 ∧ M_9 0 11 = M40 0 11 + nI 1 := hos_75
          replace hg_M_9 : ∀ a i, ¬ ((a = 0 ∧ i = 7) ∨ (a = 0 ∧ i = 9) ∨ (a = 0 ∧ i = 11) ∨ (a = 0 ∧ i = 13) ∨ a = 7) → M_9 a i = M40 a i := hg_M_9
          refine wp_ite (fun c78 => ?_) (fun c78 => ?_)
          · exact wp_some ⟨b01_0, (fun a i q0 => ((hg_M_9 a i (fun z8 => q0 ((fun z9 => Or.elim z9 (fun h9 => Or.inl h9) (fun z9 => Or.elim z9 (fun h9 => Or.inr (Or.inl h9)) (fun z9 => Or.elim z9 (fun h9 => Or.inr (Or.inr (Or.inr (Or.inl h9)))) (fun z9 => Or.elim z9 (fun h9 => Or.inr (Or.inr (Or.inr (Or.inr (Or.inr (Or.inl h9)))))) (fun h9 => Or.inr (Or.inr (Or.inr (Or.inr (Or.inr (Or.inr (Or.inr (h9)))))))))))) z8))).trans ((hf_M40 a i (fun z8 => q0 ((fun z9 => Or.elim z9 (fun h9 => Or.inl h9) (fun z9 => Or.elim z9 (fun h9 => Or.inr (Or.inl h9)) (fun z9 => Or.elim z9 (fun h9 => Or.inr (Or.inr (Or.inl h9))) (fun z9 => Or.elim z9 (fun h9 => Or.inr (Or.inr (Or.inr (Or.inl h9)))) (fun z9 => Or.elim z9 (fun h9 => Or.inr (Or.inr (Or.inr (Or.inr (Or.inl h9))))) (fun z9 => Or.elim z9 (fun h9 => Or.inr (Or.inr (Or.inr (Or.inr (Or.inr (Or.inl h9)))))) (fun z9 => Or.elim z9 (fun h9 => Or.inr (Or.inr (Or.inr (Or.inr (Or.inr (Or.inr (Or.inl h9))))))) (fun h9 => Or.inr (Or.inr (Or.inr (Or.inr (Or.inr (Or.inr (Or.inr (h9))))))))))))))) z8))).trans ((hg_M_5 a i (fun z8 => q0 ((fun z9 => Or.elim z9 (fun h9 => Or.inl h9) (fun z9 => Or.elim z9 (fun h9 => Or.inr (Or.inl h9)) (fun z9 => Or.elim z9 (fun h9 => Or.inr (Or.inr (Or.inr (Or.inl h9)))) (fun z9 => Or.elim z9 (fun h9 => Or.inr (Or.inr (Or.inr (Or.inr (Or.inr (Or.inl h9)))))) (fun h9 => Or.inr (Or.inr (Or.inr (Or.inr (Or.inr (Or.inr (Or.inr (h9)))))))))))) z8))).trans ((congrFun (congrFun eM_3 a) i).trans ((mset_ne (fun h9 => q0 (Or.inr (Or.inr (Or.inr (Or.inr (Or.inr (Or.inl h9)))))))).trans ((congrFun (congrFun eM_2 a) i).trans ((mset_ne (fun h9 => q0 (Or.inr (Or.inr (Or.inr (Or.inl h9)))))).trans rfl)))))))), (fun z => absurd nI0 z), (by show LwP (rlC T (sR M)) (nI 0).toInt (M_9 0 9).toInt (sR M_9); rw [hR40, show F2 T M40 (tstD T (dO M40) (sR M40)) = .inl (-5000 - (sR M40).1) from denT_5 (opp_or k75) (by show (6 - (M40 0 11).toInt).toNat = 0; have := (hof_75 c78).1; omega)]; exact ⟨nI0, (hof_75 c78).2⟩)⟩
          · have ho9 := ho_75 c78
            have hw9 := wd_0 (a := t0_75) (by omega)
            have hq9 : (M_9 0 7).toInt = (M40 0 7).toInt + 1 := by rw [ho9.2.2]; exact (i_up (by omega)).2
            have h89 := congrArg Int32.toInt (hg_M_9 0 8 (by first | decide | (rcases hc0 with h | h <;> rw [h] <;> simp; done) | (rcases hb0 with h | h | h <;> rw [h] <;> simp; done) | (simp; done) | omega))
            have hos9 := hos_75 c78
            have k9 : kd ((nI 1048576) * t0_75) = t0_75.toInt := hw9.2.2.1
            have on9 := on_open hO40 (by omega) hos9.1 hos9.2 ho9.1 ho9.2.1 (by rw [k9]; omega)
            have w9 : ix (M_9 0 13) = ix (M40 0 13) + 1 := by
              rw [ho9.1]
              exact (i_up (by omega)).1
            have s9 := sr_fwd (M := M40) (N := M_9) hq9 (hg_M_9 0 12 (by first | decide | (rcases hc0 with h | h <;> rw [h] <;> simp; done) | (rcases hb0 with h | h | h <;> rw [h] <;> simp; done) | (simp; done) | omega)) (fun j => hg_M_9 6 j (by first | decide | (rcases hc0 with h | h <;> rw [h] <;> simp; done) | (rcases hb0 with h | h | h <;> rw [h] <;> simp; done) | (simp; done) | omega))
            have R9 : F2 T M40 (tstD T (dO M40) (sR M40)) = F2 T M_9 (tstD T (dO M_9) (sR M_9)) := by
              unfold F2
              rw [on9.2.1, w9, s9, ho9.2.1]
              rcases k75 with z | z
              · exact denT_n z.2 on9.2.2 (by rw [k9]; exact z.1)
              · exact denT_o en40 (by omega) (by show 0 ≤ (M40 0 7).toInt; omega) z.2 on9.2.2 (by rw [k9]; exact z.1)
            exact ih40 M_9 ⟨(fun a i q0 => ((hg_M_9 a i (fun z8 => q0 ((fun z9 => Or.elim z9 (fun h9 => Or.inl h9) (fun z9 => Or.elim z9 (fun h9 => Or.inr (Or.inl h9)) (fun z9 => Or.elim z9 (fun h9 => Or.inr (Or.inr (Or.inr (Or.inl h9)))) (fun z9 => Or.elim z9 (fun h9 => Or.inr (Or.inr (Or.inr (Or.inr (Or.inr (Or.inl h9)))))) (fun h9 => Or.inr (Or.inr (Or.inr (Or.inr (Or.inr (Or.inr (Or.inr (h9)))))))))))) z8))).trans ((hf_M40 a i (fun z8 => q0 ((fun z9 => Or.elim z9 (fun h9 => Or.inl h9) (fun z9 => Or.elim z9 (fun h9 => Or.inr (Or.inl h9)) (fun z9 => Or.elim z9 (fun h9 => Or.inr (Or.inr (Or.inl h9))) (fun z9 => Or.elim z9 (fun h9 => Or.inr (Or.inr (Or.inr (Or.inl h9)))) (fun z9 => Or.elim z9 (fun h9 => Or.inr (Or.inr (Or.inr (Or.inr (Or.inl h9))))) (fun z9 => Or.elim z9 (fun h9 => Or.inr (Or.inr (Or.inr (Or.inr (Or.inr (Or.inl h9)))))) (fun z9 => Or.elim z9 (fun h9 => Or.inr (Or.inr (Or.inr (Or.inr (Or.inr (Or.inr (Or.inl h9))))))) (fun h9 => Or.inr (Or.inr (Or.inr (Or.inr (Or.inr (Or.inr (Or.inr (h9))))))))))))))) z8))).trans rfl))), (tmm_open hT40 h58 ho9.1 ho9.2.1 ho9.2.2 (hg_M_9 0 12 (by first | decide | (rcases hc0 with h | h <;> rw [h] <;> simp; done) | (rcases hb0 with h | h | h <;> rw [h] <;> simp; done) | (simp; done) | omega)) (hg_M_9 0 8 (by first | decide | (rcases hc0 with h | h <;> rw [h] <;> simp; done) | (rcases hb0 with h | h | h <;> rw [h] <;> simp; done) | (simp; done) | omega)) (funext (fun i => hg_M_9 6 i (by first | decide | (rcases hc0 with h | h <;> rw [h] <;> simp; done) | (rcases hb0 with h | h | h <;> rw [h] <;> simp; done) | (simp; done) | omega))) ⟨hw9.1, hw9.2.1⟩ (by rw [hw9.2.2.1]; exact h75)), (by omega), (hR40.trans R9), on9.1, (by rw [w9, ho9.2.1]; exact ds2_p hD40 (fun z => absurd z (by rw [k9]; omega)) (fun z => absurd z (by rw [k9]; omega)))⟩ (by omega)
        refine wp_ite (fun c65 => ?_) (fun c65 => ?_)
        · exact j75 (nI 10) (by have f0 := t_lit 10; omega) (Or.inl ⟨t_lit 10, by rw [← hq_60]; exact c65⟩)
        · exact j75 (nI 13) (by have f0 := t_lit 13; omega) (Or.inr ⟨t_lit 13, k58.resolve_left (by rw [← hq_60]; exact c65)⟩)
      refine wp_ite (fun c46 => ?_) (fun c46 => ?_)
      · exact j58 (by omega) (Or.inl (by rw [← hq_41]; exact c46))
      · refine wp_bind2 (o5_X10_here M40 T hTx40 (pm_hp hT40.1)) (fun r_10 he50 hq50 => ?_)
        obtain ⟨hh_50, hq_50⟩ := hq50
        replace hh_50 : (r_10.toInt = -1 ∧ (M40 0 7).toInt = (M40 0 8).toInt) ∨ (0 ≤ r_10.toInt ∧ r_10.toInt ≤ 255 ∧ (M40 0 7).toInt < (M40 0 8).toInt) := hh_50
        replace hq_50 : r_10.toInt = T (M40 0 7).toInt := hq_50
        refine wp_ite (fun c55 => ?_) (fun c55 => ?_)
        · exact j58 (by omega) (Or.inr (by rw [← hq_50]; exact c55))
        · have nc : ¬ (T (M40 0 7).toInt = 33 ∨ T (M40 0 7).toInt = 40) := fun z => z.elim (fun z => c46 (by rw [hq_41]; exact z)) (fun z => c55 (by rw [hq_50]; exact z))
          have R40 : rlC T (sR M) = F2 T M40 (cmpS T (dO M40) (sR M40)) := hR40.trans (denT_c nc)
          refine wp_cb2 (o6_X10_readsCompared M40 T hTx40 B hT40 hO40 hD40) (fun r_11 M_12 he84 hq84 => ?_)
          obtain ⟨hz_r_11, hg_M_12, hT_84, hq_84, hX_84⟩ := hq84
          replace hT_84 : ¬ r_11.toInt = 0 → TM B M_12 1 ∧ (M40 0 7).toInt < (M_12 0 7).toInt := hT_84
          replace hq_84 : GoP (F2 T M40 (cmpS T (dO M40) (sR M40))) (F2 T M_12 (.inr (sR M_12))) r_11.toInt (M_12 0 9).toInt := hq_84
          replace hX_84 : ¬ r_11.toInt = 0 → On M_12 ∧ Dsc2 (M_12 7) (ix (M_12 0 13)) ∧ ¬ kd (M_12 7 (ix (M_12 0 13) - 1)) = 10 := hX_84
          replace hg_M_12 : ∀ a i, ¬ ((a = 0 ∧ i = 7) ∨ (a = 0 ∧ i = 9) ∨ (a = 0 ∧ i = 10) ∨ (a = 0 ∧ i = 11) ∨ (a = 0 ∧ i = 12) ∨ (a = 0 ∧ i = 13) ∨ a = 6 ∨ a = 7) → M_12 a i = M40 a i := hg_M_12
          refine wp_ite (fun c87 => ?_) (fun c87 => ?_)
          · exact wp_some ⟨b01_0, (fun a i q0 => ((hg_M_12 a i (fun z8 => q0 ((fun z9 => Or.elim z9 (fun h9 => Or.inl h9) (fun z9 => Or.elim z9 (fun h9 => Or.inr (Or.inl h9)) (fun z9 => Or.elim z9 (fun h9 => Or.inr (Or.inr (Or.inl h9))) (fun z9 => Or.elim z9 (fun h9 => Or.inr (Or.inr (Or.inr (Or.inl h9)))) (fun z9 => Or.elim z9 (fun h9 => Or.inr (Or.inr (Or.inr (Or.inr (Or.inl h9))))) (fun z9 => Or.elim z9 (fun h9 => Or.inr (Or.inr (Or.inr (Or.inr (Or.inr (Or.inl h9)))))) (fun z9 => Or.elim z9 (fun h9 => Or.inr (Or.inr (Or.inr (Or.inr (Or.inr (Or.inr (Or.inl h9))))))) (fun h9 => Or.inr (Or.inr (Or.inr (Or.inr (Or.inr (Or.inr (Or.inr (h9))))))))))))))) z8))).trans ((hf_M40 a i (fun z8 => q0 ((fun z9 => Or.elim z9 (fun h9 => Or.inl h9) (fun z9 => Or.elim z9 (fun h9 => Or.inr (Or.inl h9)) (fun z9 => Or.elim z9 (fun h9 => Or.inr (Or.inr (Or.inl h9))) (fun z9 => Or.elim z9 (fun h9 => Or.inr (Or.inr (Or.inr (Or.inl h9)))) (fun z9 => Or.elim z9 (fun h9 => Or.inr (Or.inr (Or.inr (Or.inr (Or.inl h9))))) (fun z9 => Or.elim z9 (fun h9 => Or.inr (Or.inr (Or.inr (Or.inr (Or.inr (Or.inl h9)))))) (fun z9 => Or.elim z9 (fun h9 => Or.inr (Or.inr (Or.inr (Or.inr (Or.inr (Or.inr (Or.inl h9))))))) (fun h9 => Or.inr (Or.inr (Or.inr (Or.inr (Or.inr (Or.inr (Or.inr (h9))))))))))))))) z8))).trans ((hg_M_5 a i (fun z8 => q0 ((fun z9 => Or.elim z9 (fun h9 => Or.inl h9) (fun z9 => Or.elim z9 (fun h9 => Or.inr (Or.inl h9)) (fun z9 => Or.elim z9 (fun h9 => Or.inr (Or.inr (Or.inr (Or.inl h9)))) (fun z9 => Or.elim z9 (fun h9 => Or.inr (Or.inr (Or.inr (Or.inr (Or.inr (Or.inl h9)))))) (fun h9 => Or.inr (Or.inr (Or.inr (Or.inr (Or.inr (Or.inr (Or.inr (h9)))))))))))) z8))).trans ((congrFun (congrFun eM_3 a) i).trans ((mset_ne (fun h9 => q0 (Or.inr (Or.inr (Or.inr (Or.inr (Or.inr (Or.inl h9)))))))).trans ((congrFun (congrFun eM_2 a) i).trans ((mset_ne (fun h9 => q0 (Or.inr (Or.inr (Or.inr (Or.inl h9)))))).trans rfl)))))))), (fun z => absurd nI0 z), (by show LwP (rlC T (sR M)) (nI 0).toInt (M_12 0 9).toInt (sR M_12); rw [R40, hq_84.1 c87]; exact ⟨nI0, rfl⟩)⟩
          · refine wp_lp1 (fun M92 => (∀ a i, ¬ ((a = 0 ∧ i = 7) ∨ (a = 0 ∧ i = 11) ∨ (a = 0 ∧ i = 12) ∨ (a = 0 ∧ i = 13) ∨ a = 6) → M92 a i = M_12 a i) ∧ (TM B M92 1) ∧ ((M40 0 7).toInt < (M92 0 7).toInt) ∧ (rlC T (sR M) = F2 T M92 (.inr (sR M92))) ∧ (On M92) ∧ (Dsc2 (M92 7) (ix (M92 0 13))) ∧ (¬ kd (M92 7 (ix (M92 0 13) - 1)) = 10)) (fun M92 => ((M92 0 8).toInt - (M92 0 7).toInt).toNat) (fun ag92 M92 hI92 ih92 => ?_) FU M_12 ⟨(fun _ _ _ => rfl), (hT_84 c87).1, (hT_84 c87).2, (R40.trans (hq_84.2 c87)), (hX_84 c87).1, (hX_84 c87).2.1, (hX_84 c87).2.2⟩ (fu_lt ((by have := pm_bd (hT_84 c87).1.1; omega)))
            obtain ⟨hf_M92, hT92, hp92, hR92, hO92, hD92, hk92⟩ := hI92
            have hb92 := pm_bd hT92.1
            have hx92 := pm_ix hT92.1
            have h892 := congrArg Int32.toInt (hT92.2.2.2.trans hT40.2.2.2.symm)
            have hTx92 : TXr M92 = T := (txr_fr (by rw [hf_M92 0 8 (by first | decide | (rcases hc0 with h | h <;> rw [h] <;> simp; done) | (rcases hb0 with h | h | h <;> rw [h] <;> simp; done) | (simp; done) | omega), hg_M_12 0 8 (by first | decide | (rcases hc0 with h | h <;> rw [h] <;> simp; done) | (rcases hb0 with h | h | h <;> rw [h] <;> simp; done) | (simp; done) | omega)]) (fun j => by rw [hf_M92 5 j (by first | decide | (rcases hc0 with h | h <;> rw [h] <;> simp; done) | (rcases hb0 with h | h | h <;> rw [h] <;> simp; done) | (simp; done) | omega), hg_M_12 5 j (by first | decide | (rcases hc0 with h | h <;> rw [h] <;> simp; done) | (rcases hb0 with h | h | h <;> rw [h] <;> simp; done) | (simp; done) | omega)])).trans hTx40
            have en92 := ends_r hTx92
            have hw92 : ¬ ix (M92 0 13) = 0 := by
              have z := hT92.2.1.2.1
              omega
            refine wp_bind2 (o5_X10_here M92 T hTx92 (pm_hp hT92.1)) (fun r_13 he93 hq93 => ?_)
            obtain ⟨hh_93, hq_93⟩ := hq93
            replace hh_93 : (r_13.toInt = -1 ∧ (M92 0 7).toInt = (M92 0 8).toInt) ∨ (0 ≤ r_13.toInt ∧ r_13.toInt ≤ 255 ∧ (M92 0 7).toInt < (M92 0 8).toInt) := hh_93
            replace hq_93 : r_13.toInt = T (M92 0 7).toInt := hq_93
            have j152 : (¬ T (M92 0 7).toInt = 41) → Wp (f_X10_readsCondition_L152 ag40 M92) (fun q => (q.1 = 0 ∨ q.1 = 1) ∧ (∀ a i, ¬ ((a = 0 ∧ i = 7) ∨ (a = 0 ∧ i = 9) ∨ (a = 0 ∧ i = 10) ∨ (a = 0 ∧ i = 11) ∨ (a = 0 ∧ i = 12) ∨ (a = 0 ∧ i = 13) ∨ a = 6 ∨ a = 7) → q.2 a i = M a i) ∧ (¬ q.1.toInt = 0 → PMm q.2 ∧ Seg (q.2 6) (ix (M 0 12)) (ix (q.2 0 12)) ∧ ix (M 0 12) ≤ ix (q.2 0 12) ∧ (∀ k, k < ix (M 0 12) → q.2 6 k = M 6 k) ∧ (M 0 7).toInt < (q.2 0 7).toInt) ∧ (LwP (rlC T (sR M)) q.1.toInt (q.2 0 9).toInt (sR q.2))) := by
              intro k152
              unfold f_X10_readsCondition_L152
              refine wp_bind2 (o5_X10_here M92 T hTx92 (pm_hp hT92.1)) (fun r_14 he153 hq153 => ?_)
              obtain ⟨hh_153, hq_153⟩ := hq153
              replace hh_153 : (r_14.toInt = -1 ∧ (M92 0 7).toInt = (M92 0 8).toInt) ∨ (0 ≤ r_14.toInt ∧ r_14.toInt ≤ 255 ∧ (M92 0 7).toInt < (M92 0 8).toInt) := hh_153
              replace hq_153 : r_14.toInt = T (M92 0 7).toInt := hq_153
              have j180 : ((M92 0 7).toInt < (M92 0 8).toInt) → (T (M92 0 7).toInt = 38 ∨ T (M92 0 7).toInt = 124) → Wp (f_X10_readsCondition_L180 ag40 M92) (fun q => (q.1 = 0 ∨ q.1 = 1) ∧ (∀ a i, ¬ ((a = 0 ∧ i = 7) ∨ (a = 0 ∧ i = 9) ∨ (a = 0 ∧ i = 10) ∨ (a = 0 ∧ i = 11) ∨ (a = 0 ∧ i = 12) ∨ (a = 0 ∧ i = 13) ∨ a = 6 ∨ a = 7) → q.2 a i = M a i) ∧ (¬ q.1.toInt = 0 → PMm q.2 ∧ Seg (q.2 6) (ix (M 0 12)) (ix (q.2 0 12)) ∧ ix (M 0 12) ≤ ix (q.2 0 12) ∧ (∀ k, k < ix (M 0 12) → q.2 6 k = M 6 k) ∧ (M 0 7).toInt < (q.2 0 7).toInt) ∧ (LwP (rlC T (sR M)) q.1.toInt (q.2 0 9).toInt (sR q.2))) := by
                intro h180 k180
                unfold f_X10_readsCondition_L180
                refine wp_bind2 (o5_X10_here M92 T hTx92 (pm_hp hT92.1)) (fun r_15 he182 hq182 => ?_)
                obtain ⟨hh_182, hq_182⟩ := hq182
                replace hh_182 : (r_15.toInt = -1 ∧ (M92 0 7).toInt = (M92 0 8).toInt) ∨ (0 ≤ r_15.toInt ∧ r_15.toInt ≤ 255 ∧ (M92 0 7).toInt < (M92 0 8).toInt) := hh_182
                replace hq_182 : r_15.toInt = T (M92 0 7).toInt := hq_182
                have j195 : ∀ (t0_195 : Int32), (t0_195 = 0 ∨ t0_195 = 1) → ((t0_195.toInt = 1 ∧ T (M92 0 7).toInt = 124) ∨ (t0_195.toInt = 0 ∧ T (M92 0 7).toInt = 38)) → Wp (f_X10_readsCondition_L195 ag40 M92 t0_195) (fun q => (q.1 = 0 ∨ q.1 = 1) ∧ (∀ a i, ¬ ((a = 0 ∧ i = 7) ∨ (a = 0 ∧ i = 9) ∨ (a = 0 ∧ i = 10) ∨ (a = 0 ∧ i = 11) ∨ (a = 0 ∧ i = 12) ∨ (a = 0 ∧ i = 13) ∨ a = 6 ∨ a = 7) → q.2 a i = M a i) ∧ (¬ q.1.toInt = 0 → PMm q.2 ∧ Seg (q.2 6) (ix (M 0 12)) (ix (q.2 0 12)) ∧ ix (M 0 12) ≤ ix (q.2 0 12) ∧ (∀ k, k < ix (M 0 12) → q.2 6 k = M 6 k) ∧ (M 0 7).toInt < (q.2 0 7).toInt) ∧ (LwP (rlC T (sR M)) q.1.toInt (q.2 0 9).toInt (sR q.2))) := by
                  intro t0_195 hb_t0_195 k195
                  unfold f_X10_readsCondition_L195
                  refine wp_bind2 (o6_X10_lands M92 t0_195 B hT92 hO92 hD92) (fun M_16 he195 hq195 => ?_)
                  obtain ⟨hg_M_16, hT_195, ht_195, hc_195, hOn_195⟩ := hq195
                  replace hT_195 : TM B M_16 1 := hT_195
                  replace ht_195 : ¬ t0_195.toInt = 0 → ¬ (kd (M_16 7 (ix (M_16 0 13) - 1)) = 11 ∨ kd (M_16 7 (ix (M_16 0 13) - 1)) = 12) := ht_195
                  replace hc_195 : (sR M_16, ix (M_16 0 13)) = clJ t0_195.toInt (M92 7) (ix (M92 0 13)) (sR M92) := hc_195
                  replace hOn_195 : On M_16 := hOn_195
                  replace hg_M_16 : ∀ a i, ¬ ((a = 0 ∧ i = 13) ∨ a = 6) → M_16 a i = M92 a i := hg_M_16
                  have e16 := congrArg Int32.toInt (hg_M_16 0 7 (by first | decide | (rcases hc0 with h | h <;> rw [h] <;> simp; done) | (rcases hb0 with h | h | h <;> rw [h] <;> simp; done) | (simp; done) | omega))
                  have e168 := congrArg Int32.toInt (hg_M_16 0 8 (by first | decide | (rcases hc0 with h | h <;> rw [h] <;> simp; done) | (rcases hb0 with h | h | h <;> rw [h] <;> simp; done) | (simp; done) | omega))
                  have hTx16 : TXr M_16 = T := (txr_fr (hg_M_16 0 8 (by first | decide | (rcases hc0 with h | h <;> rw [h] <;> simp; done) | (rcases hb0 with h | h | h <;> rw [h] <;> simp; done) | (simp; done) | omega)) (fun j => hg_M_16 5 j (by first | decide | (rcases hc0 with h | h <;> rw [h] <;> simp; done) | (rcases hb0 with h | h | h <;> rw [h] <;> simp; done) | (simp; done) | omega))).trans hTx92
                  refine wp_bind2 (o5_X10_here M_16 T hTx16 (pm_hp hT_195.1)) (fun r_17 he200 hq200 => ?_)
                  obtain ⟨hh_200, hq_200⟩ := hq200
                  replace hh_200 : (r_17.toInt = -1 ∧ (M_16 0 7).toInt = (M_16 0 8).toInt) ∨ (0 ≤ r_17.toInt ∧ r_17.toInt ≤ 255 ∧ (M_16 0 7).toInt < (M_16 0 8).toInt) := hh_200
                  replace hq_200 : r_17.toInt = T (M_16 0 7).toInt := hq_200
                  have h17t : r_17.toInt = T (M92 0 7).toInt := by rw [hq_200, hg_M_16 0 7 (by first | decide | (rcases hc0 with h | h <;> rw [h] <;> simp; done) | (rcases hb0 with h | h | h <;> rw [h] <;> simp; done) | (simp; done) | omega)]
                  have j215 : ∀ (t0_215 : Int32), (t0_215.toInt = 11 ∨ t0_215.toInt = 12) → ((t0_215.toInt = 11 ∧ T (M92 0 7).toInt = 38) ∨ (t0_215.toInt = 12 ∧ T (M92 0 7).toInt = 124)) → Wp (f_X10_readsCondition_L215 ag40 M_16 t0_215) (fun q => (q.1 = 0 ∨ q.1 = 1) ∧ (∀ a i, ¬ ((a = 0 ∧ i = 7) ∨ (a = 0 ∧ i = 9) ∨ (a = 0 ∧ i = 10) ∨ (a = 0 ∧ i = 11) ∨ (a = 0 ∧ i = 12) ∨ (a = 0 ∧ i = 13) ∨ a = 6 ∨ a = 7) → q.2 a i = M a i) ∧ (¬ q.1.toInt = 0 → PMm q.2 ∧ Seg (q.2 6) (ix (M 0 12)) (ix (q.2 0 12)) ∧ ix (M 0 12) ≤ ix (q.2 0 12) ∧ (∀ k, k < ix (M 0 12) → q.2 6 k = M 6 k) ∧ (M 0 7).toInt < (q.2 0 7).toInt) ∧ (LwP (rlC T (sR M)) q.1.toInt (q.2 0 9).toInt (sR q.2))) := by
                    intro t0_215 h215 k215
                    unfold f_X10_readsCondition_L215
                    refine wp_bind2 (o6_X10_jumps M_16 t0_215 B hT_195 h215 (by omega) hOn_195) (fun M_18 he215 hq215 => ?_)
                    obtain ⟨hg_M_18, hT_215, hq_215, hjs_215, hjw_215, hjo_215⟩ := hq215
                    replace hT_215 : TM B M_18 0 := hT_215
                    replace hq_215 : M_18 0 7 = M_16 0 7 + nI 1 := hq_215
                    replace hjs_215 : sR M_18 = fwd (emt (sR M_16) t0_215.toInt 0) ((M_16 0 7).toInt + 1) := hjs_215
                    replace hjw_215 : M_18 7 = upd (M_16 7) (ix (M_16 0 13)) ((nI 1048576) * t0_215 + M_16 0 12) ∧ ix (M_18 0 13) = ix (M_16 0 13) + 1 := hjw_215
                    replace hjo_215 : On M_18 ∧ dO M_18 = dO M_16 := hjo_215
                    replace hg_M_18 : ∀ a i, ¬ ((a = 0 ∧ i = 7) ∨ (a = 0 ∧ i = 12) ∨ (a = 0 ∧ i = 13) ∨ a = 6 ∨ a = 7) → M_18 a i = M_16 a i := hg_M_18
                    have hq18 : (M_18 0 7).toInt = (M_16 0 7).toInt + 1 := by rw [hq_215]; exact (i_up (by omega)).2
                    have h818 := congrArg Int32.toInt (hT_215.2.2.2.trans hT40.2.2.2.symm)
                    have R18 : F2 T M92 (.inr (sR M92)) = F2 T M_18 (tstD T (dO M_18) (sR M_18)) ∧ Dsc2 (M_18 7) (ix (M_18 0 13)) := by
                      have d16 : dO M_16 = dO M92 := by
                        unfold dO
                        rw [hg_M_16 0 11 (by first | decide | (rcases hc0 with h | h <;> rw [h] <;> simp; done) | (rcases hb0 with h | h | h <;> rw [h] <;> simp; done) | (simp; done) | omega)]
                      have e167 : M_16 7 = M92 7 := funext (fun i => hg_M_16 7 i (by first | decide | (rcases hc0 with h | h <;> rw [h] <;> simp; done) | (rcases hb0 with h | h | h <;> rw [h] <;> simp; done) | (simp; done) | omega))
                      have b12 := congrArg Int32.toInt (hg_M_16 0 12 (by first | decide | (rcases hc0 with h | h <;> rw [h] <;> simp; done) | (rcases hb0 with h | h | h <;> rw [h] <;> simp; done) | (simp; done) | omega))
                      have v18 := wd_is (a := t0_215) (b := M_16 0 12) (by omega) (by omega)
                      have x18 : vl ((nI 1048576) * t0_215 + M_16 0 12) = ((sR M92).2.1 : Int) := by
                        rw [v18.2.2.2, hg_M_16 0 12 (by first | decide | (rcases hc0 with h | h <;> rw [h] <;> simp; done) | (rcases hb0 with h | h | h <;> rw [h] <;> simp; done) | (simp; done) | omega)]
                        exact hx92.1.symm
                      unfold F2
                      rw [hjs_215, hjw_215.2, hjw_215.1, hjo_215.2, d16, e167, hg_M_16 0 7 (by first | decide | (rcases hc0 with h | h <;> rw [h] <;> simp; done) | (rcases hb0 with h | h | h <;> rw [h] <;> simp; done) | (simp; done) | omega)]
                      rcases k215 with z | z
                      · have y : t0_195.toInt = 0 := (k195.resolve_left (fun y => by have := y.2; omega)).1
                        rw [clJ_0 y] at hc_195
                        obtain ⟨s16, w16⟩ := Prod.mk.inj hc_195
                        rw [s16, w16, z.1]
                        exact ⟨denP_a en92 (by omega) (by show 0 ≤ (M92 0 7).toInt; omega) hw92 hk92 z.2 (by rw [v18.2.2.1]; exact z.1) x18, ds2_p (ds2_d hD92 (ajW_b _ _)) (fun _ => ds2_a hD92) (fun z9 => absurd z9 (by rw [v18.2.2.1]; omega))⟩
                      · have y : ¬ t0_195.toInt = 0 := by
                          have y2 := (k195.resolve_right (fun y => by have := y.2; omega)).1
                          omega
                        rw [clJ_1 y] at hc_195
                        obtain ⟨s16, w16⟩ := Prod.mk.inj hc_195
                        rw [s16, w16, z.1]
                        exact ⟨denP_o en92 (by omega) (by show 0 ≤ (M92 0 7).toInt; omega) hw92 hk92 z.2 (by rw [v18.2.2.1]; exact z.1) x18, ds2_p (ds2_d hD92 (Nat.le_trans (ojW_b _ _) (ajW_b _ _))) (fun z9 => absurd z9 (by rw [v18.2.2.1]; omega)) (fun _ => ds2_o hD92)⟩
                    exact ih40 M_18 ⟨(fun a i q0 => ((hg_M_18 a i (fun z8 => q0 ((fun z9 => Or.elim z9 (fun h9 => Or.inl h9) (fun z9 => Or.elim z9 (fun h9 => Or.inr (Or.inr (Or.inr (Or.inr (Or.inl h9))))) (fun z9 => Or.elim z9 (fun h9 => Or.inr (Or.inr (Or.inr (Or.inr (Or.inr (Or.inl h9)))))) (fun z9 => Or.elim z9 (fun h9 => Or.inr (Or.inr (Or.inr (Or.inr (Or.inr (Or.inr (Or.inl h9))))))) (fun h9 => Or.inr (Or.inr (Or.inr (Or.inr (Or.inr (Or.inr (Or.inr (h9)))))))))))) z8))).trans ((hg_M_16 a i (fun z8 => q0 ((fun z9 => Or.elim z9 (fun h9 => Or.inr (Or.inr (Or.inr (Or.inr (Or.inr (Or.inl h9)))))) (fun h9 => Or.inr (Or.inr (Or.inr (Or.inr (Or.inr (Or.inr (Or.inl h9)))))))) z8))).trans ((hf_M92 a i (fun z8 => q0 ((fun z9 => Or.elim z9 (fun h9 => Or.inl h9) (fun z9 => Or.elim z9 (fun h9 => Or.inr (Or.inr (Or.inr (Or.inl h9)))) (fun z9 => Or.elim z9 (fun h9 => Or.inr (Or.inr (Or.inr (Or.inr (Or.inl h9))))) (fun z9 => Or.elim z9 (fun h9 => Or.inr (Or.inr (Or.inr (Or.inr (Or.inr (Or.inl h9)))))) (fun h9 => Or.inr (Or.inr (Or.inr (Or.inr (Or.inr (Or.inr (Or.inl h9))))))))))) z8))).trans ((hg_M_12 a i (fun z8 => q0 ((fun z9 => Or.elim z9 (fun h9 => Or.inl h9) (fun z9 => Or.elim z9 (fun h9 => Or.inr (Or.inl h9)) (fun z9 => Or.elim z9 (fun h9 => Or.inr (Or.inr (Or.inl h9))) (fun z9 => Or.elim z9 (fun h9 => Or.inr (Or.inr (Or.inr (Or.inl h9)))) (fun z9 => Or.elim z9 (fun h9 => Or.inr (Or.inr (Or.inr (Or.inr (Or.inl h9))))) (fun z9 => Or.elim z9 (fun h9 => Or.inr (Or.inr (Or.inr (Or.inr (Or.inr (Or.inl h9)))))) (fun z9 => Or.elim z9 (fun h9 => Or.inr (Or.inr (Or.inr (Or.inr (Or.inr (Or.inr (Or.inl h9))))))) (fun h9 => Or.inr (Or.inr (Or.inr (Or.inr (Or.inr (Or.inr (Or.inr (h9))))))))))))))) z8))).trans ((hf_M40 a i (fun z8 => q0 ((fun z9 => Or.elim z9 (fun h9 => Or.inl h9) (fun z9 => Or.elim z9 (fun h9 => Or.inr (Or.inl h9)) (fun z9 => Or.elim z9 (fun h9 => Or.inr (Or.inr (Or.inl h9))) (fun z9 => Or.elim z9 (fun h9 => Or.inr (Or.inr (Or.inr (Or.inl h9)))) (fun z9 => Or.elim z9 (fun h9 => Or.inr (Or.inr (Or.inr (Or.inr (Or.inl h9))))) (fun z9 => Or.elim z9 (fun h9 => Or.inr (Or.inr (Or.inr (Or.inr (Or.inr (Or.inl h9)))))) (fun z9 => Or.elim z9 (fun h9 => Or.inr (Or.inr (Or.inr (Or.inr (Or.inr (Or.inr (Or.inl h9))))))) (fun h9 => Or.inr (Or.inr (Or.inr (Or.inr (Or.inr (Or.inr (Or.inr (h9))))))))))))))) z8))).trans rfl)))))), hT_215, (by omega), (hR92.trans R18.1), hjo_215.1, R18.2⟩ (by omega)
                  refine wp_ite (fun c205 => ?_) (fun c205 => ?_)
                  · exact j215 (nI 11) (by have f0 := t_lit 11; omega) (Or.inl ⟨t_lit 11, by rw [← h17t]; exact c205⟩)
                  · exact j215 (nI 12) (by have f0 := t_lit 12; omega) (Or.inr ⟨t_lit 12, k180.resolve_left (by rw [← h17t]; exact c205)⟩)
                refine wp_ite (fun c187 => ?_) (fun c187 => ?_)
                · exact j195 (nI 1) b01_1 (Or.inl ⟨nI1, by rw [← hq_182]; exact c187⟩)
                · exact j195 (nI 0) b01_0 (Or.inr ⟨nI0, k180.resolve_right (by rw [← hq_182]; exact c187)⟩)
              refine wp_ite (fun c158 => ?_) (fun c158 => ?_)
              · exact j180 (by omega) (Or.inl (by rw [← hq_153]; exact c158))
              · refine wp_bind2 (o5_X10_here M92 T hTx92 (pm_hp hT92.1)) (fun r_19 he162 hq162 => ?_)
                obtain ⟨hh_162, hq_162⟩ := hq162
                replace hh_162 : (r_19.toInt = -1 ∧ (M92 0 7).toInt = (M92 0 8).toInt) ∨ (0 ≤ r_19.toInt ∧ r_19.toInt ≤ 255 ∧ (M92 0 7).toInt < (M92 0 8).toInt) := hh_162
                replace hq_162 : r_19.toInt = T (M92 0 7).toInt := hq_162
                have j170 : (¬ T (M92 0 7).toInt = 124) → Wp (f_X10_readsCondition_L170 M92) (fun q => (q.1 = 0 ∨ q.1 = 1) ∧ (∀ a i, ¬ ((a = 0 ∧ i = 7) ∨ (a = 0 ∧ i = 9) ∨ (a = 0 ∧ i = 10) ∨ (a = 0 ∧ i = 11) ∨ (a = 0 ∧ i = 12) ∨ (a = 0 ∧ i = 13) ∨ a = 6 ∨ a = 7) → q.2 a i = M a i) ∧ (¬ q.1.toInt = 0 → PMm q.2 ∧ Seg (q.2 6) (ix (M 0 12)) (ix (q.2 0 12)) ∧ ix (M 0 12) ≤ ix (q.2 0 12) ∧ (∀ k, k < ix (M 0 12) → q.2 6 k = M 6 k) ∧ (M 0 7).toInt < (q.2 0 7).toInt) ∧ (LwP (rlC T (sR M)) q.1.toInt (q.2 0 9).toInt (sR q.2))) := by
                  intro k170
                  unfold f_X10_readsCondition_L170
                  refine wp_cb2 (o5_X10_wrongAt M92 (nI 1) (M92 0 7)) (fun r_20 M_21 he176 hq176 => ?_)
                  obtain ⟨hz_r_20, hg_M_21, hw_176, hq_176⟩ := hq176
                  replace hw_176 : r_20.toInt = 0 := hw_176
                  have := t_lit 1
                  replace hq_176 : 0 ≤ (nI 1).toInt → (nI 1).toInt ≤ 9 → 0 ≤ (M92 0 7).toInt → (M92 0 7).toInt ≤ 1000 → (M_21 0 9).toInt = -1000 * (nI 1).toInt - (M92 0 7).toInt := hq_176
                  have := t_lit 1
                  replace hg_M_21 : ∀ a i, ¬ ((a = 0 ∧ i = 9)) → M_21 a i = M92 a i := hg_M_21
                  refine wp_gb hz_r_20 ?_
                  exact wp_some ⟨hz_r_20, (fun a i q0 => ((hg_M_21 a i (fun h9 => q0 (Or.inr (Or.inl h9)))).trans ((hf_M92 a i (fun z8 => q0 ((fun z9 => Or.elim z9 (fun h9 => Or.inl h9) (fun z9 => Or.elim z9 (fun h9 => Or.inr (Or.inr (Or.inr (Or.inl h9)))) (fun z9 => Or.elim z9 (fun h9 => Or.inr (Or.inr (Or.inr (Or.inr (Or.inl h9))))) (fun z9 => Or.elim z9 (fun h9 => Or.inr (Or.inr (Or.inr (Or.inr (Or.inr (Or.inl h9)))))) (fun h9 => Or.inr (Or.inr (Or.inr (Or.inr (Or.inr (Or.inr (Or.inl h9))))))))))) z8))).trans ((hg_M_12 a i (fun z8 => q0 ((fun z9 => Or.elim z9 (fun h9 => Or.inl h9) (fun z9 => Or.elim z9 (fun h9 => Or.inr (Or.inl h9)) (fun z9 => Or.elim z9 (fun h9 => Or.inr (Or.inr (Or.inl h9))) (fun z9 => Or.elim z9 (fun h9 => Or.inr (Or.inr (Or.inr (Or.inl h9)))) (fun z9 => Or.elim z9 (fun h9 => Or.inr (Or.inr (Or.inr (Or.inr (Or.inl h9))))) (fun z9 => Or.elim z9 (fun h9 => Or.inr (Or.inr (Or.inr (Or.inr (Or.inr (Or.inl h9)))))) (fun z9 => Or.elim z9 (fun h9 => Or.inr (Or.inr (Or.inr (Or.inr (Or.inr (Or.inr (Or.inl h9))))))) (fun h9 => Or.inr (Or.inr (Or.inr (Or.inr (Or.inr (Or.inr (Or.inr (h9))))))))))))))) z8))).trans ((hf_M40 a i (fun z8 => q0 ((fun z9 => Or.elim z9 (fun h9 => Or.inl h9) (fun z9 => Or.elim z9 (fun h9 => Or.inr (Or.inl h9)) (fun z9 => Or.elim z9 (fun h9 => Or.inr (Or.inr (Or.inl h9))) (fun z9 => Or.elim z9 (fun h9 => Or.inr (Or.inr (Or.inr (Or.inl h9)))) (fun z9 => Or.elim z9 (fun h9 => Or.inr (Or.inr (Or.inr (Or.inr (Or.inl h9))))) (fun z9 => Or.elim z9 (fun h9 => Or.inr (Or.inr (Or.inr (Or.inr (Or.inr (Or.inl h9)))))) (fun z9 => Or.elim z9 (fun h9 => Or.inr (Or.inr (Or.inr (Or.inr (Or.inr (Or.inr (Or.inl h9))))))) (fun h9 => Or.inr (Or.inr (Or.inr (Or.inr (Or.inr (Or.inr (Or.inr (h9))))))))))))))) z8))).trans ((hg_M_5 a i (fun z8 => q0 ((fun z9 => Or.elim z9 (fun h9 => Or.inl h9) (fun z9 => Or.elim z9 (fun h9 => Or.inr (Or.inl h9)) (fun z9 => Or.elim z9 (fun h9 => Or.inr (Or.inr (Or.inr (Or.inl h9)))) (fun z9 => Or.elim z9 (fun h9 => Or.inr (Or.inr (Or.inr (Or.inr (Or.inr (Or.inl h9)))))) (fun h9 => Or.inr (Or.inr (Or.inr (Or.inr (Or.inr (Or.inr (Or.inr (h9)))))))))))) z8))).trans ((congrFun (congrFun eM_3 a) i).trans ((mset_ne (fun h9 => q0 (Or.inr (Or.inr (Or.inr (Or.inr (Or.inr (Or.inl h9)))))))).trans ((congrFun (congrFun eM_2 a) i).trans ((mset_ne (fun h9 => q0 (Or.inr (Or.inr (Or.inr (Or.inl h9)))))).trans rfl)))))))))), (fun z => absurd hw_176 z), (by show LwP (rlC T (sR M)) r_20.toInt (M_21 0 9).toInt (sR M_21); rw [hR92, show F2 T M92 (.inr (sR M92)) = .inl (-1000 - (sR M92).1) from denP_w hw92 hk92 k152 (by show ¬ T (M92 0 7).toInt = 38; rw [← hq_153]; exact c158) k170]; exact ⟨hw_176, by rw [hq_176 (by decide) (by decide) (by omega) (by omega)]; have := t_lit 1; show _ = -1000 - (M92 0 7).toInt; omega⟩)⟩
                refine wp_ite (fun c167 => ?_) (fun c167 => ?_)
                · exact j180 (by omega) (Or.inr (by rw [← hq_162]; exact c167))
                · exact j170 (by rw [← hq_162]; exact c167)
            refine wp_ite (fun c98 => ?_) (fun c98 => ?_)
            · refine wp_bind2 (o6_X10_lands M92 (nI 1) B hT92 hO92 hD92) (fun M_22 he103 hq103 => ?_)
              obtain ⟨hg_M_22, hT_103, ht_103, hc_103, hOn_103⟩ := hq103
              replace hT_103 : TM B M_22 1 := hT_103
              have := t_lit 1
              replace ht_103 : ¬ (nI 1).toInt = 0 → ¬ (kd (M_22 7 (ix (M_22 0 13) - 1)) = 11 ∨ kd (M_22 7 (ix (M_22 0 13) - 1)) = 12) := ht_103
              have := t_lit 1
              replace hc_103 : (sR M_22, ix (M_22 0 13)) = clJ (nI 1).toInt (M92 7) (ix (M92 0 13)) (sR M92) := hc_103
              have := t_lit 1
              replace hOn_103 : On M_22 := hOn_103
              have := t_lit 1
              replace hg_M_22 : ∀ a i, ¬ ((a = 0 ∧ i = 13) ∨ a = 6) → M_22 a i = M92 a i := hg_M_22
              have hb22 := pm_bd hT_103.1
              have hx22 := pm_ix hT_103.1
              have hw22 := hT_103.2.1.2.1
              have ht22 := ht_103 (by decide)
              have e227 := congrArg Int32.toInt (hg_M_22 0 7 (by first | decide | (rcases hc0 with h | h <;> rw [h] <;> simp; done) | (rcases hb0 with h | h | h <;> rw [h] <;> simp; done) | (simp; done) | omega))
              have e228 := congrArg Int32.toInt (hg_M_22 0 8 (by first | decide | (rcases hc0 with h | h <;> rw [h] <;> simp; done) | (rcases hb0 with h | h | h <;> rw [h] <;> simp; done) | (simp; done) | omega))
              rw [clJ_1 ne1] at hc_103
              obtain ⟨s22, w22⟩ := Prod.mk.inj hc_103
              have r22 : M_22 7 = M92 7 := funext (fun i => hg_M_22 7 i (by first | decide | (rcases hc0 with h | h <;> rw [h] <;> simp; done) | (rcases hb0 with h | h | h <;> rw [h] <;> simp; done) | (simp; done) | omega))
              have d22 : dO M_22 = dO M92 := by
                unfold dO
                rw [hg_M_22 0 11 (by first | decide | (rcases hc0 with h | h <;> rw [h] <;> simp; done) | (rcases hb0 with h | h | h <;> rw [h] <;> simp; done) | (simp; done) | omega)]
              have kt22 := hT_103.2.1.2.2.2.1 (ix (M_22 0 13) - 1) (by omega)
              refine wp_bnd (fun M_23 eM_23 => ?_)
              refine wp_bnd (fun M_24 eM_24 => ?_)
              refine wp_bnd (fun M_25 eM_25 => ?_)
              have hps := pop_is eM_23 eM_24 eM_25
              have hd := i_dn (x := M_22 0 13) (by omega)
              have hq25 : (M_25 0 7).toInt = (M_22 0 7).toInt + 1 := by rw [hps.2.1]; exact (i_up (by omega)).2
              have hw25 : (M_25 0 13).toInt = (M_22 0 13).toInt - 1 := by rw [hps.1]; exact hd.2
              have on25 := on_popo hOn_103 (by omega) (by rw [eM_25, mset_ne (by first | exact nz1 (by decide) | exact nz2 (by decide) | exact nz1 (nzA hc0 (by decide)) | exact nz1 (nzE (by decide)) | exact nz1 (nzB hc0 (by decide)) | exact nz1 (nzC hc0 (by decide)) | exact nz1 (nzD hc0 (by decide)) | exact nz1 (nzF (by decide)) | exact nz1 (nzG (by decide)) | omega), eM_24, mset_eq, eM_23, mset_ne (by first | exact nz1 (by decide) | exact nz2 (by decide) | exact nz1 (nzA hc0 (by decide)) | exact nz1 (nzE (by decide)) | exact nz1 (nzB hc0 (by decide)) | exact nz1 (nzC hc0 (by decide)) | exact nz1 (nzD hc0 (by decide)) | exact nz1 (nzF (by decide)) | exact nz1 (nzG (by decide)) | omega)]) hps.1 hps.2.2.2.2.1 (by omega)
              have s25 := sr_fwd (M := M_22) (N := M_25) (p := (M92 0 7).toInt + 1) (by omega) hps.2.2.1 (fun j => by rw [hps.2.2.2.2.2])
              have w25 : ix (M_25 0 13) = ix (M_22 0 13) - 1 := by
                rw [hps.1]
                exact i_dn1 (by omega)
              have R25 : F2 T M92 (.inr (sR M92)) = F2 T M_25 (.inr (sR M_25)) := by
                unfold F2
                rw [on25.2, d22, w25, w22, s25, s22, hps.2.2.2.2.1, r22]
                exact denP_c hw92 hk92 (show T (M92 0 7).toInt = 41 by rw [← hq_93]; exact c98)
              have D25 : Dsc2 (M_25 7) (ix (M_25 0 13)) := by
                rw [w25, w22, hps.2.2.2.2.1, r22]
                have b1 := ajW_b (M92 7) (ix (M92 0 13))
                have b2 := ojW_b (M92 7) (ajW (M92 7) (ix (M92 0 13)))
                exact ds2_d hD92 (by omega)
              refine wp_ite (fun c140 => ?_) (fun c140 => ?_)
              · have hw1 : ix (M_22 0 13) = 1 := by omega
                have hseg := tmm_end hT_103 hw1
                have hP25 : PMm M_25 := pm_pop hT_103.1 (by omega) (by omega) hps.2.2.1 hps.1 hps.2.2.2.1 hps.2.2.2.2.1
                have hr6 := hT_103.2.2.1
                have hcc := hT_103.2.1.1
                rw [eB] at hseg hr6 hcc
                exact wp_some ⟨b01_1, (fun a i q0 => ((congrFun (congrFun eM_25 a) i).trans ((mset_ne (fun h9 => q0 (Or.inl h9))).trans ((congrFun (congrFun eM_24 a) i).trans ((mset_ne (fun h9 => q0 (Or.inr (Or.inr (Or.inr (Or.inl h9)))))).trans ((congrFun (congrFun eM_23 a) i).trans ((mset_ne (fun h9 => q0 (Or.inr (Or.inr (Or.inr (Or.inr (Or.inr (Or.inl h9)))))))).trans ((hg_M_22 a i (fun z8 => q0 ((fun z9 => Or.elim z9 (fun h9 => Or.inr (Or.inr (Or.inr (Or.inr (Or.inr (Or.inl h9)))))) (fun h9 => Or.inr (Or.inr (Or.inr (Or.inr (Or.inr (Or.inr (Or.inl h9)))))))) z8))).trans ((hf_M92 a i (fun z8 => q0 ((fun z9 => Or.elim z9 (fun h9 => Or.inl h9) (fun z9 => Or.elim z9 (fun h9 => Or.inr (Or.inr (Or.inr (Or.inl h9)))) (fun z9 => Or.elim z9 (fun h9 => Or.inr (Or.inr (Or.inr (Or.inr (Or.inl h9))))) (fun z9 => Or.elim z9 (fun h9 => Or.inr (Or.inr (Or.inr (Or.inr (Or.inr (Or.inl h9)))))) (fun h9 => Or.inr (Or.inr (Or.inr (Or.inr (Or.inr (Or.inr (Or.inl h9))))))))))) z8))).trans ((hg_M_12 a i (fun z8 => q0 ((fun z9 => Or.elim z9 (fun h9 => Or.inl h9) (fun z9 => Or.elim z9 (fun h9 => Or.inr (Or.inl h9)) (fun z9 => Or.elim z9 (fun h9 => Or.inr (Or.inr (Or.inl h9))) (fun z9 => Or.elim z9 (fun h9 => Or.inr (Or.inr (Or.inr (Or.inl h9)))) (fun z9 => Or.elim z9 (fun h9 => Or.inr (Or.inr (Or.inr (Or.inr (Or.inl h9))))) (fun z9 => Or.elim z9 (fun h9 => Or.inr (Or.inr (Or.inr (Or.inr (Or.inr (Or.inl h9)))))) (fun z9 => Or.elim z9 (fun h9 => Or.inr (Or.inr (Or.inr (Or.inr (Or.inr (Or.inr (Or.inl h9))))))) (fun h9 => Or.inr (Or.inr (Or.inr (Or.inr (Or.inr (Or.inr (Or.inr (h9))))))))))))))) z8))).trans ((hf_M40 a i (fun z8 => q0 ((fun z9 => Or.elim z9 (fun h9 => Or.inl h9) (fun z9 => Or.elim z9 (fun h9 => Or.inr (Or.inl h9)) (fun z9 => Or.elim z9 (fun h9 => Or.inr (Or.inr (Or.inl h9))) (fun z9 => Or.elim z9 (fun h9 => Or.inr (Or.inr (Or.inr (Or.inl h9)))) (fun z9 => Or.elim z9 (fun h9 => Or.inr (Or.inr (Or.inr (Or.inr (Or.inl h9))))) (fun z9 => Or.elim z9 (fun h9 => Or.inr (Or.inr (Or.inr (Or.inr (Or.inr (Or.inl h9)))))) (fun z9 => Or.elim z9 (fun h9 => Or.inr (Or.inr (Or.inr (Or.inr (Or.inr (Or.inr (Or.inl h9))))))) (fun h9 => Or.inr (Or.inr (Or.inr (Or.inr (Or.inr (Or.inr (Or.inr (h9))))))))))))))) z8))).trans ((hg_M_5 a i (fun z8 => q0 ((fun z9 => Or.elim z9 (fun h9 => Or.inl h9) (fun z9 => Or.elim z9 (fun h9 => Or.inr (Or.inl h9)) (fun z9 => Or.elim z9 (fun h9 => Or.inr (Or.inr (Or.inr (Or.inl h9)))) (fun z9 => Or.elim z9 (fun h9 => Or.inr (Or.inr (Or.inr (Or.inr (Or.inr (Or.inl h9)))))) (fun h9 => Or.inr (Or.inr (Or.inr (Or.inr (Or.inr (Or.inr (Or.inr (h9)))))))))))) z8))).trans ((congrFun (congrFun eM_3 a) i).trans ((mset_ne (fun h9 => q0 (Or.inr (Or.inr (Or.inr (Or.inr (Or.inr (Or.inl h9)))))))).trans ((congrFun (congrFun eM_2 a) i).trans ((mset_ne (fun h9 => q0 (Or.inr (Or.inr (Or.inr (Or.inl h9)))))).trans rfl)))))))))))))))), (fun _ => by show PMm M_25 ∧ Seg (M_25 6) (ix (M 0 12)) (ix (M_25 0 12)) ∧ ix (M 0 12) ≤ ix (M_25 0 12) ∧ (∀ k, k < ix (M 0 12) → M_25 6 k = M 6 k) ∧ (M 0 7).toInt < (M_25 0 7).toInt; rw [hps.2.2.1, hps.2.2.2.2.2]; exact ⟨hP25, hseg, hcc, hr6, by omega⟩), (by show LwP (rlC T (sR M)) (nI 1).toInt (M_25 0 9).toInt (sR M_25); rw [hR92, R25, show F2 T M_25 (.inr (sR M_25)) = .inr (sR M_25) from fin2_e (by have := t_ixn (M_25 0 13) (by omega); omega)]; exact ⟨ne1, rfl⟩)⟩
              · have hT25 : TM B M_25 1 := tmm_pop hT_103 (by omega) ht22 (by omega) hps.1 hps.2.2.1 hps.2.2.2.1 hps.2.2.2.2.1 hps.2.2.2.2.2
                refine wp_bind2 (o6_X10_endsPiece M_25 T B hT25 on25.1 D25) (fun M_26 he146 hq146 => ?_)
                obtain ⟨hg_M_26, hT_146, hq_146, hOn_146, hD2_146, hk_146⟩ := hq146
                replace hT_146 : TM B M_26 1 := hT_146
                replace hq_146 : F2 T M_25 (.inr (sR M_25)) = F2 T M_26 (.inr (sR M_26)) := hq_146
                replace hOn_146 : On M_26 := hOn_146
                replace hD2_146 : Dsc2 (M_26 7) (ix (M_26 0 13)) := hD2_146
                replace hk_146 : ¬ kd (M_26 7 (ix (M_26 0 13) - 1)) = 10 := hk_146
                replace hg_M_26 : ∀ a i, ¬ ((a = 0 ∧ i = 11) ∨ (a = 0 ∧ i = 12) ∨ (a = 0 ∧ i = 13) ∨ a = 6) → M_26 a i = M_25 a i := hg_M_26
                have e267 := congrArg Int32.toInt (hg_M_26 0 7 (by first | decide | (rcases hc0 with h | h <;> rw [h] <;> simp; done) | (rcases hb0 with h | h | h <;> rw [h] <;> simp; done) | (simp; done) | omega))
                have e268 := congrArg Int32.toInt (hT_146.2.2.2.trans hT40.2.2.2.symm)
                exact ih92 M_26 ⟨(fun a i q0 => ((hg_M_26 a i (fun z8 => q0 ((fun z9 => Or.elim z9 (fun h9 => Or.inr (Or.inl h9)) (fun z9 => Or.elim z9 (fun h9 => Or.inr (Or.inr (Or.inl h9))) (fun z9 => Or.elim z9 (fun h9 => Or.inr (Or.inr (Or.inr (Or.inl h9)))) (fun h9 => Or.inr (Or.inr (Or.inr (Or.inr (h9)))))))) z8))).trans ((congrFun (congrFun eM_25 a) i).trans ((mset_ne (fun h9 => q0 (Or.inl h9))).trans ((congrFun (congrFun eM_24 a) i).trans ((mset_ne (fun h9 => q0 (Or.inr (Or.inl h9)))).trans ((congrFun (congrFun eM_23 a) i).trans ((mset_ne (fun h9 => q0 (Or.inr (Or.inr (Or.inr (Or.inl h9)))))).trans ((hg_M_22 a i (fun z8 => q0 ((fun z9 => Or.elim z9 (fun h9 => Or.inr (Or.inr (Or.inr (Or.inl h9)))) (fun h9 => Or.inr (Or.inr (Or.inr (Or.inr (h9)))))) z8))).trans ((hf_M92 a i (fun z8 => q0 ((fun z9 => Or.elim z9 (fun h9 => Or.inl h9) (fun z9 => Or.elim z9 (fun h9 => Or.inr (Or.inl h9)) (fun z9 => Or.elim z9 (fun h9 => Or.inr (Or.inr (Or.inl h9))) (fun z9 => Or.elim z9 (fun h9 => Or.inr (Or.inr (Or.inr (Or.inl h9)))) (fun h9 => Or.inr (Or.inr (Or.inr (Or.inr (h9))))))))) z8))).trans rfl)))))))))), hT_146, (by omega), (hR92.trans (R25.trans hq_146)), hOn_146, hD2_146, hk_146⟩ (by omega)
            · exact j152 (by rw [← hq_93]; exact c98)
  · refine wp_cb2 (o5_X10_wrongAt M (nI 1) (M 0 7)) (fun r_27 M_28 he15 hq15 => ?_)
    obtain ⟨hz_r_27, hg_M_28, hw_15, hq_15⟩ := hq15
    replace hw_15 : r_27.toInt = 0 := hw_15
    have := t_lit 1
    replace hq_15 : 0 ≤ (nI 1).toInt → (nI 1).toInt ≤ 9 → 0 ≤ (M 0 7).toInt → (M 0 7).toInt ≤ 1000 → (M_28 0 9).toInt = -1000 * (nI 1).toInt - (M 0 7).toInt := hq_15
    have := t_lit 1
    replace hg_M_28 : ∀ a i, ¬ ((a = 0 ∧ i = 9)) → M_28 a i = M a i := hg_M_28
    refine wp_gb hz_r_27 ?_
    exact wp_some ⟨hz_r_27, (fun a i q0 => ((hg_M_28 a i (fun h9 => q0 (Or.inr (Or.inl h9)))).trans rfl)), (fun z => absurd hw_15 z), (by show LwP (rlC T (sR M)) r_27.toInt (M_28 0 9).toInt (sR M_28); rw [rlC_1 (show ¬ T (M 0 7).toInt = 40 by rw [← hq_1]; exact c6)]; exact ⟨hw_15, by rw [hq_15 (by decide) (by decide) (by omega) (by omega)]; have := t_lit 1; show _ = -1000 - (M 0 7).toInt; omega⟩)⟩
