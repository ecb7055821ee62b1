set_option maxHeartbeats 4000000 in
theorem o_X10_laysIslands (M : Mem) (v1 : Int32) : Wp (f_X10_laysIslands M v1) (fun q => (∀ a i, ¬ (a = 25 ∨ a = 31) → q.2 a i = M a i)) := by
  refine wp_lp2 (fun M4 y3_4 => (0 ≤ y3_4.toInt) ∧ (∀ a i, ¬ (a = 31) → M4 a i = M a i)) (fun M4 y3_4 => (40 - y3_4.toInt).toNat) (fun ag4 M4 y3_4 hI4 ih4 => ?_) FU M (nI 0) ⟨(by have f0 := t_lit 0; omega), (fun _ _ _ => rfl)⟩ (fu_lt (by have f0 := t_lit 0; omega))
  obtain ⟨hi4, hf_M4⟩ := hI4
  have j23 : Wp (f_X10_laysIslands_L23 v1 M4) (fun q => (∀ a i, ¬ (a = 25 ∨ a = 31) → q.2 a i = M a i)) := by
    unfold f_X10_laysIslands_L23
    refine wp_lp3 (fun M25 y2_25 y3_25 => (0 ≤ y3_25.toInt) ∧ (∀ a i, ¬ (a = 25 ∨ a = 31) → M25 a i = M4 a i) ∧ (0 ≤ y2_25.toInt ∧ y2_25.toInt ≤ y3_25.toInt)) (fun M25 y2_25 y3_25 => (40 - y3_25.toInt).toNat) (fun ag25 M25 y2_25 y3_25 hI25 ih25 => ?_) FU M4 (nI 0) (nI 0) ⟨(by have f0 := t_lit 0; omega), (fun _ _ _ => rfl), (by have := t_lit 0; omega)⟩ (fu_lt (by have f0 := t_lit 0; omega))
    obtain ⟨hi25, hf_M25, h25⟩ := hI25
    refine wp_ite (fun c28 => ?_) (fun c28 => ?_)
    · exact wp_some (fun a i q0 => ((hf_M25 a i (fun z8 => q0 ((fun z9 => Or.elim z9 (fun h9 => Or.inl h9) (fun h9 => Or.inr (h9))) z8))).trans ((hf_M4 a i (fun h9 => q0 (Or.inr (h9)))).trans rfl)))
    · have fx3 := t_ixn y3_25 (by omega)
      refine wp_bind2 (o_X10_isDry M25 y3_25 (by omega)) (fun r_1 he33 hq33 => ?_)
      obtain ⟨hz_r_1, hr_33⟩ := hq33
      replace hr_33 : ¬ r_1.toInt = 0 → (M25 1 (ix y3_25)).toInt = 1 := hr_33
      refine wp_ite (fun c36 => ?_) (fun c36 => ?_)
      · exact ih25 M25 y2_25 (y3_25 + (nI 1)) ⟨(by have f0 := t_lit 1; have f1 := t_add y3_25 (nI 1); omega), (fun a i q0 => ((hf_M25 a i (fun z8 => q0 ((fun z9 => Or.elim z9 (fun h9 => Or.inl h9) (fun h9 => Or.inr (h9))) z8))).trans rfl)), (by rw [t_inc y3_25 1 (by omega)]; omega)⟩ (by have f0 := t_lit 1; have f1 := t_add y3_25 (nI 1); omega)
      · refine wp_gd (by omega) ?_
        refine wp_ite (fun c46 => ?_) (fun c46 => ?_)
        · refine wp_bnd (fun M_2 eM_2 => ?_)
          refine wp_gd (by omega) ?_
          refine wp_bnd (fun M_3 eM_3 => ?_)
          refine wp_lp3 (fun M72 y4_72 y5_72 => (∀ a i, ¬ (a = 25 ∨ a = 31) → M72 a i = M_3 a i) ∧ (0 ≤ y5_72.toInt ∧ y5_72.toInt ≤ y4_72.toInt ∧ y4_72.toInt ≤ ((cN (fun j => (M72 31 j).toInt) 40 : Nat) : Int)) ∧ (∀ t : Nat, (t : Int) < y4_72.toInt → 0 ≤ (M72 25 t).toInt ∧ (M72 25 t).toInt < 40)) (fun M72 y4_72 y5_72 => (41 - y5_72.toInt).toNat) (fun ag72 M72 y4_72 y5_72 hI72 ih72 => ?_) FU M_3 (nI 1) (nI 0) ⟨(fun _ _ _ => rfl), (by rw [row_pu eM_3, cN_in (s := fun j => (M_2 31 j).toInt) (j := ix y3_25) (by show (M_2 31 (ix y3_25)).toInt = -1; rw [eM_2, mset_ne (by first | exact nz1 (by decide) | exact nz2 (by decide) | exact nz1 (nzA hc0 (by decide)) | exact nz1 (nzE (by decide)) | exact nz1 (nzB hc0 (by decide)) | exact nz1 (nzC hc0 (by decide)) | exact nz1 (nzD hc0 (by decide)) | exact nz1 (nzF (by decide)) | exact nz1 (nzG (by decide)) | omega)]; exact c46) (by omega) 40 (by omega)]; have := t_lit 0; have := t_lit 1; omega), (fun t ht => by rw [show t = 0 from (by have := t_lit 1; omega), eM_3, mset_ne (by first | exact nz1 (by decide) | exact nz2 (by decide) | exact nz1 (nzA hc0 (by decide)) | exact nz1 (nzE (by decide)) | exact nz1 (nzB hc0 (by decide)) | exact nz1 (nzC hc0 (by decide)) | exact nz1 (nzD hc0 (by decide)) | exact nz1 (nzF (by decide)) | exact nz1 (nzG (by decide)) | omega), eM_2, mset_eq]; omega)⟩ (fu_lt (by have f0 := t_lit 0; have f1 := t_lit 1; omega))
          obtain ⟨hf_M72, h72, hq72⟩ := hI72
          have hcl := cN_le (fun j => (M72 31 j).toInt) 40
          refine wp_ite (fun c76 => ?_) (fun c76 => ?_)
          · exact ih25 M72 (y2_25 + (nI 1)) (y3_25 + (nI 1)) ⟨(by have f0 := t_lit 1; have f1 := t_add y3_25 (nI 1); omega), (fun a i q0 => ((hf_M72 a i (fun z8 => q0 ((fun z9 => Or.elim z9 (fun h9 => Or.inl h9) (fun h9 => Or.inr (h9))) z8))).trans ((congrFun (congrFun eM_3 a) i).trans ((mset_ne (fun h9 => q0 (Or.inr ((h9).1)))).trans ((congrFun (congrFun eM_2 a) i).trans ((mset_ne (fun h9 => q0 (Or.inl (h9).1))).trans ((hf_M25 a i (fun z8 => q0 ((fun z9 => Or.elim z9 (fun h9 => Or.inl h9) (fun h9 => Or.inr (h9))) z8))).trans rfl))))))), (by rw [t_inc y3_25 1 (by omega), t_inc y2_25 1 (by omega)]; omega)⟩ (by have f0 := t_lit 1; have f1 := t_add y3_25 (nI 1); omega)
          · refine wp_lp3 (fun M82 y4_82 y6_82 => (0 ≤ y6_82.toInt) ∧ (∀ a i, ¬ (a = 25 ∨ a = 31) → M82 a i = M72 a i) ∧ (y5_72.toInt < y4_82.toInt ∧ y4_82.toInt ≤ ((cN (fun j => (M82 31 j).toInt) 40 : Nat) : Int)) ∧ (∀ t : Nat, (t : Int) < y4_82.toInt → 0 ≤ (M82 25 t).toInt ∧ (M82 25 t).toInt < 40)) (fun M82 y4_82 y6_82 => (40 - y6_82.toInt).toNat) (fun ag82 M82 y4_82 y6_82 hI82 ih82 => ?_) FU M72 y4_72 (nI 0) ⟨(by have f0 := t_lit 0; omega), (fun _ _ _ => rfl), (by omega), hq72⟩ (fu_lt (by have f0 := t_lit 0; omega))
            obtain ⟨hi82, hf_M82, h82, hq82⟩ := hI82
            have hcl2 := cN_le (fun j => (M82 31 j).toInt) 40
            refine wp_ite (fun c86 => ?_) (fun c86 => ?_)
            · exact ih72 M82 y4_82 (y5_72 + (nI 1)) ⟨(fun a i q0 => ((hf_M82 a i (fun z8 => q0 ((fun z9 => Or.elim z9 (fun h9 => Or.inl h9) (fun h9 => Or.inr (h9))) z8))).trans ((hf_M72 a i (fun z8 => q0 ((fun z9 => Or.elim z9 (fun h9 => Or.inl h9) (fun h9 => Or.inr (h9))) z8))).trans rfl))), (by rw [t_inc y5_72 1 (by omega)]; omega), hq82⟩ (by rw [t_inc y5_72 1 (by omega)]; omega)
            · have fx6 := t_ixn y6_82 (by omega)
              have fx5 := t_ixn y5_72 (by omega)
              refine wp_gd (by omega) ?_
              refine wp_ite (fun c97 => ?_) (fun c97 => ?_)
              · have hx := hq82 (ix y5_72) (by omega)
                have hlt := cN_lt (s := fun j => (M82 31 j).toInt) (j := ix y6_82) c97 40 (by omega)
                have fx4 := t_ixn y4_82 (by omega)
                refine wp_gd (by omega) ?_
                refine wp_bind2 (o_X10_canStep M82 (M82 25 (ix y5_72)) y6_82 v1 (by omega) (by omega)) (fun r_4 he111 hq111 => ?_)
                obtain ⟨hz_r_4, hr_111⟩ := hq111
                replace hr_111 : ¬ r_4.toInt = 0 → (M82 1 (ix (M82 25 (ix y5_72)))).toInt = 1 ∧ (M82 1 (ix y6_82)).toInt = 1 := hr_111
                refine wp_ite (fun c114 => ?_) (fun c114 => ?_)
                · exact ih82 M82 y4_82 (y6_82 + (nI 1)) ⟨(by have f0 := t_lit 1; have f1 := t_add y6_82 (nI 1); omega), (fun a i q0 => ((hf_M82 a i (fun z8 => q0 ((fun z9 => Or.elim z9 (fun h9 => Or.inl h9) (fun h9 => Or.inr (h9))) z8))).trans rfl)), h82, hq82⟩ (by have f0 := t_lit 1; have f1 := t_add y6_82 (nI 1); omega)
                · refine wp_gd (by omega) ?_
                  refine wp_bnd (fun M_5 eM_5 => ?_)
                  refine wp_gd (by omega) ?_
                  refine wp_bnd (fun M_6 eM_6 => ?_)
                  exact ih82 M_6 (y4_82 + (nI 1)) (y6_82 + (nI 1)) ⟨(by have f0 := t_lit 1; have f1 := t_add y6_82 (nI 1); omega), (fun a i q0 => ((congrFun (congrFun eM_6 a) i).trans ((mset_ne (fun h9 => q0 (Or.inl (h9).1))).trans ((congrFun (congrFun eM_5 a) i).trans ((mset_ne (fun h9 => q0 (Or.inr ((h9).1)))).trans ((hf_M82 a i (fun z8 => q0 ((fun z9 => Or.elim z9 (fun h9 => Or.inl h9) (fun h9 => Or.inr (h9))) z8))).trans rfl)))))), (by rw [t_inc y4_82 1 (by omega), row_sn eM_6 (by omega), row_pu eM_5, cN_in (s := fun j => (M82 31 j).toInt) (j := ix y6_82) c97 (by omega) 40 (by omega)]; omega), (set_ext (P := fun _ x => 0 ≤ x.toInt ∧ x.toInt < 40) eM_6 (by omega) (by omega) (fun t ht => by rw [eM_5, mset_ne (by first | exact nz1 (by decide) | exact nz2 (by decide) | exact nz1 (nzA hc0 (by decide)) | exact nz1 (nzE (by decide)) | exact nz1 (nzB hc0 (by decide)) | exact nz1 (nzC hc0 (by decide)) | exact nz1 (nzD hc0 (by decide)) | exact nz1 (nzF (by decide)) | exact nz1 (nzG (by decide)) | omega)]; exact hq82 t ht) (by omega))⟩ (by have f0 := t_lit 1; have f1 := t_add y6_82 (nI 1); omega)
              · exact ih82 M82 y4_82 (y6_82 + (nI 1)) ⟨(by have f0 := t_lit 1; have f1 := t_add y6_82 (nI 1); omega), (fun a i q0 => ((hf_M82 a i (fun z8 => q0 ((fun z9 => Or.elim z9 (fun h9 => Or.inl h9) (fun h9 => Or.inr (h9))) z8))).trans rfl)), h82, hq82⟩ (by have f0 := t_lit 1; have f1 := t_add y6_82 (nI 1); omega)
        · exact ih25 M25 y2_25 (y3_25 + (nI 1)) ⟨(by have f0 := t_lit 1; have f1 := t_add y3_25 (nI 1); omega), (fun a i q0 => ((hf_M25 a i (fun z8 => q0 ((fun z9 => Or.elim z9 (fun h9 => Or.inl h9) (fun h9 => Or.inr (h9))) z8))).trans rfl)), (by rw [t_inc y3_25 1 (by omega)]; omega)⟩ (by have f0 := t_lit 1; have f1 := t_add y3_25 (nI 1); omega)
  refine wp_ite (fun c7 => ?_) (fun c7 => ?_)
  · exact j23
  · refine wp_gd (by omega) ?_
    refine wp_bnd (fun M_7 eM_7 => ?_)
    exact ih4 M_7 (y3_4 + (nI 1)) ⟨(by have f0 := t_lit 1; have f1 := t_add y3_4 (nI 1); omega), (fun a i q0 => ((congrFun (congrFun eM_7 a) i).trans ((mset_ne (fun h9 => q0 ((h9).1))).trans ((hf_M4 a i (fun h9 => q0 (h9))).trans rfl))))⟩ (by have f0 := t_lit 1; have f1 := t_add y3_4 (nI 1); omega)
theorem o_X10_islands (M : Mem) (v1 : Int32) (v2 : Int32) : Wp (f_X10_islands M v1 v2) (fun q => (∀ a i, ¬ (a = 25 ∨ a = 31) → q.2 a i = M a i)) := by
  refine wp_bind2 (o_X10_in M v1 (nI 1) (nI 30)) (fun r_1 he4 hq4 => ?_)
  obtain ⟨hz_r_1, hr_4⟩ := hq4
  replace hr_4 : ¬ r_1.toInt = 0 → (nI 1).toInt ≤ v1.toInt ∧ v1.toInt ≤ (nI 30).toInt := hr_4
  have := t_lit 1
  have := t_lit 30
  refine wp_ite (fun c7 => ?_) (fun c7 => ?_)
  · exact wp_some (fun _ _ _ => rfl)
  · have j26 : (v2.toInt = 100 ∨ (0 ≤ v2.toInt ∧ v2.toInt < 40)) → Wp (f_X10_islands_L26 M v1 v2) (fun q => (∀ a i, ¬ (a = 25 ∨ a = 31) → q.2 a i = M a i)) := by
      intro h26
      unfold f_X10_islands_L26
      refine wp_cb2 (o_X10_laysIslands M v1) (fun r_2 M_3 he28 hq28 => ?_)
      have hg_M_3 := hq28
      replace hg_M_3 : ∀ a i, ¬ (a = 25 ∨ a = 31) → M_3 a i = M a i := hg_M_3
      refine wp_ite (fun c35 => ?_) (fun c35 => ?_)
      · exact wp_some (fun a i q0 => ((hg_M_3 a i (fun z8 => q0 ((fun z9 => Or.elim z9 (fun h9 => Or.inl h9) (fun h9 => Or.inr (h9))) z8))).trans rfl))
      · refine wp_lp2 (fun y4_46 y5_46 => (0 ≤ y5_46.toInt)) (fun y4_46 y5_46 => (40 - y5_46.toInt).toNat) (fun ag46 y4_46 y5_46 hI46 ih46 => ?_) FU (nI 0) (nI 0) (by have f0 := t_lit 0; omega) (fu_lt (by have f0 := t_lit 0; omega))
        have hi46 := hI46
        refine wp_ite (fun c50 => ?_) (fun c50 => ?_)
        · exact wp_some (fun a i q0 => ((hg_M_3 a i (fun z8 => q0 ((fun z9 => Or.elim z9 (fun h9 => Or.inl h9) (fun h9 => Or.inr (h9))) z8))).trans rfl))
        · refine wp_gd (by omega) ?_
          refine wp_ite (fun c60 => ?_) (fun c60 => ?_)
          · exact ih46 y4_46 (y5_46 + (nI 1)) (by have f0 := t_lit 1; have f1 := t_add y5_46 (nI 1); omega) (by have f0 := t_lit 1; have f1 := t_add y5_46 (nI 1); omega)
          · refine wp_gd (by omega) ?_
            refine wp_gd (by omega) ?_
            refine wp_ite (fun c76 => ?_) (fun c76 => ?_)
            · exact ih46 (y4_46 + (nI 1)) (y5_46 + (nI 1)) (by have f0 := t_lit 1; have f1 := t_add y5_46 (nI 1); omega) (by have f0 := t_lit 1; have f1 := t_add y5_46 (nI 1); omega)
            · exact ih46 y4_46 (y5_46 + (nI 1)) (by have f0 := t_lit 1; have f1 := t_add y5_46 (nI 1); omega) (by have f0 := t_lit 1; have f1 := t_add y5_46 (nI 1); omega)
    refine wp_ite (fun c13 => ?_) (fun c13 => ?_)
    · exact j26 (by omega)
    · refine wp_bind2 (o_X10_isStone M v2) (fun r_4 he18 hq18 => ?_)
      obtain ⟨hz_r_4, hr_18⟩ := hq18
      replace hr_18 : ¬ r_4.toInt = 0 → (0 ≤ v2.toInt ∧ v2.toInt < 40) ∧ (M 1 (ix v2)).toInt = 1 := hr_18
      refine wp_ite (fun c21 => ?_) (fun c21 => ?_)
      · exact wp_some (fun _ _ _ => rfl)
      · have hs := (hr_18 c21).1
        exact j26 (by omega)
