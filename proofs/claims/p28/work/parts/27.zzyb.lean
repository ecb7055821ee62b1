set_option maxHeartbeats 4000000 in
theorem ot_X10_listsStones (M : Mem) (v1 : Int32) (v2 : Int32) (hv : v1.toInt ≤ 7) (hGd : GdF (FdR M 1)) : Wp (f_X10_listsStones M v1 v2) (fun q => (q.1 = 0 ∨ q.1 = 1) ∧ (∀ a i, ¬ (a = 36) → q.2 a i = M a i) ∧ (¬ q.1.toInt = 0 → ∀ j : Nat, (j : Int) < v1.toInt → 0 ≤ (q.2 36 j).toInt ∧ (q.2 36 j).toInt < 40) ∧ (0 ≤ v1.toInt → (¬ q.1.toInt = 0 → ∃ i, i ≤ 40 ∧ LsI (fun i => (i < 40 ∧ tld (FdR M 1) i) ∧ (¬ v2.toInt = 0 → ((FdR M 1) 5 i).toInt = 0)) v1.toInt.toNat i (RwN (q.2 36))) ∧ (q.1.toInt = 0 → ∃ m w, m < v1.toInt.toNat ∧ LsI (fun i => (i < 40 ∧ tld (FdR M 1) i) ∧ (¬ v2.toInt = 0 → ((FdR M 1) 5 i).toInt = 0)) m 40 w))) := by
  refine wp_lp3 (fun M5 y3_5 y4_5 => (0 ≤ y4_5.toInt) ∧ (∀ a i, ¬ (a = 36) → M5 a i = M a i) ∧ (0 ≤ y3_5.toInt) ∧ (∀ j : Nat, (j : Int) < y3_5.toInt → 0 ≤ (M5 36 j).toInt ∧ (M5 36 j).toInt < 40) ∧ (LsI (fun i => (i < 40 ∧ tld (FdR M 1) i) ∧ (¬ v2.toInt = 0 → ((FdR M 1) 5 i).toInt = 0)) (ix y3_5) (ix y4_5) (RwN (M5 36))) ∧ (0 ≤ v1.toInt → y3_5.toInt ≤ v1.toInt) ∧ (y4_5.toInt ≤ 40)) (fun M5 y3_5 y4_5 => (40 - y4_5.toInt).toNat) (fun ag5 M5 y3_5 y4_5 hI5 ih5 => ?_) FU M (nI 0) (nI 0) ⟨(by have f0 := t_lit 0; omega), (fun _ _ _ => rfl), (by decide), (fun j hj => absurd hj (by have := t_lit 0; omega)), (by rw [show ix (nI 0) = 0 from (by decide)]; exact ls_0), (fun z => by rw [nI0]; exact z), (by decide)⟩ (fu_lt (by have f0 := t_lit 0; omega))
  obtain ⟨hi5, hf_M5, h3, hw, hls, n3, y40⟩ := hI5
  have f5 : FdR M5 1 = (FdR M 1) := fdr_same (fun j hj => hf_M5 1 j (by first | decide | (rcases hc0 with h | h <;> rw [h] <;> simp; done) | (rcases hb0 with h | h | h <;> rw [h] <;> simp; done) | (simp; done) | omega))
  have j60 : (40 ≤ y4_5.toInt ∨ v1.toInt ≤ y3_5.toInt) → Wp (f_X10_listsStones_L60 v1 M5 y3_5) (fun q => (q.1 = 0 ∨ q.1 = 1) ∧ (∀ a i, ¬ (a = 36) → q.2 a i = M a i) ∧ (¬ q.1.toInt = 0 → ∀ j : Nat, (j : Int) < v1.toInt → 0 ≤ (q.2 36 j).toInt ∧ (q.2 36 j).toInt < 40) ∧ (0 ≤ v1.toInt → (¬ q.1.toInt = 0 → ∃ i, i ≤ 40 ∧ LsI (fun i => (i < 40 ∧ tld (FdR M 1) i) ∧ (¬ v2.toInt = 0 → ((FdR M 1) 5 i).toInt = 0)) v1.toInt.toNat i (RwN (q.2 36))) ∧ (q.1.toInt = 0 → ∃ m w, m < v1.toInt.toNat ∧ LsI (fun i => (i < 40 ∧ tld (FdR M 1) i) ∧ (¬ v2.toInt = 0 → ((FdR M 1) 5 i).toInt = 0)) m 40 w))) := by
    intro h60
    unfold f_X10_listsStones_L60
    refine wp_ite (fun c62 => ?_) (fun c62 => ?_)
    · exact wp_some ⟨b01_1, (fun a i q0 => ((hf_M5 a i (fun h9 => q0 (h9))).trans rfl)), (fun _ j hj => hw j (by omega)), (fun z0 => ⟨fun _ => ⟨ix y4_5, by have z := t_ixn y4_5 (by omega); omega, by rw [show v1.toInt.toNat = ix y3_5 from (by have z := t_ixn y3_5 (by omega); omega)]; exact hls⟩, fun z => absurd z ne1⟩)⟩
    · exact wp_some ⟨b01_0, (fun a i q0 => ((hf_M5 a i (fun h9 => q0 (h9))).trans rfl)), (fun h => absurd nI0 h), (fun z0 => ⟨fun z => absurd nI0 z, fun _ => ⟨ix y3_5, RwN (M5 36), by have z := t_ixn y3_5 (by omega); have z2 := n3 z0; omega, by have z2 := n3 z0; rw [show ix y4_5 = 40 from (ix_eq (by omega) (by decide)).mpr (by omega)] at hls; exact hls⟩⟩)⟩
  refine wp_ite (fun c9 => ?_) (fun c9 => ?_)
  · exact j60 (Or.inl c9)
  · refine wp_ite (fun c14 => ?_) (fun c14 => ?_)
    · exact j60 (Or.inr c14)
    · have u4 := i_up (x := y4_5) (by omega)
      have i4 := t_ixn y4_5 (by omega)
      have u3 := i_up (x := y3_5) (by omega)
      refine wp_bind2 (o8_X10_isStone M5 y4_5 (by rw [f5]; exact hGd.1.1)) (fun r_1 he20 hq20 => ?_)
      obtain ⟨hz_r_1, hr_20, htd_20⟩ := hq20
      replace hr_20 : ¬ r_1.toInt = 0 → (0 ≤ y4_5.toInt ∧ y4_5.toInt < 40) ∧ (M5 1 (ix y4_5)).toInt = 1 := hr_20
      replace htd_20 : TdP r_1.toInt (FdR M5 1) y4_5 := htd_20
      rw [f5] at htd_20
      refine wp_ite (fun c23 => ?_) (fun c23 => ?_)
      · exact ih5 M5 y3_5 (y4_5 + (nI 1)) ⟨(by have f0 := t_lit 1; have f1 := t_add y4_5 (nI 1); omega), (fun a i q0 => ((hf_M5 a i (fun h9 => q0 (h9))).trans rfl)), (by omega), hw, (by rw [u4.1]; exact ls_n hls (fun z => td_n htd_20 c23 ⟨⟨by omega, by omega⟩, z.1.2⟩)), (by omega), (by rw [u4.2]; omega)⟩ (by have f0 := t_lit 1; have f1 := t_add y4_5 (nI 1); omega)
      · have j42 : ((fun i => (i < 40 ∧ tld (FdR M 1) i) ∧ (¬ v2.toInt = 0 → ((FdR M 1) 5 i).toInt = 0)) (ix y4_5)) → Wp (f_X10_listsStones_L42 ag5 M5 y3_5 y4_5) (fun q => (q.1 = 0 ∨ q.1 = 1) ∧ (∀ a i, ¬ (a = 36) → q.2 a i = M a i) ∧ (¬ q.1.toInt = 0 → ∀ j : Nat, (j : Int) < v1.toInt → 0 ≤ (q.2 36 j).toInt ∧ (q.2 36 j).toInt < 40) ∧ (0 ≤ v1.toInt → (¬ q.1.toInt = 0 → ∃ i, i ≤ 40 ∧ LsI (fun i => (i < 40 ∧ tld (FdR M 1) i) ∧ (¬ v2.toInt = 0 → ((FdR M 1) 5 i).toInt = 0)) v1.toInt.toNat i (RwN (q.2 36))) ∧ (q.1.toInt = 0 → ∃ m w, m < v1.toInt.toNat ∧ LsI (fun i => (i < 40 ∧ tld (FdR M 1) i) ∧ (¬ v2.toInt = 0 → ((FdR M 1) 5 i).toInt = 0)) m 40 w))) := by
          intro h42
          unfold f_X10_listsStones_L42
          refine wp_gd (by omega) ?_
          refine wp_bnd (fun M_2 eM_2 => ?_)
          exact ih5 M_2 (y3_5 + (nI 1)) (y4_5 + (nI 1)) ⟨(by have f0 := t_lit 1; have f1 := t_add y4_5 (nI 1); omega), (fun a i q0 => ((congrFun (congrFun eM_2 a) i).trans ((mset_ne (fun h9 => q0 ((h9).1))).trans ((hf_M5 a i (fun h9 => q0 (h9))).trans rfl)))), (by have f0 := t_lit 1; have f1 := t_add y3_5 (nI 1); omega), (set_ext (P := fun _ x => 0 ≤ x.toInt ∧ x.toInt < 40) eM_2 (by omega) (by omega) hw (by omega)), (by rw [u4.1, u3.1]; exact ls_y hls h42 (fun k hk => by show ix (M_2 36 k) = ix (M5 36 k); rw [eM_2, mset_ne (by first | exact nz1 (by decide) | exact nz2 (by decide) | exact nz1 (nzA hc0 (by decide)) | exact nz1 (nzE (by decide)) | exact nz1 (nzB hc0 (by decide)) | exact nz1 (nzC hc0 (by decide)) | exact nz1 (nzD hc0 (by decide)) | exact nz1 (nzF (by decide)) | exact nz1 (nzG (by decide)) | omega)]) (by show ix (M_2 36 (ix y3_5)) = ix y4_5; rw [eM_2, mset_eq])), (by rw [u3.2]; omega), (by rw [u4.2]; omega)⟩ (by have f0 := t_lit 1; have f1 := t_add y4_5 (nI 1); omega)
        refine wp_ite (fun c27 => ?_) (fun c27 => ?_)
        · exact j42 ⟨⟨by omega, (td_y htd_20 c23).2⟩, fun z => absurd c27 z⟩
        · refine wp_bind2 (ow_X10_isDry M5 y4_5 ⟨by omega, by omega⟩ (by rw [f5]; exact hGd)) (fun r_3 he33 hq33 => ?_)
          obtain ⟨hz_r_3, hr_33, hd_33⟩ := hq33
          replace hr_33 : ¬ r_3.toInt = 0 → (M5 1 (ix y4_5)).toInt = 1 := hr_33
          replace hd_33 : ¬ r_3.toInt = 0 ↔ dryG (FdR M5 1) (ix y4_5) := hd_33
          rw [f5] at hd_33
          refine wp_ite (fun c36 => ?_) (fun c36 => ?_)
          · exact ih5 M5 y3_5 (y4_5 + (nI 1)) ⟨(by have f0 := t_lit 1; have f1 := t_add y4_5 (nI 1); omega), (fun a i q0 => ((hf_M5 a i (fun h9 => q0 (h9))).trans rfl)), (by omega), hw, (by rw [u4.1]; exact ls_n hls (fun z => hd_33.mpr ⟨z.1, z.2 c27⟩ c36)), (by omega), (by rw [u4.2]; omega)⟩ (by have f0 := t_lit 1; have f1 := t_add y4_5 (nI 1); omega)
          · exact j42 ⟨(hd_33.mp c36).1, fun _ => (hd_33.mp c36).2⟩
