set_option maxHeartbeats 8000000 in
theorem oh_X10_laysRoom (M : Mem) (v1 : Int32) (hGd : GdF (FdR M 1)) (hs : 0 ≤ v1.toInt ∧ v1.toInt ≤ 30) : Wp (f_X10_laysRoom M v1) (fun q => (∀ a i, ¬ (a = 28) → q a i = M a i) ∧ (R01 q) ∧ (RmP (FdR M 1) v1.toInt q)) := by
  refine wp_lp2 (fun M2 y2_2 => (0 ≤ y2_2.toInt) ∧ (∀ a i, ¬ (a = 28) → M2 a i = M a i) ∧ (∀ j : Nat, (j : Int) < y2_2.toInt → 0 ≤ (M2 28 j).toInt ∧ (M2 28 j).toInt ≤ 1) ∧ (∀ j : Nat, (j : Int) < y2_2.toInt → (M2 28 j).toInt = 0)) (fun M2 y2_2 => (6724 - y2_2.toInt).toNat) (fun ag2 M2 y2_2 hI2 ih2 => ?_) FU M (nI 0) ⟨(by have f0 := t_lit 0; omega), (fun _ _ _ => rfl), (fun j hj => absurd hj (by have := t_lit 0; omega)), (fun j hj => absurd hj (by have := t_lit 0; omega))⟩ (fu_lt (by have f0 := t_lit 0; omega))
  obtain ⟨hi2, hf_M2, h2, hz2z⟩ := hI2
  have j22 : (6724 ≤ y2_2.toInt) → Wp (f_X10_laysRoom_L22 v1 M2) (fun q => (∀ a i, ¬ (a = 28) → q a i = M a i) ∧ (R01 q) ∧ (RmP (FdR M 1) v1.toInt q)) := by
    intro h22
    unfold f_X10_laysRoom_L22
    refine wp_lp2 (fun M24 y2_24 => (0 ≤ y2_24.toInt) ∧ (∀ a i, ¬ (a = 28) → M24 a i = M2 a i) ∧ (R01 M24) ∧ (InD M24 (edS (FdR M 1) v1.toInt (ix y2_24) 0 0)) ∧ (y2_24.toInt ≤ 40)) (fun M24 y2_24 => (40 - y2_24.toInt).toNat) (fun ag24 M24 y2_24 hI24 ih24 => ?_) FU M2 (nI 0) ⟨(by have f0 := t_lit 0; omega), (fun _ _ _ => rfl), (fun j hj => h2 j (by omega)), (by rw [show ix (nI 0) = 0 from (by decide)]; exact rs_0 (fun j hj => hz2z j (by omega))), (by decide)⟩ (fu_lt (by have f0 := t_lit 0; omega))
    obtain ⟨hi24, hf_M24, h24, hz24, y40⟩ := hI24
    have f24 : FdR M24 1 = (FdR M 1) := fdr_same (fun j hj => by rw [hf_M24 1 j (by first | decide | (rcases hc0 with h | h <;> rw [h] <;> simp; done) | (rcases hb0 with h | h | h <;> rw [h] <;> simp; done) | (simp; done) | omega), hf_M2 1 j (by first | decide | (rcases hc0 with h | h <;> rw [h] <;> simp; done) | (rcases hb0 with h | h | h <;> rw [h] <;> simp; done) | (simp; done) | omega)])
    refine wp_ite (fun c27 => ?_) (fun c27 => ?_)
    · exact wp_some ⟨(fun a i q0 => ((hf_M24 a i (fun h9 => q0 (h9))).trans ((hf_M2 a i (fun h9 => q0 (h9))).trans rfl))), h24, (rs_e hz24 (by have z := t_ixn y2_24 (by omega); omega))⟩
    · have u := i_up (x := y2_24) (by omega)
      have iy := t_ixn y2_24 (by omega)
      have m1 := t_mulL y2_24 82 (by omega) (by omega)
      have l40 := t_lit 40
      have l81 := t_lit 81
      have l65 := t_lit 6560
      have a4 := t_add (nI 40) y2_24
      have m4 := t_mulL ((nI 40) + y2_24) 82 (by omega) (by omega)
      refine wp_bind2 (ow_X10_isDry M24 y2_24 (by omega) (by rw [f24]; exact hGd)) (fun r_1 he32 hq32 => ?_)
      obtain ⟨hz_r_1, hr_32, hd_32⟩ := hq32
      replace hr_32 : ¬ r_1.toInt = 0 → (M24 1 (ix y2_24)).toInt = 1 := hr_32
      replace hd_32 : ¬ r_1.toInt = 0 ↔ dryG (FdR M24 1) (ix y2_24) := hd_32
      rw [f24] at hd_32
      refine wp_ite (fun c35 => ?_) (fun c35 => ?_)
      · exact ih24 M24 (y2_24 + (nI 1)) ⟨(by have f0 := t_lit 1; have f1 := t_add y2_24 (nI 1); omega), (fun a i q0 => ((hf_M24 a i (fun h9 => q0 (h9))).trans rfl)), h24, (by rw [u.1]; exact rs_n hz24 (fun z => hd_32.mpr z c35)), (by rw [u.2]; omega)⟩ (by have f0 := t_lit 1; have f1 := t_add y2_24 (nI 1); omega)
      · have z2 : ix ((((nI 82) * y2_24) + (nI 40)) + y2_24) = 82 * ix y2_24 + (ix y2_24 + 40) := by have q1 := t_add ((nI 82) * y2_24) (nI 40); have q2 := t_add (((nI 82) * y2_24) + (nI 40)) y2_24; have q3 := t_ixn ((((nI 82) * y2_24) + (nI 40)) + y2_24) (by omega); omega
        have z8 : ix ((nI 6560) + y2_24) = 82 * 80 + ix y2_24 := by have q1 := t_add (nI 6560) y2_24; have q3 := t_ixn ((nI 6560) + y2_24) (by omega); omega
        have z7 : ix (((nI 82) * ((nI 40) + y2_24)) + (nI 81)) = 82 * (ix y2_24 + 40) + 81 := by have q1 := t_add ((nI 82) * ((nI 40) + y2_24)) (nI 81); have q3 := t_ixn (((nI 82) * ((nI 40) + y2_24)) + (nI 81)) (by omega); omega
        refine wp_gd (by have f0 := t_lit 82; have f1 := (t_mulL y2_24 82 (by omega) (by omega)); have f2 := t_lit 40; have f3 := t_add ((nI 82) * y2_24) (nI 40); have f4 := t_add (((nI 82) * y2_24) + (nI 40)) y2_24; omega) ?_
        refine wp_bnd (fun M_2 eM_2 => ?_)
        have hz2 := rs_1 hz24 (by omega) (hd_32.mp c35) z2 eM_2
        have f2 : FdR M_2 1 = (FdR M 1) := (fdr_same (fun j hj => by rw [eM_2, mset_ne (by first | exact nz1 (by decide) | exact nz2 (by decide) | exact nz1 (nzA hc0 (by decide)) | exact nz1 (nzE (by decide)) | exact nz1 (nzB hc0 (by decide)) | exact nz1 (nzC hc0 (by decide)) | exact nz1 (nzD hc0 (by decide)) | exact nz1 (nzF (by decide)) | exact nz1 (nzG (by decide)) | omega)])).trans f24
        refine wp_bind2 (ow_X10_isByBank M_2 y2_24 (nI 1) v1 (by omega) (by rw [f2]; exact hGd)) (fun r_3 he60 hq60 => ?_)
        obtain ⟨hz_r_3, hnb_60⟩ := hq60
        replace hnb_60 : (¬ (nI 1).toInt = 0 → (¬ r_3.toInt = 0 ↔ nearG (FdR M_2 1) v1.toInt (ix y2_24))) ∧ ((nI 1).toInt = 0 → (¬ r_3.toInt = 0 ↔ farG (FdR M_2 1) v1.toInt (ix y2_24))) := hnb_60
        have := t_lit 1
        rw [f2] at hnb_60
        have j77 : ∀ (N77 : Mem), (∀ a i, ¬ (a = 28) → N77 a i = M_2 a i) → (R01 N77) → (InD N77 (edS (FdR M 1) v1.toInt (ix y2_24) 2 0)) → Wp (f_X10_laysRoom_L77 v1 ag24 y2_24 N77) (fun q => (∀ a i, ¬ (a = 28) → q a i = M a i) ∧ (R01 q) ∧ (RmP (FdR M 1) v1.toInt q)) := by
          intro N77 hf_N77 h77 hz77
          unfold f_X10_laysRoom_L77
          have f77 : FdR N77 1 = (FdR M 1) := (fdr_same (fun j hj => hf_N77 1 j (by first | decide | (rcases hc0 with h | h <;> rw [h] <;> simp; done) | (rcases hb0 with h | h | h <;> rw [h] <;> simp; done) | (simp; done) | omega))).trans f2
          refine wp_bind2 (ow_X10_isByBank N77 y2_24 (nI 0) v1 (by omega) (by rw [f77]; exact hGd)) (fun r_4 he81 hq81 => ?_)
          obtain ⟨hz_r_4, hnb_81⟩ := hq81
          replace hnb_81 : (¬ (nI 0).toInt = 0 → (¬ r_4.toInt = 0 ↔ nearG (FdR N77 1) v1.toInt (ix y2_24))) ∧ ((nI 0).toInt = 0 → (¬ r_4.toInt = 0 ↔ farG (FdR N77 1) v1.toInt (ix y2_24))) := hnb_81
          have := t_lit 0
          rw [f77] at hnb_81
          have j103 : ∀ (N103 : Mem), (∀ a i, ¬ (a = 28) → N103 a i = N77 a i) → (R01 N103) → (InD N103 (edS (FdR M 1) v1.toInt (ix y2_24) 3 0)) → Wp (f_X10_laysRoom_L103 v1 ag24 y2_24 N103) (fun q => (∀ a i, ¬ (a = 28) → q a i = M a i) ∧ (R01 q) ∧ (RmP (FdR M 1) v1.toInt q)) := by
            intro N103 hf_N103 h103 hz103
            unfold f_X10_laysRoom_L103
            have f103 : FdR N103 1 = (FdR M 1) := (fdr_same (fun j hj => hf_N103 1 j (by first | decide | (rcases hc0 with h | h <;> rw [h] <;> simp; done) | (rcases hb0 with h | h | h <;> rw [h] <;> simp; done) | (simp; done) | omega))).trans f77
            refine wp_lp2 (fun M105 y3_105 => (0 ≤ y3_105.toInt) ∧ (∀ a i, ¬ (a = 28) → M105 a i = N103 a i) ∧ (R01 M105) ∧ (InD M105 (edS (FdR M 1) v1.toInt (ix y2_24) 3 (ix y3_105))) ∧ (y3_105.toInt ≤ 40)) (fun M105 y3_105 => (40 - y3_105.toInt).toNat) (fun ag105 M105 y3_105 hI105 ih105 => ?_) FU N103 (nI 0) ⟨(by have f0 := t_lit 0; omega), (fun _ _ _ => rfl), h103, (by rw [show ix (nI 0) = 0 from (by decide)]; exact hz103), (by decide)⟩ (fu_lt (by have f0 := t_lit 0; omega))
            obtain ⟨hi105, hf_M105, h105, hz105, y41⟩ := hI105
            have f105 : FdR M105 1 = (FdR M 1) := (fdr_same (fun j hj => hf_M105 1 j (by first | decide | (rcases hc0 with h | h <;> rw [h] <;> simp; done) | (rcases hb0 with h | h | h <;> rw [h] <;> simp; done) | (simp; done) | omega))).trans f103
            refine wp_ite (fun c108 => ?_) (fun c108 => ?_)
            · exact ih24 M105 (y2_24 + (nI 1)) ⟨(by have f0 := t_lit 1; have f1 := t_add y2_24 (nI 1); omega), (fun a i q0 => ((hf_M105 a i (fun h9 => q0 (h9))).trans ((hf_N103 a i (fun h9 => q0 (h9))).trans ((hf_N77 a i (fun h9 => q0 (h9))).trans ((congrFun (congrFun eM_2 a) i).trans ((mset_ne (fun h9 => q0 ((h9).1))).trans ((hf_M24 a i (fun h9 => q0 (h9))).trans rfl))))))), h105, (by rw [u.1]; exact rs_5 hz105 (by have z := t_ixn y3_105 (by omega); omega)), (by rw [u.2]; omega)⟩ (by have f0 := t_lit 1; have f1 := t_add y2_24 (nI 1); omega)
            · have u5 := i_up (x := y3_105) (by omega)
              have i5 := t_ixn y3_105 (by omega)
              refine wp_ite (fun c113 => ?_) (fun c113 => ?_)
              · exact ih105 M105 (y3_105 + (nI 1)) ⟨(by have f0 := t_lit 1; have f1 := t_add y3_105 (nI 1); omega), (fun a i q0 => ((hf_M105 a i (fun h9 => q0 (h9))).trans rfl)), h105, (by rw [u5.1]; exact rs_4n hz105 (by omega) (by omega) (fun z => z.1 ((ix_eq (by omega) (by omega)).mpr (by omega)))), (by rw [u5.2]; omega)⟩ (by have f0 := t_lit 1; have f1 := t_add y3_105 (nI 1); omega)
              · refine wp_bind2 (ow_X10_canStep M105 y2_24 y3_105 v1 (by omega) (by omega) (by omega) (by rw [f105]; exact hGd)) (fun r_5 he120 hq120 => ?_)
                obtain ⟨hz_r_5, hcs_120⟩ := hq120
                replace hcs_120 : ¬ r_5.toInt = 0 ↔ adjG (FdR M105 1) v1.toInt (ix y2_24) (ix y3_105) := hcs_120
                rw [f105] at hcs_120
                refine wp_ite (fun c123 => ?_) (fun c123 => ?_)
                · exact ih105 M105 (y3_105 + (nI 1)) ⟨(by have f0 := t_lit 1; have f1 := t_add y3_105 (nI 1); omega), (fun a i q0 => ((hf_M105 a i (fun h9 => q0 (h9))).trans rfl)), h105, (by rw [u5.1]; exact rs_4n hz105 (by omega) (by omega) (fun z => hcs_120.mpr z.2 c123)), (by rw [u5.2]; omega)⟩ (by have f0 := t_lit 1; have f1 := t_add y3_105 (nI 1); omega)
                · refine wp_gd (by have f0 := t_lit 82; have f1 := t_lit 40; have f2 := t_add (nI 40) y2_24; have f3 := (t_mulL ((nI 40) + y2_24) 82 (by omega) (by omega)); have f4 := t_add ((nI 82) * ((nI 40) + y2_24)) y3_105; omega) ?_
                  refine wp_bnd (fun M_6 eM_6 => ?_)
                  have z6 : ix (((nI 82) * ((nI 40) + y2_24)) + y3_105) = 82 * (ix y2_24 + 40) + ix y3_105 := by have q1 := t_add ((nI 82) * ((nI 40) + y2_24)) y3_105; have q3 := t_ixn (((nI 82) * ((nI 40) + y2_24)) + y3_105) (by omega); omega
                  exact ih105 M_6 (y3_105 + (nI 1)) ⟨(by have f0 := t_lit 1; have f1 := t_add y3_105 (nI 1); omega), (fun a i q0 => ((congrFun (congrFun eM_6 a) i).trans ((mset_ne (fun h9 => q0 ((h9).1))).trans ((hf_M105 a i (fun h9 => q0 (h9))).trans rfl)))), (r01_set eM_6 h105), (by rw [u5.1]; exact rs_4y hz105 (by omega) (by omega) (by omega) (hcs_120.mp c123) z6 eM_6), (by rw [u5.2]; omega)⟩ (by have f0 := t_lit 1; have f1 := t_add y3_105 (nI 1); omega)
          refine wp_ite (fun c84 => ?_) (fun c84 => ?_)
          · exact j103 N77 (fun _ _ _ => rfl) h77 (rs_3n hz77 (fun z => (hnb_81.2 nI0).mpr z c84))
          · refine wp_gd (by have f0 := t_lit 82; have f1 := t_lit 40; have f2 := t_add (nI 40) y2_24; have f3 := (t_mulL ((nI 40) + y2_24) 82 (by omega) (by omega)); have f4 := t_lit 81; have f5 := t_add ((nI 82) * ((nI 40) + y2_24)) (nI 81); omega) ?_
            refine wp_bnd (fun M_7 eM_7 => ?_)
            exact j103 M_7 (fun a i q0 => ((congrFun (congrFun eM_7 a) i).trans ((mset_ne (fun h9 => q0 ((h9).1))).trans rfl))) (r01_set eM_7 h77) (rs_3y hz77 (by omega) ((hnb_81.2 nI0).mp c84) z7 eM_7)
        refine wp_ite (fun c63 => ?_) (fun c63 => ?_)
        · exact j77 M_2 (fun _ _ _ => rfl) (r01_set eM_2 h24) (rs_2n hz2 (fun z => (hnb_60.1 ne1).mpr z c63))
        · refine wp_gd (by have f0 := t_lit 6560; have f1 := t_add (nI 6560) y2_24; omega) ?_
          refine wp_bnd (fun M_8 eM_8 => ?_)
          exact j77 M_8 (fun a i q0 => ((congrFun (congrFun eM_8 a) i).trans ((mset_ne (fun h9 => q0 ((h9).1))).trans rfl))) (r01_set eM_8 (r01_set eM_2 h24)) (rs_2y hz2 (by omega) ((hnb_60.1 ne1).mp c63) z8 eM_8)
  refine wp_ite (fun c6 => ?_) (fun c6 => ?_)
  · exact j22 (by omega)
  · refine wp_gd (by omega) ?_
    refine wp_bnd (fun M_9 eM_9 => ?_)
    exact ih2 M_9 (y2_2 + (nI 1)) ⟨(by have f0 := t_lit 1; have f1 := t_add y2_2 (nI 1); omega), (fun a i q0 => ((congrFun (congrFun eM_9 a) i).trans ((mset_ne (fun h9 => q0 ((h9).1))).trans ((hf_M2 a i (fun h9 => q0 (h9))).trans rfl)))), (set_ext (P := fun _ x => 0 ≤ x.toInt ∧ x.toInt ≤ 1) eM_9 (by omega) (by omega) h2 nar_0), (set_ext (P := fun _ x => x.toInt = 0) eM_9 (by omega) (by omega) hz2z (by decide))⟩ (by have f0 := t_lit 1; have f1 := t_add y2_2 (nI 1); omega)
