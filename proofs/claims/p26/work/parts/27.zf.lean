theorem o7_X3_combine (M : Mem) (v0 : Int32) (v1 : Int32) (v2 : Int32) : Wp (f_X3_combine v0 v1 v2) (fun q => (CbP v0.toInt v1 v2 q)) := by
  refine wp_ite (fun c1 => ?_) (fun c1 => ?_)
  · refine wp_ite (fun c93 => ?_) (fun c93 => ?_)
    · exact wp_some (fun _ z => absurd c93 (z (by omega)))
    · refine wp_dz (by omega) ?_
      exact wp_some (cb_of 6 (by rw [c1]; decide) (rk_6 _ _).symm)
  · refine wp_ite (fun c1 => ?_) (fun c1 => ?_)
    · exact wp_some (cb_of 4 (by rw [c1]; decide) (rk_4 _ _).symm)
    · refine wp_ite (fun c2 => ?_) (fun c2 => ?_)
      · exact wp_some (cb_of 2 (by rw [c2]; decide) (rk_2 _ _).symm)
      · refine wp_ite (fun c3 => ?_) (fun c3 => ?_)
        · exact wp_some (cb_of 3 (by rw [c3]; decide) (rk_3 _ _).symm)
        · refine wp_ite (fun c4 => ?_) (fun c4 => ?_)
          · refine wp_ite (fun c81 => ?_) (fun c81 => ?_)
            · exact wp_some (fun _ z => absurd c81 (z (by omega)))
            · refine wp_dz (by omega) ?_
              exact wp_some (cb_of 5 (by rw [c4]; decide) (rk_5 _ _).symm)
          · refine wp_ite (fun c5 => ?_) (fun c5 => ?_)
            · refine wp_ite (fun c106 => ?_) (fun c106 => ?_)
              · exact wp_some (cb_of 7 (by rw [c5]; decide) (by rw [rk_7]; exact (if_pos c106).symm))
              · exact wp_some (cb_of 7 (by rw [c5]; decide) (by rw [rk_7]; exact (if_neg c106).symm))
            · refine wp_ite (fun c6 => ?_) (fun c6 => ?_)
              · refine wp_ite (fun c117 => ?_) (fun c117 => ?_)
                · exact wp_some (cb_of 8 (by rw [c6]; decide) (by rw [rk_8]; exact (if_pos c117).symm))
                · exact wp_some (cb_of 8 (by rw [c6]; decide) (by rw [rk_8]; exact (if_neg c117).symm))
              · refine wp_ite (fun c128 => ?_) (fun c128 => ?_)
                · exact wp_some (fun z1 _ => by have z2 : v0.toInt = 61 := (by rcases z1 with z | z | z | z | z | z | z | z <;> omega); rw [show unc v0.toInt = 9 from (by rw [z2]; decide)]; rw [rk_9]; exact (if_pos c128).symm)
                · exact wp_some (fun z1 _ => by have z2 : v0.toInt = 61 := (by rcases z1 with z | z | z | z | z | z | z | z <;> omega); rw [show unc v0.toInt = 9 from (by rw [z2]; decide)]; rw [rk_9]; exact (if_neg c128).symm)
set_option maxHeartbeats 4000000 in
theorem o7_X3_reckon {c : Nat} (hc : isL c) (M : Mem) (v1 : Int32) (v2 : Int32) (F : Nat → Int × Int) (V : Nat → Int32) (hv : 0 ≤ v1.toInt ∧ v1.toInt ≤ v2.toInt ∧ v2.toInt ≤ (M c 7).toInt ∧ (M c 7).toInt ≤ 240) (hF : ∀ j : Nat, j < ix v2 → F j = (unc (M (c + 1) j).toInt, (M (c + 2) j).toInt)) (hS : SegG F (ix v1) (ix v2)) (hV : ∀ k : Nat, ix v1 ≤ k → k < ix v2 → (F k).1 = 1 → M 22 (F k).2.toNat = V (F k).2.toNat) : Wp (f_X3_reckon c M v1 v2) (fun q => (∀ a i, ¬ (a = (c + 3)) → q.2 a i = M a i) ∧ (q.1 = ev F V (ix v2) (ix v1) [])) := by
  have hc0 : c = 44 ∨ c = 52 := hc
  have fv1 := t_ixn v1 (by omega)
  have fv2 := t_ixn v2 (by omega)
  have hv240 : v2.toInt ≤ 240 := by omega
  refine wp_lp4 (fun M9 y4_9 y5_9 y6_9 => (0 ≤ y6_9.toInt) ∧ (∀ a i, ¬ (a = (c + 3)) → M9 a i = M a i) ∧ (-1 ≤ y4_9.toInt ∧ y4_9.toInt ≤ 31) ∧ (v1.toInt ≤ y5_9.toInt ∧ y5_9.toInt ≤ v2.toInt ∧ 0 ≤ y6_9.toInt ∧ y6_9.toInt ≤ y5_9.toInt) ∧ (RkN F V (ix v1) (ix v2) (M9 (c + 3)) (Y4 y4_9) (ix y5_9))) (fun M9 y4_9 y5_9 y6_9 => (240 - y6_9.toInt).toNat) (fun ag9 M9 y4_9 y5_9 y6_9 hI9 ih9 => ?_) FU M (-1) v1 (nI 0) ⟨(by have f0 := t_lit 0; omega), (fun _ _ _ => rfl), (by decide), (by have := t_lit 0; omega), (by rw [show Y4 (-1) = 0 from (by decide)]; exact rn_0 hS)⟩ (fu_lt (by have f0 := t_lit 0; omega))
  obtain ⟨hi9, hf_M9, ht, hb9, hR9⟩ := hI9
  have fy := t_ixn y5_9 (by omega)
  have e97 : (M9 c 7).toInt = (M c 7).toInt := congrArg Int32.toInt (hf_M9 c 7 (by first | decide | (rcases hc0 with h | h <;> rw [h] <;> simp; done) | (rcases hb0 with h | h | h <;> rw [h] <;> simp; done) | (simp; done) | omega))
  have hy := y4_b (rn_b hR9).1
  have j298 : (v2.toInt ≤ y5_9.toInt) → Wp (f_X3_reckon_L298 c M9 y4_9) (fun q => (∀ a i, ¬ (a = (c + 3)) → q.2 a i = M a i) ∧ (q.1 = ev F V (ix v2) (ix v1) [])) := by
    intro h298
    unfold f_X3_reckon_L298
    refine wp_ite (fun c300 => ?_) (fun c300 => ?_)
    · refine wp_gd (by omega) ?_
      exact wp_some ⟨(fun a i q0 => ((hf_M9 a i (fun h9 => q0 (h9))).trans rfl)), (by have z := rn_end hS hR9 (by omega); show M9 (c + 3) (ix y4_9) = ev F V (ix v2) (ix v1) []; rw [z.2, show ix y4_9 = 0 from (by have z1 := (y4_dn (y := y4_9) (by omega)).2; omega)])⟩
    · exact wp_some ⟨(fun a i q0 => ((hf_M9 a i (fun h9 => q0 (h9))).trans rfl)), (False.elim (by have z := (rn_end hS hR9 (by omega)).1; have z1 := y4_p (y := y4_9) (n := 1) (by omega) (by omega); omega))⟩
  refine wp_ite (fun c14 => ?_) (fun c14 => ?_)
  · exact j298 (by omega)
  · refine wp_ite (fun c19 => ?_) (fun c19 => ?_)
    · exact j298 (by omega)
    · refine wp_ite (fun c25 => ?_) (fun c25 => ?_)
      · exact j298 (by omega)
      · refine wp_ite (fun c34 => ?_) (fun c34 => ?_)
        · exact j298 (by omega)
        · refine wp_ite (fun c42 => ?_) (fun c42 => ?_)
          · exact j298 (by omega)
          · have kb : ix y5_9 < ix v2 := by omega
            have ka : ix v1 ≤ ix y5_9 := by omega
            have i51 := (i_up (x := y5_9) (by omega)).1
            have hFk := hF (ix y5_9) kb
            clear fv1 fv2 fy e97
            refine wp_gd (by have f0 := congrArg Int32.toInt (hf_M9 c 7 (by first | decide | (rcases hc0 with h | h <;> rw [h] <;> simp; done) | (rcases hb0 with h | h | h <;> rw [h] <;> simp; done) | (simp; done) | omega)); omega) ?_
            refine wp_bnd (fun x_1 ex_1 => ?_)
            have hx1 : unc x_1.toInt = (F (ix y5_9)).1 := by rw [ex_1, hf_M9 (c + 1) _ (by first | decide | (rcases hc0 with h | h <;> rw [h] <;> simp; done) | (rcases hb0 with h | h | h <;> rw [h] <;> simp; done) | (simp; done) | omega), hFk]
            refine wp_gd (by have f0 := congrArg Int32.toInt (hf_M9 c 7 (by first | decide | (rcases hc0 with h | h <;> rw [h] <;> simp; done) | (rcases hb0 with h | h | h <;> rw [h] <;> simp; done) | (simp; done) | omega)); omega) ?_
            refine wp_bnd (fun x_2 ex_2 => ?_)
            have hx2 : x_2.toInt = (F (ix y5_9)).2 := by rw [ex_2, hf_M9 (c + 2) _ (by first | decide | (rcases hc0 with h | h <;> rw [h] <;> simp; done) | (rcases hb0 with h | h | h <;> rw [h] <;> simp; done) | (simp; done) | omega), hFk]
            have t2 : (F (ix y5_9)).2.toNat = ix x_2 := congrArg Int.toNat hx2.symm
            clear hFk
            have j80 : (x_1.toInt = 48 ∨ x_1.toInt = 97) → Wp (f_X3_reckon_L80 c ag9 M9 y4_9 y5_9 y6_9 x_1 x_2) (fun q => (∀ a i, ¬ (a = (c + 3)) → q.2 a i = M a i) ∧ (q.1 = ev F V (ix v2) (ix v1) [])) := by
              intro hk
              unfold f_X3_reckon_L80
              refine wp_ite (fun c86 => ?_) (fun c86 => ?_)
              · exact wp_some ⟨(fun a i q0 => ((hf_M9 a i (fun h9 => q0 (h9))).trans rfl)), (False.elim (y4_o c86 ht hy))⟩
              · have j110 : (x_1.toInt = 48 ∨ (0 ≤ x_2.toInt ∧ x_2.toInt < 8)) → Wp (f_X3_reckon_L110 c ag9 M9 y4_9 y5_9 y6_9 x_1 x_2) (fun q => (∀ a i, ¬ (a = (c + 3)) → q.2 a i = M a i) ∧ (q.1 = ev F V (ix v2) (ix v1) [])) := by
                  intro hl
                  unfold f_X3_reckon_L110
                  have j135 : ∀ (t0_135 : Int32), (RkN F V (ix v1) (ix v2) (upd (M9 (c + 3)) (Y4 y4_9) t0_135) (Y4 y4_9 + 1) (ix y5_9 + 1)) → Wp (f_X3_reckon_L135 c ag9 M9 y4_9 y5_9 y6_9 t0_135) (fun q => (∀ a i, ¬ (a = (c + 3)) → q.2 a i = M a i) ∧ (q.1 = ev F V (ix v2) (ix v1) [])) := by
                    intro t0_135 h135
                    unfold f_X3_reckon_L135
                    refine wp_gd (by have f0 := t_lit 1; have f1 := t_add y4_9 (nI 1); omega) ?_
                    refine wp_bnd (fun M_3 eM_3 => ?_)
                    have h3r : RkN F V (ix v1) (ix v2) (M_3 (c + 3)) (Y4 (y4_9 + nI 1)) (ix (y5_9 + nI 1)) := by
                      have up := y4_up (y := y4_9) (by omega)
                      rw [eM_3, mset_s, up.1, up.2, i51]
                      exact h135
                    exact ih9 M_3 (y4_9 + (nI 1)) (y5_9 + (nI 1)) (y6_9 + (nI 1)) ⟨(hi_s hi9 c14), (fun a i q0 => ((congrFun (congrFun eM_3 a) i).trans ((mset_ne (fun h9 => q0 ((h9).1))).trans ((hf_M9 a i (fun h9 => q0 (h9))).trans rfl)))), (y4_h2 ht hy), (hb_s hb9 c25 hv240), h3r⟩ (mu_s hi9 c14)
                  refine wp_ite (fun c123 => ?_) (fun c123 => ?_)
                  · exact j135 x_2 (rn_num hS hR9 kb (by rw [← hx1]; exact un_48 c123) hx2)
                  · refine wp_gd (by have f0 := congrArg Int32.toInt (hf_M9 (c + 2) (ix y5_9) (by first | decide | (rcases hc0 with h | h <;> rw [h] <;> simp; done) | (rcases hb0 with h | h | h <;> rw [h] <;> simp; done) | (simp; done) | omega)); have f1 := congrArg Int32.toInt ex_2; omega) ?_
                    exact j135 (M9 22 (ix x_2)) (by have o1 : (F (ix y5_9)).1 = 1 := (by rw [← hx1]; exact un_97 (hk.resolve_left c123)); exact rn_let hS hR9 kb o1 (by rw [← hV _ ka kb o1, hf_M9 22 _ (by first | decide | (rcases hc0 with h | h <;> rw [h] <;> simp; done) | (rcases hb0 with h | h | h <;> rw [h] <;> simp; done) | (simp; done) | omega), t2]))
                refine wp_ite (fun c93 => ?_) (fun c93 => ?_)
                · refine wp_ite (fun c98 => ?_) (fun c98 => ?_)
                  · exact wp_some ⟨(fun a i q0 => ((hf_M9 a i (fun h9 => q0 (h9))).trans rfl)), (False.elim (by have z := sk_l (hS.1 _ ka kb) (by rw [← hx1]; exact un_97 c93); omega))⟩
                  · refine wp_ite (fun c105 => ?_) (fun c105 => ?_)
                    · exact j110 (by omega)
                    · exact wp_some ⟨(fun a i q0 => ((hf_M9 a i (fun h9 => q0 (h9))).trans rfl)), (False.elim (by have z := sk_l (hS.1 _ ka kb) (by rw [← hx1]; exact un_97 c93); omega))⟩
                · exact j110 (by omega)
            refine wp_ite (fun c70 => ?_) (fun c70 => ?_)
            · exact j80 (by omega)
            · refine wp_ite (fun c77 => ?_) (fun c77 => ?_)
              · exact j80 (by omega)
              · refine wp_ite (fun c141 => ?_) (fun c141 => ?_)
                · have dn := y4_dn (y := y4_9) ⟨c141, by omega⟩
                  refine wp_ite (fun c150 => ?_) (fun c150 => ?_)
                  · refine wp_gd (y4_i c141 hy) ?_
                    refine wp_gd (y4_i c141 hy) ?_
                    refine wp_bnd (fun M_6 eM_6 => ?_)
                    exact ih9 M_6 y4_9 (y5_9 + (nI 1)) (y6_9 + (nI 1)) ⟨(hi_s hi9 c14), (fun a i q0 => ((congrFun (congrFun eM_6 a) i).trans ((mset_ne (fun h9 => q0 ((h9).1))).trans ((hf_M9 a i (fun h9 => q0 (h9))).trans rfl)))), ht, (hb_s hb9 c25 hv240), (by rw [eM_6, mset_s, dn.2, i51]; exact rn_not hS hR9 kb (by rw [← hx1]; exact un_33 c150))⟩ (mu_s hi9 c14)
                  · have j186 : (x_1.toInt = 38 ∨ x_1.toInt = 124) → Wp (f_X3_reckon_L186 c ag9 M9 y4_9 y5_9 y6_9 x_1 x_2) (fun q => (∀ a i, ¬ (a = (c + 3)) → q.2 a i = M a i) ∧ (q.1 = ev F V (ix v2) (ix v1) [])) := by
                      intro h186
                      unfold f_X3_reckon_L186
                      have opj : (F (ix y5_9)).1 = 11 ∨ (F (ix y5_9)).1 = 12 := by
                        rw [← hx1]
                        exact h186.elim (fun z => Or.inl (un_38 z)) (fun z => Or.inr (un_124 z))
                      refine wp_gd (y4_i c141 hy) ?_
                      have j201 : ∀ (t0_201 : Int32), (t0_201 = 0 ∨ t0_201 = 1) → (J2 t0_201.toInt (M9 (c + 3) (ix y4_9)).toInt 0) → Wp (f_X3_reckon_L201 ag9 M9 y4_9 y5_9 y6_9 x_1 x_2 t0_201) (fun q => (∀ a i, ¬ (a = (c + 3)) → q.2 a i = M a i) ∧ (q.1 = ev F V (ix v2) (ix v1) [])) := by
                        intro t0_201 hb_t0_201 h201
                        unfold f_X3_reckon_L201
                        have j213 : ∀ (t0_213 : Int32), (t0_213 = 0 ∨ t0_213 = 1) → (J2 t0_213.toInt (F (ix y5_9)).1 11) → Wp (f_X3_reckon_L213 ag9 M9 y4_9 y5_9 y6_9 x_2 t0_201 t0_213) (fun q => (∀ a i, ¬ (a = (c + 3)) → q.2 a i = M a i) ∧ (q.1 = ev F V (ix v2) (ix v1) [])) := by
                          intro t0_213 hb_t0_213 h213
                          unfold f_X3_reckon_L213
                          have jc := jc_of h201 h213
                          refine wp_ite (fun c213 => ?_) (fun c213 => ?_)
                          · have jm := rn_jmp hS hR9 kb opj (by rw [← dn.2]; exact jc_1 jc c213)
                            have jx : 0 ≤ (F (ix y5_9)).2 := nn_t jm.2.1
                            exact ih9 M9 y4_9 x_2 (y6_9 + (nI 1)) ⟨(hi_s hi9 c14), (fun a i q0 => ((hf_M9 a i (fun h9 => q0 (h9))).trans rfl)), ht, (hb_j hb9 hv.1 hv240 (by rw [hx2]; exact jx) (by rw [← t2]; exact jm.2.1) (by rw [← t2]; exact jm.2.2)), (by rw [← t2]; exact jm.1)⟩ (mu_s hi9 c14)
                          · exact ih9 M9 (y4_9 + (-1)) (y5_9 + (nI 1)) (y6_9 + (nI 1)) ⟨(hi_s hi9 c14), (fun a i q0 => ((hf_M9 a i (fun h9 => q0 (h9))).trans rfl)), (y4_h1 c141 hy), (hb_s hb9 c25 hv240), (by rw [dn.1, i51]; exact rn_pop hS hR9 kb opj (by rw [← dn.2]; exact jc_2 jc c213))⟩ (mu_s hi9 c14)
                        refine wp_ite (fun c205 => ?_) (fun c205 => ?_)
                        · exact j213 (nI 1) b01_1 (Or.inl ⟨nI1, by rw [← hx1]; exact un_38 c205⟩)
                        · exact j213 (nI 0) b01_0 (Or.inr ⟨nI0, by rw [← hx1, un_124 (h186.resolve_left c205)]; decide⟩)
                      refine wp_ite (fun c193 => ?_) (fun c193 => ?_)
                      · exact j201 (nI 1) b01_1 (Or.inl ⟨nI1, c193⟩)
                      · exact j201 (nI 0) b01_0 (Or.inr ⟨nI0, c193⟩)
                    refine wp_ite (fun c176 => ?_) (fun c176 => ?_)
                    · exact j186 (Or.inl c176)
                    · refine wp_ite (fun c183 => ?_) (fun c183 => ?_)
                      · exact j186 (Or.inr c183)
                      · refine wp_ite (fun c232 => ?_) (fun c232 => ?_)
                        · exact wp_some ⟨(fun a i q0 => ((hf_M9 a i (fun h9 => q0 (h9))).trans rfl)), (False.elim (by have unr := un_r (x := x_1.toInt) (by rw [hx1]; exact (sk_o (hS.1 _ ka kb)).1) c70 c77 c150 c176 c183; have ur := unr_b unr; rw [hx1] at ur; exact y4_no c232 (rn_t2 hS hR9 kb ur)))⟩
                        · have unr := un_r (x := x_1.toInt) (by rw [hx1]; exact (sk_o (hS.1 _ ka kb)).1) c70 c77 c150 c176 c183
                          have ur := unr_b unr
                          rw [hx1] at ur
                          have dn2 := y4_dn2 (y := y4_9) (y4_r c232 hy)
                          have j261 : (H26 x_1.toInt (M9 (c + 3) (ix y4_9)).toInt) → Wp (f_X3_reckon_L261 c ag9 M9 y4_9 y5_9 y6_9 x_1) (fun q => (∀ a i, ¬ (a = (c + 3)) → q.2 a i = M a i) ∧ (q.1 = ev F V (ix v2) (ix v1) [])) := by
                            intro h261
                            unfold f_X3_reckon_L261
                            refine wp_gd (y4_i1 c232 hy) ?_
                            refine wp_gd (y4_i2 c232 hy) ?_
                            refine wp_bind2 (o7_X3_combine M9 x_1 (M9 (c + 3) (ix (y4_9 + (-1)))) (M9 (c + 3) (ix ((y4_9 + (-1)) + (nI 1))))) (fun r_4 he288 hq288 => ?_)
                            have hk_288 := hq288
                            replace hk_288 : CbP x_1.toInt (M9 (c + 3) (ix (y4_9 + (-1)))) (M9 (c + 3) (ix ((y4_9 + (-1)) + (nI 1)))) r_4 := hk_288
                            have hrk : r_4 = rk (F (ix y5_9)).1 (M9 (c + 3) (Y4 y4_9 - 1 - 1)) (M9 (c + 3) (Y4 y4_9 - 1)) := by
                              have z := hk_288 unr (fun z => by rw [dn2.2, ← dn.2]; exact h261 z)
                              rw [z, hx1, dn2.1, dn2.2]
                            refine wp_gd (y4_i1 c232 hy) ?_
                            refine wp_bnd (fun M_5 eM_5 => ?_)
                            exact ih9 M_5 (y4_9 + (-1)) (y5_9 + (nI 1)) (y6_9 + (nI 1)) ⟨(hi_s hi9 c14), (fun a i q0 => ((congrFun (congrFun eM_5 a) i).trans ((mset_ne (fun h9 => q0 ((h9).1))).trans ((hf_M9 a i (fun h9 => q0 (h9))).trans rfl)))), (y4_h1 c141 hy), (hb_s hb9 c25 hv240), (by rw [eM_5, mset_s, dn2.1, dn.1, i51]; exact rn_bin hS hR9 kb ur (by rw [← hx1, ← dn.2]; exact fun z => h261 (unr_5 unr z.1) z.2) hrk)⟩ (mu_s hi9 c14)
                          have j249 : (x_1.toInt = 47 ∨ x_1.toInt = 37) → Wp (f_X3_reckon_L249 c ag9 M9 y4_9 y5_9 y6_9 x_1) (fun q => (∀ a i, ¬ (a = (c + 3)) → q.2 a i = M a i) ∧ (q.1 = ev F V (ix v2) (ix v1) [])) := by
                            intro h249
                            unfold f_X3_reckon_L249
                            refine wp_gd (y4_i c141 hy) ?_
                            refine wp_ite (fun c256 => ?_) (fun c256 => ?_)
                            · exact wp_some ⟨(fun a i q0 => ((hf_M9 a i (fun h9 => q0 (h9))).trans rfl)), (by show nI 0 = ev F V (ix v2) (ix v1) []; exact (rn_div hS hR9 kb (by rw [← hx1]; exact h249.elim (fun z => Or.inl (un_47 z)) (fun z => Or.inr (un_37 z))) (by rw [← dn.2]; exact c256)).symm)⟩
                            · exact j261 (fun _ => c256)
                          refine wp_ite (fun c239 => ?_) (fun c239 => ?_)
                          · exact j249 (Or.inl c239)
                          · refine wp_ite (fun c246 => ?_) (fun c246 => ?_)
                            · exact j249 (Or.inr c246)
                            · exact j261 (fun z => (z.elim c239 c246 : False).elim)
                · exact wp_some ⟨(fun a i q0 => ((hf_M9 a i (fun h9 => q0 (h9))).trans rfl)), (False.elim (by have o1 := sk_o (hS.1 _ ka kb); have o2 : ¬ (F (ix y5_9)).1 = 0 := (fun z => c70 (unc_0 (by rw [hx1]; exact z))); have o3 : ¬ (F (ix y5_9)).1 = 1 := (fun z => c77 (unc_1 (by rw [hx1]; exact z))); by_cases z1 : 10 ≤ (F (ix y5_9)).1; (have z3 := y4_p (rn_t hS hR9 kb z1) (by omega); omega); (have z3 := y4_p (rn_t2 hS hR9 kb (by omega)) (by omega); omega)))⟩
