theorem o_X3_reckon {c : Nat} (hc : isL c) (M : Mem) (v1 : Int32) (v2 : Int32) : Wp (f_X3_reckon c M v1 v2) (fun q => (∀ a i, ¬ (a = (c + 3)) → q.2 a i = M a i)) := by
  have hc0 : c = 44 ∨ c = 52 := hc
  refine wp_lp4 (fun M9 y4_9 y5_9 y6_9 => (0 ≤ y6_9.toInt) ∧ (∀ a i, ¬ (a = (c + 3)) → M9 a i = M a i) ∧ (-1 ≤ y4_9.toInt ∧ y4_9.toInt ≤ 31)) (fun M9 y4_9 y5_9 y6_9 => (240 - y6_9.toInt).toNat) (fun ag9 M9 y4_9 y5_9 y6_9 hI9 ih9 => ?_) FU M (-1) v1 (nI 0) ⟨(by have f0 := t_lit 0; omega), (fun _ _ _ => rfl), (by decide)⟩ (fu_lt (by have f0 := t_lit 0; omega))
  obtain ⟨hi9, hf_M9, ht⟩ := hI9
  have j298 : Wp (f_X3_reckon_L298 c M9 y4_9) (fun q => (∀ a i, ¬ (a = (c + 3)) → q.2 a i = M a i)) := by
    unfold f_X3_reckon_L298
    refine wp_ite (fun c300 => ?_) (fun c300 => ?_)
    · refine wp_gd (by omega) ?_
      exact wp_some (fun a i q0 => ((hf_M9 a i (fun h9 => q0 (h9))).trans rfl))
    · exact wp_some (fun a i q0 => ((hf_M9 a i (fun h9 => q0 (h9))).trans rfl))
  refine wp_ite (fun c14 => ?_) (fun c14 => ?_)
  · exact j298
  · refine wp_ite (fun c19 => ?_) (fun c19 => ?_)
    · exact j298
    · refine wp_ite (fun c25 => ?_) (fun c25 => ?_)
      · exact j298
      · refine wp_ite (fun c34 => ?_) (fun c34 => ?_)
        · exact j298
        · refine wp_ite (fun c42 => ?_) (fun c42 => ?_)
          · exact j298
          · refine wp_gd (by have f0 := congrArg Int32.toInt (hf_M9 c 7 (by first | decide | (rcases hc0 with h | h <;> rw [h] <;> simp; done) | (rcases hb0 with h | h | h <;> rw [h] <;> simp; done) | (simp; done) | omega)); omega) ?_
            refine wp_bnd (fun x_1 ex_1 => ?_)
            refine wp_gd (by have f0 := congrArg Int32.toInt (hf_M9 c 7 (by first | decide | (rcases hc0 with h | h <;> rw [h] <;> simp; done) | (rcases hb0 with h | h | h <;> rw [h] <;> simp; done) | (simp; done) | omega)); omega) ?_
            refine wp_bnd (fun x_2 ex_2 => ?_)
            have j80 : (x_1.toInt = 48 ∨ x_1.toInt = 97) → Wp (f_X3_reckon_L80 c ag9 M9 y4_9 y5_9 y6_9 x_1 x_2) (fun q => (∀ a i, ¬ (a = (c + 3)) → q.2 a i = M a i)) := by
              intro hk
              unfold f_X3_reckon_L80
              refine wp_ite (fun c86 => ?_) (fun c86 => ?_)
              · exact wp_some (fun a i q0 => ((hf_M9 a i (fun h9 => q0 (h9))).trans rfl))
              · have j110 : (x_1.toInt = 48 ∨ (0 ≤ x_2.toInt ∧ x_2.toInt < 8)) → Wp (f_X3_reckon_L110 c ag9 M9 y4_9 y5_9 y6_9 x_1 x_2) (fun q => (∀ a i, ¬ (a = (c + 3)) → q.2 a i = M a i)) := by
                  intro hl
                  unfold f_X3_reckon_L110
                  have j135 : ∀ (t0_135 : Int32), Wp (f_X3_reckon_L135 c ag9 M9 y4_9 y5_9 y6_9 t0_135) (fun q => (∀ a i, ¬ (a = (c + 3)) → q.2 a i = M a i)) := by
                    intro t0_135
                    unfold f_X3_reckon_L135
                    refine wp_gd (by have f0 := t_lit 1; have f1 := t_add y4_9 (nI 1); omega) ?_
                    refine wp_bnd (fun M_3 eM_3 => ?_)
                    exact ih9 M_3 (y4_9 + (nI 1)) (y5_9 + (nI 1)) (y6_9 + (nI 1)) ⟨(by have f0 := t_lit 1; have f1 := t_add y6_9 (nI 1); omega), (fun a i q0 => ((congrFun (congrFun eM_3 a) i).trans ((mset_ne (fun h9 => q0 ((h9).1))).trans ((hf_M9 a i (fun h9 => q0 (h9))).trans rfl)))), (by have f0 := t_lit 1; have f1 := t_add y4_9 (nI 1); omega)⟩ (by have f0 := t_lit 1; have f1 := t_add y6_9 (nI 1); omega)
                  refine wp_ite (fun c123 => ?_) (fun c123 => ?_)
                  · exact j135 x_2
                  · refine wp_gd (by have f0 := congrArg Int32.toInt (hf_M9 (c + 2) (ix y5_9) (by first | decide | (rcases hc0 with h | h <;> rw [h] <;> simp; done) | (rcases hb0 with h | h | h <;> rw [h] <;> simp; done) | (simp; done) | omega)); have f1 := congrArg Int32.toInt ex_2; omega) ?_
                    exact j135 (M9 22 (ix x_2))
                refine wp_ite (fun c93 => ?_) (fun c93 => ?_)
                · refine wp_ite (fun c98 => ?_) (fun c98 => ?_)
                  · exact wp_some (fun a i q0 => ((hf_M9 a i (fun h9 => q0 (h9))).trans rfl))
                  · refine wp_ite (fun c105 => ?_) (fun c105 => ?_)
                    · exact j110 (by omega)
                    · exact wp_some (fun a i q0 => ((hf_M9 a i (fun h9 => q0 (h9))).trans rfl))
                · exact j110 (by omega)
            refine wp_ite (fun c70 => ?_) (fun c70 => ?_)
            · exact j80 (by omega)
            · refine wp_ite (fun c77 => ?_) (fun c77 => ?_)
              · exact j80 (by omega)
              · refine wp_ite (fun c141 => ?_) (fun c141 => ?_)
                · refine wp_ite (fun c150 => ?_) (fun c150 => ?_)
                  · refine wp_gd (by omega) ?_
                    refine wp_gd (by omega) ?_
                    refine wp_bnd (fun M_6 eM_6 => ?_)
                    exact ih9 M_6 y4_9 (y5_9 + (nI 1)) (y6_9 + (nI 1)) ⟨(by have f0 := t_lit 1; have f1 := t_add y6_9 (nI 1); omega), (fun a i q0 => ((congrFun (congrFun eM_6 a) i).trans ((mset_ne (fun h9 => q0 ((h9).1))).trans ((hf_M9 a i (fun h9 => q0 (h9))).trans rfl)))), (by omega)⟩ (by have f0 := t_lit 1; have f1 := t_add y6_9 (nI 1); omega)
                  · have j186 : Wp (f_X3_reckon_L186 c ag9 M9 y4_9 y5_9 y6_9 x_1 x_2) (fun q => (∀ a i, ¬ (a = (c + 3)) → q.2 a i = M a i)) := by
                      unfold f_X3_reckon_L186
                      refine wp_gd (by omega) ?_
                      have j201 : ∀ (t0_201 : Int32), (t0_201 = 0 ∨ t0_201 = 1) → Wp (f_X3_reckon_L201 ag9 M9 y4_9 y5_9 y6_9 x_1 x_2 t0_201) (fun q => (∀ a i, ¬ (a = (c + 3)) → q.2 a i = M a i)) := by
                        intro t0_201 hb_t0_201
                        unfold f_X3_reckon_L201
                        have j213 : ∀ (t0_213 : Int32), (t0_213 = 0 ∨ t0_213 = 1) → Wp (f_X3_reckon_L213 ag9 M9 y4_9 y5_9 y6_9 x_2 t0_201 t0_213) (fun q => (∀ a i, ¬ (a = (c + 3)) → q.2 a i = M a i)) := by
                          intro t0_213 hb_t0_213
                          unfold f_X3_reckon_L213
                          refine wp_ite (fun c213 => ?_) (fun c213 => ?_)
                          · exact ih9 M9 y4_9 x_2 (y6_9 + (nI 1)) ⟨(by have f0 := t_lit 1; have f1 := t_add y6_9 (nI 1); omega), (fun a i q0 => ((hf_M9 a i (fun h9 => q0 (h9))).trans rfl)), (by omega)⟩ (by have f0 := t_lit 1; have f1 := t_add y6_9 (nI 1); omega)
                          · exact ih9 M9 (y4_9 + (-1)) (y5_9 + (nI 1)) (y6_9 + (nI 1)) ⟨(by have f0 := t_lit 1; have f1 := t_add y6_9 (nI 1); omega), (fun a i q0 => ((hf_M9 a i (fun h9 => q0 (h9))).trans rfl)), (by have f0 := (by decide : ((-1 : Int32)).toInt = -1); have f1 := t_add y4_9 (-1); omega)⟩ (by have f0 := t_lit 1; have f1 := t_add y6_9 (nI 1); omega)
                        refine wp_ite (fun c205 => ?_) (fun c205 => ?_)
                        · exact j213 (nI 1) b01_1
                        · exact j213 (nI 0) b01_0
                      refine wp_ite (fun c193 => ?_) (fun c193 => ?_)
                      · exact j201 (nI 1) b01_1
                      · exact j201 (nI 0) b01_0
                    refine wp_ite (fun c176 => ?_) (fun c176 => ?_)
                    · exact j186
                    · refine wp_ite (fun c183 => ?_) (fun c183 => ?_)
                      · exact j186
                      · refine wp_ite (fun c232 => ?_) (fun c232 => ?_)
                        · exact wp_some (fun a i q0 => ((hf_M9 a i (fun h9 => q0 (h9))).trans rfl))
                        · have j261 : Wp (f_X3_reckon_L261 c ag9 M9 y4_9 y5_9 y6_9 x_1) (fun q => (∀ a i, ¬ (a = (c + 3)) → q.2 a i = M a i)) := by
                            unfold f_X3_reckon_L261
                            refine wp_gd (by have f0 := (by decide : ((-1 : Int32)).toInt = -1); have f1 := t_add y4_9 (-1); omega) ?_
                            refine wp_gd (by have f0 := (by decide : ((-1 : Int32)).toInt = -1); have f1 := t_add y4_9 (-1); have f2 := t_lit 1; have f3 := t_add (y4_9 + (-1)) (nI 1); omega) ?_
                            refine wp_bind2 (o_X3_combine M9 x_1 (M9 (c + 3) (ix (y4_9 + (-1)))) (M9 (c + 3) (ix ((y4_9 + (-1)) + (nI 1))))) (fun r_4 he288 hq288 => ?_)
                            refine wp_gd (by have f0 := (by decide : ((-1 : Int32)).toInt = -1); have f1 := t_add y4_9 (-1); omega) ?_
                            refine wp_bnd (fun M_5 eM_5 => ?_)
                            exact ih9 M_5 (y4_9 + (-1)) (y5_9 + (nI 1)) (y6_9 + (nI 1)) ⟨(by have f0 := t_lit 1; have f1 := t_add y6_9 (nI 1); omega), (fun a i q0 => ((congrFun (congrFun eM_5 a) i).trans ((mset_ne (fun h9 => q0 ((h9).1))).trans ((hf_M9 a i (fun h9 => q0 (h9))).trans rfl)))), (by have f0 := (by decide : ((-1 : Int32)).toInt = -1); have f1 := t_add y4_9 (-1); omega)⟩ (by have f0 := t_lit 1; have f1 := t_add y6_9 (nI 1); omega)
                          have j249 : Wp (f_X3_reckon_L249 c ag9 M9 y4_9 y5_9 y6_9 x_1) (fun q => (∀ a i, ¬ (a = (c + 3)) → q.2 a i = M a i)) := by
                            unfold f_X3_reckon_L249
                            refine wp_gd (by omega) ?_
                            refine wp_ite (fun c256 => ?_) (fun c256 => ?_)
                            · exact wp_some (fun a i q0 => ((hf_M9 a i (fun h9 => q0 (h9))).trans rfl))
                            · exact j261
                          refine wp_ite (fun c239 => ?_) (fun c239 => ?_)
                          · exact j249
                          · refine wp_ite (fun c246 => ?_) (fun c246 => ?_)
                            · exact j249
                            · exact j261
                · exact wp_some (fun a i q0 => ((hf_M9 a i (fun h9 => q0 (h9))).trans rfl))
theorem o_X3_doesHold {c : Nat} (hc : isL c) (M : Mem) (v1 : Int32) : Wp (f_X3_doesHold c M v1) (fun q => (q.1 = 0 ∨ q.1 = 1) ∧ (∀ a i, ¬ (a = (c + 3)) → q.2 a i = M a i)) := by
  have hc0 : c = 44 ∨ c = 52 := hc
  refine wp_ite (fun c1 => ?_) (fun c1 => ?_)
  · exact wp_some ⟨b01_0, (fun _ _ _ => rfl)⟩
  · refine wp_ite (fun c7 => ?_) (fun c7 => ?_)
    · exact wp_some ⟨b01_0, (fun _ _ _ => rfl)⟩
    · refine wp_gd (by omega) ?_
      refine wp_gd (by omega) ?_
      refine wp_cb2 (o_X3_reckon hc M (M (c + 6) (ix v1)) (M (c + 7) (ix v1))) (fun r_1 M_2 he24 hq24 => ?_)
      have hg_M_2 := hq24
      replace hg_M_2 : ∀ a i, ¬ (a = (c + 3)) → M_2 a i = M a i := by exact fun a i q0 => hg_M_2 a i (by first | decide | (rcases hc0 with h | h <;> rw [h] <;> simp; done) | (rcases hb0 with h | h | h <;> rw [h] <;> simp; done) | (simp; done) | omega)
      refine wp_ite (fun c27 => ?_) (fun c27 => ?_)
      · exact wp_some ⟨b01_0, (fun a i q0 => ((hg_M_2 a i (fun h9 => q0 (h9))).trans rfl))⟩
      · exact wp_some ⟨b01_1, (fun a i q0 => ((hg_M_2 a i (fun h9 => q0 (h9))).trans rfl))⟩
theorem o_X3_amountOf {c : Nat} (hc : isL c) (M : Mem) (v1 : Int32) : Wp (f_X3_amountOf c M v1) (fun q => (∀ a i, ¬ (a = (c + 3)) → q.2 a i = M a i)) := by
  have hc0 : c = 44 ∨ c = 52 := hc
  refine wp_lp2 (fun M2 y3_2 => (0 ≤ y3_2.toInt) ∧ (∀ a i, ¬ (a = (c + 3)) → M2 a i = M a i)) (fun M2 y3_2 => (16 - y3_2.toInt).toNat) (fun ag2 M2 y3_2 hI2 ih2 => ?_) FU M (nI 0) ⟨(by have f0 := t_lit 0; omega), (fun _ _ _ => rfl)⟩ (fu_lt (by have f0 := t_lit 0; omega))
  obtain ⟨hi2, hf_M2⟩ := hI2
  refine wp_ite (fun c7 => ?_) (fun c7 => ?_)
  · exact wp_some (fun a i q0 => ((hf_M2 a i (fun h9 => q0 (h9))).trans rfl))
  · refine wp_ite (fun c13 => ?_) (fun c13 => ?_)
    · exact wp_some (fun a i q0 => ((hf_M2 a i (fun h9 => q0 (h9))).trans rfl))
    · refine wp_gd (by have f0 := congrArg Int32.toInt (hf_M2 c 8 (by first | decide | (rcases hc0 with h | h <;> rw [h] <;> simp; done) | (rcases hb0 with h | h | h <;> rw [h] <;> simp; done) | (simp; done) | omega)); omega) ?_
      refine wp_ite (fun c23 => ?_) (fun c23 => ?_)
      · refine wp_cb2 (o_X3_doesHold hc M2 y3_2) (fun r_1 M_2 he29 hq29 => ?_)
        obtain ⟨hz_r_1, hg_M_2⟩ := hq29
        replace hg_M_2 : ∀ a i, ¬ (a = (c + 3)) → M_2 a i = M2 a i := by exact fun a i q0 => hg_M_2 a i (by first | decide | (rcases hc0 with h | h <;> rw [h] <;> simp; done) | (rcases hb0 with h | h | h <;> rw [h] <;> simp; done) | (simp; done) | omega)
        have j35 : Wp (f_X3_amountOf_L35 c y3_2 M_2) (fun q => (∀ a i, ¬ (a = (c + 3)) → q.2 a i = M a i)) := by
          unfold f_X3_amountOf_L35
          refine wp_gd (by have f0 := congrArg Int32.toInt (hf_M2 c 8 (by first | decide | (rcases hc0 with h | h <;> rw [h] <;> simp; done) | (rcases hb0 with h | h | h <;> rw [h] <;> simp; done) | (simp; done) | omega)); have f1 := congrArg Int32.toInt (hf_M2 (c + 4) (ix y3_2) (by first | decide | (rcases hc0 with h | h <;> rw [h] <;> simp; done) | (rcases hb0 with h | h | h <;> rw [h] <;> simp; done) | (simp; done) | omega)); omega) ?_
          refine wp_gd (by have f0 := congrArg Int32.toInt (hf_M2 c 8 (by first | decide | (rcases hc0 with h | h <;> rw [h] <;> simp; done) | (rcases hb0 with h | h | h <;> rw [h] <;> simp; done) | (simp; done) | omega)); have f1 := congrArg Int32.toInt (hf_M2 (c + 4) (ix y3_2) (by first | decide | (rcases hc0 with h | h <;> rw [h] <;> simp; done) | (rcases hb0 with h | h | h <;> rw [h] <;> simp; done) | (simp; done) | omega)); omega) ?_
          refine wp_cb2 (o_X3_reckon hc M_2 (M_2 (c + 5) (ix y3_2)) (M_2 (c + 6) (ix y3_2))) (fun r_3 M_4 he49 hq49 => ?_)
          have hg_M_4 := hq49
          replace hg_M_4 : ∀ a i, ¬ (a = (c + 3)) → M_4 a i = M_2 a i := by exact fun a i q0 => hg_M_4 a i (by first | decide | (rcases hc0 with h | h <;> rw [h] <;> simp; done) | (rcases hb0 with h | h | h <;> rw [h] <;> simp; done) | (simp; done) | omega)
          exact wp_some (fun a i q0 => ((hg_M_4 a i (fun h9 => q0 (h9))).trans ((hg_M_2 a i (fun h9 => q0 (h9))).trans ((hf_M2 a i (fun h9 => q0 (h9))).trans rfl))))
        refine wp_ite (fun c32 => ?_) (fun c32 => ?_)
        · exact ih2 M_2 (y3_2 + (nI 1)) ⟨(by have f0 := t_lit 1; have f1 := t_add y3_2 (nI 1); have f2 := congrArg Int32.toInt (hf_M2 c 8 (by first | decide | (rcases hc0 with h | h <;> rw [h] <;> simp; done) | (rcases hb0 with h | h | h <;> rw [h] <;> simp; done) | (simp; done) | omega)); have f3 := congrArg Int32.toInt (hf_M2 (c + 4) (ix y3_2) (by first | decide | (rcases hc0 with h | h <;> rw [h] <;> simp; done) | (rcases hb0 with h | h | h <;> rw [h] <;> simp; done) | (simp; done) | omega)); omega), (fun a i q0 => ((hg_M_2 a i (fun h9 => q0 (h9))).trans ((hf_M2 a i (fun h9 => q0 (h9))).trans rfl)))⟩ (by have f0 := t_lit 1; have f1 := t_add y3_2 (nI 1); have f2 := congrArg Int32.toInt (hf_M2 c 8 (by first | decide | (rcases hc0 with h | h <;> rw [h] <;> simp; done) | (rcases hb0 with h | h | h <;> rw [h] <;> simp; done) | (simp; done) | omega)); have f3 := congrArg Int32.toInt (hf_M2 (c + 4) (ix y3_2) (by first | decide | (rcases hc0 with h | h <;> rw [h] <;> simp; done) | (rcases hb0 with h | h | h <;> rw [h] <;> simp; done) | (simp; done) | omega)); omega)
        · exact j35
      · exact ih2 M2 (y3_2 + (nI 1)) ⟨(by have f0 := t_lit 1; have f1 := t_add y3_2 (nI 1); have f2 := congrArg Int32.toInt (hf_M2 c 8 (by first | decide | (rcases hc0 with h | h <;> rw [h] <;> simp; done) | (rcases hb0 with h | h | h <;> rw [h] <;> simp; done) | (simp; done) | omega)); have f3 := congrArg Int32.toInt (hf_M2 (c + 4) (ix y3_2) (by first | decide | (rcases hc0 with h | h <;> rw [h] <;> simp; done) | (rcases hb0 with h | h | h <;> rw [h] <;> simp; done) | (simp; done) | omega)); omega), (fun a i q0 => ((hf_M2 a i (fun h9 => q0 (h9))).trans rfl))⟩ (by have f0 := t_lit 1; have f1 := t_add y3_2 (nI 1); have f2 := congrArg Int32.toInt (hf_M2 c 8 (by first | decide | (rcases hc0 with h | h <;> rw [h] <;> simp; done) | (rcases hb0 with h | h | h <;> rw [h] <;> simp; done) | (simp; done) | omega)); have f3 := congrArg Int32.toInt (hf_M2 (c + 4) (ix y3_2) (by first | decide | (rcases hc0 with h | h <;> rw [h] <;> simp; done) | (rcases hb0 with h | h | h <;> rw [h] <;> simp; done) | (simp; done) | omega)); omega)
theorem o_X7_here (M : Mem) : Wp (f_X7_here M) (fun q => True) := by
  refine wp_ite (fun c4 => ?_) (fun c4 => ?_)
  · exact wp_some trivial
  · refine wp_ite (fun c15 => ?_) (fun c15 => ?_)
    · exact wp_some trivial
    · refine wp_ite (fun c25 => ?_) (fun c25 => ?_)
      · exact wp_some trivial
      · refine wp_gd (by omega) ?_
        exact wp_some trivial
theorem o_X3_isRuleLetter (M : Mem) (v0 : Int32) : Wp (f_X3_isRuleLetter v0) (fun q => (q = 0 ∨ q = 1)) := by
  refine wp_ite (fun c3 => ?_) (fun c3 => ?_)
  · exact wp_some b01_1
  · refine wp_ite (fun c9 => ?_) (fun c9 => ?_)
    · exact wp_some b01_1
    · refine wp_ite (fun c15 => ?_) (fun c15 => ?_)
      · exact wp_some b01_1
      · refine wp_ite (fun c21 => ?_) (fun c21 => ?_)
        · exact wp_some b01_1
        · refine wp_ite (fun c27 => ?_) (fun c27 => ?_)
          · exact wp_some b01_1
          · exact wp_some b01_0
theorem o_X7_refuse (M : Mem) (v1 : Int32) (v2 : Int32) : Wp (f_X7_refuse M v1 v2) (fun q => (q.1 = 0 ∨ q.1 = 1) ∧ (∀ a i, ¬ ((a = 19 ∧ i = 4)) → q.2 a i = M a i)) := by
  refine wp_bnd (fun M_1 eM_1 => ?_)
  exact wp_some ⟨b01_0, (fun a i q0 => ((congrFun (congrFun eM_1 a) i).trans ((mset_ne (fun h9 => q0 (h9))).trans rfl)))⟩
theorem o_X7_skip (M : Mem) (v1 : Int32) : Wp (f_X7_skip M v1) (fun q => (q.1 = 0 ∨ q.1 = 1) ∧ (∀ a i, ¬ ((a = 19 ∧ i = 3) ∨ (a = 19 ∧ i = 4)) → q.2 a i = M a i)) := by
  refine wp_bind2 (o_X7_here M) (fun r_1 he1 hq1 => ?_)
  refine wp_ite (fun c5 => ?_) (fun c5 => ?_)
  · refine wp_bnd (fun M_2 eM_2 => ?_)
    exact wp_some ⟨b01_1, (fun a i q0 => ((congrFun (congrFun eM_2 a) i).trans ((mset_ne (fun h9 => q0 (Or.inl h9))).trans rfl)))⟩
  · refine wp_cb2 (o_X7_refuse M (nI 1) (M 19 3)) (fun r_3 M_4 he14 hq14 => ?_)
    obtain ⟨hz_r_3, hg_M_4⟩ := hq14
    replace hg_M_4 : ∀ a i, ¬ ((a = 19 ∧ i = 4)) → M_4 a i = M a i := hg_M_4
    refine wp_gb hz_r_3 ?_
    exact wp_some ⟨hz_r_3, (fun a i q0 => ((hg_M_4 a i (fun h9 => q0 (Or.inr (h9)))).trans rfl))⟩
theorem o_X7_isDigit (M : Mem) (v0 : Int32) : Wp (f_X7_isDigit v0) (fun q => (q = 0 ∨ q = 1)) := by
  refine wp_ite (fun c3 => ?_) (fun c3 => ?_)
  · exact wp_some b01_0
  · refine wp_ite (fun c9 => ?_) (fun c9 => ?_)
    · exact wp_some b01_0
    · exact wp_some b01_1
theorem o_X7_number (M : Mem) (v1 : Int32) : Wp (f_X7_number M v1) (fun q => (∀ a i, ¬ ((a = 19 ∧ i = 3) ∨ (a = 19 ∧ i = 4)) → q.2 a i = M a i)) := by
  have ft1 := t_rng v1
  refine wp_lp3 (fun M4 y2_4 y3_4 => (0 ≤ y3_4.toInt) ∧ (∀ a i, ¬ ((a = 19 ∧ i = 3)) → M4 a i = M a i)) (fun M4 y2_4 y3_4 => (v1.toInt - y3_4.toInt).toNat) (fun ag4 M4 y2_4 y3_4 hI4 ih4 => ?_) FU M (nI 0) (nI 0) ⟨(by have f0 := t_lit 0; omega), (fun _ _ _ => rfl)⟩ (fu_lt (by have f0 := t_lit 0; omega))
  obtain ⟨hi4, hf_M4⟩ := hI4
  have j48 : Wp (f_X7_number_L48 M4 y2_4 y3_4) (fun q => (∀ a i, ¬ ((a = 19 ∧ i = 3) ∨ (a = 19 ∧ i = 4)) → q.2 a i = M a i)) := by
    unfold f_X7_number_L48
    refine wp_ite (fun c49 => ?_) (fun c49 => ?_)
    · refine wp_cb2 (o_X7_refuse M4 (nI 1) (M4 19 3)) (fun r_5 M_6 he58 hq58 => ?_)
      obtain ⟨hz_r_5, hg_M_6⟩ := hq58
      replace hg_M_6 : ∀ a i, ¬ ((a = 19 ∧ i = 4)) → M_6 a i = M4 a i := hg_M_6
      exact wp_some (fun a i q0 => ((hg_M_6 a i (fun h9 => q0 (Or.inr (h9)))).trans ((hf_M4 a i (fun h9 => q0 (Or.inl h9))).trans rfl)))
    · refine wp_bind2 (o_X7_here M4) (fun r_1 he65 hq65 => ?_)
      refine wp_bind2 (o_X7_isDigit M4 r_1) (fun r_2 he68 hq68 => ?_)
      have hz_r_2 := hq68
      refine wp_ite (fun c71 => ?_) (fun c71 => ?_)
      · exact wp_some (fun a i q0 => ((hf_M4 a i (fun h9 => q0 (Or.inl h9))).trans rfl))
      · refine wp_cb2 (o_X7_refuse M4 (nI 2) (M4 19 3)) (fun r_3 M_4 he80 hq80 => ?_)
        obtain ⟨hz_r_3, hg_M_4⟩ := hq80
        replace hg_M_4 : ∀ a i, ¬ ((a = 19 ∧ i = 4)) → M_4 a i = M4 a i := hg_M_4
        exact wp_some (fun a i q0 => ((hg_M_4 a i (fun h9 => q0 (Or.inr (h9)))).trans ((hf_M4 a i (fun h9 => q0 (Or.inl h9))).trans rfl)))
  refine wp_ite (fun c6 => ?_) (fun c6 => ?_)
  · exact j48
  · refine wp_bind2 (o_X7_here M4) (fun r_7 he10 hq10 => ?_)
    refine wp_bind2 (o_X7_isDigit M4 r_7) (fun r_8 he13 hq13 => ?_)
    have hz_r_8 := hq13
    refine wp_ite (fun c16 => ?_) (fun c16 => ?_)
    · exact j48
    · refine wp_bind2 (o_X7_here M4) (fun r_9 he24 hq24 => ?_)
      refine wp_bnd (fun x_10 ex_10 => ?_)
      refine wp_bnd (fun M_11 eM_11 => ?_)
      exact ih4 M_11 x_10 (y3_4 + (nI 1)) ⟨(by have f0 := t_lit 1; have f1 := t_add y3_4 (nI 1); omega), (fun a i q0 => ((congrFun (congrFun eM_11 a) i).trans ((mset_ne (fun h9 => q0 (h9))).trans ((hf_M4 a i (fun h9 => q0 (h9))).trans rfl))))⟩ (by have f0 := t_lit 1; have f1 := t_add y3_4 (nI 1); omega)
theorem o_X3_order {c : Nat} (hc : isL c) (M : Mem) (v1 : Int32) (v2 : Int32) : Wp (f_X3_order c M v1 v2) (fun q => (∀ a i, ¬ (a = (c + 1) ∨ a = (c + 2) ∨ (a = c ∧ i = 7)) → q a i = M a i)) := by
  have hc0 : c = 44 ∨ c = 52 := hc
  refine wp_ite (fun c4 => ?_) (fun c4 => ?_)
  · exact wp_some (fun _ _ _ => rfl)
  · refine wp_ite (fun c14 => ?_) (fun c14 => ?_)
    · exact wp_some (fun _ _ _ => rfl)
    · refine wp_gd (by omega) ?_
      refine wp_bnd (fun M_1 eM_1 => ?_)
      refine wp_gd (by have f0 := congrArg Int32.toInt ((congrFun (congrFun eM_1 c) 7).trans (mset_ne (by first | exact nz1 (by decide) | exact nz2 (by decide) | exact nz1 (nzA hc0 (by decide)) | exact nz1 (nzE (by decide)) | exact nz1 (nzB hc0 (by decide)) | exact nz1 (nzC hc0 (by decide)) | exact nz1 (nzD hc0 (by decide)) | exact nz1 (nzF (by decide)) | exact nz1 (nzG (by decide)) | omega))); omega) ?_
      refine wp_bnd (fun M_2 eM_2 => ?_)
      refine wp_bnd (fun M_3 eM_3 => ?_)
      exact wp_some (fun a i q0 => ((congrFun (congrFun eM_3 a) i).trans ((mset_ne (fun h9 => q0 (Or.inr (Or.inr (h9))))).trans ((congrFun (congrFun eM_2 a) i).trans ((mset_ne (fun h9 => q0 (Or.inr (Or.inl (h9).1)))).trans ((congrFun (congrFun eM_1 a) i).trans ((mset_ne (fun h9 => q0 (Or.inl (h9).1))).trans rfl)))))))
theorem o_X5_indexOf (M : Mem) (v0 : Int32) : Wp (f_X5_indexOf v0) (fun q => True) := by
  refine wp_ite (fun c1 => ?_) (fun c1 => ?_)
  · exact wp_some trivial
  · refine wp_ite (fun c1 => ?_) (fun c1 => ?_)
    · exact wp_some trivial
    · refine wp_ite (fun c2 => ?_) (fun c2 => ?_)
      · exact wp_some trivial
      · refine wp_ite (fun c3 => ?_) (fun c3 => ?_)
        · exact wp_some trivial
        · refine wp_ite (fun c4 => ?_) (fun c4 => ?_)
          · exact wp_some trivial
          · refine wp_ite (fun c5 => ?_) (fun c5 => ?_)
            · exact wp_some trivial
            · refine wp_ite (fun c6 => ?_) (fun c6 => ?_)
              · exact wp_some trivial
              · refine wp_ite (fun c7 => ?_) (fun c7 => ?_)
                · exact wp_some trivial
                · exact wp_some trivial
theorem o_X3_landHere {c : Nat} (hc : isL c) (M : Mem) (v1 : Int32) : Wp (f_X3_landHere c M v1) (fun q => (∀ a i, ¬ (a = (c + 2)) → q a i = M a i)) := by
  have hc0 : c = 44 ∨ c = 52 := hc
  refine wp_ite (fun c1 => ?_) (fun c1 => ?_)
  · exact wp_some (fun _ _ _ => rfl)
  · refine wp_ite (fun c9 => ?_) (fun c9 => ?_)
    · exact wp_some (fun _ _ _ => rfl)
    · refine wp_ite (fun c16 => ?_) (fun c16 => ?_)
      · exact wp_some (fun _ _ _ => rfl)
      · refine wp_gd (by omega) ?_
        refine wp_bnd (fun M_1 eM_1 => ?_)
        exact wp_some (fun a i q0 => ((congrFun (congrFun eM_1 a) i).trans ((mset_ne (fun h9 => q0 ((h9).1))).trans rfl)))
theorem o_X3_compileSum {c : Nat} (hc : isL c) {KS : Int} {S_X3_compileFactor : Mem → Int32 → Option (Int32 × Mem)} (hS_X3_compileFactor : ∀ (M : Mem) (v2 : Int32) (ho : KS ≤ v2.toInt ∧ v2.toInt ≤ 6) (hb : (M c 9).toInt = 0 ∨ (M c 9).toInt = 1), Wp (S_X3_compileFactor M v2) (fun q => (q.1 = 0 ∨ q.1 = 1) ∧ (∀ a i, ¬ ((a = 19 ∧ i = 3) ∨ (a = 19 ∧ i = 4) ∨ a = (c + 1) ∨ a = (c + 2) ∨ (a = c ∧ i = 7) ∨ (a = c ∧ i = 9)) → q.2 a i = M a i) ∧ ((q.2 c 9).toInt = 0 ∨ (q.2 c 9).toInt = 1))) (M : Mem) (v2 : Int32) (ho : KS ≤ v2.toInt ∧ v2.toInt ≤ 6) (hb : (M c 9).toInt = 0 ∨ (M c 9).toInt = 1) : Wp (f_X3_compileSum S_X3_compileFactor c M v2) (fun q => (q.1 = 0 ∨ q.1 = 1) ∧ (∀ a i, ¬ ((a = 19 ∧ i = 3) ∨ (a = 19 ∧ i = 4) ∨ a = (c + 1) ∨ a = (c + 2) ∨ (a = c ∧ i = 7) ∨ (a = c ∧ i = 9)) → q.2 a i = M a i) ∧ ((q.2 c 9).toInt = 0 ∨ (q.2 c 9).toInt = 1)) := by
  have hc0 : c = 44 ∨ c = 52 := hc
  refine wp_lp4 (fun M8 y3_8 y4_8 y5_8 => (0 ≤ y5_8.toInt) ∧ (∀ a i, ¬ ((a = 19 ∧ i = 3) ∨ (a = 19 ∧ i = 4) ∨ a = (c + 1) ∨ a = (c + 2) ∨ (a = c ∧ i = 7) ∨ (a = c ∧ i = 9)) → M8 a i = M a i) ∧ ((M8 c 9).toInt = 0 ∨ (M8 c 9).toInt = 1)) (fun M8 y3_8 y4_8 y5_8 => (240 - y5_8.toInt).toNat) (fun ag8 M8 y3_8 y4_8 y5_8 hI8 ih8 => ?_) FU M (nI 0) (nI 0) (nI 0) ⟨(by have f0 := t_lit 0; omega), (fun _ _ _ => rfl), hb⟩ (fu_lt (by have f0 := t_lit 0; omega))
  obtain ⟨hi8, hf_M8, hb8⟩ := hI8
  have j124 : Wp (f_X3_compileSum_L124 M8) (fun q => (q.1 = 0 ∨ q.1 = 1) ∧ (∀ a i, ¬ ((a = 19 ∧ i = 3) ∨ (a = 19 ∧ i = 4) ∨ a = (c + 1) ∨ a = (c + 2) ∨ (a = c ∧ i = 7) ∨ (a = c ∧ i = 9)) → q.2 a i = M a i) ∧ ((q.2 c 9).toInt = 0 ∨ (q.2 c 9).toInt = 1)) := by
    unfold f_X3_compileSum_L124
    refine wp_cb2 (o_X7_refuse M8 (nI 1) (M8 19 3)) (fun r_1 M_2 he130 hq130 => ?_)
    obtain ⟨hz_r_1, hg_M_2⟩ := hq130
    replace hg_M_2 : ∀ a i, ¬ ((a = 19 ∧ i = 4)) → M_2 a i = M8 a i := hg_M_2
    refine wp_gb hz_r_1 ?_
    exact wp_some ⟨hz_r_1, (fun a i q0 => ((hg_M_2 a i (fun h9 => q0 (Or.inr (Or.inl h9)))).trans ((hf_M8 a i (fun z8 => q0 ((fun z9 => Or.elim z9 (fun h9 => Or.inl h9) (fun z9 => Or.elim z9 (fun h9 => Or.inr (Or.inl h9)) (fun z9 => Or.elim z9 (fun h9 => Or.inr (Or.inr (Or.inl h9))) (fun z9 => Or.elim z9 (fun h9 => Or.inr (Or.inr (Or.inr (Or.inl h9)))) (fun z9 => Or.elim z9 (fun h9 => Or.inr (Or.inr (Or.inr (Or.inr (Or.inl h9))))) (fun h9 => Or.inr (Or.inr (Or.inr (Or.inr (Or.inr (h9))))))))))) z8))).trans rfl))), (by show (M_2 c 9).toInt = 0 ∨ (M_2 c 9).toInt = 1; have f0 := congrArg Int32.toInt (hg_M_2 c 9 (by first | decide | (rcases hc0 with h | h <;> rw [h] <;> simp; done) | (rcases hb0 with h | h | h <;> rw [h] <;> simp; done) | (simp; done) | omega)); omega)⟩
  refine wp_ite (fun c13 => ?_) (fun c13 => ?_)
  · exact j124
  · refine wp_cb2 (hS_X3_compileFactor M8 v2 (by omega) (by omega)) (fun r_3 M_4 he19 hq19 => ?_)
    obtain ⟨hz_r_3, hg_M_4, hb_19⟩ := hq19
    replace hb_19 : (M_4 c 9).toInt = 0 ∨ (M_4 c 9).toInt = 1 := hb_19
    replace hg_M_4 : ∀ a i, ¬ ((a = 19 ∧ i = 3) ∨ (a = 19 ∧ i = 4) ∨ a = (c + 1) ∨ a = (c + 2) ∨ (a = c ∧ i = 7) ∨ (a = c ∧ i = 9)) → M_4 a i = M8 a i := hg_M_4
    refine wp_ite (fun c22 => ?_) (fun c22 => ?_)
    · exact wp_some ⟨b01_0, (fun a i q0 => ((hg_M_4 a i (fun z8 => q0 ((fun z9 => Or.elim z9 (fun h9 => Or.inl h9) (fun z9 => Or.elim z9 (fun h9 => Or.inr (Or.inl h9)) (fun z9 => Or.elim z9 (fun h9 => Or.inr (Or.inr (Or.inl h9))) (fun z9 => Or.elim z9 (fun h9 => Or.inr (Or.inr (Or.inr (Or.inl h9)))) (fun z9 => Or.elim z9 (fun h9 => Or.inr (Or.inr (Or.inr (Or.inr (Or.inl h9))))) (fun h9 => Or.inr (Or.inr (Or.inr (Or.inr (Or.inr (h9))))))))))) z8))).trans ((hf_M8 a i (fun z8 => q0 ((fun z9 => Or.elim z9 (fun h9 => Or.inl h9) (fun z9 => Or.elim z9 (fun h9 => Or.inr (Or.inl h9)) (fun z9 => Or.elim z9 (fun h9 => Or.inr (Or.inr (Or.inl h9))) (fun z9 => Or.elim z9 (fun h9 => Or.inr (Or.inr (Or.inr (Or.inl h9)))) (fun z9 => Or.elim z9 (fun h9 => Or.inr (Or.inr (Or.inr (Or.inr (Or.inl h9))))) (fun h9 => Or.inr (Or.inr (Or.inr (Or.inr (Or.inr (h9))))))))))) z8))).trans rfl))), (by show (M_4 c 9).toInt = 0 ∨ (M_4 c 9).toInt = 1; have f0 := t_lit 0; omega)⟩
    · have j39 : ∀ (N39 : Mem), (∀ a i, ¬ (a = (c + 1) ∨ a = (c + 2) ∨ (a = c ∧ i = 7)) → N39 a i = M_4 a i) → Wp (f_X3_compileSum_L39 c ag8 y3_8 y5_8 N39) (fun q => (q.1 = 0 ∨ q.1 = 1) ∧ (∀ a i, ¬ ((a = 19 ∧ i = 3) ∨ (a = 19 ∧ i = 4) ∨ a = (c + 1) ∨ a = (c + 2) ∨ (a = c ∧ i = 7) ∨ (a = c ∧ i = 9)) → q.2 a i = M a i) ∧ ((q.2 c 9).toInt = 0 ∨ (q.2 c 9).toInt = 1)) := by
        intro N39 hf_N39
        unfold f_X3_compileSum_L39
        refine wp_bind2 (o_X7_here N39) (fun r_5 he40 hq40 => ?_)
        have j72 : ∀ (t0_72 : Int32), Wp (f_X3_compileSum_L72 c ag8 y3_8 y5_8 N39 r_5 t0_72) (fun q => (q.1 = 0 ∨ q.1 = 1) ∧ (∀ a i, ¬ ((a = 19 ∧ i = 3) ∨ (a = 19 ∧ i = 4) ∨ a = (c + 1) ∨ a = (c + 2) ∨ (a = c ∧ i = 7) ∨ (a = c ∧ i = 9)) → q.2 a i = M a i) ∧ ((q.2 c 9).toInt = 0 ∨ (q.2 c 9).toInt = 1)) := by
          intro t0_72
          unfold f_X3_compileSum_L72
          have j108 : ∀ (N108 : Mem), ∀ (z3_108 : Int32), (∀ a i, ¬ (a = (c + 1) ∨ a = (c + 2) ∨ (a = c ∧ i = 7)) → N108 a i = N39 a i) → Wp (f_X3_compileSum_L108 ag8 y5_8 t0_72 N108 z3_108) (fun q => (q.1 = 0 ∨ q.1 = 1) ∧ (∀ a i, ¬ ((a = 19 ∧ i = 3) ∨ (a = 19 ∧ i = 4) ∨ a = (c + 1) ∨ a = (c + 2) ∨ (a = c ∧ i = 7) ∨ (a = c ∧ i = 9)) → q.2 a i = M a i) ∧ ((q.2 c 9).toInt = 0 ∨ (q.2 c 9).toInt = 1)) := by
            intro N108 z3_108 hf_N108
            unfold f_X3_compileSum_L108
            refine wp_bnd (fun M_6 eM_6 => ?_)
            exact ih8 M_6 z3_108 t0_72 (y5_8 + (nI 1)) ⟨(by have f0 := t_lit 1; have f1 := t_add y5_8 (nI 1); omega), (fun a i q0 => ((congrFun (congrFun eM_6 a) i).trans ((mset_ne (fun h9 => q0 (Or.inl h9))).trans ((hf_N108 a i (fun z8 => q0 ((fun z9 => Or.elim z9 (fun h9 => Or.inr (Or.inr (Or.inl h9))) (fun z9 => Or.elim z9 (fun h9 => Or.inr (Or.inr (Or.inr (Or.inl h9)))) (fun h9 => Or.inr (Or.inr (Or.inr (Or.inr (Or.inl h9))))))) z8))).trans ((hf_N39 a i (fun z8 => q0 ((fun z9 => Or.elim z9 (fun h9 => Or.inr (Or.inr (Or.inl h9))) (fun z9 => Or.elim z9 (fun h9 => Or.inr (Or.inr (Or.inr (Or.inl h9)))) (fun h9 => Or.inr (Or.inr (Or.inr (Or.inr (Or.inl h9))))))) z8))).trans ((hg_M_4 a i (fun z8 => q0 ((fun z9 => Or.elim z9 (fun h9 => Or.inl h9) (fun z9 => Or.elim z9 (fun h9 => Or.inr (Or.inl h9)) (fun z9 => Or.elim z9 (fun h9 => Or.inr (Or.inr (Or.inl h9))) (fun z9 => Or.elim z9 (fun h9 => Or.inr (Or.inr (Or.inr (Or.inl h9)))) (fun z9 => Or.elim z9 (fun h9 => Or.inr (Or.inr (Or.inr (Or.inr (Or.inl h9))))) (fun h9 => Or.inr (Or.inr (Or.inr (Or.inr (Or.inr (h9))))))))))) z8))).trans ((hf_M8 a i (fun z8 => q0 ((fun z9 => Or.elim z9 (fun h9 => Or.inl h9) (fun z9 => Or.elim z9 (fun h9 => Or.inr (Or.inl h9)) (fun z9 => Or.elim z9 (fun h9 => Or.inr (Or.inr (Or.inl h9))) (fun z9 => Or.elim z9 (fun h9 => Or.inr (Or.inr (Or.inr (Or.inl h9)))) (fun z9 => Or.elim z9 (fun h9 => Or.inr (Or.inr (Or.inr (Or.inr (Or.inl h9))))) (fun h9 => Or.inr (Or.inr (Or.inr (Or.inr (Or.inr (h9))))))))))) z8))).trans rfl))))))), (by have f0 := congrArg Int32.toInt ((congrFun (congrFun eM_6 c) 9).trans (mset_ne (by first | exact nz1 (by decide) | exact nz2 (by decide) | exact nz1 (nzA hc0 (by decide)) | exact nz1 (nzE (by decide)) | exact nz1 (nzB hc0 (by decide)) | exact nz1 (nzC hc0 (by decide)) | exact nz1 (nzD hc0 (by decide)) | exact nz1 (nzF (by decide)) | exact nz1 (nzG (by decide)) | omega))); have f1 := congrArg Int32.toInt (hf_N108 c 9 (by first | decide | (rcases hc0 with h | h <;> rw [h] <;> simp; done) | (rcases hb0 with h | h | h <;> rw [h] <;> simp; done) | (simp; done) | omega)); have f2 := congrArg Int32.toInt (hf_N39 c 9 (by first | decide | (rcases hc0 with h | h <;> rw [h] <;> simp; done) | (rcases hb0 with h | h | h <;> rw [h] <;> simp; done) | (simp; done) | omega)); omega)⟩ (by have f0 := t_lit 1; have f1 := t_add y5_8 (nI 1); omega)
          refine wp_ite (fun c76 => ?_) (fun c76 => ?_)
          · have j89 : ∀ (N89 : Mem), (∀ a i, ¬ (a = (c + 1) ∨ a = (c + 2) ∨ (a = c ∧ i = 7)) → N89 a i = N39 a i) → Wp (f_X3_compileSum_L89 ag8 y5_8 r_5 t0_72 N89) (fun q => (q.1 = 0 ∨ q.1 = 1) ∧ (∀ a i, ¬ ((a = 19 ∧ i = 3) ∨ (a = 19 ∧ i = 4) ∨ a = (c + 1) ∨ a = (c + 2) ∨ (a = c ∧ i = 7) ∨ (a = c ∧ i = 9)) → q.2 a i = M a i) ∧ ((q.2 c 9).toInt = 0 ∨ (q.2 c 9).toInt = 1)) := by
              intro N89 hf_N89
              unfold f_X3_compileSum_L89
              have j105 : Wp (f_X3_compileSum_L105 ag8 y5_8 r_5 t0_72 N89) (fun q => (q.1 = 0 ∨ q.1 = 1) ∧ (∀ a i, ¬ ((a = 19 ∧ i = 3) ∨ (a = 19 ∧ i = 4) ∨ a = (c + 1) ∨ a = (c + 2) ∨ (a = c ∧ i = 7) ∨ (a = c ∧ i = 9)) → q.2 a i = M a i) ∧ ((q.2 c 9).toInt = 0 ∨ (q.2 c 9).toInt = 1)) := by
                unfold f_X3_compileSum_L105
                exact j108 N89 r_5 (fun a i q0 => ((hf_N89 a i (fun z8 => q0 ((fun z9 => Or.elim z9 (fun h9 => Or.inl h9) (fun z9 => Or.elim z9 (fun h9 => Or.inr (Or.inl h9)) (fun h9 => Or.inr (Or.inr (h9))))) z8))).trans rfl))
              refine wp_ite (fun c93 => ?_) (fun c93 => ?_)
              · exact j105
              · refine wp_ite (fun c100 => ?_) (fun c100 => ?_)
                · exact j105
                · exact wp_some ⟨b01_1, (fun a i q0 => ((hf_N89 a i (fun z8 => q0 ((fun z9 => Or.elim z9 (fun h9 => Or.inr (Or.inr (Or.inl h9))) (fun z9 => Or.elim z9 (fun h9 => Or.inr (Or.inr (Or.inr (Or.inl h9)))) (fun h9 => Or.inr (Or.inr (Or.inr (Or.inr (Or.inl h9))))))) z8))).trans ((hf_N39 a i (fun z8 => q0 ((fun z9 => Or.elim z9 (fun h9 => Or.inr (Or.inr (Or.inl h9))) (fun z9 => Or.elim z9 (fun h9 => Or.inr (Or.inr (Or.inr (Or.inl h9)))) (fun h9 => Or.inr (Or.inr (Or.inr (Or.inr (Or.inl h9))))))) z8))).trans ((hg_M_4 a i (fun z8 => q0 ((fun z9 => Or.elim z9 (fun h9 => Or.inl h9) (fun z9 => Or.elim z9 (fun h9 => Or.inr (Or.inl h9)) (fun z9 => Or.elim z9 (fun h9 => Or.inr (Or.inr (Or.inl h9))) (fun z9 => Or.elim z9 (fun h9 => Or.inr (Or.inr (Or.inr (Or.inl h9)))) (fun z9 => Or.elim z9 (fun h9 => Or.inr (Or.inr (Or.inr (Or.inr (Or.inl h9))))) (fun h9 => Or.inr (Or.inr (Or.inr (Or.inr (Or.inr (h9))))))))))) z8))).trans ((hf_M8 a i (fun z8 => q0 ((fun z9 => Or.elim z9 (fun h9 => Or.inl h9) (fun z9 => Or.elim z9 (fun h9 => Or.inr (Or.inl h9)) (fun z9 => Or.elim z9 (fun h9 => Or.inr (Or.inr (Or.inl h9))) (fun z9 => Or.elim z9 (fun h9 => Or.inr (Or.inr (Or.inr (Or.inl h9)))) (fun z9 => Or.elim z9 (fun h9 => Or.inr (Or.inr (Or.inr (Or.inr (Or.inl h9))))) (fun h9 => Or.inr (Or.inr (Or.inr (Or.inr (Or.inr (h9))))))))))) z8))).trans rfl))))), (by show (N89 c 9).toInt = 0 ∨ (N89 c 9).toInt = 1; have f0 := congrArg Int32.toInt (hf_N89 c 9 (by first | decide | (rcases hc0 with h | h <;> rw [h] <;> simp; done) | (rcases hb0 with h | h | h <;> rw [h] <;> simp; done) | (simp; done) | omega)); have f1 := congrArg Int32.toInt (hf_N39 c 9 (by first | decide | (rcases hc0 with h | h <;> rw [h] <;> simp; done) | (rcases hb0 with h | h | h <;> rw [h] <;> simp; done) | (simp; done) | omega)); have f2 := t_lit 1; omega)⟩
            refine wp_ite (fun c80 => ?_) (fun c80 => ?_)
            · exact j89 N39 (fun _ _ _ => rfl)
            · refine wp_bind2 (o_X3_order hc N39 y3_8 (nI 0)) (fun M_7 he86 hq86 => ?_)
              have hg_M_7 := hq86
              replace hg_M_7 : ∀ a i, ¬ (a = (c + 1) ∨ a = (c + 2) ∨ (a = c ∧ i = 7)) → M_7 a i = N39 a i := by exact fun a i q0 => hg_M_7 a i (by first | decide | (rcases hc0 with h | h <;> rw [h] <;> simp; done) | (rcases hb0 with h | h | h <;> rw [h] <;> simp; done) | (simp; done) | omega)
              exact j89 M_7 (fun a i q0 => ((hg_M_7 a i (fun z8 => q0 ((fun z9 => Or.elim z9 (fun h9 => Or.inl h9) (fun z9 => Or.elim z9 (fun h9 => Or.inr (Or.inl h9)) (fun h9 => Or.inr (Or.inr (h9))))) z8))).trans rfl))
          · exact j108 N39 y3_8 (fun _ _ _ => rfl)
        have j66 : Wp (f_X3_compileSum_L66 c ag8 y3_8 y5_8 N39 r_5) (fun q => (q.1 = 0 ∨ q.1 = 1) ∧ (∀ a i, ¬ ((a = 19 ∧ i = 3) ∨ (a = 19 ∧ i = 4) ∨ a = (c + 1) ∨ a = (c + 2) ∨ (a = c ∧ i = 7) ∨ (a = c ∧ i = 9)) → q.2 a i = M a i) ∧ ((q.2 c 9).toInt = 0 ∨ (q.2 c 9).toInt = 1)) := by
          unfold f_X3_compileSum_L66
          exact j72 r_5
        refine wp_ite (fun c49 => ?_) (fun c49 => ?_)
        · exact j66
        · refine wp_ite (fun c56 => ?_) (fun c56 => ?_)
          · exact j66
          · refine wp_ite (fun c63 => ?_) (fun c63 => ?_)
            · exact j66
            · exact j72 (nI 0)
      refine wp_ite (fun c29 => ?_) (fun c29 => ?_)
      · exact j39 M_4 (fun _ _ _ => rfl)
      · refine wp_bind2 (o_X3_order hc M_4 y4_8 (nI 0)) (fun M_8 he36 hq36 => ?_)
        have hg_M_8 := hq36
        replace hg_M_8 : ∀ a i, ¬ (a = (c + 1) ∨ a = (c + 2) ∨ (a = c ∧ i = 7)) → M_8 a i = M_4 a i := by exact fun a i q0 => hg_M_8 a i (by first | decide | (rcases hc0 with h | h <;> rw [h] <;> simp; done) | (rcases hb0 with h | h | h <;> rw [h] <;> simp; done) | (simp; done) | omega)
        exact j39 M_8 (fun a i q0 => ((hg_M_8 a i (fun z8 => q0 ((fun z9 => Or.elim z9 (fun h9 => Or.inl h9) (fun z9 => Or.elim z9 (fun h9 => Or.inr (Or.inl h9)) (fun h9 => Or.inr (Or.inr (h9))))) z8))).trans rfl))
theorem o_X3_compileFactor {c : Nat} (hc : isL c) {KS : Int} {S_X3_compileSum : Mem → Int32 → Option (Int32 × Mem)} (hS_X3_compileSum : ∀ (M : Mem) (v2 : Int32) (ho : KS ≤ v2.toInt ∧ v2.toInt ≤ 6) (hb : (M c 9).toInt = 0 ∨ (M c 9).toInt = 1), Wp (S_X3_compileSum M v2) (fun q => (q.1 = 0 ∨ q.1 = 1) ∧ (∀ a i, ¬ ((a = 19 ∧ i = 3) ∨ (a = 19 ∧ i = 4) ∨ a = (c + 1) ∨ a = (c + 2) ∨ (a = c ∧ i = 7) ∨ (a = c ∧ i = 9)) → q.2 a i = M a i) ∧ ((q.2 c 9).toInt = 0 ∨ (q.2 c 9).toInt = 1))) (M : Mem) (v2 : Int32) (ho : KS ≤ v2.toInt + 1 ∧ 0 ≤ v2.toInt ∧ v2.toInt ≤ 6) (hb : (M c 9).toInt = 0 ∨ (M c 9).toInt = 1) : Wp (f_X3_compileFactor S_X3_compileSum c M v2) (fun q => (q.1 = 0 ∨ q.1 = 1) ∧ (∀ a i, ¬ ((a = 19 ∧ i = 3) ∨ (a = 19 ∧ i = 4) ∨ a = (c + 1) ∨ a = (c + 2) ∨ (a = c ∧ i = 7) ∨ (a = c ∧ i = 9)) → q.2 a i = M a i) ∧ ((q.2 c 9).toInt = 0 ∨ (q.2 c 9).toInt = 1)) := by
  have hc0 : c = 44 ∨ c = 52 := hc
  refine wp_bind2 (o_X7_here M) (fun r_1 he1 hq1 => ?_)
  refine wp_ite (fun c8 => ?_) (fun c8 => ?_)
  · refine wp_ite (fun c14 => ?_) (fun c14 => ?_)
    · refine wp_bnd (fun M_12 eM_12 => ?_)
      refine wp_cb2 (hS_X3_compileSum M_12 (v2 + (nI 1)) (by have f0 := t_lit 1; have f1 := t_add v2 (nI 1); omega) (by have f0 := congrArg Int32.toInt ((congrFun (congrFun eM_12 c) 9).trans (mset_ne (by first | exact nz1 (by decide) | exact nz2 (by decide) | exact nz1 (nzA hc0 (by decide)) | exact nz1 (nzE (by decide)) | exact nz1 (nzB hc0 (by decide)) | exact nz1 (nzC hc0 (by decide)) | exact nz1 (nzD hc0 (by decide)) | exact nz1 (nzF (by decide)) | exact nz1 (nzG (by decide)) | omega))); have f1 := t_lit 1; have f2 := t_add v2 (nI 1); omega)) (fun r_13 M_14 he42 hq42 => ?_)
      obtain ⟨hz_r_13, hg_M_14, hb_42⟩ := hq42
      replace hb_42 : (M_14 c 9).toInt = 0 ∨ (M_14 c 9).toInt = 1 := hb_42
      replace hg_M_14 : ∀ a i, ¬ ((a = 19 ∧ i = 3) ∨ (a = 19 ∧ i = 4) ∨ a = (c + 1) ∨ a = (c + 2) ∨ (a = c ∧ i = 7) ∨ (a = c ∧ i = 9)) → M_14 a i = M_12 a i := hg_M_14
      refine wp_ite (fun c45 => ?_) (fun c45 => ?_)
      · exact wp_some ⟨b01_0, (fun a i q0 => ((hg_M_14 a i (fun z8 => q0 ((fun z9 => Or.elim z9 (fun h9 => Or.inl h9) (fun z9 => Or.elim z9 (fun h9 => Or.inr (Or.inl h9)) (fun z9 => Or.elim z9 (fun h9 => Or.inr (Or.inr (Or.inl h9))) (fun z9 => Or.elim z9 (fun h9 => Or.inr (Or.inr (Or.inr (Or.inl h9)))) (fun z9 => Or.elim z9 (fun h9 => Or.inr (Or.inr (Or.inr (Or.inr (Or.inl h9))))) (fun h9 => Or.inr (Or.inr (Or.inr (Or.inr (Or.inr (h9))))))))))) z8))).trans ((congrFun (congrFun eM_12 a) i).trans ((mset_ne (fun h9 => q0 (Or.inl h9))).trans rfl)))), (by show (M_14 c 9).toInt = 0 ∨ (M_14 c 9).toInt = 1; have f0 := t_lit 0; omega)⟩
      · refine wp_cb2 (o_X7_skip M_14 (nI 93)) (fun r_15 M_16 he51 hq51 => ?_)
        obtain ⟨hz_r_15, hg_M_16⟩ := hq51
        replace hg_M_16 : ∀ a i, ¬ ((a = 19 ∧ i = 3) ∨ (a = 19 ∧ i = 4)) → M_16 a i = M_14 a i := hg_M_16
        refine wp_ite (fun c54 => ?_) (fun c54 => ?_)
        · exact wp_some ⟨b01_0, (fun a i q0 => ((hg_M_16 a i (fun z8 => q0 ((fun z9 => Or.elim z9 (fun h9 => Or.inl h9) (fun h9 => Or.inr (Or.inl h9))) z8))).trans ((hg_M_14 a i (fun z8 => q0 ((fun z9 => Or.elim z9 (fun h9 => Or.inl h9) (fun z9 => Or.elim z9 (fun h9 => Or.inr (Or.inl h9)) (fun z9 => Or.elim z9 (fun h9 => Or.inr (Or.inr (Or.inl h9))) (fun z9 => Or.elim z9 (fun h9 => Or.inr (Or.inr (Or.inr (Or.inl h9)))) (fun z9 => Or.elim z9 (fun h9 => Or.inr (Or.inr (Or.inr (Or.inr (Or.inl h9))))) (fun h9 => Or.inr (Or.inr (Or.inr (Or.inr (Or.inr (h9))))))))))) z8))).trans ((congrFun (congrFun eM_12 a) i).trans ((mset_ne (fun h9 => q0 (Or.inl h9))).trans rfl))))), (by show (M_16 c 9).toInt = 0 ∨ (M_16 c 9).toInt = 1; have f0 := congrArg Int32.toInt (hg_M_16 c 9 (by first | decide | (rcases hc0 with h | h <;> rw [h] <;> simp; done) | (rcases hb0 with h | h | h <;> rw [h] <;> simp; done) | (simp; done) | omega)); have f1 := t_lit 0; omega)⟩
        · exact wp_some ⟨b01_1, (fun a i q0 => ((hg_M_16 a i (fun z8 => q0 ((fun z9 => Or.elim z9 (fun h9 => Or.inl h9) (fun h9 => Or.inr (Or.inl h9))) z8))).trans ((hg_M_14 a i (fun z8 => q0 ((fun z9 => Or.elim z9 (fun h9 => Or.inl h9) (fun z9 => Or.elim z9 (fun h9 => Or.inr (Or.inl h9)) (fun z9 => Or.elim z9 (fun h9 => Or.inr (Or.inr (Or.inl h9))) (fun z9 => Or.elim z9 (fun h9 => Or.inr (Or.inr (Or.inr (Or.inl h9)))) (fun z9 => Or.elim z9 (fun h9 => Or.inr (Or.inr (Or.inr (Or.inr (Or.inl h9))))) (fun h9 => Or.inr (Or.inr (Or.inr (Or.inr (Or.inr (h9))))))))))) z8))).trans ((congrFun (congrFun eM_12 a) i).trans ((mset_ne (fun h9 => q0 (Or.inl h9))).trans rfl))))), (by show (M_16 c 9).toInt = 0 ∨ (M_16 c 9).toInt = 1; have f0 := congrArg Int32.toInt (hg_M_16 c 9 (by first | decide | (rcases hc0 with h | h <;> rw [h] <;> simp; done) | (rcases hb0 with h | h | h <;> rw [h] <;> simp; done) | (simp; done) | omega)); have f1 := t_lit 1; omega)⟩
    · refine wp_cb2 (o_X7_refuse M (nI 5) (M 19 3)) (fun r_17 M_18 he23 hq23 => ?_)
      obtain ⟨hz_r_17, hg_M_18⟩ := hq23
      replace hg_M_18 : ∀ a i, ¬ ((a = 19 ∧ i = 4)) → M_18 a i = M a i := hg_M_18
      refine wp_gb hz_r_17 ?_
      exact wp_some ⟨hz_r_17, (fun a i q0 => ((hg_M_18 a i (fun h9 => q0 (Or.inr (Or.inl h9)))).trans rfl)), (by show (M_18 c 9).toInt = 0 ∨ (M_18 c 9).toInt = 1; have f0 := congrArg Int32.toInt (hg_M_18 c 9 (by first | decide | (rcases hc0 with h | h <;> rw [h] <;> simp; done) | (rcases hb0 with h | h | h <;> rw [h] <;> simp; done) | (simp; done) | omega)); omega)⟩
  · refine wp_bind2 (o_X7_isDigit M r_1) (fun r_2 he64 hq64 => ?_)
    have hz_r_2 := hq64
    refine wp_ite (fun c67 => ?_) (fun c67 => ?_)
    · refine wp_bind2 (o_X5_indexOf M r_1) (fun r_3 he98 hq98 => ?_)
      refine wp_ite (fun c106 => ?_) (fun c106 => ?_)
      · refine wp_cb2 (o_X7_refuse M (nI 1) (M 19 3)) (fun r_7 M_8 he115 hq115 => ?_)
        obtain ⟨hz_r_7, hg_M_8⟩ := hq115
        replace hg_M_8 : ∀ a i, ¬ ((a = 19 ∧ i = 4)) → M_8 a i = M a i := hg_M_8
        refine wp_gb hz_r_7 ?_
        exact wp_some ⟨hz_r_7, (fun a i q0 => ((hg_M_8 a i (fun h9 => q0 (Or.inr (Or.inl h9)))).trans rfl)), (by show (M_8 c 9).toInt = 0 ∨ (M_8 c 9).toInt = 1; have f0 := congrArg Int32.toInt (hg_M_8 c 9 (by first | decide | (rcases hc0 with h | h <;> rw [h] <;> simp; done) | (rcases hb0 with h | h | h <;> rw [h] <;> simp; done) | (simp; done) | omega)); omega)⟩
      · have j135 : ∀ (t0_135 : Int32), (t0_135 = 0 ∨ t0_135 = 1) → Wp (f_X3_compileFactor_L135 c M r_3 t0_135) (fun q => (q.1 = 0 ∨ q.1 = 1) ∧ (∀ a i, ¬ ((a = 19 ∧ i = 3) ∨ (a = 19 ∧ i = 4) ∨ a = (c + 1) ∨ a = (c + 2) ∨ (a = c ∧ i = 7) ∨ (a = c ∧ i = 9)) → q.2 a i = M a i) ∧ ((q.2 c 9).toInt = 0 ∨ (q.2 c 9).toInt = 1)) := by
          intro t0_135 hb_t0_135
          unfold f_X3_compileFactor_L135
          have hor := b01_to (b01_or (b01_of hb) hb_t0_135)
          refine wp_gb (b01_or (b01_of hb) hb_t0_135) ?_
          refine wp_bnd (fun M_4 eM_4 => ?_)
          refine wp_bnd (fun M_5 eM_5 => ?_)
          refine wp_bind2 (o_X3_order hc M_5 (nI 97) r_3) (fun M_6 he154 hq154 => ?_)
          have hg_M_6 := hq154
          replace hg_M_6 : ∀ a i, ¬ (a = (c + 1) ∨ a = (c + 2) ∨ (a = c ∧ i = 7)) → M_6 a i = M_5 a i := by exact fun a i q0 => hg_M_6 a i (by first | decide | (rcases hc0 with h | h <;> rw [h] <;> simp; done) | (rcases hb0 with h | h | h <;> rw [h] <;> simp; done) | (simp; done) | omega)
          exact wp_some ⟨b01_1, (fun a i q0 => ((hg_M_6 a i (fun z8 => q0 ((fun z9 => Or.elim z9 (fun h9 => Or.inr (Or.inr (Or.inl h9))) (fun z9 => Or.elim z9 (fun h9 => Or.inr (Or.inr (Or.inr (Or.inl h9)))) (fun h9 => Or.inr (Or.inr (Or.inr (Or.inr (Or.inl h9))))))) z8))).trans ((congrFun (congrFun eM_5 a) i).trans ((mset_ne (fun h9 => q0 (Or.inl h9))).trans ((congrFun (congrFun eM_4 a) i).trans ((mset_ne (fun h9 => q0 (Or.inr (Or.inr (Or.inr (Or.inr (Or.inr (h9)))))))).trans rfl)))))), (by show (M_6 c 9).toInt = 0 ∨ (M_6 c 9).toInt = 1; have f0 := congrArg Int32.toInt (hg_M_6 c 9 (by first | decide | (rcases hc0 with h | h <;> rw [h] <;> simp; done) | (rcases hb0 with h | h | h <;> rw [h] <;> simp; done) | (simp; done) | omega)); have f1 := congrArg Int32.toInt ((congrFun (congrFun eM_5 c) 9).trans (mset_ne (by first | exact nz1 (by decide) | exact nz2 (by decide) | exact nz1 (nzA hc0 (by decide)) | exact nz1 (nzE (by decide)) | exact nz1 (nzB hc0 (by decide)) | exact nz1 (nzC hc0 (by decide)) | exact nz1 (nzD hc0 (by decide)) | exact nz1 (nzF (by decide)) | exact nz1 (nzG (by decide)) | omega))); have f2 := congrArg Int32.toInt ((congrFun (congrFun eM_4 c) 9).trans mset_eq); have f3 := t_lit 1; omega)⟩
        refine wp_ite (fun c127 => ?_) (fun c127 => ?_)
        · exact j135 (nI 1) b01_1
        · exact j135 (nI 0) b01_0
    · refine wp_cb2 (o_X7_number M (nI 5)) (fun r_9 M_10 he72 hq72 => ?_)
      have hg_M_10 := hq72
      replace hg_M_10 : ∀ a i, ¬ ((a = 19 ∧ i = 3) ∨ (a = 19 ∧ i = 4)) → M_10 a i = M a i := hg_M_10
      refine wp_bind2 (o_X3_order hc M_10 (nI 48) r_9) (fun M_11 he82 hq82 => ?_)
      have hg_M_11 := hq82
      replace hg_M_11 : ∀ a i, ¬ (a = (c + 1) ∨ a = (c + 2) ∨ (a = c ∧ i = 7)) → M_11 a i = M_10 a i := by exact fun a i q0 => hg_M_11 a i (by first | decide | (rcases hc0 with h | h <;> rw [h] <;> simp; done) | (rcases hb0 with h | h | h <;> rw [h] <;> simp; done) | (simp; done) | omega)
      refine wp_ite (fun c88 => ?_) (fun c88 => ?_)
      · exact wp_some ⟨b01_0, (fun a i q0 => ((hg_M_11 a i (fun z8 => q0 ((fun z9 => Or.elim z9 (fun h9 => Or.inr (Or.inr (Or.inl h9))) (fun z9 => Or.elim z9 (fun h9 => Or.inr (Or.inr (Or.inr (Or.inl h9)))) (fun h9 => Or.inr (Or.inr (Or.inr (Or.inr (Or.inl h9))))))) z8))).trans ((hg_M_10 a i (fun z8 => q0 ((fun z9 => Or.elim z9 (fun h9 => Or.inl h9) (fun h9 => Or.inr (Or.inl h9))) z8))).trans rfl))), (by show (M_11 c 9).toInt = 0 ∨ (M_11 c 9).toInt = 1; have f0 := congrArg Int32.toInt (hg_M_11 c 9 (by first | decide | (rcases hc0 with h | h <;> rw [h] <;> simp; done) | (rcases hb0 with h | h | h <;> rw [h] <;> simp; done) | (simp; done) | omega)); have f1 := congrArg Int32.toInt (hg_M_10 c 9 (by first | decide | (rcases hc0 with h | h <;> rw [h] <;> simp; done) | (rcases hb0 with h | h | h <;> rw [h] <;> simp; done) | (simp; done) | omega)); have f2 := t_lit 0; omega)⟩
      · exact wp_some ⟨b01_1, (fun a i q0 => ((hg_M_11 a i (fun z8 => q0 ((fun z9 => Or.elim z9 (fun h9 => Or.inr (Or.inr (Or.inl h9))) (fun z9 => Or.elim z9 (fun h9 => Or.inr (Or.inr (Or.inr (Or.inl h9)))) (fun h9 => Or.inr (Or.inr (Or.inr (Or.inr (Or.inl h9))))))) z8))).trans ((hg_M_10 a i (fun z8 => q0 ((fun z9 => Or.elim z9 (fun h9 => Or.inl h9) (fun h9 => Or.inr (Or.inl h9))) z8))).trans rfl))), (by show (M_11 c 9).toInt = 0 ∨ (M_11 c 9).toInt = 1; have f0 := congrArg Int32.toInt (hg_M_11 c 9 (by first | decide | (rcases hc0 with h | h <;> rw [h] <;> simp; done) | (rcases hb0 with h | h | h <;> rw [h] <;> simp; done) | (simp; done) | omega)); have f1 := congrArg Int32.toInt (hg_M_10 c 9 (by first | decide | (rcases hc0 with h | h <;> rw [h] <;> simp; done) | (rcases hb0 with h | h | h <;> rw [h] <;> simp; done) | (simp; done) | omega)); have f2 := t_lit 1; omega)⟩
theorem og_sum {c : Nat} (hc : isL c) : ∀ (n : Nat) (K : Int) (M : Mem) (v2 : Int32), 0 ≤ K → 7 - K ≤ n → K ≤ v2.toInt ∧ v2.toInt ≤ 6 → ((M c 9).toInt = 0 ∨ (M c 9).toInt = 1) → Wp (g_sum c n M v2) (fun q => (q.1 = 0 ∨ q.1 = 1) ∧ (∀ a i, ¬ ((a = 19 ∧ i = 3) ∨ (a = 19 ∧ i = 4) ∨ a = (c + 1) ∨ a = (c + 2) ∨ (a = c ∧ i = 7) ∨ (a = c ∧ i = 9)) → q.2 a i = M a i) ∧ ((q.2 c 9).toInt = 0 ∨ (q.2 c 9).toInt = 1))
  | 0 => fun K M v2 h0 h1 h2 _ => absurd h1 (by omega)
  | n + 1 => fun K M v2 h0 h1 h2 hb => o_X3_compileSum hc (KS := K) (fun M v h hb => o_X3_compileFactor hc (KS := K + 1) (fun M w h3 hb => og_sum hc n (K + 1) M w (by omega) (by omega) h3 hb) M v (by omega) hb) M v2 h2 hb
theorem og_sum8 {c : Nat} (hc : isL c) (M : Mem) (v2 : Int32) (ho : 0 ≤ v2.toInt ∧ v2.toInt ≤ 6) (hb : (M c 9).toInt = 0 ∨ (M c 9).toInt = 1) : Wp (g_sum c 8 M v2) (fun q => (q.1 = 0 ∨ q.1 = 1) ∧ (∀ a i, ¬ ((a = 19 ∧ i = 3) ∨ (a = 19 ∧ i = 4) ∨ a = (c + 1) ∨ a = (c + 2) ∨ (a = c ∧ i = 7) ∨ (a = c ∧ i = 9)) → q.2 a i = M a i) ∧ ((q.2 c 9).toInt = 0 ∨ (q.2 c 9).toInt = 1)) := og_sum hc 8 0 M v2 (by omega) (by omega) ho hb
theorem o_X3_compileChoice {c : Nat} (hc : isL c) {KS : Int} {S_X3_compileTest : Mem → Int32 → Option (Int32 × Mem)} (hS_X3_compileTest : ∀ (M : Mem) (v2 : Int32) (ho : KS ≤ v2.toInt ∧ v2.toInt ≤ 6) (hb : (M c 9).toInt = 0 ∨ (M c 9).toInt = 1), Wp (S_X3_compileTest M v2) (fun q => (q.1 = 0 ∨ q.1 = 1) ∧ (∀ a i, ¬ ((a = 19 ∧ i = 3) ∨ (a = 19 ∧ i = 4) ∨ a = (c + 1) ∨ a = (c + 2) ∨ (a = c ∧ i = 7) ∨ (a = c ∧ i = 9)) → q.2 a i = M a i) ∧ ((q.2 c 9).toInt = 0 ∨ (q.2 c 9).toInt = 1))) (M : Mem) (v2 : Int32) (ho : (KS ≤ v2.toInt ∧ v2.toInt ≤ 6) ∧ 0 ≤ v2.toInt) (hb : (M c 9).toInt = 0 ∨ (M c 9).toInt = 1) : Wp (f_X3_compileChoice S_X3_compileTest c M v2) (fun q => (q.1 = 0 ∨ q.1 = 1) ∧ (∀ a i, ¬ ((a = 19 ∧ i = 3) ∨ (a = 19 ∧ i = 4) ∨ a = (c + 1) ∨ a = (c + 2) ∨ (a = c ∧ i = 7) ∨ (a = c ∧ i = 9)) → q.2 a i = M a i) ∧ ((q.2 c 9).toInt = 0 ∨ (q.2 c 9).toInt = 1)) := by
  have hc0 : c = 44 ∨ c = 52 := hc
  refine wp_lp4 (fun M8 y3_8 y4_8 y5_8 => (0 ≤ y5_8.toInt) ∧ (∀ a i, ¬ ((a = 19 ∧ i = 3) ∨ (a = 19 ∧ i = 4) ∨ a = (c + 1) ∨ a = (c + 2) ∨ (a = c ∧ i = 7) ∨ (a = c ∧ i = 9)) → M8 a i = M a i) ∧ ((M8 c 9).toInt = 0 ∨ (M8 c 9).toInt = 1)) (fun M8 y3_8 y4_8 y5_8 => (240 - y5_8.toInt).toNat) (fun ag8 M8 y3_8 y4_8 y5_8 hI8 ih8 => ?_) FU M (-1) (-1) (nI 0) ⟨(by have f0 := t_lit 0; omega), (fun _ _ _ => rfl), hb⟩ (fu_lt (by have f0 := t_lit 0; omega))
  obtain ⟨hi8, hf_M8, hb8⟩ := hI8
  have j99 : Wp (f_X3_compileChoice_L99 M8) (fun q => (q.1 = 0 ∨ q.1 = 1) ∧ (∀ a i, ¬ ((a = 19 ∧ i = 3) ∨ (a = 19 ∧ i = 4) ∨ a = (c + 1) ∨ a = (c + 2) ∨ (a = c ∧ i = 7) ∨ (a = c ∧ i = 9)) → q.2 a i = M a i) ∧ ((q.2 c 9).toInt = 0 ∨ (q.2 c 9).toInt = 1)) := by
    unfold f_X3_compileChoice_L99
    refine wp_cb2 (o_X7_refuse M8 (nI 1) (M8 19 3)) (fun r_1 M_2 he105 hq105 => ?_)
    obtain ⟨hz_r_1, hg_M_2⟩ := hq105
    replace hg_M_2 : ∀ a i, ¬ ((a = 19 ∧ i = 4)) → M_2 a i = M8 a i := hg_M_2
    refine wp_gb hz_r_1 ?_
    exact wp_some ⟨hz_r_1, (fun a i q0 => ((hg_M_2 a i (fun h9 => q0 (Or.inr (Or.inl h9)))).trans ((hf_M8 a i (fun z8 => q0 ((fun z9 => Or.elim z9 (fun h9 => Or.inl h9) (fun z9 => Or.elim z9 (fun h9 => Or.inr (Or.inl h9)) (fun z9 => Or.elim z9 (fun h9 => Or.inr (Or.inr (Or.inl h9))) (fun z9 => Or.elim z9 (fun h9 => Or.inr (Or.inr (Or.inr (Or.inl h9)))) (fun z9 => Or.elim z9 (fun h9 => Or.inr (Or.inr (Or.inr (Or.inr (Or.inl h9))))) (fun h9 => Or.inr (Or.inr (Or.inr (Or.inr (Or.inr (h9))))))))))) z8))).trans rfl))), (by show (M_2 c 9).toInt = 0 ∨ (M_2 c 9).toInt = 1; have f0 := congrArg Int32.toInt (hg_M_2 c 9 (by first | decide | (rcases hc0 with h | h <;> rw [h] <;> simp; done) | (rcases hb0 with h | h | h <;> rw [h] <;> simp; done) | (simp; done) | omega)); omega)⟩
  refine wp_ite (fun c13 => ?_) (fun c13 => ?_)
  · exact j99
  · refine wp_cb2 (hS_X3_compileTest M8 v2 (by omega) (by omega)) (fun r_3 M_4 he19 hq19 => ?_)
    obtain ⟨hz_r_3, hg_M_4, hb_19⟩ := hq19
    replace hb_19 : (M_4 c 9).toInt = 0 ∨ (M_4 c 9).toInt = 1 := hb_19
    replace hg_M_4 : ∀ a i, ¬ ((a = 19 ∧ i = 3) ∨ (a = 19 ∧ i = 4) ∨ a = (c + 1) ∨ a = (c + 2) ∨ (a = c ∧ i = 7) ∨ (a = c ∧ i = 9)) → M_4 a i = M8 a i := hg_M_4
    refine wp_ite (fun c22 => ?_) (fun c22 => ?_)
    · exact wp_some ⟨b01_0, (fun a i q0 => ((hg_M_4 a i (fun z8 => q0 ((fun z9 => Or.elim z9 (fun h9 => Or.inl h9) (fun z9 => Or.elim z9 (fun h9 => Or.inr (Or.inl h9)) (fun z9 => Or.elim z9 (fun h9 => Or.inr (Or.inr (Or.inl h9))) (fun z9 => Or.elim z9 (fun h9 => Or.inr (Or.inr (Or.inr (Or.inl h9)))) (fun z9 => Or.elim z9 (fun h9 => Or.inr (Or.inr (Or.inr (Or.inr (Or.inl h9))))) (fun h9 => Or.inr (Or.inr (Or.inr (Or.inr (Or.inr (h9))))))))))) z8))).trans ((hf_M8 a i (fun z8 => q0 ((fun z9 => Or.elim z9 (fun h9 => Or.inl h9) (fun z9 => Or.elim z9 (fun h9 => Or.inr (Or.inl h9)) (fun z9 => Or.elim z9 (fun h9 => Or.inr (Or.inr (Or.inl h9))) (fun z9 => Or.elim z9 (fun h9 => Or.inr (Or.inr (Or.inr (Or.inl h9)))) (fun z9 => Or.elim z9 (fun h9 => Or.inr (Or.inr (Or.inr (Or.inr (Or.inl h9))))) (fun h9 => Or.inr (Or.inr (Or.inr (Or.inr (Or.inr (h9))))))))))) z8))).trans rfl))), (by show (M_4 c 9).toInt = 0 ∨ (M_4 c 9).toInt = 1; have f0 := t_lit 0; omega)⟩
    · refine wp_bind2 (o_X3_landHere hc M_4 y3_8) (fun M_5 he29 hq29 => ?_)
      have hg_M_5 := hq29
      replace hg_M_5 : ∀ a i, ¬ (a = (c + 2)) → M_5 a i = M_4 a i := by exact fun a i q0 => hg_M_5 a i (by first | decide | (rcases hc0 with h | h <;> rw [h] <;> simp; done) | (rcases hb0 with h | h | h <;> rw [h] <;> simp; done) | (simp; done) | omega)
      refine wp_bind2 (o_X7_here M_5) (fun r_6 he35 hq35 => ?_)
      have j76 : ∀ (N76 : Mem), ∀ (z3_76 : Int32), ∀ (z4_76 : Int32), (∀ a i, ¬ (a = (c + 2)) → N76 a i = M_5 a i) → Wp (f_X3_compileChoice_L76 c ag8 y5_8 r_6 N76 z3_76 z4_76) (fun q => (q.1 = 0 ∨ q.1 = 1) ∧ (∀ a i, ¬ ((a = 19 ∧ i = 3) ∨ (a = 19 ∧ i = 4) ∨ a = (c + 1) ∨ a = (c + 2) ∨ (a = c ∧ i = 7) ∨ (a = c ∧ i = 9)) → q.2 a i = M a i) ∧ ((q.2 c 9).toInt = 0 ∨ (q.2 c 9).toInt = 1)) := by
        intro N76 z3_76 z4_76 hf_N76
        unfold f_X3_compileChoice_L76
        refine wp_bind2 (o_X3_order hc N76 r_6 (nI 0)) (fun M_7 he80 hq80 => ?_)
        have hg_M_7 := hq80
        replace hg_M_7 : ∀ a i, ¬ (a = (c + 1) ∨ a = (c + 2) ∨ (a = c ∧ i = 7)) → M_7 a i = N76 a i := by exact fun a i q0 => hg_M_7 a i (by first | decide | (rcases hc0 with h | h <;> rw [h] <;> simp; done) | (rcases hb0 with h | h | h <;> rw [h] <;> simp; done) | (simp; done) | omega)
        refine wp_bnd (fun M_8 eM_8 => ?_)
        exact ih8 M_8 z3_76 z4_76 (y5_8 + (nI 1)) ⟨(by have f0 := t_lit 1; have f1 := t_add y5_8 (nI 1); omega), (fun a i q0 => ((congrFun (congrFun eM_8 a) i).trans ((mset_ne (fun h9 => q0 (Or.inl h9))).trans ((hg_M_7 a i (fun z8 => q0 ((fun z9 => Or.elim z9 (fun h9 => Or.inr (Or.inr (Or.inl h9))) (fun z9 => Or.elim z9 (fun h9 => Or.inr (Or.inr (Or.inr (Or.inl h9)))) (fun h9 => Or.inr (Or.inr (Or.inr (Or.inr (Or.inl h9))))))) z8))).trans ((hf_N76 a i (fun h9 => q0 (Or.inr (Or.inr (Or.inr (Or.inl h9)))))).trans ((hg_M_5 a i (fun h9 => q0 (Or.inr (Or.inr (Or.inr (Or.inl h9)))))).trans ((hg_M_4 a i (fun z8 => q0 ((fun z9 => Or.elim z9 (fun h9 => Or.inl h9) (fun z9 => Or.elim z9 (fun h9 => Or.inr (Or.inl h9)) (fun z9 => Or.elim z9 (fun h9 => Or.inr (Or.inr (Or.inl h9))) (fun z9 => Or.elim z9 (fun h9 => Or.inr (Or.inr (Or.inr (Or.inl h9)))) (fun z9 => Or.elim z9 (fun h9 => Or.inr (Or.inr (Or.inr (Or.inr (Or.inl h9))))) (fun h9 => Or.inr (Or.inr (Or.inr (Or.inr (Or.inr (h9))))))))))) z8))).trans ((hf_M8 a i (fun z8 => q0 ((fun z9 => Or.elim z9 (fun h9 => Or.inl h9) (fun z9 => Or.elim z9 (fun h9 => Or.inr (Or.inl h9)) (fun z9 => Or.elim z9 (fun h9 => Or.inr (Or.inr (Or.inl h9))) (fun z9 => Or.elim z9 (fun h9 => Or.inr (Or.inr (Or.inr (Or.inl h9)))) (fun z9 => Or.elim z9 (fun h9 => Or.inr (Or.inr (Or.inr (Or.inr (Or.inl h9))))) (fun h9 => Or.inr (Or.inr (Or.inr (Or.inr (Or.inr (h9))))))))))) z8))).trans rfl)))))))), (by have f0 := congrArg Int32.toInt ((congrFun (congrFun eM_8 c) 9).trans (mset_ne (by first | exact nz1 (by decide) | exact nz2 (by decide) | exact nz1 (nzA hc0 (by decide)) | exact nz1 (nzE (by decide)) | exact nz1 (nzB hc0 (by decide)) | exact nz1 (nzC hc0 (by decide)) | exact nz1 (nzD hc0 (by decide)) | exact nz1 (nzF (by decide)) | exact nz1 (nzG (by decide)) | omega))); have f1 := congrArg Int32.toInt (hg_M_7 c 9 (by first | decide | (rcases hc0 with h | h <;> rw [h] <;> simp; done) | (rcases hb0 with h | h | h <;> rw [h] <;> simp; done) | (simp; done) | omega)); have f2 := congrArg Int32.toInt (hf_N76 c 9 (by first | decide | (rcases hc0 with h | h <;> rw [h] <;> simp; done) | (rcases hb0 with h | h | h <;> rw [h] <;> simp; done) | (simp; done) | omega)); have f3 := congrArg Int32.toInt (hg_M_5 c 9 (by first | decide | (rcases hc0 with h | h <;> rw [h] <;> simp; done) | (rcases hb0 with h | h | h <;> rw [h] <;> simp; done) | (simp; done) | omega)); omega)⟩ (by have f0 := t_lit 1; have f1 := t_add y5_8 (nI 1); omega)
      refine wp_ite (fun c44 => ?_) (fun c44 => ?_)
      · refine wp_bnd (fun x_11 ex_11 => ?_)
        exact j76 M_5 x_11 y4_8 (fun _ _ _ => rfl)
      · refine wp_bind2 (o_X3_landHere hc M_5 y4_8) (fun M_9 he58 hq58 => ?_)
        have hg_M_9 := hq58
        replace hg_M_9 : ∀ a i, ¬ (a = (c + 2)) → M_9 a i = M_5 a i := by exact fun a i q0 => hg_M_9 a i (by first | decide | (rcases hc0 with h | h <;> rw [h] <;> simp; done) | (rcases hb0 with h | h | h <;> rw [h] <;> simp; done) | (simp; done) | omega)
        refine wp_bnd (fun x_10 ex_10 => ?_)
        refine wp_ite (fun c71 => ?_) (fun c71 => ?_)
        · exact j76 M_9 (-1) x_10 (fun a i q0 => ((hg_M_9 a i (fun h9 => q0 (h9))).trans rfl))
        · exact wp_some ⟨b01_1, (fun a i q0 => ((hg_M_9 a i (fun h9 => q0 (Or.inr (Or.inr (Or.inr (Or.inl h9)))))).trans ((hg_M_5 a i (fun h9 => q0 (Or.inr (Or.inr (Or.inr (Or.inl h9)))))).trans ((hg_M_4 a i (fun z8 => q0 ((fun z9 => Or.elim z9 (fun h9 => Or.inl h9) (fun z9 => Or.elim z9 (fun h9 => Or.inr (Or.inl h9)) (fun z9 => Or.elim z9 (fun h9 => Or.inr (Or.inr (Or.inl h9))) (fun z9 => Or.elim z9 (fun h9 => Or.inr (Or.inr (Or.inr (Or.inl h9)))) (fun z9 => Or.elim z9 (fun h9 => Or.inr (Or.inr (Or.inr (Or.inr (Or.inl h9))))) (fun h9 => Or.inr (Or.inr (Or.inr (Or.inr (Or.inr (h9))))))))))) z8))).trans ((hf_M8 a i (fun z8 => q0 ((fun z9 => Or.elim z9 (fun h9 => Or.inl h9) (fun z9 => Or.elim z9 (fun h9 => Or.inr (Or.inl h9)) (fun z9 => Or.elim z9 (fun h9 => Or.inr (Or.inr (Or.inl h9))) (fun z9 => Or.elim z9 (fun h9 => Or.inr (Or.inr (Or.inr (Or.inl h9)))) (fun z9 => Or.elim z9 (fun h9 => Or.inr (Or.inr (Or.inr (Or.inr (Or.inl h9))))) (fun h9 => Or.inr (Or.inr (Or.inr (Or.inr (Or.inr (h9))))))))))) z8))).trans rfl))))), (by show (M_9 c 9).toInt = 0 ∨ (M_9 c 9).toInt = 1; have f0 := congrArg Int32.toInt (hg_M_9 c 9 (by first | decide | (rcases hc0 with h | h <;> rw [h] <;> simp; done) | (rcases hb0 with h | h | h <;> rw [h] <;> simp; done) | (simp; done) | omega)); have f1 := congrArg Int32.toInt (hg_M_5 c 9 (by first | decide | (rcases hc0 with h | h <;> rw [h] <;> simp; done) | (rcases hb0 with h | h | h <;> rw [h] <;> simp; done) | (simp; done) | omega)); have f2 := t_lit 1; omega)⟩
theorem o_X3_compileTest {c : Nat} (hc : isL c) {KS : Int} {S_X3_compileTest : Mem → Int32 → Option (Int32 × Mem)} (hS_X3_compileTest : ∀ (M : Mem) (v2 : Int32) (ho : KS ≤ v2.toInt ∧ v2.toInt ≤ 6) (hb : (M c 9).toInt = 0 ∨ (M c 9).toInt = 1), Wp (S_X3_compileTest M v2) (fun q => (q.1 = 0 ∨ q.1 = 1) ∧ (∀ a i, ¬ ((a = 19 ∧ i = 3) ∨ (a = 19 ∧ i = 4) ∨ a = (c + 1) ∨ a = (c + 2) ∨ (a = c ∧ i = 7) ∨ (a = c ∧ i = 9)) → q.2 a i = M a i) ∧ ((q.2 c 9).toInt = 0 ∨ (q.2 c 9).toInt = 1))) {S_X3_compileChoice : Mem → Int32 → Option (Int32 × Mem)} (hS_X3_compileChoice : ∀ (M : Mem) (v2 : Int32) (ho : KS ≤ v2.toInt ∧ v2.toInt ≤ 6) (hb : (M c 9).toInt = 0 ∨ (M c 9).toInt = 1), Wp (S_X3_compileChoice M v2) (fun q => (q.1 = 0 ∨ q.1 = 1) ∧ (∀ a i, ¬ ((a = 19 ∧ i = 3) ∨ (a = 19 ∧ i = 4) ∨ a = (c + 1) ∨ a = (c + 2) ∨ (a = c ∧ i = 7) ∨ (a = c ∧ i = 9)) → q.2 a i = M a i) ∧ ((q.2 c 9).toInt = 0 ∨ (q.2 c 9).toInt = 1))) (M : Mem) (v2 : Int32) (ho : KS ≤ v2.toInt + 1 ∧ 0 ≤ v2.toInt ∧ v2.toInt ≤ 6) (hb : (M c 9).toInt = 0 ∨ (M c 9).toInt = 1) : Wp (f_X3_compileTest S_X3_compileTest S_X3_compileChoice c M v2) (fun q => (q.1 = 0 ∨ q.1 = 1) ∧ (∀ a i, ¬ ((a = 19 ∧ i = 3) ∨ (a = 19 ∧ i = 4) ∨ a = (c + 1) ∨ a = (c + 2) ∨ (a = c ∧ i = 7) ∨ (a = c ∧ i = 9)) → q.2 a i = M a i) ∧ ((q.2 c 9).toInt = 0 ∨ (q.2 c 9).toInt = 1)) := by
  have hc0 : c = 44 ∨ c = 52 := hc
  refine wp_bind2 (o_X7_here M) (fun r_1 he1 hq1 => ?_)
  have j17 : Wp (f_X3_compileTest_L17 S_X3_compileTest S_X3_compileChoice c M v2 r_1) (fun q => (q.1 = 0 ∨ q.1 = 1) ∧ (∀ a i, ¬ ((a = 19 ∧ i = 3) ∨ (a = 19 ∧ i = 4) ∨ a = (c + 1) ∨ a = (c + 2) ∨ (a = c ∧ i = 7) ∨ (a = c ∧ i = 9)) → q.2 a i = M a i) ∧ ((q.2 c 9).toInt = 0 ∨ (q.2 c 9).toInt = 1)) := by
    unfold f_X3_compileTest_L17
    refine wp_ite (fun c20 => ?_) (fun c20 => ?_)
    · refine wp_bnd (fun M_2 eM_2 => ?_)
      refine wp_ite (fun c46 => ?_) (fun c46 => ?_)
      · refine wp_cb2 (hS_X3_compileChoice M_2 (v2 + (nI 1)) (by have f0 := t_lit 1; have f1 := t_add v2 (nI 1); omega) (by have f0 := congrArg Int32.toInt ((congrFun (congrFun eM_2 c) 9).trans (mset_ne (by first | exact nz1 (by decide) | exact nz2 (by decide) | exact nz1 (nzA hc0 (by decide)) | exact nz1 (nzE (by decide)) | exact nz1 (nzB hc0 (by decide)) | exact nz1 (nzC hc0 (by decide)) | exact nz1 (nzD hc0 (by decide)) | exact nz1 (nzF (by decide)) | exact nz1 (nzG (by decide)) | omega))); have f1 := t_lit 1; have f2 := t_add v2 (nI 1); omega)) (fun r_6 M_7 he54 hq54 => ?_)
        obtain ⟨hz_r_6, hg_M_7, hb_54⟩ := hq54
        replace hb_54 : (M_7 c 9).toInt = 0 ∨ (M_7 c 9).toInt = 1 := hb_54
        replace hg_M_7 : ∀ a i, ¬ ((a = 19 ∧ i = 3) ∨ (a = 19 ∧ i = 4) ∨ a = (c + 1) ∨ a = (c + 2) ∨ (a = c ∧ i = 7) ∨ (a = c ∧ i = 9)) → M_7 a i = M_2 a i := hg_M_7
        refine wp_ite (fun c57 => ?_) (fun c57 => ?_)
        · exact wp_some ⟨b01_0, (fun a i q0 => ((hg_M_7 a i (fun z8 => q0 ((fun z9 => Or.elim z9 (fun h9 => Or.inl h9) (fun z9 => Or.elim z9 (fun h9 => Or.inr (Or.inl h9)) (fun z9 => Or.elim z9 (fun h9 => Or.inr (Or.inr (Or.inl h9))) (fun z9 => Or.elim z9 (fun h9 => Or.inr (Or.inr (Or.inr (Or.inl h9)))) (fun z9 => Or.elim z9 (fun h9 => Or.inr (Or.inr (Or.inr (Or.inr (Or.inl h9))))) (fun h9 => Or.inr (Or.inr (Or.inr (Or.inr (Or.inr (h9))))))))))) z8))).trans ((congrFun (congrFun eM_2 a) i).trans ((mset_ne (fun h9 => q0 (Or.inl h9))).trans rfl)))), (by show (M_7 c 9).toInt = 0 ∨ (M_7 c 9).toInt = 1; have f0 := t_lit 0; omega)⟩
        · refine wp_cb2 (o_X7_skip M_7 (nI 41)) (fun r_8 M_9 he63 hq63 => ?_)
          obtain ⟨hz_r_8, hg_M_9⟩ := hq63
          replace hg_M_9 : ∀ a i, ¬ ((a = 19 ∧ i = 3) ∨ (a = 19 ∧ i = 4)) → M_9 a i = M_7 a i := hg_M_9
          refine wp_ite (fun c66 => ?_) (fun c66 => ?_)
          · exact wp_some ⟨b01_0, (fun a i q0 => ((hg_M_9 a i (fun z8 => q0 ((fun z9 => Or.elim z9 (fun h9 => Or.inl h9) (fun h9 => Or.inr (Or.inl h9))) z8))).trans ((hg_M_7 a i (fun z8 => q0 ((fun z9 => Or.elim z9 (fun h9 => Or.inl h9) (fun z9 => Or.elim z9 (fun h9 => Or.inr (Or.inl h9)) (fun z9 => Or.elim z9 (fun h9 => Or.inr (Or.inr (Or.inl h9))) (fun z9 => Or.elim z9 (fun h9 => Or.inr (Or.inr (Or.inr (Or.inl h9)))) (fun z9 => Or.elim z9 (fun h9 => Or.inr (Or.inr (Or.inr (Or.inr (Or.inl h9))))) (fun h9 => Or.inr (Or.inr (Or.inr (Or.inr (Or.inr (h9))))))))))) z8))).trans ((congrFun (congrFun eM_2 a) i).trans ((mset_ne (fun h9 => q0 (Or.inl h9))).trans rfl))))), (by show (M_9 c 9).toInt = 0 ∨ (M_9 c 9).toInt = 1; have f0 := congrArg Int32.toInt (hg_M_9 c 9 (by first | decide | (rcases hc0 with h | h <;> rw [h] <;> simp; done) | (rcases hb0 with h | h | h <;> rw [h] <;> simp; done) | (simp; done) | omega)); have f1 := t_lit 0; omega)⟩
          · exact wp_some ⟨b01_1, (fun a i q0 => ((hg_M_9 a i (fun z8 => q0 ((fun z9 => Or.elim z9 (fun h9 => Or.inl h9) (fun h9 => Or.inr (Or.inl h9))) z8))).trans ((hg_M_7 a i (fun z8 => q0 ((fun z9 => Or.elim z9 (fun h9 => Or.inl h9) (fun z9 => Or.elim z9 (fun h9 => Or.inr (Or.inl h9)) (fun z9 => Or.elim z9 (fun h9 => Or.inr (Or.inr (Or.inl h9))) (fun z9 => Or.elim z9 (fun h9 => Or.inr (Or.inr (Or.inr (Or.inl h9)))) (fun z9 => Or.elim z9 (fun h9 => Or.inr (Or.inr (Or.inr (Or.inr (Or.inl h9))))) (fun h9 => Or.inr (Or.inr (Or.inr (Or.inr (Or.inr (h9))))))))))) z8))).trans ((congrFun (congrFun eM_2 a) i).trans ((mset_ne (fun h9 => q0 (Or.inl h9))).trans rfl))))), (by show (M_9 c 9).toInt = 0 ∨ (M_9 c 9).toInt = 1; have f0 := congrArg Int32.toInt (hg_M_9 c 9 (by first | decide | (rcases hc0 with h | h <;> rw [h] <;> simp; done) | (rcases hb0 with h | h | h <;> rw [h] <;> simp; done) | (simp; done) | omega)); have f1 := t_lit 1; omega)⟩
      · refine wp_cb2 (hS_X3_compileTest M_2 (v2 + (nI 1)) (by have f0 := t_lit 1; have f1 := t_add v2 (nI 1); omega) (by have f0 := congrArg Int32.toInt ((congrFun (congrFun eM_2 c) 9).trans (mset_ne (by first | exact nz1 (by decide) | exact nz2 (by decide) | exact nz1 (nzA hc0 (by decide)) | exact nz1 (nzE (by decide)) | exact nz1 (nzB hc0 (by decide)) | exact nz1 (nzC hc0 (by decide)) | exact nz1 (nzD hc0 (by decide)) | exact nz1 (nzF (by decide)) | exact nz1 (nzG (by decide)) | omega))); have f1 := t_lit 1; have f2 := t_add v2 (nI 1); omega)) (fun r_3 M_4 he80 hq80 => ?_)
        obtain ⟨hz_r_3, hg_M_4, hb_80⟩ := hq80
        replace hb_80 : (M_4 c 9).toInt = 0 ∨ (M_4 c 9).toInt = 1 := hb_80
        replace hg_M_4 : ∀ a i, ¬ ((a = 19 ∧ i = 3) ∨ (a = 19 ∧ i = 4) ∨ a = (c + 1) ∨ a = (c + 2) ∨ (a = c ∧ i = 7) ∨ (a = c ∧ i = 9)) → M_4 a i = M_2 a i := hg_M_4
        refine wp_ite (fun c83 => ?_) (fun c83 => ?_)
        · exact wp_some ⟨b01_0, (fun a i q0 => ((hg_M_4 a i (fun z8 => q0 ((fun z9 => Or.elim z9 (fun h9 => Or.inl h9) (fun z9 => Or.elim z9 (fun h9 => Or.inr (Or.inl h9)) (fun z9 => Or.elim z9 (fun h9 => Or.inr (Or.inr (Or.inl h9))) (fun z9 => Or.elim z9 (fun h9 => Or.inr (Or.inr (Or.inr (Or.inl h9)))) (fun z9 => Or.elim z9 (fun h9 => Or.inr (Or.inr (Or.inr (Or.inr (Or.inl h9))))) (fun h9 => Or.inr (Or.inr (Or.inr (Or.inr (Or.inr (h9))))))))))) z8))).trans ((congrFun (congrFun eM_2 a) i).trans ((mset_ne (fun h9 => q0 (Or.inl h9))).trans rfl)))), (by show (M_4 c 9).toInt = 0 ∨ (M_4 c 9).toInt = 1; have f0 := t_lit 0; omega)⟩
        · refine wp_bind2 (o_X3_order hc M_4 (nI 33) (nI 0)) (fun M_5 he92 hq92 => ?_)
          have hg_M_5 := hq92
          replace hg_M_5 : ∀ a i, ¬ (a = (c + 1) ∨ a = (c + 2) ∨ (a = c ∧ i = 7)) → M_5 a i = M_4 a i := by exact fun a i q0 => hg_M_5 a i (by first | decide | (rcases hc0 with h | h <;> rw [h] <;> simp; done) | (rcases hb0 with h | h | h <;> rw [h] <;> simp; done) | (simp; done) | omega)
          exact wp_some ⟨b01_1, (fun a i q0 => ((hg_M_5 a i (fun z8 => q0 ((fun z9 => Or.elim z9 (fun h9 => Or.inr (Or.inr (Or.inl h9))) (fun z9 => Or.elim z9 (fun h9 => Or.inr (Or.inr (Or.inr (Or.inl h9)))) (fun h9 => Or.inr (Or.inr (Or.inr (Or.inr (Or.inl h9))))))) z8))).trans ((hg_M_4 a i (fun z8 => q0 ((fun z9 => Or.elim z9 (fun h9 => Or.inl h9) (fun z9 => Or.elim z9 (fun h9 => Or.inr (Or.inl h9)) (fun z9 => Or.elim z9 (fun h9 => Or.inr (Or.inr (Or.inl h9))) (fun z9 => Or.elim z9 (fun h9 => Or.inr (Or.inr (Or.inr (Or.inl h9)))) (fun z9 => Or.elim z9 (fun h9 => Or.inr (Or.inr (Or.inr (Or.inr (Or.inl h9))))) (fun h9 => Or.inr (Or.inr (Or.inr (Or.inr (Or.inr (h9))))))))))) z8))).trans ((congrFun (congrFun eM_2 a) i).trans ((mset_ne (fun h9 => q0 (Or.inl h9))).trans rfl))))), (by show (M_5 c 9).toInt = 0 ∨ (M_5 c 9).toInt = 1; have f0 := congrArg Int32.toInt (hg_M_5 c 9 (by first | decide | (rcases hc0 with h | h <;> rw [h] <;> simp; done) | (rcases hb0 with h | h | h <;> rw [h] <;> simp; done) | (simp; done) | omega)); have f1 := t_lit 1; omega)⟩
    · refine wp_cb2 (o_X7_refuse M (nI 5) (M 19 3)) (fun r_10 M_11 he29 hq29 => ?_)
      obtain ⟨hz_r_10, hg_M_11⟩ := hq29
      replace hg_M_11 : ∀ a i, ¬ ((a = 19 ∧ i = 4)) → M_11 a i = M a i := hg_M_11
      refine wp_gb hz_r_10 ?_
      exact wp_some ⟨hz_r_10, (fun a i q0 => ((hg_M_11 a i (fun h9 => q0 (Or.inr (Or.inl h9)))).trans rfl)), (by show (M_11 c 9).toInt = 0 ∨ (M_11 c 9).toInt = 1; have f0 := congrArg Int32.toInt (hg_M_11 c 9 (by first | decide | (rcases hc0 with h | h <;> rw [h] <;> simp; done) | (rcases hb0 with h | h | h <;> rw [h] <;> simp; done) | (simp; done) | omega)); omega)⟩
  refine wp_ite (fun c8 => ?_) (fun c8 => ?_)
  · exact j17
  · refine wp_ite (fun c14 => ?_) (fun c14 => ?_)
    · exact j17
    · refine wp_cb2 (og_sum8 hc M v2 (by omega) (by omega)) (fun r_12 M_13 he100 hq100 => ?_)
      obtain ⟨hz_r_12, hg_M_13, hb_100⟩ := hq100
      replace hb_100 : (M_13 c 9).toInt = 0 ∨ (M_13 c 9).toInt = 1 := hb_100
      replace hg_M_13 : ∀ a i, ¬ ((a = 19 ∧ i = 3) ∨ (a = 19 ∧ i = 4) ∨ a = (c + 1) ∨ a = (c + 2) ∨ (a = c ∧ i = 7) ∨ (a = c ∧ i = 9)) → M_13 a i = M a i := by exact fun a i q0 => hg_M_13 a i (by first | decide | (rcases hc0 with h | h <;> rw [h] <;> simp; done) | (rcases hb0 with h | h | h <;> rw [h] <;> simp; done) | (simp; done) | omega)
      refine wp_ite (fun c103 => ?_) (fun c103 => ?_)
      · exact wp_some ⟨b01_0, (fun a i q0 => ((hg_M_13 a i (fun z8 => q0 ((fun z9 => Or.elim z9 (fun h9 => Or.inl h9) (fun z9 => Or.elim z9 (fun h9 => Or.inr (Or.inl h9)) (fun z9 => Or.elim z9 (fun h9 => Or.inr (Or.inr (Or.inl h9))) (fun z9 => Or.elim z9 (fun h9 => Or.inr (Or.inr (Or.inr (Or.inl h9)))) (fun z9 => Or.elim z9 (fun h9 => Or.inr (Or.inr (Or.inr (Or.inr (Or.inl h9))))) (fun h9 => Or.inr (Or.inr (Or.inr (Or.inr (Or.inr (h9))))))))))) z8))).trans rfl)), (by show (M_13 c 9).toInt = 0 ∨ (M_13 c 9).toInt = 1; have f0 := t_lit 0; omega)⟩
      · refine wp_bind2 (o_X7_here M_13) (fun r_14 he109 hq109 => ?_)
        have j145 : Wp (f_X3_compileTest_L145 c v2 M_13 r_14) (fun q => (q.1 = 0 ∨ q.1 = 1) ∧ (∀ a i, ¬ ((a = 19 ∧ i = 3) ∨ (a = 19 ∧ i = 4) ∨ a = (c + 1) ∨ a = (c + 2) ∨ (a = c ∧ i = 7) ∨ (a = c ∧ i = 9)) → q.2 a i = M a i) ∧ ((q.2 c 9).toInt = 0 ∨ (q.2 c 9).toInt = 1)) := by
          unfold f_X3_compileTest_L145
          refine wp_bnd (fun M_15 eM_15 => ?_)
          refine wp_cb2 (og_sum8 hc M_15 v2 (by omega) (by have f0 := congrArg Int32.toInt ((congrFun (congrFun eM_15 c) 9).trans (mset_ne (by first | exact nz1 (by decide) | exact nz2 (by decide) | exact nz1 (nzA hc0 (by decide)) | exact nz1 (nzE (by decide)) | exact nz1 (nzB hc0 (by decide)) | exact nz1 (nzC hc0 (by decide)) | exact nz1 (nzD hc0 (by decide)) | exact nz1 (nzF (by decide)) | exact nz1 (nzG (by decide)) | omega))); omega)) (fun r_16 M_17 he158 hq158 => ?_)
          obtain ⟨hz_r_16, hg_M_17, hb_158⟩ := hq158
          replace hb_158 : (M_17 c 9).toInt = 0 ∨ (M_17 c 9).toInt = 1 := hb_158
          replace hg_M_17 : ∀ a i, ¬ ((a = 19 ∧ i = 3) ∨ (a = 19 ∧ i = 4) ∨ a = (c + 1) ∨ a = (c + 2) ∨ (a = c ∧ i = 7) ∨ (a = c ∧ i = 9)) → M_17 a i = M_15 a i := by exact fun a i q0 => hg_M_17 a i (by first | decide | (rcases hc0 with h | h <;> rw [h] <;> simp; done) | (rcases hb0 with h | h | h <;> rw [h] <;> simp; done) | (simp; done) | omega)
          refine wp_ite (fun c161 => ?_) (fun c161 => ?_)
          · exact wp_some ⟨b01_0, (fun a i q0 => ((hg_M_17 a i (fun z8 => q0 ((fun z9 => Or.elim z9 (fun h9 => Or.inl h9) (fun z9 => Or.elim z9 (fun h9 => Or.inr (Or.inl h9)) (fun z9 => Or.elim z9 (fun h9 => Or.inr (Or.inr (Or.inl h9))) (fun z9 => Or.elim z9 (fun h9 => Or.inr (Or.inr (Or.inr (Or.inl h9)))) (fun z9 => Or.elim z9 (fun h9 => Or.inr (Or.inr (Or.inr (Or.inr (Or.inl h9))))) (fun h9 => Or.inr (Or.inr (Or.inr (Or.inr (Or.inr (h9))))))))))) z8))).trans ((congrFun (congrFun eM_15 a) i).trans ((mset_ne (fun h9 => q0 (Or.inl h9))).trans ((hg_M_13 a i (fun z8 => q0 ((fun z9 => Or.elim z9 (fun h9 => Or.inl h9) (fun z9 => Or.elim z9 (fun h9 => Or.inr (Or.inl h9)) (fun z9 => Or.elim z9 (fun h9 => Or.inr (Or.inr (Or.inl h9))) (fun z9 => Or.elim z9 (fun h9 => Or.inr (Or.inr (Or.inr (Or.inl h9)))) (fun z9 => Or.elim z9 (fun h9 => Or.inr (Or.inr (Or.inr (Or.inr (Or.inl h9))))) (fun h9 => Or.inr (Or.inr (Or.inr (Or.inr (Or.inr (h9))))))))))) z8))).trans rfl))))), (by show (M_17 c 9).toInt = 0 ∨ (M_17 c 9).toInt = 1; have f0 := t_lit 0; omega)⟩
          · refine wp_bind2 (o_X3_order hc M_17 r_14 (nI 0)) (fun M_18 he170 hq170 => ?_)
            have hg_M_18 := hq170
            replace hg_M_18 : ∀ a i, ¬ (a = (c + 1) ∨ a = (c + 2) ∨ (a = c ∧ i = 7)) → M_18 a i = M_17 a i := by exact fun a i q0 => hg_M_18 a i (by first | decide | (rcases hc0 with h | h <;> rw [h] <;> simp; done) | (rcases hb0 with h | h | h <;> rw [h] <;> simp; done) | (simp; done) | omega)
            exact wp_some ⟨b01_1, (fun a i q0 => ((hg_M_18 a i (fun z8 => q0 ((fun z9 => Or.elim z9 (fun h9 => Or.inr (Or.inr (Or.inl h9))) (fun z9 => Or.elim z9 (fun h9 => Or.inr (Or.inr (Or.inr (Or.inl h9)))) (fun h9 => Or.inr (Or.inr (Or.inr (Or.inr (Or.inl h9))))))) z8))).trans ((hg_M_17 a i (fun z8 => q0 ((fun z9 => Or.elim z9 (fun h9 => Or.inl h9) (fun z9 => Or.elim z9 (fun h9 => Or.inr (Or.inl h9)) (fun z9 => Or.elim z9 (fun h9 => Or.inr (Or.inr (Or.inl h9))) (fun z9 => Or.elim z9 (fun h9 => Or.inr (Or.inr (Or.inr (Or.inl h9)))) (fun z9 => Or.elim z9 (fun h9 => Or.inr (Or.inr (Or.inr (Or.inr (Or.inl h9))))) (fun h9 => Or.inr (Or.inr (Or.inr (Or.inr (Or.inr (h9))))))))))) z8))).trans ((congrFun (congrFun eM_15 a) i).trans ((mset_ne (fun h9 => q0 (Or.inl h9))).trans ((hg_M_13 a i (fun z8 => q0 ((fun z9 => Or.elim z9 (fun h9 => Or.inl h9) (fun z9 => Or.elim z9 (fun h9 => Or.inr (Or.inl h9)) (fun z9 => Or.elim z9 (fun h9 => Or.inr (Or.inr (Or.inl h9))) (fun z9 => Or.elim z9 (fun h9 => Or.inr (Or.inr (Or.inr (Or.inl h9)))) (fun z9 => Or.elim z9 (fun h9 => Or.inr (Or.inr (Or.inr (Or.inr (Or.inl h9))))) (fun h9 => Or.inr (Or.inr (Or.inr (Or.inr (Or.inr (h9))))))))))) z8))).trans rfl)))))), (by show (M_18 c 9).toInt = 0 ∨ (M_18 c 9).toInt = 1; have f0 := congrArg Int32.toInt (hg_M_18 c 9 (by first | decide | (rcases hc0 with h | h <;> rw [h] <;> simp; done) | (rcases hb0 with h | h | h <;> rw [h] <;> simp; done) | (simp; done) | omega)); have f1 := t_lit 1; omega)⟩
        refine wp_ite (fun c118 => ?_) (fun c118 => ?_)
        · exact j145
        · refine wp_ite (fun c125 => ?_) (fun c125 => ?_)
          · exact j145
          · refine wp_ite (fun c132 => ?_) (fun c132 => ?_)
            · exact j145
            · refine wp_cb2 (o_X7_refuse M_13 (nI 1) (M_13 19 3)) (fun r_19 M_20 he141 hq141 => ?_)
              obtain ⟨hz_r_19, hg_M_20⟩ := hq141
              replace hg_M_20 : ∀ a i, ¬ ((a = 19 ∧ i = 4)) → M_20 a i = M_13 a i := hg_M_20
              refine wp_gb hz_r_19 ?_
              exact wp_some ⟨hz_r_19, (fun a i q0 => ((hg_M_20 a i (fun h9 => q0 (Or.inr (Or.inl h9)))).trans ((hg_M_13 a i (fun z8 => q0 ((fun z9 => Or.elim z9 (fun h9 => Or.inl h9) (fun z9 => Or.elim z9 (fun h9 => Or.inr (Or.inl h9)) (fun z9 => Or.elim z9 (fun h9 => Or.inr (Or.inr (Or.inl h9))) (fun z9 => Or.elim z9 (fun h9 => Or.inr (Or.inr (Or.inr (Or.inl h9)))) (fun z9 => Or.elim z9 (fun h9 => Or.inr (Or.inr (Or.inr (Or.inr (Or.inl h9))))) (fun h9 => Or.inr (Or.inr (Or.inr (Or.inr (Or.inr (h9))))))))))) z8))).trans rfl))), (by show (M_20 c 9).toInt = 0 ∨ (M_20 c 9).toInt = 1; have f0 := congrArg Int32.toInt (hg_M_20 c 9 (by first | decide | (rcases hc0 with h | h <;> rw [h] <;> simp; done) | (rcases hb0 with h | h | h <;> rw [h] <;> simp; done) | (simp; done) | omega)); omega)⟩
theorem og_test {c : Nat} (hc : isL c) : ∀ (n : Nat) (K : Int) (M : Mem) (v2 : Int32), 0 ≤ K → 7 - K ≤ n → K ≤ v2.toInt ∧ v2.toInt ≤ 6 → ((M c 9).toInt = 0 ∨ (M c 9).toInt = 1) → Wp (g_test c n M v2) (fun q => (q.1 = 0 ∨ q.1 = 1) ∧ (∀ a i, ¬ ((a = 19 ∧ i = 3) ∨ (a = 19 ∧ i = 4) ∨ a = (c + 1) ∨ a = (c + 2) ∨ (a = c ∧ i = 7) ∨ (a = c ∧ i = 9)) → q.2 a i = M a i) ∧ ((q.2 c 9).toInt = 0 ∨ (q.2 c 9).toInt = 1))
  | 0 => fun K M v2 h0 h1 h2 _ => absurd h1 (by omega)
  | n + 1 => fun K M v2 h0 h1 h2 hb => o_X3_compileTest hc (KS := K + 1) (fun M w h3 hb => og_test hc n (K + 1) M w (by omega) (by omega) h3 hb) (fun M w h3 hb => o_X3_compileChoice hc (KS := K + 1) (fun M w h4 hb => og_test hc n (K + 1) M w (by omega) (by omega) h4 hb) M w ⟨h3, by omega⟩ hb) M v2 (by omega) hb
theorem og_choice8 {c : Nat} (hc : isL c) (M : Mem) (v2 : Int32) (ho : 0 ≤ v2.toInt ∧ v2.toInt ≤ 6) (hb : (M c 9).toInt = 0 ∨ (M c 9).toInt = 1) : Wp (g_choice c 8 M v2) (fun q => (q.1 = 0 ∨ q.1 = 1) ∧ (∀ a i, ¬ ((a = 19 ∧ i = 3) ∨ (a = 19 ∧ i = 4) ∨ a = (c + 1) ∨ a = (c + 2) ∨ (a = c ∧ i = 7) ∨ (a = c ∧ i = 9)) → q.2 a i = M a i) ∧ ((q.2 c 9).toInt = 0 ∨ (q.2 c 9).toInt = 1)) := o_X3_compileChoice hc (KS := 0) (fun M w h4 hb => og_test hc 8 0 M w (by omega) (by omega) h4 hb) M v2 ⟨ho, ho.1⟩ hb
theorem o_X3_compile {c : Nat} (hc : isL c) (M : Mem) : Wp (f_X3_compile c M) (fun q => (∀ a i, ¬ ((a = 19 ∧ i = 3) ∨ (a = 19 ∧ i = 4) ∨ a = (c + 1) ∨ a = (c + 2) ∨ a = (c + 4) ∨ a = (c + 5) ∨ a = (c + 6) ∨ a = (c + 7) ∨ (a = c ∧ i = 7) ∨ (a = c ∧ i = 8) ∨ (a = c ∧ i = 9)) → q.2 a i = M a i)) := by
  have hc0 : c = 44 ∨ c = 52 := hc
  refine wp_bnd (fun M_1 eM_1 => ?_)
  refine wp_bnd (fun M_2 eM_2 => ?_)
  refine wp_bnd (fun M_3 eM_3 => ?_)
  refine wp_lp2 (fun M17 y2_17 => (0 ≤ y2_17.toInt) ∧ (∀ a i, ¬ ((a = 19 ∧ i = 3) ∨ (a = 19 ∧ i = 4) ∨ a = (c + 1) ∨ a = (c + 2) ∨ a = (c + 4) ∨ a = (c + 5) ∨ a = (c + 6) ∨ a = (c + 7) ∨ (a = c ∧ i = 7) ∨ (a = c ∧ i = 8) ∨ (a = c ∧ i = 9)) → M17 a i = M_3 a i) ∧ ((M17 c 9).toInt = 0 ∨ (M17 c 9).toInt = 1)) (fun M17 y2_17 => (16 + 1 - y2_17.toInt).toNat) (fun ag17 M17 y2_17 hI17 ih17 => ?_) FU M_3 (nI 0) ⟨(by have f0 := t_lit 0; omega), (fun _ _ _ => rfl), (by rw [eM_3, mset_eq]; decide)⟩ (fu_lt (by have f0 := t_lit 0; omega))
  obtain ⟨hi17, hf_M17, hb17⟩ := hI17
  refine wp_ite (fun c20 => ?_) (fun c20 => ?_)
  · exact wp_some (fun a i q0 => ((hf_M17 a i (fun z8 => q0 ((fun z9 => Or.elim z9 (fun h9 => Or.inl h9) (fun z9 => Or.elim z9 (fun h9 => Or.inr (Or.inl h9)) (fun z9 => Or.elim z9 (fun h9 => Or.inr (Or.inr (Or.inl h9))) (fun z9 => Or.elim z9 (fun h9 => Or.inr (Or.inr (Or.inr (Or.inl h9)))) (fun z9 => Or.elim z9 (fun h9 => Or.inr (Or.inr (Or.inr (Or.inr (Or.inl h9))))) (fun z9 => Or.elim z9 (fun h9 => Or.inr (Or.inr (Or.inr (Or.inr (Or.inr (Or.inl h9)))))) (fun z9 => Or.elim z9 (fun h9 => Or.inr (Or.inr (Or.inr (Or.inr (Or.inr (Or.inr (Or.inl h9))))))) (fun z9 => Or.elim z9 (fun h9 => Or.inr (Or.inr (Or.inr (Or.inr (Or.inr (Or.inr (Or.inr (Or.inl h9)))))))) (fun z9 => Or.elim z9 (fun h9 => Or.inr (Or.inr (Or.inr (Or.inr (Or.inr (Or.inr (Or.inr (Or.inr (Or.inl h9))))))))) (fun z9 => Or.elim z9 (fun h9 => Or.inr (Or.inr (Or.inr (Or.inr (Or.inr (Or.inr (Or.inr (Or.inr (Or.inr (Or.inl h9)))))))))) (fun h9 => Or.inr (Or.inr (Or.inr (Or.inr (Or.inr (Or.inr (Or.inr (Or.inr (Or.inr (Or.inr (h9))))))))))))))))))))) z8))).trans ((congrFun (congrFun eM_3 a) i).trans ((mset_ne (fun h9 => q0 (Or.inr (Or.inr (Or.inr (Or.inr (Or.inr (Or.inr (Or.inr (Or.inr (Or.inr (Or.inr (h9))))))))))))).trans ((congrFun (congrFun eM_2 a) i).trans ((mset_ne (fun h9 => q0 (Or.inr (Or.inr (Or.inr (Or.inr (Or.inr (Or.inr (Or.inr (Or.inr (Or.inr (Or.inl h9)))))))))))).trans ((congrFun (congrFun eM_1 a) i).trans ((mset_ne (fun h9 => q0 (Or.inr (Or.inr (Or.inr (Or.inr (Or.inr (Or.inr (Or.inr (Or.inr (Or.inl h9))))))))))).trans rfl))))))))
  · refine wp_bind2 (o_X7_here M17) (fun r_4 he24 hq24 => ?_)
    refine wp_bind2 (o_X3_isRuleLetter M17 r_4) (fun r_5 he29 hq29 => ?_)
    have hz_r_5 := hq29
    have j35 : Wp (f_X3_compile_L35 M17) (fun q => (∀ a i, ¬ ((a = 19 ∧ i = 3) ∨ (a = 19 ∧ i = 4) ∨ a = (c + 1) ∨ a = (c + 2) ∨ a = (c + 4) ∨ a = (c + 5) ∨ a = (c + 6) ∨ a = (c + 7) ∨ (a = c ∧ i = 7) ∨ (a = c ∧ i = 8) ∨ (a = c ∧ i = 9)) → q.2 a i = M a i)) := by
      unfold f_X3_compile_L35
      refine wp_cb2 (o_X7_refuse M17 (nI 1) (M17 19 3)) (fun r_6 M_7 he41 hq41 => ?_)
      obtain ⟨hz_r_6, hg_M_7⟩ := hq41
      replace hg_M_7 : ∀ a i, ¬ ((a = 19 ∧ i = 4)) → M_7 a i = M17 a i := hg_M_7
      exact wp_some (fun a i q0 => ((hg_M_7 a i (fun h9 => q0 (Or.inr (Or.inl h9)))).trans ((hf_M17 a i (fun z8 => q0 ((fun z9 => Or.elim z9 (fun h9 => Or.inl h9) (fun z9 => Or.elim z9 (fun h9 => Or.inr (Or.inl h9)) (fun z9 => Or.elim z9 (fun h9 => Or.inr (Or.inr (Or.inl h9))) (fun z9 => Or.elim z9 (fun h9 => Or.inr (Or.inr (Or.inr (Or.inl h9)))) (fun z9 => Or.elim z9 (fun h9 => Or.inr (Or.inr (Or.inr (Or.inr (Or.inl h9))))) (fun z9 => Or.elim z9 (fun h9 => Or.inr (Or.inr (Or.inr (Or.inr (Or.inr (Or.inl h9)))))) (fun z9 => Or.elim z9 (fun h9 => Or.inr (Or.inr (Or.inr (Or.inr (Or.inr (Or.inr (Or.inl h9))))))) (fun z9 => Or.elim z9 (fun h9 => Or.inr (Or.inr (Or.inr (Or.inr (Or.inr (Or.inr (Or.inr (Or.inl h9)))))))) (fun z9 => Or.elim z9 (fun h9 => Or.inr (Or.inr (Or.inr (Or.inr (Or.inr (Or.inr (Or.inr (Or.inr (Or.inl h9))))))))) (fun z9 => Or.elim z9 (fun h9 => Or.inr (Or.inr (Or.inr (Or.inr (Or.inr (Or.inr (Or.inr (Or.inr (Or.inr (Or.inl h9)))))))))) (fun h9 => Or.inr (Or.inr (Or.inr (Or.inr (Or.inr (Or.inr (Or.inr (Or.inr (Or.inr (Or.inr (h9))))))))))))))))))))) z8))).trans ((congrFun (congrFun eM_3 a) i).trans ((mset_ne (fun h9 => q0 (Or.inr (Or.inr (Or.inr (Or.inr (Or.inr (Or.inr (Or.inr (Or.inr (Or.inr (Or.inr (h9))))))))))))).trans ((congrFun (congrFun eM_2 a) i).trans ((mset_ne (fun h9 => q0 (Or.inr (Or.inr (Or.inr (Or.inr (Or.inr (Or.inr (Or.inr (Or.inr (Or.inr (Or.inl h9)))))))))))).trans ((congrFun (congrFun eM_1 a) i).trans ((mset_ne (fun h9 => q0 (Or.inr (Or.inr (Or.inr (Or.inr (Or.inr (Or.inr (Or.inr (Or.inr (Or.inl h9))))))))))).trans rfl)))))))))
    refine wp_ite (fun c32 => ?_) (fun c32 => ?_)
    · exact j35
    · have j56 : Wp (f_X3_compile_L56 M17) (fun q => (∀ a i, ¬ ((a = 19 ∧ i = 3) ∨ (a = 19 ∧ i = 4) ∨ a = (c + 1) ∨ a = (c + 2) ∨ a = (c + 4) ∨ a = (c + 5) ∨ a = (c + 6) ∨ a = (c + 7) ∨ (a = c ∧ i = 7) ∨ (a = c ∧ i = 8) ∨ (a = c ∧ i = 9)) → q.2 a i = M a i)) := by
        unfold f_X3_compile_L56
        refine wp_cb2 (o_X7_refuse M17 (nI 4) (M17 19 3)) (fun r_8 M_9 he62 hq62 => ?_)
        obtain ⟨hz_r_8, hg_M_9⟩ := hq62
        replace hg_M_9 : ∀ a i, ¬ ((a = 19 ∧ i = 4)) → M_9 a i = M17 a i := hg_M_9
        exact wp_some (fun a i q0 => ((hg_M_9 a i (fun h9 => q0 (Or.inr (Or.inl h9)))).trans ((hf_M17 a i (fun z8 => q0 ((fun z9 => Or.elim z9 (fun h9 => Or.inl h9) (fun z9 => Or.elim z9 (fun h9 => Or.inr (Or.inl h9)) (fun z9 => Or.elim z9 (fun h9 => Or.inr (Or.inr (Or.inl h9))) (fun z9 => Or.elim z9 (fun h9 => Or.inr (Or.inr (Or.inr (Or.inl h9)))) (fun z9 => Or.elim z9 (fun h9 => Or.inr (Or.inr (Or.inr (Or.inr (Or.inl h9))))) (fun z9 => Or.elim z9 (fun h9 => Or.inr (Or.inr (Or.inr (Or.inr (Or.inr (Or.inl h9)))))) (fun z9 => Or.elim z9 (fun h9 => Or.inr (Or.inr (Or.inr (Or.inr (Or.inr (Or.inr (Or.inl h9))))))) (fun z9 => Or.elim z9 (fun h9 => Or.inr (Or.inr (Or.inr (Or.inr (Or.inr (Or.inr (Or.inr (Or.inl h9)))))))) (fun z9 => Or.elim z9 (fun h9 => Or.inr (Or.inr (Or.inr (Or.inr (Or.inr (Or.inr (Or.inr (Or.inr (Or.inl h9))))))))) (fun z9 => Or.elim z9 (fun h9 => Or.inr (Or.inr (Or.inr (Or.inr (Or.inr (Or.inr (Or.inr (Or.inr (Or.inr (Or.inl h9)))))))))) (fun h9 => Or.inr (Or.inr (Or.inr (Or.inr (Or.inr (Or.inr (Or.inr (Or.inr (Or.inr (Or.inr (h9))))))))))))))))))))) z8))).trans ((congrFun (congrFun eM_3 a) i).trans ((mset_ne (fun h9 => q0 (Or.inr (Or.inr (Or.inr (Or.inr (Or.inr (Or.inr (Or.inr (Or.inr (Or.inr (Or.inr (h9))))))))))))).trans ((congrFun (congrFun eM_2 a) i).trans ((mset_ne (fun h9 => q0 (Or.inr (Or.inr (Or.inr (Or.inr (Or.inr (Or.inr (Or.inr (Or.inr (Or.inr (Or.inl h9)))))))))))).trans ((congrFun (congrFun eM_1 a) i).trans ((mset_ne (fun h9 => q0 (Or.inr (Or.inr (Or.inr (Or.inr (Or.inr (Or.inr (Or.inr (Or.inr (Or.inl h9))))))))))).trans rfl)))))))))
      refine wp_ite (fun c53 => ?_) (fun c53 => ?_)
      · exact j56
      · refine wp_bnd (fun M_10 eM_10 => ?_)
        refine wp_gd (by omega) ?_
        refine wp_bnd (fun M_11 eM_11 => ?_)
        refine wp_gd (by omega) ?_
        refine wp_bnd (fun M_12 eM_12 => ?_)
        have j118 : ∀ (N118 : Mem), (∀ a i, ¬ ((a = 19 ∧ i = 3) ∨ (a = 19 ∧ i = 4) ∨ a = (c + 1) ∨ a = (c + 2) ∨ (a = c ∧ i = 7) ∨ (a = c ∧ i = 9)) → N118 a i = M_12 a i) → ((N118 c 9).toInt = 0 ∨ (N118 c 9).toInt = 1) → Wp (f_X3_compile_L118 c ag17 y2_17 N118) (fun q => (∀ a i, ¬ ((a = 19 ∧ i = 3) ∨ (a = 19 ∧ i = 4) ∨ a = (c + 1) ∨ a = (c + 2) ∨ a = (c + 4) ∨ a = (c + 5) ∨ a = (c + 6) ∨ a = (c + 7) ∨ (a = c ∧ i = 7) ∨ (a = c ∧ i = 8) ∨ (a = c ∧ i = 9)) → q.2 a i = M a i)) := by
          intro N118 hf_N118 hb118
          unfold f_X3_compile_L118
          refine wp_gd (by omega) ?_
          refine wp_bnd (fun M_13 eM_13 => ?_)
          refine wp_cb2 (o_X7_skip M_13 (nI 40)) (fun r_14 M_15 he131 hq131 => ?_)
          obtain ⟨hz_r_14, hg_M_15⟩ := hq131
          replace hg_M_15 : ∀ a i, ¬ ((a = 19 ∧ i = 3) ∨ (a = 19 ∧ i = 4)) → M_15 a i = M_13 a i := hg_M_15
          refine wp_ite (fun c134 => ?_) (fun c134 => ?_)
          · exact wp_some (fun a i q0 => ((hg_M_15 a i (fun z8 => q0 ((fun z9 => Or.elim z9 (fun h9 => Or.inl h9) (fun h9 => Or.inr (Or.inl h9))) z8))).trans ((congrFun (congrFun eM_13 a) i).trans ((mset_ne (fun h9 => q0 (Or.inr (Or.inr (Or.inr (Or.inr (Or.inr (Or.inr (Or.inl (h9).1))))))))).trans ((hf_N118 a i (fun z8 => q0 ((fun z9 => Or.elim z9 (fun h9 => Or.inl h9) (fun z9 => Or.elim z9 (fun h9 => Or.inr (Or.inl h9)) (fun z9 => Or.elim z9 (fun h9 => Or.inr (Or.inr (Or.inl h9))) (fun z9 => Or.elim z9 (fun h9 => Or.inr (Or.inr (Or.inr (Or.inl h9)))) (fun z9 => Or.elim z9 (fun h9 => Or.inr (Or.inr (Or.inr (Or.inr (Or.inr (Or.inr (Or.inr (Or.inr (Or.inl h9))))))))) (fun h9 => Or.inr (Or.inr (Or.inr (Or.inr (Or.inr (Or.inr (Or.inr (Or.inr (Or.inr (Or.inr (h9)))))))))))))))) z8))).trans ((congrFun (congrFun eM_12 a) i).trans ((mset_ne (fun h9 => q0 (Or.inr (Or.inr (Or.inr (Or.inr (Or.inr (Or.inl (h9).1)))))))).trans ((congrFun (congrFun eM_11 a) i).trans ((mset_ne (fun h9 => q0 (Or.inr (Or.inr (Or.inr (Or.inr (Or.inl (h9).1))))))).trans ((congrFun (congrFun eM_10 a) i).trans ((mset_ne (fun h9 => q0 (Or.inl h9))).trans ((hf_M17 a i (fun z8 => q0 ((fun z9 => Or.elim z9 (fun h9 => Or.inl h9) (fun z9 => Or.elim z9 (fun h9 => Or.inr (Or.inl h9)) (fun z9 => Or.elim z9 (fun h9 => Or.inr (Or.inr (Or.inl h9))) (fun z9 => Or.elim z9 (fun h9 => Or.inr (Or.inr (Or.inr (Or.inl h9)))) (fun z9 => Or.elim z9 (fun h9 => Or.inr (Or.inr (Or.inr (Or.inr (Or.inl h9))))) (fun z9 => Or.elim z9 (fun h9 => Or.inr (Or.inr (Or.inr (Or.inr (Or.inr (Or.inl h9)))))) (fun z9 => Or.elim z9 (fun h9 => Or.inr (Or.inr (Or.inr (Or.inr (Or.inr (Or.inr (Or.inl h9))))))) (fun z9 => Or.elim z9 (fun h9 => Or.inr (Or.inr (Or.inr (Or.inr (Or.inr (Or.inr (Or.inr (Or.inl h9)))))))) (fun z9 => Or.elim z9 (fun h9 => Or.inr (Or.inr (Or.inr (Or.inr (Or.inr (Or.inr (Or.inr (Or.inr (Or.inl h9))))))))) (fun z9 => Or.elim z9 (fun h9 => Or.inr (Or.inr (Or.inr (Or.inr (Or.inr (Or.inr (Or.inr (Or.inr (Or.inr (Or.inl h9)))))))))) (fun h9 => Or.inr (Or.inr (Or.inr (Or.inr (Or.inr (Or.inr (Or.inr (Or.inr (Or.inr (Or.inr (h9))))))))))))))))))))) z8))).trans ((congrFun (congrFun eM_3 a) i).trans ((mset_ne (fun h9 => q0 (Or.inr (Or.inr (Or.inr (Or.inr (Or.inr (Or.inr (Or.inr (Or.inr (Or.inr (Or.inr (h9))))))))))))).trans ((congrFun (congrFun eM_2 a) i).trans ((mset_ne (fun h9 => q0 (Or.inr (Or.inr (Or.inr (Or.inr (Or.inr (Or.inr (Or.inr (Or.inr (Or.inr (Or.inl h9)))))))))))).trans ((congrFun (congrFun eM_1 a) i).trans ((mset_ne (fun h9 => q0 (Or.inr (Or.inr (Or.inr (Or.inr (Or.inr (Or.inr (Or.inr (Or.inr (Or.inl h9))))))))))).trans rfl))))))))))))))))))
          · refine wp_cb2 (og_choice8 hc M_15 (nI 1) (by have f0 := t_lit 1; omega) (by have f0 := congrArg Int32.toInt (hg_M_15 c 9 (by first | decide | (rcases hc0 with h | h <;> rw [h] <;> simp; done) | (rcases hb0 with h | h | h <;> rw [h] <;> simp; done) | (simp; done) | omega)); have f1 := congrArg Int32.toInt ((congrFun (congrFun eM_13 c) 9).trans (mset_ne (by first | exact nz1 (by decide) | exact nz2 (by decide) | exact nz1 (nzA hc0 (by decide)) | exact nz1 (nzE (by decide)) | exact nz1 (nzB hc0 (by decide)) | exact nz1 (nzC hc0 (by decide)) | exact nz1 (nzD hc0 (by decide)) | exact nz1 (nzF (by decide)) | exact nz1 (nzG (by decide)) | omega))); have f2 := t_lit 1; omega)) (fun r_16 M_17 he140 hq140 => ?_)
            obtain ⟨hz_r_16, hg_M_17, hb_140⟩ := hq140
            replace hb_140 : (M_17 c 9).toInt = 0 ∨ (M_17 c 9).toInt = 1 := hb_140
            have := t_lit 1
            replace hg_M_17 : ∀ a i, ¬ ((a = 19 ∧ i = 3) ∨ (a = 19 ∧ i = 4) ∨ a = (c + 1) ∨ a = (c + 2) ∨ (a = c ∧ i = 7) ∨ (a = c ∧ i = 9)) → M_17 a i = M_15 a i := by exact fun a i q0 => hg_M_17 a i (by first | decide | (rcases hc0 with h | h <;> rw [h] <;> simp; done) | (rcases hb0 with h | h | h <;> rw [h] <;> simp; done) | (simp; done) | omega)
            refine wp_ite (fun c143 => ?_) (fun c143 => ?_)
            · exact wp_some (fun a i q0 => ((hg_M_17 a i (fun z8 => q0 ((fun z9 => Or.elim z9 (fun h9 => Or.inl h9) (fun z9 => Or.elim z9 (fun h9 => Or.inr (Or.inl h9)) (fun z9 => Or.elim z9 (fun h9 => Or.inr (Or.inr (Or.inl h9))) (fun z9 => Or.elim z9 (fun h9 => Or.inr (Or.inr (Or.inr (Or.inl h9)))) (fun z9 => Or.elim z9 (fun h9 => Or.inr (Or.inr (Or.inr (Or.inr (Or.inr (Or.inr (Or.inr (Or.inr (Or.inl h9))))))))) (fun h9 => Or.inr (Or.inr (Or.inr (Or.inr (Or.inr (Or.inr (Or.inr (Or.inr (Or.inr (Or.inr (h9)))))))))))))))) z8))).trans ((hg_M_15 a i (fun z8 => q0 ((fun z9 => Or.elim z9 (fun h9 => Or.inl h9) (fun h9 => Or.inr (Or.inl h9))) z8))).trans ((congrFun (congrFun eM_13 a) i).trans ((mset_ne (fun h9 => q0 (Or.inr (Or.inr (Or.inr (Or.inr (Or.inr (Or.inr (Or.inl (h9).1))))))))).trans ((hf_N118 a i (fun z8 => q0 ((fun z9 => Or.elim z9 (fun h9 => Or.inl h9) (fun z9 => Or.elim z9 (fun h9 => Or.inr (Or.inl h9)) (fun z9 => Or.elim z9 (fun h9 => Or.inr (Or.inr (Or.inl h9))) (fun z9 => Or.elim z9 (fun h9 => Or.inr (Or.inr (Or.inr (Or.inl h9)))) (fun z9 => Or.elim z9 (fun h9 => Or.inr (Or.inr (Or.inr (Or.inr (Or.inr (Or.inr (Or.inr (Or.inr (Or.inl h9))))))))) (fun h9 => Or.inr (Or.inr (Or.inr (Or.inr (Or.inr (Or.inr (Or.inr (Or.inr (Or.inr (Or.inr (h9)))))))))))))))) z8))).trans ((congrFun (congrFun eM_12 a) i).trans ((mset_ne (fun h9 => q0 (Or.inr (Or.inr (Or.inr (Or.inr (Or.inr (Or.inl (h9).1)))))))).trans ((congrFun (congrFun eM_11 a) i).trans ((mset_ne (fun h9 => q0 (Or.inr (Or.inr (Or.inr (Or.inr (Or.inl (h9).1))))))).trans ((congrFun (congrFun eM_10 a) i).trans ((mset_ne (fun h9 => q0 (Or.inl h9))).trans ((hf_M17 a i (fun z8 => q0 ((fun z9 => Or.elim z9 (fun h9 => Or.inl h9) (fun z9 => Or.elim z9 (fun h9 => Or.inr (Or.inl h9)) (fun z9 => Or.elim z9 (fun h9 => Or.inr (Or.inr (Or.inl h9))) (fun z9 => Or.elim z9 (fun h9 => Or.inr (Or.inr (Or.inr (Or.inl h9)))) (fun z9 => Or.elim z9 (fun h9 => Or.inr (Or.inr (Or.inr (Or.inr (Or.inl h9))))) (fun z9 => Or.elim z9 (fun h9 => Or.inr (Or.inr (Or.inr (Or.inr (Or.inr (Or.inl h9)))))) (fun z9 => Or.elim z9 (fun h9 => Or.inr (Or.inr (Or.inr (Or.inr (Or.inr (Or.inr (Or.inl h9))))))) (fun z9 => Or.elim z9 (fun h9 => Or.inr (Or.inr (Or.inr (Or.inr (Or.inr (Or.inr (Or.inr (Or.inl h9)))))))) (fun z9 => Or.elim z9 (fun h9 => Or.inr (Or.inr (Or.inr (Or.inr (Or.inr (Or.inr (Or.inr (Or.inr (Or.inl h9))))))))) (fun z9 => Or.elim z9 (fun h9 => Or.inr (Or.inr (Or.inr (Or.inr (Or.inr (Or.inr (Or.inr (Or.inr (Or.inr (Or.inl h9)))))))))) (fun h9 => Or.inr (Or.inr (Or.inr (Or.inr (Or.inr (Or.inr (Or.inr (Or.inr (Or.inr (Or.inr (h9))))))))))))))))))))) z8))).trans ((congrFun (congrFun eM_3 a) i).trans ((mset_ne (fun h9 => q0 (Or.inr (Or.inr (Or.inr (Or.inr (Or.inr (Or.inr (Or.inr (Or.inr (Or.inr (Or.inr (h9))))))))))))).trans ((congrFun (congrFun eM_2 a) i).trans ((mset_ne (fun h9 => q0 (Or.inr (Or.inr (Or.inr (Or.inr (Or.inr (Or.inr (Or.inr (Or.inr (Or.inr (Or.inl h9)))))))))))).trans ((congrFun (congrFun eM_1 a) i).trans ((mset_ne (fun h9 => q0 (Or.inr (Or.inr (Or.inr (Or.inr (Or.inr (Or.inr (Or.inr (Or.inr (Or.inl h9))))))))))).trans rfl)))))))))))))))))))
            · refine wp_cb2 (o_X7_skip M_17 (nI 41)) (fun r_18 M_19 he149 hq149 => ?_)
              obtain ⟨hz_r_18, hg_M_19⟩ := hq149
              replace hg_M_19 : ∀ a i, ¬ ((a = 19 ∧ i = 3) ∨ (a = 19 ∧ i = 4)) → M_19 a i = M_17 a i := hg_M_19
              refine wp_ite (fun c152 => ?_) (fun c152 => ?_)
              · exact wp_some (fun a i q0 => ((hg_M_19 a i (fun z8 => q0 ((fun z9 => Or.elim z9 (fun h9 => Or.inl h9) (fun h9 => Or.inr (Or.inl h9))) z8))).trans ((hg_M_17 a i (fun z8 => q0 ((fun z9 => Or.elim z9 (fun h9 => Or.inl h9) (fun z9 => Or.elim z9 (fun h9 => Or.inr (Or.inl h9)) (fun z9 => Or.elim z9 (fun h9 => Or.inr (Or.inr (Or.inl h9))) (fun z9 => Or.elim z9 (fun h9 => Or.inr (Or.inr (Or.inr (Or.inl h9)))) (fun z9 => Or.elim z9 (fun h9 => Or.inr (Or.inr (Or.inr (Or.inr (Or.inr (Or.inr (Or.inr (Or.inr (Or.inl h9))))))))) (fun h9 => Or.inr (Or.inr (Or.inr (Or.inr (Or.inr (Or.inr (Or.inr (Or.inr (Or.inr (Or.inr (h9)))))))))))))))) z8))).trans ((hg_M_15 a i (fun z8 => q0 ((fun z9 => Or.elim z9 (fun h9 => Or.inl h9) (fun h9 => Or.inr (Or.inl h9))) z8))).trans ((congrFun (congrFun eM_13 a) i).trans ((mset_ne (fun h9 => q0 (Or.inr (Or.inr (Or.inr (Or.inr (Or.inr (Or.inr (Or.inl (h9).1))))))))).trans ((hf_N118 a i (fun z8 => q0 ((fun z9 => Or.elim z9 (fun h9 => Or.inl h9) (fun z9 => Or.elim z9 (fun h9 => Or.inr (Or.inl h9)) (fun z9 => Or.elim z9 (fun h9 => Or.inr (Or.inr (Or.inl h9))) (fun z9 => Or.elim z9 (fun h9 => Or.inr (Or.inr (Or.inr (Or.inl h9)))) (fun z9 => Or.elim z9 (fun h9 => Or.inr (Or.inr (Or.inr (Or.inr (Or.inr (Or.inr (Or.inr (Or.inr (Or.inl h9))))))))) (fun h9 => Or.inr (Or.inr (Or.inr (Or.inr (Or.inr (Or.inr (Or.inr (Or.inr (Or.inr (Or.inr (h9)))))))))))))))) z8))).trans ((congrFun (congrFun eM_12 a) i).trans ((mset_ne (fun h9 => q0 (Or.inr (Or.inr (Or.inr (Or.inr (Or.inr (Or.inl (h9).1)))))))).trans ((congrFun (congrFun eM_11 a) i).trans ((mset_ne (fun h9 => q0 (Or.inr (Or.inr (Or.inr (Or.inr (Or.inl (h9).1))))))).trans ((congrFun (congrFun eM_10 a) i).trans ((mset_ne (fun h9 => q0 (Or.inl h9))).trans ((hf_M17 a i (fun z8 => q0 ((fun z9 => Or.elim z9 (fun h9 => Or.inl h9) (fun z9 => Or.elim z9 (fun h9 => Or.inr (Or.inl h9)) (fun z9 => Or.elim z9 (fun h9 => Or.inr (Or.inr (Or.inl h9))) (fun z9 => Or.elim z9 (fun h9 => Or.inr (Or.inr (Or.inr (Or.inl h9)))) (fun z9 => Or.elim z9 (fun h9 => Or.inr (Or.inr (Or.inr (Or.inr (Or.inl h9))))) (fun z9 => Or.elim z9 (fun h9 => Or.inr (Or.inr (Or.inr (Or.inr (Or.inr (Or.inl h9)))))) (fun z9 => Or.elim z9 (fun h9 => Or.inr (Or.inr (Or.inr (Or.inr (Or.inr (Or.inr (Or.inl h9))))))) (fun z9 => Or.elim z9 (fun h9 => Or.inr (Or.inr (Or.inr (Or.inr (Or.inr (Or.inr (Or.inr (Or.inl h9)))))))) (fun z9 => Or.elim z9 (fun h9 => Or.inr (Or.inr (Or.inr (Or.inr (Or.inr (Or.inr (Or.inr (Or.inr (Or.inl h9))))))))) (fun z9 => Or.elim z9 (fun h9 => Or.inr (Or.inr (Or.inr (Or.inr (Or.inr (Or.inr (Or.inr (Or.inr (Or.inr (Or.inl h9)))))))))) (fun h9 => Or.inr (Or.inr (Or.inr (Or.inr (Or.inr (Or.inr (Or.inr (Or.inr (Or.inr (Or.inr (h9))))))))))))))))))))) z8))).trans ((congrFun (congrFun eM_3 a) i).trans ((mset_ne (fun h9 => q0 (Or.inr (Or.inr (Or.inr (Or.inr (Or.inr (Or.inr (Or.inr (Or.inr (Or.inr (Or.inr (h9))))))))))))).trans ((congrFun (congrFun eM_2 a) i).trans ((mset_ne (fun h9 => q0 (Or.inr (Or.inr (Or.inr (Or.inr (Or.inr (Or.inr (Or.inr (Or.inr (Or.inr (Or.inl h9)))))))))))).trans ((congrFun (congrFun eM_1 a) i).trans ((mset_ne (fun h9 => q0 (Or.inr (Or.inr (Or.inr (Or.inr (Or.inr (Or.inr (Or.inr (Or.inr (Or.inl h9))))))))))).trans rfl))))))))))))))))))))
              · refine wp_gd (by omega) ?_
                refine wp_bnd (fun M_20 eM_20 => ?_)
                refine wp_bnd (fun M_21 eM_21 => ?_)
                refine wp_bind2 (o_X7_here M_21) (fun r_22 he178 hq178 => ?_)
                refine wp_ite (fun c182 => ?_) (fun c182 => ?_)
                · exact wp_some (fun a i q0 => ((congrFun (congrFun eM_21 a) i).trans ((mset_ne (fun h9 => q0 (Or.inr (Or.inr (Or.inr (Or.inr (Or.inr (Or.inr (Or.inr (Or.inr (Or.inr (Or.inl h9)))))))))))).trans ((congrFun (congrFun eM_20 a) i).trans ((mset_ne (fun h9 => q0 (Or.inr (Or.inr (Or.inr (Or.inr (Or.inr (Or.inr (Or.inr (Or.inl (h9).1)))))))))).trans ((hg_M_19 a i (fun z8 => q0 ((fun z9 => Or.elim z9 (fun h9 => Or.inl h9) (fun h9 => Or.inr (Or.inl h9))) z8))).trans ((hg_M_17 a i (fun z8 => q0 ((fun z9 => Or.elim z9 (fun h9 => Or.inl h9) (fun z9 => Or.elim z9 (fun h9 => Or.inr (Or.inl h9)) (fun z9 => Or.elim z9 (fun h9 => Or.inr (Or.inr (Or.inl h9))) (fun z9 => Or.elim z9 (fun h9 => Or.inr (Or.inr (Or.inr (Or.inl h9)))) (fun z9 => Or.elim z9 (fun h9 => Or.inr (Or.inr (Or.inr (Or.inr (Or.inr (Or.inr (Or.inr (Or.inr (Or.inl h9))))))))) (fun h9 => Or.inr (Or.inr (Or.inr (Or.inr (Or.inr (Or.inr (Or.inr (Or.inr (Or.inr (Or.inr (h9)))))))))))))))) z8))).trans ((hg_M_15 a i (fun z8 => q0 ((fun z9 => Or.elim z9 (fun h9 => Or.inl h9) (fun h9 => Or.inr (Or.inl h9))) z8))).trans ((congrFun (congrFun eM_13 a) i).trans ((mset_ne (fun h9 => q0 (Or.inr (Or.inr (Or.inr (Or.inr (Or.inr (Or.inr (Or.inl (h9).1))))))))).trans ((hf_N118 a i (fun z8 => q0 ((fun z9 => Or.elim z9 (fun h9 => Or.inl h9) (fun z9 => Or.elim z9 (fun h9 => Or.inr (Or.inl h9)) (fun z9 => Or.elim z9 (fun h9 => Or.inr (Or.inr (Or.inl h9))) (fun z9 => Or.elim z9 (fun h9 => Or.inr (Or.inr (Or.inr (Or.inl h9)))) (fun z9 => Or.elim z9 (fun h9 => Or.inr (Or.inr (Or.inr (Or.inr (Or.inr (Or.inr (Or.inr (Or.inr (Or.inl h9))))))))) (fun h9 => Or.inr (Or.inr (Or.inr (Or.inr (Or.inr (Or.inr (Or.inr (Or.inr (Or.inr (Or.inr (h9)))))))))))))))) z8))).trans ((congrFun (congrFun eM_12 a) i).trans ((mset_ne (fun h9 => q0 (Or.inr (Or.inr (Or.inr (Or.inr (Or.inr (Or.inl (h9).1)))))))).trans ((congrFun (congrFun eM_11 a) i).trans ((mset_ne (fun h9 => q0 (Or.inr (Or.inr (Or.inr (Or.inr (Or.inl (h9).1))))))).trans ((congrFun (congrFun eM_10 a) i).trans ((mset_ne (fun h9 => q0 (Or.inl h9))).trans ((hf_M17 a i (fun z8 => q0 ((fun z9 => Or.elim z9 (fun h9 => Or.inl h9) (fun z9 => Or.elim z9 (fun h9 => Or.inr (Or.inl h9)) (fun z9 => Or.elim z9 (fun h9 => Or.inr (Or.inr (Or.inl h9))) (fun z9 => Or.elim z9 (fun h9 => Or.inr (Or.inr (Or.inr (Or.inl h9)))) (fun z9 => Or.elim z9 (fun h9 => Or.inr (Or.inr (Or.inr (Or.inr (Or.inl h9))))) (fun z9 => Or.elim z9 (fun h9 => Or.inr (Or.inr (Or.inr (Or.inr (Or.inr (Or.inl h9)))))) (fun z9 => Or.elim z9 (fun h9 => Or.inr (Or.inr (Or.inr (Or.inr (Or.inr (Or.inr (Or.inl h9))))))) (fun z9 => Or.elim z9 (fun h9 => Or.inr (Or.inr (Or.inr (Or.inr (Or.inr (Or.inr (Or.inr (Or.inl h9)))))))) (fun z9 => Or.elim z9 (fun h9 => Or.inr (Or.inr (Or.inr (Or.inr (Or.inr (Or.inr (Or.inr (Or.inr (Or.inl h9))))))))) (fun z9 => Or.elim z9 (fun h9 => Or.inr (Or.inr (Or.inr (Or.inr (Or.inr (Or.inr (Or.inr (Or.inr (Or.inr (Or.inl h9)))))))))) (fun h9 => Or.inr (Or.inr (Or.inr (Or.inr (Or.inr (Or.inr (Or.inr (Or.inr (Or.inr (Or.inr (h9))))))))))))))))))))) z8))).trans ((congrFun (congrFun eM_3 a) i).trans ((mset_ne (fun h9 => q0 (Or.inr (Or.inr (Or.inr (Or.inr (Or.inr (Or.inr (Or.inr (Or.inr (Or.inr (Or.inr (h9))))))))))))).trans ((congrFun (congrFun eM_2 a) i).trans ((mset_ne (fun h9 => q0 (Or.inr (Or.inr (Or.inr (Or.inr (Or.inr (Or.inr (Or.inr (Or.inr (Or.inr (Or.inl h9)))))))))))).trans ((congrFun (congrFun eM_1 a) i).trans ((mset_ne (fun h9 => q0 (Or.inr (Or.inr (Or.inr (Or.inr (Or.inr (Or.inr (Or.inr (Or.inr (Or.inl h9))))))))))).trans rfl))))))))))))))))))))))))
                · refine wp_cb2 (o_X7_skip M_21 (nI 59)) (fun r_23 M_24 he193 hq193 => ?_)
                  obtain ⟨hz_r_23, hg_M_24⟩ := hq193
                  replace hg_M_24 : ∀ a i, ¬ ((a = 19 ∧ i = 3) ∨ (a = 19 ∧ i = 4)) → M_24 a i = M_21 a i := hg_M_24
                  refine wp_ite (fun c196 => ?_) (fun c196 => ?_)
                  · exact wp_some (fun a i q0 => ((hg_M_24 a i (fun z8 => q0 ((fun z9 => Or.elim z9 (fun h9 => Or.inl h9) (fun h9 => Or.inr (Or.inl h9))) z8))).trans ((congrFun (congrFun eM_21 a) i).trans ((mset_ne (fun h9 => q0 (Or.inr (Or.inr (Or.inr (Or.inr (Or.inr (Or.inr (Or.inr (Or.inr (Or.inr (Or.inl h9)))))))))))).trans ((congrFun (congrFun eM_20 a) i).trans ((mset_ne (fun h9 => q0 (Or.inr (Or.inr (Or.inr (Or.inr (Or.inr (Or.inr (Or.inr (Or.inl (h9).1)))))))))).trans ((hg_M_19 a i (fun z8 => q0 ((fun z9 => Or.elim z9 (fun h9 => Or.inl h9) (fun h9 => Or.inr (Or.inl h9))) z8))).trans ((hg_M_17 a i (fun z8 => q0 ((fun z9 => Or.elim z9 (fun h9 => Or.inl h9) (fun z9 => Or.elim z9 (fun h9 => Or.inr (Or.inl h9)) (fun z9 => Or.elim z9 (fun h9 => Or.inr (Or.inr (Or.inl h9))) (fun z9 => Or.elim z9 (fun h9 => Or.inr (Or.inr (Or.inr (Or.inl h9)))) (fun z9 => Or.elim z9 (fun h9 => Or.inr (Or.inr (Or.inr (Or.inr (Or.inr (Or.inr (Or.inr (Or.inr (Or.inl h9))))))))) (fun h9 => Or.inr (Or.inr (Or.inr (Or.inr (Or.inr (Or.inr (Or.inr (Or.inr (Or.inr (Or.inr (h9)))))))))))))))) z8))).trans ((hg_M_15 a i (fun z8 => q0 ((fun z9 => Or.elim z9 (fun h9 => Or.inl h9) (fun h9 => Or.inr (Or.inl h9))) z8))).trans ((congrFun (congrFun eM_13 a) i).trans ((mset_ne (fun h9 => q0 (Or.inr (Or.inr (Or.inr (Or.inr (Or.inr (Or.inr (Or.inl (h9).1))))))))).trans ((hf_N118 a i (fun z8 => q0 ((fun z9 => Or.elim z9 (fun h9 => Or.inl h9) (fun z9 => Or.elim z9 (fun h9 => Or.inr (Or.inl h9)) (fun z9 => Or.elim z9 (fun h9 => Or.inr (Or.inr (Or.inl h9))) (fun z9 => Or.elim z9 (fun h9 => Or.inr (Or.inr (Or.inr (Or.inl h9)))) (fun z9 => Or.elim z9 (fun h9 => Or.inr (Or.inr (Or.inr (Or.inr (Or.inr (Or.inr (Or.inr (Or.inr (Or.inl h9))))))))) (fun h9 => Or.inr (Or.inr (Or.inr (Or.inr (Or.inr (Or.inr (Or.inr (Or.inr (Or.inr (Or.inr (h9)))))))))))))))) z8))).trans ((congrFun (congrFun eM_12 a) i).trans ((mset_ne (fun h9 => q0 (Or.inr (Or.inr (Or.inr (Or.inr (Or.inr (Or.inl (h9).1)))))))).trans ((congrFun (congrFun eM_11 a) i).trans ((mset_ne (fun h9 => q0 (Or.inr (Or.inr (Or.inr (Or.inr (Or.inl (h9).1))))))).trans ((congrFun (congrFun eM_10 a) i).trans ((mset_ne (fun h9 => q0 (Or.inl h9))).trans ((hf_M17 a i (fun z8 => q0 ((fun z9 => Or.elim z9 (fun h9 => Or.inl h9) (fun z9 => Or.elim z9 (fun h9 => Or.inr (Or.inl h9)) (fun z9 => Or.elim z9 (fun h9 => Or.inr (Or.inr (Or.inl h9))) (fun z9 => Or.elim z9 (fun h9 => Or.inr (Or.inr (Or.inr (Or.inl h9)))) (fun z9 => Or.elim z9 (fun h9 => Or.inr (Or.inr (Or.inr (Or.inr (Or.inl h9))))) (fun z9 => Or.elim z9 (fun h9 => Or.inr (Or.inr (Or.inr (Or.inr (Or.inr (Or.inl h9)))))) (fun z9 => Or.elim z9 (fun h9 => Or.inr (Or.inr (Or.inr (Or.inr (Or.inr (Or.inr (Or.inl h9))))))) (fun z9 => Or.elim z9 (fun h9 => Or.inr (Or.inr (Or.inr (Or.inr (Or.inr (Or.inr (Or.inr (Or.inl h9)))))))) (fun z9 => Or.elim z9 (fun h9 => Or.inr (Or.inr (Or.inr (Or.inr (Or.inr (Or.inr (Or.inr (Or.inr (Or.inl h9))))))))) (fun z9 => Or.elim z9 (fun h9 => Or.inr (Or.inr (Or.inr (Or.inr (Or.inr (Or.inr (Or.inr (Or.inr (Or.inr (Or.inl h9)))))))))) (fun h9 => Or.inr (Or.inr (Or.inr (Or.inr (Or.inr (Or.inr (Or.inr (Or.inr (Or.inr (Or.inr (h9))))))))))))))))))))) z8))).trans ((congrFun (congrFun eM_3 a) i).trans ((mset_ne (fun h9 => q0 (Or.inr (Or.inr (Or.inr (Or.inr (Or.inr (Or.inr (Or.inr (Or.inr (Or.inr (Or.inr (h9))))))))))))).trans ((congrFun (congrFun eM_2 a) i).trans ((mset_ne (fun h9 => q0 (Or.inr (Or.inr (Or.inr (Or.inr (Or.inr (Or.inr (Or.inr (Or.inr (Or.inr (Or.inl h9)))))))))))).trans ((congrFun (congrFun eM_1 a) i).trans ((mset_ne (fun h9 => q0 (Or.inr (Or.inr (Or.inr (Or.inr (Or.inr (Or.inr (Or.inr (Or.inr (Or.inl h9))))))))))).trans rfl)))))))))))))))))))))))))
                  · exact ih17 M_24 (y2_17 + (nI 1)) ⟨(by have f0 := t_lit 1; have f1 := t_add y2_17 (nI 1); omega), (fun a i q0 => ((hg_M_24 a i (fun z8 => q0 ((fun z9 => Or.elim z9 (fun h9 => Or.inl h9) (fun h9 => Or.inr (Or.inl h9))) z8))).trans ((congrFun (congrFun eM_21 a) i).trans ((mset_ne (fun h9 => q0 (Or.inr (Or.inr (Or.inr (Or.inr (Or.inr (Or.inr (Or.inr (Or.inr (Or.inr (Or.inl h9)))))))))))).trans ((congrFun (congrFun eM_20 a) i).trans ((mset_ne (fun h9 => q0 (Or.inr (Or.inr (Or.inr (Or.inr (Or.inr (Or.inr (Or.inr (Or.inl (h9).1)))))))))).trans ((hg_M_19 a i (fun z8 => q0 ((fun z9 => Or.elim z9 (fun h9 => Or.inl h9) (fun h9 => Or.inr (Or.inl h9))) z8))).trans ((hg_M_17 a i (fun z8 => q0 ((fun z9 => Or.elim z9 (fun h9 => Or.inl h9) (fun z9 => Or.elim z9 (fun h9 => Or.inr (Or.inl h9)) (fun z9 => Or.elim z9 (fun h9 => Or.inr (Or.inr (Or.inl h9))) (fun z9 => Or.elim z9 (fun h9 => Or.inr (Or.inr (Or.inr (Or.inl h9)))) (fun z9 => Or.elim z9 (fun h9 => Or.inr (Or.inr (Or.inr (Or.inr (Or.inr (Or.inr (Or.inr (Or.inr (Or.inl h9))))))))) (fun h9 => Or.inr (Or.inr (Or.inr (Or.inr (Or.inr (Or.inr (Or.inr (Or.inr (Or.inr (Or.inr (h9)))))))))))))))) z8))).trans ((hg_M_15 a i (fun z8 => q0 ((fun z9 => Or.elim z9 (fun h9 => Or.inl h9) (fun h9 => Or.inr (Or.inl h9))) z8))).trans ((congrFun (congrFun eM_13 a) i).trans ((mset_ne (fun h9 => q0 (Or.inr (Or.inr (Or.inr (Or.inr (Or.inr (Or.inr (Or.inl (h9).1))))))))).trans ((hf_N118 a i (fun z8 => q0 ((fun z9 => Or.elim z9 (fun h9 => Or.inl h9) (fun z9 => Or.elim z9 (fun h9 => Or.inr (Or.inl h9)) (fun z9 => Or.elim z9 (fun h9 => Or.inr (Or.inr (Or.inl h9))) (fun z9 => Or.elim z9 (fun h9 => Or.inr (Or.inr (Or.inr (Or.inl h9)))) (fun z9 => Or.elim z9 (fun h9 => Or.inr (Or.inr (Or.inr (Or.inr (Or.inr (Or.inr (Or.inr (Or.inr (Or.inl h9))))))))) (fun h9 => Or.inr (Or.inr (Or.inr (Or.inr (Or.inr (Or.inr (Or.inr (Or.inr (Or.inr (Or.inr (h9)))))))))))))))) z8))).trans ((congrFun (congrFun eM_12 a) i).trans ((mset_ne (fun h9 => q0 (Or.inr (Or.inr (Or.inr (Or.inr (Or.inr (Or.inl (h9).1)))))))).trans ((congrFun (congrFun eM_11 a) i).trans ((mset_ne (fun h9 => q0 (Or.inr (Or.inr (Or.inr (Or.inr (Or.inl (h9).1))))))).trans ((congrFun (congrFun eM_10 a) i).trans ((mset_ne (fun h9 => q0 (Or.inl h9))).trans ((hf_M17 a i (fun z8 => q0 ((fun z9 => Or.elim z9 (fun h9 => Or.inl h9) (fun z9 => Or.elim z9 (fun h9 => Or.inr (Or.inl h9)) (fun z9 => Or.elim z9 (fun h9 => Or.inr (Or.inr (Or.inl h9))) (fun z9 => Or.elim z9 (fun h9 => Or.inr (Or.inr (Or.inr (Or.inl h9)))) (fun z9 => Or.elim z9 (fun h9 => Or.inr (Or.inr (Or.inr (Or.inr (Or.inl h9))))) (fun z9 => Or.elim z9 (fun h9 => Or.inr (Or.inr (Or.inr (Or.inr (Or.inr (Or.inl h9)))))) (fun z9 => Or.elim z9 (fun h9 => Or.inr (Or.inr (Or.inr (Or.inr (Or.inr (Or.inr (Or.inl h9))))))) (fun z9 => Or.elim z9 (fun h9 => Or.inr (Or.inr (Or.inr (Or.inr (Or.inr (Or.inr (Or.inr (Or.inl h9)))))))) (fun z9 => Or.elim z9 (fun h9 => Or.inr (Or.inr (Or.inr (Or.inr (Or.inr (Or.inr (Or.inr (Or.inr (Or.inl h9))))))))) (fun z9 => Or.elim z9 (fun h9 => Or.inr (Or.inr (Or.inr (Or.inr (Or.inr (Or.inr (Or.inr (Or.inr (Or.inr (Or.inl h9)))))))))) (fun h9 => Or.inr (Or.inr (Or.inr (Or.inr (Or.inr (Or.inr (Or.inr (Or.inr (Or.inr (Or.inr (h9))))))))))))))))))))) z8))).trans rfl))))))))))))))))))), (by have f0 := congrArg Int32.toInt (hg_M_24 c 9 (by first | decide | (rcases hc0 with h | h <;> rw [h] <;> simp; done) | (rcases hb0 with h | h | h <;> rw [h] <;> simp; done) | (simp; done) | omega)); have f1 := congrArg Int32.toInt ((congrFun (congrFun eM_21 c) 9).trans (mset_ne (by first | exact nz1 (by decide) | exact nz2 (by decide) | exact nz1 (nzA hc0 (by decide)) | exact nz1 (nzE (by decide)) | exact nz1 (nzB hc0 (by decide)) | exact nz1 (nzC hc0 (by decide)) | exact nz1 (nzD hc0 (by decide)) | exact nz1 (nzF (by decide)) | exact nz1 (nzG (by decide)) | omega))); have f2 := congrArg Int32.toInt ((congrFun (congrFun eM_20 c) 9).trans (mset_ne (by first | exact nz1 (by decide) | exact nz2 (by decide) | exact nz1 (nzA hc0 (by decide)) | exact nz1 (nzE (by decide)) | exact nz1 (nzB hc0 (by decide)) | exact nz1 (nzC hc0 (by decide)) | exact nz1 (nzD hc0 (by decide)) | exact nz1 (nzF (by decide)) | exact nz1 (nzG (by decide)) | omega))); have f3 := congrArg Int32.toInt (hg_M_19 c 9 (by first | decide | (rcases hc0 with h | h <;> rw [h] <;> simp; done) | (rcases hb0 with h | h | h <;> rw [h] <;> simp; done) | (simp; done) | omega)); omega)⟩ (by have f0 := t_lit 1; have f1 := t_add y2_17 (nI 1); omega)
        refine wp_ite (fun c101 => ?_) (fun c101 => ?_)
        · exact j118 M_12 (fun _ _ _ => rfl) (by have f0 := congrArg Int32.toInt ((congrFun (congrFun eM_12 c) 9).trans (mset_ne (by first | exact nz1 (by decide) | exact nz2 (by decide) | exact nz1 (nzA hc0 (by decide)) | exact nz1 (nzE (by decide)) | exact nz1 (nzB hc0 (by decide)) | exact nz1 (nzC hc0 (by decide)) | exact nz1 (nzD hc0 (by decide)) | exact nz1 (nzF (by decide)) | exact nz1 (nzG (by decide)) | omega))); have f1 := congrArg Int32.toInt ((congrFun (congrFun eM_11 c) 9).trans (mset_ne (by first | exact nz1 (by decide) | exact nz2 (by decide) | exact nz1 (nzA hc0 (by decide)) | exact nz1 (nzE (by decide)) | exact nz1 (nzB hc0 (by decide)) | exact nz1 (nzC hc0 (by decide)) | exact nz1 (nzD hc0 (by decide)) | exact nz1 (nzF (by decide)) | exact nz1 (nzG (by decide)) | omega))); have f2 := congrArg Int32.toInt ((congrFun (congrFun eM_10 c) 9).trans (mset_ne (by first | exact nz1 (by decide) | exact nz2 (by decide) | exact nz1 (nzA hc0 (by decide)) | exact nz1 (nzE (by decide)) | exact nz1 (nzB hc0 (by decide)) | exact nz1 (nzC hc0 (by decide)) | exact nz1 (nzD hc0 (by decide)) | exact nz1 (nzF (by decide)) | exact nz1 (nzG (by decide)) | omega))); omega)
        · refine wp_cb2 (og_sum8 hc M_12 (nI 0) (by have f0 := t_lit 0; omega) (by have f0 := congrArg Int32.toInt ((congrFun (congrFun eM_12 c) 9).trans (mset_ne (by first | exact nz1 (by decide) | exact nz2 (by decide) | exact nz1 (nzA hc0 (by decide)) | exact nz1 (nzE (by decide)) | exact nz1 (nzB hc0 (by decide)) | exact nz1 (nzC hc0 (by decide)) | exact nz1 (nzD hc0 (by decide)) | exact nz1 (nzF (by decide)) | exact nz1 (nzG (by decide)) | omega))); have f1 := congrArg Int32.toInt ((congrFun (congrFun eM_11 c) 9).trans (mset_ne (by first | exact nz1 (by decide) | exact nz2 (by decide) | exact nz1 (nzA hc0 (by decide)) | exact nz1 (nzE (by decide)) | exact nz1 (nzB hc0 (by decide)) | exact nz1 (nzC hc0 (by decide)) | exact nz1 (nzD hc0 (by decide)) | exact nz1 (nzF (by decide)) | exact nz1 (nzG (by decide)) | omega))); have f2 := congrArg Int32.toInt ((congrFun (congrFun eM_10 c) 9).trans (mset_ne (by first | exact nz1 (by decide) | exact nz2 (by decide) | exact nz1 (nzA hc0 (by decide)) | exact nz1 (nzE (by decide)) | exact nz1 (nzB hc0 (by decide)) | exact nz1 (nzC hc0 (by decide)) | exact nz1 (nzD hc0 (by decide)) | exact nz1 (nzF (by decide)) | exact nz1 (nzG (by decide)) | omega))); have f3 := t_lit 0; omega)) (fun r_25 M_26 he107 hq107 => ?_)
          obtain ⟨hz_r_25, hg_M_26, hb_107⟩ := hq107
          replace hb_107 : (M_26 c 9).toInt = 0 ∨ (M_26 c 9).toInt = 1 := hb_107
          have := t_lit 0
          replace hg_M_26 : ∀ a i, ¬ ((a = 19 ∧ i = 3) ∨ (a = 19 ∧ i = 4) ∨ a = (c + 1) ∨ a = (c + 2) ∨ (a = c ∧ i = 7) ∨ (a = c ∧ i = 9)) → M_26 a i = M_12 a i := by exact fun a i q0 => hg_M_26 a i (by first | decide | (rcases hc0 with h | h <;> rw [h] <;> simp; done) | (rcases hb0 with h | h | h <;> rw [h] <;> simp; done) | (simp; done) | omega)
          refine wp_ite (fun c110 => ?_) (fun c110 => ?_)
          · exact wp_some (fun a i q0 => ((hg_M_26 a i (fun z8 => q0 ((fun z9 => Or.elim z9 (fun h9 => Or.inl h9) (fun z9 => Or.elim z9 (fun h9 => Or.inr (Or.inl h9)) (fun z9 => Or.elim z9 (fun h9 => Or.inr (Or.inr (Or.inl h9))) (fun z9 => Or.elim z9 (fun h9 => Or.inr (Or.inr (Or.inr (Or.inl h9)))) (fun z9 => Or.elim z9 (fun h9 => Or.inr (Or.inr (Or.inr (Or.inr (Or.inr (Or.inr (Or.inr (Or.inr (Or.inl h9))))))))) (fun h9 => Or.inr (Or.inr (Or.inr (Or.inr (Or.inr (Or.inr (Or.inr (Or.inr (Or.inr (Or.inr (h9)))))))))))))))) z8))).trans ((congrFun (congrFun eM_12 a) i).trans ((mset_ne (fun h9 => q0 (Or.inr (Or.inr (Or.inr (Or.inr (Or.inr (Or.inl (h9).1)))))))).trans ((congrFun (congrFun eM_11 a) i).trans ((mset_ne (fun h9 => q0 (Or.inr (Or.inr (Or.inr (Or.inr (Or.inl (h9).1))))))).trans ((congrFun (congrFun eM_10 a) i).trans ((mset_ne (fun h9 => q0 (Or.inl h9))).trans ((hf_M17 a i (fun z8 => q0 ((fun z9 => Or.elim z9 (fun h9 => Or.inl h9) (fun z9 => Or.elim z9 (fun h9 => Or.inr (Or.inl h9)) (fun z9 => Or.elim z9 (fun h9 => Or.inr (Or.inr (Or.inl h9))) (fun z9 => Or.elim z9 (fun h9 => Or.inr (Or.inr (Or.inr (Or.inl h9)))) (fun z9 => Or.elim z9 (fun h9 => Or.inr (Or.inr (Or.inr (Or.inr (Or.inl h9))))) (fun z9 => Or.elim z9 (fun h9 => Or.inr (Or.inr (Or.inr (Or.inr (Or.inr (Or.inl h9)))))) (fun z9 => Or.elim z9 (fun h9 => Or.inr (Or.inr (Or.inr (Or.inr (Or.inr (Or.inr (Or.inl h9))))))) (fun z9 => Or.elim z9 (fun h9 => Or.inr (Or.inr (Or.inr (Or.inr (Or.inr (Or.inr (Or.inr (Or.inl h9)))))))) (fun z9 => Or.elim z9 (fun h9 => Or.inr (Or.inr (Or.inr (Or.inr (Or.inr (Or.inr (Or.inr (Or.inr (Or.inl h9))))))))) (fun z9 => Or.elim z9 (fun h9 => Or.inr (Or.inr (Or.inr (Or.inr (Or.inr (Or.inr (Or.inr (Or.inr (Or.inr (Or.inl h9)))))))))) (fun h9 => Or.inr (Or.inr (Or.inr (Or.inr (Or.inr (Or.inr (Or.inr (Or.inr (Or.inr (Or.inr (h9))))))))))))))))))))) z8))).trans ((congrFun (congrFun eM_3 a) i).trans ((mset_ne (fun h9 => q0 (Or.inr (Or.inr (Or.inr (Or.inr (Or.inr (Or.inr (Or.inr (Or.inr (Or.inr (Or.inr (h9))))))))))))).trans ((congrFun (congrFun eM_2 a) i).trans ((mset_ne (fun h9 => q0 (Or.inr (Or.inr (Or.inr (Or.inr (Or.inr (Or.inr (Or.inr (Or.inr (Or.inr (Or.inl h9)))))))))))).trans ((congrFun (congrFun eM_1 a) i).trans ((mset_ne (fun h9 => q0 (Or.inr (Or.inr (Or.inr (Or.inr (Or.inr (Or.inr (Or.inr (Or.inr (Or.inl h9))))))))))).trans rfl)))))))))))))))
          · exact j118 M_26 (fun a i q0 => ((hg_M_26 a i (fun z8 => q0 ((fun z9 => Or.elim z9 (fun h9 => Or.inl h9) (fun z9 => Or.elim z9 (fun h9 => Or.inr (Or.inl h9)) (fun z9 => Or.elim z9 (fun h9 => Or.inr (Or.inr (Or.inl h9))) (fun z9 => Or.elim z9 (fun h9 => Or.inr (Or.inr (Or.inr (Or.inl h9)))) (fun z9 => Or.elim z9 (fun h9 => Or.inr (Or.inr (Or.inr (Or.inr (Or.inl h9))))) (fun h9 => Or.inr (Or.inr (Or.inr (Or.inr (Or.inr (h9))))))))))) z8))).trans rfl)) (by omega)
theorem o_X3_doesSink {c : Nat} (hc : isL c) (M : Mem) : Wp (f_X3_doesSink c M) (fun q => (q.1 = 0 ∨ q.1 = 1) ∧ (∀ a i, ¬ (a = (c + 3)) → q.2 a i = M a i)) := by
  have hc0 : c = 44 ∨ c = 52 := hc
  refine wp_lp2 (fun M2 y2_2 => (0 ≤ y2_2.toInt) ∧ (∀ a i, ¬ (a = (c + 3)) → M2 a i = M a i)) (fun M2 y2_2 => (16 - y2_2.toInt).toNat) (fun ag2 M2 y2_2 hI2 ih2 => ?_) FU M (nI 0) ⟨(by have f0 := t_lit 0; omega), (fun _ _ _ => rfl)⟩ (fu_lt (by have f0 := t_lit 0; omega))
  obtain ⟨hi2, hf_M2⟩ := hI2
  refine wp_ite (fun c7 => ?_) (fun c7 => ?_)
  · exact wp_some ⟨b01_0, (fun a i q0 => ((hf_M2 a i (fun h9 => q0 (h9))).trans rfl))⟩
  · refine wp_ite (fun c13 => ?_) (fun c13 => ?_)
    · exact wp_some ⟨b01_0, (fun a i q0 => ((hf_M2 a i (fun h9 => q0 (h9))).trans rfl))⟩
    · refine wp_gd (by have f0 := congrArg Int32.toInt (hf_M2 c 8 (by first | decide | (rcases hc0 with h | h <;> rw [h] <;> simp; done) | (rcases hb0 with h | h | h <;> rw [h] <;> simp; done) | (simp; done) | omega)); omega) ?_
      refine wp_ite (fun c24 => ?_) (fun c24 => ?_)
      · refine wp_cb2 (o_X3_doesHold hc M2 y2_2) (fun r_1 M_2 he30 hq30 => ?_)
        obtain ⟨hz_r_1, hg_M_2⟩ := hq30
        replace hg_M_2 : ∀ a i, ¬ (a = (c + 3)) → M_2 a i = M2 a i := by exact fun a i q0 => hg_M_2 a i (by first | decide | (rcases hc0 with h | h <;> rw [h] <;> simp; done) | (rcases hb0 with h | h | h <;> rw [h] <;> simp; done) | (simp; done) | omega)
        refine wp_ite (fun c33 => ?_) (fun c33 => ?_)
        · exact ih2 M_2 (y2_2 + (nI 1)) ⟨(by have f0 := t_lit 1; have f1 := t_add y2_2 (nI 1); have f2 := congrArg Int32.toInt (hf_M2 c 8 (by first | decide | (rcases hc0 with h | h <;> rw [h] <;> simp; done) | (rcases hb0 with h | h | h <;> rw [h] <;> simp; done) | (simp; done) | omega)); have f3 := congrArg Int32.toInt (hf_M2 (c + 4) (ix y2_2) (by first | decide | (rcases hc0 with h | h <;> rw [h] <;> simp; done) | (rcases hb0 with h | h | h <;> rw [h] <;> simp; done) | (simp; done) | omega)); omega), (fun a i q0 => ((hg_M_2 a i (fun h9 => q0 (h9))).trans ((hf_M2 a i (fun h9 => q0 (h9))).trans rfl)))⟩ (by have f0 := t_lit 1; have f1 := t_add y2_2 (nI 1); have f2 := congrArg Int32.toInt (hf_M2 c 8 (by first | decide | (rcases hc0 with h | h <;> rw [h] <;> simp; done) | (rcases hb0 with h | h | h <;> rw [h] <;> simp; done) | (simp; done) | omega)); have f3 := congrArg Int32.toInt (hf_M2 (c + 4) (ix y2_2) (by first | decide | (rcases hc0 with h | h <;> rw [h] <;> simp; done) | (rcases hb0 with h | h | h <;> rw [h] <;> simp; done) | (simp; done) | omega)); omega)
        · exact wp_some ⟨b01_1, (fun a i q0 => ((hg_M_2 a i (fun h9 => q0 (h9))).trans ((hf_M2 a i (fun h9 => q0 (h9))).trans rfl)))⟩
      · exact ih2 M2 (y2_2 + (nI 1)) ⟨(by have f0 := t_lit 1; have f1 := t_add y2_2 (nI 1); have f2 := congrArg Int32.toInt (hf_M2 c 8 (by first | decide | (rcases hc0 with h | h <;> rw [h] <;> simp; done) | (rcases hb0 with h | h | h <;> rw [h] <;> simp; done) | (simp; done) | omega)); have f3 := congrArg Int32.toInt (hf_M2 (c + 4) (ix y2_2) (by first | decide | (rcases hc0 with h | h <;> rw [h] <;> simp; done) | (rcases hb0 with h | h | h <;> rw [h] <;> simp; done) | (simp; done) | omega)); omega), (fun a i q0 => ((hf_M2 a i (fun h9 => q0 (h9))).trans rfl))⟩ (by have f0 := t_lit 1; have f1 := t_add y2_2 (nI 1); have f2 := congrArg Int32.toInt (hf_M2 c 8 (by first | decide | (rcases hc0 with h | h <;> rw [h] <;> simp; done) | (rcases hb0 with h | h | h <;> rw [h] <;> simp; done) | (simp; done) | omega)); have f3 := congrArg Int32.toInt (hf_M2 (c + 4) (ix y2_2) (by first | decide | (rcases hc0 with h | h <;> rw [h] <;> simp; done) | (rcases hb0 with h | h | h <;> rw [h] <;> simp; done) | (simp; done) | omega)); omega)
theorem o_X4_isFooting {b : Nat} (hb : isF b) (M : Mem) (v1 : Int32) (v2 : Int32) : Wp (f_X4_isFooting b M v1 v2) (fun q => (q = 0 ∨ q = 1)) := by
  have hb0 : b = 1 ∨ b = 7 ∨ b = 13 := hb
  have j10 : Wp (f_X4_isFooting_L10 v1) (fun q => (q = 0 ∨ q = 1)) := by
    unfold f_X4_isFooting_L10
    refine wp_ite (fun c11 => ?_) (fun c11 => ?_)
    · exact wp_some b01_0
    · refine wp_ite (fun c17 => ?_) (fun c17 => ?_)
      · exact wp_some b01_0
      · exact wp_some b01_1
  refine wp_ite (fun c1 => ?_) (fun c1 => ?_)
  · exact j10
  · refine wp_ite (fun c7 => ?_) (fun c7 => ?_)
    · exact j10
    · refine wp_bind2 (o_X2_stoneAt hb M v1 v2) (fun r_1 he30 hq30 => ?_)
      refine wp_bind2 (o_X2_isDry hb M r_1) (fun r_2 he33 hq33 => ?_)
      obtain ⟨hz_r_2, hr_33⟩ := hq33
      replace hr_33 : ¬ r_2.toInt = 0 → 0 ≤ r_1.toInt ∧ r_1.toInt < 40 := hr_33
      refine wp_gb hz_r_2 ?_
      exact wp_some hz_r_2
