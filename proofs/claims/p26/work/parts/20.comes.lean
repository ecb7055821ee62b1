set_option maxHeartbeats 4000000 in
theorem o_X10_comesTo (M : Mem) (v1 : Int32) (v2 : Int32) (hv : 0 ≤ v1.toInt ∧ v1.toInt ≤ 260 ∧ 0 ≤ v2.toInt ∧ v2.toInt ≤ 260) (hS : Seg (M 12) (ix v1) (ix v2)) : Wp (f_X10_comesTo M v1 v2) (fun q => (∀ a i, ¬ (a = 17) → q.2 a i = M a i)) := by
  refine wp_bnd (fun x_1 ex_1 => ?_)
  refine wp_lp3 (fun M16 y3_16 y5_16 => (∀ a i, ¬ (a = 17) → M16 a i = M a i) ∧ (v1.toInt ≤ y5_16.toInt ∧ y3_16.toInt = dP (M 12) (ix y5_16) - dP (M 12) (ix v1))) (fun M16 y3_16 y5_16 => (v2.toInt - y5_16.toInt).toNat) (fun ag16 M16 y3_16 y5_16 hI16 ih16 => ?_) FU M (nI 0) v1 ⟨(fun _ _ _ => rfl), ⟨Int.le_refl _, by rw [nI0]; omega⟩⟩ (fu_lt ((by omega)))
  obtain ⟨hf_M16, h16⟩ := hI16
  refine wp_ite (fun c19 => ?_) (fun c19 => ?_)
  · exact wp_some (fun a i q0 => ((hf_M16 a i (fun h9 => q0 (h9))).trans rfl))
  · have fy := t_ixn y5_16 (by omega)
    have fv := t_ixn v1 hv.1
    have fv2 := t_ixn v2 (by omega)
    have hk := hS (ix y5_16) (by omega) (by omega)
    have e12 : M16 12 (ix y5_16) = M 12 (ix y5_16) := hf_M16 12 _ (by first | decide | (rcases hc0 with h | h <;> rw [h] <;> simp; done) | (rcases hb0 with h | h | h <;> rw [h] <;> simp; done) | (simp; done) | omega)
    have hle : dP (M 12) (ix y5_16) ≤ dP (M 12) (ix v1) + ((ix y5_16 - ix v1 : Nat) : Int) := by
      have h9 := dP_le (M 12) (ix v1) (ix y5_16 - ix v1)
      rw [show ix v1 + (ix y5_16 - ix v1) = ix y5_16 from (by omega)] at h9
      exact h9
    have hds := dP_s (M 12) (ix y5_16)
    have hi := i_up (x := y5_16) (by omega)
    obtain ⟨k1, k2, k3, k4, k5, k6, k7⟩ := hk
    have hkb := kd_bd k1
    have hy3 := i_up (x := y3_16) (by omega)
    refine wp_gd (by omega) ?_
    refine wp_bnd (fun x_2 ex_2 => ?_)
    have hx2 : x_2.toInt = kd (M 12 (ix y5_16)) := by rw [ex_2, e12]; exact kd_div k1
    refine wp_gd (by omega) ?_
    refine wp_bnd (fun x_3 ex_3 => ?_)
    have hx3 : x_3.toInt = vl (M 12 (ix y5_16)) := by rw [ex_3, e12]; exact vl_rm k1
    have j63 : (x_2.toInt = 0 ∨ x_2.toInt = 1) → Wp (f_X10_comesTo_L63 ag16 M16 y3_16 y5_16 x_2 x_3) (fun q => (∀ a i, ¬ (a = 17) → q.2 a i = M a i)) := by
      intro h63
      unfold f_X10_comesTo_L63
      have j85 : ∀ (t0_85 : Int32), Wp (f_X10_comesTo_L85 ag16 M16 y3_16 y5_16 t0_85) (fun q => (∀ a i, ¬ (a = 17) → q.2 a i = M a i)) := by
        intro t0_85
        unfold f_X10_comesTo_L85
        refine wp_gd (by omega) ?_
        refine wp_bnd (fun M_4 eM_4 => ?_)
        exact ih16 M_4 (y3_16 + (nI 1)) (y5_16 + (nI 1)) ⟨(fun a i q0 => ((congrFun (congrFun eM_4 a) i).trans ((mset_ne (fun h9 => q0 ((h9).1))).trans ((hf_M16 a i (fun h9 => q0 (h9))).trans rfl)))), ⟨by omega, by rw [hi.1, hds, ef_1 (by omega)]; omega⟩⟩ (by omega)
      refine wp_ite (fun c70 => ?_) (fun c70 => ?_)
      · exact j85 x_3
      · refine wp_gd (by have h9 := k3 (by omega); omega) ?_
        exact j85 (M16 18 (ix x_3))
    refine wp_ite (fun c54 => ?_) (fun c54 => ?_)
    · exact j63 (by omega)
    · refine wp_ite (fun c60 => ?_) (fun c60 => ?_)
      · exact j63 (by omega)
      · refine wp_ite (fun c97 => ?_) (fun c97 => ?_)
        · have p1 := k6 (by omega)
          have d1 := i_dn (x := y3_16) (by omega)
          refine wp_gd (by omega) ?_
          refine wp_gd (by omega) ?_
          refine wp_bnd (fun M_8 eM_8 => ?_)
          exact ih16 M_8 y3_16 (y5_16 + (nI 1)) ⟨(fun a i q0 => ((congrFun (congrFun eM_8 a) i).trans ((mset_ne (fun h9 => q0 ((h9).1))).trans ((hf_M16 a i (fun h9 => q0 (h9))).trans rfl)))), ⟨by omega, by rw [hi.1, hds, show kd (M 12 (ix y5_16)) = 10 from (by omega), ef_10]; omega⟩⟩ (by omega)
        · have j135 : (x_2.toInt = 11 ∨ x_2.toInt = 12) → Wp (f_X10_comesTo_L135 x_1 ag16 M16 y3_16 y5_16 x_2 x_3) (fun q => (∀ a i, ¬ (a = 17) → q.2 a i = M a i)) := by
            intro h135
            unfold f_X10_comesTo_L135
            have p1 := k7 (by omega)
            have d1 := i_dn (x := y3_16) (by omega)
            refine wp_gd (by omega) ?_
            have j155 : ∀ (t0_155 : Int32), (t0_155 = 0 ∨ t0_155 = 1) → Wp (f_X10_comesTo_L155 x_1 ag16 M16 y3_16 y5_16 x_3 t0_155) (fun q => (∀ a i, ¬ (a = 17) → q.2 a i = M a i)) := by
              intro t0_155 hb_t0_155
              unfold f_X10_comesTo_L155
              refine wp_ite (fun c155 => ?_) (fun c155 => ?_)
              · refine wp_bnd (fun x_5 ex_5 => ?_)
                have hx1 : x_1.toInt = 0 := by
                  have h9 := t_divn v1 260 hv.1 (by omega)
                  rw [ex_1, t_mulL _ 260 (by omega) (by omega)]
                  omega
                have hx5 : x_5.toInt = x_3.toInt := by
                  have h9 := t_add x_1 x_3
                  rw [ex_5]
                  omega
                obtain ⟨p2, p3, p4⟩ := p1.2
                have fx5 := t_ixn x_5 (by omega)
                have hi5 : ix x_5 = (vl (M 12 (ix y5_16))).toNat := by omega
                exact ih16 M16 y3_16 x_5 ⟨(fun a i q0 => ((hf_M16 a i (fun h9 => q0 (h9))).trans rfl)), ⟨by omega, by rw [hi5, p4]; omega⟩⟩ (by omega)
              · exact ih16 M16 (y3_16 - (nI 1)) (y5_16 + (nI 1)) ⟨(fun a i q0 => ((hf_M16 a i (fun h9 => q0 (h9))).trans rfl)), ⟨by omega, by rw [hi.1, hds, ef_m (by omega) (by omega)]; omega⟩⟩ (by omega)
            refine wp_ite (fun c147 => ?_) (fun c147 => ?_)
            · exact j155 (nI 1) b01_1
            · exact j155 (nI 0) b01_0
          refine wp_ite (fun c125 => ?_) (fun c125 => ?_)
          · exact j135 (by omega)
          · refine wp_ite (fun c132 => ?_) (fun c132 => ?_)
            · exact j135 (by omega)
            · have j203 : (¬ ((x_2.toInt = 5 ∨ x_2.toInt = 6) ∧ (M16 17 (ix (y3_16 - (nI 1)))).toInt = 0)) → Wp (f_X10_comesTo_L203 ag16 M16 y3_16 y5_16 x_2) (fun q => (∀ a i, ¬ (a = 17) → q.2 a i = M a i)) := by
                intro h203
                unfold f_X10_comesTo_L203
                have p1 := k5 (by omega) (by omega)
                have d1 := i_dn (x := y3_16) (by omega)
                have d2 := i_dn (x := y3_16 - nI 1) (by omega)
                refine wp_gd (by omega) ?_
                refine wp_gd (by omega) ?_
                refine wp_bind2 (o_X10_reckon M16 x_2 (M16 17 (ix ((y3_16 - (nI 1)) - (nI 1)))) (M16 17 (ix (y3_16 - (nI 1)))) (fun z h9 => h203 ⟨z, h9⟩)) (fun r_6 he226 hq226 => ?_)
                refine wp_gd (by omega) ?_
                refine wp_bnd (fun M_7 eM_7 => ?_)
                exact ih16 M_7 (y3_16 - (nI 1)) (y5_16 + (nI 1)) ⟨(fun a i q0 => ((congrFun (congrFun eM_7 a) i).trans ((mset_ne (fun h9 => q0 ((h9).1))).trans ((hf_M16 a i (fun h9 => q0 (h9))).trans rfl)))), ⟨by omega, by rw [hi.1, hds, ef_m (by omega) (by omega)]; omega⟩⟩ (by omega)
              have j192 : (x_2.toInt = 5 ∨ x_2.toInt = 6) → Wp (f_X10_comesTo_L192 ag16 M16 y3_16 y5_16 x_2) (fun q => (∀ a i, ¬ (a = 17) → q.2 a i = M a i)) := by
                intro h192
                unfold f_X10_comesTo_L192
                have p1 := k5 (by omega) (by omega)
                have d1 := i_dn (x := y3_16) (by omega)
                refine wp_gd (by omega) ?_
                refine wp_ite (fun c198 => ?_) (fun c198 => ?_)
                · exact wp_some (fun a i q0 => ((hf_M16 a i (fun h9 => q0 (h9))).trans rfl))
                · exact j203 (by omega)
              refine wp_ite (fun c182 => ?_) (fun c182 => ?_)
              · exact j192 (by omega)
              · refine wp_ite (fun c189 => ?_) (fun c189 => ?_)
                · exact j192 (by omega)
                · exact j203 (by omega)
set_option maxHeartbeats 2000000 in
theorem o_X10_byLaw (M : Mem) (v1 : Int32) (v2 : Int32) (hG : Gl M) : Wp (f_X10_byLaw M v1 v2) (fun q => (∀ a i, ¬ (a = 17) → q.2 a i = M a i)) := by
  refine wp_lp2 (fun M2 y3_2 => (∀ a i, ¬ (a = 17) → M2 a i = M a i) ∧ (0 ≤ y3_2.toInt ∧ Gl M2)) (fun M2 y3_2 => ((M2 0 15).toInt - y3_2.toInt).toNat) (fun ag2 M2 y3_2 hI2 ih2 => ?_) FU M (nI 0) ⟨(fun _ _ _ => rfl), ⟨by decide, hG⟩⟩ (fu_lt ((by have h9 := hG.1; have h8 := t_lit 0; omega)))
  obtain ⟨hf_M2, h2⟩ := hI2
  have hg1 := h2.2.1
  refine wp_ite (fun c7 => ?_) (fun c7 => ?_)
  · exact wp_some (fun a i q0 => ((hf_M2 a i (fun h9 => q0 (h9))).trans rfl))
  · have fy := t_ixn y3_2 (by omega)
    obtain ⟨g1, g2⟩ := h2.2
    have f15 := t_ixn (M2 0 15) g1.1
    obtain ⟨a1, a2, a3, a4, a5, a6⟩ := g2 (ix y3_2) (by omega)
    have hi := i_up (x := y3_2) (by omega)
    refine wp_gd (by omega) ?_
    refine wp_ite (fun c17 => ?_) (fun c17 => ?_)
    · refine wp_gd (by omega) ?_
      refine wp_gd (by omega) ?_
      refine wp_cb2 (o_X10_comesTo M2 (M2 15 (ix y3_2)) (M2 16 (ix y3_2)) (by omega) a6) (fun r_1 M_2 he33 hq33 => ?_)
      have hg_M_2 := hq33
      replace hg_M_2 : ∀ a i, ¬ (a = 17) → M_2 a i = M2 a i := hg_M_2
      have j43 : Wp (f_X10_byLaw_L43 v2 y3_2 M_2) (fun q => (∀ a i, ¬ (a = 17) → q.2 a i = M a i)) := by
        unfold f_X10_byLaw_L43
        refine wp_gd (by omega) ?_
        refine wp_gd (by omega) ?_
        refine wp_cb2 (o_X10_comesTo M_2 (M_2 14 (ix y3_2)) (M_2 15 (ix y3_2)) (by rw [hg_M_2 14 _ (by first | decide | (rcases hc0 with h | h <;> rw [h] <;> simp; done) | (rcases hb0 with h | h | h <;> rw [h] <;> simp; done) | (simp; done) | omega), hg_M_2 15 _ (by first | decide | (rcases hc0 with h | h <;> rw [h] <;> simp; done) | (rcases hb0 with h | h | h <;> rw [h] <;> simp; done) | (simp; done) | omega)]; omega) (by rw [hg_M_2 14 _ (by first | decide | (rcases hc0 with h | h <;> rw [h] <;> simp; done) | (rcases hb0 with h | h | h <;> rw [h] <;> simp; done) | (simp; done) | omega), hg_M_2 15 _ (by first | decide | (rcases hc0 with h | h <;> rw [h] <;> simp; done) | (rcases hb0 with h | h | h <;> rw [h] <;> simp; done) | (simp; done) | omega), show M_2 12 = M2 12 from funext (fun i => hg_M_2 12 i (by first | decide | (rcases hc0 with h | h <;> rw [h] <;> simp; done) | (rcases hb0 with h | h | h <;> rw [h] <;> simp; done) | (simp; done) | omega))]; exact a5)) (fun r_3 M_4 he56 hq56 => ?_)
        have hg_M_4 := hq56
        replace hg_M_4 : ∀ a i, ¬ (a = 17) → M_4 a i = M_2 a i := hg_M_4
        refine wp_ite (fun c63 => ?_) (fun c63 => ?_)
        · refine wp_ite (fun c73 => ?_) (fun c73 => ?_)
          · exact wp_some (fun a i q0 => ((hg_M_4 a i (fun h9 => q0 (h9))).trans ((hg_M_2 a i (fun h9 => q0 (h9))).trans ((hf_M2 a i (fun h9 => q0 (h9))).trans rfl))))
          · exact wp_some (fun a i q0 => ((hg_M_4 a i (fun h9 => q0 (h9))).trans ((hg_M_2 a i (fun h9 => q0 (h9))).trans ((hf_M2 a i (fun h9 => q0 (h9))).trans rfl))))
        · exact wp_some (fun a i q0 => ((hg_M_4 a i (fun h9 => q0 (h9))).trans ((hg_M_2 a i (fun h9 => q0 (h9))).trans ((hf_M2 a i (fun h9 => q0 (h9))).trans rfl))))
      refine wp_ite (fun c37 => ?_) (fun c37 => ?_)
      · exact j43
      · exact ih2 M_2 (y3_2 + (nI 1)) ⟨(fun a i q0 => ((hg_M_2 a i (fun h9 => q0 (h9))).trans ((hf_M2 a i (fun h9 => q0 (h9))).trans rfl))), ⟨by omega, (gl_ext h2.2 (hg_M_2 0 15 (by first | decide | (rcases hc0 with h | h <;> rw [h] <;> simp; done) | (rcases hb0 with h | h | h <;> rw [h] <;> simp; done) | (simp; done) | omega)) (fun i => hg_M_2 12 i (by first | decide | (rcases hc0 with h | h <;> rw [h] <;> simp; done) | (rcases hb0 with h | h | h <;> rw [h] <;> simp; done) | (simp; done) | omega)) (fun i => hg_M_2 14 i (by first | decide | (rcases hc0 with h | h <;> rw [h] <;> simp; done) | (rcases hb0 with h | h | h <;> rw [h] <;> simp; done) | (simp; done) | omega)) (fun i => hg_M_2 15 i (by first | decide | (rcases hc0 with h | h <;> rw [h] <;> simp; done) | (rcases hb0 with h | h | h <;> rw [h] <;> simp; done) | (simp; done) | omega)) (fun i => hg_M_2 16 i (by first | decide | (rcases hc0 with h | h <;> rw [h] <;> simp; done) | (rcases hb0 with h | h | h <;> rw [h] <;> simp; done) | (simp; done) | omega)))⟩⟩ (by have h9 := congrArg Int32.toInt (hg_M_2 0 15 (by first | decide | (rcases hc0 with h | h <;> rw [h] <;> simp; done) | (rcases hb0 with h | h | h <;> rw [h] <;> simp; done) | (simp; done) | omega)); omega)
    · exact ih2 M2 (y3_2 + (nI 1)) ⟨(fun a i q0 => ((hf_M2 a i (fun h9 => q0 (h9))).trans rfl)), ⟨by omega, h2.2⟩⟩ (by omega)
set_option maxHeartbeats 2000000 in
theorem o_X10_holdsAny (M : Mem) (v1 : Int32) (hG : Gl M) : Wp (f_X10_holdsAny M v1) (fun q => (q.1 = 0 ∨ q.1 = 1) ∧ (∀ a i, ¬ (a = 17) → q.2 a i = M a i)) := by
  refine wp_lp2 (fun M2 y2_2 => (∀ a i, ¬ (a = 17) → M2 a i = M a i) ∧ (0 ≤ y2_2.toInt ∧ Gl M2)) (fun M2 y2_2 => ((M2 0 15).toInt - y2_2.toInt).toNat) (fun ag2 M2 y2_2 hI2 ih2 => ?_) FU M (nI 0) ⟨(fun _ _ _ => rfl), ⟨by decide, hG⟩⟩ (fu_lt ((by have h9 := hG.1; have h8 := t_lit 0; omega)))
  obtain ⟨hf_M2, h2⟩ := hI2
  have hg1 := h2.2.1
  refine wp_ite (fun c7 => ?_) (fun c7 => ?_)
  · exact wp_some ⟨b01_0, (fun a i q0 => ((hf_M2 a i (fun h9 => q0 (h9))).trans rfl))⟩
  · have fy := t_ixn y2_2 (by omega)
    obtain ⟨g1, g2⟩ := h2.2
    have f15 := t_ixn (M2 0 15) g1.1
    obtain ⟨a1, a2, a3, a4, a5, a6⟩ := g2 (ix y2_2) (by omega)
    have hi := i_up (x := y2_2) (by omega)
    refine wp_gd (by omega) ?_
    refine wp_ite (fun c17 => ?_) (fun c17 => ?_)
    · refine wp_gd (by omega) ?_
      refine wp_gd (by omega) ?_
      refine wp_cb2 (o_X10_comesTo M2 (M2 15 (ix y2_2)) (M2 16 (ix y2_2)) (by omega) a6) (fun r_1 M_2 he33 hq33 => ?_)
      have hg_M_2 := hq33
      replace hg_M_2 : ∀ a i, ¬ (a = 17) → M_2 a i = M2 a i := hg_M_2
      refine wp_ite (fun c37 => ?_) (fun c37 => ?_)
      · exact wp_some ⟨b01_1, (fun a i q0 => ((hg_M_2 a i (fun h9 => q0 (h9))).trans ((hf_M2 a i (fun h9 => q0 (h9))).trans rfl)))⟩
      · exact ih2 M_2 (y2_2 + (nI 1)) ⟨(fun a i q0 => ((hg_M_2 a i (fun h9 => q0 (h9))).trans ((hf_M2 a i (fun h9 => q0 (h9))).trans rfl))), ⟨by omega, (gl_ext h2.2 (hg_M_2 0 15 (by first | decide | (rcases hc0 with h | h <;> rw [h] <;> simp; done) | (rcases hb0 with h | h | h <;> rw [h] <;> simp; done) | (simp; done) | omega)) (fun i => hg_M_2 12 i (by first | decide | (rcases hc0 with h | h <;> rw [h] <;> simp; done) | (rcases hb0 with h | h | h <;> rw [h] <;> simp; done) | (simp; done) | omega)) (fun i => hg_M_2 14 i (by first | decide | (rcases hc0 with h | h <;> rw [h] <;> simp; done) | (rcases hb0 with h | h | h <;> rw [h] <;> simp; done) | (simp; done) | omega)) (fun i => hg_M_2 15 i (by first | decide | (rcases hc0 with h | h <;> rw [h] <;> simp; done) | (rcases hb0 with h | h | h <;> rw [h] <;> simp; done) | (simp; done) | omega)) (fun i => hg_M_2 16 i (by first | decide | (rcases hc0 with h | h <;> rw [h] <;> simp; done) | (rcases hb0 with h | h | h <;> rw [h] <;> simp; done) | (simp; done) | omega)))⟩⟩ (by have h9 := congrArg Int32.toInt (hg_M_2 0 15 (by first | decide | (rcases hc0 with h | h <;> rw [h] <;> simp; done) | (rcases hb0 with h | h | h <;> rw [h] <;> simp; done) | (simp; done) | omega)); omega)
    · exact ih2 M2 (y2_2 + (nI 1)) ⟨(fun a i q0 => ((hf_M2 a i (fun h9 => q0 (h9))).trans rfl)), ⟨by omega, h2.2⟩⟩ (by omega)
