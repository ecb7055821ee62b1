theorem o7_X10_reckon (M : Mem) (v0 : Int32) (v1 : Int32) (v2 : Int32) (hy : (v0.toInt = 5 ∨ v0.toInt = 6) → ¬ v2.toInt = 0) : Wp (f_X10_reckon v0 v1 v2) (fun q => (RkP v0.toInt v1 v2 q)) := by
  refine wp_ite (fun c1 => ?_) (fun c1 => ?_)
  · exact wp_some (rp_of c1 (rk_2 _ _).symm)
  · refine wp_ite (fun c1 => ?_) (fun c1 => ?_)
    · exact wp_some (rp_of c1 (rk_3 _ _).symm)
    · refine wp_ite (fun c2 => ?_) (fun c2 => ?_)
      · exact wp_some (rp_of c2 (rk_4 _ _).symm)
      · refine wp_ite (fun c3 => ?_) (fun c3 => ?_)
        · refine wp_dz (by omega) ?_
          exact wp_some (rp_of c3 (rk_5 _ _).symm)
        · refine wp_ite (fun c4 => ?_) (fun c4 => ?_)
          · refine wp_dz (by omega) ?_
            exact wp_some (rp_of c4 (rk_6 _ _).symm)
          · refine wp_ite (fun c5 => ?_) (fun c5 => ?_)
            · refine wp_ite (fun c66 => ?_) (fun c66 => ?_)
              · exact wp_some (rp_of c5 (by rw [rk_7]; exact (if_pos c66).symm))
              · exact wp_some (rp_of c5 (by rw [rk_7]; exact (if_neg c66).symm))
            · refine wp_ite (fun c6 => ?_) (fun c6 => ?_)
              · refine wp_ite (fun c77 => ?_) (fun c77 => ?_)
                · exact wp_some (rp_of c6 (by rw [rk_8]; exact (if_pos c77).symm))
                · exact wp_some (rp_of c6 (by rw [rk_8]; exact (if_neg c77).symm))
              · refine wp_ite (fun c88 => ?_) (fun c88 => ?_)
                · exact wp_some (fun z1 z2 => by rw [show v0.toInt = 9 from (by omega), rk_9]; exact (if_pos c88).symm)
                · exact wp_some (fun z1 z2 => by rw [show v0.toInt = 9 from (by omega), rk_9]; exact (if_neg c88).symm)
set_option maxHeartbeats 4000000 in
theorem o7_X10_comesTo (M : Mem) (v1 : Int32) (v2 : Int32) (F : Nat → Int × Int) (V : Nat → Int32) (hv : 0 ≤ v1.toInt ∧ v1.toInt ≤ v2.toInt ∧ v2.toInt ≤ 240) (hF : ∀ j : Nat, j < ix v2 → F j = (kd (M 12 j), vl (M 12 j)) ∧ 0 ≤ (M 12 j).toInt) (hS : SegG F (ix v1) (ix v2)) (hW : ∀ k : Nat, ix v1 ≤ k → k < ix v2 → Wk F (ix v1) (ix v2) k False) (hV : ∀ j : Nat, j < 8 → M 18 j = V j) : Wp (f_X10_comesTo M v1 v2) (fun q => (∀ a i, ¬ (a = 17) → q.2 a i = M a i) ∧ (q.1 = ev F V (ix v2) (ix v1) []) ∧ (ix v1 < ix v2 → isB (F (ix v2 - 1)).1 → q.1.toInt = 0 ∨ q.1.toInt = 1)) := by
  refine wp_bnd (fun x_1 ex_1 => ?_)
  have hx1 : x_1.toInt = 0 := by
    have h9 := t_divn v1 260 hv.1 (by omega)
    rw [ex_1, t_mulL _ 260 (by omega) (by omega)]
    omega
  have hv2 : 0 ≤ v1.toInt ∧ v2.toInt ≤ 260 := by omega
  refine wp_lp3 (fun M16 y3_16 y5_16 => (∀ a i, ¬ (a = 17) → M16 a i = M a i) ∧ (0 ≤ y3_16.toInt ∧ v1.toInt ≤ y5_16.toInt ∧ y5_16.toInt ≤ v2.toInt) ∧ (RkN F V (ix v1) (ix v2) (M16 17) (ix y3_16) (ix y5_16)) ∧ (TyI F (M16 17) (ix v1) (ix y5_16) (ix y3_16))) (fun M16 y3_16 y5_16 => (v2.toInt - y5_16.toInt).toNat) (fun ag16 M16 y3_16 y5_16 hI16 ih16 => ?_) FU M (nI 0) v1 ⟨(fun _ _ _ => rfl), ⟨by decide, Int.le_refl _, hv.2.1⟩, (by rw [show ix (nI 0) = 0 from (by decide)]; exact rn_0 hS), ty_0⟩ (fu_lt ((by omega)))
  obtain ⟨hf_M16, hb16, hR16, hT16⟩ := hI16
  have hn17 := (rn_b hR16).1
  refine wp_ite (fun c19 => ?_) (fun c19 => ?_)
  · have z16 := rn_end hS hR16 (by have f1 := t_ixn v2 (by omega); have f2 := t_ixn y5_16 (by omega); omega)
    have k16 : ix y5_16 = ix v2 := by
      have f3 := (rn_b hR16).2.2
      have f1 := t_ixn v2 (by omega)
      have f2 := t_ixn y5_16 (by omega)
      omega
    exact wp_some ⟨(fun a i q0 => ((hf_M16 a i (fun h9 => q0 (h9))).trans rfl)), (by show M16 17 0 = ev F V (ix v2) (ix v1) []; exact z16.2.symm), (fun z1 z2 => by show (M16 17 0).toInt = 0 ∨ (M16 17 0).toInt = 1; have z3 := hT16; rw [k16, z16.1] at z3; exact z3 z1 z2)⟩
  · have kb : ix y5_16 < ix v2 := by
      have f1 := t_ixn v2 (by omega)
      have f2 := t_ixn y5_16 (by omega)
      omega
    have ka := (rn_b hR16).2.1
    have q5 := q_5 hb16.2 c19 hv2
    have hFk := hF _ kb
    refine wp_gd (by omega) ?_
    refine wp_bnd (fun x_2 ex_2 => ?_)
    have hx2 : x_2.toInt = (F (ix y5_16)).1 := by
      rw [ex_2, hf_M16 12 _ (by first | decide | (rcases hc0 with h | h <;> rw [h] <;> simp; done) | (rcases hb0 with h | h | h <;> rw [h] <;> simp; done) | (simp; done) | omega), kd_div hFk.2, hFk.1]
    refine wp_gd (by omega) ?_
    refine wp_bnd (fun x_3 ex_3 => ?_)
    have hx3 : x_3.toInt = (F (ix y5_16)).2 := by
      rw [ex_3, hf_M16 12 _ (by first | decide | (rcases hc0 with h | h <;> rw [h] <;> simp; done) | (rcases hb0 with h | h | h <;> rw [h] <;> simp; done) | (simp; done) | omega), vl_rm hFk.2, hFk.1]
    clear hFk
    have j63 : (x_2.toInt = 0 ∨ x_2.toInt = 1) → Wp (f_X10_comesTo_L63 ag16 M16 y3_16 y5_16 x_2 x_3) (fun q => (∀ a i, ¬ (a = 17) → q.2 a i = M a i) ∧ (q.1 = ev F V (ix v2) (ix v1) []) ∧ (ix v1 < ix v2 → isB (F (ix v2 - 1)).1 → q.1.toInt = 0 ∨ q.1.toInt = 1)) := by
      intro h63
      unfold f_X10_comesTo_L63
      have o1 : (F (ix y5_16)).1 ≤ 1 := by omega
      have j85 : ∀ (t0_85 : Int32), (RkN F V (ix v1) (ix v2) (upd (M16 17) (ix y3_16) t0_85) (ix y3_16 + 1) (ix y5_16 + 1)) → Wp (f_X10_comesTo_L85 ag16 M16 y3_16 y5_16 t0_85) (fun q => (∀ a i, ¬ (a = 17) → q.2 a i = M a i) ∧ (q.1 = ev F V (ix v2) (ix v1) []) ∧ (ix v1 < ix v2 → isB (F (ix v2 - 1)).1 → q.1.toInt = 0 ∨ q.1.toInt = 1)) := by
        intro t0_85 h85
        unfold f_X10_comesTo_L85
        refine wp_gd ⟨hb16.1, q_260 hb16.1 hn17⟩ ?_
        refine wp_bnd (fun M_4 eM_4 => ?_)
        exact ih16 M_4 (y3_16 + (nI 1)) (y5_16 + (nI 1)) ⟨(fun a i q0 => ((congrFun (congrFun eM_4 a) i).trans ((mset_ne (fun h9 => q0 ((h9).1))).trans ((hf_M16 a i (fun h9 => q0 (h9))).trans rfl)))), ⟨(q_up hb16.1 hn17).1, q5.1⟩, (by rw [eM_4, mset_s, (q_up hb16.1 hn17).2, q5.2.1]; exact h85), (by rw [q5.2.1]; exact ty_no (fun z => absurd z.1 (by omega)))⟩ q5.2.2
      refine wp_ite (fun c70 => ?_) (fun c70 => ?_)
      · exact j85 x_3 (rn_num hS hR16 kb (by rw [← hx2]; exact c70) hx3)
      · refine wp_gd (by have z := sk_l (hS.1 _ ka kb) (by rw [← hx2]; exact h63.resolve_left c70); rw [hx3]; exact z) ?_
        exact j85 (M16 18 (ix x_3)) (rn_let hS hR16 kb (by rw [← hx2]; exact h63.resolve_left c70) (by rw [hf_M16 18 _ (by first | decide | (rcases hc0 with h | h <;> rw [h] <;> simp; done) | (rcases hb0 with h | h | h <;> rw [h] <;> simp; done) | (simp; done) | omega), show ix x_3 = (F (ix y5_16)).2.toNat from congrArg Int.toNat hx3]; exact hV _ (sl8 (sk_l (hS.1 _ ka kb) (by rw [← hx2]; exact h63.resolve_left c70)))))
    refine wp_ite (fun c54 => ?_) (fun c54 => ?_)
    · exact j63 (by omega)
    · refine wp_ite (fun c60 => ?_) (fun c60 => ?_)
      · exact j63 (by omega)
      · refine wp_ite (fun c97 => ?_) (fun c97 => ?_)
        · have o10 : (F (ix y5_16)).1 = 10 := by rw [← hx2]; exact c97
          have d1 := q_dn hb16.1 hn17 (rn_t hS hR16 kb (by omega))
          refine wp_gd ⟨d1.1, d1.2.2⟩ ?_
          refine wp_gd ⟨d1.1, d1.2.2⟩ ?_
          refine wp_bnd (fun M_8 eM_8 => ?_)
          exact ih16 M_8 y3_16 (y5_16 + (nI 1)) ⟨(fun a i q0 => ((congrFun (congrFun eM_8 a) i).trans ((mset_ne (fun h9 => q0 ((h9).1))).trans ((hf_M16 a i (fun h9 => q0 (h9))).trans rfl)))), ⟨hb16.1, q5.1⟩, (by rw [eM_8, mset_s, d1.2.1, q5.2.1]; exact rn_not hS hR16 kb o10), (by rw [eM_8, mset_s, d1.2.1, q5.2.1]; exact ty_not hT16 (hW _ ka kb) o10)⟩ q5.2.2
        · have j135 : (x_2.toInt = 11 ∨ x_2.toInt = 12) → Wp (f_X10_comesTo_L135 x_1 ag16 M16 y3_16 y5_16 x_2 x_3) (fun q => (∀ a i, ¬ (a = 17) → q.2 a i = M a i) ∧ (q.1 = ev F V (ix v2) (ix v1) []) ∧ (ix v1 < ix v2 → isB (F (ix v2 - 1)).1 → q.1.toInt = 0 ∨ q.1.toInt = 1)) := by
            intro h135
            unfold f_X10_comesTo_L135
            have opj : (F (ix y5_16)).1 = 11 ∨ (F (ix y5_16)).1 = 12 := by
              rw [← hx2]
              exact h135
            have d1 := q_dn hb16.1 hn17 (rn_t hS hR16 kb (by omega))
            have tj := ty_at hT16 (hW _ ka kb) (by omega)
            rw [← d1.2.1] at tj
            refine wp_gd ⟨d1.1, d1.2.2⟩ ?_
            have j155 : ∀ (t0_155 : Int32), (t0_155 = 0 ∨ t0_155 = 1) → (J3 t0_155.toInt (F (ix y5_16)).1) → Wp (f_X10_comesTo_L155 x_1 ag16 M16 y3_16 y5_16 x_3 t0_155) (fun q => (∀ a i, ¬ (a = 17) → q.2 a i = M a i) ∧ (q.1 = ev F V (ix v2) (ix v1) []) ∧ (ix v1 < ix v2 → isB (F (ix v2 - 1)).1 → q.1.toInt = 0 ∨ q.1.toInt = 1)) := by
              intro t0_155 hb_t0_155 h155
              unfold f_X10_comesTo_L155
              refine wp_ite (fun c155 => ?_) (fun c155 => ?_)
              · refine wp_bnd (fun x_5 ex_5 => ?_)
                have hx5 : x_5.toInt = (F (ix y5_16)).2 := by
                  have h9 := t_add x_1 x_3
                  have z := sk_j (hS.1 _ ka kb) (by omega)
                  have f1 := t_ixn v2 (by omega)
                  rw [ex_5]
                  omega
                have i5 : ix x_5 = (F (ix y5_16)).2.toNat := congrArg Int.toNat hx5
                have jm := rn_jmp hS hR16 kb opj (by rw [← d1.2.1]; exact j3_y h155 tj c155)
                have qj := q_j (x := x_5) hb16.2 hv2 (by rw [hx5]; exact nn_t jm.2.1) i5 jm.2.1 jm.2.2
                exact ih16 M16 y3_16 x_5 ⟨(fun a i q0 => ((hf_M16 a i (fun h9 => q0 (h9))).trans rfl)), ⟨hb16.1, qj.1⟩, (by rw [i5]; exact jm.1), (by rw [i5]; exact ty_jmp hT16 (hW _ ka kb) (by omega))⟩ qj.2
              · exact ih16 M16 (y3_16 - (nI 1)) (y5_16 + (nI 1)) ⟨(fun a i q0 => ((hf_M16 a i (fun h9 => q0 (h9))).trans rfl)), ⟨d1.1, q5.1⟩, (by rw [d1.2.1, q5.2.1]; exact rn_pop hS hR16 kb opj (by rw [← d1.2.1]; exact j3_n h155 tj c155)), (by rw [q5.2.1]; exact ty_no (fun z => absurd z.2 (by omega)))⟩ q5.2.2
            refine wp_ite (fun c147 => ?_) (fun c147 => ?_)
            · exact j155 (nI 1) b01_1 (Or.inl ⟨nI1, by rw [← hx2]; exact c147⟩)
            · exact j155 (nI 0) b01_0 (Or.inr ⟨nI0, by rw [← hx2]; exact h135.resolve_right c147⟩)
          refine wp_ite (fun c125 => ?_) (fun c125 => ?_)
          · exact j135 (by omega)
          · refine wp_ite (fun c132 => ?_) (fun c132 => ?_)
            · exact j135 (by omega)
            · have ur : 2 ≤ (F (ix y5_16)).1 ∧ (F (ix y5_16)).1 ≤ 9 := by
                have z := sk_o (hS.1 _ ka kb)
                omega
              have tn := rn_t2 hS hR16 kb ur
              have d1 := q_dn hb16.1 hn17 (by omega)
              have d2 := q_dn2 hb16.1 hn17 tn
              have j203 : (¬ ((x_2.toInt = 5 ∨ x_2.toInt = 6) ∧ (M16 17 (ix (y3_16 - (nI 1)))).toInt = 0)) → Wp (f_X10_comesTo_L203 ag16 M16 y3_16 y5_16 x_2) (fun q => (∀ a i, ¬ (a = 17) → q.2 a i = M a i) ∧ (q.1 = ev F V (ix v2) (ix v1) []) ∧ (ix v1 < ix v2 → isB (F (ix v2 - 1)).1 → q.1.toInt = 0 ∨ q.1.toInt = 1)) := by
                intro h203
                unfold f_X10_comesTo_L203
                refine wp_gd ⟨d2.1, d2.2.2⟩ ?_
                refine wp_gd ⟨d1.1, d1.2.2⟩ ?_
                refine wp_bind2 (o7_X10_reckon M16 x_2 (M16 17 (ix ((y3_16 - (nI 1)) - (nI 1)))) (M16 17 (ix (y3_16 - (nI 1)))) (fun z h9 => h203 ⟨z, h9⟩)) (fun r_6 he226 hq226 => ?_)
                have hk_226 := hq226
                replace hk_226 : RkP x_2.toInt (M16 17 (ix ((y3_16 - (nI 1)) - (nI 1)))) (M16 17 (ix (y3_16 - (nI 1)))) r_6 := hk_226
                have hrk : r_6 = rk (F (ix y5_16)).1 (M16 17 (ix y3_16 - 1 - 1)) (M16 17 (ix y3_16 - 1)) := by
                  have z := hk_226 (by rw [hx2]; exact ur.1) (by rw [hx2]; exact ur.2)
                  rw [z, hx2, d2.2.1, d1.2.1]
                refine wp_gd ⟨d2.1, d2.2.2⟩ ?_
                refine wp_bnd (fun M_7 eM_7 => ?_)
                exact ih16 M_7 (y3_16 - (nI 1)) (y5_16 + (nI 1)) ⟨(fun a i q0 => ((congrFun (congrFun eM_7 a) i).trans ((mset_ne (fun h9 => q0 ((h9).1))).trans ((hf_M16 a i (fun h9 => q0 (h9))).trans rfl)))), ⟨d1.1, q5.1⟩, (by rw [eM_7, mset_s, d2.2.1, d1.2.1, q5.2.1]; exact rn_bin hS hR16 kb ur (by rw [← d1.2.1, ← hx2]; exact fun z => h203 z) hrk), (by rw [eM_7, mset_s, d2.2.1, d1.2.1, q5.2.1]; exact ty_bin hrk tn ur.2)⟩ q5.2.2
              have j192 : (x_2.toInt = 5 ∨ x_2.toInt = 6) → Wp (f_X10_comesTo_L192 ag16 M16 y3_16 y5_16 x_2) (fun q => (∀ a i, ¬ (a = 17) → q.2 a i = M a i) ∧ (q.1 = ev F V (ix v2) (ix v1) []) ∧ (ix v1 < ix v2 → isB (F (ix v2 - 1)).1 → q.1.toInt = 0 ∨ q.1.toInt = 1)) := by
                intro h192
                unfold f_X10_comesTo_L192
                refine wp_gd ⟨d1.1, d1.2.2⟩ ?_
                refine wp_ite (fun c198 => ?_) (fun c198 => ?_)
                · exact wp_some ⟨(fun a i q0 => ((hf_M16 a i (fun h9 => q0 (h9))).trans rfl)), (by show nI 0 = ev F V (ix v2) (ix v1) []; exact (rn_div hS hR16 kb (by rw [← hx2]; exact h192) (by rw [← d1.2.1]; exact c198)).symm), (fun _ _ => Or.inl nI0)⟩
                · exact j203 (fun z => c198 z.2)
              refine wp_ite (fun c182 => ?_) (fun c182 => ?_)
              · exact j192 (Or.inl c182)
              · refine wp_ite (fun c189 => ?_) (fun c189 => ?_)
                · exact j192 (Or.inr c189)
                · exact j203 (fun z => z.1.elim c182 c189)
