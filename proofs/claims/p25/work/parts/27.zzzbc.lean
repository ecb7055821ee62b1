set_option maxHeartbeats 4000000 in
theorem oq5_X0_measure {b : Nat} (hb : isF b) (M : Mem) (v2 : Int32) (v3 : Int32) (hn : 1 ≤ v2.toInt ∧ v2.toInt ≤ 7) (hk : 0 ≤ v3.toInt ∧ v3.toInt < 7) (hGd : GdF (FdC M b)) (hto : tldP (FdC M b) (ix (M 40 (ix v3))) ∧ 0 ≤ (M 40 (ix v3)).toInt ∧ (M 40 (ix v3)).toInt < 40) (hmk : MkC (M 38) (M 39) v2.toInt.toNat) : Wp (f_X0_measure b M v2 v3) (fun q => (∀ a i, ¬ (a = 41) → q a i = M a i) ∧ ((∀ j, j < v2.toInt.toNat → (q 41 (j * 7 + ix v3)).toInt = (fun j => iab (((FdC M b) 1 (ix (M 40 (ix v3)))).toInt - (M 38 j).toInt) + iab (((FdC M b) 2 (ix (M 40 (ix v3)))).toInt - (M 39 j).toInt)) j) ∧ ∀ j k, j < 7 → k < 7 → ¬ k = ix v3 → q 41 (j * 7 + k) = M 41 (j * 7 + k))) := by
  have hb0 : b = 1 ∨ b = 7 ∨ b = 13 := hb
  refine wp_ite (fun c1 => ?_) (fun c1 => ?_)
  · exact wp_some ⟨(fun _ _ _ => rfl), (False.elim (by omega))⟩
  · refine wp_ite (fun c7 => ?_) (fun c7 => ?_)
    · exact wp_some ⟨(fun _ _ _ => rfl), (False.elim (by omega))⟩
    · refine wp_gd (by omega) ?_
      refine wp_bind2 (o8_X2_isTold hb M (M 40 (ix v3))) (fun r_1 he17 hq17 => ?_)
      obtain ⟨hz_r_1, hr_17, htd_17⟩ := hq17
      replace hr_17 : ¬ r_1.toInt = 0 → 0 ≤ (M 40 (ix v3)).toInt ∧ (M 40 (ix v3)).toInt < 40 := hr_17
      replace htd_17 : TdP r_1.toInt (FdC M b) (M 40 (ix v3)) := htd_17
      refine wp_ite (fun c20 => ?_) (fun c20 => ?_)
      · exact wp_some ⟨(fun _ _ _ => rfl), (absurd ⟨hto.2, hto.1.2⟩ (td_n htd_17 c20))⟩
      · refine wp_gd (by omega) ?_
        refine wp_bnd (fun x_2 ex_2 => ?_)
        refine wp_lp2 (fun M35 y5_35 => (0 ≤ y5_35.toInt) ∧ (∀ a i, ¬ (a = 41) → M35 a i = M a i) ∧ ((∀ j, j < ix y5_35 → (M35 41 (j * 7 + ix v3)).toInt = (fun j => iab (((FdC M b) 1 (ix (M 40 (ix v3)))).toInt - (M 38 j).toInt) + iab (((FdC M b) 2 (ix (M 40 (ix v3)))).toInt - (M 39 j).toInt)) j) ∧ ∀ j k, j < 7 → k < 7 → ¬ k = ix v3 → M35 41 (j * 7 + k) = M 41 (j * 7 + k)) ∧ (y5_35.toInt ≤ v2.toInt)) (fun M35 y5_35 => (7 - y5_35.toInt).toNat) (fun ag35 M35 y5_35 hI35 ih35 => ?_) FU M (nI 0) ⟨(by have f0 := t_lit 0; omega), (fun _ _ _ => rfl), (by rw [show ix (nI 0) = 0 from (by decide)]; exact ⟨fun j hj => absurd hj (Nat.not_lt_zero _), fun j q _ _ _ => rfl⟩), (by rw [nI0]; omega)⟩ (fu_lt (by have f0 := t_lit 0; omega))
        obtain ⟨hi35, hf_M35, hmi, y5v⟩ := hI35
        refine wp_ite (fun c38 => ?_) (fun c38 => ?_)
        · exact wp_some ⟨(fun a i q0 => ((hf_M35 a i (fun h9 => q0 (h9))).trans rfl)), (by rw [show v2.toInt.toNat = ix y5_35 from (by have z := t_ixn y5_35 (by omega); omega)]; exact hmi)⟩
        · refine wp_ite (fun c45 => ?_) (fun c45 => ?_)
          · exact wp_some ⟨(fun a i q0 => ((hf_M35 a i (fun h9 => q0 (h9))).trans rfl)), (False.elim (by omega))⟩
          · have b9 : b + 2 < 30 := by unfold isF at hb; omega
            have u := i_up (x := y5_35) (by omega)
            have i5 := t_ixn y5_35 (by omega)
            have i3 := t_ixn v3 hk.1
            have tb := told_b hGd hto.1
            have mk := hmk (ix y5_35) (by omega)
            have ix7 := me_ix (y := y5_35) (k := v3) (by omega) hk
            rw [← ex_2] at hto tb
            have f1 : M35 (b + 1) (ix x_2) = (FdC M b) 1 (ix x_2) := by
              rw [hf_M35 (b + 1) _ (by first | decide | (rcases hc0 with h | h <;> rw [h] <;> simp; done) | (rcases hb0 with h | h | h <;> rw [h] <;> simp; done) | (simp; done) | omega)]
              exact (fdc_at (ix40 hto.2.1 hto.2.2) (by omega) hto.1.2).symm
            have f2 : M35 (b + 2) (ix x_2) = (FdC M b) 2 (ix x_2) := by
              rw [hf_M35 (b + 2) _ (by first | decide | (rcases hc0 with h | h <;> rw [h] <;> simp; done) | (rcases hb0 with h | h | h <;> rw [h] <;> simp; done) | (simp; done) | omega)]
              exact (fdc_at (ix40 hto.2.1 hto.2.2) (by omega) hto.1.2).symm
            have f3 : M35 38 (ix y5_35) = M 38 (ix y5_35) := hf_M35 38 _ (by first | decide | (rcases hc0 with h | h <;> rw [h] <;> simp; done) | (rcases hb0 with h | h | h <;> rw [h] <;> simp; done) | (simp; done) | omega)
            have f4 : M35 39 (ix y5_35) = M 39 (ix y5_35) := hf_M35 39 _ (by first | decide | (rcases hc0 with h | h <;> rw [h] <;> simp; done) | (rcases hb0 with h | h | h <;> rw [h] <;> simp; done) | (simp; done) | omega)
            have ev := me_v (a := (FdC M b) 1 (ix x_2)) (b := (FdC M b) 2 (ix x_2)) (x := M 38 (ix y5_35)) (y := M 39 (ix y5_35)) (by omega) (by omega) (by omega) (by omega)
            refine wp_gd (by have f0 := congrArg Int32.toInt ex_2; omega) ?_
            refine wp_gd (by omega) ?_
            refine wp_gd (by have f0 := congrArg Int32.toInt ex_2; omega) ?_
            refine wp_gd (by omega) ?_
            refine wp_gd (by have f0 := t_lit 7; have f1 := (t_mulR y5_35 7 (by omega) (by omega)); have f2 := t_add (y5_35 * (nI 7)) v3; omega) ?_
            refine wp_bnd (fun M_3 eM_3 => ?_)
            exact ih35 M_3 (y5_35 + (nI 1)) ⟨(by have f0 := t_lit 1; have f1 := t_add y5_35 (nI 1); omega), (fun a i q0 => ((congrFun (congrFun eM_3 a) i).trans ((mset_ne (fun h9 => q0 ((h9).1))).trans ((hf_M35 a i (fun h9 => q0 (h9))).trans rfl)))), (by rw [u.1]; exact me_s hmi (by omega) (by omega) (by rw [eM_3, ix7, mset_eq, f1, f2, f3, f4]) (by rw [ev, ex_2]) (fun i hi => by rw [eM_3, ix7, mset_ne (fun z => hi z.2)])), (by rw [u.2]; omega)⟩ (by have f0 := t_lit 1; have f1 := t_add y5_35 (nI 1); omega)
