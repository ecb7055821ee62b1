theorem row_next {M M1 M2 : Mem} {n y3 y4 : Nat} (hr : PermN (M 37) n) (hn : n ≤ 7) (h34 : y3 < y4) (h4n : y4 < n) (hle : (M 37 y3).toInt ≤ (M 37 y4).toInt) (hc : M1 37 = swp (M 37) y3 y4) (hag : ∀ j, j ≤ y3 → M2 37 j = M1 37 j) : rowNum (M 37) n < rowNum (M2 37) n := by
  have hne : ¬ (M 37 y3).toInt = (M 37 y4).toInt := fun z => by
    have := hr.2 y3 y4 (by omega) h4n z
    omega
  refine rowNum_less (i := y3) (fun j hj => ?_) (hr.1 y3 (by omega)).1 ?_ (by omega) (fun j hj => by have := hr.1 j hj; omega)
  · rw [hag j (by omega), hc, swp_get, if_neg (by omega), if_neg (by omega)]
  · rw [hag y3 (by omega), hc, swp_get, if_neg (by omega), if_pos rfl]
    omega
theorem perm_id {f : Nat → Int32} {n : Nat} (hn : n ≤ 7) (h : ∀ j, j < n → f j = nI j) : PermN f n := by
  refine ⟨fun j hj => ?_, fun i j hi hj e => ?_⟩
  · rw [h j hj, t_lit j (by omega)]; omega
  · rw [h i hi, h j hj, t_lit i (by omega), t_lit j (by omega)] at e; omega
theorem perm_num {f : Nat → Int32} {n : Nat} (hn : n ≤ 7) (h : PermN f n) : rowNum f n < 823543 := by
  have h1 := rowNum_lt (f := f) (n := n) (fun j hj => by have := h.1 j hj; omega)
  have h2 : 7 ^ n ≤ 7 ^ 7 := Nat.pow_le_pow_right (by omega) hn
  have h3 : (7 : Nat) ^ 7 = 823543 := by decide
  omega
theorem row_mu {f g : Nat → Int32} {n : Nat} {y r : Int32} (hn : n ≤ 7) (hf : PermN f n) (hg : PermN g n) (hy : ¬ y.toInt = 0) (hl : ¬ r.toInt = 0 → rowNum f n < rowNum g n) : (if r.toInt = 0 then 0 else 900000 - rowNum g n) < (if y.toInt = 0 then 0 else 900000 - rowNum f n) := by
  have h1 := perm_num hn hf
  have h2 := perm_num hn hg
  rw [if_neg hy]
  by_cases h : r.toInt = 0
  · rw [if_pos h]; omega
  · rw [if_neg h]
    have := hl h
    omega
theorem o_X10_nextRow (M : Mem) (v1 : Int32) (v2 : Int32) (hv : 1 ≤ v1.toInt ∧ v1.toInt ≤ 7) (hv2 : 0 ≤ v2.toInt) (hr : PermN (M 37) v1.toInt.toNat) : Wp (f_X10_nextRow M v1 v2) (fun q => (q.1 = 0 ∨ q.1 = 1) ∧ (∀ a i, ¬ (a = 37) → q.2 a i = M a i) ∧ (PermN (q.2 37) v1.toInt.toNat) ∧ (¬ q.1.toInt = 0 → rowNum (M 37) v1.toInt.toNat < rowNum (q.2 37) v1.toInt.toNat)) := by
  refine wp_lp1 (fun y3_4 => (-1 ≤ y3_4.toInt ∧ y3_4.toInt ≤ v1.toInt - 2)) (fun y3_4 => (y3_4.toInt + 2).toNat) (fun ag4 y3_4 hI4 ih4 => ?_) FU (v1 - (nI 2)) (by have f0 := t_lit 2; have f1 := t_sub v1 (nI 2); omega) (fu_lt (by have f0 := t_lit 2; have f1 := t_sub v1 (nI 2); omega))
  have h3 := hI4
  have j33 : (y3_4.toInt < v2.toInt ∨ (M 37 (ix y3_4)).toInt ≤ (M 37 (ix (y3_4 + (nI 1)))).toInt) → Wp (f_X10_nextRow_L33 M v1 v2 y3_4) (fun q => (q.1 = 0 ∨ q.1 = 1) ∧ (∀ a i, ¬ (a = 37) → q.2 a i = M a i) ∧ (PermN (q.2 37) v1.toInt.toNat) ∧ (¬ q.1.toInt = 0 → rowNum (M 37) v1.toInt.toNat < rowNum (q.2 37) v1.toInt.toNat)) := by
    intro h33
    unfold f_X10_nextRow_L33
    refine wp_ite (fun c35 => ?_) (fun c35 => ?_)
    · refine wp_lp1 (fun y4_45 => (y3_4.toInt + 1 ≤ y4_45.toInt ∧ y4_45.toInt ≤ v1.toInt - 1)) (fun y4_45 => (y4_45.toInt + 2).toNat) (fun ag45 y4_45 hI45 ih45 => ?_) FU (v1 - (nI 1)) (by have f0 := t_lit 1; have f1 := t_sub v1 (nI 1); omega) (fu_lt (by have f0 := t_lit 1; have f1 := t_sub v1 (nI 1); omega))
      have h4 := hI45
      refine wp_gd (by omega) ?_
      refine wp_gd (by omega) ?_
      have j70 : ((M 37 (ix y3_4)).toInt ≤ (M 37 (ix y4_45)).toInt) → Wp (f_X10_nextRow_L70 M v1 y3_4 y4_45) (fun q => (q.1 = 0 ∨ q.1 = 1) ∧ (∀ a i, ¬ (a = 37) → q.2 a i = M a i) ∧ (PermN (q.2 37) v1.toInt.toNat) ∧ (¬ q.1.toInt = 0 → rowNum (M 37) v1.toInt.toNat < rowNum (q.2 37) v1.toInt.toNat)) := by
        intro h70
        unfold f_X10_nextRow_L70
        have fi3 := t_ixn y3_4 (by omega)
        have fi4 := t_ixn y4_45 (by omega)
        refine wp_bind2 (o_X10_changes M y3_4 y4_45 (by omega) (by omega)) (fun M_1 he74 hq74 => ?_)
        obtain ⟨hg_M_1, hc_74⟩ := hq74
        replace hc_74 : M_1 37 = swp (M 37) (ix y3_4) (ix y4_45) := hc_74
        replace hg_M_1 : ∀ a i, ¬ (a = 37) → M_1 a i = M a i := hg_M_1
        refine wp_lp3 (fun M87 y5_87 y6_87 => (∀ a i, ¬ (a = 37) → M87 a i = M_1 a i) ∧ (y3_4.toInt + 1 ≤ y5_87.toInt ∧ y6_87.toInt ≤ v1.toInt - 1 ∧ -1 ≤ y6_87.toInt) ∧ (PermN (M87 37) v1.toInt.toNat ∧ ∀ j : Nat, (j : Int) ≤ y3_4.toInt → M87 37 j = M_1 37 j)) (fun M87 y5_87 y6_87 => (y6_87.toInt + 2).toNat) (fun ag87 M87 y5_87 y6_87 hI87 ih87 => ?_) FU M_1 (y3_4 + (nI 1)) (v1 - (nI 1)) ⟨(fun _ _ _ => rfl), (by have f0 := t_lit 1; have f1 := t_add y3_4 (nI 1); have f2 := t_sub v1 (nI 1); omega), ⟨by rw [hc_74]; exact perm_swp hr (by omega) (by omega), fun _ _ => rfl⟩⟩ (fu_lt (by have f0 := t_lit 1; have f1 := t_add y3_4 (nI 1); have f2 := t_sub v1 (nI 1); omega))
        obtain ⟨hf_M87, h5, hp87⟩ := hI87
        refine wp_ite (fun c91 => ?_) (fun c91 => ?_)
        · exact wp_some ⟨b01_1, (fun a i q0 => ((hf_M87 a i (fun h9 => q0 (h9))).trans ((hg_M_1 a i (fun h9 => q0 (h9))).trans rfl))), hp87.1, (fun _ => row_next hr (by omega) (y3 := ix y3_4) (y4 := ix y4_45) (by omega) (by omega) h70 hc_74 (fun j hj => hp87.2 j (by omega)))⟩
        · have fi5 := t_ixn y5_87 (by omega)
          have fi6 := t_ixn y6_87 (by omega)
          refine wp_bind2 (o_X10_changes M87 y5_87 y6_87 (by omega) (by omega)) (fun M_2 he99 hq99 => ?_)
          obtain ⟨hg_M_2, hc_99⟩ := hq99
          replace hc_99 : M_2 37 = swp (M87 37) (ix y5_87) (ix y6_87) := hc_99
          replace hg_M_2 : ∀ a i, ¬ (a = 37) → M_2 a i = M87 a i := hg_M_2
          exact ih87 M_2 (y5_87 + (nI 1)) (y6_87 + (-1)) ⟨(fun a i q0 => ((hg_M_2 a i (fun h9 => q0 (h9))).trans ((hf_M87 a i (fun h9 => q0 (h9))).trans rfl))), (by rw [t_inc y5_87 1 (by omega), t_dec y6_87 (by omega)]; omega), ⟨by rw [hc_99]; exact perm_swp hp87.1 (by omega) (by omega), fun j hj => by rw [hc_99, swp_get, if_neg (by omega), if_neg (by omega)]; exact hp87.2 j hj⟩⟩ (by rw [t_dec y6_87 (by omega)]; omega)
      refine wp_ite (fun c58 => ?_) (fun c58 => ?_)
      · exact j70 (by omega)
      · exact ih45 (y4_45 - (nI 1)) (by have f0 := t_lit 1; have f1 := t_sub y4_45 (nI 1); have hne : ¬ y4_45.toInt = y3_4.toInt + 1 := fun z => c58 (by have f2 := t_add y3_4 (nI 1); rw [show y4_45 = y3_4 + nI 1 from t_of (by omega)]; exact h33.resolve_left (by omega)); omega) (by have f0 := t_lit 1; have f1 := t_sub y4_45 (nI 1); omega)
    · exact wp_some ⟨b01_0, (fun _ _ _ => rfl), hr, (fun h => absurd nI0 h)⟩
  refine wp_ite (fun c6 => ?_) (fun c6 => ?_)
  · exact j33 (by omega)
  · refine wp_gd (by omega) ?_
    refine wp_gd (by have f0 := t_lit 1; have f1 := t_add y3_4 (nI 1); omega) ?_
    refine wp_ite (fun c23 => ?_) (fun c23 => ?_)
    · exact j33 (by omega)
    · exact ih4 (y3_4 - (nI 1)) (by have f0 := t_lit 1; have f1 := t_sub y3_4 (nI 1); have f2 := t_add y3_4 (nI 1); omega) (by have f0 := t_lit 1; have f1 := t_sub y3_4 (nI 1); have f2 := t_add y3_4 (nI 1); omega)
theorem o_X10_chalk (M : Mem) (v1 : Int32) (v2 : Int32) (ht : 0 ≤ (M 0 6).toInt ∧ (M 0 6).toInt ≤ 260) : Wp (f_X10_chalk M v1 v2) (fun q => (∀ a i, ¬ ((a = 0 ∧ i = 6) ∨ a = 36 ∨ a = 37 ∨ a = 38) → q.2 a i = M a i) ∧ (0 ≤ (q.2 0 6).toInt ∧ (q.2 0 6).toInt ≤ 260)) := by
  refine wp_bind2 (o_X10_in M v1 (nI 1) (nI 7)) (fun r_1 he4 hq4 => ?_)
  obtain ⟨hz_r_1, hr_4⟩ := hq4
  replace hr_4 : ¬ r_1.toInt = 0 → (nI 1).toInt ≤ v1.toInt ∧ v1.toInt ≤ (nI 7).toInt := hr_4
  have := t_lit 1
  have := t_lit 7
  have ft7 := t_lit 7
  have ft1 := t_lit 1
  refine wp_ite (fun c7 => ?_) (fun c7 => ?_)
  · exact wp_some ⟨(fun _ _ _ => rfl), (by show 0 ≤ (M 0 6).toInt ∧ (M 0 6).toInt ≤ 260; have f0 := (by decide : ((-1 : Int32)).toInt = -1); omega)⟩
  · have j27 : (v2.toInt = 100 ∨ (0 ≤ v2.toInt ∧ v2.toInt < v1.toInt)) → Wp (f_X10_chalk_L27 M v1 v2) (fun q => (∀ a i, ¬ ((a = 0 ∧ i = 6) ∨ a = 36 ∨ a = 37 ∨ a = 38) → q.2 a i = M a i) ∧ (0 ≤ (q.2 0 6).toInt ∧ (q.2 0 6).toInt ≤ 260)) := by
      intro h27
      unfold f_X10_chalk_L27
      refine wp_ite (fun c34 => ?_) (fun c34 => ?_)
      · refine wp_bnd (fun M_2 eM_2 => ?_)
        refine wp_cb2 (o_X10_listsStones M_2 v1 (nI 0) (by have f0 := t_lit 0; have f1 := t_lit 2; have f2 := (t_mulL v1 2 (by omega) (by omega)); omega)) (fun r_3 M_4 he47 hq47 => ?_)
        obtain ⟨hz_r_3, hg_M_4, hw_47⟩ := hq47
        replace hw_47 : ¬ r_3.toInt = 0 → ∀ j : Nat, (j : Int) < v1.toInt → 0 ≤ (M_4 36 j).toInt ∧ (M_4 36 j).toInt < 40 := hw_47
        have := t_lit 0
        replace hg_M_4 : ∀ a i, ¬ (a = 36) → M_4 a i = M_2 a i := hg_M_4
        refine wp_ite (fun c50 => ?_) (fun c50 => ?_)
        · exact wp_some ⟨(fun a i q0 => ((hg_M_4 a i (fun h9 => q0 (Or.inr (Or.inl h9)))).trans ((congrFun (congrFun eM_2 a) i).trans ((mset_ne (fun h9 => q0 (Or.inl h9))).trans rfl)))), (by show 0 ≤ (M_4 0 6).toInt ∧ (M_4 0 6).toInt ≤ 260; have f0 := congrArg Int32.toInt (hg_M_4 0 6 (by first | decide | (rcases hc0 with h | h <;> rw [h] <;> simp; done) | (rcases hb0 with h | h | h <;> rw [h] <;> simp; done) | (simp; done) | omega)); have f1 := congrArg Int32.toInt ((congrFun (congrFun eM_2 0) 6).trans mset_eq); have f2 := t_lit 0; have f3 := (by decide : ((-2 : Int32)).toInt = -2); omega)⟩
        · have ft1 := t_rng v1
          refine wp_lp1 (fun y3_58 => (0 ≤ y3_58.toInt)) (fun y3_58 => (v1.toInt - y3_58.toInt).toNat) (fun ag58 y3_58 hI58 ih58 => ?_) FU (nI 0) (by have f0 := t_lit 0; omega) (fu_lt (by have f0 := t_lit 0; omega))
          have hi58 := hI58
          have j98 : Wp (f_X10_chalk_L98 v1 v2 M_4) (fun q => (∀ a i, ¬ ((a = 0 ∧ i = 6) ∨ a = 36 ∨ a = 37 ∨ a = 38) → q.2 a i = M a i) ∧ (0 ≤ (q.2 0 6).toInt ∧ (q.2 0 6).toInt ≤ 260)) := by
            unfold f_X10_chalk_L98
            refine wp_bind2 (o_X10_beginsRows M_4 v1 (by have f0 := t_lit 2; have f1 := (t_mulL v1 2 (by omega) (by omega)); omega)) (fun M_5 he100 hq100 => ?_)
            obtain ⟨hg_M_5, hb_100⟩ := hq100
            replace hb_100 : ∀ j : Nat, (j : Int) < v1.toInt → M_5 37 j = nI j := hb_100
            replace hg_M_5 : ∀ a i, ¬ (a = 37) → M_5 a i = M_4 a i := hg_M_5
            have hrow0 : PermN (M_5 37) v1.toInt.toNat := perm_id (by omega) (fun j hj => hb_100 j (by omega))
            refine wp_lp3 (fun M110 y3_110 y4_110 => (∀ a i, ¬ (a = 37 ∨ a = 38) → M110 a i = M_5 a i) ∧ (PermN (M110 37) v1.toInt.toNat ∧ ∀ j : Nat, (j : Int) < v1.toInt → 0 ≤ (M110 36 j).toInt ∧ (M110 36 j).toInt < 40) ∧ ((M110 0 6).toInt = 0)) (fun M110 y3_110 y4_110 => (if y4_110.toInt = 0 then 0 else 900000 - rowNum (M110 37) v1.toInt.toNat)) (fun ag110 M110 y3_110 y4_110 hI110 ih110 => ?_) FU M_5 (nI 1000000) (nI 1) ⟨(fun _ _ _ => rfl), ⟨hrow0, fun j hj => by rw [hg_M_5 36 j (by first | decide | (rcases hc0 with h | h <;> rw [h] <;> simp; done) | (rcases hb0 with h | h | h <;> rw [h] <;> simp; done) | (simp; done) | omega)]; exact hw_47 (by omega) j hj⟩, (by have f0 := congrArg Int32.toInt (hg_M_5 0 6 (by first | decide | (rcases hc0 with h | h <;> rw [h] <;> simp; done) | (rcases hb0 with h | h | h <;> rw [h] <;> simp; done) | (simp; done) | omega)); have f1 := congrArg Int32.toInt (hg_M_4 0 6 (by first | decide | (rcases hc0 with h | h <;> rw [h] <;> simp; done) | (rcases hb0 with h | h | h <;> rw [h] <;> simp; done) | (simp; done) | omega)); have f2 := congrArg Int32.toInt ((congrFun (congrFun eM_2 0) 6).trans mset_eq); have f3 := t_lit 0; have f4 := t_lit 1000000; have f5 := t_lit 1; omega)⟩ (fu_lt (mu_fu))
            obtain ⟨hf_M110, hrow, ht110⟩ := hI110
            have j176 : Wp (f_X10_chalk_L176 v2 M110 y3_110) (fun q => (∀ a i, ¬ ((a = 0 ∧ i = 6) ∨ a = 36 ∨ a = 37 ∨ a = 38) → q.2 a i = M a i) ∧ (0 ≤ (q.2 0 6).toInt ∧ (q.2 0 6).toInt ≤ 260)) := by
              unfold f_X10_chalk_L176
              refine wp_ite (fun c179 => ?_) (fun c179 => ?_)
              · exact wp_some ⟨(fun a i q0 => ((hf_M110 a i (fun z8 => q0 ((fun z9 => Or.elim z9 (fun h9 => Or.inr (Or.inr (Or.inl h9))) (fun h9 => Or.inr (Or.inr (Or.inr (h9))))) z8))).trans ((hg_M_5 a i (fun h9 => q0 (Or.inr (Or.inr (Or.inl h9))))).trans ((hg_M_4 a i (fun h9 => q0 (Or.inr (Or.inl h9)))).trans ((congrFun (congrFun eM_2 a) i).trans ((mset_ne (fun h9 => q0 (Or.inl h9))).trans rfl)))))), (by show 0 ≤ (M110 0 6).toInt ∧ (M110 0 6).toInt ≤ 260; have f0 := congrArg Int32.toInt (hf_M110 0 6 (by first | decide | (rcases hc0 with h | h <;> rw [h] <;> simp; done) | (rcases hb0 with h | h | h <;> rw [h] <;> simp; done) | (simp; done) | omega)); have f1 := congrArg Int32.toInt (hg_M_5 0 6 (by first | decide | (rcases hc0 with h | h <;> rw [h] <;> simp; done) | (rcases hb0 with h | h | h <;> rw [h] <;> simp; done) | (simp; done) | omega)); have f2 := congrArg Int32.toInt (hg_M_4 0 6 (by first | decide | (rcases hc0 with h | h <;> rw [h] <;> simp; done) | (rcases hb0 with h | h | h <;> rw [h] <;> simp; done) | (simp; done) | omega)); have f3 := congrArg Int32.toInt ((congrFun (congrFun eM_2 0) 6).trans mset_eq); have f4 := t_lit 0; omega)⟩
              · refine wp_gd (by omega) ?_
                exact wp_some ⟨(fun a i q0 => ((hf_M110 a i (fun z8 => q0 ((fun z9 => Or.elim z9 (fun h9 => Or.inr (Or.inr (Or.inl h9))) (fun h9 => Or.inr (Or.inr (Or.inr (h9))))) z8))).trans ((hg_M_5 a i (fun h9 => q0 (Or.inr (Or.inr (Or.inl h9))))).trans ((hg_M_4 a i (fun h9 => q0 (Or.inr (Or.inl h9)))).trans ((congrFun (congrFun eM_2 a) i).trans ((mset_ne (fun h9 => q0 (Or.inl h9))).trans rfl)))))), (by show 0 ≤ (M110 0 6).toInt ∧ (M110 0 6).toInt ≤ 260; have f0 := congrArg Int32.toInt (hf_M110 0 6 (by first | decide | (rcases hc0 with h | h <;> rw [h] <;> simp; done) | (rcases hb0 with h | h | h <;> rw [h] <;> simp; done) | (simp; done) | omega)); have f1 := congrArg Int32.toInt (hg_M_5 0 6 (by first | decide | (rcases hc0 with h | h <;> rw [h] <;> simp; done) | (rcases hb0 with h | h | h <;> rw [h] <;> simp; done) | (simp; done) | omega)); have f2 := congrArg Int32.toInt (hg_M_4 0 6 (by first | decide | (rcases hc0 with h | h <;> rw [h] <;> simp; done) | (rcases hb0 with h | h | h <;> rw [h] <;> simp; done) | (simp; done) | omega)); have f3 := congrArg Int32.toInt ((congrFun (congrFun eM_2 0) 6).trans mset_eq); have f4 := t_lit 0; omega)⟩
            refine wp_ite (fun c112 => ?_) (fun c112 => ?_)
            · exact j176
            · refine wp_bind2 (o_X10_chalkOff M110 v1 (by omega) hrow.1 hrow.2) (fun r_6 he117 hq117 => ?_)
              have j165 : ∀ (N165 : Mem), ∀ (z3_165 : Int32), (∀ a i, ¬ (a = 38) → N165 a i = M110 a i) → Wp (f_X10_chalk_L165 v1 ag110 N165 z3_165) (fun q => (∀ a i, ¬ ((a = 0 ∧ i = 6) ∨ a = 36 ∨ a = 37 ∨ a = 38) → q.2 a i = M a i) ∧ (0 ≤ (q.2 0 6).toInt ∧ (q.2 0 6).toInt ≤ 260)) := by
                intro N165 z3_165 hf_N165
                unfold f_X10_chalk_L165
                have e37 : N165 37 = M110 37 := funext (fun i => hf_N165 37 i (by first | decide | (rcases hc0 with h | h <;> rw [h] <;> simp; done) | (rcases hb0 with h | h | h <;> rw [h] <;> simp; done) | (simp; done) | omega))
                have e36 : N165 36 = M110 36 := funext (fun i => hf_N165 36 i (by first | decide | (rcases hc0 with h | h <;> rw [h] <;> simp; done) | (rcases hb0 with h | h | h <;> rw [h] <;> simp; done) | (simp; done) | omega))
                refine wp_cb2 (o_X10_nextRow N165 v1 (nI 0) (by omega) (by decide) (by rw [e37]; exact hrow.1)) (fun r_7 M_8 he168 hq168 => ?_)
                obtain ⟨hz_r_7, hg_M_8, hr_168, hl_168⟩ := hq168
                replace hr_168 : PermN (M_8 37) v1.toInt.toNat := hr_168
                have := t_lit 0
                replace hl_168 : ¬ r_7.toInt = 0 → rowNum (N165 37) v1.toInt.toNat < rowNum (M_8 37) v1.toInt.toNat := hl_168
                have := t_lit 0
                replace hg_M_8 : ∀ a i, ¬ (a = 37) → M_8 a i = N165 a i := hg_M_8
                exact ih110 M_8 z3_165 r_7 ⟨(fun a i q0 => ((hg_M_8 a i (fun h9 => q0 (Or.inl h9))).trans ((hf_N165 a i (fun h9 => q0 (Or.inr (h9)))).trans ((hf_M110 a i (fun z8 => q0 ((fun z9 => Or.elim z9 (fun h9 => Or.inl h9) (fun h9 => Or.inr (h9))) z8))).trans rfl)))), ⟨hr_168, fun j hj => by rw [hg_M_8 36 j (by first | decide | (rcases hc0 with h | h <;> rw [h] <;> simp; done) | (rcases hb0 with h | h | h <;> rw [h] <;> simp; done) | (simp; done) | omega), e36]; exact hrow.2 j hj⟩, (by have f0 := congrArg Int32.toInt (hg_M_8 0 6 (by first | decide | (rcases hc0 with h | h <;> rw [h] <;> simp; done) | (rcases hb0 with h | h | h <;> rw [h] <;> simp; done) | (simp; done) | omega)); have f1 := congrArg Int32.toInt (hf_N165 0 6 (by first | decide | (rcases hc0 with h | h <;> rw [h] <;> simp; done) | (rcases hb0 with h | h | h <;> rw [h] <;> simp; done) | (simp; done) | omega)); have f2 := congrArg Int32.toInt (hf_M110 0 6 (by first | decide | (rcases hc0 with h | h <;> rw [h] <;> simp; done) | (rcases hb0 with h | h | h <;> rw [h] <;> simp; done) | (simp; done) | omega)); have f3 := congrArg Int32.toInt (hg_M_5 0 6 (by first | decide | (rcases hc0 with h | h <;> rw [h] <;> simp; done) | (rcases hb0 with h | h | h <;> rw [h] <;> simp; done) | (simp; done) | omega)); have f4 := congrArg Int32.toInt (hg_M_4 0 6 (by first | decide | (rcases hc0 with h | h <;> rw [h] <;> simp; done) | (rcases hb0 with h | h | h <;> rw [h] <;> simp; done) | (simp; done) | omega)); have f5 := congrArg Int32.toInt ((congrFun (congrFun eM_2 0) 6).trans mset_eq); have f6 := t_lit 0; omega)⟩ (row_mu (by omega) hrow.1 hr_168 c112 (fun z => by have := hl_168 z; rwa [e37] at this))
              refine wp_ite (fun c125 => ?_) (fun c125 => ?_)
              · exact j165 M110 y3_110 (fun _ _ _ => rfl)
              · refine wp_lp2 (fun M134 y6_134 => (0 ≤ y6_134.toInt) ∧ (∀ a i, ¬ (a = 38) → M134 a i = M110 a i)) (fun M134 y6_134 => (v1.toInt - y6_134.toInt).toNat) (fun ag134 M134 y6_134 hI134 ih134 => ?_) FU M110 (nI 0) ⟨(by have f0 := t_lit 0; omega), (fun _ _ _ => rfl)⟩ (fu_lt (by have f0 := t_lit 0; omega))
                obtain ⟨hi134, hf_M134⟩ := hI134
                refine wp_ite (fun c137 => ?_) (fun c137 => ?_)
                · exact j165 M134 r_6 (fun a i q0 => ((hf_M134 a i (fun h9 => q0 (h9))).trans rfl))
                · refine wp_gd (by omega) ?_
                  have fx := t_ixn y6_134 (by omega)
                  have e37b := congrArg Int32.toInt (hf_M134 37 (ix y6_134) (by first | decide | (rcases hc0 with h | h <;> rw [h] <;> simp; done) | (rcases hb0 with h | h | h <;> rw [h] <;> simp; done) | (simp; done) | omega))
                  have hr9 := hrow.1.1 (ix y6_134) (by omega)
                  refine wp_gd (by have f0 := congrArg Int32.toInt (hf_M134 37 (ix y6_134) (by first | decide | (rcases hc0 with h | h <;> rw [h] <;> simp; done) | (rcases hb0 with h | h | h <;> rw [h] <;> simp; done) | (simp; done) | omega)); omega) ?_
                  refine wp_gd (by omega) ?_
                  refine wp_bnd (fun M_9 eM_9 => ?_)
                  exact ih134 M_9 (y6_134 + (nI 1)) ⟨(by have f0 := t_lit 1; have f1 := t_add y6_134 (nI 1); omega), (fun a i q0 => ((congrFun (congrFun eM_9 a) i).trans ((mset_ne (fun h9 => q0 ((h9).1))).trans ((hf_M134 a i (fun h9 => q0 (h9))).trans rfl))))⟩ (by have f0 := t_lit 1; have f1 := t_add y6_134 (nI 1); omega)
          refine wp_ite (fun c60 => ?_) (fun c60 => ?_)
          · exact j98
          · refine wp_bind2 (o_X10_octet M_4 ((nI 2) * y3_58) (by have f0 := t_lit 2; have f1 := (t_mulL y3_58 2 (by omega) (by omega)); omega)) (fun r_10 he67 hq67 => ?_)
            refine wp_ite (fun c72 => ?_) (fun c72 => ?_)
            · exact wp_some ⟨(fun a i q0 => ((hg_M_4 a i (fun h9 => q0 (Or.inr (Or.inl h9)))).trans ((congrFun (congrFun eM_2 a) i).trans ((mset_ne (fun h9 => q0 (Or.inl h9))).trans rfl)))), (by show 0 ≤ (M_4 0 6).toInt ∧ (M_4 0 6).toInt ≤ 260; have f0 := congrArg Int32.toInt (hg_M_4 0 6 (by first | decide | (rcases hc0 with h | h <;> rw [h] <;> simp; done) | (rcases hb0 with h | h | h <;> rw [h] <;> simp; done) | (simp; done) | omega)); have f1 := congrArg Int32.toInt ((congrFun (congrFun eM_2 0) 6).trans mset_eq); have f2 := t_lit 0; have f3 := (by decide : ((-3 : Int32)).toInt = -3); omega)⟩
            · refine wp_bind2 (o_X10_octet M_4 (((nI 2) * y3_58) + (nI 1)) (by have f0 := t_lit 2; have f1 := (t_mulL y3_58 2 (by omega) (by omega)); have f2 := t_lit 1; have f3 := t_add ((nI 2) * y3_58) (nI 1); omega)) (fun r_11 he81 hq81 => ?_)
              refine wp_ite (fun c86 => ?_) (fun c86 => ?_)
              · exact ih58 (y3_58 + (nI 1)) (by have f0 := t_lit 1; have f1 := t_add y3_58 (nI 1); omega) (by have f0 := t_lit 1; have f1 := t_add y3_58 (nI 1); omega)
              · exact wp_some ⟨(fun a i q0 => ((hg_M_4 a i (fun h9 => q0 (Or.inr (Or.inl h9)))).trans ((congrFun (congrFun eM_2 a) i).trans ((mset_ne (fun h9 => q0 (Or.inl h9))).trans rfl)))), (by show 0 ≤ (M_4 0 6).toInt ∧ (M_4 0 6).toInt ≤ 260; have f0 := congrArg Int32.toInt (hg_M_4 0 6 (by first | decide | (rcases hc0 with h | h <;> rw [h] <;> simp; done) | (rcases hb0 with h | h | h <;> rw [h] <;> simp; done) | (simp; done) | omega)); have f1 := congrArg Int32.toInt ((congrFun (congrFun eM_2 0) 6).trans mset_eq); have f2 := t_lit 0; have f3 := (by decide : ((-3 : Int32)).toInt = -3); omega)⟩
      · exact wp_some ⟨(fun _ _ _ => rfl), (by show 0 ≤ (M 0 6).toInt ∧ (M 0 6).toInt ≤ 260; have f0 := (by decide : ((-1 : Int32)).toInt = -1); have f1 := t_lit 2; have f2 := (t_mulL v1 2 (by omega) (by omega)); omega)⟩
    refine wp_ite (fun c13 => ?_) (fun c13 => ?_)
    · exact j27 (by omega)
    · refine wp_bind2 (o_X10_in M v2 (nI 0) (v1 - (nI 1))) (fun r_12 he21 hq21 => ?_)
      obtain ⟨hz_r_12, hr_21⟩ := hq21
      replace hr_21 : ¬ r_12.toInt = 0 → (nI 0).toInt ≤ v2.toInt ∧ v2.toInt ≤ (v1 - (nI 1)).toInt := hr_21
      have := t_lit 0
      have ft21 := t_sub v1 (nI 1)
      have ft20 := t_lit 0
      refine wp_ite (fun c24 => ?_) (fun c24 => ?_)
      · exact wp_some ⟨(fun _ _ _ => rfl), (by show 0 ≤ (M 0 6).toInt ∧ (M 0 6).toInt ≤ 260; have f0 := (by decide : ((-1 : Int32)).toInt = -1); omega)⟩
      · exact j27 (by omega)
theorem o_X10_thrown (M : Mem) (v1 : Int32) : Wp (f_X10_thrown M v1) (fun q => (∀ a i, ¬ (a = 36 ∨ a = 37) → q.2 a i = M a i)) := by
  refine wp_bind2 (o_X10_in M v1 (nI 1) (nI 6)) (fun r_1 he4 hq4 => ?_)
  obtain ⟨hz_r_1, hr_4⟩ := hq4
  replace hr_4 : ¬ r_1.toInt = 0 → (nI 1).toInt ≤ v1.toInt ∧ v1.toInt ≤ (nI 6).toInt := hr_4
  have := t_lit 1
  have := t_lit 6
  have ft6 := t_lit 6
  have ft1 := t_lit 1
  refine wp_ite (fun c7 => ?_) (fun c7 => ?_)
  · exact wp_some (fun _ _ _ => rfl)
  · refine wp_cb2 (o_X10_listsStones M v1 (nI 1) (by have f0 := t_lit 1; omega)) (fun r_2 M_3 he15 hq15 => ?_)
    obtain ⟨hz_r_2, hg_M_3, hw_15⟩ := hq15
    replace hw_15 : ¬ r_2.toInt = 0 → ∀ j : Nat, (j : Int) < v1.toInt → 0 ≤ (M_3 36 j).toInt ∧ (M_3 36 j).toInt < 40 := hw_15
    have := t_lit 1
    replace hg_M_3 : ∀ a i, ¬ (a = 36) → M_3 a i = M a i := hg_M_3
    refine wp_ite (fun c18 => ?_) (fun c18 => ?_)
    · exact wp_some (fun a i q0 => ((hg_M_3 a i (fun h9 => q0 (Or.inl h9))).trans rfl))
    · refine wp_bind2 (o_X10_beginsRows M_3 v1 (by omega)) (fun M_4 he26 hq26 => ?_)
      obtain ⟨hg_M_4, hb_26⟩ := hq26
      replace hb_26 : ∀ j : Nat, (j : Int) < v1.toInt → M_4 37 j = nI j := hb_26
      replace hg_M_4 : ∀ a i, ¬ (a = 37) → M_4 a i = M_3 a i := hg_M_4
      have hrow0 : PermN (M_4 37) v1.toInt.toNat := perm_id (by omega) (fun j hj => hb_26 j (by omega))
      refine wp_lp3 (fun M35 y2_35 y3_35 => (∀ a i, ¬ (a = 37) → M35 a i = M_4 a i) ∧ (PermN (M35 37) v1.toInt.toNat ∧ ∀ j : Nat, (j : Int) < v1.toInt → 0 ≤ (M35 36 j).toInt ∧ (M35 36 j).toInt < 40)) (fun M35 y2_35 y3_35 => (if y3_35.toInt = 0 then 0 else 900000 - rowNum (M35 37) v1.toInt.toNat)) (fun ag35 M35 y2_35 y3_35 hI35 ih35 => ?_) FU M_4 (nI 1000000) (nI 1) ⟨(fun _ _ _ => rfl), ⟨hrow0, fun j hj => by rw [hg_M_4 36 j (by first | decide | (rcases hc0 with h | h <;> rw [h] <;> simp; done) | (rcases hb0 with h | h | h <;> rw [h] <;> simp; done) | (simp; done) | omega)]; exact hw_15 (by omega) j hj⟩⟩ (fu_lt (mu_fu))
      obtain ⟨hf_M35, hrow⟩ := hI35
      refine wp_ite (fun c36 => ?_) (fun c36 => ?_)
      · exact wp_some (fun a i q0 => ((hf_M35 a i (fun h9 => q0 (Or.inr (h9)))).trans ((hg_M_4 a i (fun h9 => q0 (Or.inr (h9)))).trans ((hg_M_3 a i (fun h9 => q0 (Or.inl h9))).trans rfl))))
      · have ft1 := t_rng v1
        refine wp_lp2 (fun y4_45 y5_45 => (1 ≤ y5_45.toInt)) (fun y4_45 y5_45 => (v1.toInt - y5_45.toInt).toNat) (fun ag45 y4_45 y5_45 hI45 ih45 => ?_) FU (nI 0) (nI 1) (by have f0 := t_lit 1; omega) (fu_lt (by have f0 := t_lit 1; omega))
        have hi45 := hI45
        have j92 : Wp (f_X10_thrown_L92 v1 ag35 M35 y2_35 y4_45) (fun q => (∀ a i, ¬ (a = 36 ∨ a = 37) → q.2 a i = M a i)) := by
          unfold f_X10_thrown_L92
          have e37 : M35 37 = M35 37 := rfl
          refine wp_bind2 (o_X10_min M35 y2_35 y4_45) (fun r_5 he95 hq95 => ?_)
          have hr_95 := hq95
          replace hr_95 : r_5.toInt = min y2_35.toInt y4_45.toInt := hr_95
          refine wp_cb2 (o_X10_nextRow M35 v1 (nI 1) (by omega) (by decide) hrow.1) (fun r_6 M_7 he102 hq102 => ?_)
          obtain ⟨hz_r_6, hg_M_7, hr_102, hl_102⟩ := hq102
          replace hr_102 : PermN (M_7 37) v1.toInt.toNat := hr_102
          have := t_lit 1
          replace hl_102 : ¬ r_6.toInt = 0 → rowNum (M35 37) v1.toInt.toNat < rowNum (M_7 37) v1.toInt.toNat := hl_102
          have := t_lit 1
          replace hg_M_7 : ∀ a i, ¬ (a = 37) → M_7 a i = M35 a i := hg_M_7
          exact ih35 M_7 r_5 r_6 ⟨(fun a i q0 => ((hg_M_7 a i (fun h9 => q0 (h9))).trans ((hf_M35 a i (fun h9 => q0 (h9))).trans rfl))), ⟨hr_102, fun j hj => by rw [hg_M_7 36 j (by first | decide | (rcases hc0 with h | h <;> rw [h] <;> simp; done) | (rcases hb0 with h | h | h <;> rw [h] <;> simp; done) | (simp; done) | omega)]; exact hrow.2 j hj⟩⟩ (row_mu (by omega) hrow.1 hr_102 c36 hl_102)
        refine wp_ite (fun c48 => ?_) (fun c48 => ?_)
        · exact j92
        · refine wp_gd (by have f0 := t_lit 1; have f1 := t_sub y5_45 (nI 1); omega) ?_
          have f1 := t_sub y5_45 (nI 1)
          have fx := t_ixn (y5_45 - (nI 1)) (by omega)
          have hr9 := hrow.1.1 (ix (y5_45 - (nI 1))) (by omega)
          refine wp_gd (by have f0 := t_lit 1; have f1 := t_sub y5_45 (nI 1); omega) ?_
          refine wp_gd (by omega) ?_
          have fx2 := t_ixn y5_45 (by omega)
          have hr8 := hrow.1.1 (ix y5_45) (by omega)
          refine wp_gd (by omega) ?_
          have fx3 := t_ixn (M35 37 (ix (y5_45 - (nI 1)))) (by omega)
          have fx4 := t_ixn (M35 37 (ix y5_45)) (by omega)
          have hw9 := hrow.2 (ix (M35 37 (ix (y5_45 - (nI 1))))) (by omega)
          have hw8 := hrow.2 (ix (M35 37 (ix y5_45))) (by omega)
          refine wp_bind2 (o_X10_apart M35 (M35 36 (ix (M35 37 (ix (y5_45 - (nI 1)))))) (M35 36 (ix (M35 37 (ix y5_45)))) (by have f0 := t_lit 1; have f1 := t_sub y5_45 (nI 1); have f2 := congrArg Int32.toInt (hf_M35 36 (ix (M35 37 (ix (y5_45 - (nI 1))))) (by first | decide | (rcases hc0 with h | h <;> rw [h] <;> simp; done) | (rcases hb0 with h | h | h <;> rw [h] <;> simp; done) | (simp; done) | omega)); have f3 := congrArg Int32.toInt (hg_M_4 36 (ix (M35 37 (ix (y5_45 - (nI 1))))) (by first | decide | (rcases hc0 with h | h <;> rw [h] <;> simp; done) | (rcases hb0 with h | h | h <;> rw [h] <;> simp; done) | (simp; done) | omega)); have f4 := congrArg Int32.toInt (hf_M35 36 (ix (M35 37 (ix y5_45))) (by first | decide | (rcases hc0 with h | h <;> rw [h] <;> simp; done) | (rcases hb0 with h | h | h <;> rw [h] <;> simp; done) | (simp; done) | omega)); have f5 := congrArg Int32.toInt (hg_M_4 36 (ix (M35 37 (ix y5_45))) (by first | decide | (rcases hc0 with h | h <;> rw [h] <;> simp; done) | (rcases hb0 with h | h | h <;> rw [h] <;> simp; done) | (simp; done) | omega)); omega) (by have f0 := congrArg Int32.toInt (hf_M35 36 (ix (M35 37 (ix y5_45))) (by first | decide | (rcases hc0 with h | h <;> rw [h] <;> simp; done) | (rcases hb0 with h | h | h <;> rw [h] <;> simp; done) | (simp; done) | omega)); have f1 := congrArg Int32.toInt (hg_M_4 36 (ix (M35 37 (ix y5_45))) (by first | decide | (rcases hc0 with h | h <;> rw [h] <;> simp; done) | (rcases hb0 with h | h | h <;> rw [h] <;> simp; done) | (simp; done) | omega)); have f2 := t_lit 1; have f3 := t_sub y5_45 (nI 1); have f4 := congrArg Int32.toInt (hf_M35 36 (ix (M35 37 (ix (y5_45 - (nI 1))))) (by first | decide | (rcases hc0 with h | h <;> rw [h] <;> simp; done) | (rcases hb0 with h | h | h <;> rw [h] <;> simp; done) | (simp; done) | omega)); have f5 := congrArg Int32.toInt (hg_M_4 36 (ix (M35 37 (ix (y5_45 - (nI 1))))) (by first | decide | (rcases hc0 with h | h <;> rw [h] <;> simp; done) | (rcases hb0 with h | h | h <;> rw [h] <;> simp; done) | (simp; done) | omega)); omega)) (fun r_8 he80 hq80 => ?_)
          refine wp_bnd (fun x_9 ex_9 => ?_)
          exact ih45 x_9 (y5_45 + (nI 1)) (by have f0 := t_lit 1; have f1 := t_add y5_45 (nI 1); omega) (by have f0 := t_lit 1; have f1 := t_add y5_45 (nI 1); omega)
