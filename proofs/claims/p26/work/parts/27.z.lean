theorem o6_X10_factOf (M : Mem) (v0 : Int32) : Wp (f_X10_factOf v0) (fun q => (q.toInt = -1 ∨ (0 ≤ q.toInt ∧ q.toInt ≤ 7 ∧ 100 ≤ v0.toInt)) ∧ (q.toInt = fct v0.toInt)) := by
  refine wp_ite (fun c1 => ?_) (fun c1 => ?_)
  · exact wp_some ⟨(by show (nI 4).toInt = -1 ∨ (0 ≤ (nI 4).toInt ∧ (nI 4).toInt ≤ 7 ∧ 100 ≤ v0.toInt); have f0 := t_lit 4; omega), (by show (nI 4).toInt = fct v0.toInt; rw [c1]; decide)⟩
  · refine wp_ite (fun c1 => ?_) (fun c1 => ?_)
    · exact wp_some ⟨(by show (nI 7).toInt = -1 ∨ (0 ≤ (nI 7).toInt ∧ (nI 7).toInt ≤ 7 ∧ 100 ≤ v0.toInt); have f0 := t_lit 7; omega), (by show (nI 7).toInt = fct v0.toInt; rw [c1]; decide)⟩
    · refine wp_ite (fun c2 => ?_) (fun c2 => ?_)
      · exact wp_some ⟨(by show (nI 0).toInt = -1 ∨ (0 ≤ (nI 0).toInt ∧ (nI 0).toInt ≤ 7 ∧ 100 ≤ v0.toInt); have f0 := t_lit 0; omega), (by show (nI 0).toInt = fct v0.toInt; rw [c2]; decide)⟩
      · refine wp_ite (fun c3 => ?_) (fun c3 => ?_)
        · exact wp_some ⟨(by show (nI 5).toInt = -1 ∨ (0 ≤ (nI 5).toInt ∧ (nI 5).toInt ≤ 7 ∧ 100 ≤ v0.toInt); have f0 := t_lit 5; omega), (by show (nI 5).toInt = fct v0.toInt; rw [c3]; decide)⟩
        · refine wp_ite (fun c4 => ?_) (fun c4 => ?_)
          · exact wp_some ⟨(by show (nI 6).toInt = -1 ∨ (0 ≤ (nI 6).toInt ∧ (nI 6).toInt ≤ 7 ∧ 100 ≤ v0.toInt); have f0 := t_lit 6; omega), (by show (nI 6).toInt = fct v0.toInt; rw [c4]; decide)⟩
          · refine wp_ite (fun c5 => ?_) (fun c5 => ?_)
            · exact wp_some ⟨(by show (nI 3).toInt = -1 ∨ (0 ≤ (nI 3).toInt ∧ (nI 3).toInt ≤ 7 ∧ 100 ≤ v0.toInt); have f0 := t_lit 3; omega), (by show (nI 3).toInt = fct v0.toInt; rw [c5]; decide)⟩
            · refine wp_ite (fun c6 => ?_) (fun c6 => ?_)
              · exact wp_some ⟨(by show (nI 1).toInt = -1 ∨ (0 ≤ (nI 1).toInt ∧ (nI 1).toInt ≤ 7 ∧ 100 ≤ v0.toInt); have f0 := t_lit 1; omega), (by show (nI 1).toInt = fct v0.toInt; rw [c6]; decide)⟩
              · refine wp_ite (fun c7 => ?_) (fun c7 => ?_)
                · exact wp_some ⟨(by show (nI 2).toInt = -1 ∨ (0 ≤ (nI 2).toInt ∧ (nI 2).toInt ≤ 7 ∧ 100 ≤ v0.toInt); have f0 := t_lit 2; omega), (by show (nI 2).toInt = fct v0.toInt; rw [c7]; decide)⟩
                · exact wp_some ⟨(by show (-1 : Int32).toInt = -1 ∨ (0 ≤ (-1 : Int32).toInt ∧ (-1 : Int32).toInt ≤ 7 ∧ 100 ≤ v0.toInt); have f0 := (by decide : ((-1 : Int32)).toInt = -1); have f1 := (by decide : ((-1 : Int32)).toInt = -1); omega), (by show (-1 : Int32).toInt = fct v0.toInt; exact (fct_n (by omega)).symm)⟩
theorem o6_X10_sumSign (M : Mem) (v0 : Int32) : Wp (f_X10_sumSign v0) (fun q => (q.toInt = -1 ∨ (2 ≤ q.toInt ∧ q.toInt ≤ 6 ∧ 0 ≤ v0.toInt)) ∧ (SgP q.toInt v0.toInt)) := by
  refine wp_ite (fun c3 => ?_) (fun c3 => ?_)
  · exact wp_some ⟨(by show (nI 2).toInt = -1 ∨ (2 ≤ (nI 2).toInt ∧ (nI 2).toInt ≤ 6 ∧ 0 ≤ v0.toInt); have f0 := t_lit 2; omega), (Or.inr (by show (nI 2).toInt = sgn v0.toInt ∧ 2 ≤ sgn v0.toInt ∧ sgn v0.toInt ≤ 6; rw [c3]; decide))⟩
  · refine wp_ite (fun c13 => ?_) (fun c13 => ?_)
    · exact wp_some ⟨(by show (nI 3).toInt = -1 ∨ (2 ≤ (nI 3).toInt ∧ (nI 3).toInt ≤ 6 ∧ 0 ≤ v0.toInt); have f0 := t_lit 3; omega), (Or.inr (by show (nI 3).toInt = sgn v0.toInt ∧ 2 ≤ sgn v0.toInt ∧ sgn v0.toInt ≤ 6; rw [c13]; decide))⟩
    · refine wp_ite (fun c23 => ?_) (fun c23 => ?_)
      · exact wp_some ⟨(by show (nI 4).toInt = -1 ∨ (2 ≤ (nI 4).toInt ∧ (nI 4).toInt ≤ 6 ∧ 0 ≤ v0.toInt); have f0 := t_lit 4; omega), (Or.inr (by show (nI 4).toInt = sgn v0.toInt ∧ 2 ≤ sgn v0.toInt ∧ sgn v0.toInt ≤ 6; rw [c23]; decide))⟩
      · refine wp_ite (fun c33 => ?_) (fun c33 => ?_)
        · exact wp_some ⟨(by show (nI 5).toInt = -1 ∨ (2 ≤ (nI 5).toInt ∧ (nI 5).toInt ≤ 6 ∧ 0 ≤ v0.toInt); have f0 := t_lit 5; omega), (Or.inr (by show (nI 5).toInt = sgn v0.toInt ∧ 2 ≤ sgn v0.toInt ∧ sgn v0.toInt ≤ 6; rw [c33]; decide))⟩
        · refine wp_ite (fun c43 => ?_) (fun c43 => ?_)
          · exact wp_some ⟨(by show (nI 6).toInt = -1 ∨ (2 ≤ (nI 6).toInt ∧ (nI 6).toInt ≤ 6 ∧ 0 ≤ v0.toInt); have f0 := t_lit 6; omega), (Or.inr (by show (nI 6).toInt = sgn v0.toInt ∧ 2 ≤ sgn v0.toInt ∧ sgn v0.toInt ≤ 6; rw [c43]; decide))⟩
          · exact wp_some ⟨(by show (-1 : Int32).toInt = -1 ∨ (2 ≤ (-1 : Int32).toInt ∧ (-1 : Int32).toInt ≤ 6 ∧ 0 ≤ v0.toInt); have f0 := (by decide : ((-1 : Int32)).toInt = -1); have f1 := (by decide : ((-1 : Int32)).toInt = -1); omega), (Or.inl ⟨by decide, sgn_0 c23 c33 c43 c3 c13⟩)⟩
theorem o6_X10_opens (M : Mem) (v1 : Int32) (hP : PMm M) : Wp (f_X10_opens M v1) (fun q => (q.1 = 0 ∨ q.1 = 1) ∧ (∀ a i, ¬ ((a = 0 ∧ i = 7) ∨ (a = 0 ∧ i = 9) ∨ (a = 0 ∧ i = 11) ∨ (a = 0 ∧ i = 13) ∨ a = 7) → q.2 a i = M a i) ∧ (¬ q.1.toInt = 0 → q.2 0 13 = M 0 13 + nI 1 ∧ q.2 7 = upd (M 7) (ix (M 0 13)) ((nI 1048576) * v1) ∧ q.2 0 7 = M 0 7 + nI 1) ∧ (q.1.toInt = 0 → (M 0 11).toInt = 6 ∧ (q.2 0 9).toInt = -5000 - (M 0 7).toInt) ∧ (¬ q.1.toInt = 0 → ¬ (M 0 11).toInt = 6 ∧ q.2 0 11 = M 0 11 + nI 1)) := by
  have hb := pm_bd hP
  refine wp_ite (fun c6 => ?_) (fun c6 => ?_)
  · refine wp_cb2 (o5_X10_wrongAt M (nI 5) (M 0 7)) (fun r_5 M_6 he15 hq15 => ?_)
    obtain ⟨hz_r_5, hg_M_6, hw_15, hq_15⟩ := hq15
    replace hw_15 : r_5.toInt = 0 := hw_15
    have := t_lit 5
    replace hq_15 : 0 ≤ (nI 5).toInt → (nI 5).toInt ≤ 9 → 0 ≤ (M 0 7).toInt → (M 0 7).toInt ≤ 1000 → (M_6 0 9).toInt = -1000 * (nI 5).toInt - (M 0 7).toInt := hq_15
    have := t_lit 5
    replace hg_M_6 : ∀ a i, ¬ ((a = 0 ∧ i = 9)) → M_6 a i = M a i := hg_M_6
    refine wp_gb hz_r_5 ?_
    exact wp_some ⟨hz_r_5, (fun a i q0 => ((hg_M_6 a i (fun h9 => q0 (Or.inr (Or.inl h9)))).trans rfl)), (fun z => absurd hw_15 z), (fun _ => ⟨c6, by show (M_6 0 9).toInt = _; rw [hq_15 (by decide) (by decide) (by omega) (by omega)]; have := t_lit 5; omega⟩), (fun z => absurd hw_15 z)⟩
  · refine wp_bnd (fun M_1 eM_1 => ?_)
    refine wp_gd (by rw [eM_1, mset_ne (by first | exact nz1 (by decide) | exact nz2 (by decide) | exact nz1 (nzA hc0 (by decide)) | exact nz1 (nzE (by decide)) | exact nz1 (nzB hc0 (by decide)) | exact nz1 (nzC hc0 (by decide)) | exact nz1 (nzD hc0 (by decide)) | exact nz1 (nzF (by decide)) | exact nz1 (nzG (by decide)) | omega)]; omega) ?_
    refine wp_bnd (fun M_2 eM_2 => ?_)
    refine wp_bnd (fun M_3 eM_3 => ?_)
    refine wp_bnd (fun M_4 eM_4 => ?_)
    exact wp_some ⟨b01_1, (fun a i q0 => ((congrFun (congrFun eM_4 a) i).trans ((mset_ne (fun h9 => q0 (Or.inl h9))).trans ((congrFun (congrFun eM_3 a) i).trans ((mset_ne (fun h9 => q0 (Or.inr (Or.inr (Or.inr (Or.inl h9)))))).trans ((congrFun (congrFun eM_2 a) i).trans ((mset_ne (fun h9 => q0 (Or.inr (Or.inr (Or.inr (Or.inr ((h9).1))))))).trans ((congrFun (congrFun eM_1 a) i).trans ((mset_ne (fun h9 => q0 (Or.inr (Or.inr (Or.inl h9))))).trans rfl))))))))), (fun _ => by show M_4 0 13 = M 0 13 + nI 1 ∧ M_4 7 = upd (M 7) (ix (M 0 13)) ((nI 1048576) * v1) ∧ M_4 0 7 = M 0 7 + nI 1; exact opens_is eM_1 eM_2 eM_3 eM_4), (fun z => absurd z ne1), (fun _ => ⟨c6, by show M_4 0 11 = _; rw [eM_4, mset_ne (by first | exact nz1 (by decide) | exact nz2 (by decide) | exact nz1 (nzA hc0 (by decide)) | exact nz1 (nzE (by decide)) | exact nz1 (nzB hc0 (by decide)) | exact nz1 (nzC hc0 (by decide)) | exact nz1 (nzD hc0 (by decide)) | exact nz1 (nzF (by decide)) | exact nz1 (nzG (by decide)) | omega), eM_3, mset_ne (by first | exact nz1 (by decide) | exact nz2 (by decide) | exact nz1 (nzA hc0 (by decide)) | exact nz1 (nzE (by decide)) | exact nz1 (nzB hc0 (by decide)) | exact nz1 (nzC hc0 (by decide)) | exact nz1 (nzD hc0 (by decide)) | exact nz1 (nzF (by decide)) | exact nz1 (nzG (by decide)) | omega), eM_2, mset_ne (by first | exact nz1 (by decide) | exact nz2 (by decide) | exact nz1 (nzA hc0 (by decide)) | exact nz1 (nzE (by decide)) | exact nz1 (nzB hc0 (by decide)) | exact nz1 (nzC hc0 (by decide)) | exact nz1 (nzD hc0 (by decide)) | exact nz1 (nzF (by decide)) | exact nz1 (nzG (by decide)) | omega), eM_1, mset_eq]⟩)⟩
theorem o6_X10_readsNumber (M : Mem) (T : Int → Int) (hT : TXr M = T) (hp : 0 ≤ (M 0 7).toInt ∧ (M 0 7).toInt ≤ (M 0 8).toInt ∧ (M 0 8).toInt ≤ 240) (hdg0 : dgt (T (M 0 7).toInt) = true) : Wp (f_X10_readsNumber M) (fun q => (q.1 = 0 ∨ q.1 = 1) ∧ (∀ a i, ¬ ((a = 0 ∧ i = 7) ∨ (a = 0 ∧ i = 9) ∨ (a = 0 ∧ i = 10)) → q.2 a i = M a i) ∧ ((M 0 7).toInt ≤ (q.2 0 7).toInt ∧ (q.2 0 7).toInt ≤ (M 0 8).toInt) ∧ (¬ q.1.toInt = 0 → 0 ≤ (q.2 0 10).toInt ∧ (q.2 0 10).toInt ≤ 99999) ∧ (¬ q.1.toInt = 0 → ∀ d, f_X10_isDigit M = some d → ¬ d.toInt = 0 → (M 0 7).toInt < (q.2 0 7).toInt) ∧ (NumQ (numS T (M 0 7).toInt 5) q.1.toInt (q.2 0 9).toInt (q.2 0 7).toInt (q.2 0 10).toInt (M 0 7).toInt (M 0 8).toInt)) := by
  refine wp_bnd (fun x_1 ex_1 => ?_)
  have hv_x_1 := congrArg Int32.toInt ex_1
  refine wp_bnd (fun M_2 eM_2 => ?_)
  refine wp_lp1 (fun M10 => (∀ a i, ¬ ((a = 0 ∧ i = 7) ∨ (a = 0 ∧ i = 10)) → M10 a i = M_2 a i) ∧ (∃ c : Nat, c ≤ 5 ∧ (M10 0 7).toInt = x_1.toInt + c ∧ 0 ≤ (M10 0 10).toInt ∧ (M10 0 10).toInt < (10 : Int) ^ c ∧ (M10 0 7).toInt ≤ (M 0 8).toInt) ∧ ((M10 0 7).toInt = x_1.toInt → f_X10_isDigit M10 = f_X10_isDigit M) ∧ (∀ i : Nat, (i : Int) < (M10 0 7).toInt - (M 0 7).toInt → dgt (T ((M 0 7).toInt + i)) = true) ∧ ((M10 0 10).toInt = nvv T (M 0 7).toInt ((M10 0 7).toInt - (M 0 7).toInt).toNat)) (fun M10 => ((M10 0 8).toInt - (M10 0 7).toInt).toNat) (fun ag10 M10 hI10 ih10 => ?_) FU M_2 ⟨(fun _ _ _ => rfl), ⟨0, by omega, by (have f0 := congrArg Int32.toInt ((congrFun (congrFun eM_2 0) 7).trans (mset_ne (by first | exact nz1 (by decide) | exact nz2 (by decide) | exact nz1 (nzA hc0 (by decide)) | exact nz1 (nzE (by decide)) | exact nz1 (nzB hc0 (by decide)) | exact nz1 (nzC hc0 (by decide)) | exact nz1 (nzD hc0 (by decide)) | exact nz1 (nzF (by decide)) | exact nz1 (nzG (by decide)) | omega))); omega), by (rw [eM_2, mset_eq]; decide), by (rw [eM_2, mset_eq]; decide), by (have f0 := congrArg Int32.toInt ((congrFun (congrFun eM_2 0) 7).trans (mset_ne (by first | exact nz1 (by decide) | exact nz2 (by decide) | exact nz1 (nzA hc0 (by decide)) | exact nz1 (nzE (by decide)) | exact nz1 (nzB hc0 (by decide)) | exact nz1 (nzC hc0 (by decide)) | exact nz1 (nzD hc0 (by decide)) | exact nz1 (nzF (by decide)) | exact nz1 (nzG (by decide)) | omega))); omega)⟩, (fun _ => isDigit_congr ((congrFun (congrFun eM_2 0) 7).trans (mset_ne (by first | exact nz1 (by decide) | exact nz2 (by decide) | exact nz1 (nzA hc0 (by decide)) | exact nz1 (nzE (by decide)) | exact nz1 (nzB hc0 (by decide)) | exact nz1 (nzC hc0 (by decide)) | exact nz1 (nzD hc0 (by decide)) | exact nz1 (nzF (by decide)) | exact nz1 (nzG (by decide)) | omega))) ((congrFun (congrFun eM_2 0) 8).trans (mset_ne (by first | exact nz1 (by decide) | exact nz2 (by decide) | exact nz1 (nzA hc0 (by decide)) | exact nz1 (nzE (by decide)) | exact nz1 (nzB hc0 (by decide)) | exact nz1 (nzC hc0 (by decide)) | exact nz1 (nzD hc0 (by decide)) | exact nz1 (nzF (by decide)) | exact nz1 (nzG (by decide)) | omega))) (by rw [eM_2, mset_n (by omega)])), (fun i hi => absurd hi (by rw [eM_2, mset_ne (by first | exact nz1 (by decide) | exact nz2 (by decide) | exact nz1 (nzA hc0 (by decide)) | exact nz1 (nzE (by decide)) | exact nz1 (nzB hc0 (by decide)) | exact nz1 (nzC hc0 (by decide)) | exact nz1 (nzD hc0 (by decide)) | exact nz1 (nzF (by decide)) | exact nz1 (nzG (by decide)) | omega)]; omega)), (by rw [eM_2, mset_eq, mset_ne (by first | exact nz1 (by decide) | exact nz2 (by decide) | exact nz1 (nzA hc0 (by decide)) | exact nz1 (nzE (by decide)) | exact nz1 (nzB hc0 (by decide)) | exact nz1 (nzC hc0 (by decide)) | exact nz1 (nzD hc0 (by decide)) | exact nz1 (nzF (by decide)) | exact nz1 (nzG (by decide)) | omega), Int.sub_self]; exact nI0)⟩ (fu_lt (by have f0 := congrArg Int32.toInt ((congrFun (congrFun eM_2 0) 8).trans (mset_ne (by first | exact nz1 (by decide) | exact nz2 (by decide) | exact nz1 (nzA hc0 (by decide)) | exact nz1 (nzE (by decide)) | exact nz1 (nzB hc0 (by decide)) | exact nz1 (nzC hc0 (by decide)) | exact nz1 (nzD hc0 (by decide)) | exact nz1 (nzF (by decide)) | exact nz1 (nzG (by decide)) | omega))); have f1 := congrArg Int32.toInt ((congrFun (congrFun eM_2 0) 7).trans (mset_ne (by first | exact nz1 (by decide) | exact nz2 (by decide) | exact nz1 (nzA hc0 (by decide)) | exact nz1 (nzE (by decide)) | exact nz1 (nzB hc0 (by decide)) | exact nz1 (nzC hc0 (by decide)) | exact nz1 (nzD hc0 (by decide)) | exact nz1 (nzF (by decide)) | exact nz1 (nzG (by decide)) | omega))); omega))
  obtain ⟨hf_M10, hc10, hdz, hd10, hv10⟩ := hI10
  obtain ⟨cg, hc1, hc2, hc3, hc4, hc6⟩ := hc10
  have hc5 := pow10_le hc1
  have hc7 : (10 : Int) ^ 5 = 100000 := by decide
  have f8 := congrArg Int32.toInt (hf_M10 0 8 (by first | decide | (rcases hc0 with h | h <;> rw [h] <;> simp; done) | (rcases hb0 with h | h | h <;> rw [h] <;> simp; done) | (simp; done) | omega))
  have f9 := congrArg Int32.toInt ((congrFun (congrFun eM_2 0) 8).trans (mset_ne (by first | exact nz1 (by decide) | exact nz2 (by decide) | exact nz1 (nzA hc0 (by decide)) | exact nz1 (nzE (by decide)) | exact nz1 (nzB hc0 (by decide)) | exact nz1 (nzC hc0 (by decide)) | exact nz1 (nzD hc0 (by decide)) | exact nz1 (nzF (by decide)) | exact nz1 (nzG (by decide)) | omega)))
  have fl5 := t_add x_1 (nI 5)
  have fl6 := t_lit 5
  refine wp_bind2 (o5_X10_isDigit M10 T ((txr_fr ((hf_M10 0 8 (by first | decide | (rcases hc0 with h | h <;> rw [h] <;> simp; done) | (rcases hb0 with h | h | h <;> rw [h] <;> simp; done) | (simp; done) | omega)).trans ((congrFun (congrFun eM_2 0) 8).trans ((mset_ne (by first | exact nz1 (by decide) | exact nz2 (by decide) | exact nz1 (nzA hc0 (by decide)) | exact nz1 (nzE (by decide)) | exact nz1 (nzB hc0 (by decide)) | exact nz1 (nzC hc0 (by decide)) | exact nz1 (nzD hc0 (by decide)) | exact nz1 (nzF (by decide)) | exact nz1 (nzG (by decide)) | omega)).trans rfl))) (fun j => ((hf_M10 5 j (by first | decide | (rcases hc0 with h | h <;> rw [h] <;> simp; done) | (rcases hb0 with h | h | h <;> rw [h] <;> simp; done) | (simp; done) | omega)).trans ((congrFun (congrFun eM_2 5) j).trans ((mset_ne (by first | exact nz1 (by decide) | exact nz2 (by decide) | exact nz1 (nzA hc0 (by decide)) | exact nz1 (nzE (by decide)) | exact nz1 (nzB hc0 (by decide)) | exact nz1 (nzC hc0 (by decide)) | exact nz1 (nzD hc0 (by decide)) | exact nz1 (nzF (by decide)) | exact nz1 (nzG (by decide)) | omega)).trans rfl))))).trans hT) (by have f0 := congrArg Int32.toInt (hf_M10 0 8 (by first | decide | (rcases hc0 with h | h <;> rw [h] <;> simp; done) | (rcases hb0 with h | h | h <;> rw [h] <;> simp; done) | (simp; done) | omega)); have f1 := congrArg Int32.toInt ((congrFun (congrFun eM_2 0) 8).trans (mset_ne (by first | exact nz1 (by decide) | exact nz2 (by decide) | exact nz1 (nzA hc0 (by decide)) | exact nz1 (nzE (by decide)) | exact nz1 (nzB hc0 (by decide)) | exact nz1 (nzC hc0 (by decide)) | exact nz1 (nzD hc0 (by decide)) | exact nz1 (nzF (by decide)) | exact nz1 (nzG (by decide)) | omega))); omega)) (fun r_3 he11 hq11 => ?_)
  obtain ⟨hz_r_3, hd_11, hk_11⟩ := hq11
  replace hd_11 : ¬ r_3.toInt = 0 → (M10 0 7).toInt < (M10 0 8).toInt ∧ ∀ d, f_X10_here M10 = some d → 48 ≤ d.toInt ∧ d.toInt ≤ 57 := hd_11
  replace hk_11 : DgI r_3.toInt (dgt (T (M10 0 7).toInt)) := hk_11
  refine wp_ite (fun c14 => ?_) (fun c14 => ?_)
  · exact wp_some ⟨b01_1, (fun a i q0 => ((hf_M10 a i (fun z8 => q0 ((fun z9 => Or.elim z9 (fun h9 => Or.inl h9) (fun h9 => Or.inr (Or.inr (h9)))) z8))).trans ((congrFun (congrFun eM_2 a) i).trans ((mset_ne (fun h9 => q0 (Or.inr (Or.inr (h9))))).trans rfl)))), (by show (M 0 7).toInt ≤ (M10 0 7).toInt ∧ (M10 0 7).toInt ≤ (M 0 8).toInt; have f0 := t_lit 1; omega), (by show ¬ (nI 1).toInt = 0 → 0 ≤ (M10 0 10).toInt ∧ (M10 0 10).toInt ≤ 99999; have f0 := t_lit 1; omega), (fun _ d hd hnz => by show (M 0 7).toInt < (M10 0 7).toInt; have h8 : ¬ (M10 0 7).toInt = x_1.toInt := (fun z => by have h9 := hdz z; rw [he11, hd] at h9; cases h9; exact hnz c14); omega), (by show NumQ _ (nI 1).toInt (M10 0 9).toInt (M10 0 7).toInt (M10 0 10).toInt _ _; have h8 : ¬ (M10 0 7).toInt = x_1.toInt := (fun z => by have z2 := dgi_0 hk_11 c14; rw [show (M10 0 7).toInt = (M 0 7).toInt from (by omega), hdg0] at z2; exact absurd z2 (by decide)); have ec : ((M10 0 7).toInt - (M 0 7).toInt).toNat = cg := (by omega); have e2 : (M10 0 7).toInt = (M 0 7).toInt + (cg : Int) := (by omega); rw [ec] at hv10; rw [numS_v (c := cg) (by omega) hc1 (fun i hi => hd10 i (by omega)) (by rw [← e2]; exact dgi_0 hk_11 c14)]; exact ⟨ne1, hv10, by show 0 ≤ nvv T _ _; rw [← hv10]; omega, by show nvv T _ _ ≤ 99999; rw [← hv10]; omega, e2, by show (M 0 7).toInt < (M 0 7).toInt + _; omega, by show (M 0 7).toInt + _ ≤ _; omega⟩)⟩
  · have j27 : ((M10 0 7).toInt = (M 0 7).toInt + 5) → Wp (f_X10_readsNumber_L27 M10) (fun q => (q.1 = 0 ∨ q.1 = 1) ∧ (∀ a i, ¬ ((a = 0 ∧ i = 7) ∨ (a = 0 ∧ i = 9) ∨ (a = 0 ∧ i = 10)) → q.2 a i = M a i) ∧ ((M 0 7).toInt ≤ (q.2 0 7).toInt ∧ (q.2 0 7).toInt ≤ (M 0 8).toInt) ∧ (¬ q.1.toInt = 0 → 0 ≤ (q.2 0 10).toInt ∧ (q.2 0 10).toInt ≤ 99999) ∧ (¬ q.1.toInt = 0 → ∀ d, f_X10_isDigit M = some d → ¬ d.toInt = 0 → (M 0 7).toInt < (q.2 0 7).toInt) ∧ (NumQ (numS T (M 0 7).toInt 5) q.1.toInt (q.2 0 9).toInt (q.2 0 7).toInt (q.2 0 10).toInt (M 0 7).toInt (M 0 8).toInt)) := by
      intro h27
      unfold f_X10_readsNumber_L27
      refine wp_cb2 (o5_X10_wrongAt M10 (nI 2) (M10 0 7)) (fun r_4 M_5 he33 hq33 => ?_)
      obtain ⟨hz_r_4, hg_M_5, hw_33, hq_33⟩ := hq33
      replace hw_33 : r_4.toInt = 0 := hw_33
      have := t_lit 2
      replace hq_33 : 0 ≤ (nI 2).toInt → (nI 2).toInt ≤ 9 → 0 ≤ (M10 0 7).toInt → (M10 0 7).toInt ≤ 1000 → (M_5 0 9).toInt = -1000 * (nI 2).toInt - (M10 0 7).toInt := hq_33
      have := t_lit 2
      replace hg_M_5 : ∀ a i, ¬ ((a = 0 ∧ i = 9)) → M_5 a i = M10 a i := hg_M_5
      refine wp_gb hz_r_4 ?_
      exact wp_some ⟨hz_r_4, (fun a i q0 => ((hg_M_5 a i (fun h9 => q0 (Or.inr (Or.inl h9)))).trans ((hf_M10 a i (fun z8 => q0 ((fun z9 => Or.elim z9 (fun h9 => Or.inl h9) (fun h9 => Or.inr (Or.inr (h9)))) z8))).trans ((congrFun (congrFun eM_2 a) i).trans ((mset_ne (fun h9 => q0 (Or.inr (Or.inr (h9))))).trans rfl))))), (by show (M 0 7).toInt ≤ (M_5 0 7).toInt ∧ (M_5 0 7).toInt ≤ (M 0 8).toInt; have f0 := congrArg Int32.toInt (hg_M_5 0 7 (by first | decide | (rcases hc0 with h | h <;> rw [h] <;> simp; done) | (rcases hb0 with h | h | h <;> rw [h] <;> simp; done) | (simp; done) | omega)); omega), (by show ¬ r_4.toInt = 0 → 0 ≤ (M_5 0 10).toInt ∧ (M_5 0 10).toInt ≤ 99999; have f0 := congrArg Int32.toInt (hg_M_5 0 10 (by first | decide | (rcases hc0 with h | h <;> rw [h] <;> simp; done) | (rcases hb0 with h | h | h <;> rw [h] <;> simp; done) | (simp; done) | omega)); omega), (fun z => absurd hw_33 z), (by show NumQ _ r_4.toInt (M_5 0 9).toInt (M_5 0 7).toInt (M_5 0 10).toInt _ _; have e2 : (M10 0 7).toInt = (M 0 7).toInt + ((5 : Nat) : Int) := (by omega); rw [numS_2 (by omega) (fun i hi => hd10 i (by omega)) (by rw [← e2]; exact dgi_1 hk_11 c14), ← e2]; exact ⟨hw_33, by rw [hq_33 (by decide) (by decide) (by omega) (by omega)]; have := t_lit 2; omega⟩)⟩
    refine wp_ite (fun c24 => ?_) (fun c24 => ?_)
    · exact j27 (by have f9 := t_inc x_1 5 (by omega); omega)
    · refine wp_bind2 (o5_X10_here M10 T ((txr_fr ((hf_M10 0 8 (by first | decide | (rcases hc0 with h | h <;> rw [h] <;> simp; done) | (rcases hb0 with h | h | h <;> rw [h] <;> simp; done) | (simp; done) | omega)).trans ((congrFun (congrFun eM_2 0) 8).trans ((mset_ne (by first | exact nz1 (by decide) | exact nz2 (by decide) | exact nz1 (nzA hc0 (by decide)) | exact nz1 (nzE (by decide)) | exact nz1 (nzB hc0 (by decide)) | exact nz1 (nzC hc0 (by decide)) | exact nz1 (nzD hc0 (by decide)) | exact nz1 (nzF (by decide)) | exact nz1 (nzG (by decide)) | omega)).trans rfl))) (fun j => ((hf_M10 5 j (by first | decide | (rcases hc0 with h | h <;> rw [h] <;> simp; done) | (rcases hb0 with h | h | h <;> rw [h] <;> simp; done) | (simp; done) | omega)).trans ((congrFun (congrFun eM_2 5) j).trans ((mset_ne (by first | exact nz1 (by decide) | exact nz2 (by decide) | exact nz1 (nzA hc0 (by decide)) | exact nz1 (nzE (by decide)) | exact nz1 (nzB hc0 (by decide)) | exact nz1 (nzC hc0 (by decide)) | exact nz1 (nzD hc0 (by decide)) | exact nz1 (nzF (by decide)) | exact nz1 (nzG (by decide)) | omega)).trans rfl))))).trans hT) (by have f0 := congrArg Int32.toInt (hf_M10 0 8 (by first | decide | (rcases hc0 with h | h <;> rw [h] <;> simp; done) | (rcases hb0 with h | h | h <;> rw [h] <;> simp; done) | (simp; done) | omega)); have f1 := congrArg Int32.toInt ((congrFun (congrFun eM_2 0) 8).trans (mset_ne (by first | exact nz1 (by decide) | exact nz2 (by decide) | exact nz1 (nzA hc0 (by decide)) | exact nz1 (nzE (by decide)) | exact nz1 (nzB hc0 (by decide)) | exact nz1 (nzC hc0 (by decide)) | exact nz1 (nzD hc0 (by decide)) | exact nz1 (nzF (by decide)) | exact nz1 (nzG (by decide)) | omega))); have f2 := t_lit 5; have f3 := t_add x_1 (nI 5); have f4 := congrArg Int32.toInt ex_1; omega)) (fun r_6 he46 hq46 => ?_)
      obtain ⟨hh_46, hq_46⟩ := hq46
      replace hh_46 : (r_6.toInt = -1 ∧ (M10 0 7).toInt = (M10 0 8).toInt) ∨ (0 ≤ r_6.toInt ∧ r_6.toInt ≤ 255 ∧ (M10 0 7).toInt < (M10 0 8).toInt) := hh_46
      replace hq_46 : r_6.toInt = T (M10 0 7).toInt := hq_46
      have hdg := (hd_11 (by omega)).2 r_6 he46
      have hnum := num_step (a := M10 0 10) (r := r_6) (by omega) hdg
      have hpl := (hd_11 (by omega)).1
      refine wp_bnd (fun M_7 eM_7 => ?_)
      refine wp_bnd (fun M_8 eM_8 => ?_)
      have g7 : (M_8 0 7).toInt = (M10 0 7).toInt + 1 := by rw [eM_8, mset_eq, eM_7, mset_ne (by first | exact nz1 (by decide) | exact nz2 (by decide) | exact nz1 (nzA hc0 (by decide)) | exact nz1 (nzE (by decide)) | exact nz1 (nzB hc0 (by decide)) | exact nz1 (nzC hc0 (by decide)) | exact nz1 (nzD hc0 (by decide)) | exact nz1 (nzF (by decide)) | exact nz1 (nzG (by decide)) | omega)]; exact (i_up (by omega)).2
      have g10 : (M_8 0 10).toInt = 10 * (M10 0 10).toInt + (r_6.toInt - 48) := by rw [eM_8, mset_ne (by first | exact nz1 (by decide) | exact nz2 (by decide) | exact nz1 (nzA hc0 (by decide)) | exact nz1 (nzE (by decide)) | exact nz1 (nzB hc0 (by decide)) | exact nz1 (nzC hc0 (by decide)) | exact nz1 (nzD hc0 (by decide)) | exact nz1 (nzF (by decide)) | exact nz1 (nzG (by decide)) | omega), eM_7, mset_eq]; exact hnum
      have ec : ((M10 0 7).toInt - (M 0 7).toInt).toNat = cg := by omega
      rw [ec] at hv10
      exact ih10 M_8 ⟨(fun a i q0 => ((congrFun (congrFun eM_8 a) i).trans ((mset_ne (fun h9 => q0 (Or.inl h9))).trans ((congrFun (congrFun eM_7 a) i).trans ((mset_ne (fun h9 => q0 (Or.inr (h9)))).trans ((hf_M10 a i (fun z8 => q0 ((fun z9 => Or.elim z9 (fun h9 => Or.inl h9) (fun h9 => Or.inr (h9))) z8))).trans rfl)))))), ⟨cg + 1, by omega, by (have f0 := t_lit 1; have f1 := t_add (M_7 0 7) (nI 1); have f2 := congrArg Int32.toInt ((congrFun (congrFun eM_8 0) 7).trans mset_eq); have f3 := congrArg Int32.toInt ((congrFun (congrFun eM_7 0) 7).trans (mset_ne (by first | exact nz1 (by decide) | exact nz2 (by decide) | exact nz1 (nzA hc0 (by decide)) | exact nz1 (nzE (by decide)) | exact nz1 (nzB hc0 (by decide)) | exact nz1 (nzC hc0 (by decide)) | exact nz1 (nzD hc0 (by decide)) | exact nz1 (nzF (by decide)) | exact nz1 (nzG (by decide)) | omega))); omega), by (rw [eM_8, mset_ne (by first | exact nz1 (by decide) | exact nz2 (by decide) | exact nz1 (nzA hc0 (by decide)) | exact nz1 (nzE (by decide)) | exact nz1 (nzB hc0 (by decide)) | exact nz1 (nzC hc0 (by decide)) | exact nz1 (nzD hc0 (by decide)) | exact nz1 (nzF (by decide)) | exact nz1 (nzG (by decide)) | omega), eM_7, mset_eq, hnum]; omega), by (rw [eM_8, mset_ne (by first | exact nz1 (by decide) | exact nz2 (by decide) | exact nz1 (nzA hc0 (by decide)) | exact nz1 (nzE (by decide)) | exact nz1 (nzB hc0 (by decide)) | exact nz1 (nzC hc0 (by decide)) | exact nz1 (nzD hc0 (by decide)) | exact nz1 (nzF (by decide)) | exact nz1 (nzG (by decide)) | omega), eM_7, mset_eq, hnum, Int.pow_succ]; omega), by (have f0 := t_lit 1; have f1 := t_add (M_7 0 7) (nI 1); have f2 := congrArg Int32.toInt ((congrFun (congrFun eM_8 0) 7).trans mset_eq); have f3 := congrArg Int32.toInt ((congrFun (congrFun eM_7 0) 7).trans (mset_ne (by first | exact nz1 (by decide) | exact nz2 (by decide) | exact nz1 (nzA hc0 (by decide)) | exact nz1 (nzE (by decide)) | exact nz1 (nzB hc0 (by decide)) | exact nz1 (nzC hc0 (by decide)) | exact nz1 (nzD hc0 (by decide)) | exact nz1 (nzF (by decide)) | exact nz1 (nzG (by decide)) | omega))); omega)⟩, (fun z => absurd z (by have f0 := t_lit 1; have f1 := t_add (M_7 0 7) (nI 1); have f2 := congrArg Int32.toInt ((congrFun (congrFun eM_8 0) 7).trans mset_eq); have f3 := congrArg Int32.toInt ((congrFun (congrFun eM_7 0) 7).trans (mset_ne (by first | exact nz1 (by decide) | exact nz2 (by decide) | exact nz1 (nzA hc0 (by decide)) | exact nz1 (nzE (by decide)) | exact nz1 (nzB hc0 (by decide)) | exact nz1 (nzC hc0 (by decide)) | exact nz1 (nzD hc0 (by decide)) | exact nz1 (nzF (by decide)) | exact nz1 (nzG (by decide)) | omega))); omega)), (fun i hz => by rw [g7] at hz; by_cases e9 : (i : Int) = cg; (rw [show (M 0 7).toInt + (i : Int) = (M10 0 7).toInt from (by omega)]; exact dgi_1 hk_11 c14); exact hd10 i (by omega)), (by rw [g10, g7, show ((M10 0 7).toInt + 1 - (M 0 7).toInt).toNat = cg + 1 from (by omega), nvv_s, ← hv10, hq_46, show (M10 0 7).toInt = (M 0 7).toInt + (cg : Int) from (by omega)])⟩ (by have f0 := congrArg Int32.toInt ((congrFun (congrFun eM_8 0) 8).trans (mset_ne (by first | exact nz1 (by decide) | exact nz2 (by decide) | exact nz1 (nzA hc0 (by decide)) | exact nz1 (nzE (by decide)) | exact nz1 (nzB hc0 (by decide)) | exact nz1 (nzC hc0 (by decide)) | exact nz1 (nzD hc0 (by decide)) | exact nz1 (nzF (by decide)) | exact nz1 (nzG (by decide)) | omega))); have f1 := congrArg Int32.toInt ((congrFun (congrFun eM_7 0) 8).trans (mset_ne (by first | exact nz1 (by decide) | exact nz2 (by decide) | exact nz1 (nzA hc0 (by decide)) | exact nz1 (nzE (by decide)) | exact nz1 (nzB hc0 (by decide)) | exact nz1 (nzC hc0 (by decide)) | exact nz1 (nzD hc0 (by decide)) | exact nz1 (nzF (by decide)) | exact nz1 (nzG (by decide)) | omega))); have f2 := congrArg Int32.toInt (hf_M10 0 8 (by first | decide | (rcases hc0 with h | h <;> rw [h] <;> simp; done) | (rcases hb0 with h | h | h <;> rw [h] <;> simp; done) | (simp; done) | omega)); have f3 := congrArg Int32.toInt ((congrFun (congrFun eM_2 0) 8).trans (mset_ne (by first | exact nz1 (by decide) | exact nz2 (by decide) | exact nz1 (nzA hc0 (by decide)) | exact nz1 (nzE (by decide)) | exact nz1 (nzB hc0 (by decide)) | exact nz1 (nzC hc0 (by decide)) | exact nz1 (nzD hc0 (by decide)) | exact nz1 (nzF (by decide)) | exact nz1 (nzG (by decide)) | omega))); have f4 := congrArg Int32.toInt ((congrFun (congrFun eM_8 0) 7).trans mset_eq); have f5 := t_lit 1; have f6 := t_add (M_7 0 7) (nI 1); have f7 := congrArg Int32.toInt ((congrFun (congrFun eM_7 0) 7).trans (mset_ne (by first | exact nz1 (by decide) | exact nz2 (by decide) | exact nz1 (nzA hc0 (by decide)) | exact nz1 (nzE (by decide)) | exact nz1 (nzB hc0 (by decide)) | exact nz1 (nzC hc0 (by decide)) | exact nz1 (nzD hc0 (by decide)) | exact nz1 (nzF (by decide)) | exact nz1 (nzG (by decide)) | omega))); omega)
set_option maxHeartbeats 2000000 in
theorem o6_X10_closesSums (M : Mem) (v1 : Int32) (B : Mem) (hR : RS B M 1) (hO : On M) (hD : Dsc (M 7) (ix (B 0 13)) (ix (M 0 13))) : Wp (f_X10_closesSums M v1) (fun q => (∀ a i, ¬ ((a = 0 ∧ i = 12) ∨ (a = 0 ∧ i = 13) ∨ a = 6) → q a i = M a i) ∧ (RS B q 1) ∧ (ix (q 0 13) ≤ ix (M 0 13) ∧ ∀ t : Nat, ix (q 0 13) ≤ t → t < ix (M 0 13) → 2 ≤ kd (M 7 t) ∧ kd (M 7 t) ≤ 6) ∧ (¬ v1.toInt = 0 → ix (q 0 13) = 0 ∨ ¬ (2 ≤ kd (M 7 (ix (q 0 13) - 1)) ∧ kd (M 7 (ix (q 0 13) - 1)) ≤ 6)) ∧ ((sR q, ix (q 0 13)) = clS v1.toInt (M 7) (ix (B 0 13)) (ix (M 0 13)) (sR M)) ∧ (On q)) := by
  refine wp_lp1 (fun M0 => (∀ a i, ¬ ((a = 0 ∧ i = 12) ∨ (a = 0 ∧ i = 13) ∨ a = 6) → M0 a i = M a i) ∧ (RS B M0 1) ∧ (ix (M0 0 13) ≤ ix (M 0 13) ∧ ∀ t : Nat, ix (M0 0 13) ≤ t → t < ix (M 0 13) → 2 ≤ kd (M 7 t) ∧ kd (M 7 t) ≤ 6) ∧ (clS v1.toInt (M 7) (ix (B 0 13)) (ix (M 0 13)) (sR M) = clS v1.toInt (M 7) (ix (B 0 13)) (ix (M0 0 13)) (sR M0)) ∧ (On M0)) (fun M0 => ix (M0 0 13)) (fun ag0 M0 hI0 ih0 => ?_) FU M ⟨(fun _ _ _ => rfl), hR, ⟨Nat.le_refl _, fun t h1 h2 => absurd h2 (by omega)⟩, rfl, hO⟩ (fu_lt ((by have := pm_bd hR.1; have := pm_ix hR.1; omega)))
  obtain ⟨hf_M0, hR0, hw0, hc0, hO0⟩ := hI0
  have hb := pm_bd hR0.1
  have hx := pm_ix hR0.1
  have e7 : M0 7 = M 7 := funext (fun i => hf_M0 7 i (by first | decide | (rcases hc0 with h | h <;> rw [h] <;> simp; done) | (rcases hb0 with h | h | h <;> rw [h] <;> simp; done) | (simp; done) | omega))
  refine wp_bind2 (o_X10_waitTop M0 hR0.1) (fun r_1 he1 hq1 => ?_)
  have hr_1 := hq1
  replace hr_1 : (ix (M0 0 13) = 0 ∧ r_1.toInt = -1) ∨ (0 < ix (M0 0 13) ∧ r_1.toInt = kd (M0 7 (ix (M0 0 13) - 1))) := hr_1
  have j37 : (0 < ix (M0 0 13) ∧ 2 ≤ kd (M0 7 (ix (M0 0 13) - 1)) ∧ kd (M0 7 (ix (M0 0 13) - 1)) ≤ 6) → (4 ≤ kd (M0 7 (ix (M0 0 13) - 1)) ∨ ¬ v1.toInt = 0) → Wp (f_X10_closesSums_L37 ag0 M0) (fun q => (∀ a i, ¬ ((a = 0 ∧ i = 12) ∨ (a = 0 ∧ i = 13) ∨ a = 6) → q a i = M a i) ∧ (RS B q 1) ∧ (ix (q 0 13) ≤ ix (M 0 13) ∧ ∀ t : Nat, ix (q 0 13) ≤ t → t < ix (M 0 13) → 2 ≤ kd (M 7 t) ∧ kd (M 7 t) ≤ 6) ∧ (¬ v1.toInt = 0 → ix (q 0 13) = 0 ∨ ¬ (2 ≤ kd (M 7 (ix (q 0 13) - 1)) ∧ kd (M 7 (ix (q 0 13) - 1)) ≤ 6)) ∧ ((sR q, ix (q 0 13)) = clS v1.toInt (M 7) (ix (B 0 13)) (ix (M 0 13)) (sR M)) ∧ (On q)) := by
    intro h37 k37
    unfold f_X10_closesSums_L37
    refine wp_bind2 (o_X10_waitTop M0 hR0.1) (fun r_2 he39 hq39 => ?_)
    have hr_39 := hq39
    replace hr_39 : (ix (M0 0 13) = 0 ∧ r_2.toInt = -1) ∨ (0 < ix (M0 0 13) ∧ r_2.toInt = kd (M0 7 (ix (M0 0 13) - 1))) := hr_39
    refine wp_bind2 (o_X10_notes M0 r_2 (nI 0) (by omega)) (fun M_3 he43 hq43 => ?_)
    obtain ⟨hg_M_3, hn1_43, hn2_43, hn3_43⟩ := hq43
    replace hn1_43 : M_3 0 12 = M0 0 12 + nI 1 := hn1_43
    have := t_lit 0
    replace hn2_43 : M_3 6 (ix (M0 0 12)) = (nI 1048576) * r_2 + (nI 0) := hn2_43
    have := t_lit 0
    replace hn3_43 : ∀ k : Nat, ¬ k = ix (M0 0 12) → M_3 6 k = M0 6 k := hn3_43
    have := t_lit 0
    replace hg_M_3 : ∀ a i, ¬ ((a = 0 ∧ i = 12) ∨ a = 6) → M_3 a i = M0 a i := hg_M_3
    refine wp_bnd (fun M_4 eM_4 => ?_)
    have q12 : M_4 0 12 = M0 0 12 + nI 1 := by rw [eM_4, mset_ne (by first | exact nz1 (by decide) | exact nz2 (by decide) | exact nz1 (nzA hc0 (by decide)) | exact nz1 (nzE (by decide)) | exact nz1 (nzB hc0 (by decide)) | exact nz1 (nzC hc0 (by decide)) | exact nz1 (nzD hc0 (by decide)) | exact nz1 (nzF (by decide)) | exact nz1 (nzG (by decide)) | omega)]; exact hn1_43
    have q13 : M_4 0 13 = M0 0 13 - nI 1 := by rw [eM_4, mset_eq, hg_M_3 0 13 (by first | decide | (rcases hc0 with h | h <;> rw [h] <;> simp; done) | (rcases hb0 with h | h | h <;> rw [h] <;> simp; done) | (simp; done) | omega)]
    have q7 : M_4 0 7 = M0 0 7 := by rw [eM_4, mset_ne (by first | exact nz1 (by decide) | exact nz2 (by decide) | exact nz1 (nzA hc0 (by decide)) | exact nz1 (nzE (by decide)) | exact nz1 (nzB hc0 (by decide)) | exact nz1 (nzC hc0 (by decide)) | exact nz1 (nzD hc0 (by decide)) | exact nz1 (nzF (by decide)) | exact nz1 (nzG (by decide)) | omega), hg_M_3 0 7 (by first | decide | (rcases hc0 with h | h <;> rw [h] <;> simp; done) | (rcases hb0 with h | h | h <;> rw [h] <;> simp; done) | (simp; done) | omega)]
    have q8 : M_4 0 8 = M0 0 8 := by rw [eM_4, mset_ne (by first | exact nz1 (by decide) | exact nz2 (by decide) | exact nz1 (nzA hc0 (by decide)) | exact nz1 (nzE (by decide)) | exact nz1 (nzB hc0 (by decide)) | exact nz1 (nzC hc0 (by decide)) | exact nz1 (nzD hc0 (by decide)) | exact nz1 (nzF (by decide)) | exact nz1 (nzG (by decide)) | omega), hg_M_3 0 8 (by first | decide | (rcases hc0 with h | h <;> rw [h] <;> simp; done) | (rcases hb0 with h | h | h <;> rw [h] <;> simp; done) | (simp; done) | omega)]
    have qr7 : M_4 7 = M0 7 := funext (fun i => by rw [eM_4, mset_ne (by first | exact nz1 (by decide) | exact nz2 (by decide) | exact nz1 (nzA hc0 (by decide)) | exact nz1 (nzE (by decide)) | exact nz1 (nzB hc0 (by decide)) | exact nz1 (nzC hc0 (by decide)) | exact nz1 (nzD hc0 (by decide)) | exact nz1 (nzF (by decide)) | exact nz1 (nzG (by decide)) | omega), hg_M_3 7 i (by first | decide | (rcases hc0 with h | h <;> rw [h] <;> simp; done) | (rcases hb0 with h | h | h <;> rw [h] <;> simp; done) | (simp; done) | omega)])
    have qr6 : ∀ k, ¬ k = ix (M0 0 12) → M_4 6 k = M0 6 k := fun k hk => by rw [eM_4, mset_ne (by first | exact nz1 (by decide) | exact nz2 (by decide) | exact nz1 (nzA hc0 (by decide)) | exact nz1 (nzE (by decide)) | exact nz1 (nzB hc0 (by decide)) | exact nz1 (nzC hc0 (by decide)) | exact nz1 (nzD hc0 (by decide)) | exact nz1 (nzF (by decide)) | exact nz1 (nzG (by decide)) | omega)]; exact hn3_43 k hk
    have qv : M_4 6 (ix (M0 0 12)) = _ := (by rw [eM_4, mset_ne (by first | exact nz1 (by decide) | exact nz2 (by decide) | exact nz1 (nzA hc0 (by decide)) | exact nz1 (nzE (by decide)) | exact nz1 (nzB hc0 (by decide)) | exact nz1 (nzC hc0 (by decide)) | exact nz1 (nzD hc0 (by decide)) | exact nz1 (nzF (by decide)) | exact nz1 (nzG (by decide)) | omega)]; exact hn2_43 : M_4 6 (ix (M0 0 12)) = (nI 1048576) * r_2 + (nI 0))
    have qd := i_dn (x := M0 0 13) (by omega)
    have hwd := wd_is (a := r_2) (b := nI 0) (by omega) (by decide)
    have hin := rs_in hR0 h37.1 h37.2
    have q11 : M_4 0 11 = M0 0 11 := by rw [eM_4, mset_ne (by first | exact nz1 (by decide) | exact nz2 (by decide) | exact nz1 (nzA hc0 (by decide)) | exact nz1 (nzE (by decide)) | exact nz1 (nzB hc0 (by decide)) | exact nz1 (nzC hc0 (by decide)) | exact nz1 (nzD hc0 (by decide)) | exact nz1 (nzF (by decide)) | exact nz1 (nzG (by decide)) | omega), hg_M_3 0 11 (by first | decide | (rcases hc0 with h | h <;> rw [h] <;> simp; done) | (rcases hb0 with h | h | h <;> rw [h] <;> simp; done) | (simp; done) | omega)]
    have s4 := sr_note (a := r_2) (b := nI 0) (p := (M0 0 7).toInt) (by omega) (by omega) (by decide) (congrArg Int32.toInt q7) q12 qv qr6
    rw [nI0, show r_2.toInt = kd (M0 7 (ix (M0 0 13) - 1)) from (by omega), e7] at s4
    have w4 : ix (M_4 0 13) = ix (M0 0 13) - 1 := by
      rw [q13]
      omega
    have hD0 := dsc_d hD hw0.1
    have h37b := h37
    have k37b := k37
    rw [e7] at h37b k37b
    exact ih0 M_4 ⟨(fun a i q0 => ((congrFun (congrFun eM_4 a) i).trans ((mset_ne (fun h9 => q0 (Or.inr (Or.inl h9)))).trans ((hg_M_3 a i (fun z8 => q0 ((fun z9 => Or.elim z9 (fun h9 => Or.inl h9) (fun h9 => Or.inr (Or.inr (h9)))) z8))).trans ((hf_M0 a i (fun z8 => q0 ((fun z9 => Or.elim z9 (fun h9 => Or.inl h9) (fun z9 => Or.elim z9 (fun h9 => Or.inr (Or.inl h9)) (fun h9 => Or.inr (Or.inr (h9))))) z8))).trans rfl))))), (rs_popn hR0 h37.1 h37.2 q12 q13 q7 q8 qr7 qr6 (by rw [qv]; exact hwd.1) (by rw [qv, hwd.2.2.1]; omega)), (by rw [q13]; exact pop_w hw0 qd.1 (by rw [← e7]; exact h37.2)), (by rw [hc0, w4, s4]; by_cases c9 : 4 ≤ kd (M 7 (ix (M0 0 13) - 1)); (exact clS_t hD0 ⟨hin, c9, h37b.2.2⟩); exact clS_s hD0 (fun z => c9 z.2.1) ⟨hin, h37b.2.1, by omega⟩ (by omega)), (on_popx hO0 (by omega) q11 q13 qr7 (by omega)).1⟩ (by rw [q13]; omega)
  have j17 : (ix (M0 0 13) = 0 ∨ ¬ (4 ≤ kd (M0 7 (ix (M0 0 13) - 1)) ∧ kd (M0 7 (ix (M0 0 13) - 1)) ≤ 6)) → Wp (f_X10_closesSums_L17 v1 ag0 M0) (fun q => (∀ a i, ¬ ((a = 0 ∧ i = 12) ∨ (a = 0 ∧ i = 13) ∨ a = 6) → q a i = M a i) ∧ (RS B q 1) ∧ (ix (q 0 13) ≤ ix (M 0 13) ∧ ∀ t : Nat, ix (q 0 13) ≤ t → t < ix (M 0 13) → 2 ≤ kd (M 7 t) ∧ kd (M 7 t) ≤ 6) ∧ (¬ v1.toInt = 0 → ix (q 0 13) = 0 ∨ ¬ (2 ≤ kd (M 7 (ix (q 0 13) - 1)) ∧ kd (M 7 (ix (q 0 13) - 1)) ≤ 6)) ∧ ((sR q, ix (q 0 13)) = clS v1.toInt (M 7) (ix (B 0 13)) (ix (M 0 13)) (sR M)) ∧ (On q)) := by
    intro h17
    unfold f_X10_closesSums_L17
    refine wp_ite (fun c18 => ?_) (fun c18 => ?_)
    · exact wp_some ⟨(fun a i q0 => ((hf_M0 a i (fun z8 => q0 ((fun z9 => Or.elim z9 (fun h9 => Or.inl h9) (fun z9 => Or.elim z9 (fun h9 => Or.inr (Or.inl h9)) (fun h9 => Or.inr (Or.inr (h9))))) z8))).trans rfl)), hR0, hw0, (fun z => absurd c18 z), (by show (sR M0, ix (M0 0 13)) = _; rw [hc0]; exact (clS_e (by rw [← e7]; exact isT_i h17) (Or.inl c18)).symm), hO0⟩
    · refine wp_bind2 (o_X10_waitTop M0 hR0.1) (fun r_5 he22 hq22 => ?_)
      have hr_22 := hq22
      replace hr_22 : (ix (M0 0 13) = 0 ∧ r_5.toInt = -1) ∨ (0 < ix (M0 0 13) ∧ r_5.toInt = kd (M0 7 (ix (M0 0 13) - 1))) := hr_22
      refine wp_ite (fun c26 => ?_) (fun c26 => ?_)
      · exact j37 (by omega) (by omega)
      · refine wp_bind2 (o_X10_waitTop M0 hR0.1) (fun r_6 he30 hq30 => ?_)
        have hr_30 := hq30
        replace hr_30 : (ix (M0 0 13) = 0 ∧ r_6.toInt = -1) ∨ (0 < ix (M0 0 13) ∧ r_6.toInt = kd (M0 7 (ix (M0 0 13) - 1))) := hr_30
        refine wp_ite (fun c34 => ?_) (fun c34 => ?_)
        · exact j37 (by omega) (by omega)
        · exact wp_some ⟨(fun a i q0 => ((hf_M0 a i (fun z8 => q0 ((fun z9 => Or.elim z9 (fun h9 => Or.inl h9) (fun z9 => Or.elim z9 (fun h9 => Or.inr (Or.inl h9)) (fun h9 => Or.inr (Or.inr (h9))))) z8))).trans rfl)), hR0, hw0, (fun _ => by rw [← e7]; omega), (by show (sR M0, ix (M0 0 13)) = _; rw [hc0]; exact (clS_e (by rw [← e7]; exact isT_i h17) (Or.inr (fun z => by have z1 := z.1; have z2 := z.2; rw [← e7] at z2; omega))).symm), hO0⟩
  refine wp_ite (fun c5 => ?_) (fun c5 => ?_)
  · exact j17 (by omega)
  · refine wp_bind2 (o_X10_waitTop M0 hR0.1) (fun r_7 he9 hq9 => ?_)
    have hr_9 := hq9
    replace hr_9 : (ix (M0 0 13) = 0 ∧ r_7.toInt = -1) ∨ (0 < ix (M0 0 13) ∧ r_7.toInt = kd (M0 7 (ix (M0 0 13) - 1))) := hr_9
    refine wp_ite (fun c14 => ?_) (fun c14 => ?_)
    · exact j37 (by omega) (by omega)
    · exact j17 (by omega)
set_option maxHeartbeats 4000000 in
theorem o6_X10_readsFactor (M : Mem) (T : Int → Int) (hT : TXr M = T) (B : Mem) (hR : RS B M 0) (hO : On M) (hD : Dsc (M 7) (ix (B 0 13)) (ix (M 0 13))) : Wp (f_X10_readsFactor M) (fun q => (q.1 = 0 ∨ q.1 = 1) ∧ (∀ a i, ¬ ((a = 0 ∧ i = 7) ∨ (a = 0 ∧ i = 9) ∨ (a = 0 ∧ i = 10) ∨ (a = 0 ∧ i = 11) ∨ (a = 0 ∧ i = 12) ∨ (a = 0 ∧ i = 13) ∨ a = 6 ∨ a = 7) → q.2 a i = M a i) ∧ (¬ q.1.toInt = 0 → RS B q.2 1 ∧ (M 0 7).toInt < (q.2 0 7).toInt) ∧ (GoP (DE T (ix (B 0 13)) M) (DC T (ix (B 0 13)) q.2) q.1.toInt (q.2 0 9).toInt) ∧ (¬ q.1.toInt = 0 → On q.2 ∧ Dsc (q.2 7) (ix (B 0 13)) (ix (q.2 0 13)))) := by
  refine wp_lp1 (fun M0 => (∀ a i, ¬ ((a = 0 ∧ i = 7) ∨ (a = 0 ∧ i = 9) ∨ (a = 0 ∧ i = 11) ∨ (a = 0 ∧ i = 13) ∨ a = 7) → M0 a i = M a i) ∧ (RS B M0 0) ∧ ((M 0 7).toInt ≤ (M0 0 7).toInt) ∧ (DE T (ix (B 0 13)) M = DE T (ix (B 0 13)) M0) ∧ (On M0) ∧ (Dsc (M0 7) (ix (B 0 13)) (ix (M0 0 13)))) (fun M0 => ((M0 0 8).toInt - (M0 0 7).toInt).toNat) (fun ag0 M0 hI0 ih0 => ?_) FU M ⟨(fun _ _ _ => rfl), hR, (Int.le_refl _), rfl, hO, hD⟩ (fu_lt ((by have := pm_bd hR.1; omega)))
  obtain ⟨hf_M0, hR0, hp0, hE0, hO0, hD0⟩ := hI0
  have hb := pm_bd hR0.1
  have hx := pm_ix hR0.1
  have hT0 : TXr M0 = T := (txr_fr (hf_M0 0 8 (by first | decide | (rcases hc0 with h | h <;> rw [h] <;> simp; done) | (rcases hb0 with h | h | h <;> rw [h] <;> simp; done) | (simp; done) | omega)) (fun j => hf_M0 5 j (by first | decide | (rcases hc0 with h | h <;> rw [h] <;> simp; done) | (rcases hb0 with h | h | h <;> rw [h] <;> simp; done) | (simp; done) | omega))).trans hT
  have en := ends_r hT0
  have hbw := hR0.2.1.2.1
  refine wp_bind2 (o5_X10_here M0 T hT0 (pm_hp hR0.1)) (fun r_1 he1 hq1 => ?_)
  obtain ⟨hh_1, hq_1⟩ := hq1
  replace hh_1 : (r_1.toInt = -1 ∧ (M0 0 7).toInt = (M0 0 8).toInt) ∨ (0 ≤ r_1.toInt ∧ r_1.toInt ≤ 255 ∧ (M0 0 7).toInt < (M0 0 8).toInt) := hh_1
  replace hq_1 : r_1.toInt = T (M0 0 7).toInt := hq_1
  have j20 : (¬ T (M0 0 7).toInt = 91) → Wp (f_X10_readsFactor_L20 M0) (fun q => (q.1 = 0 ∨ q.1 = 1) ∧ (∀ a i, ¬ ((a = 0 ∧ i = 7) ∨ (a = 0 ∧ i = 9) ∨ (a = 0 ∧ i = 10) ∨ (a = 0 ∧ i = 11) ∨ (a = 0 ∧ i = 12) ∨ (a = 0 ∧ i = 13) ∨ a = 6 ∨ a = 7) → q.2 a i = M a i) ∧ (¬ q.1.toInt = 0 → RS B q.2 1 ∧ (M 0 7).toInt < (q.2 0 7).toInt) ∧ (GoP (DE T (ix (B 0 13)) M) (DC T (ix (B 0 13)) q.2) q.1.toInt (q.2 0 9).toInt) ∧ (¬ q.1.toInt = 0 → On q.2 ∧ Dsc (q.2 7) (ix (B 0 13)) (ix (q.2 0 13)))) := by
    intro h20
    unfold f_X10_readsFactor_L20
    refine wp_bind2 (o5_X10_isDigit M0 T hT0 (pm_hp hR0.1)) (fun r_2 he21 hq21 => ?_)
    obtain ⟨hz_r_2, hd_21, hk_21⟩ := hq21
    replace hd_21 : ¬ r_2.toInt = 0 → (M0 0 7).toInt < (M0 0 8).toInt ∧ ∀ d, f_X10_here M0 = some d → 48 ≤ d.toInt ∧ d.toInt ≤ 57 := hd_21
    replace hk_21 : DgI r_2.toInt (dgt (T (M0 0 7).toInt)) := hk_21
    refine wp_ite (fun c24 => ?_) (fun c24 => ?_)
    · refine wp_bind2 (o5_X10_here M0 T hT0 (pm_hp hR0.1)) (fun r_3 he48 hq48 => ?_)
      obtain ⟨hh_48, hq_48⟩ := hq48
      replace hh_48 : (r_3.toInt = -1 ∧ (M0 0 7).toInt = (M0 0 8).toInt) ∨ (0 ≤ r_3.toInt ∧ r_3.toInt ≤ 255 ∧ (M0 0 7).toInt < (M0 0 8).toInt) := hh_48
      replace hq_48 : r_3.toInt = T (M0 0 7).toInt := hq_48
      refine wp_bind2 (o6_X10_factOf M0 r_3) (fun r_4 he51 hq51 => ?_)
      obtain ⟨hr_51, hix_51⟩ := hq51
      replace hr_51 : r_4.toInt = -1 ∨ (0 ≤ r_4.toInt ∧ r_4.toInt ≤ 7 ∧ 100 ≤ r_3.toInt) := hr_51
      replace hix_51 : r_4.toInt = fct r_3.toInt := hix_51
      refine wp_ite (fun c57 => ?_) (fun c57 => ?_)
      · refine wp_cb2 (o5_X10_wrongAt M0 (nI 1) (M0 0 7)) (fun r_7 M_8 he66 hq66 => ?_)
        obtain ⟨hz_r_7, hg_M_8, hw_66, hq_66⟩ := hq66
        replace hw_66 : r_7.toInt = 0 := hw_66
        have := t_lit 1
        replace hq_66 : 0 ≤ (nI 1).toInt → (nI 1).toInt ≤ 9 → 0 ≤ (M0 0 7).toInt → (M0 0 7).toInt ≤ 1000 → (M_8 0 9).toInt = -1000 * (nI 1).toInt - (M0 0 7).toInt := hq_66
        have := t_lit 1
        replace hg_M_8 : ∀ a i, ¬ ((a = 0 ∧ i = 9)) → M_8 a i = M0 a i := hg_M_8
        have F1 : DE T (ix (B 0 13)) M0 = .inl (M_8 0 9).toInt := by
          rw [show (M_8 0 9).toInt = -1000 - (sR M0).1 from (by rw [hq_66 (by decide) (by decide) (by omega) (by omega)]; have := t_lit 1; show _ = -1000 - (M0 0 7).toInt; omega)]
          exact denE_f en (by omega) (by show 0 ≤ (M0 0 7).toInt; omega) (facD_1 h20 (dgi_0 hk_21 c24) (show fct (T (M0 0 7).toInt) = -1 by rw [← hq_48, ← hix_51]; exact c57))
        refine wp_gb hz_r_7 ?_
        exact wp_some ⟨hz_r_7, (fun a i q0 => ((hg_M_8 a i (fun h9 => q0 (Or.inr (Or.inl h9)))).trans ((hf_M0 a i (fun z8 => q0 ((fun z9 => Or.elim z9 (fun h9 => Or.inl h9) (fun z9 => Or.elim z9 (fun h9 => Or.inr (Or.inl h9)) (fun z9 => Or.elim z9 (fun h9 => Or.inr (Or.inr (Or.inr (Or.inl h9)))) (fun z9 => Or.elim z9 (fun h9 => Or.inr (Or.inr (Or.inr (Or.inr (Or.inr (Or.inl h9)))))) (fun h9 => Or.inr (Or.inr (Or.inr (Or.inr (Or.inr (Or.inr (Or.inr (h9)))))))))))) z8))).trans rfl))), (fun z => absurd hw_66 z), (by show GoP (DE T (ix (B 0 13)) M) (DC T (ix (B 0 13)) M_8) r_7.toInt (M_8 0 9).toInt; exact ⟨fun _ => by rw [hE0]; exact F1, fun z => absurd hw_66 z⟩), (fun z => absurd hw_66 z)⟩
      · refine wp_bind2 (o_X10_notes M0 (nI 1) r_4 (by omega)) (fun M_5 he73 hq73 => ?_)
        obtain ⟨hg_M_5, hn1_73, hn2_73, hn3_73⟩ := hq73
        replace hn1_73 : M_5 0 12 = M0 0 12 + nI 1 := hn1_73
        have := t_lit 1
        replace hn2_73 : M_5 6 (ix (M0 0 12)) = (nI 1048576) * (nI 1) + r_4 := hn2_73
        have := t_lit 1
        replace hn3_73 : ∀ k : Nat, ¬ k = ix (M0 0 12) → M_5 6 k = M0 6 k := hn3_73
        have := t_lit 1
        replace hg_M_5 : ∀ a i, ¬ ((a = 0 ∧ i = 12) ∨ a = 6) → M_5 a i = M0 a i := hg_M_5
        refine wp_bnd (fun M_6 eM_6 => ?_)
        have q7 : (M_6 0 7).toInt = (M0 0 7).toInt + 1 := by rw [eM_6, mset_eq, hg_M_5 0 7 (by first | decide | (rcases hc0 with h | h <;> rw [h] <;> simp; done) | (rcases hb0 with h | h | h <;> rw [h] <;> simp; done) | (simp; done) | omega)]; exact (i_up (by omega)).2
        have hwd := wd_is (a := nI 1) (b := r_4) (by decide) (by omega)
        have qv : M_6 6 (ix (M0 0 12)) = (nI 1048576) * (nI 1) + r_4 := by rw [eM_6, mset_ne (by first | exact nz1 (by decide) | exact nz2 (by decide) | exact nz1 (nzA hc0 (by decide)) | exact nz1 (nzE (by decide)) | exact nz1 (nzB hc0 (by decide)) | exact nz1 (nzC hc0 (by decide)) | exact nz1 (nzD hc0 (by decide)) | exact nz1 (nzF (by decide)) | exact nz1 (nzG (by decide)) | omega)]; exact hn2_73
        have hR6 : RS B M_6 1 := rs_note hR0 (by rw [eM_6, mset_ne (by first | exact nz1 (by decide) | exact nz2 (by decide) | exact nz1 (nzA hc0 (by decide)) | exact nz1 (nzE (by decide)) | exact nz1 (nzB hc0 (by decide)) | exact nz1 (nzC hc0 (by decide)) | exact nz1 (nzD hc0 (by decide)) | exact nz1 (nzF (by decide)) | exact nz1 (nzG (by decide)) | omega)]; exact hn1_73) (by rw [eM_6, mset_ne (by first | exact nz1 (by decide) | exact nz2 (by decide) | exact nz1 (nzA hc0 (by decide)) | exact nz1 (nzE (by decide)) | exact nz1 (nzB hc0 (by decide)) | exact nz1 (nzC hc0 (by decide)) | exact nz1 (nzD hc0 (by decide)) | exact nz1 (nzF (by decide)) | exact nz1 (nzG (by decide)) | omega), hg_M_5 0 13 (by first | decide | (rcases hc0 with h | h <;> rw [h] <;> simp; done) | (rcases hb0 with h | h | h <;> rw [h] <;> simp; done) | (simp; done) | omega)]) (by rw [eM_6, mset_ne (by first | exact nz1 (by decide) | exact nz2 (by decide) | exact nz1 (nzA hc0 (by decide)) | exact nz1 (nzE (by decide)) | exact nz1 (nzB hc0 (by decide)) | exact nz1 (nzC hc0 (by decide)) | exact nz1 (nzD hc0 (by decide)) | exact nz1 (nzF (by decide)) | exact nz1 (nzG (by decide)) | omega), hg_M_5 0 8 (by first | decide | (rcases hc0 with h | h <;> rw [h] <;> simp; done) | (rcases hb0 with h | h | h <;> rw [h] <;> simp; done) | (simp; done) | omega)]) (by omega) (funext (fun i => by rw [eM_6, mset_ne (by first | exact nz1 (by decide) | exact nz2 (by decide) | exact nz1 (nzA hc0 (by decide)) | exact nz1 (nzE (by decide)) | exact nz1 (nzB hc0 (by decide)) | exact nz1 (nzC hc0 (by decide)) | exact nz1 (nzD hc0 (by decide)) | exact nz1 (nzF (by decide)) | exact nz1 (nzG (by decide)) | omega), hg_M_5 7 i (by first | decide | (rcases hc0 with h | h <;> rw [h] <;> simp; done) | (rcases hb0 with h | h | h <;> rw [h] <;> simp; done) | (simp; done) | omega)])) (fun k hk => by rw [eM_6, mset_ne (by first | exact nz1 (by decide) | exact nz2 (by decide) | exact nz1 (nzA hc0 (by decide)) | exact nz1 (nzE (by decide)) | exact nz1 (nzB hc0 (by decide)) | exact nz1 (nzC hc0 (by decide)) | exact nz1 (nzD hc0 (by decide)) | exact nz1 (nzF (by decide)) | exact nz1 (nzG (by decide)) | omega)]; exact hn3_73 k hk) (by rw [qv]; exact hwd.1) (by rw [qv, hwd.2.2.1]; decide) (fun _ => by rw [qv, hwd.2.2.2]; omega)
        have r76 : M_6 7 = M0 7 := funext (fun i => by rw [eM_6, mset_ne (by first | exact nz1 (by decide) | exact nz2 (by decide) | exact nz1 (nzA hc0 (by decide)) | exact nz1 (nzE (by decide)) | exact nz1 (nzB hc0 (by decide)) | exact nz1 (nzC hc0 (by decide)) | exact nz1 (nzD hc0 (by decide)) | exact nz1 (nzF (by decide)) | exact nz1 (nzG (by decide)) | omega), hg_M_5 7 i (by first | decide | (rcases hc0 with h | h <;> rw [h] <;> simp; done) | (rcases hb0 with h | h | h <;> rw [h] <;> simp; done) | (simp; done) | omega)])
        have i136 : M_6 0 13 = M0 0 13 := by rw [eM_6, mset_ne (by first | exact nz1 (by decide) | exact nz2 (by decide) | exact nz1 (nzA hc0 (by decide)) | exact nz1 (nzE (by decide)) | exact nz1 (nzB hc0 (by decide)) | exact nz1 (nzC hc0 (by decide)) | exact nz1 (nzD hc0 (by decide)) | exact nz1 (nzF (by decide)) | exact nz1 (nzG (by decide)) | omega), hg_M_5 0 13 (by first | decide | (rcases hc0 with h | h <;> rw [h] <;> simp; done) | (rcases hb0 with h | h | h <;> rw [h] <;> simp; done) | (simp; done) | omega)]
        have on6 := on_same hO0 (by rw [eM_6, mset_ne (by first | exact nz1 (by decide) | exact nz2 (by decide) | exact nz1 (nzA hc0 (by decide)) | exact nz1 (nzE (by decide)) | exact nz1 (nzB hc0 (by decide)) | exact nz1 (nzC hc0 (by decide)) | exact nz1 (nzD hc0 (by decide)) | exact nz1 (nzF (by decide)) | exact nz1 (nzG (by decide)) | omega), hg_M_5 0 11 (by first | decide | (rcases hc0 with h | h <;> rw [h] <;> simp; done) | (rcases hb0 with h | h | h <;> rw [h] <;> simp; done) | (simp; done) | omega)]) i136 r76
        have s6 := sr_note (M := M0) (a := nI 1) (b := r_4) (by omega) (by decide) (by omega) q7 (by rw [eM_6, mset_ne (by first | exact nz1 (by decide) | exact nz2 (by decide) | exact nz1 (nzA hc0 (by decide)) | exact nz1 (nzE (by decide)) | exact nz1 (nzB hc0 (by decide)) | exact nz1 (nzC hc0 (by decide)) | exact nz1 (nzD hc0 (by decide)) | exact nz1 (nzF (by decide)) | exact nz1 (nzG (by decide)) | omega)]; exact hn1_73) qv (fun k hk => by rw [eM_6, mset_ne (by first | exact nz1 (by decide) | exact nz2 (by decide) | exact nz1 (nzA hc0 (by decide)) | exact nz1 (nzE (by decide)) | exact nz1 (nzB hc0 (by decide)) | exact nz1 (nzC hc0 (by decide)) | exact nz1 (nzD hc0 (by decide)) | exact nz1 (nzF (by decide)) | exact nz1 (nzG (by decide)) | omega)]; exact hn3_73 k hk)
        rw [nI1, fwd_e, hix_51, hq_48] at s6
        have C6 : DE T (ix (B 0 13)) M0 = DC T (ix (B 0 13)) M_6 := by
          unfold DC
          rw [r76, i136, on6.2, s6]
          exact denE_c en (by omega) (by show 0 ≤ (M0 0 7).toInt; omega) (facD_l h20 (dgi_0 hk_21 c24) (show ¬ fct (T (M0 0 7).toInt) = -1 by rw [← hq_48, ← hix_51]; exact c57))
        exact wp_some ⟨b01_1, (fun a i q0 => ((congrFun (congrFun eM_6 a) i).trans ((mset_ne (fun h9 => q0 (Or.inl h9))).trans ((hg_M_5 a i (fun z8 => q0 ((fun z9 => Or.elim z9 (fun h9 => Or.inr (Or.inr (Or.inr (Or.inr (Or.inl h9))))) (fun h9 => Or.inr (Or.inr (Or.inr (Or.inr (Or.inr (Or.inr (Or.inl h9)))))))) z8))).trans ((hf_M0 a i (fun z8 => q0 ((fun z9 => Or.elim z9 (fun h9 => Or.inl h9) (fun z9 => Or.elim z9 (fun h9 => Or.inr (Or.inl h9)) (fun z9 => Or.elim z9 (fun h9 => Or.inr (Or.inr (Or.inr (Or.inl h9)))) (fun z9 => Or.elim z9 (fun h9 => Or.inr (Or.inr (Or.inr (Or.inr (Or.inr (Or.inl h9)))))) (fun h9 => Or.inr (Or.inr (Or.inr (Or.inr (Or.inr (Or.inr (Or.inr (h9)))))))))))) z8))).trans rfl))))), (fun _ => by show RS B M_6 1 ∧ (M 0 7).toInt < (M_6 0 7).toInt; exact ⟨hR6, by omega⟩), (by show GoP (DE T (ix (B 0 13)) M) (DC T (ix (B 0 13)) M_6) (nI 1).toInt (M_6 0 9).toInt; exact ⟨fun z => absurd z ne1, fun _ => by rw [hE0]; exact C6⟩), (fun _ => ⟨on6.1, by show Dsc (M_6 7) _ (ix (M_6 0 13)); rw [r76, i136]; exact hD0⟩)⟩
    · refine wp_cb2 (o6_X10_readsNumber M0 T hT0 (pm_hp hR0.1) (dgi_1 hk_21 c24)) (fun r_9 M_10 he28 hq28 => ?_)
      obtain ⟨hz_r_9, hg_M_10, hp_28, hn_28, hs_28, hN_28⟩ := hq28
      replace hp_28 : (M0 0 7).toInt ≤ (M_10 0 7).toInt ∧ (M_10 0 7).toInt ≤ (M0 0 8).toInt := hp_28
      replace hn_28 : ¬ r_9.toInt = 0 → 0 ≤ (M_10 0 10).toInt ∧ (M_10 0 10).toInt ≤ 99999 := hn_28
      replace hs_28 : ¬ r_9.toInt = 0 → ∀ d, f_X10_isDigit M0 = some d → ¬ d.toInt = 0 → (M0 0 7).toInt < (M_10 0 7).toInt := hs_28
      replace hN_28 : NumQ (numS T (M0 0 7).toInt 5) r_9.toInt (M_10 0 9).toInt (M_10 0 7).toInt (M_10 0 10).toInt (M0 0 7).toInt (M0 0 8).toInt := hN_28
      replace hg_M_10 : ∀ a i, ¬ ((a = 0 ∧ i = 7) ∨ (a = 0 ∧ i = 9) ∨ (a = 0 ∧ i = 10)) → M_10 a i = M0 a i := hg_M_10
      refine wp_ite (fun c31 => ?_) (fun c31 => ?_)
      · have F10 : DE T (ix (B 0 13)) M0 = .inl (M_10 0 9).toInt := denE_f en (by omega) (by show 0 ≤ (M0 0 7).toInt; omega) (by
          rw [facD_n h20 (dgi_1 hk_21 c24)]
          unfold numC
          rw [show numS T (sR M0).1 5 = _ from numQ_f hN_28 c31])
        exact wp_some ⟨b01_0, (fun a i q0 => ((hg_M_10 a i (fun z8 => q0 ((fun z9 => Or.elim z9 (fun h9 => Or.inl h9) (fun z9 => Or.elim z9 (fun h9 => Or.inr (Or.inl h9)) (fun h9 => Or.inr (Or.inr (Or.inl h9))))) z8))).trans ((hf_M0 a i (fun z8 => q0 ((fun z9 => Or.elim z9 (fun h9 => Or.inl h9) (fun z9 => Or.elim z9 (fun h9 => Or.inr (Or.inl h9)) (fun z9 => Or.elim z9 (fun h9 => Or.inr (Or.inr (Or.inr (Or.inl h9)))) (fun z9 => Or.elim z9 (fun h9 => Or.inr (Or.inr (Or.inr (Or.inr (Or.inr (Or.inl h9)))))) (fun h9 => Or.inr (Or.inr (Or.inr (Or.inr (Or.inr (Or.inr (Or.inr (h9)))))))))))) z8))).trans rfl))), (fun z => absurd nI0 z), (by show GoP (DE T (ix (B 0 13)) M) (DC T (ix (B 0 13)) M_10) (nI 0).toInt (M_10 0 9).toInt; exact ⟨fun _ => by rw [hE0]; exact F10, fun z => absurd nI0 z⟩), (fun z => absurd nI0 z)⟩
      · refine wp_bind2 (o_X10_notes M_10 (nI 0) (M_10 0 10) (by rw [hg_M_10 0 12 (by first | decide | (rcases hc0 with h | h <;> rw [h] <;> simp; done) | (rcases hb0 with h | h | h <;> rw [h] <;> simp; done) | (simp; done) | omega)]; omega)) (fun M_11 he42 hq42 => ?_)
        obtain ⟨hg_M_11, hn1_42, hn2_42, hn3_42⟩ := hq42
        replace hn1_42 : M_11 0 12 = M_10 0 12 + nI 1 := hn1_42
        have := t_lit 0
        replace hn2_42 : M_11 6 (ix (M_10 0 12)) = (nI 1048576) * (nI 0) + (M_10 0 10) := hn2_42
        have := t_lit 0
        replace hn3_42 : ∀ k : Nat, ¬ k = ix (M_10 0 12) → M_11 6 k = M_10 6 k := hn3_42
        have := t_lit 0
        replace hg_M_11 : ∀ a i, ¬ ((a = 0 ∧ i = 12) ∨ a = 6) → M_11 a i = M_10 a i := hg_M_11
        have hpl := hs_28 c31 r_2 he21 c24
        have hnn := hn_28 c31
        have q7 : (M_11 0 7).toInt = (M_10 0 7).toInt := congrArg Int32.toInt (hg_M_11 0 7 (by first | decide | (rcases hc0 with h | h <;> rw [h] <;> simp; done) | (rcases hb0 with h | h | h <;> rw [h] <;> simp; done) | (simp; done) | omega))
        have a12 : M_10 0 12 = M0 0 12 := hg_M_10 0 12 (by first | decide | (rcases hc0 with h | h <;> rw [h] <;> simp; done) | (rcases hb0 with h | h | h <;> rw [h] <;> simp; done) | (simp; done) | omega)
        have hwd := wd_is (a := nI 0) (b := M_10 0 10) (by decide) (by omega)
        rw [a12] at hn1_42 hn2_42 hn3_42
        have hR11 : RS B M_11 1 := rs_note hR0 hn1_42 (by rw [hg_M_11 0 13 (by first | decide | (rcases hc0 with h | h <;> rw [h] <;> simp; done) | (rcases hb0 with h | h | h <;> rw [h] <;> simp; done) | (simp; done) | omega), hg_M_10 0 13 (by first | decide | (rcases hc0 with h | h <;> rw [h] <;> simp; done) | (rcases hb0 with h | h | h <;> rw [h] <;> simp; done) | (simp; done) | omega)]) (by rw [hg_M_11 0 8 (by first | decide | (rcases hc0 with h | h <;> rw [h] <;> simp; done) | (rcases hb0 with h | h | h <;> rw [h] <;> simp; done) | (simp; done) | omega), hg_M_10 0 8 (by first | decide | (rcases hc0 with h | h <;> rw [h] <;> simp; done) | (rcases hb0 with h | h | h <;> rw [h] <;> simp; done) | (simp; done) | omega)]) (by omega) (funext (fun i => by rw [hg_M_11 7 i (by first | decide | (rcases hc0 with h | h <;> rw [h] <;> simp; done) | (rcases hb0 with h | h | h <;> rw [h] <;> simp; done) | (simp; done) | omega), hg_M_10 7 i (by first | decide | (rcases hc0 with h | h <;> rw [h] <;> simp; done) | (rcases hb0 with h | h | h <;> rw [h] <;> simp; done) | (simp; done) | omega)])) (fun k hk => by rw [hn3_42 k hk, hg_M_10 6 k (by first | decide | (rcases hc0 with h | h <;> rw [h] <;> simp; done) | (rcases hb0 with h | h | h <;> rw [h] <;> simp; done) | (simp; done) | omega)]) (by rw [hn2_42]; exact hwd.1) (by rw [hn2_42, hwd.2.2.1]; decide) (fun z => absurd z (by rw [hn2_42, hwd.2.2.1]; decide))
        have nv := numQ_v hN_28 c31
        have r711 : M_11 7 = M0 7 := funext (fun i => by rw [hg_M_11 7 i (by first | decide | (rcases hc0 with h | h <;> rw [h] <;> simp; done) | (rcases hb0 with h | h | h <;> rw [h] <;> simp; done) | (simp; done) | omega), hg_M_10 7 i (by first | decide | (rcases hc0 with h | h <;> rw [h] <;> simp; done) | (rcases hb0 with h | h | h <;> rw [h] <;> simp; done) | (simp; done) | omega)])
        have i1311 : M_11 0 13 = M0 0 13 := by rw [hg_M_11 0 13 (by first | decide | (rcases hc0 with h | h <;> rw [h] <;> simp; done) | (rcases hb0 with h | h | h <;> rw [h] <;> simp; done) | (simp; done) | omega), hg_M_10 0 13 (by first | decide | (rcases hc0 with h | h <;> rw [h] <;> simp; done) | (rcases hb0 with h | h | h <;> rw [h] <;> simp; done) | (simp; done) | omega)]
        have on11 := on_same hO0 (by rw [hg_M_11 0 11 (by first | decide | (rcases hc0 with h | h <;> rw [h] <;> simp; done) | (rcases hb0 with h | h | h <;> rw [h] <;> simp; done) | (simp; done) | omega), hg_M_10 0 11 (by first | decide | (rcases hc0 with h | h <;> rw [h] <;> simp; done) | (rcases hb0 with h | h | h <;> rw [h] <;> simp; done) | (simp; done) | omega)]) i1311 r711
        have s11 := sr_note (M := M0) (a := nI 0) (b := M_10 0 10) (by omega) (by decide) (by omega) q7 hn1_42 hn2_42 (fun k hk => by rw [hn3_42 k hk, hg_M_10 6 k (by first | decide | (rcases hc0 with h | h <;> rw [h] <;> simp; done) | (rcases hb0 with h | h | h <;> rw [h] <;> simp; done) | (simp; done) | omega)])
        rw [nI0, fwd_e] at s11
        have C11 : DE T (ix (B 0 13)) M0 = DC T (ix (B 0 13)) M_11 := by
          unfold DC
          rw [r711, i1311, on11.2, s11]
          exact denE_c en (by omega) (by show 0 ≤ (M0 0 7).toInt; omega) (by
            rw [facD_n h20 (dgi_1 hk_21 c24)]
            unfold numC
            rw [show numS T (sR M0).1 5 = _ from nv.1])
        exact wp_some ⟨b01_1, (fun a i q0 => ((hg_M_11 a i (fun z8 => q0 ((fun z9 => Or.elim z9 (fun h9 => Or.inr (Or.inr (Or.inr (Or.inr (Or.inl h9))))) (fun h9 => Or.inr (Or.inr (Or.inr (Or.inr (Or.inr (Or.inr (Or.inl h9)))))))) z8))).trans ((hg_M_10 a i (fun z8 => q0 ((fun z9 => Or.elim z9 (fun h9 => Or.inl h9) (fun z9 => Or.elim z9 (fun h9 => Or.inr (Or.inl h9)) (fun h9 => Or.inr (Or.inr (Or.inl h9))))) z8))).trans ((hf_M0 a i (fun z8 => q0 ((fun z9 => Or.elim z9 (fun h9 => Or.inl h9) (fun z9 => Or.elim z9 (fun h9 => Or.inr (Or.inl h9)) (fun z9 => Or.elim z9 (fun h9 => Or.inr (Or.inr (Or.inr (Or.inl h9)))) (fun z9 => Or.elim z9 (fun h9 => Or.inr (Or.inr (Or.inr (Or.inr (Or.inr (Or.inl h9)))))) (fun h9 => Or.inr (Or.inr (Or.inr (Or.inr (Or.inr (Or.inr (Or.inr (h9)))))))))))) z8))).trans rfl)))), (fun _ => by show RS B M_11 1 ∧ (M 0 7).toInt < (M_11 0 7).toInt; exact ⟨hR11, by omega⟩), (by show GoP (DE T (ix (B 0 13)) M) (DC T (ix (B 0 13)) M_11) (nI 1).toInt (M_11 0 9).toInt; exact ⟨fun z => absurd z ne1, fun _ => by rw [hE0]; exact C11⟩), (fun _ => ⟨on11.1, by show Dsc (M_11 7) _ (ix (M_11 0 13)); rw [r711, i1311]; exact hD0⟩)⟩
  refine wp_ite (fun c6 => ?_) (fun c6 => ?_)
  · refine wp_cb2 (o6_X10_opens M0 (nI 14) hR0.1) (fun r_12 M_13 he12 hq12 => ?_)
    obtain ⟨hz_r_12, hg_M_13, ho_12, hof_12, hos_12⟩ := hq12
    replace ho_12 : ¬ r_12.toInt = 0 → M_13 0 13 = M0 0 13 + nI 1 ∧ M_13 7 = upd (M0 7) (ix (M0 0 13)) ((nI 1048576) * (nI 14)) ∧ M_13 0 7 = M0 0 7 + nI 1 := ho_12
    have := t_lit 14
    replace hof_12 : r_12.toInt = 0 → (M0 0 11).toInt = 6 ∧ (M_13 0 9).toInt = -5000 - (M0 0 7).toInt := hof_12
    have := t_lit 14
    replace hos_12 : ¬ r_12.toInt = 0 → ¬ (M0 0 11).toInt = 6 ∧ M_13 0 11 = M0 0 11 + nI 1 := hos_12
    have := t_lit 14
    replace hg_M_13 : ∀ a i, ¬ ((a = 0 ∧ i = 7) ∨ (a = 0 ∧ i = 9) ∨ (a = 0 ∧ i = 11) ∨ (a = 0 ∧ i = 13) ∨ a = 7) → M_13 a i = M0 a i := hg_M_13
    refine wp_ite (fun c15 => ?_) (fun c15 => ?_)
    · have ho5 := hof_12 c15
      have F5 : DE T (ix (B 0 13)) M0 = .inl (M_13 0 9).toInt := by
        rw [ho5.2]
        exact denE_f en (by omega) (by show 0 ≤ (M0 0 7).toInt; omega) (facD_5 (show T (M0 0 7).toInt = 91 by rw [← hq_1]; exact c6) (by show (6 - (M0 0 11).toInt).toNat = 0; omega))
      exact wp_some ⟨b01_0, (fun a i q0 => ((hg_M_13 a i (fun z8 => q0 ((fun z9 => Or.elim z9 (fun h9 => Or.inl h9) (fun z9 => Or.elim z9 (fun h9 => Or.inr (Or.inl h9)) (fun z9 => Or.elim z9 (fun h9 => Or.inr (Or.inr (Or.inr (Or.inl h9)))) (fun z9 => Or.elim z9 (fun h9 => Or.inr (Or.inr (Or.inr (Or.inr (Or.inr (Or.inl h9)))))) (fun h9 => Or.inr (Or.inr (Or.inr (Or.inr (Or.inr (Or.inr (Or.inr (h9)))))))))))) z8))).trans ((hf_M0 a i (fun z8 => q0 ((fun z9 => Or.elim z9 (fun h9 => Or.inl h9) (fun z9 => Or.elim z9 (fun h9 => Or.inr (Or.inl h9)) (fun z9 => Or.elim z9 (fun h9 => Or.inr (Or.inr (Or.inr (Or.inl h9)))) (fun z9 => Or.elim z9 (fun h9 => Or.inr (Or.inr (Or.inr (Or.inr (Or.inr (Or.inl h9)))))) (fun h9 => Or.inr (Or.inr (Or.inr (Or.inr (Or.inr (Or.inr (Or.inr (h9)))))))))))) z8))).trans rfl))), (fun z => absurd nI0 z), (by show GoP (DE T (ix (B 0 13)) M) (DC T (ix (B 0 13)) M_13) (nI 0).toInt (M_13 0 9).toInt; exact ⟨fun _ => by rw [hE0]; exact F5, fun z => absurd nI0 z⟩), (fun z => absurd nI0 z)⟩
    · have ho := ho_12 c15
      have hwd := wd_0 (a := nI 14) (by decide)
      have q7 : (M_13 0 7).toInt = (M0 0 7).toInt + 1 := by rw [ho.2.2]; exact (i_up (by omega)).2
      have q8 := congrArg Int32.toInt (hg_M_13 0 8 (by first | decide | (rcases hc0 with h | h <;> rw [h] <;> simp; done) | (rcases hb0 with h | h | h <;> rw [h] <;> simp; done) | (simp; done) | omega))
      have hR13 : RS B M_13 0 := rs_open hR0 (by omega) ho.1 ho.2.1 ho.2.2 (hg_M_13 0 12 (by first | decide | (rcases hc0 with h | h <;> rw [h] <;> simp; done) | (rcases hb0 with h | h | h <;> rw [h] <;> simp; done) | (simp; done) | omega)) (hg_M_13 0 8 (by first | decide | (rcases hc0 with h | h <;> rw [h] <;> simp; done) | (rcases hb0 with h | h | h <;> rw [h] <;> simp; done) | (simp; done) | omega)) (funext (fun i => hg_M_13 6 i (by first | decide | (rcases hc0 with h | h <;> rw [h] <;> simp; done) | (rcases hb0 with h | h | h <;> rw [h] <;> simp; done) | (simp; done) | omega))) ⟨hwd.1, hwd.2.1⟩ (by rw [hwd.2.2.1]; decide)
      have hos := hos_12 c15
      have k14 : kd ((nI 1048576) * (nI 14)) = 14 := by rw [hwd.2.2.1]; exact t_lit 14
      have on13 := on_open hO0 (by omega) hos.1 hos.2 ho.1 ho.2.1 (Or.inr (Or.inr k14))
      have s13 := sr_fwd (M := M0) q7 (hg_M_13 0 12 (by first | decide | (rcases hc0 with h | h <;> rw [h] <;> simp; done) | (rcases hb0 with h | h | h <;> rw [h] <;> simp; done) | (simp; done) | omega)) (fun j => hg_M_13 6 j (by first | decide | (rcases hc0 with h | h <;> rw [h] <;> simp; done) | (rcases hb0 with h | h | h <;> rw [h] <;> simp; done) | (simp; done) | omega))
      have w13 : ix (M_13 0 13) = ix (M0 0 13) + 1 := by
        rw [ho.1]
        exact (i_up (by omega)).1
      have E13 : DE T (ix (B 0 13)) M0 = DE T (ix (B 0 13)) M_13 := by
        unfold DE
        rw [s13, w13, on13.2.1, ho.2.1]
        exact denE_o en (by omega) (by show 0 ≤ (M0 0 7).toInt; omega) hbw (show T (M0 0 7).toInt = 91 by rw [← hq_1]; exact c6) on13.2.2 k14
      exact ih0 M_13 ⟨(fun a i q0 => ((hg_M_13 a i (fun z8 => q0 ((fun z9 => Or.elim z9 (fun h9 => Or.inl h9) (fun z9 => Or.elim z9 (fun h9 => Or.inr (Or.inl h9)) (fun z9 => Or.elim z9 (fun h9 => Or.inr (Or.inr (Or.inl h9))) (fun z9 => Or.elim z9 (fun h9 => Or.inr (Or.inr (Or.inr (Or.inl h9)))) (fun h9 => Or.inr (Or.inr (Or.inr (Or.inr (h9))))))))) z8))).trans ((hf_M0 a i (fun z8 => q0 ((fun z9 => Or.elim z9 (fun h9 => Or.inl h9) (fun z9 => Or.elim z9 (fun h9 => Or.inr (Or.inl h9)) (fun z9 => Or.elim z9 (fun h9 => Or.inr (Or.inr (Or.inl h9))) (fun z9 => Or.elim z9 (fun h9 => Or.inr (Or.inr (Or.inr (Or.inl h9)))) (fun h9 => Or.inr (Or.inr (Or.inr (Or.inr (h9))))))))) z8))).trans rfl))), hR13, (by omega), (hE0.trans E13), on13.1, (by rw [w13, ho.2.1]; exact dsc_u hD0 k14)⟩ (by omega)
  · exact j20 (by rw [← hq_1]; exact c6)
set_option maxHeartbeats 8000000 in
theorem o6_X10_readsSum (M : Mem) (T : Int → Int) (hT : TXr M = T) (hP : PMm M) (hB : ix (M 0 13) = 0 ∨ 6 < kd (M 7 (ix (M 0 13) - 1))) (hO : On M) : Wp (f_X10_readsSum M) (fun q => (q.1 = 0 ∨ q.1 = 1) ∧ (∀ a i, ¬ ((a = 0 ∧ i = 7) ∨ (a = 0 ∧ i = 9) ∨ (a = 0 ∧ i = 10) ∨ (a = 0 ∧ i = 11) ∨ (a = 0 ∧ i = 12) ∨ (a = 0 ∧ i = 13) ∨ a = 6 ∨ a = 7) → q.2 a i = M a i) ∧ (¬ q.1.toInt = 0 → RS M q.2 1 ∧ ix (q.2 0 13) = ix (M 0 13) ∧ (M 0 7).toInt < (q.2 0 7).toInt) ∧ (LwP (sumD T (dO M) (sR M)) q.1.toInt (q.2 0 9).toInt (sR q.2)) ∧ (¬ q.1.toInt = 0 → On q.2)) := by
  obtain ⟨B, eB⟩ : ∃ B : Mem, B = M := ⟨M, rfl⟩
  have hR : RS B M 0 := by rw [eB]; exact rs_begin hP hB
  have hx := pm_ix hP
  have hb := pm_bd hP
  have e0 : sumD T (dO M) (sR M) = DE T (ix (B 0 13)) M := by
    rw [eB]
    exact denE_b.symm
  refine wp_bnd (fun x_1 ex_1 => ?_)
  have hv_x_1 := congrArg Int32.toInt ex_1
  refine wp_cb2 (o6_X10_readsFactor M T hT B hR hO (by rw [eB]; exact dsc_0 _ _)) (fun r_2 M_3 he6 hq6 => ?_)
  obtain ⟨hz_r_2, hg_M_3, hR_6, hq_6, hX_6⟩ := hq6
  replace hR_6 : ¬ r_2.toInt = 0 → RS B M_3 1 ∧ (M 0 7).toInt < (M_3 0 7).toInt := hR_6
  replace hq_6 : GoP (DE T (ix (B 0 13)) M) (DC T (ix (B 0 13)) M_3) r_2.toInt (M_3 0 9).toInt := hq_6
  replace hX_6 : ¬ r_2.toInt = 0 → On M_3 ∧ Dsc (M_3 7) (ix (B 0 13)) (ix (M_3 0 13)) := hX_6
  replace hg_M_3 : ∀ a i, ¬ ((a = 0 ∧ i = 7) ∨ (a = 0 ∧ i = 9) ∨ (a = 0 ∧ i = 10) ∨ (a = 0 ∧ i = 11) ∨ (a = 0 ∧ i = 12) ∨ (a = 0 ∧ i = 13) ∨ a = 6 ∨ a = 7) → M_3 a i = M a i := hg_M_3
  refine wp_ite (fun c9 => ?_) (fun c9 => ?_)
  · exact wp_some ⟨b01_0, (fun a i q0 => ((hg_M_3 a i (fun z8 => q0 ((fun z9 => Or.elim z9 (fun h9 => Or.inl h9) (fun z9 => Or.elim z9 (fun h9 => Or.inr (Or.inl h9)) (fun z9 => Or.elim z9 (fun h9 => Or.inr (Or.inr (Or.inl h9))) (fun z9 => Or.elim z9 (fun h9 => Or.inr (Or.inr (Or.inr (Or.inl h9)))) (fun z9 => Or.elim z9 (fun h9 => Or.inr (Or.inr (Or.inr (Or.inr (Or.inl h9))))) (fun z9 => Or.elim z9 (fun h9 => Or.inr (Or.inr (Or.inr (Or.inr (Or.inr (Or.inl h9)))))) (fun z9 => Or.elim z9 (fun h9 => Or.inr (Or.inr (Or.inr (Or.inr (Or.inr (Or.inr (Or.inl h9))))))) (fun h9 => Or.inr (Or.inr (Or.inr (Or.inr (Or.inr (Or.inr (Or.inr (h9))))))))))))))) z8))).trans rfl)), (fun z => absurd nI0 z), (by show LwP (sumD T (dO M) (sR M)) (nI 0).toInt (M_3 0 9).toInt (sR M_3); rw [e0, hq_6.1 c9]; exact ⟨nI0, rfl⟩), (fun z => absurd nI0 z)⟩
  · refine wp_lp1 (fun M14 => (∀ a i, ¬ ((a = 0 ∧ i = 7) ∨ (a = 0 ∧ i = 9) ∨ (a = 0 ∧ i = 10) ∨ (a = 0 ∧ i = 11) ∨ (a = 0 ∧ i = 12) ∨ (a = 0 ∧ i = 13) ∨ a = 6 ∨ a = 7) → M14 a i = M_3 a i) ∧ (RS B M14 1) ∧ ((M 0 7).toInt < (M14 0 7).toInt) ∧ (sumD T (dO M) (sR M) = DC T (ix (B 0 13)) M14) ∧ (On M14) ∧ (Dsc (M14 7) (ix (B 0 13)) (ix (M14 0 13)))) (fun M14 => ((M14 0 8).toInt - (M14 0 7).toInt).toNat) (fun ag14 M14 hI14 ih14 => ?_) FU M_3 ⟨(fun _ _ _ => rfl), (hR_6 c9).1, (hR_6 c9).2, (e0.trans (hq_6.2 c9)), (hX_6 c9).1, (hX_6 c9).2⟩ (fu_lt ((by have h9 := pm_bd (hR_6 c9).1.1; omega)))
    obtain ⟨hf_M14, hR14, hp14, hC14, hO14, hD14⟩ := hI14
    have hb14 := pm_bd hR14.1
    have hx14 := pm_ix hR14.1
    have ew : ix x_1 = ix (B 0 13) := by rw [ex_1, eB]
    have hT14 : TXr M14 = T := (txr_fr (by rw [hf_M14 0 8 (by first | decide | (rcases hc0 with h | h <;> rw [h] <;> simp; done) | (rcases hb0 with h | h | h <;> rw [h] <;> simp; done) | (simp; done) | omega), hg_M_3 0 8 (by first | decide | (rcases hc0 with h | h <;> rw [h] <;> simp; done) | (rcases hb0 with h | h | h <;> rw [h] <;> simp; done) | (simp; done) | omega)]) (fun j => by rw [hf_M14 5 j (by first | decide | (rcases hc0 with h | h <;> rw [h] <;> simp; done) | (rcases hb0 with h | h | h <;> rw [h] <;> simp; done) | (simp; done) | omega), hg_M_3 5 j (by first | decide | (rcases hc0 with h | h <;> rw [h] <;> simp; done) | (rcases hb0 with h | h | h <;> rw [h] <;> simp; done) | (simp; done) | omega)])).trans hT
    have b1 := tsW_b (M14 7) (ix (B 0 13)) (ix (M14 0 13))
    have b2 := ssW_b (M14 7) (ix (B 0 13)) (tsW (M14 7) (ix (B 0 13)) (ix (M14 0 13)))
    have hbw := hR14.2.1.2.1
    refine wp_bind2 (o5_X10_here M14 T hT14 (pm_hp hR14.1)) (fun r_4 he15 hq15 => ?_)
    obtain ⟨hh_15, hq_15⟩ := hq15
    replace hh_15 : (r_4.toInt = -1 ∧ (M14 0 7).toInt = (M14 0 8).toInt) ∨ (0 ≤ r_4.toInt ∧ r_4.toInt ≤ 255 ∧ (M14 0 7).toInt < (M14 0 8).toInt) := hh_15
    replace hq_15 : r_4.toInt = T (M14 0 7).toInt := hq_15
    refine wp_bind2 (o6_X10_sumSign M14 r_4) (fun r_5 he18 hq18 => ?_)
    obtain ⟨hr_18, hsg_18⟩ := hq18
    replace hr_18 : r_5.toInt = -1 ∨ (2 ≤ r_5.toInt ∧ r_5.toInt ≤ 6 ∧ 0 ≤ r_4.toInt) := hr_18
    replace hsg_18 : SgP r_5.toInt r_4.toInt := hsg_18
    refine wp_ite (fun c24 => ?_) (fun c24 => ?_)
    · have sg0 : sgn (T (M14 0 7).toInt) = 0 := by
        rw [← hq_15]
        exact sgp_0 hsg_18 c24
      refine wp_bind2 (o5_X10_here M14 T hT14 (pm_hp hR14.1)) (fun r_6 he84 hq84 => ?_)
      obtain ⟨hh_84, hq_84⟩ := hq84
      replace hh_84 : (r_6.toInt = -1 ∧ (M14 0 7).toInt = (M14 0 8).toInt) ∨ (0 ≤ r_6.toInt ∧ r_6.toInt ≤ 255 ∧ (M14 0 7).toInt < (M14 0 8).toInt) := hh_84
      replace hq_84 : r_6.toInt = T (M14 0 7).toInt := hq_84
      have j138 : (¬ T (M14 0 7).toInt = 93 ∨ ∀ t : Nat, (ix (B 0 13)) ≤ t → t < ix (M14 0 13) → ¬ kd (M14 7 t) = 14) → Wp (f_X10_readsSum_L138 x_1 M14) (fun q => (q.1 = 0 ∨ q.1 = 1) ∧ (∀ a i, ¬ ((a = 0 ∧ i = 7) ∨ (a = 0 ∧ i = 9) ∨ (a = 0 ∧ i = 10) ∨ (a = 0 ∧ i = 11) ∨ (a = 0 ∧ i = 12) ∨ (a = 0 ∧ i = 13) ∨ a = 6 ∨ a = 7) → q.2 a i = M a i) ∧ (¬ q.1.toInt = 0 → RS M q.2 1 ∧ ix (q.2 0 13) = ix (M 0 13) ∧ (M 0 7).toInt < (q.2 0 7).toInt) ∧ (LwP (sumD T (dO M) (sR M)) q.1.toInt (q.2 0 9).toInt (sR q.2)) ∧ (¬ q.1.toInt = 0 → On q.2)) := by
        intro h138
        unfold f_X10_readsSum_L138
        refine wp_bind2 (o_X10_hasOpenSum M14 x_1 hR14.1 (by omega)) (fun r_7 he140 hq140 => ?_)
        obtain ⟨hz_r_7, hr_140⟩ := hq140
        replace hr_140 : (r_7.toInt = 0 → ∀ t : Nat, ix x_1 ≤ t → t < ix (M14 0 13) → ¬ kd (M14 7 t) = 14) ∧ (¬ r_7.toInt = 0 → ∃ t : Nat, ix x_1 ≤ t ∧ t < ix (M14 0 13) ∧ kd (M14 7 t) = 14) := hr_140
        refine wp_ite (fun c143 => ?_) (fun c143 => ?_)
        · refine wp_bind2 (o6_X10_closesSums M14 (nI 1) B hR14 hO14 hD14) (fun M_8 he158 hq158 => ?_)
          obtain ⟨hg_M_8, hR_158, hw_158, ht_158, hc_158, hOn_158⟩ := hq158
          replace hR_158 : RS B M_8 1 := hR_158
          have := t_lit 1
          replace hw_158 : ix (M_8 0 13) ≤ ix (M14 0 13) ∧ ∀ t : Nat, ix (M_8 0 13) ≤ t → t < ix (M14 0 13) → 2 ≤ kd (M14 7 t) ∧ kd (M14 7 t) ≤ 6 := hw_158
          have := t_lit 1
          replace ht_158 : ¬ (nI 1).toInt = 0 → ix (M_8 0 13) = 0 ∨ ¬ (2 ≤ kd (M14 7 (ix (M_8 0 13) - 1)) ∧ kd (M14 7 (ix (M_8 0 13) - 1)) ≤ 6) := ht_158
          have := t_lit 1
          replace hc_158 : (sR M_8, ix (M_8 0 13)) = clS (nI 1).toInt (M14 7) (ix (B 0 13)) (ix (M14 0 13)) (sR M14) := hc_158
          have := t_lit 1
          replace hOn_158 : On M_8 := hOn_158
          have := t_lit 1
          replace hg_M_8 : ∀ a i, ¬ ((a = 0 ∧ i = 12) ∨ (a = 0 ∧ i = 13) ∨ a = 6) → M_8 a i = M14 a i := hg_M_8
          have e87 : M_8 7 = M14 7 := funext (fun i => hg_M_8 7 i (by first | decide | (rcases hc0 with h | h <;> rw [h] <;> simp; done) | (rcases hb0 with h | h | h <;> rw [h] <;> simp; done) | (simp; done) | omega))
          have hend := rs_end hR_158 (fun t h1 h2 => by rw [e87]; exact hr_140.1 c143 t (by omega) (by have := hw_158.1; omega)) (by rw [e87]; exact ht_158 (by decide))
          have hp8 : M_8 0 7 = M14 0 7 := hg_M_8 0 7 (by first | decide | (rcases hc0 with h | h <;> rw [h] <;> simp; done) | (rcases hb0 with h | h | h <;> rw [h] <;> simp; done) | (simp; done) | omega)
          have hnop := dsc_n hD14 (fun t h1 h2 => hr_140.1 c143 t (by omega) h2)
          rw [clS_1 ne1] at hc_158
          have W8 : DC T (ix (B 0 13)) M14 = .inr (sR M_8) := by
            rw [(Prod.mk.inj hc_158).1]
            exact denC_e sg0 hnop
          exact wp_some ⟨b01_1, (fun a i q0 => ((hg_M_8 a i (fun z8 => q0 ((fun z9 => Or.elim z9 (fun h9 => Or.inr (Or.inr (Or.inr (Or.inr (Or.inl h9))))) (fun z9 => Or.elim z9 (fun h9 => Or.inr (Or.inr (Or.inr (Or.inr (Or.inr (Or.inl h9)))))) (fun h9 => Or.inr (Or.inr (Or.inr (Or.inr (Or.inr (Or.inr (Or.inl h9))))))))) z8))).trans ((hf_M14 a i (fun z8 => q0 ((fun z9 => Or.elim z9 (fun h9 => Or.inl h9) (fun z9 => Or.elim z9 (fun h9 => Or.inr (Or.inl h9)) (fun z9 => Or.elim z9 (fun h9 => Or.inr (Or.inr (Or.inl h9))) (fun z9 => Or.elim z9 (fun h9 => Or.inr (Or.inr (Or.inr (Or.inl h9)))) (fun z9 => Or.elim z9 (fun h9 => Or.inr (Or.inr (Or.inr (Or.inr (Or.inl h9))))) (fun z9 => Or.elim z9 (fun h9 => Or.inr (Or.inr (Or.inr (Or.inr (Or.inr (Or.inl h9)))))) (fun z9 => Or.elim z9 (fun h9 => Or.inr (Or.inr (Or.inr (Or.inr (Or.inr (Or.inr (Or.inl h9))))))) (fun h9 => Or.inr (Or.inr (Or.inr (Or.inr (Or.inr (Or.inr (Or.inr (h9))))))))))))))) z8))).trans ((hg_M_3 a i (fun z8 => q0 ((fun z9 => Or.elim z9 (fun h9 => Or.inl h9) (fun z9 => Or.elim z9 (fun h9 => Or.inr (Or.inl h9)) (fun z9 => Or.elim z9 (fun h9 => Or.inr (Or.inr (Or.inl h9))) (fun z9 => Or.elim z9 (fun h9 => Or.inr (Or.inr (Or.inr (Or.inl h9)))) (fun z9 => Or.elim z9 (fun h9 => Or.inr (Or.inr (Or.inr (Or.inr (Or.inl h9))))) (fun z9 => Or.elim z9 (fun h9 => Or.inr (Or.inr (Or.inr (Or.inr (Or.inr (Or.inl h9)))))) (fun z9 => Or.elim z9 (fun h9 => Or.inr (Or.inr (Or.inr (Or.inr (Or.inr (Or.inr (Or.inl h9))))))) (fun h9 => Or.inr (Or.inr (Or.inr (Or.inr (Or.inr (Or.inr (Or.inr (h9))))))))))))))) z8))).trans rfl)))), (fun _ => by show RS M M_8 1 ∧ ix (M_8 0 13) = ix (M 0 13) ∧ (M 0 7).toInt < (M_8 0 7).toInt; rw [hp8]; rw [eB] at hR_158 hend; exact ⟨hR_158, hend, hp14⟩), (by show LwP (sumD T (dO M) (sR M)) (nI 1).toInt (M_8 0 9).toInt (sR M_8); rw [hC14, W8]; exact ⟨ne1, rfl⟩), (fun _ => hOn_158)⟩
        · obtain ⟨t1, u1, u2, u3⟩ := hr_140.2 c143
          clear hr_140
          have hopn := dsc_o (g := M14 7) (b := (ix (B 0 13))) (w := ix (M14 0 13)) (t := t1) (by omega) u2 u3
          have n93 : ¬ T (M14 0 7).toInt = 93 := h138.resolve_right (fun z => z t1 (by omega) u2 u3)
          have W14 : DC T (ix (B 0 13)) M14 = .inl (-1000 - (M14 0 7).toInt) := denC_w sg0 n93 hopn
          refine wp_cb2 (o5_X10_wrongAt M14 (nI 1) (M14 0 7)) (fun r_9 M_10 he152 hq152 => ?_)
          obtain ⟨hz_r_9, hg_M_10, hw_152, hq_152⟩ := hq152
          replace hw_152 : r_9.toInt = 0 := hw_152
          have := t_lit 1
          replace hq_152 : 0 ≤ (nI 1).toInt → (nI 1).toInt ≤ 9 → 0 ≤ (M14 0 7).toInt → (M14 0 7).toInt ≤ 1000 → (M_10 0 9).toInt = -1000 * (nI 1).toInt - (M14 0 7).toInt := hq_152
          have := t_lit 1
          replace hg_M_10 : ∀ a i, ¬ ((a = 0 ∧ i = 9)) → M_10 a i = M14 a i := hg_M_10
          refine wp_gb hz_r_9 ?_
          exact wp_some ⟨hz_r_9, (fun a i q0 => ((hg_M_10 a i (fun h9 => q0 (Or.inr (Or.inl h9)))).trans ((hf_M14 a i (fun z8 => q0 ((fun z9 => Or.elim z9 (fun h9 => Or.inl h9) (fun z9 => Or.elim z9 (fun h9 => Or.inr (Or.inl h9)) (fun z9 => Or.elim z9 (fun h9 => Or.inr (Or.inr (Or.inl h9))) (fun z9 => Or.elim z9 (fun h9 => Or.inr (Or.inr (Or.inr (Or.inl h9)))) (fun z9 => Or.elim z9 (fun h9 => Or.inr (Or.inr (Or.inr (Or.inr (Or.inl h9))))) (fun z9 => Or.elim z9 (fun h9 => Or.inr (Or.inr (Or.inr (Or.inr (Or.inr (Or.inl h9)))))) (fun z9 => Or.elim z9 (fun h9 => Or.inr (Or.inr (Or.inr (Or.inr (Or.inr (Or.inr (Or.inl h9))))))) (fun h9 => Or.inr (Or.inr (Or.inr (Or.inr (Or.inr (Or.inr (Or.inr (h9))))))))))))))) z8))).trans ((hg_M_3 a i (fun z8 => q0 ((fun z9 => Or.elim z9 (fun h9 => Or.inl h9) (fun z9 => Or.elim z9 (fun h9 => Or.inr (Or.inl h9)) (fun z9 => Or.elim z9 (fun h9 => Or.inr (Or.inr (Or.inl h9))) (fun z9 => Or.elim z9 (fun h9 => Or.inr (Or.inr (Or.inr (Or.inl h9)))) (fun z9 => Or.elim z9 (fun h9 => Or.inr (Or.inr (Or.inr (Or.inr (Or.inl h9))))) (fun z9 => Or.elim z9 (fun h9 => Or.inr (Or.inr (Or.inr (Or.inr (Or.inr (Or.inl h9)))))) (fun z9 => Or.elim z9 (fun h9 => Or.inr (Or.inr (Or.inr (Or.inr (Or.inr (Or.inr (Or.inl h9))))))) (fun h9 => Or.inr (Or.inr (Or.inr (Or.inr (Or.inr (Or.inr (Or.inr (h9))))))))))))))) z8))).trans rfl)))), (fun z => absurd hw_152 z), (by show LwP (sumD T (dO M) (sR M)) r_9.toInt (M_10 0 9).toInt (sR M_10); rw [hC14, W14]; exact ⟨hw_152, by rw [hq_152 (by decide) (by decide) (by omega) (by omega)]; have := t_lit 1; omega⟩), (fun z => absurd hw_152 z)⟩
      refine wp_ite (fun c89 => ?_) (fun c89 => ?_)
      · refine wp_bind2 (o_X10_hasOpenSum M14 x_1 hR14.1 (by omega)) (fun r_11 he94 hq94 => ?_)
        obtain ⟨hz_r_11, hr_94⟩ := hq94
        replace hr_94 : (r_11.toInt = 0 → ∀ t : Nat, ix x_1 ≤ t → t < ix (M14 0 13) → ¬ kd (M14 7 t) = 14) ∧ (¬ r_11.toInt = 0 → ∃ t : Nat, ix x_1 ≤ t ∧ t < ix (M14 0 13) ∧ kd (M14 7 t) = 14) := hr_94
        refine wp_ite (fun c97 => ?_) (fun c97 => ?_)
        · exact j138 (Or.inr (fun t h1 h2 => hr_94.1 c97 t (by omega) h2))
        · refine wp_bind2 (o6_X10_closesSums M14 (nI 1) B hR14 hO14 hD14) (fun M_12 he102 hq102 => ?_)
          obtain ⟨hg_M_12, hR_102, hw_102, ht_102, hc_102, hOn_102⟩ := hq102
          replace hR_102 : RS B M_12 1 := hR_102
          have := t_lit 1
          replace hw_102 : ix (M_12 0 13) ≤ ix (M14 0 13) ∧ ∀ t : Nat, ix (M_12 0 13) ≤ t → t < ix (M14 0 13) → 2 ≤ kd (M14 7 t) ∧ kd (M14 7 t) ≤ 6 := hw_102
          have := t_lit 1
          replace ht_102 : ¬ (nI 1).toInt = 0 → ix (M_12 0 13) = 0 ∨ ¬ (2 ≤ kd (M14 7 (ix (M_12 0 13) - 1)) ∧ kd (M14 7 (ix (M_12 0 13) - 1)) ≤ 6) := ht_102
          have := t_lit 1
          replace hc_102 : (sR M_12, ix (M_12 0 13)) = clS (nI 1).toInt (M14 7) (ix (B 0 13)) (ix (M14 0 13)) (sR M14) := hc_102
          have := t_lit 1
          replace hOn_102 : On M_12 := hOn_102
          have := t_lit 1
          replace hg_M_12 : ∀ a i, ¬ ((a = 0 ∧ i = 12) ∨ (a = 0 ∧ i = 13) ∨ a = 6) → M_12 a i = M14 a i := hg_M_12
          have e12 : M_12 7 = M14 7 := funext (fun i => hg_M_12 7 i (by first | decide | (rcases hc0 with h | h <;> rw [h] <;> simp; done) | (rcases hb0 with h | h | h <;> rw [h] <;> simp; done) | (simp; done) | omega))
          obtain ⟨t0, ht1, ht2, ht3⟩ := hr_94.2 c97
          clear hr_94
          have hgt : ix (B 0 13) < ix (M_12 0 13) := by
            have q1 : ¬ ix (M_12 0 13) ≤ t0 := fun z => by have q2 := hw_102.2 t0 z ht2; omega
            omega
          have htop : kd (M_12 7 (ix (M_12 0 13) - 1)) = 14 := rs_top hR_102 hgt (by rw [e12]; exact ht_102 (by decide))
          have hp12 : M_12 0 7 = M14 0 7 := hg_M_12 0 7 (by first | decide | (rcases hc0 with h | h <;> rw [h] <;> simp; done) | (rcases hb0 with h | h | h <;> rw [h] <;> simp; done) | (simp; done) | omega)
          have h812 : M_12 0 8 = M14 0 8 := hg_M_12 0 8 (by first | decide | (rcases hc0 with h | h <;> rw [h] <;> simp; done) | (rcases hb0 with h | h | h <;> rw [h] <;> simp; done) | (simp; done) | omega)
          have hopn := dsc_o (g := M14 7) (b := (ix (B 0 13))) (w := ix (M14 0 13)) (t := t0) (by omega) ht2 ht3
          rw [clS_1 ne1] at hc_102
          obtain ⟨s12, w12⟩ := Prod.mk.inj hc_102
          have hb12 := pm_bd hR_102.1
          have hx12 := pm_ix hR_102.1
          have d12 : dO M_12 = dO M14 := by
            unfold dO
            rw [hg_M_12 0 11 (by first | decide | (rcases hc0 with h | h <;> rw [h] <;> simp; done) | (rcases hb0 with h | h | h <;> rw [h] <;> simp; done) | (simp; done) | omega)]
          refine wp_bnd (fun M_13 eM_13 => ?_)
          refine wp_bnd (fun M_14 eM_14 => ?_)
          refine wp_bnd (fun M_15 eM_15 => ?_)
          have hps := pop_is eM_13 eM_14 eM_15
          have hR15 : RS B M_15 1 := rs_pop hR_102 hgt htop (by rw [hp12, h812]; omega) hps.1 hps.2.1 hps.2.2.1 hps.2.2.2.1 hps.2.2.2.2.1 hps.2.2.2.2.2
          have hq15 : (M_15 0 7).toInt = (M14 0 7).toInt + 1 := by rw [hps.2.1, hp12]; exact (i_up (by omega)).2
          have h815 : (M_15 0 8).toInt = (M14 0 8).toInt := by rw [hps.2.2.2.1, h812]
          have s15 : sR M_15 = fwd (opt (opt (sR M14) (tsK (M14 7) (ix (B 0 13)) (ix (M14 0 13)))) (ssK (M14 7) (ix (B 0 13)) (tsW (M14 7) (ix (B 0 13)) (ix (M14 0 13))))) ((sR M14).1 + 1) := by
            rw [← s12]
            exact sr_fwd hq15 hps.2.2.1 (fun j => by rw [hps.2.2.2.2.2])
          have on15 := on_popo hOn_102 (by omega) (by rw [eM_15, mset_ne (by first | exact nz1 (by decide) | exact nz2 (by decide) | exact nz1 (nzA hc0 (by decide)) | exact nz1 (nzE (by decide)) | exact nz1 (nzB hc0 (by decide)) | exact nz1 (nzC hc0 (by decide)) | exact nz1 (nzD hc0 (by decide)) | exact nz1 (nzF (by decide)) | exact nz1 (nzG (by decide)) | omega), eM_14, mset_eq, eM_13, mset_ne (by first | exact nz1 (by decide) | exact nz2 (by decide) | exact nz1 (nzA hc0 (by decide)) | exact nz1 (nzE (by decide)) | exact nz1 (nzB hc0 (by decide)) | exact nz1 (nzC hc0 (by decide)) | exact nz1 (nzD hc0 (by decide)) | exact nz1 (nzF (by decide)) | exact nz1 (nzG (by decide)) | omega)]) hps.1 hps.2.2.2.2.1 (Or.inr (Or.inr htop))
          have w15 : ix (M_15 0 13) = (ssW (M14 7) (ix (B 0 13)) (tsW (M14 7) (ix (B 0 13)) (ix (M14 0 13)))) - 1 := by
            rw [hps.1, ← w12]
            exact i_dn1 (by omega)
          have C15 : DC T (ix (B 0 13)) M14 = DC T (ix (B 0 13)) M_15 := by
            unfold DC
            rw [s15, w15, on15.2, d12, hps.2.2.2.2.1, e12]
            exact denC_c sg0 (show T (M14 0 7).toInt = 93 by rw [← hq_84]; exact c89) hopn
          exact ih14 M_15 ⟨(fun a i q0 => ((congrFun (congrFun eM_15 a) i).trans ((mset_ne (fun h9 => q0 (Or.inl h9))).trans ((congrFun (congrFun eM_14 a) i).trans ((mset_ne (fun h9 => q0 (Or.inr (Or.inr (Or.inr (Or.inl h9)))))).trans ((congrFun (congrFun eM_13 a) i).trans ((mset_ne (fun h9 => q0 (Or.inr (Or.inr (Or.inr (Or.inr (Or.inr (Or.inl h9)))))))).trans ((hg_M_12 a i (fun z8 => q0 ((fun z9 => Or.elim z9 (fun h9 => Or.inr (Or.inr (Or.inr (Or.inr (Or.inl h9))))) (fun z9 => Or.elim z9 (fun h9 => Or.inr (Or.inr (Or.inr (Or.inr (Or.inr (Or.inl h9)))))) (fun h9 => Or.inr (Or.inr (Or.inr (Or.inr (Or.inr (Or.inr (Or.inl h9))))))))) z8))).trans ((hf_M14 a i (fun z8 => q0 ((fun z9 => Or.elim z9 (fun h9 => Or.inl h9) (fun z9 => Or.elim z9 (fun h9 => Or.inr (Or.inl h9)) (fun z9 => Or.elim z9 (fun h9 => Or.inr (Or.inr (Or.inl h9))) (fun z9 => Or.elim z9 (fun h9 => Or.inr (Or.inr (Or.inr (Or.inl h9)))) (fun z9 => Or.elim z9 (fun h9 => Or.inr (Or.inr (Or.inr (Or.inr (Or.inl h9))))) (fun z9 => Or.elim z9 (fun h9 => Or.inr (Or.inr (Or.inr (Or.inr (Or.inr (Or.inl h9)))))) (fun z9 => Or.elim z9 (fun h9 => Or.inr (Or.inr (Or.inr (Or.inr (Or.inr (Or.inr (Or.inl h9))))))) (fun h9 => Or.inr (Or.inr (Or.inr (Or.inr (Or.inr (Or.inr (Or.inr (h9))))))))))))))) z8))).trans rfl))))))))), hR15, (by omega), (hC14.trans C15), on15.1, (by rw [w15, hps.2.2.2.2.1, e12]; exact dsc_d hD14 (by omega))⟩ (by omega)
      · exact j138 (Or.inl (by rw [← hq_84]; exact c89))
    · have sg := sgp_1 hsg_18 c24
      rw [hq_15] at sg
      have j38 : ∀ (t0_38 : Int32), (t0_38 = 0 ∨ t0_38 = 1) → ((t0_38.toInt = 0 ∧ 4 ≤ r_5.toInt) ∨ (¬ t0_38.toInt = 0 ∧ r_5.toInt ≤ 3)) → Wp (f_X10_readsSum_L38 ag14 M14 r_5 t0_38) (fun q => (q.1 = 0 ∨ q.1 = 1) ∧ (∀ a i, ¬ ((a = 0 ∧ i = 7) ∨ (a = 0 ∧ i = 9) ∨ (a = 0 ∧ i = 10) ∨ (a = 0 ∧ i = 11) ∨ (a = 0 ∧ i = 12) ∨ (a = 0 ∧ i = 13) ∨ a = 6 ∨ a = 7) → q.2 a i = M a i) ∧ (¬ q.1.toInt = 0 → RS M q.2 1 ∧ ix (q.2 0 13) = ix (M 0 13) ∧ (M 0 7).toInt < (q.2 0 7).toInt) ∧ (LwP (sumD T (dO M) (sR M)) q.1.toInt (q.2 0 9).toInt (sR q.2)) ∧ (¬ q.1.toInt = 0 → On q.2)) := by
        intro t0_38 hb_t0_38 h38
        unfold f_X10_readsSum_L38
        refine wp_bind2 (o6_X10_closesSums M14 t0_38 B hR14 hO14 hD14) (fun M_16 he38 hq38 => ?_)
        obtain ⟨hg_M_16, hR_38, hw_38, ht_38, hc_38, hOn_38⟩ := hq38
        replace hR_38 : RS B M_16 1 := hR_38
        replace hw_38 : ix (M_16 0 13) ≤ ix (M14 0 13) ∧ ∀ t : Nat, ix (M_16 0 13) ≤ t → t < ix (M14 0 13) → 2 ≤ kd (M14 7 t) ∧ kd (M14 7 t) ≤ 6 := hw_38
        replace ht_38 : ¬ t0_38.toInt = 0 → ix (M_16 0 13) = 0 ∨ ¬ (2 ≤ kd (M14 7 (ix (M_16 0 13) - 1)) ∧ kd (M14 7 (ix (M_16 0 13) - 1)) ≤ 6) := ht_38
        replace hc_38 : (sR M_16, ix (M_16 0 13)) = clS t0_38.toInt (M14 7) (ix (B 0 13)) (ix (M14 0 13)) (sR M14) := hc_38
        replace hOn_38 : On M_16 := hOn_38
        replace hg_M_16 : ∀ a i, ¬ ((a = 0 ∧ i = 12) ∨ (a = 0 ∧ i = 13) ∨ a = 6) → M_16 a i = M14 a i := hg_M_16
        have hb16 := pm_bd hR_38.1
        have hp16 : M_16 0 7 = M14 0 7 := hg_M_16 0 7 (by first | decide | (rcases hc0 with h | h <;> rw [h] <;> simp; done) | (rcases hb0 with h | h | h <;> rw [h] <;> simp; done) | (simp; done) | omega)
        have h816 : M_16 0 8 = M14 0 8 := hg_M_16 0 8 (by first | decide | (rcases hc0 with h | h <;> rw [h] <;> simp; done) | (rcases hb0 with h | h | h <;> rw [h] <;> simp; done) | (simp; done) | omega)
        refine wp_gd (by omega) ?_
        refine wp_bnd (fun M_17 eM_17 => ?_)
        refine wp_bnd (fun M_18 eM_18 => ?_)
        refine wp_bnd (fun M_19 eM_19 => ?_)
        have hps := push_is eM_17 eM_18 eM_19
        have hwd := wd_0 (a := r_5) (by omega)
        have hR19 : RS B M_19 0 := rs_op hR_38 (by rw [hp16, h816]; omega) hps.1 hps.2.1 hps.2.2.1 hps.2.2.2.1 hps.2.2.2.2.1 hps.2.2.2.2.2 ⟨hwd.1, hwd.2.1⟩ (by rw [hwd.2.2.1]; omega)
        have hq19 : (M_19 0 7).toInt = (M14 0 7).toInt + 1 := by rw [hps.2.2.1, hp16]; exact (i_up (by omega)).2
        have e167 : M_16 7 = M14 7 := funext (fun i => hg_M_16 7 i (by first | decide | (rcases hc0 with h | h <;> rw [h] <;> simp; done) | (rcases hb0 with h | h | h <;> rw [h] <;> simp; done) | (simp; done) | omega))
        have k19 : kd ((nI 1048576) * r_5) = sgn (T (M14 0 7).toInt) := by
          rw [hwd.2.2.1]
          exact sg.1
        have on19 := on_push hOn_38 (by omega) (by rw [eM_19, mset_ne (by first | exact nz1 (by decide) | exact nz2 (by decide) | exact nz1 (nzA hc0 (by decide)) | exact nz1 (nzE (by decide)) | exact nz1 (nzB hc0 (by decide)) | exact nz1 (nzC hc0 (by decide)) | exact nz1 (nzD hc0 (by decide)) | exact nz1 (nzF (by decide)) | exact nz1 (nzG (by decide)) | omega), eM_18, mset_ne (by first | exact nz1 (by decide) | exact nz2 (by decide) | exact nz1 (nzA hc0 (by decide)) | exact nz1 (nzE (by decide)) | exact nz1 (nzB hc0 (by decide)) | exact nz1 (nzC hc0 (by decide)) | exact nz1 (nzD hc0 (by decide)) | exact nz1 (nzF (by decide)) | exact nz1 (nzG (by decide)) | omega), eM_17, mset_ne (by first | exact nz1 (by decide) | exact nz2 (by decide) | exact nz1 (nzA hc0 (by decide)) | exact nz1 (nzE (by decide)) | exact nz1 (nzB hc0 (by decide)) | exact nz1 (nzC hc0 (by decide)) | exact nz1 (nzD hc0 (by decide)) | exact nz1 (nzF (by decide)) | exact nz1 (nzG (by decide)) | omega)]) hps.1 hps.2.1 (by rw [hwd.2.2.1]; omega)
        have d16 : dO M_16 = dO M14 := by
          unfold dO
          rw [hg_M_16 0 11 (by first | decide | (rcases hc0 with h | h <;> rw [h] <;> simp; done) | (rcases hb0 with h | h | h <;> rw [h] <;> simp; done) | (simp; done) | omega)]
        have w19 : ix (M_19 0 13) = ix (M_16 0 13) + 1 := by
          rw [hps.1]
          exact (i_up (by omega)).1
        have s19 := sr_fwd (M := M_16) hq19 hps.2.2.2.1 (fun j => by rw [hps.2.2.2.2.2])
        have hT19 : TXr M_19 = T := (txr_fr (by rw [hps.2.2.2.2.1, hg_M_16 0 8 (by first | decide | (rcases hc0 with h | h <;> rw [h] <;> simp; done) | (rcases hb0 with h | h | h <;> rw [h] <;> simp; done) | (simp; done) | omega)]) (fun j => by rw [eM_19, mset_ne (by first | exact nz1 (by decide) | exact nz2 (by decide) | exact nz1 (nzA hc0 (by decide)) | exact nz1 (nzE (by decide)) | exact nz1 (nzB hc0 (by decide)) | exact nz1 (nzC hc0 (by decide)) | exact nz1 (nzD hc0 (by decide)) | exact nz1 (nzF (by decide)) | exact nz1 (nzG (by decide)) | omega), eM_18, mset_ne (by first | exact nz1 (by decide) | exact nz2 (by decide) | exact nz1 (nzA hc0 (by decide)) | exact nz1 (nzE (by decide)) | exact nz1 (nzB hc0 (by decide)) | exact nz1 (nzC hc0 (by decide)) | exact nz1 (nzD hc0 (by decide)) | exact nz1 (nzF (by decide)) | exact nz1 (nzG (by decide)) | omega), eM_17, mset_ne (by first | exact nz1 (by decide) | exact nz2 (by decide) | exact nz1 (nzA hc0 (by decide)) | exact nz1 (nzE (by decide)) | exact nz1 (nzB hc0 (by decide)) | exact nz1 (nzC hc0 (by decide)) | exact nz1 (nzD hc0 (by decide)) | exact nz1 (nzF (by decide)) | exact nz1 (nzG (by decide)) | omega), hg_M_16 5 j (by first | decide | (rcases hc0 with h | h <;> rw [h] <;> simp; done) | (rcases hb0 with h | h | h <;> rw [h] <;> simp; done) | (simp; done) | omega)])).trans hT14
        have E19 : DC T (ix (B 0 13)) M14 = DE T (ix (B 0 13)) M_19 ∧ Dsc (M_19 7) (ix (B 0 13)) (ix (M_19 0 13)) := by
          unfold DE
          rw [s19, w19, on19.2, d16, hps.2.1, e167]
          rcases h38 with z | z
          · rw [clS_0 z.1] at hc_38
            obtain ⟨s16, w16⟩ := Prod.mk.inj hc_38
            rw [s16, w16]
            exact ⟨denC_t hbw (show 4 ≤ sgn (T (M14 0 7).toInt) by omega) (show sgn (T (M14 0 7).toInt) ≤ 6 by omega) k19, dsc_p (dsc_d hD14 b1.1) (Or.inl ⟨by omega, by omega⟩) (fun _ _ => dsc_t hD14) (fun _ z9 => absurd z9 (by omega))⟩
          · rw [clS_1 z.1] at hc_38
            obtain ⟨s16, w16⟩ := Prod.mk.inj hc_38
            rw [s16, w16]
            exact ⟨denC_s hbw (show 2 ≤ sgn (T (M14 0 7).toInt) by omega) (show sgn (T (M14 0 7).toInt) ≤ 3 by omega) k19, dsc_p (dsc_d hD14 (by omega)) (Or.inl ⟨by omega, by omega⟩) (fun z9 _ => absurd z9 (by omega)) (fun _ _ => dsc_s hD14)⟩
        refine wp_cb2 (o6_X10_readsFactor M_19 T hT19 B hR19 on19.1 E19.2) (fun r_20 M_21 he75 hq75 => ?_)
        obtain ⟨hz_r_20, hg_M_21, hR_75, hq_75, hX_75⟩ := hq75
        replace hR_75 : ¬ r_20.toInt = 0 → RS B M_21 1 ∧ (M_19 0 7).toInt < (M_21 0 7).toInt := hR_75
        replace hq_75 : GoP (DE T (ix (B 0 13)) M_19) (DC T (ix (B 0 13)) M_21) r_20.toInt (M_21 0 9).toInt := hq_75
        replace hX_75 : ¬ r_20.toInt = 0 → On M_21 ∧ Dsc (M_21 7) (ix (B 0 13)) (ix (M_21 0 13)) := hX_75
        replace hg_M_21 : ∀ a i, ¬ ((a = 0 ∧ i = 7) ∨ (a = 0 ∧ i = 9) ∨ (a = 0 ∧ i = 10) ∨ (a = 0 ∧ i = 11) ∨ (a = 0 ∧ i = 12) ∨ (a = 0 ∧ i = 13) ∨ a = 6 ∨ a = 7) → M_21 a i = M_19 a i := hg_M_21
        refine wp_ite (fun c78 => ?_) (fun c78 => ?_)
        · exact wp_some ⟨b01_0, (fun a i q0 => ((hg_M_21 a i (fun z8 => q0 ((fun z9 => Or.elim z9 (fun h9 => Or.inl h9) (fun z9 => Or.elim z9 (fun h9 => Or.inr (Or.inl h9)) (fun z9 => Or.elim z9 (fun h9 => Or.inr (Or.inr (Or.inl h9))) (fun z9 => Or.elim z9 (fun h9 => Or.inr (Or.inr (Or.inr (Or.inl h9)))) (fun z9 => Or.elim z9 (fun h9 => Or.inr (Or.inr (Or.inr (Or.inr (Or.inl h9))))) (fun z9 => Or.elim z9 (fun h9 => Or.inr (Or.inr (Or.inr (Or.inr (Or.inr (Or.inl h9)))))) (fun z9 => Or.elim z9 (fun h9 => Or.inr (Or.inr (Or.inr (Or.inr (Or.inr (Or.inr (Or.inl h9))))))) (fun h9 => Or.inr (Or.inr (Or.inr (Or.inr (Or.inr (Or.inr (Or.inr (h9))))))))))))))) z8))).trans ((congrFun (congrFun eM_19 a) i).trans ((mset_ne (fun h9 => q0 (Or.inl h9))).trans ((congrFun (congrFun eM_18 a) i).trans ((mset_ne (fun h9 => q0 (Or.inr (Or.inr (Or.inr (Or.inr (Or.inr (Or.inl h9)))))))).trans ((congrFun (congrFun eM_17 a) i).trans ((mset_ne (fun h9 => q0 (Or.inr (Or.inr (Or.inr (Or.inr (Or.inr (Or.inr (Or.inr ((h9).1)))))))))).trans ((hg_M_16 a i (fun z8 => q0 ((fun z9 => Or.elim z9 (fun h9 => Or.inr (Or.inr (Or.inr (Or.inr (Or.inl h9))))) (fun z9 => Or.elim z9 (fun h9 => Or.inr (Or.inr (Or.inr (Or.inr (Or.inr (Or.inl h9)))))) (fun h9 => Or.inr (Or.inr (Or.inr (Or.inr (Or.inr (Or.inr (Or.inl h9))))))))) z8))).trans ((hf_M14 a i (fun z8 => q0 ((fun z9 => Or.elim z9 (fun h9 => Or.inl h9) (fun z9 => Or.elim z9 (fun h9 => Or.inr (Or.inl h9)) (fun z9 => Or.elim z9 (fun h9 => Or.inr (Or.inr (Or.inl h9))) (fun z9 => Or.elim z9 (fun h9 => Or.inr (Or.inr (Or.inr (Or.inl h9)))) (fun z9 => Or.elim z9 (fun h9 => Or.inr (Or.inr (Or.inr (Or.inr (Or.inl h9))))) (fun z9 => Or.elim z9 (fun h9 => Or.inr (Or.inr (Or.inr (Or.inr (Or.inr (Or.inl h9)))))) (fun z9 => Or.elim z9 (fun h9 => Or.inr (Or.inr (Or.inr (Or.inr (Or.inr (Or.inr (Or.inl h9))))))) (fun h9 => Or.inr (Or.inr (Or.inr (Or.inr (Or.inr (Or.inr (Or.inr (h9))))))))))))))) z8))).trans ((hg_M_3 a i (fun z8 => q0 ((fun z9 => Or.elim z9 (fun h9 => Or.inl h9) (fun z9 => Or.elim z9 (fun h9 => Or.inr (Or.inl h9)) (fun z9 => Or.elim z9 (fun h9 => Or.inr (Or.inr (Or.inl h9))) (fun z9 => Or.elim z9 (fun h9 => Or.inr (Or.inr (Or.inr (Or.inl h9)))) (fun z9 => Or.elim z9 (fun h9 => Or.inr (Or.inr (Or.inr (Or.inr (Or.inl h9))))) (fun z9 => Or.elim z9 (fun h9 => Or.inr (Or.inr (Or.inr (Or.inr (Or.inr (Or.inl h9)))))) (fun z9 => Or.elim z9 (fun h9 => Or.inr (Or.inr (Or.inr (Or.inr (Or.inr (Or.inr (Or.inl h9))))))) (fun h9 => Or.inr (Or.inr (Or.inr (Or.inr (Or.inr (Or.inr (Or.inr (h9))))))))))))))) z8))).trans rfl))))))))))), (fun z => absurd nI0 z), (by show LwP (sumD T (dO M) (sR M)) (nI 0).toInt (M_21 0 9).toInt (sR M_21); rw [hC14, E19.1, hq_75.1 c78]; exact ⟨nI0, rfl⟩), (fun z => absurd nI0 z)⟩
        · have h75 := hR_75 c78
          have h821 := congrArg Int32.toInt (h75.1.2.2.2.2.1.trans hR14.2.2.2.2.1.symm)
          have hb21 := pm_bd h75.1.1
          exact ih14 M_21 ⟨(fun a i q0 => ((hg_M_21 a i (fun z8 => q0 ((fun z9 => Or.elim z9 (fun h9 => Or.inl h9) (fun z9 => Or.elim z9 (fun h9 => Or.inr (Or.inl h9)) (fun z9 => Or.elim z9 (fun h9 => Or.inr (Or.inr (Or.inl h9))) (fun z9 => Or.elim z9 (fun h9 => Or.inr (Or.inr (Or.inr (Or.inl h9)))) (fun z9 => Or.elim z9 (fun h9 => Or.inr (Or.inr (Or.inr (Or.inr (Or.inl h9))))) (fun z9 => Or.elim z9 (fun h9 => Or.inr (Or.inr (Or.inr (Or.inr (Or.inr (Or.inl h9)))))) (fun z9 => Or.elim z9 (fun h9 => Or.inr (Or.inr (Or.inr (Or.inr (Or.inr (Or.inr (Or.inl h9))))))) (fun h9 => Or.inr (Or.inr (Or.inr (Or.inr (Or.inr (Or.inr (Or.inr (h9))))))))))))))) z8))).trans ((congrFun (congrFun eM_19 a) i).trans ((mset_ne (fun h9 => q0 (Or.inl h9))).trans ((congrFun (congrFun eM_18 a) i).trans ((mset_ne (fun h9 => q0 (Or.inr (Or.inr (Or.inr (Or.inr (Or.inr (Or.inl h9)))))))).trans ((congrFun (congrFun eM_17 a) i).trans ((mset_ne (fun h9 => q0 (Or.inr (Or.inr (Or.inr (Or.inr (Or.inr (Or.inr (Or.inr ((h9).1)))))))))).trans ((hg_M_16 a i (fun z8 => q0 ((fun z9 => Or.elim z9 (fun h9 => Or.inr (Or.inr (Or.inr (Or.inr (Or.inl h9))))) (fun z9 => Or.elim z9 (fun h9 => Or.inr (Or.inr (Or.inr (Or.inr (Or.inr (Or.inl h9)))))) (fun h9 => Or.inr (Or.inr (Or.inr (Or.inr (Or.inr (Or.inr (Or.inl h9))))))))) z8))).trans ((hf_M14 a i (fun z8 => q0 ((fun z9 => Or.elim z9 (fun h9 => Or.inl h9) (fun z9 => Or.elim z9 (fun h9 => Or.inr (Or.inl h9)) (fun z9 => Or.elim z9 (fun h9 => Or.inr (Or.inr (Or.inl h9))) (fun z9 => Or.elim z9 (fun h9 => Or.inr (Or.inr (Or.inr (Or.inl h9)))) (fun z9 => Or.elim z9 (fun h9 => Or.inr (Or.inr (Or.inr (Or.inr (Or.inl h9))))) (fun z9 => Or.elim z9 (fun h9 => Or.inr (Or.inr (Or.inr (Or.inr (Or.inr (Or.inl h9)))))) (fun z9 => Or.elim z9 (fun h9 => Or.inr (Or.inr (Or.inr (Or.inr (Or.inr (Or.inr (Or.inl h9))))))) (fun h9 => Or.inr (Or.inr (Or.inr (Or.inr (Or.inr (Or.inr (Or.inr (h9))))))))))))))) z8))).trans rfl)))))))))), h75.1, (by omega), (hC14.trans (E19.1.trans (hq_75.2 c78))), (hX_75 c78).1, (hX_75 c78).2⟩ (by omega)
      refine wp_ite (fun c30 => ?_) (fun c30 => ?_)
      · exact j38 (nI 0) b01_0 (by have f0 := t_lit 0; omega)
      · exact j38 (nI 1) b01_1 (by have f0 := t_lit 1; omega)
