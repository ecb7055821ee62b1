theorem oa_X9_toldPeople (M : Mem) : Wp (f_X9_toldPeople M) (fun q => (MkB (fun p => ¬ (M 43 p).toInt = 0) 8 q)) := by
  refine wp_lp2 (fun y1_4 y2_4 => (0 ≤ y2_4.toInt) ∧ (MkB (fun p => ¬ (M 43 p).toInt = 0) (ix y2_4) y1_4) ∧ (y2_4.toInt ≤ 8)) (fun y1_4 y2_4 => (8 - y2_4.toInt).toNat) (fun ag4 y1_4 y2_4 hI4 ih4 => ?_) FU (nI 0) (nI 0) ⟨(by have f0 := t_lit 0; omega), (by rw [show ix (nI 0) = 0 from (by decide)]; exact mk_b0), (by decide)⟩ (fu_lt (by have f0 := t_lit 0; omega))
  obtain ⟨hi4, h4, h8⟩ := hI4
  refine wp_ite (fun c7 => ?_) (fun c7 => ?_)
  · exact wp_some (by rw [show ix y2_4 = 8 from (ix_eq (by omega) (by decide)).mpr (by omega)] at h4; exact h4)
  · have u := i_up (x := y2_4) (by omega)
    have i8 := ix8 (v := y2_4) (by omega)
    refine wp_gd (by omega) ?_
    refine wp_ite (fun c16 => ?_) (fun c16 => ?_)
    · exact ih4 y1_4 (y2_4 + (nI 1)) ⟨(by have f0 := t_lit 1; have f1 := t_add y2_4 (nI 1); omega), (by rw [u.1]; exact mk_bn h4 (fun z => z c16)), (by rw [u.2]; omega)⟩ (by have f0 := t_lit 1; have f1 := t_add y2_4 (nI 1); omega)
    · refine wp_bnd (fun x_1 ex_1 => ?_)
      exact ih4 x_1 (y2_4 + (nI 1)) ⟨(by have f0 := t_lit 1; have f1 := t_add y2_4 (nI 1); omega), (by rw [u.1, ex_1]; exact mk_by h4 c16 i8 (nI_ixx (by omega)).symm), (by rw [u.2]; omega)⟩ (by have f0 := t_lit 1; have f1 := t_add y2_4 (nI 1); omega)
theorem oa_X9_count (M : Mem) (v1 : Int32) (hL10 : (M 0 10).toInt = 44 ∨ (M 0 10).toInt = 52) (hGd : GdF (FdC M 1)) : Wp (f_X9_count M v1) (fun q => (∃ t3, MkB (fun p => ¬ (M 43 p).toInt = 0) 8 t3 ∧ CnP (FdC M 1) v1.toInt q t3 (M (ix (M 0 10)) 8) (M 19 1) (TpC M (v1 - nI 10)) (M 43 (ix (v1 - nI 10))))) := by
  obtain ⟨tpl, TM⟩ := mk_ex (Q := (fun p => ¬ (M 43 p).toInt = 0)) 8 (by omega)
  refine wp_ite (fun c1 => ?_) (fun c1 => ?_)
  · exact wp_some ⟨tpl, TM, ⟨(fun _ => (fdc_n M 1).symm), (fun z => by omega), (fun z => by omega), (fun z => by omega), (fun z => by omega), (fun z => by omega), (fun z => by omega), (fun z => by omega)⟩⟩
  · refine wp_ite (fun c1 => ?_) (fun c1 => ?_)
    · refine wp_bind2 (o9_X2_countTold (Or.inl rfl) M hGd.1.1) (fun r_1 he56 hq56 => ?_)
      have hsm_56 := hq56
      replace hsm_56 : r_1 = smT 4 (FdC M 1) 40 := hsm_56
      exact wp_some ⟨tpl, TM, ⟨(fun z => by omega), (fun _ => hsm_56), (fun z => by omega), (fun z => by omega), (fun z => by omega), (fun z => by omega), (fun z => by omega), (fun z => by omega)⟩⟩
    · refine wp_ite (fun c2 => ?_) (fun c2 => ?_)
      · refine wp_bind2 (o9_X2_countSunk (Or.inl rfl) M hGd.1.2.1) (fun r_2 he64 hq64 => ?_)
        have hsm_64 := hq64
        replace hsm_64 : r_2 = smT 5 (FdC M 1) 40 := hsm_64
        exact wp_some ⟨tpl, TM, ⟨(fun z => by omega), (fun z => by omega), (fun _ => hsm_64), (fun z => by omega), (fun z => by omega), (fun z => by omega), (fun z => by omega), (fun z => by omega)⟩⟩
      · refine wp_ite (fun c3 => ?_) (fun c3 => ?_)
        · refine wp_bind2 (oa_X9_toldPeople M) (fun r_3 he69 hq69 => ?_)
          have hm_69 := hq69
          replace hm_69 : MkB (fun p => ¬ (M 43 p).toInt = 0) 8 r_3 := hm_69
          exact wp_some ⟨_, hm_69, ⟨(fun z => by omega), (fun z => by omega), (fun z => by omega), (fun _ => rfl), (fun z => by omega), (fun z => by omega), (fun z => by omega), (fun z => by omega)⟩⟩
        · refine wp_ite (fun c4 => ?_) (fun c4 => ?_)
          · refine wp_rl hL10 (fun c_4 hc_4 ecc_4 => ?_)
            have hc_40 : c_4 = 44 ∨ c_4 = 52 := hc_4
            exact wp_some ⟨tpl, TM, ⟨(fun z => by omega), (fun z => by omega), (fun z => by omega), (fun z => by omega), (fun _ => by rw [show ix (M 0 10) = c_4 from (ix_eq (by omega) (by omega)).mpr ecc_4]), (fun z => by omega), (fun z => by omega), (fun z => by omega)⟩⟩
          · refine wp_ite (fun c5 => ?_) (fun c5 => ?_)
            · exact wp_some ⟨tpl, TM, ⟨(fun z => by omega), (fun z => by omega), (fun z => by omega), (fun z => by omega), (fun z => by omega), (fun _ => rfl), (fun z => by omega), (fun z => by omega)⟩⟩
            · refine wp_ite (fun c6 => ?_) (fun c6 => ?_)
              · exact wp_some ⟨tpl, TM, ⟨(fun z => by omega), (fun z => by omega), (fun z => by omega), (fun z => by omega), (fun z => by omega), (fun z => by omega), (fun _ => (fdc_6 M 1).symm), (fun z => by omega)⟩⟩
              · refine wp_ite (fun c100 => ?_) (fun c100 => ?_)
                · exact wp_some ⟨tpl, TM, ⟨(fun z => by omega), (fun z => by omega), (fun z => by omega), (fun z => by omega), (fun z => by omega), (fun z => by omega), (fun z => by omega), (fun _ => Or.inr ⟨fun z => by have f := t_sub v1 (nI 10); have f2 := t_lit 10; have y := z.1; omega, rfl⟩)⟩⟩
                · refine wp_bind2 (oq_X9_strideOf M (v1 - (nI 10))) (fun r_5 he108 hq108 => ?_)
                  obtain ⟨hi_108, hv_108⟩ := hq108
                  replace hi_108 : ¬ r_5.toInt = 0 ↔ TpC M (v1 - (nI 10)) := hi_108
                  replace hv_108 : ¬ r_5.toInt = 0 → r_5 = M 43 (ix (v1 - (nI 10))) := hv_108
                  refine wp_ite (fun c111 => ?_) (fun c111 => ?_)
                  · exact wp_some ⟨tpl, TM, ⟨(fun z => by omega), (fun z => by omega), (fun z => by omega), (fun z => by omega), (fun z => by omega), (fun z => by omega), (fun z => by omega), (fun _ => Or.inr ⟨fun z => hi_108.mpr z c111, rfl⟩)⟩⟩
                  · refine wp_bind2 (oq_X9_strideOf M (v1 - (nI 10))) (fun r_6 he119 hq119 => ?_)
                    obtain ⟨hi_119, hv_119⟩ := hq119
                    replace hi_119 : ¬ r_6.toInt = 0 ↔ TpC M (v1 - (nI 10)) := hi_119
                    replace hv_119 : ¬ r_6.toInt = 0 → r_6 = M 43 (ix (v1 - (nI 10))) := hv_119
                    exact wp_some ⟨tpl, TM, ⟨(fun z => by omega), (fun z => by omega), (fun z => by omega), (fun z => by omega), (fun z => by omega), (fun z => by omega), (fun z => by omega), (fun _ => Or.inl ⟨hi_108.mp c111, hv_119 (hi_119.mpr (hi_108.mp c111))⟩)⟩⟩
theorem oa_X10_count (M : Mem) (v1 : Int32) (hGd : GdF (FdR M 1)) : Wp (f_X10_count M v1) (fun q => (CnP (FdR M 1) v1.toInt q (M 0 4) (M 0 15) (M 0 6) (TpR M (v1 - nI 10)) (M 4 (ix (v1 - nI 10))))) := by
  refine wp_ite (fun c1 => ?_) (fun c1 => ?_)
  · exact wp_some ⟨(fun _ => (fdr_n M).symm), (fun z => by omega), (fun z => by omega), (fun z => by omega), (fun z => by omega), (fun z => by omega), (fun z => by omega), (fun z => by omega)⟩
  · refine wp_ite (fun c1 => ?_) (fun c1 => ?_)
    · refine wp_bind2 (o9_X10_sumOf M (nI 0) (by decide) 4 (Or.inl ⟨rfl, rfl⟩) hGd) (fun r_1 he55 hq55 => ?_)
      have hsm_55 := hq55
      replace hsm_55 : r_1 = smT 4 (FdR M 1) 40 := hsm_55
      have := t_lit 0
      exact wp_some ⟨(fun z => by omega), (fun _ => hsm_55), (fun z => by omega), (fun z => by omega), (fun z => by omega), (fun z => by omega), (fun z => by omega), (fun z => by omega)⟩
    · refine wp_ite (fun c2 => ?_) (fun c2 => ?_)
      · refine wp_bind2 (o9_X10_sumOf M (nI 160) (by decide) 5 (Or.inr (Or.inr ⟨rfl, rfl⟩)) hGd) (fun r_2 he63 hq63 => ?_)
        have hsm_63 := hq63
        replace hsm_63 : r_2 = smT 5 (FdR M 1) 40 := hsm_63
        have := t_lit 160
        exact wp_some ⟨(fun z => by omega), (fun z => by omega), (fun _ => hsm_63), (fun z => by omega), (fun z => by omega), (fun z => by omega), (fun z => by omega), (fun z => by omega)⟩
      · refine wp_ite (fun c3 => ?_) (fun c3 => ?_)
        · exact wp_some ⟨(fun z => by omega), (fun z => by omega), (fun z => by omega), (fun _ => rfl), (fun z => by omega), (fun z => by omega), (fun z => by omega), (fun z => by omega)⟩
        · refine wp_ite (fun c4 => ?_) (fun c4 => ?_)
          · exact wp_some ⟨(fun z => by omega), (fun z => by omega), (fun z => by omega), (fun z => by omega), (fun _ => rfl), (fun z => by omega), (fun z => by omega), (fun z => by omega)⟩
          · refine wp_ite (fun c5 => ?_) (fun c5 => ?_)
            · exact wp_some ⟨(fun z => by omega), (fun z => by omega), (fun z => by omega), (fun z => by omega), (fun z => by omega), (fun _ => rfl), (fun z => by omega), (fun z => by omega)⟩
            · refine wp_ite (fun c6 => ?_) (fun c6 => ?_)
              · exact wp_some ⟨(fun z => by omega), (fun z => by omega), (fun z => by omega), (fun z => by omega), (fun z => by omega), (fun z => by omega), (fun _ => (fdr_6 M).symm), (fun z => by omega)⟩
              · refine wp_bind2 (oq_X10_isPerson M (v1 - (nI 10))) (fun r_3 he96 hq96 => ?_)
                obtain ⟨hz_r_3, hr_96, hi_96⟩ := hq96
                replace hr_96 : ¬ r_3.toInt = 0 → 0 ≤ (v1 - (nI 10)).toInt ∧ (v1 - (nI 10)).toInt < 8 := hr_96
                replace hi_96 : ¬ r_3.toInt = 0 ↔ TpR M (v1 - (nI 10)) := hi_96
                refine wp_ite (fun c99 => ?_) (fun c99 => ?_)
                · exact wp_some ⟨(fun z => by omega), (fun z => by omega), (fun z => by omega), (fun z => by omega), (fun z => by omega), (fun z => by omega), (fun z => by omega), (fun _ => Or.inr ⟨fun z => hi_96.mpr z c99, rfl⟩)⟩
                · refine wp_gd (by have f0 := t_lit 10; have f1 := t_sub v1 (nI 10); omega) ?_
                  exact wp_some ⟨(fun z => by omega), (fun z => by omega), (fun z => by omega), (fun z => by omega), (fun z => by omega), (fun z => by omega), (fun z => by omega), (fun _ => Or.inl ⟨hi_96.mp c99, rfl⟩)⟩
