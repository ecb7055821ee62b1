theorem oh_X1_search {b : Nat} (hb : isF b) (M : Mem) (v2 : Int32) (hGd : GdF (FdC M b)) (hs : 1 ≤ v2.toInt ∧ v2.toInt ≤ 30) (hbb : BbC M) : Wp (f_X1_search b M v2) (fun q => (∀ a i, ¬ ((a = 30 ∧ i = 3) ∨ a = 32 ∨ a = 33) → q.2 a i = M a i) ∧ (SrP (FdC M b) v2.toInt q.2 q.1)) := by
  have hb0 : b = 1 ∨ b = 7 ∨ b = 13 := hb
  refine wp_bind2 (ow_J7_fill_53178 (by decide) M (-1) (by decide)) (fun M_1 he5 hq5 => ?_)
  obtain ⟨hg_M_1, hfl_5⟩ := hq5
  replace hfl_5 : ∀ j, j < 80 → M_1 32 j = (-1) := hfl_5
  replace hg_M_1 : ∀ a i, ¬ (a = 32) → M_1 a i = M a i := by exact fun a i q0 => hg_M_1 a i (by first | decide | (rcases hc0 with h | h <;> rw [h] <;> simp; done) | (rcases hb0 with h | h | h <;> rw [h] <;> simp; done) | (simp; done) | omega)
  refine wp_bnd (fun M_2 eM_2 => ?_)
  refine wp_lp2 (fun M15 y3_15 => (0 ≤ y3_15.toInt) ∧ (∀ a i, ¬ ((a = 30 ∧ i = 3) ∨ a = 32 ∨ a = 33) → M15 a i = M_2 a i) ∧ (NrI (FdC M b) v2.toInt M15 (ix y3_15)) ∧ (y3_15.toInt ≤ 40)) (fun M15 y3_15 => (40 - y3_15.toInt).toNat) (fun ag15 M15 y3_15 hI15 ih15 => ?_) FU M_2 (nI 0) ⟨(by have f0 := t_lit 0; omega), (fun _ _ _ => rfl), (ni_0 (sc_0 (fun i hi => by rw [eM_2, mset_ne (by first | exact nz1 (by decide) | exact nz2 (by decide) | exact nz1 (nzA hc0 (by decide)) | exact nz1 (nzE (by decide)) | exact nz1 (nzB hc0 (by decide)) | exact nz1 (nzC hc0 (by decide)) | exact nz1 (nzD hc0 (by decide)) | exact nz1 (nzF (by decide)) | exact nz1 (nzG (by decide)) | omega), hg_M_1 31 i (by first | decide | (rcases hc0 with h | h <;> rw [h] <;> simp; done) | (rcases hb0 with h | h | h <;> rw [h] <;> simp; done) | (simp; done) | omega)]; exact hbb i hi) (fun j hj => by rw [eM_2, mset_ne (by first | exact nz1 (by decide) | exact nz2 (by decide) | exact nz1 (nzA hc0 (by decide)) | exact nz1 (nzE (by decide)) | exact nz1 (nzB hc0 (by decide)) | exact nz1 (nzC hc0 (by decide)) | exact nz1 (nzD hc0 (by decide)) | exact nz1 (nzF (by decide)) | exact nz1 (nzG (by decide)) | omega), hfl_5 j hj]; decide) (by rw [eM_2, mset_eq])) (by decide)), (by decide)⟩ (fu_lt (by have f0 := t_lit 0; omega))
  obtain ⟨hi15, hf_M15, hni, y40⟩ := hI15
  have F15 : FdC M15 b = (FdC M b) := fdc_fr (fun a i z1 z2 => (hf_M15 a i (by unfold isF at hb; omega)).trans ((show M_2 a i = M_1 a i from by rw [eM_2, mset_ne (by unfold isF at hb; omega)]).trans (hg_M_1 a i (by unfold isF at hb; omega))))
  have j45 : (40 ≤ y3_15.toInt) → Wp (f_X1_search_L45 b v2 M15) (fun q => (∀ a i, ¬ ((a = 30 ∧ i = 3) ∨ a = 32 ∨ a = 33) → q.2 a i = M a i) ∧ (SrP (FdC M b) v2.toInt q.2 q.1)) := by
    intro h45
    unfold f_X1_search_L45
    refine wp_lp2 (fun M47 y3_47 => (0 ≤ y3_47.toInt) ∧ (∀ a i, ¬ ((a = 30 ∧ i = 3) ∨ a = 32 ∨ a = 33) → M47 a i = M15 a i) ∧ (HdI (FdC M b) v2.toInt M47 (ix y3_47))) (fun M47 y3_47 => (80 - y3_47.toInt).toNat) (fun ag47 M47 y3_47 hI47 ih47 => ?_) FU M15 (nI 0) ⟨(by have f0 := t_lit 0; omega), (fun _ _ _ => rfl), (hi_0 hni (by have z2 := t_ixn y3_15 (by omega); omega) (by decide))⟩ (fu_lt (by have f0 := t_lit 0; omega))
    obtain ⟨hi47, hf_M47, hhi⟩ := hI47
    have F47 : FdC M47 b = (FdC M b) := (fdc_fr (fun a i z1 z2 => hf_M47 a i (by unfold isF at hb; omega))).trans F15
    refine wp_ite (fun c52 => ?_) (fun c52 => ?_)
    · exact wp_some ⟨(fun a i q0 => ((hf_M47 a i (fun z8 => q0 ((fun z9 => Or.elim z9 (fun h9 => Or.inl h9) (fun z9 => Or.elim z9 (fun h9 => Or.inr (Or.inl h9)) (fun h9 => Or.inr (Or.inr (h9))))) z8))).trans ((hf_M15 a i (fun z8 => q0 ((fun z9 => Or.elim z9 (fun h9 => Or.inl h9) (fun z9 => Or.elim z9 (fun h9 => Or.inr (Or.inl h9)) (fun h9 => Or.inr (Or.inr (h9))))) z8))).trans ((congrFun (congrFun eM_2 a) i).trans ((mset_ne (fun h9 => q0 (Or.inl h9))).trans ((hg_M_1 a i (fun h9 => q0 (Or.inr (Or.inl h9)))).trans rfl)))))), (hi_e (M := M47) (n := ix y3_47) hhi (by have z := sc_le hhi.1.1; have z1 := t_ixn y3_47 (by omega); have z2 := t_ix (M47 30 3); omega) (show (-1 : Int32).toInt = -1 by decide))⟩
    · refine wp_ite (fun c58 => ?_) (fun c58 => ?_)
      · exact wp_some ⟨(fun a i q0 => ((hf_M47 a i (fun z8 => q0 ((fun z9 => Or.elim z9 (fun h9 => Or.inl h9) (fun z9 => Or.elim z9 (fun h9 => Or.inr (Or.inl h9)) (fun h9 => Or.inr (Or.inr (h9))))) z8))).trans ((hf_M15 a i (fun z8 => q0 ((fun z9 => Or.elim z9 (fun h9 => Or.inl h9) (fun z9 => Or.elim z9 (fun h9 => Or.inr (Or.inl h9)) (fun h9 => Or.inr (Or.inr (h9))))) z8))).trans ((congrFun (congrFun eM_2 a) i).trans ((mset_ne (fun h9 => q0 (Or.inl h9))).trans ((hg_M_1 a i (fun h9 => q0 (Or.inr (Or.inl h9)))).trans rfl)))))), (hi_e (M := M47) (n := ix y3_47) hhi (by have z := sc_le hhi.1.1; have z1 := t_ixn y3_47 (by omega); have z2 := t_ix (M47 30 3); omega) (show (-1 : Int32).toInt = -1 by decide))⟩
      · have u7 := i_up (x := y3_47) (by omega)
        have lt7 : ix y3_47 < ix (M47 30 3) := by have z1 := t_ixn y3_47 (by omega); have z2 := t_ixn (M47 30 3) (by omega); omega
        have x9 := hi_x hhi lt7
        refine wp_gd (by omega) ?_
        refine wp_bnd (fun x_3 ex_3 => ?_)
        rw [← ex_3] at x9
        have i9 := t_ixn x_3 x9.1.1
        refine wp_ite (fun c73 => ?_) (fun c73 => ?_)
        · have s4 := t_sub x_3 (nI 40)
          have l4 := t_lit 40
          have s5 : (x_3 - nI 40).toInt = x_3.toInt - 40 := by omega
          have i6 := t_ixn (x_3 - nI 40) (by omega)
          have i7 : ix (x_3 - nI 40) + 40 = ix x_3 := by omega
          refine wp_cb2 (oh_X1_leave hb M47 v2 (x_3 - (nI 40)) (by rw [F47]; exact hGd) hs (by rw [F47]; exact hhi.1.1) (by omega) (by rw [i7]; exact x9.2)) (fun r_4 M_5 he93 hq93 => ?_)
          obtain ⟨hz_r_4, hg_M_5, hlv_93⟩ := hq93
          replace hlv_93 : LvP (FdC M47 b) v2.toInt M47 M_5 (x_3 - (nI 40)) r_4 := hlv_93
          replace hg_M_5 : ∀ a i, ¬ ((a = 30 ∧ i = 3) ∨ a = 32 ∨ a = 33) → M_5 a i = M47 a i := by exact fun a i q0 => hg_M_5 a i (by first | decide | (rcases hc0 with h | h <;> rw [h] <;> simp; done) | (rcases hb0 with h | h | h <;> rw [h] <;> simp; done) | (simp; done) | omega)
          rw [F47] at hlv_93
          refine wp_ite (fun c96 => ?_) (fun c96 => ?_)
          · exact ih47 M_5 (y3_47 + (nI 1)) ⟨(by have f0 := t_lit 1; have f1 := t_add y3_47 (nI 1); omega), (fun a i q0 => ((hg_M_5 a i (fun z8 => q0 ((fun z9 => Or.elim z9 (fun h9 => Or.inl h9) (fun z9 => Or.elim z9 (fun h9 => Or.inr (Or.inl h9)) (fun h9 => Or.inr (Or.inr (h9))))) z8))).trans ((hf_M47 a i (fun z8 => q0 ((fun z9 => Or.elim z9 (fun h9 => Or.inl h9) (fun z9 => Or.elim z9 (fun h9 => Or.inr (Or.inl h9)) (fun h9 => Or.inr (Or.inr (h9))))) z8))).trans rfl))), (by rw [u7.1]; exact hiw_s hhi lt7 hlv_93.1 hlv_93.2.1 (by have z := hlv_93.2.2.2 c96; rw [i7, ex_3] at z; exact z))⟩ (by have f0 := t_lit 1; have f1 := t_add y3_47 (nI 1); omega)
          · exact wp_some ⟨(fun a i q0 => ((hg_M_5 a i (fun z8 => q0 ((fun z9 => Or.elim z9 (fun h9 => Or.inl h9) (fun z9 => Or.elim z9 (fun h9 => Or.inr (Or.inl h9)) (fun h9 => Or.inr (Or.inr (h9))))) z8))).trans ((hf_M47 a i (fun z8 => q0 ((fun z9 => Or.elim z9 (fun h9 => Or.inl h9) (fun z9 => Or.elim z9 (fun h9 => Or.inr (Or.inl h9)) (fun h9 => Or.inr (Or.inr (h9))))) z8))).trans ((hf_M15 a i (fun z8 => q0 ((fun z9 => Or.elim z9 (fun h9 => Or.inl h9) (fun z9 => Or.elim z9 (fun h9 => Or.inr (Or.inl h9)) (fun h9 => Or.inr (Or.inr (h9))))) z8))).trans ((congrFun (congrFun eM_2 a) i).trans ((mset_ne (fun h9 => q0 (Or.inl h9))).trans ((hg_M_1 a i (fun h9 => q0 (Or.inr (Or.inl h9)))).trans rfl))))))), (sr_y (M := M_5) (r := x_3) (by omega) hlv_93.1 (hlv_93.2.1.1 _ (by omega) x9.2) (by rw [show ix x_3 - 40 = ix (x_3 - nI 40) from by omega]; exact hlv_93.2.2.1 c96))⟩
        · refine wp_bind2 (oh_X1_comeOn M47 x_3 (FdC M b) v2.toInt hhi.1.1 (by omega) x9.2) (fun M_6 he79 hq79 => ?_)
          obtain ⟨hg_M_6, hco_79⟩ := hq79
          replace hco_79 : CoP (FdC M b) v2.toInt M47 M_6 (ix x_3) := hco_79
          replace hg_M_6 : ∀ a i, ¬ ((a = 30 ∧ i = 3) ∨ a = 32 ∨ a = 33) → M_6 a i = M47 a i := hg_M_6
          exact ih47 M_6 (y3_47 + (nI 1)) ⟨(by have f0 := t_lit 1; have f1 := t_add y3_47 (nI 1); omega), (fun a i q0 => ((hg_M_6 a i (fun z8 => q0 ((fun z9 => Or.elim z9 (fun h9 => Or.inl h9) (fun z9 => Or.elim z9 (fun h9 => Or.inr (Or.inl h9)) (fun h9 => Or.inr (Or.inr (h9))))) z8))).trans ((hf_M47 a i (fun z8 => q0 ((fun z9 => Or.elim z9 (fun h9 => Or.inl h9) (fun z9 => Or.elim z9 (fun h9 => Or.inr (Or.inl h9)) (fun h9 => Or.inr (Or.inr (h9))))) z8))).trans rfl))), (by rw [u7.1]; exact hiw_s hhi lt7 hco_79.1 hco_79.2.1 (by have z := hco_79.2.2; rw [ex_3] at z; exact z))⟩ (by have f0 := t_lit 1; have f1 := t_add y3_47 (nI 1); omega)
  refine wp_ite (fun c18 => ?_) (fun c18 => ?_)
  · exact j45 c18
  · have u := i_up (x := y3_15) (by omega)
    have i5 := t_ixn y3_15 (by omega)
    refine wp_bind2 (ow_X2_isStep hb M15 (nI 40) y3_15 v2 (by rw [F15]; exact hGd) (by have z := t_lit 40; omega) (by omega) hs) (fun r_7 he26 hq26 => ?_)
    obtain ⟨hz_r_7, hst_26⟩ := hq26
    replace hst_26 : ¬ r_7.toInt = 0 ↔ stC (FdC M15 b) v2.toInt (ix (nI 40)) (ix y3_15) := hst_26
    have := t_lit 40
    rw [F15, show ix (nI 40) = 40 from (by decide)] at hst_26
    refine wp_ite (fun c29 => ?_) (fun c29 => ?_)
    · exact ih15 M15 (y3_15 + (nI 1)) ⟨(by have f0 := t_lit 1; have f1 := t_add y3_15 (nI 1); omega), (fun a i q0 => ((hf_M15 a i (fun z8 => q0 ((fun z9 => Or.elim z9 (fun h9 => Or.inl h9) (fun z9 => Or.elim z9 (fun h9 => Or.inr (Or.inl h9)) (fun h9 => Or.inr (Or.inr (h9))))) z8))).trans rfl)), (by rw [u.1]; exact ni_n hni (fun z => hst_26.mpr ((st_n hGd (by omega) (by omega)).mpr z) c29)), (by rw [u.2]; omega)⟩ (by have f0 := t_lit 1; have f1 := t_add y3_15 (nI 1); omega)
    · refine wp_bind2 (oh_X1_reach M15 y3_15 (-2)) (fun M_8 he36 hq36 => ?_)
      obtain ⟨hg_M_8, hrc_36⟩ := hq36
      replace hrc_36 : RcP M15 M_8 y3_15 (-2) := hrc_36
      replace hg_M_8 : ∀ a i, ¬ ((a = 30 ∧ i = 3) ∨ a = 32 ∨ a = 33) → M_8 a i = M15 a i := hg_M_8
      exact ih15 M_8 (y3_15 + (nI 1)) ⟨(by have f0 := t_lit 1; have f1 := t_add y3_15 (nI 1); omega), (fun a i q0 => ((hg_M_8 a i (fun z8 => q0 ((fun z9 => Or.elim z9 (fun h9 => Or.inl h9) (fun z9 => Or.elim z9 (fun h9 => Or.inr (Or.inl h9)) (fun h9 => Or.inr (Or.inr (h9))))) z8))).trans ((hf_M15 a i (fun z8 => q0 ((fun z9 => Or.elim z9 (fun h9 => Or.inl h9) (fun z9 => Or.elim z9 (fun h9 => Or.inr (Or.inl h9)) (fun h9 => Or.inr (Or.inr (h9))))) z8))).trans rfl))), (by rw [u.1]; exact ni_y hni ((st_n hGd (by omega) (by omega)).mp (hst_26.mp c29)) (by omega) (by decide) hrc_36), (by rw [u.2]; omega)⟩ (by have f0 := t_lit 1; have f1 := t_add y3_15 (nI 1); omega)
