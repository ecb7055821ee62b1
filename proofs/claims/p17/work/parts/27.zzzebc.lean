theorem oh_X1_leave {b : Nat} (hb : isF b) (M : Mem) (v2 : Int32) (v3 : Int32) (hGd : GdF (FdC M b)) (hs : 1 ≤ v2.toInt ∧ v2.toInt ≤ 30) (hsc : ScI (FdC M b) v2.toInt M) (hv : 0 ≤ v3.toInt ∧ v3.toInt < 40) (hm : mtC M (ix v3 + 40)) : Wp (f_X1_leave b M v2 v3) (fun q => (q.1 = 0 ∨ q.1 = 1) ∧ (∀ a i, ¬ ((a = 30 ∧ i = 3) ∨ a = 32 ∨ a = 33) → q.2 a i = M a i) ∧ (LvP (FdC M b) v2.toInt M q.2 v3 q.1)) := by
  have hb0 : b = 1 ∨ b = 7 ∨ b = 13 := hb
  refine wp_ite (fun c1 => ?_) (fun c1 => ?_)
  · exact wp_some ⟨b01_0, (fun _ _ _ => rfl), (False.elim (by omega))⟩
  · refine wp_ite (fun c7 => ?_) (fun c7 => ?_)
    · refine wp_bind2 (ow_X2_isStep hb M v3 (nI 41) v2 hGd (by omega) (by have z := t_lit 41; omega) hs) (fun r_1 he17 hq17 => ?_)
      obtain ⟨hz_r_1, hst_17⟩ := hq17
      replace hst_17 : ¬ r_1.toInt = 0 ↔ stC (FdC M b) v2.toInt (ix v3) (ix (nI 41)) := hst_17
      have := t_lit 41
      rw [show ix (nI 41) = 41 from (by decide)] at hst_17
      refine wp_ite (fun c20 => ?_) (fun c20 => ?_)
      · have nf : ¬ farG (FdC M b) v2.toInt (ix v3) := fun z => hst_17.mpr ((st_f hGd (by omega) (by have z2 := t_ixn v3 hv.1; omega)).mpr z) c20
        refine wp_lp2 (fun M28 y4_28 => (0 ≤ y4_28.toInt) ∧ (∀ a i, ¬ ((a = 30 ∧ i = 3) ∨ a = 32 ∨ a = 33) → M28 a i = M a i) ∧ (LvI (FdC M b) v2.toInt M M28 v3 (ix y4_28)) ∧ (y4_28.toInt ≤ 40)) (fun M28 y4_28 => (40 - y4_28.toInt).toNat) (fun ag28 M28 y4_28 hI28 ih28 => ?_) FU M (nI 0) ⟨(by have f0 := t_lit 0; omega), (fun _ _ _ => rfl), (lv_0 hsc (by decide)), (by decide)⟩ (fu_lt (by have f0 := t_lit 0; omega))
        obtain ⟨hi28, hf_M28, hli, y40⟩ := hI28
        have F28 : FdC M28 b = (FdC M b) := fdc_fr (fun a i z1 z2 => hf_M28 a i (by unfold isF at hb; omega))
        have j62 : (40 ≤ y4_28.toInt) → Wp (f_X1_leave_L62 v3 M28) (fun q => (q.1 = 0 ∨ q.1 = 1) ∧ (∀ a i, ¬ ((a = 30 ∧ i = 3) ∨ a = 32 ∨ a = 33) → q.2 a i = M a i) ∧ (LvP (FdC M b) v2.toInt M q.2 v3 q.1)) := by
          intro h62
          unfold f_X1_leave_L62
          refine wp_bind2 (oh_X1_reach M28 v3 (v3 + (nI 40))) (fun M_2 he68 hq68 => ?_)
          obtain ⟨hg_M_2, hrc_68⟩ := hq68
          replace hrc_68 : RcP M28 M_2 v3 (v3 + (nI 40)) := hrc_68
          replace hg_M_2 : ∀ a i, ¬ ((a = 30 ∧ i = 3) ∨ a = 32 ∨ a = 33) → M_2 a i = M28 a i := hg_M_2
          exact wp_some ⟨b01_0, (fun a i q0 => ((hg_M_2 a i (fun z8 => q0 ((fun z9 => Or.elim z9 (fun h9 => Or.inl h9) (fun z9 => Or.elim z9 (fun h9 => Or.inr (Or.inl h9)) (fun h9 => Or.inr (Or.inr (h9))))) z8))).trans ((hf_M28 a i (fun z8 => q0 ((fun z9 => Or.elim z9 (fun h9 => Or.inl h9) (fun z9 => Or.elim z9 (fun h9 => Or.inr (Or.inl h9)) (fun h9 => Or.inr (Or.inr (h9))))) z8))).trans rfl))), (lv_e hli (by have z2 := t_ixn y4_28 (by omega); omega) nf hv hm hrc_68 nI0)⟩
        refine wp_ite (fun c32 => ?_) (fun c32 => ?_)
        · exact j62 c32
        · have u := i_up (x := y4_28) (by omega)
          have i4 := t_ixn y4_28 (by omega)
          have i3 := t_ixn v3 hv.1
          refine wp_bind2 (ow_X2_isStep hb M28 v3 y4_28 v2 (by rw [F28]; exact hGd) (by omega) (by omega) hs) (fun r_3 he40 hq40 => ?_)
          obtain ⟨hz_r_3, hst_40⟩ := hq40
          replace hst_40 : ¬ r_3.toInt = 0 ↔ stC (FdC M28 b) v2.toInt (ix v3) (ix y4_28) := hst_40
          rw [F28] at hst_40
          refine wp_ite (fun c43 => ?_) (fun c43 => ?_)
          · exact ih28 M28 (y4_28 + (nI 1)) ⟨(by have f0 := t_lit 1; have f1 := t_add y4_28 (nI 1); omega), (fun a i q0 => ((hf_M28 a i (fun z8 => q0 ((fun z9 => Or.elim z9 (fun h9 => Or.inl h9) (fun z9 => Or.elim z9 (fun h9 => Or.inr (Or.inl h9)) (fun h9 => Or.inr (Or.inr (h9))))) z8))).trans rfl)), (by rw [u.1]; exact lv_n hli (fun z => hst_40.mpr z c43) (by omega) (by omega)), (by rw [u.2]; omega)⟩ (by have f0 := t_lit 1; have f1 := t_add y4_28 (nI 1); omega)
          · refine wp_bind2 (oh_X1_reach M28 y4_28 (v3 + (nI 40))) (fun M_4 he53 hq53 => ?_)
            obtain ⟨hg_M_4, hrc_53⟩ := hq53
            replace hrc_53 : RcP M28 M_4 y4_28 (v3 + (nI 40)) := hrc_53
            replace hg_M_4 : ∀ a i, ¬ ((a = 30 ∧ i = 3) ∨ a = 32 ∨ a = 33) → M_4 a i = M28 a i := hg_M_4
            exact ih28 M_4 (y4_28 + (nI 1)) ⟨(by have f0 := t_lit 1; have f1 := t_add y4_28 (nI 1); omega), (fun a i q0 => ((hg_M_4 a i (fun z8 => q0 ((fun z9 => Or.elim z9 (fun h9 => Or.inl h9) (fun z9 => Or.elim z9 (fun h9 => Or.inr (Or.inl h9)) (fun h9 => Or.inr (Or.inr (h9))))) z8))).trans ((hf_M28 a i (fun z8 => q0 ((fun z9 => Or.elim z9 (fun h9 => Or.inl h9) (fun z9 => Or.elim z9 (fun h9 => Or.inr (Or.inl h9)) (fun h9 => Or.inr (Or.inr (h9))))) z8))).trans rfl))), (by rw [u.1]; exact lv_y hli (hst_40.mp c43) hv (by omega) hm hrc_53), (by rw [u.2]; omega)⟩ (by have f0 := t_lit 1; have f1 := t_add y4_28 (nI 1); omega)
      · exact wp_some ⟨b01_1, (fun _ _ _ => rfl), ⟨hsc, gr_r, fun _ => (st_f hGd (by omega) (by have z2 := t_ixn v3 hv.1; omega)).mp (hst_17.mp c20), fun z => absurd z ne1⟩⟩
    · exact wp_some ⟨b01_0, (fun _ _ _ => rfl), (False.elim (by omega))⟩
