theorem oh_X1_comeOn (M : Mem) (v1 : Int32) (g9 : Mem) (s9 : Int) (hsc : ScI g9 s9 M) (hv : 0 ≤ v1.toInt ∧ v1.toInt < 40) (hm : mtC M (ix v1)) : Wp (f_X1_comeOn M v1) (fun q => (∀ a i, ¬ ((a = 30 ∧ i = 3) ∨ a = 32 ∨ a = 33) → q a i = M a i) ∧ (CoP g9 s9 M q (ix v1))) := by
  refine wp_ite (fun c1 => ?_) (fun c1 => ?_)
  · exact wp_some ⟨(fun _ _ _ => rfl), (False.elim (by omega))⟩
  · refine wp_ite (fun c7 => ?_) (fun c7 => ?_)
    · refine wp_gd (by omega) ?_
      refine wp_ite (fun c18 => ?_) (fun c18 => ?_)
      · refine wp_bind2 (oh_X1_reach M (v1 + (nI 40)) v1) (fun M_2 he27 hq27 => ?_)
        obtain ⟨hg_M_2, hrc_27⟩ := hq27
        replace hrc_27 : RcP M M_2 (v1 + (nI 40)) v1 := hrc_27
        replace hg_M_2 : ∀ a i, ¬ ((a = 30 ∧ i = 3) ∨ a = 32 ∨ a = 33) → M_2 a i = M a i := hg_M_2
        exact wp_some ⟨(fun a i q0 => ((hg_M_2 a i (fun z8 => q0 ((fun z9 => Or.elim z9 (fun h9 => Or.inl h9) (fun z9 => Or.elim z9 (fun h9 => Or.inr (Or.inl h9)) (fun h9 => Or.inr (Or.inr (h9))))) z8))).trans rfl)), (cow_1 hsc hv hm c18 hrc_27)⟩
      · refine wp_gd (by omega) ?_
        refine wp_ite (fun c41 => ?_) (fun c41 => ?_)
        · exact wp_some ⟨(fun _ _ _ => rfl), (cow_2 hsc hv c41)⟩
        · refine wp_gd (by omega) ?_
          refine wp_bind2 (oh_X1_reach M ((M 31 (ix v1)) + (nI 40)) v1) (fun M_1 he55 hq55 => ?_)
          obtain ⟨hg_M_1, hrc_55⟩ := hq55
          replace hrc_55 : RcP M M_1 ((M 31 (ix v1)) + (nI 40)) v1 := hrc_55
          replace hg_M_1 : ∀ a i, ¬ ((a = 30 ∧ i = 3) ∨ a = 32 ∨ a = 33) → M_1 a i = M a i := hg_M_1
          exact wp_some ⟨(fun a i q0 => ((hg_M_1 a i (fun z8 => q0 ((fun z9 => Or.elim z9 (fun h9 => Or.inl h9) (fun z9 => Or.elim z9 (fun h9 => Or.inr (Or.inl h9)) (fun h9 => Or.inr (Or.inr (h9))))) z8))).trans rfl)), (cow_3 hsc hv hm c18 c41 hrc_55)⟩
    · exact wp_some ⟨(fun _ _ _ => rfl), (False.elim (by omega))⟩
