theorem oh_X1_reach (M : Mem) (v1 : Int32) (v2 : Int32) : Wp (f_X1_reach M v1 v2) (fun q => (∀ a i, ¬ ((a = 30 ∧ i = 3) ∨ a = 32 ∨ a = 33) → q a i = M a i) ∧ (RcP M q v1 v2)) := by
  refine wp_ite (fun c1 => ?_) (fun c1 => ?_)
  · exact wp_some ⟨(fun _ _ _ => rfl), (Or.inr ⟨fun z => absurd z.1.1 (by omega), rfl⟩)⟩
  · refine wp_ite (fun c7 => ?_) (fun c7 => ?_)
    · exact wp_some ⟨(fun _ _ _ => rfl), (Or.inr ⟨fun z => absurd z.1.2 (by omega), rfl⟩)⟩
    · refine wp_ite (fun c14 => ?_) (fun c14 => ?_)
      · exact wp_some ⟨(fun _ _ _ => rfl), (Or.inr ⟨fun z => absurd z.2.1.1 (by omega), rfl⟩)⟩
      · refine wp_ite (fun c23 => ?_) (fun c23 => ?_)
        · exact wp_some ⟨(fun _ _ _ => rfl), (Or.inr ⟨fun z => absurd z.2.1.2 (by omega), rfl⟩)⟩
        · refine wp_gd (by omega) ?_
          refine wp_ite (fun c33 => ?_) (fun c33 => ?_)
          · refine wp_gd (by omega) ?_
            refine wp_bnd (fun M_1 eM_1 => ?_)
            refine wp_gd (by have f0 := congrArg Int32.toInt ((congrFun (congrFun eM_1 30) 3).trans (mset_ne (by first | exact nz1 (by decide) | exact nz2 (by decide) | exact nz1 (nzA hc0 (by decide)) | exact nz1 (nzE (by decide)) | exact nz1 (nzB hc0 (by decide)) | exact nz1 (nzC hc0 (by decide)) | exact nz1 (nzD hc0 (by decide)) | exact nz1 (nzF (by decide)) | exact nz1 (nzG (by decide)) | omega))); omega) ?_
            refine wp_bnd (fun M_2 eM_2 => ?_)
            refine wp_bnd (fun M_3 eM_3 => ?_)
            exact wp_some ⟨(fun a i q0 => ((congrFun (congrFun eM_3 a) i).trans ((mset_ne (fun h9 => q0 (Or.inl h9))).trans ((congrFun (congrFun eM_2 a) i).trans ((mset_ne (fun h9 => q0 (Or.inr (Or.inr ((h9).1))))).trans ((congrFun (congrFun eM_1 a) i).trans ((mset_ne (fun h9 => q0 (Or.inr (Or.inl (h9).1)))).trans rfl))))))), (Or.inl ⟨⟨⟨by omega, by omega⟩, ⟨by omega, by omega⟩, c33⟩, by have e30 : M_1 30 3 = M 30 3 := (by rw [eM_1, mset_ne (by first | exact nz1 (by decide) | exact nz2 (by decide) | exact nz1 (nzA hc0 (by decide)) | exact nz1 (nzE (by decide)) | exact nz1 (nzB hc0 (by decide)) | exact nz1 (nzC hc0 (by decide)) | exact nz1 (nzD hc0 (by decide)) | exact nz1 (nzF (by decide)) | exact nz1 (nzG (by decide)) | omega)]); have e31 : M_2 30 3 = M 30 3 := (by rw [eM_2, mset_ne (by first | exact nz1 (by decide) | exact nz2 (by decide) | exact nz1 (nzA hc0 (by decide)) | exact nz1 (nzE (by decide)) | exact nz1 (nzB hc0 (by decide)) | exact nz1 (nzC hc0 (by decide)) | exact nz1 (nzD hc0 (by decide)) | exact nz1 (nzF (by decide)) | exact nz1 (nzG (by decide)) | omega), e30]); rw [eM_3, e31, eM_2, e30, eM_1]⟩)⟩
          · exact wp_some ⟨(fun _ _ _ => rfl), (Or.inr ⟨fun z => absurd z.2.2 c33, rfl⟩)⟩
