theorem oh_X1_join (M : Mem) (v1 : Int32) (v2 : Int32) : Wp (f_X1_join M v1 v2) (fun q => (∀ a i, ¬ (a = 31) → q a i = M a i) ∧ (JnP M q v1 v2)) := by
  refine wp_ite (fun c1 => ?_) (fun c1 => ?_)
  · exact wp_some ⟨(fun _ _ _ => rfl), (Or.inl ⟨by omega, rfl⟩)⟩
  · refine wp_ite (fun c7 => ?_) (fun c7 => ?_)
    · exact wp_some ⟨(fun _ _ _ => rfl), (Or.inl ⟨by omega, rfl⟩)⟩
    · have j25 : ∀ (t0_25 : Int32), ((v2.toInt = v1.toInt ∧ t0_25 = -1) ∨ (¬ v2.toInt = v1.toInt ∧ t0_25 = v1)) → Wp (f_X1_join_L25 M v2 t0_25) (fun q => (∀ a i, ¬ (a = 31) → q a i = M a i) ∧ (JnP M q v1 v2)) := by
        intro t0_25 h25
        unfold f_X1_join_L25
        refine wp_gd (by omega) ?_
        refine wp_bnd (fun M_1 eM_1 => ?_)
        exact wp_some ⟨(fun a i q0 => ((congrFun (congrFun eM_1 a) i).trans ((mset_ne (fun h9 => q0 ((h9).1))).trans rfl))), (Or.inr ⟨⟨by omega, by omega⟩, h25.elim (fun z => Or.inl ⟨z.1, by rw [eM_1, z.2]⟩) (fun z => Or.inr ⟨z.1, by rw [eM_1, z.2]⟩)⟩)⟩
      refine wp_ite (fun c17 => ?_) (fun c17 => ?_)
      · exact j25 (-1) (Or.inl ⟨c17, rfl⟩)
      · exact j25 v1 (Or.inr ⟨c17, rfl⟩)
