set_option maxHeartbeats 2000000 in
theorem od_X8_driestWay {b : Nat} (hb : isF b) (M : Mem) (v2 : Int32) (v3 : Int32) (hGd : GdF (FdC M b)) (hs : 1 ≤ v2.toInt ∧ v2.toInt ≤ 30) : Wp (f_X8_driestWay b M v2 v3) (fun q => (∀ a i, ¬ (a = 28 ∨ a = 29) → q.2 a i = M a i) ∧ (DrP (FdC M b) v2.toInt v3.toInt q.1.toInt)) := by
  have hb0 : b = 1 ∨ b = 7 ∨ b = 13 := hb
  refine wp_lp2 (fun M3 y4_3 => (0 ≤ y4_3.toInt) ∧ (∀ a i, ¬ (a = 28 ∨ a = 29) → M3 a i = M a i) ∧ (∀ j, j < ix y4_3 → (M3 28 j).toInt = -1 ∧ (M3 29 j).toInt = 0) ∧ (y4_3.toInt ≤ 42)) (fun M3 y4_3 => (42 - y4_3.toInt).toNat) (fun ag3 M3 y4_3 hI3 ih3 => ?_) FU M (nI 0) ⟨(by have f0 := t_lit 0; omega), (fun _ _ _ => rfl), (fun j hj => absurd hj (by rw [show ix (nI 0) = 0 from (by decide)]; exact Nat.not_lt_zero _)), (by decide)⟩ (fu_lt (by have f0 := t_lit 0; omega))
  obtain ⟨hi3, hf_M3, hin, y43a⟩ := hI3
  have j32 : (∀ j, j < 42 → (M3 28 j).toInt = -1 ∧ (M3 29 j).toInt = 0) → Wp (f_X8_driestWay_L32 b v2 v3 M3) (fun q => (∀ a i, ¬ (a = 28 ∨ a = 29) → q.2 a i = M a i) ∧ (DrP (FdC M b) v2.toInt v3.toInt q.1.toInt)) := by
    intro h32
    unfold f_X8_driestWay_L32
    refine wp_bnd (fun M_1 eM_1 => ?_)
    refine wp_lp2 (fun M43 y4_43 => (0 ≤ y4_43.toInt) ∧ (∀ a i, ¬ (a = 28 ∨ a = 29) → M43 a i = M_1 a i) ∧ (DjI (FdC M b) v2.toInt (M43 28) (M43 29) (ix y4_43)) ∧ (y4_43.toInt ≤ 42)) (fun M43 y4_43 => (42 - y4_43.toInt).toNat) (fun ag43 M43 y4_43 hI43 ih43 => ?_) FU M_1 (nI 0) ⟨(by have f0 := t_lit 0; omega), (fun _ _ _ => rfl), (by rw [show ix (nI 0) = 0 from (by decide)]; exact dj_0 (fun v hv => by rw [eM_1, mset_ne (by first | exact nz1 (by decide) | exact nz2 (by decide) | exact nz1 (nzA hc0 (by decide)) | exact nz1 (nzE (by decide)) | exact nz1 (nzB hc0 (by decide)) | exact nz1 (nzC hc0 (by decide)) | exact nz1 (nzD hc0 (by decide)) | exact nz1 (nzF (by decide)) | exact nz1 (nzG (by decide)) | omega)]; exact (h32 v hv).2) (fun v hv q => by rw [eM_1, mset_ne (fun z => q z.2)]; exact (h32 v hv).1) (by rw [eM_1, mset_eq]; exact nI0)), (by decide)⟩ (fu_lt (by have f0 := t_lit 0; omega))
    obtain ⟨hi43, hf_M43, hdj, y43b⟩ := hI43
    have j79 : (DjX (FdC M b) v2.toInt (M43 28) (M43 29)) → Wp (f_X8_driestWay_L79 v3 M43) (fun q => (∀ a i, ¬ (a = 28 ∨ a = 29) → q.2 a i = M a i) ∧ (DrP (FdC M b) v2.toInt v3.toInt q.1.toInt)) := by
      intro h79
      unfold f_X8_driestWay_L79
      refine wp_ite (fun c87 => ?_) (fun c87 => ?_)
      · exact wp_some ⟨(fun a i q0 => ((hf_M43 a i (fun z8 => q0 ((fun z9 => Or.elim z9 (fun h9 => Or.inl h9) (fun h9 => Or.inr (h9))) z8))).trans ((congrFun (congrFun eM_1 a) i).trans ((mset_ne (fun h9 => q0 (Or.inl (h9).1))).trans ((hf_M3 a i (fun z8 => q0 ((fun z9 => Or.elim z9 (fun h9 => Or.inl h9) (fun h9 => Or.inr (h9))) z8))).trans rfl))))), (Or.inr ⟨(dj_x hGd h79).1 c87, (show (-2 : Int32).toInt = -2 by decide)⟩)⟩
      · refine wp_ite (fun c94 => ?_) (fun c94 => ?_)
        · exact wp_some ⟨(fun a i q0 => ((hf_M43 a i (fun z8 => q0 ((fun z9 => Or.elim z9 (fun h9 => Or.inl h9) (fun h9 => Or.inr (h9))) z8))).trans ((congrFun (congrFun eM_1 a) i).trans ((mset_ne (fun h9 => q0 (Or.inl (h9).1))).trans ((hf_M3 a i (fun z8 => q0 ((fun z9 => Or.elim z9 (fun h9 => Or.inl h9) (fun h9 => Or.inr (h9))) z8))).trans rfl))))), (dr_v ((dj_x hGd h79).2 c87) (if_pos c94).symm)⟩
        · exact wp_some ⟨(fun a i q0 => ((hf_M43 a i (fun z8 => q0 ((fun z9 => Or.elim z9 (fun h9 => Or.inl h9) (fun h9 => Or.inr (h9))) z8))).trans ((congrFun (congrFun eM_1 a) i).trans ((mset_ne (fun h9 => q0 (Or.inl (h9).1))).trans ((hf_M3 a i (fun z8 => q0 ((fun z9 => Or.elim z9 (fun h9 => Or.inl h9) (fun h9 => Or.inr (h9))) z8))).trans rfl))))), (dr_v ((dj_x hGd h79).2 c87) (if_neg c94).symm)⟩
    refine wp_ite (fun c47 => ?_) (fun c47 => ?_)
    · exact j79 ⟨_, hdj, Or.inl (by have z := t_ixn y4_43 (by omega); omega)⟩
    · have u2 := i_up (x := y4_43) (by omega)
      have F43 : FdC M43 b = (FdC M b) := fdc_fr (fun a i z1 z2 => (hf_M43 a i (by unfold isF at hb; omega)).trans ((show M_1 a i = M3 a i from by rw [eM_1, mset_ne (by unfold isF at hb; omega)]).trans (hf_M3 a i (by unfold isF at hb; omega))))
      refine wp_bind2 (od_X8_cheapest M43) (fun r_2 he51 hq51 => ?_)
      have hcp_51 := hq51
      replace hcp_51 : ChP (M43 28) (M43 29) r_2 := hcp_51
      have j62 : (∀ x, x < 42 → (M43 29 x).toInt = 0 → (M43 28 x).toInt = -1) → Wp (f_X8_driestWay_L62 v3 M43) (fun q => (∀ a i, ¬ (a = 28 ∨ a = 29) → q.2 a i = M a i) ∧ (DrP (FdC M b) v2.toInt v3.toInt q.1.toInt)) := by
        intro h62
        unfold f_X8_driestWay_L62
        exact j79 ⟨_, hdj, Or.inr h62⟩
      refine wp_ite (fun c59 => ?_) (fun c59 => ?_)
      · exact j62 (hcp_51.resolve_right (fun z => by have z2 := z.1; omega)).2
      · have ch := hcp_51.resolve_left (fun z => c59 z.1)
        have ch1 := ch.1
        have ir := t_ixn r_2 ch1.1
        refine wp_bind2 (od_X8_settle hb M43 v2 r_2 (by rw [F43]; exact hGd) hs ch1 (dj_b hGd hdj)) (fun M_3 he70 hq70 => ?_)
        obtain ⟨hg_M_3, hse_70⟩ := hq70
        replace hse_70 : SeP (FdC M43 b) v2.toInt (ix r_2) 42 (M43 28) (M43 29) (M_3 28) (M_3 29) := hse_70
        replace hg_M_3 : ∀ a i, ¬ (a = 28 ∨ a = 29) → M_3 a i = M43 a i := by exact fun a i q0 => hg_M_3 a i (by first | decide | (rcases hc0 with h | h <;> rw [h] <;> simp; done) | (rcases hb0 with h | h | h <;> rw [h] <;> simp; done) | (simp; done) | omega)
        rw [F43] at hse_70
        exact ih43 M_3 (y4_43 + (nI 1)) ⟨(by have f0 := t_lit 1; have f1 := t_add y4_43 (nI 1); omega), (fun a i q0 => ((hg_M_3 a i (fun z8 => q0 ((fun z9 => Or.elim z9 (fun h9 => Or.inl h9) (fun h9 => Or.inr (h9))) z8))).trans ((hf_M43 a i (fun z8 => q0 ((fun z9 => Or.elim z9 (fun h9 => Or.inl h9) (fun h9 => Or.inr (h9))) z8))).trans rfl))), (by rw [u2.1]; exact dj_s hGd hdj (by omega) ch.2.1 ch.2.2.1 ch.2.2.2 hse_70), (by rw [u2.2]; omega)⟩ (by have f0 := t_lit 1; have f1 := t_add y4_43 (nI 1); omega)
  refine wp_ite (fun c7 => ?_) (fun c7 => ?_)
  · exact j32 (fun j hj => hin j (by have z := t_ixn y4_3 (by omega); omega))
  · have u := i_up (x := y4_3) (by omega)
    have i4 := t_ixn y4_3 (by omega)
    refine wp_gd (by omega) ?_
    refine wp_bnd (fun M_4 eM_4 => ?_)
    refine wp_gd (by omega) ?_
    refine wp_bnd (fun M_5 eM_5 => ?_)
    exact ih3 M_5 (y4_3 + (nI 1)) ⟨(by have f0 := t_lit 1; have f1 := t_add y4_3 (nI 1); omega), (fun a i q0 => ((congrFun (congrFun eM_5 a) i).trans ((mset_ne (fun h9 => q0 (Or.inr ((h9).1)))).trans ((congrFun (congrFun eM_4 a) i).trans ((mset_ne (fun h9 => q0 (Or.inl (h9).1))).trans ((hf_M3 a i (fun z8 => q0 ((fun z9 => Or.elim z9 (fun h9 => Or.inl h9) (fun h9 => Or.inr (h9))) z8))).trans rfl)))))), (fun j hj => by rw [u.1] at hj; by_cases c : j = ix y4_3; (rw [c]; exact ⟨by rw [eM_5, mset_ne (by first | exact nz1 (by decide) | exact nz2 (by decide) | exact nz1 (nzA hc0 (by decide)) | exact nz1 (nzE (by decide)) | exact nz1 (nzB hc0 (by decide)) | exact nz1 (nzC hc0 (by decide)) | exact nz1 (nzD hc0 (by decide)) | exact nz1 (nzF (by decide)) | exact nz1 (nzG (by decide)) | omega), eM_4, mset_eq]; decide, by rw [eM_5, mset_eq]; decide⟩); (have z := hin j (by omega); exact ⟨by rw [eM_5, mset_ne (by first | exact nz1 (by decide) | exact nz2 (by decide) | exact nz1 (nzA hc0 (by decide)) | exact nz1 (nzE (by decide)) | exact nz1 (nzB hc0 (by decide)) | exact nz1 (nzC hc0 (by decide)) | exact nz1 (nzD hc0 (by decide)) | exact nz1 (nzF (by decide)) | exact nz1 (nzG (by decide)) | omega), eM_4, mset_ne (by first | exact nz1 (by decide) | exact nz2 (by decide) | exact nz1 (nzA hc0 (by decide)) | exact nz1 (nzE (by decide)) | exact nz1 (nzB hc0 (by decide)) | exact nz1 (nzC hc0 (by decide)) | exact nz1 (nzD hc0 (by decide)) | exact nz1 (nzF (by decide)) | exact nz1 (nzG (by decide)) | omega)]; exact z.1, by rw [eM_5, mset_ne (by first | exact nz1 (by decide) | exact nz2 (by decide) | exact nz1 (nzA hc0 (by decide)) | exact nz1 (nzE (by decide)) | exact nz1 (nzB hc0 (by decide)) | exact nz1 (nzC hc0 (by decide)) | exact nz1 (nzD hc0 (by decide)) | exact nz1 (nzF (by decide)) | exact nz1 (nzG (by decide)) | omega), eM_4, mset_ne (by first | exact nz1 (by decide) | exact nz2 (by decide) | exact nz1 (nzA hc0 (by decide)) | exact nz1 (nzE (by decide)) | exact nz1 (nzB hc0 (by decide)) | exact nz1 (nzC hc0 (by decide)) | exact nz1 (nzD hc0 (by decide)) | exact nz1 (nzF (by decide)) | exact nz1 (nzG (by decide)) | omega)]; exact z.2⟩)), (by rw [u.2]; omega)⟩ (by have f0 := t_lit 1; have f1 := t_add y4_3 (nI 1); omega)
