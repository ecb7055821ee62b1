set_option maxHeartbeats 8000000 in
theorem ok2_X10_walk (M : Mem) (v1 : Int32) (v2 : Int32) (v3 : Int32) (v4 : Int32) (ht : 0 ≤ (M 0 6).toInt ∧ (M 0 6).toInt ≤ 260) (hGd : GdF (FdR M 1)) (hSr : SrR M) : Wp (f_X10_walk M v1 v2 v3 v4) (fun q => (∀ a i, ¬ ((a = 0 ∧ i = 6) ∨ (a = 0 ∧ i = 7) ∨ (a = 0 ∧ i = 8) ∨ (a = 0 ∧ i = 9) ∨ (a = 0 ∧ i = 10) ∨ (a = 0 ∧ i = 12) ∨ (a = 0 ∧ i = 14) ∨ (a = 0 ∧ i = 49) ∨ (a = 0 ∧ i = 50) ∨ a = 32 ∨ a = 33 ∨ a = 34 ∨ a = 35) → q.2 a i = M a i) ∧ (0 ≤ (q.2 0 6).toInt ∧ (q.2 0 6).toInt ≤ 260) ∧ ((q.2 0 6).toInt = (if ((0 ≤ v1.toInt ∧ v1.toInt < 8) ∧ ((shr (M 0 4) v1) &&& (nI 1)).toInt = 1) ∧ (0 ≤ v2.toInt ∧ v2.toInt ≤ 39) ∧ (0 ≤ v4.toInt ∧ v4.toInt ≤ 3) ∧ 1 ≤ v3.toInt ∧ v3.toInt ≤ 60 ∧ v3.toInt ≤ (M 0 6).toInt then 0 else (M 0 6).toInt)) ∧ (PqP (TpR M v1 ∧ WkW v2.toInt v4.toInt v3.toInt (M 0 6).toInt) (WkQ (FdR M 1) (M 4 (ix v1)).toInt (txt (fun j => ((M 5 j) &&& (nI 255)).toInt) v3.toInt) v2.toInt v4.toInt q.1.toInt) q.1)) := by
  obtain ⟨T, eT⟩ : ∃ T : Int → Int, (txt (fun j => ((M 5 j) &&& (nI 255)).toInt) v3.toInt) = T := ⟨_, rfl⟩
  refine wp_bind2 (oq_X10_isPerson M v1) (fun r_1 he2 hq2 => ?_)
  obtain ⟨hz_r_1, hr_2, hi_2⟩ := hq2
  replace hr_2 : ¬ r_1.toInt = 0 → 0 ≤ v1.toInt ∧ v1.toInt < 8 := hr_2
  replace hi_2 : ¬ r_1.toInt = 0 ↔ TpR M v1 := hi_2
  have hi2 := hi_2
  unfold TpR at hi2
  refine wp_ite (fun c5 => ?_) (fun c5 => ?_)
  · exact wp_some ⟨(fun _ _ _ => rfl), (by show 0 ≤ (M 0 6).toInt ∧ (M 0 6).toInt ≤ 260; have f0 := (by decide : ((-1 : Int32)).toInt = -1); omega), (by show (M 0 6).toInt = _; rw [if_neg (by omega)]), (pq_n (fun z => hi_2.mpr z.1 c5) rfl)⟩
  · have ht := hi_2.mp c5
    have sr := hSr v1 ht
    refine wp_bind2 (o2_X10_in M v2 (nI 0) (nI 39)) (fun r_2 he12 hq12 => ?_)
    obtain ⟨hz_r_2, hr_12, hi_12⟩ := hq12
    replace hr_12 : ¬ r_2.toInt = 0 → (nI 0).toInt ≤ v2.toInt ∧ v2.toInt ≤ (nI 39).toInt := hr_12
    have := t_lit 0
    have := t_lit 39
    replace hi_12 : ¬ r_2.toInt = 0 ↔ (nI 0).toInt ≤ v2.toInt ∧ v2.toInt ≤ (nI 39).toInt := hi_12
    have := t_lit 0
    have := t_lit 39
    refine wp_ite (fun c15 => ?_) (fun c15 => ?_)
    · exact wp_some ⟨(fun _ _ _ => rfl), (by show 0 ≤ (M 0 6).toInt ∧ (M 0 6).toInt ≤ 260; have f0 := (by decide : ((-1 : Int32)).toInt = -1); omega), (by show (M 0 6).toInt = _; rw [if_neg (by omega)]), (pq_n (fun z => hi_12.mpr (by have f0 := t_lit 0; have f1 := t_lit 39; have q := z.2.1; omega) c15) rfl)⟩
    · refine wp_bind2 (o2_X10_in M v3 (nI 1) (nI 60)) (fun r_3 he22 hq22 => ?_)
      obtain ⟨hz_r_3, hr_22, hi_22⟩ := hq22
      replace hr_22 : ¬ r_3.toInt = 0 → (nI 1).toInt ≤ v3.toInt ∧ v3.toInt ≤ (nI 60).toInt := hr_22
      have := t_lit 1
      have := t_lit 60
      replace hi_22 : ¬ r_3.toInt = 0 ↔ (nI 1).toInt ≤ v3.toInt ∧ v3.toInt ≤ (nI 60).toInt := hi_22
      have := t_lit 1
      have := t_lit 60
      have fl1 := t_lit 1
      have fl60 := t_lit 60
      refine wp_ite (fun c25 => ?_) (fun c25 => ?_)
      · exact wp_some ⟨(fun _ _ _ => rfl), (by show 0 ≤ (M 0 6).toInt ∧ (M 0 6).toInt ≤ 260; have f0 := (by decide : ((-1 : Int32)).toInt = -1); omega), (by show (M 0 6).toInt = _; rw [if_neg (by omega)]), (pq_n (fun z => hi_22.mpr (by have f0 := t_lit 1; have f1 := t_lit 60; have q := z.2.2.2.1; omega) c25) rfl)⟩
      · refine wp_bind2 (o2_X10_in M v4 (nI 0) (nI 3)) (fun r_4 he32 hq32 => ?_)
        obtain ⟨hz_r_4, hr_32, hi_32⟩ := hq32
        replace hr_32 : ¬ r_4.toInt = 0 → (nI 0).toInt ≤ v4.toInt ∧ v4.toInt ≤ (nI 3).toInt := hr_32
        have := t_lit 0
        have := t_lit 3
        replace hi_32 : ¬ r_4.toInt = 0 ↔ (nI 0).toInt ≤ v4.toInt ∧ v4.toInt ≤ (nI 3).toInt := hi_32
        have := t_lit 0
        have := t_lit 3
        refine wp_ite (fun c35 => ?_) (fun c35 => ?_)
        · exact wp_some ⟨(fun _ _ _ => rfl), (by show 0 ≤ (M 0 6).toInt ∧ (M 0 6).toInt ≤ 260; have f0 := (by decide : ((-1 : Int32)).toInt = -1); omega), (by show (M 0 6).toInt = _; rw [if_neg (by omega)]), (pq_n (fun z => hi_32.mpr (by have f0 := t_lit 0; have f1 := t_lit 3; have q := z.2.2.1; omega) c35) rfl)⟩
        · refine wp_ite (fun c43 => ?_) (fun c43 => ?_)
          · have hPP : TpR M v1 ∧ WkW v2.toInt v4.toInt v3.toInt (M 0 6).toInt := by
              have a1 := hi_12.mp c15
              have a2 := hi_22.mp c25
              have a3 := hi_32.mp c35
              have l0 := t_lit 0
              have l1 := t_lit 1
              have l3 := t_lit 3
              have l39 := t_lit 39
              have l60 := t_lit 60
              exact ⟨ht, ⟨by omega, by omega⟩, ⟨by omega, by omega⟩, ⟨by omega, by omega⟩, c43⟩
            have ht2 := ht
            unfold TpR at ht2
            have b2 := hPP.2.1
            have b4 := hPP.2.2.1
            have bv := hPP.2.2.2.1
            clear hi2 hi_2 hi_12 hi_22 hi_32 hr_2 hr_12 hr_22 hr_32 hz_r_1 hz_r_2 hz_r_3 hz_r_4
            have w3 : ¬ v4.toInt = 0 → ¬ v4.toInt = 1 → ¬ v4.toInt = 2 → v4.toInt = 3 := fun a b d => by omega
            refine wp_bind2 (o_X10_beginsText M v3) (fun M_5 he50 hq50 => ?_)
            obtain ⟨hg_M_5, hb_50⟩ := hq50
            replace hb_50 : (M_5 0 7).toInt = 0 ∧ (M_5 0 8).toInt = v3.toInt := hb_50
            replace hg_M_5 : ∀ a i, ¬ ((a = 0 ∧ i = 7) ∨ (a = 0 ∧ i = 8) ∨ (a = 0 ∧ i = 12) ∨ (a = 0 ∧ i = 14)) → M_5 a i = M a i := hg_M_5
            refine wp_bnd (fun M_6 eM_6 => ?_)
            refine wp_bnd (fun M_7 eM_7 => ?_)
            have a7 : (M_7 0 7).toInt = 0 := by rw [eM_7, mset_ne (by first | exact nz1 (by decide) | exact nz2 (by decide) | exact nz1 (nzA hc0 (by decide)) | exact nz1 (nzE (by decide)) | exact nz1 (nzB hc0 (by decide)) | exact nz1 (nzC hc0 (by decide)) | exact nz1 (nzD hc0 (by decide)) | exact nz1 (nzF (by decide)) | exact nz1 (nzG (by decide)) | omega), eM_6, mset_ne (by first | exact nz1 (by decide) | exact nz2 (by decide) | exact nz1 (nzA hc0 (by decide)) | exact nz1 (nzE (by decide)) | exact nz1 (nzB hc0 (by decide)) | exact nz1 (nzC hc0 (by decide)) | exact nz1 (nzD hc0 (by decide)) | exact nz1 (nzF (by decide)) | exact nz1 (nzG (by decide)) | omega)]; exact hb_50.1
            have a8 : (M_7 0 8).toInt = v3.toInt := by rw [eM_7, mset_ne (by first | exact nz1 (by decide) | exact nz2 (by decide) | exact nz1 (nzA hc0 (by decide)) | exact nz1 (nzE (by decide)) | exact nz1 (nzB hc0 (by decide)) | exact nz1 (nzC hc0 (by decide)) | exact nz1 (nzD hc0 (by decide)) | exact nz1 (nzF (by decide)) | exact nz1 (nzG (by decide)) | omega), eM_6, mset_ne (by first | exact nz1 (by decide) | exact nz2 (by decide) | exact nz1 (nzA hc0 (by decide)) | exact nz1 (nzE (by decide)) | exact nz1 (nzB hc0 (by decide)) | exact nz1 (nzC hc0 (by decide)) | exact nz1 (nzD hc0 (by decide)) | exact nz1 (nzF (by decide)) | exact nz1 (nzG (by decide)) | omega)]; exact hb_50.2
            have a50 : (M_7 0 50).toInt = 0 := by rw [eM_7, mset_eq]; exact nI0
            have a49 : (M_7 0 49).toInt = 0 := by rw [eM_7, mset_ne (by first | exact nz1 (by decide) | exact nz2 (by decide) | exact nz1 (nzA hc0 (by decide)) | exact nz1 (nzE (by decide)) | exact nz1 (nzB hc0 (by decide)) | exact nz1 (nzC hc0 (by decide)) | exact nz1 (nzD hc0 (by decide)) | exact nz1 (nzF (by decide)) | exact nz1 (nzG (by decide)) | omega), eM_6, mset_eq]; exact nI0
            have hT7 : TXr M_7 = T := by
              rw [← eT]
              unfold TXr
              rw [a8, show M_7 5 = M 5 from funext (fun j => by rw [eM_7, mset_ne (by first | exact nz1 (by decide) | exact nz2 (by decide) | exact nz1 (nzA hc0 (by decide)) | exact nz1 (nzE (by decide)) | exact nz1 (nzB hc0 (by decide)) | exact nz1 (nzC hc0 (by decide)) | exact nz1 (nzD hc0 (by decide)) | exact nz1 (nzF (by decide)) | exact nz1 (nzG (by decide)) | omega), eM_6, mset_ne (by first | exact nz1 (by decide) | exact nz2 (by decide) | exact nz1 (nzA hc0 (by decide)) | exact nz1 (nzE (by decide)) | exact nz1 (nzB hc0 (by decide)) | exact nz1 (nzC hc0 (by decide)) | exact nz1 (nzD hc0 (by decide)) | exact nz1 (nzF (by decide)) | exact nz1 (nzG (by decide)) | omega), hg_M_5 5 j (by first | decide | (rcases hc0 with h | h <;> rw [h] <;> simp; done) | (rcases hb0 with h | h | h <;> rw [h] <;> simp; done) | (simp; done) | omega)])]
            have z49 : M_7 0 49 = nI 0 := by rw [eM_7, mset_ne (by first | exact nz1 (by decide) | exact nz2 (by decide) | exact nz1 (nzA hc0 (by decide)) | exact nz1 (nzE (by decide)) | exact nz1 (nzB hc0 (by decide)) | exact nz1 (nzC hc0 (by decide)) | exact nz1 (nzD hc0 (by decide)) | exact nz1 (nzF (by decide)) | exact nz1 (nzG (by decide)) | omega), eM_6, mset_eq]
            have z50 : ix (M_7 0 50) = 0 := by rw [eM_7, mset_eq]; decide
            have s7 : sWr M_7 = wk0 := by
              unfold sWr wst wk0
              rw [z49, a7, show ix (nI 0) = 0 from by decide, msk_0]
            have W0 : denW T (PR M_7) (AR M_7) (ix (M_7 0 50)) (sWr M_7) = walkA T := by
              rw [z50, s7]
              exact den_0
            refine wp_cb2 (ok2_X10_readsWalk M_7 T hT7 (by omega) (fun t ht9 => absurd ht9 (by rw [z50]; omega)) (by omega) (by omega) (fun j hj => absurd hj (by omega))) (fun r_8 M_9 he64 hq64 => ?_)
            obtain ⟨hz_r_8, hg_M_9, hp_64, hw_64, hq_64⟩ := hq64
            replace hp_64 : (M_7 0 7).toInt ≤ (M_9 0 7).toInt ∧ (M_9 0 7).toInt ≤ (M_7 0 8).toInt := hp_64
            replace hw_64 : ¬ r_8.toInt = 0 → 0 ≤ (M_9 0 49).toInt ∧ (M_9 0 49).toInt ≤ 60 := hw_64
            replace hq_64 : LwP (denW T (PR M_7) (AR M_7) (ix (M_7 0 50)) (sWr M_7)) r_8.toInt (M_9 0 9).toInt (sWr M_9) := hq_64
            replace hg_M_9 : ∀ a i, ¬ ((a = 0 ∧ i = 7) ∨ (a = 0 ∧ i = 9) ∨ (a = 0 ∧ i = 10) ∨ (a = 0 ∧ i = 49) ∨ (a = 0 ∧ i = 50) ∨ a = 32 ∨ a = 33 ∨ a = 34 ∨ a = 35) → M_9 a i = M_7 a i := hg_M_9
            refine wp_bnd (fun M_10 eM_10 => ?_)
            have b49 := congrArg Int32.toInt ((congrFun (congrFun eM_10 0) 49).trans (mset_ne (by first | exact nz1 (by decide) | exact nz2 (by decide) | exact nz1 (nzA hc0 (by decide)) | exact nz1 (nzE (by decide)) | exact nz1 (nzB hc0 (by decide)) | exact nz1 (nzC hc0 (by decide)) | exact nz1 (nzD hc0 (by decide)) | exact nz1 (nzF (by decide)) | exact nz1 (nzG (by decide)) | omega)))
            refine wp_ite (fun c76 => ?_) (fun c76 => ?_)
            · exact wp_some ⟨(fun a i q0 => ((congrFun (congrFun eM_10 a) i).trans ((mset_ne (fun h9 => q0 (Or.inl h9))).trans ((hg_M_9 a i (fun z8 => q0 ((fun z9 => Or.elim z9 (fun h9 => Or.inr (Or.inl h9)) (fun z9 => Or.elim z9 (fun h9 => Or.inr (Or.inr (Or.inr (Or.inl h9)))) (fun z9 => Or.elim z9 (fun h9 => Or.inr (Or.inr (Or.inr (Or.inr (Or.inl h9))))) (fun z9 => Or.elim z9 (fun h9 => Or.inr (Or.inr (Or.inr (Or.inr (Or.inr (Or.inr (Or.inr (Or.inl h9)))))))) (fun z9 => Or.elim z9 (fun h9 => Or.inr (Or.inr (Or.inr (Or.inr (Or.inr (Or.inr (Or.inr (Or.inr (Or.inl h9))))))))) (fun z9 => Or.elim z9 (fun h9 => Or.inr (Or.inr (Or.inr (Or.inr (Or.inr (Or.inr (Or.inr (Or.inr (Or.inr (Or.inl h9)))))))))) (fun z9 => Or.elim z9 (fun h9 => Or.inr (Or.inr (Or.inr (Or.inr (Or.inr (Or.inr (Or.inr (Or.inr (Or.inr (Or.inr (Or.inl h9))))))))))) (fun z9 => Or.elim z9 (fun h9 => Or.inr (Or.inr (Or.inr (Or.inr (Or.inr (Or.inr (Or.inr (Or.inr (Or.inr (Or.inr (Or.inr (Or.inl h9)))))))))))) (fun h9 => Or.inr (Or.inr (Or.inr (Or.inr (Or.inr (Or.inr (Or.inr (Or.inr (Or.inr (Or.inr (Or.inr (Or.inr (h9))))))))))))))))))))) z8))).trans ((congrFun (congrFun eM_7 a) i).trans ((mset_ne (fun h9 => q0 (Or.inr (Or.inr (Or.inr (Or.inr (Or.inr (Or.inr (Or.inr (Or.inr (Or.inl h9))))))))))).trans ((congrFun (congrFun eM_6 a) i).trans ((mset_ne (fun h9 => q0 (Or.inr (Or.inr (Or.inr (Or.inr (Or.inr (Or.inr (Or.inr (Or.inl h9)))))))))).trans ((hg_M_5 a i (fun z8 => q0 ((fun z9 => Or.elim z9 (fun h9 => Or.inr (Or.inl h9)) (fun z9 => Or.elim z9 (fun h9 => Or.inr (Or.inr (Or.inl h9))) (fun z9 => Or.elim z9 (fun h9 => Or.inr (Or.inr (Or.inr (Or.inr (Or.inr (Or.inl h9)))))) (fun h9 => Or.inr (Or.inr (Or.inr (Or.inr (Or.inr (Or.inr (Or.inl h9)))))))))) z8))).trans rfl))))))))), (by show 0 ≤ (M_10 0 6).toInt ∧ (M_10 0 6).toInt ≤ 260; have f0 := congrArg Int32.toInt ((congrFun (congrFun eM_10 0) 6).trans mset_eq); have f1 := t_lit 0; have f2 := congrArg Int32.toInt ((congrFun (congrFun eM_10 0) 9).trans (mset_ne (by first | exact nz1 (by decide) | exact nz2 (by decide) | exact nz1 (nzA hc0 (by decide)) | exact nz1 (nzE (by decide)) | exact nz1 (nzB hc0 (by decide)) | exact nz1 (nzC hc0 (by decide)) | exact nz1 (nzD hc0 (by decide)) | exact nz1 (nzF (by decide)) | exact nz1 (nzG (by decide)) | omega))); omega), (by show (M_10 0 6).toInt = _; rw [if_pos (by omega), show M_10 0 6 = M_10 0 6 from rfl, eM_10, mset_eq]; exact nI0), (by rw [eT]; exact pq_y hPP (Or.inl ⟨_, (W0.symm.trans (lwp_f hq_64 c76)).trans (by rw [show M_10 0 9 = M_9 0 9 from (by rw [eM_10, mset_ne (by first | exact nz1 (by decide) | exact nz2 (by decide) | exact nz1 (nzA hc0 (by decide)) | exact nz1 (nzE (by decide)) | exact nz1 (nzB hc0 (by decide)) | exact nz1 (nzC hc0 (by decide)) | exact nz1 (nzD hc0 (by decide)) | exact nz1 (nzF (by decide)) | exact nz1 (nzG (by decide)) | omega)])]), rfl⟩))⟩
            · have hwk := hw_64 c76
              have v64 := W0.symm.trans (lwp_v hq_64 c76)
              have s10 : sWr M_10 = sWr M_9 := wst_g (by rw [eM_10, mset_ne (by first | exact nz1 (by decide) | exact nz2 (by decide) | exact nz1 (nzA hc0 (by decide)) | exact nz1 (nzE (by decide)) | exact nz1 (nzB hc0 (by decide)) | exact nz1 (nzC hc0 (by decide)) | exact nz1 (nzD hc0 (by decide)) | exact nz1 (nzF (by decide)) | exact nz1 (nzG (by decide)) | omega)]) (by rw [eM_10, mset_ne (by first | exact nz1 (by decide) | exact nz2 (by decide) | exact nz1 (nzA hc0 (by decide)) | exact nz1 (nzE (by decide)) | exact nz1 (nzB hc0 (by decide)) | exact nz1 (nzC hc0 (by decide)) | exact nz1 (nzD hc0 (by decide)) | exact nz1 (nzF (by decide)) | exact nz1 (nzG (by decide)) | omega)]) (by rw [eM_10, mset_n (by omega)]) (by rw [eM_10, mset_n (by omega)])
              rw [← s10] at v64
              have sm := walk_m v64
              have f10 : FdR M_10 1 = (FdR M 1) := fdr_same (fun j hj => by rw [eM_10, mset_ne (by first | exact nz1 (by decide) | exact nz2 (by decide) | exact nz1 (nzA hc0 (by decide)) | exact nz1 (nzE (by decide)) | exact nz1 (nzB hc0 (by decide)) | exact nz1 (nzC hc0 (by decide)) | exact nz1 (nzD hc0 (by decide)) | exact nz1 (nzF (by decide)) | exact nz1 (nzG (by decide)) | omega), hg_M_9 1 j (by first | decide | (rcases hc0 with h | h <;> rw [h] <;> simp; done) | (rcases hb0 with h | h | h <;> rw [h] <;> simp; done) | (simp; done) | omega), eM_7, mset_ne (by first | exact nz1 (by decide) | exact nz2 (by decide) | exact nz1 (nzA hc0 (by decide)) | exact nz1 (nzE (by decide)) | exact nz1 (nzB hc0 (by decide)) | exact nz1 (nzC hc0 (by decide)) | exact nz1 (nzD hc0 (by decide)) | exact nz1 (nzF (by decide)) | exact nz1 (nzG (by decide)) | omega), eM_6, mset_ne (by first | exact nz1 (by decide) | exact nz2 (by decide) | exact nz1 (nzA hc0 (by decide)) | exact nz1 (nzE (by decide)) | exact nz1 (nzB hc0 (by decide)) | exact nz1 (nzC hc0 (by decide)) | exact nz1 (nzD hc0 (by decide)) | exact nz1 (nzF (by decide)) | exact nz1 (nzG (by decide)) | omega), hg_M_5 1 j (by first | decide | (rcases hc0 with h | h <;> rw [h] <;> simp; done) | (rcases hb0 with h | h | h <;> rw [h] <;> simp; done) | (simp; done) | omega)])
              have r4 : ∀ j, M_10 4 j = M 4 j := fun j => by rw [eM_10, mset_ne (by first | exact nz1 (by decide) | exact nz2 (by decide) | exact nz1 (nzA hc0 (by decide)) | exact nz1 (nzE (by decide)) | exact nz1 (nzB hc0 (by decide)) | exact nz1 (nzC hc0 (by decide)) | exact nz1 (nzD hc0 (by decide)) | exact nz1 (nzF (by decide)) | exact nz1 (nzG (by decide)) | omega), hg_M_9 4 j (by first | decide | (rcases hc0 with h | h <;> rw [h] <;> simp; done) | (rcases hb0 with h | h | h <;> rw [h] <;> simp; done) | (simp; done) | omega), eM_7, mset_ne (by first | exact nz1 (by decide) | exact nz2 (by decide) | exact nz1 (nzA hc0 (by decide)) | exact nz1 (nzE (by decide)) | exact nz1 (nzB hc0 (by decide)) | exact nz1 (nzC hc0 (by decide)) | exact nz1 (nzD hc0 (by decide)) | exact nz1 (nzF (by decide)) | exact nz1 (nzG (by decide)) | omega), eM_6, mset_ne (by first | exact nz1 (by decide) | exact nz2 (by decide) | exact nz1 (nzA hc0 (by decide)) | exact nz1 (nzE (by decide)) | exact nz1 (nzB hc0 (by decide)) | exact nz1 (nzC hc0 (by decide)) | exact nz1 (nzD hc0 (by decide)) | exact nz1 (nzF (by decide)) | exact nz1 (nzG (by decide)) | omega), hg_M_5 4 j (by first | decide | (rcases hc0 with h | h <;> rw [h] <;> simp; done) | (rcases hb0 with h | h | h <;> rw [h] <;> simp; done) | (simp; done) | omega)]
              have iN := t_ixn (M_10 0 49) (by omega)
              have n60 : (ix (M_10 0 49)) ≤ 60 := by omega
              clear hw_64 hz_r_8
              refine wp_lp5 (fun y6_99 y7_99 y8_99 y9_99 y10_99 => (0 ≤ y10_99.toInt) ∧ (WkI (FdR M 1) (M 4 (ix v1)).toInt (sWr M_10).2.2 (ix (M_10 0 49)) v2.toInt y6_99 y7_99 y8_99 y9_99 y10_99)) (fun y6_99 y7_99 y8_99 y9_99 y10_99 => ((M_10 0 49).toInt - y10_99.toInt).toNat) (fun ag99 y6_99 y7_99 y8_99 y9_99 y10_99 hI99 ih99 => ?_) FU (nI 0) v2 (nI 0) (nI 1) (nI 0) ⟨(by decide), (wi_0 b2)⟩ (fu_lt (by have f0 := congrArg Int32.toInt ((congrFun (congrFun eM_10 0) 49).trans (mset_ne (by first | exact nz1 (by decide) | exact nz2 (by decide) | exact nz1 (nzA hc0 (by decide)) | exact nz1 (nzE (by decide)) | exact nz1 (nzB hc0 (by decide)) | exact nz1 (nzC hc0 (by decide)) | exact nz1 (nzD hc0 (by decide)) | exact nz1 (nzF (by decide)) | exact nz1 (nzG (by decide)) | omega))); have f1 := t_lit 0; have f2 := t_lit 1; omega))
              obtain ⟨hy, w99⟩ := hI99
              have j297 : (GoE (FdR M 1) (M 4 (ix v1)).toInt (sWr M_10).2.2 (ix (M_10 0 49)) v2.toInt (ix y6_99) y7_99.toInt y8_99.toInt) → Wp (f_X10_walk_L297 v4 M_10 y6_99 y7_99 y8_99) (fun q => (∀ a i, ¬ ((a = 0 ∧ i = 6) ∨ (a = 0 ∧ i = 7) ∨ (a = 0 ∧ i = 8) ∨ (a = 0 ∧ i = 9) ∨ (a = 0 ∧ i = 10) ∨ (a = 0 ∧ i = 12) ∨ (a = 0 ∧ i = 14) ∨ (a = 0 ∧ i = 49) ∨ (a = 0 ∧ i = 50) ∨ a = 32 ∨ a = 33 ∨ a = 34 ∨ a = 35) → q.2 a i = M a i) ∧ (0 ≤ (q.2 0 6).toInt ∧ (q.2 0 6).toInt ≤ 260) ∧ ((q.2 0 6).toInt = (if ((0 ≤ v1.toInt ∧ v1.toInt < 8) ∧ ((shr (M 0 4) v1) &&& (nI 1)).toInt = 1) ∧ (0 ≤ v2.toInt ∧ v2.toInt ≤ 39) ∧ (0 ≤ v4.toInt ∧ v4.toInt ≤ 3) ∧ 1 ≤ v3.toInt ∧ v3.toInt ≤ 60 ∧ v3.toInt ≤ (M 0 6).toInt then 0 else (M 0 6).toInt)) ∧ (PqP (TpR M v1 ∧ WkW v2.toInt v4.toInt v3.toInt (M 0 6).toInt) (WkQ (FdR M 1) (M 4 (ix v1)).toInt (txt (fun j => ((M 5 j) &&& (nI 255)).toInt) v3.toInt) v2.toInt v4.toInt q.1.toInt) q.1)) := by
                intro h297
                unfold f_X10_walk_L297
                refine wp_ite (fun c299 => ?_) (fun c299 => ?_)
                · exact wp_some ⟨(fun a i q0 => ((congrFun (congrFun eM_10 a) i).trans ((mset_ne (fun h9 => q0 (Or.inl h9))).trans ((hg_M_9 a i (fun z8 => q0 ((fun z9 => Or.elim z9 (fun h9 => Or.inr (Or.inl h9)) (fun z9 => Or.elim z9 (fun h9 => Or.inr (Or.inr (Or.inr (Or.inl h9)))) (fun z9 => Or.elim z9 (fun h9 => Or.inr (Or.inr (Or.inr (Or.inr (Or.inl h9))))) (fun z9 => Or.elim z9 (fun h9 => Or.inr (Or.inr (Or.inr (Or.inr (Or.inr (Or.inr (Or.inr (Or.inl h9)))))))) (fun z9 => Or.elim z9 (fun h9 => Or.inr (Or.inr (Or.inr (Or.inr (Or.inr (Or.inr (Or.inr (Or.inr (Or.inl h9))))))))) (fun z9 => Or.elim z9 (fun h9 => Or.inr (Or.inr (Or.inr (Or.inr (Or.inr (Or.inr (Or.inr (Or.inr (Or.inr (Or.inl h9)))))))))) (fun z9 => Or.elim z9 (fun h9 => Or.inr (Or.inr (Or.inr (Or.inr (Or.inr (Or.inr (Or.inr (Or.inr (Or.inr (Or.inr (Or.inl h9))))))))))) (fun z9 => Or.elim z9 (fun h9 => Or.inr (Or.inr (Or.inr (Or.inr (Or.inr (Or.inr (Or.inr (Or.inr (Or.inr (Or.inr (Or.inr (Or.inl h9)))))))))))) (fun h9 => Or.inr (Or.inr (Or.inr (Or.inr (Or.inr (Or.inr (Or.inr (Or.inr (Or.inr (Or.inr (Or.inr (Or.inr (h9))))))))))))))))))))) z8))).trans ((congrFun (congrFun eM_7 a) i).trans ((mset_ne (fun h9 => q0 (Or.inr (Or.inr (Or.inr (Or.inr (Or.inr (Or.inr (Or.inr (Or.inr (Or.inl h9))))))))))).trans ((congrFun (congrFun eM_6 a) i).trans ((mset_ne (fun h9 => q0 (Or.inr (Or.inr (Or.inr (Or.inr (Or.inr (Or.inr (Or.inr (Or.inl h9)))))))))).trans ((hg_M_5 a i (fun z8 => q0 ((fun z9 => Or.elim z9 (fun h9 => Or.inr (Or.inl h9)) (fun z9 => Or.elim z9 (fun h9 => Or.inr (Or.inr (Or.inl h9))) (fun z9 => Or.elim z9 (fun h9 => Or.inr (Or.inr (Or.inr (Or.inr (Or.inr (Or.inl h9)))))) (fun h9 => Or.inr (Or.inr (Or.inr (Or.inr (Or.inr (Or.inr (Or.inl h9)))))))))) z8))).trans rfl))))))))), (by show 0 ≤ (M_10 0 6).toInt ∧ (M_10 0 6).toInt ≤ 260; have f0 := congrArg Int32.toInt ((congrFun (congrFun eM_10 0) 6).trans mset_eq); have f1 := t_lit 0; omega), (by show (M_10 0 6).toInt = _; rw [if_pos (by omega), show M_10 0 6 = M_10 0 6 from rfl, eM_10, mset_eq]; exact nI0), (by rw [eT]; exact pq_y hPP (Or.inr ⟨_, v64, ix y6_99, _, _, h297, Or.inl ⟨c299, (t_ixn y6_99 (wi_b w99).2.2.1).symm⟩⟩))⟩
                · refine wp_ite (fun c310 => ?_) (fun c310 => ?_)
                  · exact wp_some ⟨(fun a i q0 => ((congrFun (congrFun eM_10 a) i).trans ((mset_ne (fun h9 => q0 (Or.inl h9))).trans ((hg_M_9 a i (fun z8 => q0 ((fun z9 => Or.elim z9 (fun h9 => Or.inr (Or.inl h9)) (fun z9 => Or.elim z9 (fun h9 => Or.inr (Or.inr (Or.inr (Or.inl h9)))) (fun z9 => Or.elim z9 (fun h9 => Or.inr (Or.inr (Or.inr (Or.inr (Or.inl h9))))) (fun z9 => Or.elim z9 (fun h9 => Or.inr (Or.inr (Or.inr (Or.inr (Or.inr (Or.inr (Or.inr (Or.inl h9)))))))) (fun z9 => Or.elim z9 (fun h9 => Or.inr (Or.inr (Or.inr (Or.inr (Or.inr (Or.inr (Or.inr (Or.inr (Or.inl h9))))))))) (fun z9 => Or.elim z9 (fun h9 => Or.inr (Or.inr (Or.inr (Or.inr (Or.inr (Or.inr (Or.inr (Or.inr (Or.inr (Or.inl h9)))))))))) (fun z9 => Or.elim z9 (fun h9 => Or.inr (Or.inr (Or.inr (Or.inr (Or.inr (Or.inr (Or.inr (Or.inr (Or.inr (Or.inr (Or.inl h9))))))))))) (fun z9 => Or.elim z9 (fun h9 => Or.inr (Or.inr (Or.inr (Or.inr (Or.inr (Or.inr (Or.inr (Or.inr (Or.inr (Or.inr (Or.inr (Or.inl h9)))))))))))) (fun h9 => Or.inr (Or.inr (Or.inr (Or.inr (Or.inr (Or.inr (Or.inr (Or.inr (Or.inr (Or.inr (Or.inr (Or.inr (h9))))))))))))))))))))) z8))).trans ((congrFun (congrFun eM_7 a) i).trans ((mset_ne (fun h9 => q0 (Or.inr (Or.inr (Or.inr (Or.inr (Or.inr (Or.inr (Or.inr (Or.inr (Or.inl h9))))))))))).trans ((congrFun (congrFun eM_6 a) i).trans ((mset_ne (fun h9 => q0 (Or.inr (Or.inr (Or.inr (Or.inr (Or.inr (Or.inr (Or.inr (Or.inl h9)))))))))).trans ((hg_M_5 a i (fun z8 => q0 ((fun z9 => Or.elim z9 (fun h9 => Or.inr (Or.inl h9)) (fun z9 => Or.elim z9 (fun h9 => Or.inr (Or.inr (Or.inl h9))) (fun z9 => Or.elim z9 (fun h9 => Or.inr (Or.inr (Or.inr (Or.inr (Or.inr (Or.inl h9)))))) (fun h9 => Or.inr (Or.inr (Or.inr (Or.inr (Or.inr (Or.inr (Or.inl h9)))))))))) z8))).trans rfl))))))))), (by show 0 ≤ (M_10 0 6).toInt ∧ (M_10 0 6).toInt ≤ 260; have f0 := congrArg Int32.toInt ((congrFun (congrFun eM_10 0) 6).trans mset_eq); have f1 := t_lit 0; omega), (by show (M_10 0 6).toInt = _; rw [if_pos (by omega), show M_10 0 6 = M_10 0 6 from rfl, eM_10, mset_eq]; exact nI0), (by rw [eT]; exact pq_y hPP (Or.inr ⟨_, v64, ix y6_99, _, _, h297, Or.inr (Or.inl ⟨c310, rfl⟩)⟩))⟩
                  · refine wp_ite (fun c321 => ?_) (fun c321 => ?_)
                    · exact wp_some ⟨(fun a i q0 => ((congrFun (congrFun eM_10 a) i).trans ((mset_ne (fun h9 => q0 (Or.inl h9))).trans ((hg_M_9 a i (fun z8 => q0 ((fun z9 => Or.elim z9 (fun h9 => Or.inr (Or.inl h9)) (fun z9 => Or.elim z9 (fun h9 => Or.inr (Or.inr (Or.inr (Or.inl h9)))) (fun z9 => Or.elim z9 (fun h9 => Or.inr (Or.inr (Or.inr (Or.inr (Or.inl h9))))) (fun z9 => Or.elim z9 (fun h9 => Or.inr (Or.inr (Or.inr (Or.inr (Or.inr (Or.inr (Or.inr (Or.inl h9)))))))) (fun z9 => Or.elim z9 (fun h9 => Or.inr (Or.inr (Or.inr (Or.inr (Or.inr (Or.inr (Or.inr (Or.inr (Or.inl h9))))))))) (fun z9 => Or.elim z9 (fun h9 => Or.inr (Or.inr (Or.inr (Or.inr (Or.inr (Or.inr (Or.inr (Or.inr (Or.inr (Or.inl h9)))))))))) (fun z9 => Or.elim z9 (fun h9 => Or.inr (Or.inr (Or.inr (Or.inr (Or.inr (Or.inr (Or.inr (Or.inr (Or.inr (Or.inr (Or.inl h9))))))))))) (fun z9 => Or.elim z9 (fun h9 => Or.inr (Or.inr (Or.inr (Or.inr (Or.inr (Or.inr (Or.inr (Or.inr (Or.inr (Or.inr (Or.inr (Or.inl h9)))))))))))) (fun h9 => Or.inr (Or.inr (Or.inr (Or.inr (Or.inr (Or.inr (Or.inr (Or.inr (Or.inr (Or.inr (Or.inr (Or.inr (h9))))))))))))))))))))) z8))).trans ((congrFun (congrFun eM_7 a) i).trans ((mset_ne (fun h9 => q0 (Or.inr (Or.inr (Or.inr (Or.inr (Or.inr (Or.inr (Or.inr (Or.inr (Or.inl h9))))))))))).trans ((congrFun (congrFun eM_6 a) i).trans ((mset_ne (fun h9 => q0 (Or.inr (Or.inr (Or.inr (Or.inr (Or.inr (Or.inr (Or.inr (Or.inl h9)))))))))).trans ((hg_M_5 a i (fun z8 => q0 ((fun z9 => Or.elim z9 (fun h9 => Or.inr (Or.inl h9)) (fun z9 => Or.elim z9 (fun h9 => Or.inr (Or.inr (Or.inl h9))) (fun z9 => Or.elim z9 (fun h9 => Or.inr (Or.inr (Or.inr (Or.inr (Or.inr (Or.inl h9)))))) (fun h9 => Or.inr (Or.inr (Or.inr (Or.inr (Or.inr (Or.inr (Or.inl h9)))))))))) z8))).trans rfl))))))))), (by show 0 ≤ (M_10 0 6).toInt ∧ (M_10 0 6).toInt ≤ 260; have f0 := congrArg Int32.toInt ((congrFun (congrFun eM_10 0) 6).trans mset_eq); have f1 := t_lit 0; omega), (by show (M_10 0 6).toInt = _; rw [if_pos (by omega), show M_10 0 6 = M_10 0 6 from rfl, eM_10, mset_eq]; exact nI0), (by rw [eT]; exact pq_y hPP (Or.inr ⟨_, v64, ix y6_99, _, _, h297, Or.inr (Or.inr (Or.inl ⟨c321, rfl⟩))⟩))⟩
                    · refine wp_ite (fun c333 => ?_) (fun c333 => ?_)
                      · exact wp_some ⟨(fun a i q0 => ((congrFun (congrFun eM_10 a) i).trans ((mset_ne (fun h9 => q0 (Or.inl h9))).trans ((hg_M_9 a i (fun z8 => q0 ((fun z9 => Or.elim z9 (fun h9 => Or.inr (Or.inl h9)) (fun z9 => Or.elim z9 (fun h9 => Or.inr (Or.inr (Or.inr (Or.inl h9)))) (fun z9 => Or.elim z9 (fun h9 => Or.inr (Or.inr (Or.inr (Or.inr (Or.inl h9))))) (fun z9 => Or.elim z9 (fun h9 => Or.inr (Or.inr (Or.inr (Or.inr (Or.inr (Or.inr (Or.inr (Or.inl h9)))))))) (fun z9 => Or.elim z9 (fun h9 => Or.inr (Or.inr (Or.inr (Or.inr (Or.inr (Or.inr (Or.inr (Or.inr (Or.inl h9))))))))) (fun z9 => Or.elim z9 (fun h9 => Or.inr (Or.inr (Or.inr (Or.inr (Or.inr (Or.inr (Or.inr (Or.inr (Or.inr (Or.inl h9)))))))))) (fun z9 => Or.elim z9 (fun h9 => Or.inr (Or.inr (Or.inr (Or.inr (Or.inr (Or.inr (Or.inr (Or.inr (Or.inr (Or.inr (Or.inl h9))))))))))) (fun z9 => Or.elim z9 (fun h9 => Or.inr (Or.inr (Or.inr (Or.inr (Or.inr (Or.inr (Or.inr (Or.inr (Or.inr (Or.inr (Or.inr (Or.inl h9)))))))))))) (fun h9 => Or.inr (Or.inr (Or.inr (Or.inr (Or.inr (Or.inr (Or.inr (Or.inr (Or.inr (Or.inr (Or.inr (Or.inr (h9))))))))))))))))))))) z8))).trans ((congrFun (congrFun eM_7 a) i).trans ((mset_ne (fun h9 => q0 (Or.inr (Or.inr (Or.inr (Or.inr (Or.inr (Or.inr (Or.inr (Or.inr (Or.inl h9))))))))))).trans ((congrFun (congrFun eM_6 a) i).trans ((mset_ne (fun h9 => q0 (Or.inr (Or.inr (Or.inr (Or.inr (Or.inr (Or.inr (Or.inr (Or.inl h9)))))))))).trans ((hg_M_5 a i (fun z8 => q0 ((fun z9 => Or.elim z9 (fun h9 => Or.inr (Or.inl h9)) (fun z9 => Or.elim z9 (fun h9 => Or.inr (Or.inr (Or.inl h9))) (fun z9 => Or.elim z9 (fun h9 => Or.inr (Or.inr (Or.inr (Or.inr (Or.inr (Or.inl h9)))))) (fun h9 => Or.inr (Or.inr (Or.inr (Or.inr (Or.inr (Or.inr (Or.inl h9)))))))))) z8))).trans rfl))))))))), (by show 0 ≤ (M_10 0 6).toInt ∧ (M_10 0 6).toInt ≤ 260; have f0 := congrArg Int32.toInt ((congrFun (congrFun eM_10 0) 6).trans mset_eq); have f1 := t_lit 0; have f2 := t_lit 1; omega), (by show (M_10 0 6).toInt = _; rw [if_pos (by omega), show M_10 0 6 = M_10 0 6 from rfl, eM_10, mset_eq]; exact nI0), (by rw [eT]; exact pq_y hPP (Or.inr ⟨_, v64, ix y6_99, _, _, h297, Or.inr (Or.inr (Or.inr ⟨w3 c299 c310 c321, Or.inl ⟨c333, nI1⟩⟩))⟩))⟩
                      · exact wp_some ⟨(fun a i q0 => ((congrFun (congrFun eM_10 a) i).trans ((mset_ne (fun h9 => q0 (Or.inl h9))).trans ((hg_M_9 a i (fun z8 => q0 ((fun z9 => Or.elim z9 (fun h9 => Or.inr (Or.inl h9)) (fun z9 => Or.elim z9 (fun h9 => Or.inr (Or.inr (Or.inr (Or.inl h9)))) (fun z9 => Or.elim z9 (fun h9 => Or.inr (Or.inr (Or.inr (Or.inr (Or.inl h9))))) (fun z9 => Or.elim z9 (fun h9 => Or.inr (Or.inr (Or.inr (Or.inr (Or.inr (Or.inr (Or.inr (Or.inl h9)))))))) (fun z9 => Or.elim z9 (fun h9 => Or.inr (Or.inr (Or.inr (Or.inr (Or.inr (Or.inr (Or.inr (Or.inr (Or.inl h9))))))))) (fun z9 => Or.elim z9 (fun h9 => Or.inr (Or.inr (Or.inr (Or.inr (Or.inr (Or.inr (Or.inr (Or.inr (Or.inr (Or.inl h9)))))))))) (fun z9 => Or.elim z9 (fun h9 => Or.inr (Or.inr (Or.inr (Or.inr (Or.inr (Or.inr (Or.inr (Or.inr (Or.inr (Or.inr (Or.inl h9))))))))))) (fun z9 => Or.elim z9 (fun h9 => Or.inr (Or.inr (Or.inr (Or.inr (Or.inr (Or.inr (Or.inr (Or.inr (Or.inr (Or.inr (Or.inr (Or.inl h9)))))))))))) (fun h9 => Or.inr (Or.inr (Or.inr (Or.inr (Or.inr (Or.inr (Or.inr (Or.inr (Or.inr (Or.inr (Or.inr (Or.inr (h9))))))))))))))))))))) z8))).trans ((congrFun (congrFun eM_7 a) i).trans ((mset_ne (fun h9 => q0 (Or.inr (Or.inr (Or.inr (Or.inr (Or.inr (Or.inr (Or.inr (Or.inr (Or.inl h9))))))))))).trans ((congrFun (congrFun eM_6 a) i).trans ((mset_ne (fun h9 => q0 (Or.inr (Or.inr (Or.inr (Or.inr (Or.inr (Or.inr (Or.inr (Or.inl h9)))))))))).trans ((hg_M_5 a i (fun z8 => q0 ((fun z9 => Or.elim z9 (fun h9 => Or.inr (Or.inl h9)) (fun z9 => Or.elim z9 (fun h9 => Or.inr (Or.inr (Or.inl h9))) (fun z9 => Or.elim z9 (fun h9 => Or.inr (Or.inr (Or.inr (Or.inr (Or.inr (Or.inl h9)))))) (fun h9 => Or.inr (Or.inr (Or.inr (Or.inr (Or.inr (Or.inr (Or.inl h9)))))))))) z8))).trans rfl))))))))), (by show 0 ≤ (M_10 0 6).toInt ∧ (M_10 0 6).toInt ≤ 260; have f0 := congrArg Int32.toInt ((congrFun (congrFun eM_10 0) 6).trans mset_eq); have f1 := t_lit 0; omega), (by show (M_10 0 6).toInt = _; rw [if_pos (by omega), show M_10 0 6 = M_10 0 6 from rfl, eM_10, mset_eq]; exact nI0), (by rw [eT]; exact pq_y hPP (Or.inr ⟨_, v64, ix y6_99, _, _, h297, Or.inr (Or.inr (Or.inr ⟨w3 c299 c310 c321, Or.inr ⟨c333, nI0⟩⟩))⟩))⟩
              refine wp_ite (fun c105 => ?_) (fun c105 => ?_)
              · exact j297 (wi_e w99 (Or.inl c105))
              · refine wp_ite (fun c110 => ?_) (fun c110 => ?_)
                · exact j297 (wi_e w99 (Or.inr (Or.inl c110)))
                · refine wp_ite (fun c117 => ?_) (fun c117 => ?_)
                  · exact j297 (wi_e w99 (Or.inr (Or.inr c117)))
                  · have wb := wi_b w99
                    have i10 := t_ixn y10_99 hy
                    have lt : ix y10_99 < (ix (M_10 0 49)) := by omega
                    have i60 : 0 ≤ y10_99.toInt ∧ y10_99.toInt < (60 : Nat) := by omega
                    have u60 : y10_99.toInt + ((1 : Nat) : Int) ≤ 2147483647 := by omega
                    have fj : (sWr M_10).2.2 (ix y10_99) = ((M_10 32 (ix y10_99)).toInt, (M_10 33 (ix y10_99)).toInt) := wst_j lt
                    have sb := sm (ix y10_99)
                    have sb0 := sb.1
                    rw [fj] at sb
                    obtain ⟨sb1, sb2⟩ := sb
                    refine wp_gd i60 ?_
                    refine wp_bnd (fun x_11 ex_11 => ?_)
                    have e11 : x_11.toInt = y7_99.toInt + ((sWr M_10).2.2 (ix y10_99)).1 := by
                      rw [ex_11, fj]
                      clear w99 hy
                      have f := t_add y7_99 (M_10 32 (ix y10_99))
                      show (y7_99 + M_10 32 (ix y10_99)).toInt = y7_99.toInt + (M_10 32 (ix y10_99)).toInt
                      omega
                    refine wp_gd i60 ?_
                    refine wp_bind2 (o_X10_bounded M_10 (y8_99 + (M_10 33 (ix y10_99))) (nI 0) (nI 21)) (fun r_12 he145 hq145 => ?_)
                    have hr_145 := hq145
                    replace hr_145 : r_12.toInt = max (nI 0).toInt (min (nI 21).toInt (y8_99 + (M_10 33 (ix y10_99))).toInt) := hr_145
                    have := t_lit 0
                    have := t_lit 21
                    have e12 : r_12.toInt = max 0 (min 21 (y8_99.toInt + ((sWr M_10).2.2 (ix y10_99)).2)) := by
                      rw [hr_145, t_lit 21, nI0, fj]
                      have f := t_add y8_99 (M_10 33 (ix y10_99))
                      have g : (y8_99 + M_10 33 (ix y10_99)).toInt = y8_99.toInt + (M_10 33 (ix y10_99)).toInt := by omega
                      rw [g]
                      rfl
                    refine wp_gd i60 ?_
                    refine wp_gd i60 ?_
                    refine wp_gd i60 ?_
                    refine wp_gd i60 ?_
                    refine wp_bnd (fun x_13 ex_13 => ?_)
                    have e13 : x_13.toInt = dd ((sWr M_10).2.2 (ix y10_99)).1 ((sWr M_10).2.2 (ix y10_99)).2 := by
                      rw [ex_13, t_dd6 sb1 sb2, fj]
                    refine wp_bind2 (o2_X10_in M_10 r_12 (nI 1) (nI 20)) (fun r_14 he188 hq188 => ?_)
                    obtain ⟨hz_r_14, hr_188, hi_188⟩ := hq188
                    replace hr_188 : ¬ r_14.toInt = 0 → (nI 1).toInt ≤ r_12.toInt ∧ r_12.toInt ≤ (nI 20).toInt := hr_188
                    have := t_lit 1
                    have := t_lit 20
                    replace hi_188 : ¬ r_14.toInt = 0 ↔ (nI 1).toInt ≤ r_12.toInt ∧ r_12.toInt ≤ (nI 20).toInt := hi_188
                    have := t_lit 1
                    have := t_lit 20
                    have k20 : ¬ r_14.toInt = 0 ↔ 1 ≤ r_12.toInt ∧ r_12.toInt ≤ 20 := by
                      have f1 := t_lit 1
                      have f20 := t_lit 20
                      rw [hi_188, f1, f20]
                      exact Iff.rfl
                    have r21 : 0 ≤ r_12.toInt ∧ r_12.toInt ≤ 21 := by
                      rw [e12]
                      omega
                    have j237 : ∀ (t0_237 : Int32), (¬ t0_237.toInt = 0 ↔ ftG (FdR M 1) x_11.toInt r_12.toInt) → Wp (f_X10_walk_L237 v1 M_10 ag99 y6_99 y7_99 y8_99 y10_99 x_11 r_12 x_13 t0_237) (fun q => (∀ a i, ¬ ((a = 0 ∧ i = 6) ∨ (a = 0 ∧ i = 7) ∨ (a = 0 ∧ i = 8) ∨ (a = 0 ∧ i = 9) ∨ (a = 0 ∧ i = 10) ∨ (a = 0 ∧ i = 12) ∨ (a = 0 ∧ i = 14) ∨ (a = 0 ∧ i = 49) ∨ (a = 0 ∧ i = 50) ∨ a = 32 ∨ a = 33 ∨ a = 34 ∨ a = 35) → q.2 a i = M a i) ∧ (0 ≤ (q.2 0 6).toInt ∧ (q.2 0 6).toInt ≤ 260) ∧ ((q.2 0 6).toInt = (if ((0 ≤ v1.toInt ∧ v1.toInt < 8) ∧ ((shr (M 0 4) v1) &&& (nI 1)).toInt = 1) ∧ (0 ≤ v2.toInt ∧ v2.toInt ≤ 39) ∧ (0 ≤ v4.toInt ∧ v4.toInt ≤ 3) ∧ 1 ≤ v3.toInt ∧ v3.toInt ≤ 60 ∧ v3.toInt ≤ (M 0 6).toInt then 0 else (M 0 6).toInt)) ∧ (PqP (TpR M v1 ∧ WkW v2.toInt v4.toInt v3.toInt (M 0 6).toInt) (WkQ (FdR M 1) (M 4 (ix v1)).toInt (txt (fun j => ((M 5 j) &&& (nI 255)).toInt) v3.toInt) v2.toInt v4.toInt q.1.toInt) q.1)) := by
                      intro t0_237 h237
                      unfold f_X10_walk_L237
                      have sv := t_sq (x := M 4 (ix v1)) (by omega)
                      have e4 : ((M_10 4 (ix v1)) * (M_10 4 (ix v1))).toInt = (M 4 (ix v1)).toInt * (M 4 (ix v1)).toInt := by rw [r4, sv.1]
                      refine wp_gd ht2.1 ?_
                      refine wp_gd ht2.1 ?_
                      have j267 : ∀ (t0_267 : Int32), (t0_267 = 0 ∨ t0_267 = 1) → ((¬ t0_267.toInt = 0 → StW (FdR M 1) (M 4 (ix v1)).toInt ((sWr M_10).2.2 (ix y10_99)) y7_99.toInt y8_99.toInt x_11.toInt r_12.toInt) ∧ (t0_267.toInt = 0 → ¬ StW (FdR M 1) (M 4 (ix v1)).toInt ((sWr M_10).2.2 (ix y10_99)) y7_99.toInt y8_99.toInt x_11.toInt r_12.toInt)) → Wp (f_X10_walk_L267 ag99 y6_99 y7_99 y8_99 y10_99 x_11 r_12 t0_267) (fun q => (∀ a i, ¬ ((a = 0 ∧ i = 6) ∨ (a = 0 ∧ i = 7) ∨ (a = 0 ∧ i = 8) ∨ (a = 0 ∧ i = 9) ∨ (a = 0 ∧ i = 10) ∨ (a = 0 ∧ i = 12) ∨ (a = 0 ∧ i = 14) ∨ (a = 0 ∧ i = 49) ∨ (a = 0 ∧ i = 50) ∨ a = 32 ∨ a = 33 ∨ a = 34 ∨ a = 35) → q.2 a i = M a i) ∧ (0 ≤ (q.2 0 6).toInt ∧ (q.2 0 6).toInt ≤ 260) ∧ ((q.2 0 6).toInt = (if ((0 ≤ v1.toInt ∧ v1.toInt < 8) ∧ ((shr (M 0 4) v1) &&& (nI 1)).toInt = 1) ∧ (0 ≤ v2.toInt ∧ v2.toInt ≤ 39) ∧ (0 ≤ v4.toInt ∧ v4.toInt ≤ 3) ∧ 1 ≤ v3.toInt ∧ v3.toInt ≤ 60 ∧ v3.toInt ≤ (M 0 6).toInt then 0 else (M 0 6).toInt)) ∧ (PqP (TpR M v1 ∧ WkW v2.toInt v4.toInt v3.toInt (M 0 6).toInt) (WkQ (FdR M 1) (M 4 (ix v1)).toInt (txt (fun j => ((M 5 j) &&& (nI 255)).toInt) v3.toInt) v2.toInt v4.toInt q.1.toInt) q.1)) := by
                        intro t0_267 hb_t0_267 h267
                        unfold f_X10_walk_L267
                        refine wp_ite (fun c271 => ?_) (fun c271 => ?_)
                        · exact ih99 y6_99 y7_99 y8_99 t0_267 (y10_99 + (nI 1)) ⟨(by rw [t_inc y10_99 1 u60]; exact Int.le_trans i60.1 (Int.le_add_of_nonneg_right (by decide))), (wi_n w99 c110 e11 e12 (h267.2 c271) c271)⟩ (by have z := t_inc y10_99 1 u60; have z2 := i60; have z3 := lt; rw [z]; clear h267 w99; omega)
                        · exact ih99 (y6_99 + (nI 1)) x_11 r_12 t0_267 (y10_99 + (nI 1)) ⟨(by rw [t_inc y10_99 1 u60]; exact Int.le_trans i60.1 (Int.le_add_of_nonneg_right (by decide))), (wi_y w99 c110 (Int.not_le.mp c117) (h267.1 c271) lt n60 sb0 c271)⟩ (by have z := t_inc y10_99 1 u60; have z2 := i60; have z3 := lt; rw [z]; clear h267 w99; omega)
                      have j266 : (¬ StW (FdR M 1) (M 4 (ix v1)).toInt ((sWr M_10).2.2 (ix y10_99)) y7_99.toInt y8_99.toInt x_11.toInt r_12.toInt) → Wp (f_X10_walk_L266 ag99 y6_99 y7_99 y8_99 y10_99 x_11 r_12) (fun q => (∀ a i, ¬ ((a = 0 ∧ i = 6) ∨ (a = 0 ∧ i = 7) ∨ (a = 0 ∧ i = 8) ∨ (a = 0 ∧ i = 9) ∨ (a = 0 ∧ i = 10) ∨ (a = 0 ∧ i = 12) ∨ (a = 0 ∧ i = 14) ∨ (a = 0 ∧ i = 49) ∨ (a = 0 ∧ i = 50) ∨ a = 32 ∨ a = 33 ∨ a = 34 ∨ a = 35) → q.2 a i = M a i) ∧ (0 ≤ (q.2 0 6).toInt ∧ (q.2 0 6).toInt ≤ 260) ∧ ((q.2 0 6).toInt = (if ((0 ≤ v1.toInt ∧ v1.toInt < 8) ∧ ((shr (M 0 4) v1) &&& (nI 1)).toInt = 1) ∧ (0 ≤ v2.toInt ∧ v2.toInt ≤ 39) ∧ (0 ≤ v4.toInt ∧ v4.toInt ≤ 3) ∧ 1 ≤ v3.toInt ∧ v3.toInt ≤ 60 ∧ v3.toInt ≤ (M 0 6).toInt then 0 else (M 0 6).toInt)) ∧ (PqP (TpR M v1 ∧ WkW v2.toInt v4.toInt v3.toInt (M 0 6).toInt) (WkQ (FdR M 1) (M 4 (ix v1)).toInt (txt (fun j => ((M 5 j) &&& (nI 255)).toInt) v3.toInt) v2.toInt v4.toInt q.1.toInt) q.1)) := by
                        intro h266
                        unfold f_X10_walk_L266
                        exact j267 (nI 0) b01_0 ⟨fun z => absurd nI0 z, fun _ => h266⟩
                      refine wp_ite (fun c254 => ?_) (fun c254 => ?_)
                      · exact j266 (fun z => by have w := z.2.2.1; rw [← e13, ← e4] at w; exact absurd c254 (Int.not_lt.mpr w))
                      · refine wp_ite (fun c259 => ?_) (fun c259 => ?_)
                        · exact j266 (fun z => h237.mpr z.2.2.2 c259)
                        · exact j267 (nI 1) b01_1 ⟨fun _ => ⟨e11, e12, by rw [← e13, ← e4]; exact Int.not_lt.mp c254, h237.mp c259⟩, fun z => absurd z ne1⟩
                    refine wp_ite (fun c191 => ?_) (fun c191 => ?_)
                    · have nb : r_12.toInt = 0 ∨ r_12.toInt = 21 := by
                        have q := mt k20.mpr (fun w => w c191)
                        clear k20 hi_188 hr_188 hz_r_14
                        omega
                      refine wp_bind2 (o2_X10_in M_10 x_11 (nI 0) (nI 39)) (fun r_15 he234 hq234 => ?_)
                      obtain ⟨hz_r_15, hr_234, hi_234⟩ := hq234
                      replace hr_234 : ¬ r_15.toInt = 0 → (nI 0).toInt ≤ x_11.toInt ∧ x_11.toInt ≤ (nI 39).toInt := hr_234
                      have := t_lit 0
                      have := t_lit 39
                      replace hi_234 : ¬ r_15.toInt = 0 ↔ (nI 0).toInt ≤ x_11.toInt ∧ x_11.toInt ≤ (nI 39).toInt := hi_234
                      have := t_lit 0
                      have := t_lit 39
                      have iw : ¬ r_15.toInt = 0 ↔ 0 ≤ x_11.toInt ∧ x_11.toInt ≤ 39 := by
                        have f1 := nI0
                        have f20 := t_lit 39
                        rw [hi_234, f1, f20]
                        exact Iff.rfl
                      exact j237 r_15 (by rw [ft_b nb]; exact iw)
                    · have nb : ¬ (r_12.toInt = 0 ∨ r_12.toInt = 21) := by
                        have q := k20.mp c191
                        clear k20 hi_188 hr_188 hz_r_14
                        omega
                      refine wp_bind2 (o8_X10_stoneAt M_10 x_11 r_12 (by rw [f10]; exact hGd.1.1)) (fun r_16 he199 hq199 => ?_)
                      obtain ⟨hr_199, hsa_199⟩ := hq199
                      replace hr_199 : r_16.toInt = -1 ∨ ((0 ≤ r_16.toInt ∧ r_16.toInt < 40) ∧ (M_10 1 (ix r_16)).toInt = 1 ∧ (M_10 1 (ix (nI 40 + r_16))).toInt = x_11.toInt ∧ (M_10 1 (ix (nI 80 + r_16))).toInt = r_12.toInt) := hr_199
                      replace hsa_199 : r_16 = stA (FdR M_10 1) x_11.toInt r_12.toInt 40 0 := hsa_199
                      rw [f10] at hsa_199
                      have j225 : (¬ (nI 0).toInt = 0 ↔ ftG (FdR M 1) x_11.toInt r_12.toInt) → Wp (f_X10_walk_L225 v1 M_10 ag99 y6_99 y7_99 y8_99 y10_99 x_11 r_12 x_13) (fun q => (∀ a i, ¬ ((a = 0 ∧ i = 6) ∨ (a = 0 ∧ i = 7) ∨ (a = 0 ∧ i = 8) ∨ (a = 0 ∧ i = 9) ∨ (a = 0 ∧ i = 10) ∨ (a = 0 ∧ i = 12) ∨ (a = 0 ∧ i = 14) ∨ (a = 0 ∧ i = 49) ∨ (a = 0 ∧ i = 50) ∨ a = 32 ∨ a = 33 ∨ a = 34 ∨ a = 35) → q.2 a i = M a i) ∧ (0 ≤ (q.2 0 6).toInt ∧ (q.2 0 6).toInt ≤ 260) ∧ ((q.2 0 6).toInt = (if ((0 ≤ v1.toInt ∧ v1.toInt < 8) ∧ ((shr (M 0 4) v1) &&& (nI 1)).toInt = 1) ∧ (0 ≤ v2.toInt ∧ v2.toInt ≤ 39) ∧ (0 ≤ v4.toInt ∧ v4.toInt ≤ 3) ∧ 1 ≤ v3.toInt ∧ v3.toInt ≤ 60 ∧ v3.toInt ≤ (M 0 6).toInt then 0 else (M 0 6).toInt)) ∧ (PqP (TpR M v1 ∧ WkW v2.toInt v4.toInt v3.toInt (M 0 6).toInt) (WkQ (FdR M 1) (M 4 (ix v1)).toInt (txt (fun j => ((M 5 j) &&& (nI 255)).toInt) v3.toInt) v2.toInt v4.toInt q.1.toInt) q.1)) := by
                        intro h225
                        unfold f_X10_walk_L225
                        exact j237 (nI 0) h225
                      refine wp_ite (fun c203 => ?_) (fun c203 => ?_)
                      · exact j225 ⟨fun z => absurd nI0 z, fun z => (ft_n nb z).1.elim (by rw [← hsa_199]; exact c203)⟩
                      · refine wp_bind2 (o8_X10_stoneAt M_10 x_11 r_12 (by rw [f10]; exact hGd.1.1)) (fun r_17 he212 hq212 => ?_)
                        obtain ⟨hr_212, hsa_212⟩ := hq212
                        replace hr_212 : r_17.toInt = -1 ∨ ((0 ≤ r_17.toInt ∧ r_17.toInt < 40) ∧ (M_10 1 (ix r_17)).toInt = 1 ∧ (M_10 1 (ix (nI 40 + r_17))).toInt = x_11.toInt ∧ (M_10 1 (ix (nI 80 + r_17))).toInt = r_12.toInt) := hr_212
                        replace hsa_212 : r_17 = stA (FdR M_10 1) x_11.toInt r_12.toInt 40 0 := hsa_212
                        have hr17 : r_17 = r_16 := by rw [he199] at he212; cases he212; rfl
                        have hne : ¬ r_17.toInt = -1 := by rw [hr17]; exact c203
                        refine wp_bind2 (ow_X10_isDry M_10 r_17 (by rw [hr17, hsa_199]; exact sta_r (by rw [← hsa_199]; exact c203)) (by rw [f10]; exact hGd)) (fun r_18 he215 hq215 => ?_)
                        obtain ⟨hz_r_18, hr_215, hd_215⟩ := hq215
                        replace hr_215 : ¬ r_18.toInt = 0 → (M_10 1 (ix r_17)).toInt = 1 := hr_215
                        replace hd_215 : ¬ r_18.toInt = 0 ↔ dryG (FdR M_10 1) (ix r_17) := hd_215
                        rw [f10] at hd_215
                        refine wp_ite (fun c218 => ?_) (fun c218 => ?_)
                        · exact j225 ⟨fun z => absurd nI0 z, fun z => (hd_215.mpr (by rw [hr17, hsa_199]; exact (ft_n nb z).2) c218 : False).elim⟩
                        · exact j237 (nI 1) ⟨fun _ => ft_s nb (by rw [← hsa_199]; exact c203) (by rw [← hsa_199, ← hr17]; exact hd_215.mp c218), fun _ => ne1⟩
          · exact wp_some ⟨(fun _ _ _ => rfl), (by show 0 ≤ (M 0 6).toInt ∧ (M 0 6).toInt ≤ 260; have f0 := (by decide : ((-1 : Int32)).toInt = -1); omega), (by show (M 0 6).toInt = _; rw [if_neg (by omega)]), (pq_n (fun z => absurd z.2.2.2.2 (by omega)) rfl)⟩
