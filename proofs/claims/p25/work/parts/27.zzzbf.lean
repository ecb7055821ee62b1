set_option maxHeartbeats 400000 in
theorem oq5_X0_match {b : Nat} (hb : isF b) (M : Mem) (v2 : Int32) (hn : 1 ≤ v2.toInt ∧ v2.toInt ≤ 7) (hGd : GdF (FdC M b)) (wl : Nat → Nat) (il : Nat) (hli : il ≤ 40 ∧ LsI (tldP (FdC M b)) v2.toInt.toNat il wl) (hmk : MkC (M 38) (M 39) v2.toInt.toNat) : Wp (f_X0_match b M v2) (fun q => (∀ a i, ¬ (a = 40 ∨ a = 41 ∨ a = 42) → q a i = M a i) ∧ ((∃ i, i ≤ 40 ∧ LsI (tldP (FdC M b)) v2.toInt.toNat i (RwN (q 40))) ∧ (∀ k, k < v2.toInt.toNat → 0 ≤ (q 40 k).toInt) ∧ (∀ j k, j < v2.toInt.toNat → k < v2.toInt.toNat → (q 41 (j * 7 + k)).toInt = (ckM (FdC M b) (M 38) (M 39) (RwN (q 40))) j k) ∧ ∀ s, s < 2 ^ v2.toInt.toNat → LeS (ckM (FdC M b) (M 38) (M 39) (RwN (q 40))) v2.toInt.toNat s (bcN s) (q 42 s).toInt)) := by
  have hb0 : b = 1 ∨ b = 7 ∨ b = 13 := hb
  refine wp_lp3 (fun M5 y3_5 y4_5 => (0 ≤ y4_5.toInt) ∧ (∀ a i, ¬ (a = 40 ∨ a = 41) → M5 a i = M a i) ∧ (LsI (tldP (FdC M b)) (ix y4_5) (ix y3_5) (RwN (M5 40))) ∧ (∀ k, k < ix y4_5 → 0 ≤ (M5 40 k).toInt) ∧ (∀ j k, j < v2.toInt.toNat → k < ix y4_5 → (M5 41 (j * 7 + k)).toInt = (ckM (FdC M b) (M 38) (M 39) (RwN (M5 40))) j k) ∧ (0 ≤ y3_5.toInt ∧ y3_5.toInt ≤ 40) ∧ (y4_5.toInt ≤ v2.toInt)) (fun M5 y3_5 y4_5 => (7 - y4_5.toInt).toNat) (fun ag5 M5 y3_5 y4_5 hI5 ih5 => ?_) FU M (nI 0) (nI 0) ⟨(by have f0 := t_lit 0; omega), (fun _ _ _ => rfl), (by rw [show ix (nI 0) = 0 from (by decide)]; exact ls_0), (fun k hk => absurd hk (by rw [show ix (nI 0) = 0 from (by decide)]; exact Nat.not_lt_zero _)), (fun j k _ hk => absurd hk (by rw [show ix (nI 0) = 0 from (by decide)]; exact Nat.not_lt_zero _)), (by rw [nI0]; omega), (by rw [nI0]; omega)⟩ (fu_lt (by have f0 := t_lit 0; omega))
  obtain ⟨hi5, hf_M5, hls, h40, hmt, y35, y45⟩ := hI5
  have j54 : (ix y4_5 = v2.toInt.toNat) → Wp (f_X0_match_L54 v2 M5) (fun q => (∀ a i, ¬ (a = 40 ∨ a = 41 ∨ a = 42) → q a i = M a i) ∧ ((∃ i, i ≤ 40 ∧ LsI (tldP (FdC M b)) v2.toInt.toNat i (RwN (q 40))) ∧ (∀ k, k < v2.toInt.toNat → 0 ≤ (q 40 k).toInt) ∧ (∀ j k, j < v2.toInt.toNat → k < v2.toInt.toNat → (q 41 (j * 7 + k)).toInt = (ckM (FdC M b) (M 38) (M 39) (RwN (q 40))) j k) ∧ ∀ s, s < 2 ^ v2.toInt.toNat → LeS (ckM (FdC M b) (M 38) (M 39) (RwN (q 40))) v2.toInt.toNat s (bcN s) (q 42 s).toInt)) := by
    intro h54
    unfold f_X0_match_L54
    refine wp_bnd (fun x_1 ex_1 => ?_)
    have l7 := ck_p v2.toInt.toNat (by omega)
    have x1t : x_1.toInt = ((2 ^ v2.toInt.toNat - 1 : Nat) : Int) := by
      rw [ex_1, ck_top (n := v2.toInt.toNat) (by omega) (by omega)]
      exact t_lit _ (by omega)
    have mt1 := mt_1 l7 x1t
    clear x1t
    refine wp_lp2 (fun M67 y4_67 => (∀ a i, ¬ (a = 42) → M67 a i = M5 a i) ∧ (∀ s' : Nat, y4_67.toInt < (s' : Int) → s' < 2 ^ v2.toInt.toNat → LeS (ckM (FdC M b) (M 38) (M 39) (RwN (M5 40))) v2.toInt.toNat s' (bcN s') (M67 42 s').toInt) ∧ (-1 ≤ y4_67.toInt ∧ ix y4_67 < 2 ^ v2.toInt.toNat)) (fun M67 y4_67 => (y4_67.toInt + 1).toNat) (fun ag67 M67 y4_67 hI67 ih67 => ?_) FU M5 x_1 ⟨(fun _ _ _ => rfl), (fun s' h1 h2 => (mt1.1 s' h1 h2).elim), mt1.2.1⟩ (fu_lt ((fu_lt mt1.2.2)))
    obtain ⟨hf_M67, hL67, y67⟩ := hI67
    refine wp_ite (fun c69 => ?_) (fun c69 => ?_)
    · exact wp_some ⟨(fun a i q0 => ((hf_M67 a i (fun h9 => q0 (Or.inr (Or.inr (h9))))).trans ((hf_M5 a i (fun z8 => q0 ((fun z9 => Or.elim z9 (fun h9 => Or.inl h9) (fun h9 => Or.inr (Or.inl h9))) z8))).trans rfl))), (by rw [show M67 40 = M5 40 from funext (fun k => hf_M67 40 k (by first | decide | (rcases hc0 with h | h <;> rw [h] <;> simp; done) | (rcases hb0 with h | h | h <;> rw [h] <;> simp; done) | (simp; done) | omega))]; exact ⟨⟨ix y3_5, by have z := t_ixn y3_5 (by omega); omega, by rw [← h54]; exact hls⟩, fun k hk => h40 k (by omega), fun j k hj hk => by rw [hf_M67 41 _ (by first | decide | (rcases hc0 with h | h <;> rw [h] <;> simp; done) | (rcases hb0 with h | h | h <;> rw [h] <;> simp; done) | (simp; done) | omega)]; exact hmt j k hj (by omega), fun s hs => hL67 s (by omega) hs⟩)⟩
    · have mt2 := mt_2 l7 (by omega) y67.2
      have mt28 := mt2.1
      refine wp_bind2 (oq5_X0_fewestBehind M67 v2 y4_67 (ckM (FdC M b) (M 38) (M 39) (RwN (M5 40))) hn ⟨mt28.1, y67.2⟩ (fun j k hj hk => ⟨by rw [hf_M67 41 _ (by decide)]; exact hmt j k hj (by rw [h54]; exact hk), ckm_b hGd (by rw [h54] at hls; exact hls) hmk j k hj hk⟩) (fun s' h1 h2 => hL67 s' (by have z := t_ixn y4_67 mt28.1; omega) h2)) (fun r_2 he82 hq82 => ?_)
      have hfb_82 := hq82
      replace hfb_82 : LeS (ckM (FdC M b) (M 38) (M 39) (RwN (M5 40))) v2.toInt.toNat (ix y4_67) (bcN (ix y4_67)) r_2.toInt := hfb_82
      refine wp_gd (by omega) ?_
      refine wp_bnd (fun M_3 eM_3 => ?_)
      have e341 : ∀ j, M67 41 j = M5 41 j := fun j => hf_M67 41 j (by first | decide | (rcases hc0 with h | h <;> rw [h] <;> simp; done) | (rcases hb0 with h | h | h <;> rw [h] <;> simp; done) | (simp; done) | omega)
      exact ih67 M_3 (y4_67 + (-1)) ⟨(fun a i q0 => ((congrFun (congrFun eM_3 a) i).trans ((mset_ne (fun h9 => q0 ((h9).1))).trans ((hf_M67 a i (fun h9 => q0 (h9))).trans rfl)))), (fun s' h1 h2 => by rw [eM_3]; by_cases c : s' = ix y4_67; (rw [c, mset_eq]; exact hfb_82); (rw [mset_ne (fun z => c z.2)]; exact hL67 s' (mt2.2.2.2 s' h1 c) h2)), mt2.2.1⟩ mt2.2.2.1
  refine wp_ite (fun c8 => ?_) (fun c8 => ?_)
  · exact j54 (by have z := t_ixn y4_5 (by omega); omega)
  · refine wp_ite (fun c15 => ?_) (fun c15 => ?_)
    · exact j54 (by have z := t_ixn y4_5 (by omega); omega)
    · have i4 := t_ixn y4_5 (by omega)
      have u4 := i_up (x := y4_5) (by omega)
      refine wp_bind2 (oq5_X2_nextTold hb M5 y3_5 y3_5 ⟨rfl, y35⟩) (fun r_4 he26 hq26 => ?_)
      have hnd_26 := hq26
      replace hnd_26 : NdP (tldP (FdC M5 b)) y3_5 r_4 := hnd_26
      have F5 : FdC M5 b = (FdC M b) := fdc_fr (fun a i z1 z2 => hf_M5 a i (by unfold isF at hb; omega))
      rw [F5] at hnd_26
      have ml := ml_s hli.2 hli.1 hls (by omega) y35 hnd_26
      have ml1 := ml.1
      refine wp_gd (by omega) ?_
      refine wp_bnd (fun M_5 eM_5 => ?_)
      refine wp_gd (by omega) ?_
      refine wp_bnd (fun x_6 ex_6 => ?_)
      have r4e : M_5 40 (ix y4_5) = r_4 := by
        rw [eM_5, mset_eq]
      have x6 : ix x_6 = ix r_4 + 1 ∧ x_6.toInt = r_4.toInt + 1 := by
        rw [ex_6, r4e]
        exact i_up (by omega)
      refine wp_bind2 (oq5_X0_measure hb M_5 v2 y4_5 hn (by omega) (by rw [show FdC M_5 b = (FdC M b) from fdc_fr (fun a i z1 z2 => by rw [eM_5, mset_ne (by unfold isF at hb; omega)]; exact hf_M5 a i (by unfold isF at hb; omega))]; exact hGd) (by rw [show FdC M_5 b = (FdC M b) from fdc_fr (fun a i z1 z2 => by rw [eM_5, mset_ne (by unfold isF at hb; omega)]; exact hf_M5 a i (by unfold isF at hb; omega)), r4e]; exact ⟨ml.2.1, ml1⟩) (by rw [show M_5 38 = M 38 from funext (fun k => by rw [eM_5, mset_ne (by first | exact nz1 (by decide) | exact nz2 (by decide) | exact nz1 (nzA hc0 (by decide)) | exact nz1 (nzE (by decide)) | exact nz1 (nzB hc0 (by decide)) | exact nz1 (nzC hc0 (by decide)) | exact nz1 (nzD hc0 (by decide)) | exact nz1 (nzF (by decide)) | exact nz1 (nzG (by decide)) | omega)]; exact hf_M5 38 k (by first | decide | (rcases hc0 with h | h <;> rw [h] <;> simp; done) | (rcases hb0 with h | h | h <;> rw [h] <;> simp; done) | (simp; done) | omega)), show M_5 39 = M 39 from funext (fun k => by rw [eM_5, mset_ne (by first | exact nz1 (by decide) | exact nz2 (by decide) | exact nz1 (nzA hc0 (by decide)) | exact nz1 (nzE (by decide)) | exact nz1 (nzB hc0 (by decide)) | exact nz1 (nzC hc0 (by decide)) | exact nz1 (nzD hc0 (by decide)) | exact nz1 (nzF (by decide)) | exact nz1 (nzG (by decide)) | omega)]; exact hf_M5 39 k (by first | decide | (rcases hc0 with h | h <;> rw [h] <;> simp; done) | (rcases hb0 with h | h | h <;> rw [h] <;> simp; done) | (simp; done) | omega))]; exact hmk)) (fun M_7 he45 hq45 => ?_)
      obtain ⟨hg_M_7, hme_45⟩ := hq45
      replace hme_45 : (∀ j, j < v2.toInt.toNat → (M_7 41 (j * 7 + ix y4_5)).toInt = (fun j => iab (((FdC M_5 b) 1 (ix (M_5 40 (ix y4_5)))).toInt - (M_5 38 j).toInt) + iab (((FdC M_5 b) 2 (ix (M_5 40 (ix y4_5)))).toInt - (M_5 39 j).toInt)) j) ∧ ∀ j k, j < 7 → k < 7 → ¬ k = ix y4_5 → M_7 41 (j * 7 + k) = M_5 41 (j * 7 + k) := hme_45
      replace hg_M_7 : ∀ a i, ¬ (a = 41) → M_7 a i = M_5 a i := by exact fun a i q0 => hg_M_7 a i (by first | decide | (rcases hc0 with h | h <;> rw [h] <;> simp; done) | (rcases hb0 with h | h | h <;> rw [h] <;> simp; done) | (simp; done) | omega)
      have e740 : ∀ k, M_7 40 k = M_5 40 k := fun k => hg_M_7 40 k (by first | decide | (rcases hc0 with h | h <;> rw [h] <;> simp; done) | (rcases hb0 with h | h | h <;> rw [h] <;> simp; done) | (simp; done) | omega)
      have e38 : M_5 38 = M 38 := funext (fun k => by rw [eM_5, mset_ne (by first | exact nz1 (by decide) | exact nz2 (by decide) | exact nz1 (nzA hc0 (by decide)) | exact nz1 (nzE (by decide)) | exact nz1 (nzB hc0 (by decide)) | exact nz1 (nzC hc0 (by decide)) | exact nz1 (nzD hc0 (by decide)) | exact nz1 (nzF (by decide)) | exact nz1 (nzG (by decide)) | omega)]; exact hf_M5 38 k (by first | decide | (rcases hc0 with h | h <;> rw [h] <;> simp; done) | (rcases hb0 with h | h | h <;> rw [h] <;> simp; done) | (simp; done) | omega))
      have e39 : M_5 39 = M 39 := funext (fun k => by rw [eM_5, mset_ne (by first | exact nz1 (by decide) | exact nz2 (by decide) | exact nz1 (nzA hc0 (by decide)) | exact nz1 (nzE (by decide)) | exact nz1 (nzB hc0 (by decide)) | exact nz1 (nzC hc0 (by decide)) | exact nz1 (nzD hc0 (by decide)) | exact nz1 (nzF (by decide)) | exact nz1 (nzG (by decide)) | omega)]; exact hf_M5 39 k (by first | decide | (rcases hc0 with h | h <;> rw [h] <;> simp; done) | (rcases hb0 with h | h | h <;> rw [h] <;> simp; done) | (simp; done) | omega))
      have e7 : ∀ k, k < ix y4_5 → RwN (M_7 40) k = RwN (M5 40) k := fun k hk => by
        show ix (M_7 40 k) = ix (M5 40 k)
        rw [e740, eM_5, mset_ne (by first | exact nz1 (by decide) | exact nz2 (by decide) | exact nz1 (nzA hc0 (by decide)) | exact nz1 (nzE (by decide)) | exact nz1 (nzB hc0 (by decide)) | exact nz1 (nzC hc0 (by decide)) | exact nz1 (nzD hc0 (by decide)) | exact nz1 (nzF (by decide)) | exact nz1 (nzG (by decide)) | omega)]
      have e7m : RwN (M_7 40) (ix y4_5) = ix r_4 := by
        show ix (M_7 40 (ix y4_5)) = ix r_4
        rw [e740, r4e]
      have e41 : ∀ j, M_5 41 j = M5 41 j := fun j => by rw [eM_5, mset_ne (by first | exact nz1 (by decide) | exact nz2 (by decide) | exact nz1 (nzA hc0 (by decide)) | exact nz1 (nzE (by decide)) | exact nz1 (nzB hc0 (by decide)) | exact nz1 (nzC hc0 (by decide)) | exact nz1 (nzD hc0 (by decide)) | exact nz1 (nzF (by decide)) | exact nz1 (nzG (by decide)) | omega)]
      have F6 : FdC M_5 b = (FdC M b) := fdc_fr (fun a i z1 z2 => by rw [eM_5, mset_ne (by unfold isF at hb; omega)]; exact hf_M5 a i (by unfold isF at hb; omega))
      exact ih5 M_7 x_6 (y4_5 + (nI 1)) ⟨(by have f0 := t_lit 1; have f1 := t_add y4_5 (nI 1); omega), (fun a i q0 => ((hg_M_7 a i (fun h9 => q0 (Or.inr (h9)))).trans ((congrFun (congrFun eM_5 a) i).trans ((mset_ne (fun h9 => q0 (Or.inl (h9).1))).trans ((hf_M5 a i (fun z8 => q0 ((fun z9 => Or.elim z9 (fun h9 => Or.inl h9) (fun h9 => Or.inr (h9))) z8))).trans rfl))))), (by rw [u4.1, x6.1]; exact ml.2.2 _ e7 e7m), (fun k hk => by rw [u4.1] at hk; by_cases c : k = ix y4_5; (rw [c, e740, r4e]; exact ml1.1); (rw [e740, eM_5, mset_ne (by first | exact nz1 (by decide) | exact nz2 (by decide) | exact nz1 (nzA hc0 (by decide)) | exact nz1 (nzE (by decide)) | exact nz1 (nzB hc0 (by decide)) | exact nz1 (nzC hc0 (by decide)) | exact nz1 (nzD hc0 (by decide)) | exact nz1 (nzF (by decide)) | exact nz1 (nzG (by decide)) | omega)]; exact h40 k (by omega))), (by rw [u4.1]; exact mt_s hmt (by omega) (by omega) e7 (fun j hj => by have z := hme_45.1 j hj; rw [F6, e38, e39, r4e] at z; rw [z]; unfold ckM; rw [e7m]) (fun j k h1 h2 h3 => by rw [hme_45.2 j k h1 h2 h3, e41])), (by rw [x6.2]; omega), (by rw [u4.2]; omega)⟩ (by have f0 := t_lit 1; have f1 := t_add y4_5 (nI 1); omega)
