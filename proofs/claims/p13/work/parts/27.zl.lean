set_option maxHeartbeats 2000000 in
theorem o8_X5_look {b : Nat} (hb : isF b) {c : Nat} (hc : isL c) (M : Mem) (v3 : Int32) (hu : 0 ≤ v3.toInt ∧ v3.toInt < 40) (htl : tld (FdC M b) (ix v3)) (hU : UdB (FdC M b)) : Wp (f_X5_look b c M v3) (fun q => (∀ a i, ¬ (a = 22) → q a i = M a i) ∧ (∀ (d : Int32) (j : Nat), j < 8 → ¬ j = 6 → (j = 5 → ¬ (M c 9).toInt = 0) → q 22 j = vlF (FdC M b) (ix v3) d j) ∧ (q 22 6 = M 22 6)) := by
  have hb0 : b = 1 ∨ b = 7 ∨ b = 13 := hb
  have hc0 : c = 44 ∨ c = 52 := hc
  refine wp_bind2 (o8_X2_isTold hb M v3) (fun r_1 he2 hq2 => ?_)
  obtain ⟨hz_r_1, hr_2, htd_2⟩ := hq2
  replace hr_2 : ¬ r_1.toInt = 0 → 0 ≤ v3.toInt ∧ v3.toInt < 40 := hr_2
  replace htd_2 : TdP r_1.toInt (FdC M b) v3 := htd_2
  refine wp_ite (fun c5 => ?_) (fun c5 => ?_)
  · exact wp_some ⟨(fun _ _ _ => rfl), (fun d j h1 h2 h3 => absurd ⟨hu, htl⟩ (td_n htd_2 c5)), rfl⟩
  · have i40 := ix40 hu.1 hu.2
    have x1 := fdc_at (a := 1) i40 (by omega) htl
    have x2 := fdc_at (a := 2) i40 (by omega) htl
    have x3 := fdc_at (a := 3) i40 (by omega) htl
    have x5 := fdc_at (a := 5) i40 (by omega) htl
    refine wp_bnd (fun M_2 eM_2 => ?_)
    refine wp_gd (by omega) ?_
    refine wp_bnd (fun M_3 eM_3 => ?_)
    refine wp_gd (by omega) ?_
    refine wp_bnd (fun M_4 eM_4 => ?_)
    refine wp_gd (by omega) ?_
    refine wp_bnd (fun M_5 eM_5 => ?_)
    have e55 : M_5 (b + 5) (ix v3) = M (b + 5) (ix v3) := by rw [eM_5, mset_ne (by omega), eM_4, mset_ne (by omega), eM_3, mset_ne (by omega), eM_2, mset_ne (by omega)]
    refine wp_gd (by omega) ?_
    have j71 : ∀ (t0_71 : Int32), (t0_71 = 0 ∨ t0_71 = 1) → (t0_71 = FdC M b 5 (ix v3)) → Wp (f_X5_look_L71 b c v3 M_5 t0_71) (fun q => (∀ a i, ¬ (a = 22) → q a i = M a i) ∧ (∀ (d : Int32) (j : Nat), j < 8 → ¬ j = 6 → (j = 5 → ¬ (M c 9).toInt = 0) → q 22 j = vlF (FdC M b) (ix v3) d j) ∧ (q 22 6 = M 22 6)) := by
      intro t0_71 hb_t0_71 h71
      unfold f_X5_look_L71
      refine wp_bnd (fun M_6 eM_6 => ?_)
      have f6 : FdC M_6 b = (FdC M b) := fdc_fr (fun a i h1 h2 => by rw [eM_6, mset_ne (by omega), eM_5, mset_ne (by omega), eM_4, mset_ne (by omega), eM_3, mset_ne (by omega), eM_2, mset_ne (by omega)])
      have e69 : M_6 c 9 = M c 9 := by rw [eM_6, mset_ne (by omega), eM_5, mset_ne (by omega), eM_4, mset_ne (by omega), eM_3, mset_ne (by omega), eM_2, mset_ne (by omega)]
      have j93 : ∀ (t0_93 : Int32), (¬ (M c 9).toInt = 0 → t0_93 = clF (FdC M b) (ix v3) 40) → Wp (f_X5_look_L93 b M_6 t0_93) (fun q => (∀ a i, ¬ (a = 22) → q a i = M a i) ∧ (∀ (d : Int32) (j : Nat), j < 8 → ¬ j = 6 → (j = 5 → ¬ (M c 9).toInt = 0) → q 22 j = vlF (FdC M b) (ix v3) d j) ∧ (q 22 6 = M 22 6)) := by
        intro t0_93 h93
        unfold f_X5_look_L93
        refine wp_bnd (fun M_7 eM_7 => ?_)
        refine wp_bnd (fun M_8 eM_8 => ?_)
        have r0 : M_8 22 0 = v3 := by rw [eM_8, mset_ne (by omega), eM_7, mset_ne (by omega), eM_6, mset_ne (by omega), eM_5, mset_ne (by omega), eM_4, mset_ne (by omega), eM_3, mset_ne (by omega), eM_2, mset_eq]
        have r1 : M_8 22 1 = M (b + 1) (ix v3) := by rw [eM_8, mset_ne (by omega), eM_7, mset_ne (by omega), eM_6, mset_ne (by omega), eM_5, mset_ne (by omega), eM_4, mset_ne (by omega), eM_3, mset_eq, eM_2, mset_ne (by omega)]
        have r2 : M_8 22 2 = M (b + 2) (ix v3) := by rw [eM_8, mset_ne (by omega), eM_7, mset_ne (by omega), eM_6, mset_ne (by omega), eM_5, mset_ne (by omega), eM_4, mset_eq, eM_3, mset_ne (by omega), eM_2, mset_ne (by omega)]
        have r3 : M_8 22 3 = M (b + 3) (ix v3) := by rw [eM_8, mset_ne (by omega), eM_7, mset_ne (by omega), eM_6, mset_ne (by omega), eM_5, mset_eq, eM_4, mset_ne (by omega), eM_3, mset_ne (by omega), eM_2, mset_ne (by omega)]
        have r4 : M_8 22 4 = t0_71 := by rw [eM_8, mset_ne (by omega), eM_7, mset_ne (by omega), eM_6, mset_eq]
        have r5 : M_8 22 5 = t0_93 := by rw [eM_8, mset_ne (by omega), eM_7, mset_eq]
        have r7 : M_8 22 7 = rm (M b 5) (nI 100) := by rw [eM_8, mset_eq, eM_7, mset_ne (by omega), eM_6, mset_ne (by omega), eM_5, mset_ne (by omega), eM_4, mset_ne (by omega), eM_3, mset_ne (by omega), eM_2, mset_ne (by omega)]
        exact wp_some ⟨(fun a i q0 => ((congrFun (congrFun eM_8 a) i).trans ((mset_ne (fun h9 => q0 ((h9).1))).trans ((congrFun (congrFun eM_7 a) i).trans ((mset_ne (fun h9 => q0 ((h9).1))).trans ((congrFun (congrFun eM_6 a) i).trans ((mset_ne (fun h9 => q0 ((h9).1))).trans ((congrFun (congrFun eM_5 a) i).trans ((mset_ne (fun h9 => q0 ((h9).1))).trans ((congrFun (congrFun eM_4 a) i).trans ((mset_ne (fun h9 => q0 ((h9).1))).trans ((congrFun (congrFun eM_3 a) i).trans ((mset_ne (fun h9 => q0 ((h9).1))).trans ((congrFun (congrFun eM_2 a) i).trans ((mset_ne (fun h9 => q0 ((h9).1))).trans rfl))))))))))))))), (fun d j h1 h2 h3 => by show M_8 22 j = _; rcases lt8 h1 with e | e | e | e | e | e | e | e; (rw [e, r0, vl_0, nI_ixx hu.1]); (rw [e, r1, vl_1, x1]); (rw [e, r2, vl_2, x2]); (rw [e, r3, vl_3, x3]); (rw [e, r4, vl_4, h71]); (rw [e, r5, vl_5, h93 (h3 e)]); (exact absurd e h2); (rw [e, r7, vl_7, fdc_n])), (by rw [eM_8, mset_ne (by omega), eM_7, mset_ne (by omega), eM_6, mset_ne (by omega), eM_5, mset_ne (by omega), eM_4, mset_ne (by omega), eM_3, mset_ne (by omega), eM_2, mset_ne (by omega)])⟩
      refine wp_ite (fun c81 => ?_) (fun c81 => ?_)
      · exact j93 (nI 0) (fun z => absurd (by rw [← e69]; exact c81) z)
      · refine wp_bind2 (o8_X2_countClose hb M_6 v3 hu (by rw [f6]; exact htl)) (fun r_9 he86 hq86 => ?_)
        have hcl_86 := hq86
        replace hcl_86 : r_9 = clF (FdC M_6 b) (ix v3) 40 := hcl_86
        exact j93 r_9 (fun _ => by rw [hcl_86, f6])
    refine wp_ite (fun c63 => ?_) (fun c63 => ?_)
    · exact j71 (nI 0) b01_0 (by rw [x5]; exact (b01x (by rw [← x5]; exact hU _ i40)).1 (by rw [← e55]; exact c63))
    · exact j71 (nI 1) b01_1 (by rw [x5]; exact (b01x (by rw [← x5]; exact hU _ i40)).2 (by rw [← e55]; exact c63))
set_option maxHeartbeats 2000000 in
theorem o8_X5_shift {b : Nat} (hb : isF b) (M : Mem) (v2 : Int32) (v3 : Int32) (v4 : Int32) (hu : 0 ≤ v2.toInt ∧ v2.toInt < 40) (htl : tld (FdC M b) (ix v2)) : Wp (f_X5_shift b M v2 v3 v4) (fun q => (∀ a i, ¬ ((a = 21 ∧ i = 1) ∨ (a = 21 ∧ i = 2) ∨ a = (b + 1) ∨ a = (b + 2)) → q a i = M a i) ∧ (FdC q b = shF (FdC M b) (ix v2) (gx (FdC M b) (ix v2) v3) (gy (FdC M b) (ix v2) v4) ∧ q 21 1 = (if hwF (FdC M b) (ix v2) (gx (FdC M b) (ix v2) v3) (gy (FdC M b) (ix v2) v4) = 1 then M 21 1 + nI 1 else M 21 1) ∧ q 21 2 = (if hwF (FdC M b) (ix v2) (gx (FdC M b) (ix v2) v3) (gy (FdC M b) (ix v2) v4) = 2 then M 21 2 + nI 1 else M 21 2))) := by
  have hb0 : b = 1 ∨ b = 7 ∨ b = 13 := hb
  refine wp_bind2 (o8_X2_isTold hb M v2) (fun r_1 he2 hq2 => ?_)
  obtain ⟨hz_r_1, hr_2, htd_2⟩ := hq2
  replace hr_2 : ¬ r_1.toInt = 0 → 0 ≤ v2.toInt ∧ v2.toInt < 40 := hr_2
  replace htd_2 : TdP r_1.toInt (FdC M b) v2 := htd_2
  refine wp_ite (fun c5 => ?_) (fun c5 => ?_)
  · exact wp_some ⟨(fun _ _ _ => rfl), (absurd ⟨hu, htl⟩ (td_n htd_2 c5))⟩
  · have i40 := ix40 hu.1 hu.2
    have x1 := fdc_at (a := 1) i40 (by omega) htl
    have x2 := fdc_at (a := 2) i40 (by omega) htl
    refine wp_gd (by omega) ?_
    refine wp_bnd (fun x_2 ex_2 => ?_)
    have ex : x_2 = (gx (FdC M b) (ix v2) v3) := by
      unfold gx
      rw [ex_2, x1]
    refine wp_gd (by omega) ?_
    refine wp_bnd (fun x_3 ex_3 => ?_)
    have ey : x_3 = (gy (FdC M b) (ix v2) v4) := by
      unfold gy
      rw [ex_3, x2]
    refine wp_gd (by omega) ?_
    have j71 : (¬ ((gx (FdC M b) (ix v2) v3).toInt = (FdC M b 1 (ix v2)).toInt ∧ (gy (FdC M b) (ix v2) v4).toInt = (FdC M b 2 (ix v2)).toInt)) → Wp (f_X5_shift_L71 b M v2 x_2 x_3) (fun q => (∀ a i, ¬ ((a = 21 ∧ i = 1) ∨ (a = 21 ∧ i = 2) ∨ a = (b + 1) ∨ a = (b + 2)) → q a i = M a i) ∧ (FdC q b = shF (FdC M b) (ix v2) (gx (FdC M b) (ix v2) v3) (gy (FdC M b) (ix v2) v4) ∧ q 21 1 = (if hwF (FdC M b) (ix v2) (gx (FdC M b) (ix v2) v3) (gy (FdC M b) (ix v2) v4) = 1 then M 21 1 + nI 1 else M 21 1) ∧ q 21 2 = (if hwF (FdC M b) (ix v2) (gx (FdC M b) (ix v2) v3) (gy (FdC M b) (ix v2) v4) = 2 then M 21 2 + nI 1 else M 21 2))) := by
      intro h71
      unfold f_X5_shift_L71
      refine wp_bind2 (o8_X2_stoneAt hb M x_2 x_3) (fun r_4 he76 hq76 => ?_)
      have hsa_76 := hq76
      replace hsa_76 : r_4 = stA (FdC M b) x_2.toInt x_3.toInt 40 0 := hsa_76
      rw [ex, ey] at hsa_76
      refine wp_ite (fun c80 => ?_) (fun c80 => ?_)
      · refine wp_gd (by omega) ?_
        refine wp_bnd (fun M_5 eM_5 => ?_)
        refine wp_gd (by omega) ?_
        refine wp_bnd (fun M_6 eM_6 => ?_)
        refine wp_bnd (fun M_7 eM_7 => ?_)
        exact wp_some ⟨(fun a i q0 => ((congrFun (congrFun eM_7 a) i).trans ((mset_ne (fun h9 => q0 (Or.inl h9))).trans ((congrFun (congrFun eM_6 a) i).trans ((mset_ne (fun h9 => q0 (Or.inr (Or.inr (Or.inr ((h9).1)))))).trans ((congrFun (congrFun eM_5 a) i).trans ((mset_ne (fun h9 => q0 (Or.inr (Or.inr (Or.inl (h9).1))))).trans rfl))))))), (by have w := hw_1 h71 (by rw [← hsa_76]; exact c80); show FdC M_7 b = shF (FdC M b) (ix v2) (gx (FdC M b) (ix v2) v3) (gy (FdC M b) (ix v2) v4) ∧ M_7 21 1 = (if hwF (FdC M b) (ix v2) (gx (FdC M b) (ix v2) v3) (gy (FdC M b) (ix v2) v4) = 1 then M 21 1 + nI 1 else M 21 1) ∧ M_7 21 2 = (if hwF (FdC M b) (ix v2) (gx (FdC M b) (ix v2) v3) (gy (FdC M b) (ix v2) v4) = 2 then M 21 2 + nI 1 else M 21 2); rw [w, if_pos rfl, if_neg (by omega), sh_1 w]; refine ⟨?_, by rw [eM_7, mset_eq, eM_6, mset_ne (by omega), eM_5, mset_ne (by omega)], by rw [eM_7, mset_ne (by omega), eM_6, mset_ne (by omega), eM_5, mset_ne (by omega)]⟩; rw [show FdC M_7 b = FdC M_6 b from fdc_fr (fun a i h1 h2 => by rw [eM_7, mset_ne (by omega)])]; unfold FdC at htl ⊢; have t1 : tld (mskF (mset (rwC M b) 1 (ix v2) x_2)) (ix v2) := (by unfold tld at htl ⊢; rw [mk_4 i40] at htl ⊢; rw [mset_ne (by omega)]; exact htl); rw [eM_6, rwC_set (by omega), eM_5, rwC_set (by omega), mk_set i40 (by omega) (by omega) t1, mk_set i40 (by omega) (by omega) htl, ex, ey]; rfl)⟩
      · refine wp_bnd (fun M_8 eM_8 => ?_)
        exact wp_some ⟨(fun a i q0 => ((congrFun (congrFun eM_8 a) i).trans ((mset_ne (fun h9 => q0 (Or.inr (Or.inl h9)))).trans rfl))), (by have w := hw_2 h71 (by rw [← hsa_76]; exact c80); show FdC M_8 b = shF (FdC M b) (ix v2) (gx (FdC M b) (ix v2) v3) (gy (FdC M b) (ix v2) v4) ∧ M_8 21 1 = (if hwF (FdC M b) (ix v2) (gx (FdC M b) (ix v2) v3) (gy (FdC M b) (ix v2) v4) = 1 then M 21 1 + nI 1 else M 21 1) ∧ M_8 21 2 = (if hwF (FdC M b) (ix v2) (gx (FdC M b) (ix v2) v3) (gy (FdC M b) (ix v2) v4) = 2 then M 21 2 + nI 1 else M 21 2); rw [w, if_neg (by omega), if_pos rfl, sh_n (by rw [w]; omega)]; exact ⟨fdc_fr (fun a i h1 h2 => by rw [eM_8, mset_ne (by omega)]), by rw [eM_8, mset_ne (by omega)], by rw [eM_8, mset_eq]⟩)⟩
    refine wp_ite (fun c56 => ?_) (fun c56 => ?_)
    · refine wp_gd (by have f0 := t_lit 0; have f1 := t_lit 39; have f2 := t_add (M (b + 1) (ix v2)) v3; have f3 := t_mn (nI 39) ((M (b + 1) (ix v2)) + v3); have f4 := t_mx (nI 0) (mn (nI 39) ((M (b + 1) (ix v2)) + v3)); have f5 := congrArg Int32.toInt ex_2; omega) ?_
      refine wp_ite (fun c67 => ?_) (fun c67 => ?_)
      · exact wp_some ⟨(fun _ _ _ => rfl), (by have w := hw_0 (F := (FdC M b)) (i := ix v2) (x := (gx (FdC M b) (ix v2) v3)) (y := (gy (FdC M b) (ix v2) v4)) ⟨by rw [← ex, x1]; exact c56, by rw [← ey, x2]; exact c67⟩; show FdC M b = shF (FdC M b) (ix v2) (gx (FdC M b) (ix v2) v3) (gy (FdC M b) (ix v2) v4) ∧ M 21 1 = (if hwF (FdC M b) (ix v2) (gx (FdC M b) (ix v2) v3) (gy (FdC M b) (ix v2) v4) = 1 then M 21 1 + nI 1 else M 21 1) ∧ M 21 2 = (if hwF (FdC M b) (ix v2) (gx (FdC M b) (ix v2) v3) (gy (FdC M b) (ix v2) v4) = 2 then M 21 2 + nI 1 else M 21 2); rw [w, if_neg (by omega), if_neg (by omega), sh_n (by rw [w]; omega)]; exact ⟨rfl, rfl, rfl⟩)⟩
      · exact j71 (fun z => c67 (by rw [ey, z.2, x2]))
    · exact j71 (fun z => c56 (by rw [ex, z.1, x1]))
theorem o8_X10_feels (M : Mem) (v1 : Int32) (v2 : Int32) (hv1 : 0 ≤ v1.toInt ∧ v1.toInt < 40) (hB : TdB (FdR M 1)) (htl : tld (FdR M 1) (ix v1)) : Wp (f_X10_feels M v1 v2) (fun q => (∀ a i, ¬ (a = 18) → q a i = M a i) ∧ (∀ j : Nat, j < 8 → q 18 j = vlF (FdR M 1) (ix v1) v2 j)) := by
  refine wp_bnd (fun M_1 eM_1 => ?_)
  refine wp_gd (by have f0 := t_lit 40; have f1 := t_add (nI 40) v1; omega) ?_
  refine wp_bnd (fun M_2 eM_2 => ?_)
  refine wp_gd (by have f0 := t_lit 80; have f1 := t_add (nI 80) v1; omega) ?_
  refine wp_bnd (fun M_3 eM_3 => ?_)
  refine wp_gd (by have f0 := t_lit 120; have f1 := t_add (nI 120) v1; omega) ?_
  refine wp_bnd (fun M_4 eM_4 => ?_)
  refine wp_gd (by have f0 := t_lit 160; have f1 := t_add (nI 160) v1; omega) ?_
  refine wp_bnd (fun M_5 eM_5 => ?_)
  have f5 : FdR M_5 1 = (FdR M 1) := by
    unfold FdR
    rw [show M_5 1 = M 1 from funext (fun i => by rw [eM_5, mset_ne (by omega), eM_4, mset_ne (by omega), eM_3, mset_ne (by omega), eM_2, mset_ne (by omega), eM_1, mset_ne (by omega)])]
  refine wp_bind2 (o8_X10_nearTo M_5 v1 hv1 (by rw [f5]; exact hB) (by rw [f5]; exact htl)) (fun r_6 he75 hq75 => ?_)
  have hcl_75 := hq75
  replace hcl_75 : r_6 = clF (FdR M_5 1) (ix v1) 40 := hcl_75
  refine wp_bnd (fun M_7 eM_7 => ?_)
  refine wp_bnd (fun M_8 eM_8 => ?_)
  refine wp_bnd (fun M_9 eM_9 => ?_)
  have r0 : M_9 18 0 = v1 := by rw [eM_9, mset_ne (by omega), eM_8, mset_ne (by omega), eM_7, mset_ne (by omega), eM_5, mset_ne (by omega), eM_4, mset_ne (by omega), eM_3, mset_ne (by omega), eM_2, mset_ne (by omega), eM_1, mset_eq]
  have r1 : M_9 18 1 = M 1 (ix (nI 40 + v1)) := by rw [eM_9, mset_ne (by omega), eM_8, mset_ne (by omega), eM_7, mset_ne (by omega), eM_5, mset_ne (by omega), eM_4, mset_ne (by omega), eM_3, mset_ne (by omega), eM_2, mset_eq, eM_1, mset_ne (by omega)]
  have r2 : M_9 18 2 = M 1 (ix (nI 80 + v1)) := by rw [eM_9, mset_ne (by omega), eM_8, mset_ne (by omega), eM_7, mset_ne (by omega), eM_5, mset_ne (by omega), eM_4, mset_ne (by omega), eM_3, mset_eq, eM_2, mset_ne (by omega), eM_1, mset_ne (by omega)]
  have r3 : M_9 18 3 = M 1 (ix (nI 120 + v1)) := by rw [eM_9, mset_ne (by omega), eM_8, mset_ne (by omega), eM_7, mset_ne (by omega), eM_5, mset_ne (by omega), eM_4, mset_eq, eM_3, mset_ne (by omega), eM_2, mset_ne (by omega), eM_1, mset_ne (by omega)]
  have r4 : M_9 18 4 = M 1 (ix (nI 160 + v1)) := by rw [eM_9, mset_ne (by omega), eM_8, mset_ne (by omega), eM_7, mset_ne (by omega), eM_5, mset_eq, eM_4, mset_ne (by omega), eM_3, mset_ne (by omega), eM_2, mset_ne (by omega), eM_1, mset_ne (by omega)]
  have r5 : M_9 18 5 = r_6 := by rw [eM_9, mset_ne (by omega), eM_8, mset_ne (by omega), eM_7, mset_eq]
  have r6 : M_9 18 6 = v2 := by rw [eM_9, mset_ne (by omega), eM_8, mset_eq]
  have r7 : M_9 18 7 = rm (M 1 200) (nI 100) := by rw [eM_9, mset_eq, eM_8, mset_ne (by omega), eM_7, mset_ne (by omega), eM_5, mset_ne (by omega), eM_4, mset_ne (by omega), eM_3, mset_ne (by omega), eM_2, mset_ne (by omega), eM_1, mset_ne (by omega)]
  exact wp_some ⟨(fun a i q0 => ((congrFun (congrFun eM_9 a) i).trans ((mset_ne (fun h9 => q0 ((h9).1))).trans ((congrFun (congrFun eM_8 a) i).trans ((mset_ne (fun h9 => q0 ((h9).1))).trans ((congrFun (congrFun eM_7 a) i).trans ((mset_ne (fun h9 => q0 ((h9).1))).trans ((congrFun (congrFun eM_5 a) i).trans ((mset_ne (fun h9 => q0 ((h9).1))).trans ((congrFun (congrFun eM_4 a) i).trans ((mset_ne (fun h9 => q0 ((h9).1))).trans ((congrFun (congrFun eM_3 a) i).trans ((mset_ne (fun h9 => q0 ((h9).1))).trans ((congrFun (congrFun eM_2 a) i).trans ((mset_ne (fun h9 => q0 ((h9).1))).trans ((congrFun (congrFun eM_1 a) i).trans ((mset_ne (fun h9 => q0 ((h9).1))).trans rfl))))))))))))))))), (fun j h1 => by show M_9 18 j = _; rcases lt8 h1 with e | e | e | e | e | e | e | e; (rw [e, r0, vl_0, nI_ixx hv1.1]); (rw [e, r1, vl_1, fdr_x hv1.1 hv1.2 htl]); (rw [e, r2, vl_2, fdr_y hv1.1 hv1.2 htl]); (rw [e, r3, vl_3, fdr_s hv1.1 hv1.2 htl]); (rw [e, r4, vl_4, fdr_u hv1.1 hv1.2 htl]); (rw [e, r5, vl_5, hcl_75, f5]); (rw [e, r6, vl_6]); (rw [e, r7, vl_7, fdr_n]))⟩
