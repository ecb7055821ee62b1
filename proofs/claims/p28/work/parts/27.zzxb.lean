set_option maxHeartbeats 4000000 in
theorem ot_X9_fewestThrows {b : Nat} (hb : isF b) {KS : Int} {S_X9_fewestThrows : Mem → Int32 → Int64 → Int32 → Int32 → Option Int32} (hS_X9_fewestThrows : ∀ (M : Mem) (v1 : Int32) (v2 : Int64) (v4 : Int32) (v5 : Int32) (w : Nat → Nat) (n : Nat) (qf : Nat → Nat) (qk : Nat) (hGd : GdF (FdC M b)) (hth : ThS (FdC M b) w n qf qk v1 v2 v4 v5) (ho : 0 ≤ v5.toInt ∧ v5.toInt ≤ KS), Wp (S_X9_fewestThrows M v1 v2 v4 v5) (fun q => (LeE (FdC M b) w n qf qk q.toInt))) (M : Mem) (v1 : Int32) (v2 : Int64) (v4 : Int32) (v5 : Int32) (w : Nat → Nat) (n : Nat) (qf : Nat → Nat) (qk : Nat) (hGd : GdF (FdC M b)) (hth : ThS (FdC M b) w n qf qk v1 v2 v4 v5) (ho : v5.toInt ≤ KS + 1) : Wp (f_X9_fewestThrows S_X9_fewestThrows b M v1 v2 v4 v5) (fun q => (LeE (FdC M b) w n qf qk q.toInt)) := by
  have hb0 : b = 1 ∨ b = 7 ∨ b = 13 := hb
  have hw := hth.1
  have hk := hth.2.1
  have e5 := hth.2.2.2.2.2.1
  have e4 := hth.2.2.2.2.1
  have w40 := (hw.1 (n - 1) (by omega)).1
  have i4 : v4.toInt = ((w (n - 1) : Nat) : Int) := by rw [e4]; exact t_lit _ (by omega)
  refine wp_ite (fun c2 => ?_) (fun c2 => ?_)
  · refine wp_lp2 (fun y6_15 y7_15 => (0 ≤ y7_15.toInt) ∧ (LeI (FdC M b) w n qf qk (ix y7_15) y6_15.toInt) ∧ (y7_15.toInt ≤ 40)) (fun y6_15 y7_15 => (40 - y7_15.toInt).toNat) (fun ag15 y6_15 y7_15 hI15 ih15 => ?_) FU (nI 2147483647) (nI 0) ⟨(by have f0 := t_lit 0; omega), (by rw [show ix (nI 0) = 0 from (by decide)]; exact lei_0), (by decide)⟩ (fu_lt (by have f0 := t_lit 0; omega))
    obtain ⟨hi15, hi, y40⟩ := hI15
    refine wp_ite (fun c19 => ?_) (fun c19 => ?_)
    · exact wp_some (lei_e hi (fun m hm => by have z := t_ixn y7_15 (by omega); by_cases q : m = n - 1; (rw [q]; omega); (have := hw.2.1 m (n - 1) (by omega) (by omega); omega)) hk.1 (by omega) hth.2.2.2.2.2.2)
    · refine wp_ite (fun c26 => ?_) (fun c26 => ?_)
      · exact wp_some (lei_e hi (fun m hm => by have z := t_ixn y7_15 (by omega); by_cases q : m = n - 1; (rw [q]; omega); (have := hw.2.1 m (n - 1) (by omega) (by omega); omega)) hk.1 (by omega) hth.2.2.2.2.2.2)
      · have u := i_up (x := y7_15) (by omega)
        have i7 := t_ixn y7_15 (by omega)
        have i40 : ix y7_15 < 40 := by omega
        have n7 : y7_15 = nI (ix y7_15) := (nI_ixx (by omega)).symm
        refine wp_bind2 (ow_X2_isDry hb M y7_15) (fun r_1 he32 hq32 => ?_)
        obtain ⟨hz_r_1, hr_32, hd_32⟩ := hq32
        replace hr_32 : ¬ r_1.toInt = 0 → 0 ≤ y7_15.toInt ∧ y7_15.toInt < 40 := hr_32
        replace hd_32 : ¬ r_1.toInt = 0 ↔ (0 ≤ y7_15.toInt ∧ y7_15.toInt < 40) ∧ dryG (FdC M b) (ix y7_15) := hd_32
        refine wp_ite (fun c35 => ?_) (fun c35 => ?_)
        · exact ih15 y6_15 (y7_15 + (nI 1)) ⟨(by have f0 := t_lit 1; have f1 := t_add y7_15 (nI 1); omega), (by rw [u.1]; exact lei_n hi (fun m hm e => absurd (hd_32.mpr ⟨⟨by omega, by omega⟩, by rw [← e]; exact (hw.1 m hm).2⟩) (fun z => z c35))), (by rw [u.2]; omega)⟩ (by have f0 := t_lit 1; have f1 := t_add y7_15 (nI 1); omega)
        · have d7 := (hd_32.mp c35).2
          refine wp_ite (fun c46 => ?_) (fun c46 => ?_)
          · have b7 : ¬ bitL v2 (nI (ix y7_15)) := by
              rw [← n7]
              exact fun z => z c46
            obtain ⟨m9, hm9, em9, hu9⟩ := th_m hth i40 d7 (by omega) b7
            have kn : qk < n := by omega
            have f5 := t_sub v5 (nI 1)
            have f1 := nI1
            have d5 : (v5 - nI 1).toInt = v5.toInt - 1 := by omega
            refine wp_bind2 (o8_X2_squares hb M v1 y7_15) (fun r_2 he53 hq53 => ?_)
            have hsq_53 := hq53
            replace hsq_53 : tld (FdC M b) (ix v1) → tld (FdC M b) (ix y7_15) → 0 ≤ v1.toInt → v1.toInt < 40 → 0 ≤ y7_15.toInt → y7_15.toInt < 40 → r_2 = sqF (FdC M b) (ix v1) (ix y7_15) := hsq_53
            refine wp_bind2 (hS_X9_fewestThrows M y7_15 (v2 ||| (lshl 1 y7_15)) v4 (v5 - (nI 1)) w n (exq qf qk m9) (qk + 1) hGd (th_r hth hm9 (by rw [em9]; exact n7) hu9 kn d5) (by rw [d5]; omega)) (fun r_3 he71 hq71 => ?_)
            have hq_71 := hq71
            replace hq_71 : LeE (FdC M b) w n (exq qf qk m9) (qk + 1) r_3.toInt := hq_71
            have e1 := hth.2.2.1
            have hq0 := th_q hth (t := qk - 1) (by omega)
            have dh := (hw.1 _ hq0).2
            have ix1 : ix v1 = w (qf (qk - 1)) := by
              rw [e1]
              exact (ix_eq (by rw [t_lit _ (by have := (hw.1 _ hq0).1; omega)]; omega) (by have := (hw.1 _ hq0).1; omega)).mpr (t_lit _ (by have := (hw.1 _ hq0).1; omega))
            have v1b : 0 ≤ v1.toInt ∧ v1.toInt < 40 := by
              rw [e1, t_lit _ (by have := (hw.1 _ hq0).1; omega)]
              have := (hw.1 _ hq0).1
              omega
            have es := hsq_53 (by rw [ix1]; exact dh.1.2) d7.1.2 v1b.1 v1b.2 (by omega) (by omega)
            have et : r_2.toInt = dW (FdC M b) w (qf (qk - 1)) m9 := by
              rw [es, ix1, ← em9, sqF_t hGd dh (hw.1 m9 hm9).2]
              rfl
            have bd := dd_bd hGd dh (hw.1 m9 hm9).2
            have lb := lee_b hGd hw (by omega) (by omega) hq_71
            refine wp_bnd (fun x_4 ex_4 => ?_)
            have x4 : x_4.toInt = dW (FdC M b) w (qf (qk - 1)) m9 + r_3.toInt := by
              have f := t_add r_2 r_3
              have bd2 : 0 ≤ dW (FdC M b) w (qf (qk - 1)) m9 ∧ dW (FdC M b) w (qf (qk - 1)) m9 ≤ 2000 := bd
              rw [ex_4]
              omega
            refine wp_bnd (fun x_5 ex_5 => ?_)
            exact ih15 x_5 (y7_15 + (nI 1)) ⟨(by have f0 := t_lit 1; have f1 := t_add y7_15 (nI 1); omega), (by rw [u.1]; exact lei_y hi hw hm9 em9 hu9 hq_71 (by have bd2 : dW (FdC M b) w (qf (qk - 1)) m9 ≤ 2000 := bd.2; omega) (by rw [ex_5, t_mn, x4])), (by rw [u.2]; omega)⟩ (by have f0 := t_lit 1; have f1 := t_add y7_15 (nI 1); omega)
          · have b7 : bitL v2 (nI (ix y7_15)) := by
              rw [← n7]
              exact c46
            exact ih15 y6_15 (y7_15 + (nI 1)) ⟨(by have f0 := t_lit 1; have f1 := t_add y7_15 (nI 1); omega), (by rw [u.1]; exact lei_n hi (th_u hth i40 b7)), (by rw [u.2]; omega)⟩ (by have f0 := t_lit 1; have f1 := t_add y7_15 (nI 1); omega)
  · exact wp_some (by rw [nI0, show qk = n from (by omega)]; exact lee_0 (by have z := hth.2.2.2.2.2.2; rw [show qk = n from (by clear z; omega)] at z; exact z))
