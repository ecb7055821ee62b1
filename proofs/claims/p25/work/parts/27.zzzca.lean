theorem oq5_X10_chalkOff (M : Mem) (v1 : Int32) (hv : v1.toInt ≤ 7) (hr : PermN (M 37) v1.toInt.toNat) (hw : ∀ j : Nat, (j : Int) < v1.toInt → 0 ≤ (M 36 j).toInt ∧ (M 36 j).toInt < 40) (hv0 : 0 ≤ v1.toInt) (hGd : GdF (FdR M 1)) (hto : ∀ k, k < v1.toInt.toNat → tldP (FdR M 1) (RwN (M 36) k)) : Wp (f_X10_chalkOff M v1) (fun q => (q.toInt = tlS (ckG (FdR M 1) (fun j => ((M 5 j) &&& (nI 255)).toInt) (RwN (M 36))) (RwN (M 37)) 0 v1.toInt.toNat ∧ 0 ≤ q.toInt ∧ q.toInt ≤ 7000)) := by
  have ft1 := t_rng v1
  refine wp_lp2 (fun y2_4 y3_4 => (0 ≤ y3_4.toInt) ∧ (y2_4.toInt = sI (fun j => (ckG (FdR M 1) (fun j => ((M 5 j) &&& (nI 255)).toInt) (RwN (M 36))) j (RwN (M 37) j)) (ix y3_4) ∧ 0 ≤ y2_4.toInt ∧ y2_4.toInt ≤ 510 * y3_4.toInt) ∧ (y3_4.toInt ≤ v1.toInt)) (fun y2_4 y3_4 => (v1.toInt - y3_4.toInt).toNat) (fun ag4 y2_4 y3_4 hI4 ih4 => ?_) FU (nI 0) (nI 0) ⟨(by have f0 := t_lit 0; omega), (by rw [show ix (nI 0) = 0 from (by decide)]; exact ⟨nI0, by rw [nI0]; omega⟩), (by rw [nI0]; exact hv0)⟩ (fu_lt (by have f0 := t_lit 0; omega))
  obtain ⟨hi4, h4, y34⟩ := hI4
  refine wp_ite (fun c6 => ?_) (fun c6 => ?_)
  · exact wp_some ⟨by rw [tl_0, show v1.toInt.toNat = ix y3_4 from (by have z := t_ixn y3_4 (by omega); omega)]; exact h4.1, by omega⟩
  · have u3 := i_up (x := y3_4) (by omega)
    have i3 := t_ixn y3_4 (by omega)
    have xx := rd_ix (y := y3_4) (by omega)
    refine wp_gd (by omega) ?_
    have fx := t_ixn y3_4 (by omega)
    have hr1 := hr.1 (ix y3_4) (by omega)
    refine wp_gd (by omega) ?_
    refine wp_bnd (fun x_1 ex_1 => ?_)
    have fx2 := t_ixn (M 37 (ix y3_4)) (by omega)
    have hx1 := hw (ix (M 37 (ix y3_4))) (by omega)
    rw [← ex_1] at hx1
    have w9 : ix x_1 = RwN (M 36) (RwN (M 37) (ix y3_4)) := by
      rw [ex_1]
      rfl
    have pm := pm_of hr
    have t9 := hto _ (pm.1 (ix y3_4) (by omega))
    rw [← w9] at t9
    have tb := told_b hGd t9
    refine wp_gd (by have f0 := t_lit 40; have f1 := t_add (nI 40) x_1; have f2 := congrArg Int32.toInt ex_1; omega) ?_
    refine wp_bind2 (o4_X10_octet M ((nI 2) * y3_4) (by omega)) (fun r_2 he37 hq37 => ?_)
    have hb_37 := hq37
    replace hb_37 : r_2 = (M 5 (ix ((nI 2) * y3_4))) &&& (nI 255) := hb_37
    refine wp_bind2 (o4_X10_size M ((M 1 (ix ((nI 40) + x_1))) - r_2)) (fun r_3 he41 hq41 => ?_)
    have hz0_41 := hq41
    replace hz0_41 : -1000000 ≤ ((M 1 (ix ((nI 40) + x_1))) - r_2).toInt → r_3.toInt = iab ((M 1 (ix ((nI 40) + x_1))) - r_2).toInt := hz0_41
    rw [fdr_x hx1.1 hx1.2 t9.2, hb_37, xx.2.1] at hz0_41
    have v3 := co_v tb.1 (and255 _) hz0_41
    refine wp_gd (by have f0 := t_lit 80; have f1 := t_add (nI 80) x_1; have f2 := congrArg Int32.toInt ex_1; omega) ?_
    refine wp_bind2 (o4_X10_octet M (((nI 2) * y3_4) + (nI 1)) (by omega)) (fun r_4 he61 hq61 => ?_)
    have hb_61 := hq61
    replace hb_61 : r_4 = (M 5 (ix (((nI 2) * y3_4) + (nI 1)))) &&& (nI 255) := hb_61
    refine wp_bind2 (o4_X10_size M ((M 1 (ix ((nI 80) + x_1))) - r_4)) (fun r_5 he65 hq65 => ?_)
    have hz0_65 := hq65
    replace hz0_65 : -1000000 ≤ ((M 1 (ix ((nI 80) + x_1))) - r_4).toInt → r_5.toInt = iab ((M 1 (ix ((nI 80) + x_1))) - r_4).toInt := hz0_65
    rw [fdr_y hx1.1 hx1.2 t9.2, hb_61, xx.2.2.2] at hz0_65
    have v5 := co_v (by omega) (and255 _) hz0_65
    refine wp_bnd (fun x_6 ex_6 => ?_)
    have e6 : x_6.toInt = y2_4.toInt + (ckG (FdR M 1) (fun j => ((M 5 j) &&& (nI 255)).toInt) (RwN (M 36))) (ix y3_4) (RwN (M 37) (ix y3_4)) ∧ r_3.toInt + r_5.toInt = (ckG (FdR M 1) (fun j => ((M 5 j) &&& (nI 255)).toInt) (RwN (M 36))) (ix y3_4) (RwN (M 37) (ix y3_4)) := by
      have g9 : (ckG (FdR M 1) (fun j => ((M 5 j) &&& (nI 255)).toInt) (RwN (M 36))) (ix y3_4) (RwN (M 37) (ix y3_4)) = r_3.toInt + r_5.toInt := by
        unfold ckG
        rw [← w9, v3.1, v5.1]
      rw [g9, ex_6]
      have f1 := t_add y2_4 r_3
      have f2 := t_add (y2_4 + r_3) r_5
      omega
    exact ih4 x_6 (y3_4 + (nI 1)) ⟨(by have f0 := t_lit 1; have f1 := t_add y3_4 (nI 1); omega), (by rw [u3.1, u3.2]; exact ⟨by show _ = sI _ (ix y3_4) + _; rw [← h4.1]; exact e6.1, by omega⟩), (by rw [u3.2]; omega)⟩ (by have f0 := t_lit 1; have f1 := t_add y3_4 (nI 1); omega)
