set_option maxHeartbeats 4000000 in
theorem oq5_X0_wayWith (M : Mem) (v1 : Int32) (v2 : Int32) (v3 : Int32) (h1 : 0 ≤ v1.toInt ∧ v1.toInt < 128) (h2 : 0 ≤ v2.toInt ∧ v2.toInt < 7) (h3 : 0 ≤ v3.toInt ∧ v3.toInt < 7) : Wp (f_X0_wayWith M v1 v2 v3) (fun q => (q = (if (ix v1).testBit (ix v3) = true then nI 2147483647 else M 41 (ix v2 * 7 + ix v3) + M 42 (ix v1 ||| 2 ^ ix v3)))) := by
  refine wp_ite (fun c1 => ?_) (fun c1 => ?_)
  · exact wp_some (False.elim (by omega))
  · refine wp_ite (fun c7 => ?_) (fun c7 => ?_)
    · exact wp_some (False.elim (by omega))
    · refine wp_ite (fun c11 => ?_) (fun c11 => ?_)
      · exact wp_some (False.elim (by omega))
      · refine wp_ite (fun c17 => ?_) (fun c17 => ?_)
        · exact wp_some (False.elim (by omega))
        · refine wp_ite (fun c21 => ?_) (fun c21 => ?_)
          · refine wp_bnd (fun x_1 ex_1 => ?_)
            have wx := ww_x h1 h3
            have wt := ww_t h1 h3
            rw [← ex_1] at wx wt
            refine wp_ite (fun c37 => ?_) (fun c37 => ?_)
            · exact wp_some (by rw [if_pos (wt.mp c37)])
            · refine wp_ite (fun c45 => ?_) (fun c45 => ?_)
              · have e7 := me_ix h2 h3
                have i1 := t_ixn x_1 (by omega)
                refine wp_gd (by have f0 := t_lit 7; have f1 := (t_mulR v2 7 (by omega) (by omega)); have f2 := t_add (v2 * (nI 7)) v3; omega) ?_
                refine wp_gd (by have f0 := t_lit 1; have f1 := congrArg Int32.toInt ex_1; omega) ?_
                exact wp_some (by rw [if_neg (fun z => c37 (wt.mpr z)), e7, show ix x_1 = ix v1 ||| 2 ^ ix v3 from (by omega)])
              · exact wp_some (False.elim (by omega))
          · exact wp_some (False.elim (by omega))
