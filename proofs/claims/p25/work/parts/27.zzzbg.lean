set_option maxHeartbeats 4000000 in
theorem oq5_X0_stoneOf (M : Mem) (v1 : Int32) (v2 : Int32) (g : Nat → Nat → Int) (hn : 1 ≤ v1.toInt ∧ v1.toInt ≤ 7) (hv2 : 0 ≤ v2.toInt ∧ v2.toInt < v1.toInt) (hg : ∀ j k, j < v1.toInt.toNat → k < v1.toInt.toNat → (M 41 (j * 7 + k)).toInt = g j k ∧ 0 ≤ g j k ∧ g j k ≤ 1000) (hL : ∀ s, s < 2 ^ v1.toInt.toNat → LeS g v1.toInt.toNat s (bcN s) (M 42 s).toInt) : Wp (f_X0_stoneOf M v1 v2) (fun q => (∃ s, SoI g v1.toInt.toNat s (ix v2 + 1) (M 40) q)) := by
  have l7 := ck_p v1.toInt.toNat (by omega)
  refine wp_lp3 (fun y3_8 y4_8 y5_8 => (0 ≤ y5_8.toInt) ∧ (SoI g v1.toInt.toNat (ix y3_8) (ix y5_8) (M 40) y4_8) ∧ (0 ≤ y3_8.toInt ∧ y3_8.toInt < 128) ∧ (y5_8.toInt ≤ v2.toInt + 1)) (fun y3_8 y4_8 y5_8 => (7 - y5_8.toInt).toNat) (fun ag8 y3_8 y4_8 y5_8 hI8 ih8 => ?_) FU (nI 0) (-1) (nI 0) ⟨(by have f0 := t_lit 0; omega), (by rw [show ix (nI 0) = 0 from (by decide)]; exact so_0 (by omega) (by have z := hL 0 (by omega); rw [ck_b0] at z; exact z)), (by rw [nI0]; omega), (by rw [nI0]; omega)⟩ (fu_lt (by have f0 := t_lit 0; omega))
  obtain ⟨hi8, hsi, y38, y58⟩ := hI8
  refine wp_ite (fun c11 => ?_) (fun c11 => ?_)
  · exact wp_some ⟨ix y3_8, by rw [show ix v2 + 1 = ix y5_8 from (by have z := t_ixn v2 hv2.1; have z2 := t_ixn y5_8 (by omega); omega)]; exact hsi⟩
  · refine wp_ite (fun c18 => ?_) (fun c18 => ?_)
    · exact wp_some (False.elim (by omega))
    · have u5 := i_up (x := y5_8) (by omega)
      have i5 := t_ixn y5_8 (by omega)
      have sp := so_p hsi
      refine wp_lp1 (fun y6_24 => (0 ≤ y6_24.toInt) ∧ (∀ j, j < ix y6_24 → ¬ HtI g (ix y3_8) (ix y5_8) (M 42) j) ∧ (y6_24.toInt ≤ v1.toInt)) (fun y6_24 => (7 - y6_24.toInt).toNat) (fun ag24 y6_24 hI24 ih24 => ?_) FU (nI 0) ⟨(by have f0 := t_lit 0; omega), (fun j hj => absurd hj (by rw [show ix (nI 0) = 0 from (by decide)]; exact Nat.not_lt_zero _)), (by rw [nI0]; omega)⟩ (fu_lt (by have f0 := t_lit 0; omega))
      obtain ⟨hi24, h24, y62⟩ := hI24
      refine wp_ite (fun c27 => ?_) (fun c27 => ?_)
      · exact ih8 y3_8 y4_8 (y5_8 + (nI 1)) ⟨(by have f0 := t_lit 1; have f1 := t_add y5_8 (nI 1); omega), (False.elim (so_n (by omega) hsi (by omega) hL (fun j hj => h24 j (by have z := t_ixn y6_24 (by omega); omega)))), (False.elim (so_n (by omega) hsi (by omega) hL (fun j hj => h24 j (by have z := t_ixn y6_24 (by omega); omega)))), (False.elim (so_n (by omega) hsi (by omega) hL (fun j hj => h24 j (by have z := t_ixn y6_24 (by omega); omega))))⟩ (by have f0 := t_lit 1; have f1 := t_add y5_8 (nI 1); omega)
      · refine wp_ite (fun c34 => ?_) (fun c34 => ?_)
        · exact ih8 y3_8 y4_8 (y5_8 + (nI 1)) ⟨(by have f0 := t_lit 1; have f1 := t_add y5_8 (nI 1); omega), (False.elim (so_n (by omega) hsi (by omega) hL (fun j hj => h24 j (by have z := t_ixn y6_24 (by omega); omega)))), (False.elim (so_n (by omega) hsi (by omega) hL (fun j hj => h24 j (by have z := t_ixn y6_24 (by omega); omega)))), (False.elim (so_n (by omega) hsi (by omega) hL (fun j hj => h24 j (by have z := t_ixn y6_24 (by omega); omega))))⟩ (by have f0 := t_lit 1; have f1 := t_add y5_8 (nI 1); omega)
        · have u6 := i_up (x := y6_24) (by omega)
          have i6 := t_ixn y6_24 (by omega)
          refine wp_ite (fun c38 => ?_) (fun c38 => ?_)
          · exact ih24 (y6_24 + (nI 1)) ⟨(by have f0 := t_lit 1; have f1 := t_add y6_24 (nI 1); omega), (False.elim (by omega)), (False.elim (by omega))⟩ (by have f0 := t_lit 1; have f1 := t_add y6_24 (nI 1); omega)
          · refine wp_ite (fun c45 => ?_) (fun c45 => ?_)
            · exact ih24 (y6_24 + (nI 1)) ⟨(by have f0 := t_lit 1; have f1 := t_add y6_24 (nI 1); omega), (False.elim (by omega)), (False.elim (by omega))⟩ (by have f0 := t_lit 1; have f1 := t_add y6_24 (nI 1); omega)
            · refine wp_bind2 (oq5_X0_wayWith M y3_8 y5_8 y6_24 y38 (by omega) (by omega)) (fun r_1 he54 hq54 => ?_)
              have hww_54 := hq54
              replace hww_54 : r_1 = (if (ix y3_8).testBit (ix y6_24) = true then nI 2147483647 else M 41 (ix y5_8 * 7 + ix y6_24) + M 42 (ix y3_8 ||| 2 ^ ix y6_24)) := hww_54
              have hi := ht_i (by omega) sp.1 sp.2 (by omega) (by omega) hg hL hww_54
              refine wp_gd (by omega) ?_
              have j66 : (HtI g (ix y3_8) (ix y5_8) (M 42) (ix y6_24)) → Wp (f_X0_stoneOf_L66 M ag8 y3_8 y5_8 y6_24) (fun q => (∃ s, SoI g v1.toInt.toNat s (ix v2 + 1) (M 40) q)) := by
                intro h66
                unfold f_X0_stoneOf_L66
                refine wp_gd (by omega) ?_
                refine wp_bnd (fun x_2 ex_2 => ?_)
                refine wp_bnd (fun x_3 ex_3 => ?_)
                have wx := ww_x (a := y3_8) (k := y6_24) y38 (by omega)
                rw [← ex_3] at wx
                have wi : ix x_3 = ix y3_8 ||| 2 ^ ix y6_24 := by
                  have z := t_ixn x_3 (by omega)
                  omega
                exact ih8 x_3 x_2 (y5_8 + (nI 1)) ⟨(by have f0 := t_lit 1; have f1 := t_add y5_8 (nI 1); omega), (by rw [u5.1, wi]; exact so_s (by omega) hsi (by omega) hL (by omega) h66 h24 ex_2), (by omega), (by rw [u5.2]; omega)⟩ (by have f0 := t_lit 1; have f1 := t_add y5_8 (nI 1); omega)
              refine wp_ite (fun c63 => ?_) (fun c63 => ?_)
              · exact j66 (hi.mp c63)
              · exact ih24 (y6_24 + (nI 1)) ⟨(by have f0 := t_lit 1; have f1 := t_add y6_24 (nI 1); omega), (fun j hj => by rw [u6.1] at hj; by_cases c9 : j = ix y6_24; (rw [c9]; exact fun z => c63 (hi.mpr z)); (exact h24 j (by omega))), (by rw [u6.2]; omega)⟩ (by have f0 := t_lit 1; have f1 := t_add y6_24 (nI 1); omega)
