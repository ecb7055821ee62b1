set_option maxHeartbeats 4000000 in
theorem oq5_X0_fewestBehind (M : Mem) (v1 : Int32) (v2 : Int32) (g : Nat → Nat → Int) (hn : 1 ≤ v1.toInt ∧ v1.toInt ≤ 7) (hs : 0 ≤ v2.toInt ∧ ix v2 < 2 ^ v1.toInt.toNat) (hg : ∀ j k, j < v1.toInt.toNat → k < v1.toInt.toNat → (M 41 (j * 7 + k)).toInt = g j k ∧ 0 ≤ g j k ∧ g j k ≤ 1000) (hL : ∀ s', ix v2 < s' → s' < 2 ^ v1.toInt.toNat → LeS g v1.toInt.toNat s' (bcN s') (M 42 s').toInt) : Wp (f_X0_fewestBehind M v1 v2) (fun q => (LeS g v1.toInt.toNat (ix v2) (bcN (ix v2)) q.toInt)) := by
  have l7 := ck_p v1.toInt.toNat (by omega)
  have i2 := t_ixn v2 hs.1
  have bn := ck_n v1.toInt.toNat (by omega) (ix v2) hs.2
  refine wp_bind2 (oq5_J6_bitCount_0f7a4 M v2 ⟨hs.1, by omega⟩) (fun r_1 he1 hq1 => ?_)
  have hbc_1 := hq1
  replace hbc_1 : r_1 = nI (bcN (ix v2)) := hbc_1
  have b1 : r_1.toInt = ((bcN (ix v2) : Nat) : Int) := by
    rw [hbc_1]
    exact t_lit _ (by omega)
  refine wp_ite (fun c7 => ?_) (fun c7 => ?_)
  · refine wp_lp2 (fun y4_19 y5_19 => (0 ≤ y5_19.toInt) ∧ (LkI g v1.toInt.toNat (ix v2) (bcN (ix v2)) (ix y5_19) y4_19.toInt) ∧ (y5_19.toInt ≤ v1.toInt)) (fun y4_19 y5_19 => (7 - y5_19.toInt).toNat) (fun ag19 y4_19 y5_19 hI19 ih19 => ?_) FU (nI 2147483647) (nI 0) ⟨(by have f0 := t_lit 0; omega), (by rw [show ix (nI 0) = 0 from (by decide)]; exact lk_0), (by rw [nI0]; omega)⟩ (fu_lt (by have f0 := t_lit 0; omega))
    obtain ⟨hi19, hlk, y5v⟩ := hI19
    refine wp_ite (fun c22 => ?_) (fun c22 => ?_)
    · exact wp_some (lk_e9 (by rw [show ix y5_19 = v1.toInt.toNat from (by have z := t_ixn y5_19 (by omega); omega)] at hlk; exact hlk) (by omega) (ck_un (by omega) hs.2 (by omega)))
    · refine wp_ite (fun c29 => ?_) (fun c29 => ?_)
      · exact wp_some (False.elim (by omega))
      · have u := i_up (x := y5_19) (by omega)
        have i5 := t_ixn y5_19 (by omega)
        refine wp_bind2 (oq5_X0_wayWith M v2 r_1 y5_19 ⟨hs.1, by omega⟩ (by omega) (by omega)) (fun r_2 he39 hq39 => ?_)
        have hww_39 := hq39
        replace hww_39 : r_2 = (if (ix v2).testBit (ix y5_19) = true then nI 2147483647 else M 41 (ix r_1 * 7 + ix y5_19) + M 42 (ix v2 ||| 2 ^ ix y5_19)) := hww_39
        have ir : ix r_1 = bcN (ix v2) := by
          have z := t_ixn r_1 (by omega)
          omega
        rw [ir] at hww_39
        refine wp_bnd (fun x_3 ex_3 => ?_)
        exact ih19 x_3 (y5_19 + (nI 1)) ⟨(by have f0 := t_lit 1; have f1 := t_add y5_19 (nI 1); omega), (by rw [u.1]; exact fb_s hlk (by omega) hs.2 rfl (by omega) (by omega) hg hL hww_39 ex_3), (by rw [u.2]; omega)⟩ (by have f0 := t_lit 1; have f1 := t_add y5_19 (nI 1); omega)
  · exact wp_some (by have en : bcN (ix v2) = v1.toInt.toNat := (by omega); rw [en, nI0]; exact ls_full (bn.2.1 en))
