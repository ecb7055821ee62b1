theorem dX0_measure_0 : decode cX0_measure 0 = .ok (.iload_n 3, 1) := by decide +kernel
theorem dX0_measure_1 : decode cX0_measure 1 = .ok (.ifCond .lt 22, 3) := by decide +kernel
theorem dX0_measure_4 : decode cX0_measure 4 = .ok (.iload_n 3, 1) := by decide +kernel
theorem dX0_measure_5 : decode cX0_measure 5 = .ok (.bipush 7, 2) := by decide +kernel
theorem dX0_measure_7 : decode cX0_measure 7 = .ok (.if_icmp .ge 16, 3) := by decide +kernel
theorem dX0_measure_10 : decode cX0_measure 10 = .ok (.aload_n 1, 1) := by decide +kernel
theorem dX0_measure_11 : decode cX0_measure 11 = .ok (.aload_n 0, 1) := by decide +kernel
theorem dX0_measure_12 : decode cX0_measure 12 = .ok (.getfield 18, 3) := by decide +kernel
theorem dX0_measure_15 : decode cX0_measure 15 = .ok (.iload_n 3, 1) := by decide +kernel
theorem dX0_measure_16 : decode cX0_measure 16 = .ok (.iaload, 1) := by decide +kernel
theorem dX0_measure_17 : decode cX0_measure 17 = .ok (.invokevirtual 51, 3) := by decide +kernel
theorem dX0_measure_20 : decode cX0_measure 20 = .ok (.ifCond .ne 4, 3) := by decide +kernel
theorem dX0_measure_23 : decode cX0_measure 23 = .ok (.return_, 1) := by decide +kernel
theorem dX0_measure_24 : decode cX0_measure 24 = .ok (.aload_n 0, 1) := by decide +kernel
theorem dX0_measure_25 : decode cX0_measure 25 = .ok (.getfield 18, 3) := by decide +kernel
theorem dX0_measure_28 : decode cX0_measure 28 = .ok (.iload_n 3, 1) := by decide +kernel
theorem dX0_measure_29 : decode cX0_measure 29 = .ok (.iaload, 1) := by decide +kernel
theorem dX0_measure_30 : decode cX0_measure 30 = .ok (.istore 4, 2) := by decide +kernel
theorem dX0_measure_32 : decode cX0_measure 32 = .ok (.iconst 0, 1) := by decide +kernel
theorem dX0_measure_33 : decode cX0_measure 33 = .ok (.istore 5, 2) := by decide +kernel
theorem dX0_measure_35 : decode cX0_measure 35 = .ok (.iload 5, 2) := by decide +kernel
theorem dX0_measure_37 : decode cX0_measure 37 = .ok (.iload_n 2, 1) := by decide +kernel
theorem dX0_measure_38 : decode cX0_measure 38 = .ok (.if_icmp .ge 65, 3) := by decide +kernel
theorem dX0_measure_41 : decode cX0_measure 41 = .ok (.iload 5, 2) := by decide +kernel
theorem dX0_measure_43 : decode cX0_measure 43 = .ok (.bipush 7, 2) := by decide +kernel
theorem dX0_measure_45 : decode cX0_measure 45 = .ok (.if_icmp .ge 58, 3) := by decide +kernel
theorem dX0_measure_48 : decode cX0_measure 48 = .ok (.aload_n 0, 1) := by decide +kernel
theorem dX0_measure_49 : decode cX0_measure 49 = .ok (.getfield 21, 3) := by decide +kernel
theorem dX0_measure_52 : decode cX0_measure 52 = .ok (.iload 5, 2) := by decide +kernel
theorem dX0_measure_54 : decode cX0_measure 54 = .ok (.bipush 7, 2) := by decide +kernel
theorem dX0_measure_56 : decode cX0_measure 56 = .ok (.imul, 1) := by decide +kernel
theorem dX0_measure_57 : decode cX0_measure 57 = .ok (.iload_n 3, 1) := by decide +kernel
theorem dX0_measure_58 : decode cX0_measure 58 = .ok (.iadd, 1) := by decide +kernel
theorem dX0_measure_59 : decode cX0_measure 59 = .ok (.aload_n 1, 1) := by decide +kernel
theorem dX0_measure_60 : decode cX0_measure 60 = .ok (.getfield 55, 3) := by decide +kernel
theorem dX0_measure_63 : decode cX0_measure 63 = .ok (.iload 4, 2) := by decide +kernel
theorem dX0_measure_65 : decode cX0_measure 65 = .ok (.iaload, 1) := by decide +kernel
theorem dX0_measure_66 : decode cX0_measure 66 = .ok (.aload_n 0, 1) := by decide +kernel
theorem dX0_measure_67 : decode cX0_measure 67 = .ok (.getfield 9, 3) := by decide +kernel
theorem dX0_measure_70 : decode cX0_measure 70 = .ok (.iload 5, 2) := by decide +kernel
theorem dX0_measure_72 : decode cX0_measure 72 = .ok (.iaload, 1) := by decide +kernel
theorem dX0_measure_73 : decode cX0_measure 73 = .ok (.isub, 1) := by decide +kernel
theorem dX0_measure_74 : decode cX0_measure 74 = .ok (.invokestatic 58, 3) := by decide +kernel
theorem dX0_measure_77 : decode cX0_measure 77 = .ok (.aload_n 1, 1) := by decide +kernel
theorem dX0_measure_78 : decode cX0_measure 78 = .ok (.getfield 61, 3) := by decide +kernel
theorem dX0_measure_81 : decode cX0_measure 81 = .ok (.iload 4, 2) := by decide +kernel
theorem dX0_measure_83 : decode cX0_measure 83 = .ok (.iaload, 1) := by decide +kernel
theorem dX0_measure_84 : decode cX0_measure 84 = .ok (.aload_n 0, 1) := by decide +kernel
theorem dX0_measure_85 : decode cX0_measure 85 = .ok (.getfield 15, 3) := by decide +kernel
theorem dX0_measure_88 : decode cX0_measure 88 = .ok (.iload 5, 2) := by decide +kernel
theorem dX0_measure_90 : decode cX0_measure 90 = .ok (.iaload, 1) := by decide +kernel
theorem dX0_measure_91 : decode cX0_measure 91 = .ok (.isub, 1) := by decide +kernel
theorem dX0_measure_92 : decode cX0_measure 92 = .ok (.invokestatic 58, 3) := by decide +kernel
theorem dX0_measure_95 : decode cX0_measure 95 = .ok (.iadd, 1) := by decide +kernel
theorem dX0_measure_96 : decode cX0_measure 96 = .ok (.iastore, 1) := by decide +kernel
theorem dX0_measure_97 : decode cX0_measure 97 = .ok (.iinc 5 1, 3) := by decide +kernel
theorem dX0_measure_100 : decode cX0_measure 100 = .ok (.goto (-65), 3) := by decide +kernel
theorem dX0_measure_103 : decode cX0_measure 103 = .ok (.return_, 1) := by decide +kernel
set_option maxHeartbeats 4000000 in
theorem s_X0_measure (b : Nat) (hb : isF b) (v2 : Int32) (v3 : Int32) (M : Mem) : AM yX0_measure cX0_measure 6 none 1 60 glC (fun ad => [.ref (ad 37), .ref (ad b), .int v2, .int v3]) M (PV (fun M' => ∀ a, a ≠ 41 → M' a = M a)) := by
  refine AM.of (by decide) (fun _ => Nat.le_of_ble_eq_true rfl) (fun X ad cI cZ cB hX hR => ?_)
  show V X M [(0, .ref (ad 37)), (1, .ref (ad b)), (2, .int v2), (3, .int v3)] [] 0
  have hb0 : b = 1 ∨ b = 7 ∨ b = 13 := hb
  have hf_0 : ∀ a, a ≠ 41 → M a = M a := fun _ _ => rfl
  refine s_iload_n (k := 3) hX dX0_measure_0 rfl rfl ?_
  refine s_if_lt (tgt := 23) hX dX0_measure_1 (by decide) (fun c1 => ?_) (fun c1 => ?_)
  · replace c1 := z_lt.mp c1
    exact s_vret hX hR dX0_measure_23 hf_0
  · replace c1 := mt z_lt.mpr c1
    refine s_iload_n (k := 3) hX dX0_measure_4 rfl rfl ?_
    refine s_bipush (v := (nI 7)) hX dX0_measure_5 (by decide) ?_
    refine s_icmp_ge (tgt := 23) hX dX0_measure_7 (by decide) (fun c7 => ?_) (fun c7 => ?_)
    · replace c7 := (q_ge (by omega)).mp c7
      exact s_vret hX hR dX0_measure_23 hf_0
    · replace c7 := mt (q_ge (by omega)).mpr c7
      obtain ⟨kk, hkk, rfl⟩ := ixi (x := v3) (n := 7) (by omega) (by omega)
      refine s_aload_n (k := 1) hX dX0_measure_10 rfl rfl ?_
      refine s_aload_n (k := 0) hX dX0_measure_11 rfl rfl ?_
      refine s_get hX fX0_18 oC37 rfl dX0_measure_12 ?_
      refine s_iload_n (k := 3) hX dX0_measure_15 rfl rfl ?_
      refine s_ialdN hX aC40 (by omega) dX0_measure_16 ?_
      refine s_callVi hX (s_X2_isTold b hb _ M) mX2_isTold lX0_51 (by decide) (by decide) (oF hb) rfl rfl rfl rfl rfl (Nat.le_of_ble_eq_true rfl) dX0_measure_17 (fun r17 M_1 hp17 => ?_)
      obtain ⟨rfl, h2⟩ := hp17
      subst h2
      refine s_if_ne (tgt := 24) hX dX0_measure_20 (by decide) (fun c20 => ?_) (fun c20 => ?_)
      · replace c20 := bI_ne c20
        refine s_aload_n (k := 0) hX dX0_measure_24 rfl rfl ?_
        refine s_get hX fX0_18 oC37 rfl dX0_measure_25 ?_
        refine s_iload_n (k := 3) hX dX0_measure_28 rfl rfl ?_
        refine s_ialdN hX aC40 (by omega) dX0_measure_29 ?_
        refine s_istore (lv' := [(0, .ref (ad 37)), (1, .ref (ad b)), (2, .int v2), (3, .int (nI kk)), (4, .int (M 40 kk))]) hX dX0_measure_30 (by decide) rfl ?_
        refine s_iconst (v := (nI 0)) hX dX0_measure_32 (by decide) ?_
        refine s_istore (lv' := [(0, .ref (ad 37)), (1, .ref (ad b)), (2, .int v2), (3, .int (nI kk)), (4, .int (M 40 kk)), (5, .int (nI 0))]) hX dX0_measure_33 (by decide) rfl ?_
        have lp35 : ∀ (N35 : Nat) (i35 : Nat) (M35 : Mem), (i35 ≤ 7) → (7 < i35 + N35) → (∀ a, a ≠ 41 → M35 a = M a) → V X M35 [(0, .ref (ad 37)), (1, .ref (ad b)), (2, .int v2), (3, .int (nI kk)), (4, .int (M 40 kk)), (5, .int (nI i35))] [] 35 := by
          intro N35
          induction N35 with
          | zero => intro i35 M35 hi35 hN35 hf_35; exact absurd hN35 (by omega)
          | succ N35 ih35 =>
            intro i35 M35 hi35 hN35 hf_35
            refine s_iload (k := 5) hX dX0_measure_35 rfl ?_
            refine s_iload_n (k := 2) hX dX0_measure_37 rfl rfl ?_
            refine s_icmp_ge (tgt := 103) hX dX0_measure_38 (by decide) (fun c38 => ?_) (fun c38 => ?_)
            · replace c38 := (q_le (by omega)).mp c38
              exact s_vret hX hR dX0_measure_103 hf_35
            · replace c38 := mt (q_le (by omega)).mpr c38
              refine s_iload (k := 5) hX dX0_measure_41 rfl ?_
              refine s_bipush (v := (nI 7)) hX dX0_measure_43 (by decide) ?_
              refine s_icmp_ge (tgt := 103) hX dX0_measure_45 (by decide) (fun c45 => ?_) (fun c45 => ?_)
              · replace c45 := (nI_leI (by omega) (by omega)).mp c45
                exact s_vret hX hR dX0_measure_103 hf_35
              · replace c45 := mt (nI_leI (by omega) (by omega)).mpr c45
                refine s_aload_n (k := 0) hX dX0_measure_48 rfl rfl ?_
                refine s_get hX fX0_21 oC37 rfl dX0_measure_49 ?_
                refine s_iload (k := 5) hX dX0_measure_52 rfl ?_
                refine s_bipush (v := (nI 7)) hX dX0_measure_54 (by decide) ?_
                refine s_imul hX dX0_measure_56 ?_
                refine s_top (y := nI (i35 * 7)) (pk_mul _ _) ?_
                refine s_iload_n (k := 3) hX dX0_measure_57 rfl rfl ?_
                refine s_iadd hX dX0_measure_58 ?_
                refine s_top (y := nI ((i35 * 7) + kk)) (nI_add _ _) ?_
                refine s_aload_n (k := 1) hX dX0_measure_59 rfl rfl ?_
                refine s_get hX fX0_55 (oF hb) rfl dX0_measure_60 ?_
                refine s_iload (k := 4) hX dX0_measure_63 rfl ?_
                refine s_iald hX (aF1 hb) (vp_in_iff.mpr (by omega)) dX0_measure_65 ?_
                refine s_aload_n (k := 0) hX dX0_measure_66 rfl rfl ?_
                refine s_get hX fX0_9 oC37 rfl dX0_measure_67 ?_
                refine s_iload (k := 5) hX dX0_measure_70 rfl ?_
                refine s_ialdN hX aC38 (by omega) dX0_measure_72 ?_
                refine s_isub hX dX0_measure_73 ?_
                refine s_mabs hX lX0_58 mJ9_abs (by decide) (Nat.le_of_ble_eq_true rfl) dX0_measure_74 ?_
                refine s_aload_n (k := 1) hX dX0_measure_77 rfl rfl ?_
                refine s_get hX fX0_61 (oF hb) rfl dX0_measure_78 ?_
                refine s_iload (k := 4) hX dX0_measure_81 rfl ?_
                refine s_iald hX (aF2 hb) (vp_in_iff.mpr (by omega)) dX0_measure_83 ?_
                refine s_aload_n (k := 0) hX dX0_measure_84 rfl rfl ?_
                refine s_get hX fX0_15 oC37 rfl dX0_measure_85 ?_
                refine s_iload (k := 5) hX dX0_measure_88 rfl ?_
                refine s_ialdN hX aC39 (by omega) dX0_measure_90 ?_
                refine s_isub hX dX0_measure_91 ?_
                refine s_mabs hX lX0_58 mJ9_abs (by decide) (Nat.le_of_ble_eq_true rfl) dX0_measure_92 ?_
                refine s_iadd hX dX0_measure_95 ?_
                refine s_iastN hX aC41 (by omega) dX0_measure_96 ?_
                refine s_mem (fun M_3 eM_3 => ?_)
                have hfM_3 : ∀ a, a ≠ 41 → M_3 a = M a := fun a q0 => (congrFun eM_3 a).trans ((mset_n (by omega)).trans (hf_35 a q0))
                refine s_iinc (k := 5) (v := nI (i35 + 1)) (lv' := [(0, .ref (ad 37)), (1, .ref (ad b)), (2, .int v2), (3, .int (nI kk)), (4, .int (M 40 kk)), (5, .int (nI (i35 + 1)))]) hX dX0_measure_97 (nI_1 _) (by decide) rfl rfl ?_
                refine s_goto (tgt := 35) hX dX0_measure_100 (by decide) ?_
                exact ih35 _ _ (by omega) (by omega) hfM_3
        exact lp35 (7 + 1) _ _ (by omega) (by omega) hf_0
      · replace c20 := bI_eq c20
        exact s_vret hX hR dX0_measure_23 hf_0
