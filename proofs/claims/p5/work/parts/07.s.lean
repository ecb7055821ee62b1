theorem dX2_nextDry_0 : decode cX2_nextDry 0 = .ok (.iload_n 1, 1) := by decide +kernel
theorem dX2_nextDry_1 : decode cX2_nextDry 1 = .ok (.iconst 0, 1) := by decide +kernel
theorem dX2_nextDry_2 : decode cX2_nextDry 2 = .ok (.invokestatic 39, 3) := by decide +kernel
theorem dX2_nextDry_5 : decode cX2_nextDry 5 = .ok (.istore_n 2, 1) := by decide +kernel
theorem dX2_nextDry_6 : decode cX2_nextDry 6 = .ok (.iload_n 2, 1) := by decide +kernel
theorem dX2_nextDry_7 : decode cX2_nextDry 7 = .ok (.bipush 40, 2) := by decide +kernel
theorem dX2_nextDry_9 : decode cX2_nextDry 9 = .ok (.if_icmp .ge 19, 3) := by decide +kernel
theorem dX2_nextDry_12 : decode cX2_nextDry 12 = .ok (.aload_n 0, 1) := by decide +kernel
theorem dX2_nextDry_13 : decode cX2_nextDry 13 = .ok (.iload_n 2, 1) := by decide +kernel
theorem dX2_nextDry_14 : decode cX2_nextDry 14 = .ok (.invokevirtual 45, 3) := by decide +kernel
theorem dX2_nextDry_17 : decode cX2_nextDry 17 = .ok (.ifCond .eq 5, 3) := by decide +kernel
theorem dX2_nextDry_20 : decode cX2_nextDry 20 = .ok (.iload_n 2, 1) := by decide +kernel
theorem dX2_nextDry_21 : decode cX2_nextDry 21 = .ok (.ireturn, 1) := by decide +kernel
theorem dX2_nextDry_22 : decode cX2_nextDry 22 = .ok (.iinc 2 1, 3) := by decide +kernel
theorem dX2_nextDry_25 : decode cX2_nextDry 25 = .ok (.goto (-19), 3) := by decide +kernel
theorem dX2_nextDry_28 : decode cX2_nextDry 28 = .ok (.iconst (-1), 1) := by decide +kernel
theorem dX2_nextDry_29 : decode cX2_nextDry 29 = .ok (.ireturn, 1) := by decide +kernel
theorem dX2_nextTold_0 : decode cX2_nextTold 0 = .ok (.iload_n 1, 1) := by decide +kernel
theorem dX2_nextTold_1 : decode cX2_nextTold 1 = .ok (.iconst 0, 1) := by decide +kernel
theorem dX2_nextTold_2 : decode cX2_nextTold 2 = .ok (.invokestatic 39, 3) := by decide +kernel
theorem dX2_nextTold_5 : decode cX2_nextTold 5 = .ok (.istore_n 2, 1) := by decide +kernel
theorem dX2_nextTold_6 : decode cX2_nextTold 6 = .ok (.iload_n 2, 1) := by decide +kernel
theorem dX2_nextTold_7 : decode cX2_nextTold 7 = .ok (.bipush 40, 2) := by decide +kernel
theorem dX2_nextTold_9 : decode cX2_nextTold 9 = .ok (.if_icmp .ge 20, 3) := by decide +kernel
theorem dX2_nextTold_12 : decode cX2_nextTold 12 = .ok (.aload_n 0, 1) := by decide +kernel
theorem dX2_nextTold_13 : decode cX2_nextTold 13 = .ok (.getfield 21, 3) := by decide +kernel
theorem dX2_nextTold_16 : decode cX2_nextTold 16 = .ok (.iload_n 2, 1) := by decide +kernel
theorem dX2_nextTold_17 : decode cX2_nextTold 17 = .ok (.baload, 1) := by decide +kernel
theorem dX2_nextTold_18 : decode cX2_nextTold 18 = .ok (.ifCond .eq 5, 3) := by decide +kernel
theorem dX2_nextTold_21 : decode cX2_nextTold 21 = .ok (.iload_n 2, 1) := by decide +kernel
theorem dX2_nextTold_22 : decode cX2_nextTold 22 = .ok (.ireturn, 1) := by decide +kernel
theorem dX2_nextTold_23 : decode cX2_nextTold 23 = .ok (.iinc 2 1, 3) := by decide +kernel
theorem dX2_nextTold_26 : decode cX2_nextTold 26 = .ok (.goto (-20), 3) := by decide +kernel
theorem dX2_nextTold_29 : decode cX2_nextTold 29 = .ok (.iconst (-1), 1) := by decide +kernel
theorem dX2_nextTold_30 : decode cX2_nextTold 30 = .ok (.ireturn, 1) := by decide +kernel
theorem dX7_number_0 : decode cX7_number 0 = .ok (.iconst 0, 1) := by decide +kernel
theorem dX7_number_1 : decode cX7_number 1 = .ok (.istore_n 2, 1) := by decide +kernel
theorem dX7_number_2 : decode cX7_number 2 = .ok (.iconst 0, 1) := by decide +kernel
theorem dX7_number_3 : decode cX7_number 3 = .ok (.istore_n 3, 1) := by decide +kernel
theorem dX7_number_4 : decode cX7_number 4 = .ok (.iload_n 3, 1) := by decide +kernel
theorem dX7_number_5 : decode cX7_number 5 = .ok (.iload_n 1, 1) := by decide +kernel
theorem dX7_number_6 : decode cX7_number 6 = .ok (.if_icmp .ge 42, 3) := by decide +kernel
theorem dX7_number_9 : decode cX7_number 9 = .ok (.aload_n 0, 1) := by decide +kernel
theorem dX7_number_10 : decode cX7_number 10 = .ok (.invokevirtual 28, 3) := by decide +kernel
theorem dX7_number_13 : decode cX7_number 13 = .ok (.invokestatic 36, 3) := by decide +kernel
theorem dX7_number_16 : decode cX7_number 16 = .ok (.ifCond .eq 32, 3) := by decide +kernel
theorem dX7_number_19 : decode cX7_number 19 = .ok (.bipush 10, 2) := by decide +kernel
theorem dX7_number_21 : decode cX7_number 21 = .ok (.iload_n 2, 1) := by decide +kernel
theorem dX7_number_22 : decode cX7_number 22 = .ok (.imul, 1) := by decide +kernel
theorem dX7_number_23 : decode cX7_number 23 = .ok (.aload_n 0, 1) := by decide +kernel
theorem dX7_number_24 : decode cX7_number 24 = .ok (.invokevirtual 28, 3) := by decide +kernel
theorem dX7_number_27 : decode cX7_number 27 = .ok (.iadd, 1) := by decide +kernel
theorem dX7_number_28 : decode cX7_number 28 = .ok (.bipush 48, 2) := by decide +kernel
theorem dX7_number_30 : decode cX7_number 30 = .ok (.isub, 1) := by decide +kernel
theorem dX7_number_31 : decode cX7_number 31 = .ok (.istore_n 2, 1) := by decide +kernel
theorem dX7_number_32 : decode cX7_number 32 = .ok (.aload_n 0, 1) := by decide +kernel
theorem dX7_number_33 : decode cX7_number 33 = .ok (.dup, 1) := by decide +kernel
theorem dX7_number_34 : decode cX7_number 34 = .ok (.getfield 22, 3) := by decide +kernel
theorem dX7_number_37 : decode cX7_number 37 = .ok (.iconst 1, 1) := by decide +kernel
theorem dX7_number_38 : decode cX7_number 38 = .ok (.iadd, 1) := by decide +kernel
theorem dX7_number_39 : decode cX7_number 39 = .ok (.putfield 22, 3) := by decide +kernel
theorem dX7_number_42 : decode cX7_number 42 = .ok (.iinc 3 1, 3) := by decide +kernel
theorem dX7_number_45 : decode cX7_number 45 = .ok (.goto (-41), 3) := by decide +kernel
theorem dX7_number_48 : decode cX7_number 48 = .ok (.iload_n 3, 1) := by decide +kernel
theorem dX7_number_49 : decode cX7_number 49 = .ok (.ifCond .ne 15, 3) := by decide +kernel
theorem dX7_number_52 : decode cX7_number 52 = .ok (.aload_n 0, 1) := by decide +kernel
theorem dX7_number_53 : decode cX7_number 53 = .ok (.iconst 1, 1) := by decide +kernel
theorem dX7_number_54 : decode cX7_number 54 = .ok (.aload_n 0, 1) := by decide +kernel
theorem dX7_number_55 : decode cX7_number 55 = .ok (.getfield 22, 3) := by decide +kernel
theorem dX7_number_58 : decode cX7_number 58 = .ok (.invokevirtual 32, 3) := by decide +kernel
theorem dX7_number_61 : decode cX7_number 61 = .ok (.pop, 1) := by decide +kernel
theorem dX7_number_62 : decode cX7_number 62 = .ok (.iconst (-1), 1) := by decide +kernel
theorem dX7_number_63 : decode cX7_number 63 = .ok (.ireturn, 1) := by decide +kernel
theorem dX7_number_64 : decode cX7_number 64 = .ok (.aload_n 0, 1) := by decide +kernel
theorem dX7_number_65 : decode cX7_number 65 = .ok (.invokevirtual 28, 3) := by decide +kernel
theorem dX7_number_68 : decode cX7_number 68 = .ok (.invokestatic 36, 3) := by decide +kernel
theorem dX7_number_71 : decode cX7_number 71 = .ok (.ifCond .eq 15, 3) := by decide +kernel
theorem dX7_number_74 : decode cX7_number 74 = .ok (.aload_n 0, 1) := by decide +kernel
theorem dX7_number_75 : decode cX7_number 75 = .ok (.iconst 2, 1) := by decide +kernel
theorem dX7_number_76 : decode cX7_number 76 = .ok (.aload_n 0, 1) := by decide +kernel
theorem dX7_number_77 : decode cX7_number 77 = .ok (.getfield 22, 3) := by decide +kernel
theorem dX7_number_80 : decode cX7_number 80 = .ok (.invokevirtual 32, 3) := by decide +kernel
theorem dX7_number_83 : decode cX7_number 83 = .ok (.pop, 1) := by decide +kernel
theorem dX7_number_84 : decode cX7_number 84 = .ok (.iconst (-1), 1) := by decide +kernel
theorem dX7_number_85 : decode cX7_number 85 = .ok (.ireturn, 1) := by decide +kernel
theorem dX7_number_86 : decode cX7_number 86 = .ok (.iload_n 2, 1) := by decide +kernel
theorem dX7_number_87 : decode cX7_number 87 = .ok (.ireturn, 1) := by decide +kernel
theorem dJ7_fill_53178_0 : decode cJ7_fill_53178 0 = .ok (.iconst 0, 1) := by decide +kernel
theorem dJ7_fill_53178_1 : decode cJ7_fill_53178 1 = .ok (.istore_n 2, 1) := by decide +kernel
theorem dJ7_fill_53178_2 : decode cJ7_fill_53178 2 = .ok (.aload_n 0, 1) := by decide +kernel
theorem dJ7_fill_53178_3 : decode cJ7_fill_53178 3 = .ok (.arraylength, 1) := by decide +kernel
theorem dJ7_fill_53178_4 : decode cJ7_fill_53178 4 = .ok (.istore_n 3, 1) := by decide +kernel
theorem dJ7_fill_53178_5 : decode cJ7_fill_53178 5 = .ok (.iload_n 2, 1) := by decide +kernel
theorem dJ7_fill_53178_6 : decode cJ7_fill_53178 6 = .ok (.iload_n 3, 1) := by decide +kernel
theorem dJ7_fill_53178_7 : decode cJ7_fill_53178 7 = .ok (.if_icmp .ge 13, 3) := by decide +kernel
theorem dJ7_fill_53178_10 : decode cJ7_fill_53178 10 = .ok (.aload_n 0, 1) := by decide +kernel
theorem dJ7_fill_53178_11 : decode cJ7_fill_53178 11 = .ok (.iload_n 2, 1) := by decide +kernel
theorem dJ7_fill_53178_12 : decode cJ7_fill_53178 12 = .ok (.iload_n 1, 1) := by decide +kernel
theorem dJ7_fill_53178_13 : decode cJ7_fill_53178 13 = .ok (.iastore, 1) := by decide +kernel
theorem dJ7_fill_53178_14 : decode cJ7_fill_53178 14 = .ok (.iinc 2 1, 3) := by decide +kernel
theorem dJ7_fill_53178_17 : decode cJ7_fill_53178 17 = .ok (.goto (-12), 3) := by decide +kernel
theorem dJ7_fill_53178_20 : decode cJ7_fill_53178 20 = .ok (.return_, 1) := by decide +kernel
theorem dX8_spreadOn_0 : decode cX8_spreadOn 0 = .ok (.iload_n 3, 1) := by decide +kernel
theorem dX8_spreadOn_1 : decode cX8_spreadOn 1 = .ok (.ifCond .lt 17, 3) := by decide +kernel
theorem dX8_spreadOn_4 : decode cX8_spreadOn 4 = .ok (.iload_n 3, 1) := by decide +kernel
theorem dX8_spreadOn_5 : decode cX8_spreadOn 5 = .ok (.bipush 42, 2) := by decide +kernel
theorem dX8_spreadOn_7 : decode cX8_spreadOn 7 = .ok (.if_icmp .ge 11, 3) := by decide +kernel
theorem dX8_spreadOn_10 : decode cX8_spreadOn 10 = .ok (.aload 4, 2) := by decide +kernel
theorem dX8_spreadOn_12 : decode cX8_spreadOn 12 = .ok (.arraylength, 1) := by decide +kernel
theorem dX8_spreadOn_13 : decode cX8_spreadOn 13 = .ok (.bipush 42, 2) := by decide +kernel
theorem dX8_spreadOn_15 : decode cX8_spreadOn 15 = .ok (.if_icmp .ge 5, 3) := by decide +kernel
theorem dX8_spreadOn_18 : decode cX8_spreadOn 18 = .ok (.iconst 0, 1) := by decide +kernel
theorem dX8_spreadOn_19 : decode cX8_spreadOn 19 = .ok (.ireturn, 1) := by decide +kernel
theorem dX8_spreadOn_20 : decode cX8_spreadOn 20 = .ok (.aload 4, 2) := by decide +kernel
theorem dX8_spreadOn_22 : decode cX8_spreadOn 22 = .ok (.iload_n 3, 1) := by decide +kernel
theorem dX8_spreadOn_23 : decode cX8_spreadOn 23 = .ok (.iconst 0, 1) := by decide +kernel
theorem dX8_spreadOn_24 : decode cX8_spreadOn 24 = .ok (.iastore, 1) := by decide +kernel
theorem dX8_spreadOn_25 : decode cX8_spreadOn 25 = .ok (.aload_n 0, 1) := by decide +kernel
theorem dX8_spreadOn_26 : decode cX8_spreadOn 26 = .ok (.getfield 18, 3) := by decide +kernel
theorem dX8_spreadOn_29 : decode cX8_spreadOn 29 = .ok (.iconst 0, 1) := by decide +kernel
theorem dX8_spreadOn_30 : decode cX8_spreadOn 30 = .ok (.iload_n 3, 1) := by decide +kernel
theorem dX8_spreadOn_31 : decode cX8_spreadOn 31 = .ok (.iastore, 1) := by decide +kernel
theorem dX8_spreadOn_32 : decode cX8_spreadOn 32 = .ok (.iconst 1, 1) := by decide +kernel
theorem dX8_spreadOn_33 : decode cX8_spreadOn 33 = .ok (.istore 6, 2) := by decide +kernel
theorem dX8_spreadOn_35 : decode cX8_spreadOn 35 = .ok (.iconst 0, 1) := by decide +kernel
theorem dX8_spreadOn_36 : decode cX8_spreadOn 36 = .ok (.istore 7, 2) := by decide +kernel
theorem dX8_spreadOn_38 : decode cX8_spreadOn 38 = .ok (.iload 7, 2) := by decide +kernel
theorem dX8_spreadOn_40 : decode cX8_spreadOn 40 = .ok (.iload 6, 2) := by decide +kernel
theorem dX8_spreadOn_42 : decode cX8_spreadOn 42 = .ok (.if_icmp .ge 120, 3) := by decide +kernel
theorem dX8_spreadOn_45 : decode cX8_spreadOn 45 = .ok (.iload 7, 2) := by decide +kernel
theorem dX8_spreadOn_47 : decode cX8_spreadOn 47 = .ok (.bipush 42, 2) := by decide +kernel
theorem dX8_spreadOn_49 : decode cX8_spreadOn 49 = .ok (.if_icmp .ge 113, 3) := by decide +kernel
theorem dX8_spreadOn_52 : decode cX8_spreadOn 52 = .ok (.aload_n 0, 1) := by decide +kernel
theorem dX8_spreadOn_53 : decode cX8_spreadOn 53 = .ok (.getfield 18, 3) := by decide +kernel
theorem dX8_spreadOn_56 : decode cX8_spreadOn 56 = .ok (.iload 7, 2) := by decide +kernel
theorem dX8_spreadOn_58 : decode cX8_spreadOn 58 = .ok (.iaload, 1) := by decide +kernel
theorem dX8_spreadOn_59 : decode cX8_spreadOn 59 = .ok (.istore 8, 2) := by decide +kernel
theorem dX8_spreadOn_61 : decode cX8_spreadOn 61 = .ok (.iload 8, 2) := by decide +kernel
theorem dX8_spreadOn_63 : decode cX8_spreadOn 63 = .ok (.ifCond .lt 20, 3) := by decide +kernel
theorem dX8_spreadOn_66 : decode cX8_spreadOn 66 = .ok (.iload 8, 2) := by decide +kernel
theorem dX8_spreadOn_68 : decode cX8_spreadOn 68 = .ok (.bipush 42, 2) := by decide +kernel
theorem dX8_spreadOn_70 : decode cX8_spreadOn 70 = .ok (.if_icmp .ge 13, 3) := by decide +kernel
theorem dX8_spreadOn_73 : decode cX8_spreadOn 73 = .ok (.aload 4, 2) := by decide +kernel
theorem dX8_spreadOn_75 : decode cX8_spreadOn 75 = .ok (.iload 8, 2) := by decide +kernel
theorem dX8_spreadOn_77 : decode cX8_spreadOn 77 = .ok (.iaload, 1) := by decide +kernel
theorem dX8_spreadOn_78 : decode cX8_spreadOn 78 = .ok (.iconst 1, 1) := by decide +kernel
theorem dX8_spreadOn_79 : decode cX8_spreadOn 79 = .ok (.iadd, 1) := by decide +kernel
theorem dX8_spreadOn_80 : decode cX8_spreadOn 80 = .ok (.goto 4, 3) := by decide +kernel
theorem dX8_spreadOn_83 : decode cX8_spreadOn 83 = .ok (.iconst 0, 1) := by decide +kernel
theorem dX8_spreadOn_84 : decode cX8_spreadOn 84 = .ok (.istore 9, 2) := by decide +kernel
theorem dX8_spreadOn_86 : decode cX8_spreadOn 86 = .ok (.iconst 0, 1) := by decide +kernel
theorem dX8_spreadOn_87 : decode cX8_spreadOn 87 = .ok (.istore 10, 2) := by decide +kernel
theorem dX8_spreadOn_89 : decode cX8_spreadOn 89 = .ok (.iload 10, 2) := by decide +kernel
theorem dX8_spreadOn_91 : decode cX8_spreadOn 91 = .ok (.iload 5, 2) := by decide +kernel
theorem dX8_spreadOn_93 : decode cX8_spreadOn 93 = .ok (.if_icmp .ge 63, 3) := by decide +kernel
theorem dX8_spreadOn_96 : decode cX8_spreadOn 96 = .ok (.iload 10, 2) := by decide +kernel
theorem dX8_spreadOn_98 : decode cX8_spreadOn 98 = .ok (.bipush 42, 2) := by decide +kernel
theorem dX8_spreadOn_100 : decode cX8_spreadOn 100 = .ok (.if_icmp .ge 56, 3) := by decide +kernel
theorem dX8_spreadOn_103 : decode cX8_spreadOn 103 = .ok (.aload 4, 2) := by decide +kernel
theorem dX8_spreadOn_105 : decode cX8_spreadOn 105 = .ok (.iload 10, 2) := by decide +kernel
theorem dX8_spreadOn_107 : decode cX8_spreadOn 107 = .ok (.iaload, 1) := by decide +kernel
theorem dX8_spreadOn_108 : decode cX8_spreadOn 108 = .ok (.iconst (-1), 1) := by decide +kernel
theorem dX8_spreadOn_109 : decode cX8_spreadOn 109 = .ok (.if_icmp .ne 41, 3) := by decide +kernel
theorem dX8_spreadOn_112 : decode cX8_spreadOn 112 = .ok (.iload 6, 2) := by decide +kernel
theorem dX8_spreadOn_114 : decode cX8_spreadOn 114 = .ok (.bipush 42, 2) := by decide +kernel
theorem dX8_spreadOn_116 : decode cX8_spreadOn 116 = .ok (.if_icmp .ge 34, 3) := by decide +kernel
theorem dX8_spreadOn_119 : decode cX8_spreadOn 119 = .ok (.aload_n 1, 1) := by decide +kernel
theorem dX8_spreadOn_120 : decode cX8_spreadOn 120 = .ok (.iload 8, 2) := by decide +kernel
theorem dX8_spreadOn_122 : decode cX8_spreadOn 122 = .ok (.iload 10, 2) := by decide +kernel
theorem dX8_spreadOn_124 : decode cX8_spreadOn 124 = .ok (.iload_n 2, 1) := by decide +kernel
theorem dX8_spreadOn_125 : decode cX8_spreadOn 125 = .ok (.invokevirtual 41, 3) := by decide +kernel
theorem dX8_spreadOn_128 : decode cX8_spreadOn 128 = .ok (.ifCond .eq 22, 3) := by decide +kernel
theorem dX8_spreadOn_131 : decode cX8_spreadOn 131 = .ok (.aload 4, 2) := by decide +kernel
theorem dX8_spreadOn_133 : decode cX8_spreadOn 133 = .ok (.iload 10, 2) := by decide +kernel
theorem dX8_spreadOn_135 : decode cX8_spreadOn 135 = .ok (.iload 9, 2) := by decide +kernel
theorem dX8_spreadOn_137 : decode cX8_spreadOn 137 = .ok (.iastore, 1) := by decide +kernel
theorem dX8_spreadOn_138 : decode cX8_spreadOn 138 = .ok (.aload_n 0, 1) := by decide +kernel
theorem dX8_spreadOn_139 : decode cX8_spreadOn 139 = .ok (.getfield 18, 3) := by decide +kernel
theorem dX8_spreadOn_142 : decode cX8_spreadOn 142 = .ok (.iload 6, 2) := by decide +kernel
theorem dX8_spreadOn_144 : decode cX8_spreadOn 144 = .ok (.iload 10, 2) := by decide +kernel
theorem dX8_spreadOn_146 : decode cX8_spreadOn 146 = .ok (.iastore, 1) := by decide +kernel
theorem dX8_spreadOn_147 : decode cX8_spreadOn 147 = .ok (.iinc 6 1, 3) := by decide +kernel
theorem dX8_spreadOn_150 : decode cX8_spreadOn 150 = .ok (.iinc 10 1, 3) := by decide +kernel
theorem dX8_spreadOn_153 : decode cX8_spreadOn 153 = .ok (.goto (-64), 3) := by decide +kernel
theorem dX8_spreadOn_156 : decode cX8_spreadOn 156 = .ok (.iinc 7 1, 3) := by decide +kernel
theorem dX8_spreadOn_159 : decode cX8_spreadOn 159 = .ok (.goto (-121), 3) := by decide +kernel
theorem dX8_spreadOn_162 : decode cX8_spreadOn 162 = .ok (.iload 6, 2) := by decide +kernel
theorem dX8_spreadOn_164 : decode cX8_spreadOn 164 = .ok (.ireturn, 1) := by decide +kernel
set_option maxHeartbeats 4000000 in
theorem s_X2_nextDry (b : Nat) (hb : isF b) (v1 : Int32) (M : Mem) : AM yX2_nextDry cX2_nextDry 3 (some .int) 1 60 glC (fun ad => [.ref (ad b), .int v1]) M (PI (fun _ M' => M = M')) := by
  refine AM.of (by decide) (fun _ => Nat.le_of_ble_eq_true rfl) (fun X ad cI cZ cB hX hR => ?_)
  show V X M [(0, .ref (ad b)), (1, .int v1)] [] 0
  have hb0 : b = 1 ∨ b = 7 ∨ b = 13 := hb
  refine s_iload_n (k := 1) hX dX2_nextDry_0 rfl rfl ?_
  refine s_iconst (v := (nI 0)) hX dX2_nextDry_1 (by decide) ?_
  refine s_mmax hX lX2_39 mJ9_max (by decide) (Nat.le_of_ble_eq_true rfl) dX2_nextDry_2 ?_
  obtain ⟨z, hz, ez⟩ := mx0 v1
  refine s_top ez ?_
  refine s_istore_n (lv' := [(0, .ref (ad b)), (1, .int v1), (2, .int (nI z))]) hX dX2_nextDry_5 rfl (by decide) rfl ?_
  have lp6 : ∀ (N6 : Nat) (i6 : Nat), (i6 ≤ (z + 40)) → ((z + 40) < i6 + N6) → (i6 < 2 ^ 31) → V X M [(0, .ref (ad b)), (1, .int v1), (2, .int (nI i6))] [] 6 := by
    intro N6
    induction N6 with
    | zero => intro i6 hi6 hN6 hw6; exact absurd hN6 (by omega)
    | succ N6 ih6 =>
      intro i6 hi6 hN6 hw6
      refine s_iload_n (k := 2) hX dX2_nextDry_6 rfl rfl ?_
      refine s_bipush (v := (nI 40)) hX dX2_nextDry_7 (by decide) ?_
      refine s_icmp_ge (tgt := 28) hX dX2_nextDry_9 (by decide) (fun c9 => ?_) (fun c9 => ?_)
      · replace c9 := (nI_leI (by omega) (by omega)).mp c9
        refine s_iconst (v := (-1)) hX dX2_nextDry_28 (by decide) ?_
        exact s_iret hX hR dX2_nextDry_29 rfl
      · replace c9 := mt (nI_leI (by omega) (by omega)).mpr c9
        refine s_aload_n (k := 0) hX dX2_nextDry_12 rfl rfl ?_
        refine s_iload_n (k := 2) hX dX2_nextDry_13 rfl rfl ?_
        refine s_callVi hX (s_X2_isDry b hb _ M) mX2_isDry lX2_45 (by decide) (by decide) (oF hb) rfl rfl rfl rfl rfl (Nat.le_of_ble_eq_true rfl) dX2_nextDry_14 (fun r14 M_1 hp14 => ?_)
        obtain ⟨rfl, h2⟩ := hp14
        subst h2
        refine s_if_eq (tgt := 22) hX dX2_nextDry_17 (by decide) (fun c17 => ?_) (fun c17 => ?_)
        · replace c17 := bI_eq c17
          refine s_iinc (k := 2) (v := nI (i6 + 1)) (lv' := [(0, .ref (ad b)), (1, .int v1), (2, .int (nI (i6 + 1)))]) hX dX2_nextDry_22 (nI_1 _) (by decide) rfl rfl ?_
          refine s_goto (tgt := 6) hX dX2_nextDry_25 (by decide) ?_
          exact ih6 _ (by omega) (by omega) (by omega)
        · replace c17 := bI_ne c17
          refine s_iload_n (k := 2) hX dX2_nextDry_20 rfl rfl ?_
          exact s_iret hX hR dX2_nextDry_21 rfl
  exact lp6 ((z + 40) + 1) _ (by omega) (by omega) hz
set_option maxHeartbeats 4000000 in
theorem s_X2_nextTold (b : Nat) (hb : isF b) (v1 : Int32) (M : Mem) : AM yX2_nextTold cX2_nextTold 3 (some .int) 1 60 glC (fun ad => [.ref (ad b), .int v1]) M (PI (fun _ M' => M = M')) := by
  refine AM.of (by decide) (fun _ => Nat.le_of_ble_eq_true rfl) (fun X ad cI cZ cB hX hR => ?_)
  show V X M [(0, .ref (ad b)), (1, .int v1)] [] 0
  have hb0 : b = 1 ∨ b = 7 ∨ b = 13 := hb
  refine s_iload_n (k := 1) hX dX2_nextTold_0 rfl rfl ?_
  refine s_iconst (v := (nI 0)) hX dX2_nextTold_1 (by decide) ?_
  refine s_mmax hX lX2_39 mJ9_max (by decide) (Nat.le_of_ble_eq_true rfl) dX2_nextTold_2 ?_
  obtain ⟨z, hz, ez⟩ := mx0 v1
  refine s_top ez ?_
  refine s_istore_n (lv' := [(0, .ref (ad b)), (1, .int v1), (2, .int (nI z))]) hX dX2_nextTold_5 rfl (by decide) rfl ?_
  have lp6 : ∀ (N6 : Nat) (i6 : Nat), (i6 ≤ (z + 40)) → ((z + 40) < i6 + N6) → (i6 < 2 ^ 31) → V X M [(0, .ref (ad b)), (1, .int v1), (2, .int (nI i6))] [] 6 := by
    intro N6
    induction N6 with
    | zero => intro i6 hi6 hN6 hw6; exact absurd hN6 (by omega)
    | succ N6 ih6 =>
      intro i6 hi6 hN6 hw6
      refine s_iload_n (k := 2) hX dX2_nextTold_6 rfl rfl ?_
      refine s_bipush (v := (nI 40)) hX dX2_nextTold_7 (by decide) ?_
      refine s_icmp_ge (tgt := 29) hX dX2_nextTold_9 (by decide) (fun c9 => ?_) (fun c9 => ?_)
      · replace c9 := (nI_leI (by omega) (by omega)).mp c9
        refine s_iconst (v := (-1)) hX dX2_nextTold_29 (by decide) ?_
        exact s_iret hX hR dX2_nextTold_30 rfl
      · replace c9 := mt (nI_leI (by omega) (by omega)).mpr c9
        refine s_aload_n (k := 0) hX dX2_nextTold_12 rfl rfl ?_
        refine s_get hX fX2_21 (oF hb) rfl dX2_nextTold_13 ?_
        refine s_iload_n (k := 2) hX dX2_nextTold_16 rfl rfl ?_
        refine s_zaldN hX (aF4 hb) (by omega) dX2_nextTold_17 ?_
        refine s_if_eq (tgt := 23) hX dX2_nextTold_18 (by decide) (fun c18 => ?_) (fun c18 => ?_)
        · replace c18 := z_eq.mp c18
          refine s_iinc (k := 2) (v := nI (i6 + 1)) (lv' := [(0, .ref (ad b)), (1, .int v1), (2, .int (nI (i6 + 1)))]) hX dX2_nextTold_23 (nI_1 _) (by decide) rfl rfl ?_
          refine s_goto (tgt := 6) hX dX2_nextTold_26 (by decide) ?_
          exact ih6 _ (by omega) (by omega) (by omega)
        · replace c18 := mt z_eq.mpr c18
          refine s_iload_n (k := 2) hX dX2_nextTold_21 rfl rfl ?_
          exact s_iret hX hR dX2_nextTold_22 rfl
  exact lp6 ((z + 40) + 1) _ (by omega) (by omega) hz
set_option maxHeartbeats 4000000 in
theorem s_X7_number (v1 : Int32) (M : Mem) (hv : v1.toInt ≤ 5) : AM yX7_number cX7_number 4 (some .int) 2 60 glC (fun ad => [.ref (ad 19), .int v1]) M (PI (fun _ M' => ∀ a, a ≠ 19 → M' a = M a)) := by
  refine AM.of (by decide) (fun _ => Nat.le_of_ble_eq_true rfl) (fun X ad cI cZ cB hX hR => ?_)
  show V X M [(0, .ref (ad 19)), (1, .int v1)] [] 0
  have hf_0 : ∀ a, a ≠ 19 → M a = M a := fun _ _ => rfl
  refine s_iconst (v := (nI 0)) hX dX7_number_0 (by decide) ?_
  refine s_istore_n (lv' := [(0, .ref (ad 19)), (1, .int v1), (2, .int (nI 0))]) hX dX7_number_1 rfl (by decide) rfl ?_
  refine s_iconst (v := (nI 0)) hX dX7_number_2 (by decide) ?_
  refine s_istore_n (lv' := [(0, .ref (ad 19)), (1, .int v1), (2, .int (nI 0)), (3, .int (nI 0))]) hX dX7_number_3 rfl (by decide) rfl ?_
  have lp4 : ∀ (N4 : Nat) (i4 : Nat) (y2_4 : Int32) (M4 : Mem), (i4 ≤ 5) → (5 < i4 + N4) → (∀ a, a ≠ 19 → M4 a = M a) → V X M4 [(0, .ref (ad 19)), (1, .int v1), (2, .int y2_4), (3, .int (nI i4))] [] 4 := by
    intro N4
    induction N4 with
    | zero => intro i4 y2_4 M4 hi4 hN4 hf_4; exact absurd hN4 (by omega)
    | succ N4 ih4 =>
      intro i4 y2_4 M4 hi4 hN4 hf_4
      refine s_iload_n (k := 3) hX dX7_number_4 rfl rfl ?_
      refine s_iload_n (k := 1) hX dX7_number_5 rfl rfl ?_
      refine s_icmp_ge (tgt := 48) hX dX7_number_6 (by decide) (fun c6 => ?_) (fun c6 => ?_)
      · replace c6 := (q_le (by omega)).mp c6
        refine s_iload_n (k := 3) hX dX7_number_48 rfl rfl ?_
        refine s_if_ne (tgt := 64) hX dX7_number_49 (by decide) (fun c49 => ?_) (fun c49 => ?_)
        · refine s_aload_n (k := 0) hX dX7_number_64 rfl rfl ?_
          refine s_callVi hX (s_X7_here  M4) mX7_here lX7_28 (by decide) (by decide) oC19 rfl rfl rfl rfl rfl (Nat.le_of_ble_eq_true rfl) dX7_number_65 (fun r65 M_3 hp65 => ?_)
          subst hp65
          refine s_callSi hX (s_X7_isDigit _ M4) mX7_isDigit lX7_36 (by decide) (by decide) rfl rfl (Nat.le_of_ble_eq_true rfl) dX7_number_68 (fun r68 M_4 hp68 => ?_)
          obtain ⟨hz68, hq68⟩ := hp68
          subst hq68
          refine s_if_eq (tgt := 86) hX dX7_number_71 (by decide) (fun c71 => ?_) (fun c71 => ?_)
          · replace c71 := z_eq.mp c71
            refine s_iload_n (k := 2) hX dX7_number_86 rfl rfl ?_
            exact s_iret hX hR dX7_number_87 hf_4
          · replace c71 := mt z_eq.mpr c71
            refine s_aload_n (k := 0) hX dX7_number_74 rfl rfl ?_
            refine s_iconst (v := (nI 2)) hX dX7_number_75 (by decide) ?_
            refine s_aload_n (k := 0) hX dX7_number_76 rfl rfl ?_
            refine s_get hX fX7_22 oC19 rfl dX7_number_77 ?_
            refine s_callVi hX (s_X7_refuse _ _ M4) mX7_refuse lX7_32 (by decide) (by decide) oC19 rfl rfl rfl rfl rfl (Nat.le_of_ble_eq_true rfl) dX7_number_80 (fun r80 M_5 hp80 => ?_)
            obtain ⟨hz80, hq80⟩ := hp80
            have hfM_5 : ∀ a, a ≠ 19 → M_5 a = M a := fun a q0 => (hq80 a (by omega)).trans (hf_4 a q0)
            refine s_pop hX dX7_number_83 rfl ?_
            refine s_iconst (v := (-1)) hX dX7_number_84 (by decide) ?_
            exact s_iret hX hR dX7_number_85 hfM_5
        · refine s_aload_n (k := 0) hX dX7_number_52 rfl rfl ?_
          refine s_iconst (v := (nI 1)) hX dX7_number_53 (by decide) ?_
          refine s_aload_n (k := 0) hX dX7_number_54 rfl rfl ?_
          refine s_get hX fX7_22 oC19 rfl dX7_number_55 ?_
          refine s_callVi hX (s_X7_refuse _ _ M4) mX7_refuse lX7_32 (by decide) (by decide) oC19 rfl rfl rfl rfl rfl (Nat.le_of_ble_eq_true rfl) dX7_number_58 (fun r58 M_6 hp58 => ?_)
          obtain ⟨hz58, hq58⟩ := hp58
          have hfM_6 : ∀ a, a ≠ 19 → M_6 a = M a := fun a q0 => (hq58 a (by omega)).trans (hf_4 a q0)
          refine s_pop hX dX7_number_61 rfl ?_
          refine s_iconst (v := (-1)) hX dX7_number_62 (by decide) ?_
          exact s_iret hX hR dX7_number_63 hfM_6
      · replace c6 := mt (q_le (by omega)).mpr c6
        refine s_aload_n (k := 0) hX dX7_number_9 rfl rfl ?_
        refine s_callVi hX (s_X7_here  M4) mX7_here lX7_28 (by decide) (by decide) oC19 rfl rfl rfl rfl rfl (Nat.le_of_ble_eq_true rfl) dX7_number_10 (fun r10 M_7 hp10 => ?_)
        subst hp10
        refine s_callSi hX (s_X7_isDigit _ M4) mX7_isDigit lX7_36 (by decide) (by decide) rfl rfl (Nat.le_of_ble_eq_true rfl) dX7_number_13 (fun r13 M_8 hp13 => ?_)
        obtain ⟨hz13, hq13⟩ := hp13
        subst hq13
        refine s_if_eq (tgt := 48) hX dX7_number_16 (by decide) (fun c16 => ?_) (fun c16 => ?_)
        · replace c16 := z_eq.mp c16
          refine s_iload_n (k := 3) hX dX7_number_48 rfl rfl ?_
          refine s_if_ne (tgt := 64) hX dX7_number_49 (by decide) (fun c49 => ?_) (fun c49 => ?_)
          · refine s_aload_n (k := 0) hX dX7_number_64 rfl rfl ?_
            refine s_callVi hX (s_X7_here  M4) mX7_here lX7_28 (by decide) (by decide) oC19 rfl rfl rfl rfl rfl (Nat.le_of_ble_eq_true rfl) dX7_number_65 (fun r65 M_9 hp65 => ?_)
            subst hp65
            refine s_callSi hX (s_X7_isDigit _ M4) mX7_isDigit lX7_36 (by decide) (by decide) rfl rfl (Nat.le_of_ble_eq_true rfl) dX7_number_68 (fun r68 M_10 hp68 => ?_)
            obtain ⟨hz68, hq68⟩ := hp68
            subst hq68
            refine s_if_eq (tgt := 86) hX dX7_number_71 (by decide) (fun c71 => ?_) (fun c71 => ?_)
            · replace c71 := z_eq.mp c71
              refine s_iload_n (k := 2) hX dX7_number_86 rfl rfl ?_
              exact s_iret hX hR dX7_number_87 hf_4
            · replace c71 := mt z_eq.mpr c71
              refine s_aload_n (k := 0) hX dX7_number_74 rfl rfl ?_
              refine s_iconst (v := (nI 2)) hX dX7_number_75 (by decide) ?_
              refine s_aload_n (k := 0) hX dX7_number_76 rfl rfl ?_
              refine s_get hX fX7_22 oC19 rfl dX7_number_77 ?_
              refine s_callVi hX (s_X7_refuse _ _ M4) mX7_refuse lX7_32 (by decide) (by decide) oC19 rfl rfl rfl rfl rfl (Nat.le_of_ble_eq_true rfl) dX7_number_80 (fun r80 M_11 hp80 => ?_)
              obtain ⟨hz80, hq80⟩ := hp80
              have hfM_11 : ∀ a, a ≠ 19 → M_11 a = M a := fun a q0 => (hq80 a (by omega)).trans (hf_4 a q0)
              refine s_pop hX dX7_number_83 rfl ?_
              refine s_iconst (v := (-1)) hX dX7_number_84 (by decide) ?_
              exact s_iret hX hR dX7_number_85 hfM_11
          · refine s_aload_n (k := 0) hX dX7_number_52 rfl rfl ?_
            refine s_iconst (v := (nI 1)) hX dX7_number_53 (by decide) ?_
            refine s_aload_n (k := 0) hX dX7_number_54 rfl rfl ?_
            refine s_get hX fX7_22 oC19 rfl dX7_number_55 ?_
            refine s_callVi hX (s_X7_refuse _ _ M4) mX7_refuse lX7_32 (by decide) (by decide) oC19 rfl rfl rfl rfl rfl (Nat.le_of_ble_eq_true rfl) dX7_number_58 (fun r58 M_12 hp58 => ?_)
            obtain ⟨hz58, hq58⟩ := hp58
            have hfM_12 : ∀ a, a ≠ 19 → M_12 a = M a := fun a q0 => (hq58 a (by omega)).trans (hf_4 a q0)
            refine s_pop hX dX7_number_61 rfl ?_
            refine s_iconst (v := (-1)) hX dX7_number_62 (by decide) ?_
            exact s_iret hX hR dX7_number_63 hfM_12
        · replace c16 := mt z_eq.mpr c16
          refine s_bipush (v := (nI 10)) hX dX7_number_19 (by decide) ?_
          refine s_iload_n (k := 2) hX dX7_number_21 rfl rfl ?_
          refine s_imul hX dX7_number_22 ?_
          refine s_aload_n (k := 0) hX dX7_number_23 rfl rfl ?_
          refine s_callVi hX (s_X7_here  M4) mX7_here lX7_28 (by decide) (by decide) oC19 rfl rfl rfl rfl rfl (Nat.le_of_ble_eq_true rfl) dX7_number_24 (fun r24 M_13 hp24 => ?_)
          subst hp24
          refine s_iadd hX dX7_number_27 ?_
          refine s_bipush (v := (nI 48)) hX dX7_number_28 (by decide) ?_
          refine s_isub hX dX7_number_30 ?_
          refine s_topi (fun x2_14 ex2_14 => ?_)
          refine s_istore_n (lv' := [(0, .ref (ad 19)), (1, .int v1), (3, .int (nI i4)), (2, .int x2_14)]) hX dX7_number_31 rfl (by decide) rfl ?_
          refine s_aload_n (k := 0) hX dX7_number_32 rfl rfl ?_
          refine s_dup hX dX7_number_33 rfl ?_
          refine s_get hX fX7_22 oC19 rfl dX7_number_34 ?_
          refine s_iconst (v := (nI 1)) hX dX7_number_37 (by decide) ?_
          refine s_iadd hX dX7_number_38 ?_
          refine s_puti (ty := .int) hX fX7_22 oC19 rfl (Nat.le_of_ble_eq_true rfl) ty_7_3 rfl rfl dX7_number_39 ?_
          refine s_mem (fun M_15 eM_15 => ?_)
          have hfM_15 : ∀ a, a ≠ 19 → M_15 a = M a := fun a q0 => (congrFun eM_15 a).trans ((mset_n (by omega)).trans (hf_4 a q0))
          refine s_iinc (k := 2) (v := nI (i4 + 1)) (lv' := [(0, .ref (ad 19)), (1, .int v1), (2, .int x2_14), (3, .int (nI (i4 + 1)))]) hX dX7_number_42 (nI_1 _) (by decide) rfl rfl ?_
          refine s_goto (tgt := 4) hX dX7_number_45 (by decide) ?_
          exact ih4 _ _ _ (by omega) (by omega) hfM_15
  exact lp4 (5 + 1) _ _ _ (by omega) (by omega) hf_0
set_option maxHeartbeats 4000000 in
theorem s_J7_fill_53178 (k len_k : Nat) (hk : ∀ {ad : Nat → Nat} {cI cZ cB : ClassId}, IA (glC ad cI cZ cB) 60 k cI len_k) (hlk : len_k < 2 ^ 31) (v1 : Int32) (M : Mem) : AM yJ7_fill_53178 cJ7_fill_53178 4 none 0 60 glC (fun ad => [.ref (ad k), .int v1]) M (PV (fun M' => ∀ a, a ≠ k → M' a = M a)) := by
  refine AM.of (by decide) (fun _ => Nat.le_of_ble_eq_true rfl) (fun X ad cI cZ cB hX hR => ?_)
  show V X M [(0, .ref (ad k)), (1, .int v1)] [] 0
  have hf_0 : ∀ a, a ≠ k → M a = M a := fun _ _ => rfl
  refine s_iconst (v := (nI 0)) hX dJ7_fill_53178_0 (by decide) ?_
  refine s_istore_n (lv' := [(0, .ref (ad k)), (1, .int v1), (2, .int (nI 0))]) hX dJ7_fill_53178_1 rfl (by decide) rfl ?_
  refine s_aload_n (k := 0) hX dJ7_fill_53178_2 rfl rfl ?_
  refine s_alen (v := nI len_k) hX hk rfl dJ7_fill_53178_3 ?_
  refine s_istore_n (lv' := [(0, .ref (ad k)), (1, .int v1), (2, .int (nI 0)), (3, .int (nI len_k))]) hX dJ7_fill_53178_4 rfl (by decide) rfl ?_
  have lp5 : ∀ (N5 : Nat) (i5 : Nat) (M5 : Mem), (i5 ≤ len_k) → (len_k < i5 + N5) → (∀ a, a ≠ k → M5 a = M a) → V X M5 [(0, .ref (ad k)), (1, .int v1), (2, .int (nI i5)), (3, .int (nI len_k))] [] 5 := by
    intro N5
    induction N5 with
    | zero => intro i5 M5 hi5 hN5 hf_5; exact absurd hN5 (by omega)
    | succ N5 ih5 =>
      intro i5 M5 hi5 hN5 hf_5
      refine s_iload_n (k := 2) hX dJ7_fill_53178_5 rfl rfl ?_
      refine s_iload_n (k := 3) hX dJ7_fill_53178_6 rfl rfl ?_
      refine s_icmp_ge (tgt := 20) hX dJ7_fill_53178_7 (by decide) (fun c7 => ?_) (fun c7 => ?_)
      · replace c7 := (nI_leI (by omega) (by omega)).mp c7
        exact s_vret hX hR dJ7_fill_53178_20 hf_5
      · replace c7 := mt (nI_leI (by omega) (by omega)).mpr c7
        refine s_aload_n (k := 0) hX dJ7_fill_53178_10 rfl rfl ?_
        refine s_iload_n (k := 2) hX dJ7_fill_53178_11 rfl rfl ?_
        refine s_iload_n (k := 1) hX dJ7_fill_53178_12 rfl rfl ?_
        refine s_iastN (hlen := hlk) hX hk (by omega) dJ7_fill_53178_13 ?_
        refine s_mem (fun M_3 eM_3 => ?_)
        have hfM_3 : ∀ a, a ≠ k → M_3 a = M a := fun a q0 => (congrFun eM_3 a).trans ((mset_n (by omega)).trans (hf_5 a q0))
        refine s_iinc (k := 2) (v := nI (i5 + 1)) (lv' := [(0, .ref (ad k)), (1, .int v1), (3, .int (nI len_k)), (2, .int (nI (i5 + 1)))]) hX dJ7_fill_53178_14 (nI_1 _) (by decide) rfl rfl ?_
        refine s_goto (tgt := 5) hX dJ7_fill_53178_17 (by decide) ?_
        refine s_loc [0, 1, 3, 2] rfl ?_
        exact ih5 _ _ (by omega) (by omega) hfM_3
  exact lp5 (len_k + 1) _ _ (by omega) (by omega) hf_0
set_option maxHeartbeats 4000000 in
theorem s_X8_spreadOn (b : Nat) (hb : isF b) (k len_k : Nat) (hk : ∀ {ad : Nat → Nat} {cI cZ cB : ClassId}, IA (glC ad cI cZ cB) 60 k cI len_k) (hlk : len_k < 2 ^ 31) (v2 : Int32) (v3 : Int32) (v5 : Int32) (M : Mem) : AM yX8_spreadOn cX8_spreadOn 11 (some .int) 3 60 glC (fun ad => [.ref (ad 23), .ref (ad b), .int v2, .int v3, .ref (ad k), .int v5]) M (PI (fun _ M' => ∀ a, a ≠ k → a ≠ 26 → M' a = M a)) := by
  refine AM.of (by decide) (fun _ => Nat.le_of_ble_eq_true rfl) (fun X ad cI cZ cB hX hR => ?_)
  show V X M [(0, .ref (ad 23)), (1, .ref (ad b)), (2, .int v2), (3, .int v3), (4, .ref (ad k)), (5, .int v5)] [] 0
  have hb0 : b = 1 ∨ b = 7 ∨ b = 13 := hb
  have hf_0 : ∀ a, a ≠ k → a ≠ 26 → M a = M a := fun _ _ _ => rfl
  refine s_iload_n (k := 3) hX dX8_spreadOn_0 rfl rfl ?_
  refine s_if_lt (tgt := 18) hX dX8_spreadOn_1 (by decide) (fun c1 => ?_) (fun c1 => ?_)
  · replace c1 := z_lt.mp c1
    refine s_iconst (v := (nI 0)) hX dX8_spreadOn_18 (by decide) ?_
    exact s_iret hX hR dX8_spreadOn_19 hf_0
  · replace c1 := mt z_lt.mpr c1
    refine s_iload_n (k := 3) hX dX8_spreadOn_4 rfl rfl ?_
    refine s_bipush (v := (nI 42)) hX dX8_spreadOn_5 (by decide) ?_
    refine s_icmp_ge (tgt := 18) hX dX8_spreadOn_7 (by decide) (fun c7 => ?_) (fun c7 => ?_)
    · replace c7 := (q_ge (by omega)).mp c7
      refine s_iconst (v := (nI 0)) hX dX8_spreadOn_18 (by decide) ?_
      exact s_iret hX hR dX8_spreadOn_19 hf_0
    · replace c7 := mt (q_ge (by omega)).mpr c7
      refine s_aload (k := 4) hX dX8_spreadOn_10 rfl ?_
      refine s_alen (v := nI len_k) hX hk rfl dX8_spreadOn_12 ?_
      refine s_bipush (v := (nI 42)) hX dX8_spreadOn_13 (by decide) ?_
      refine s_icmp_ge (tgt := 20) hX dX8_spreadOn_15 (by decide) (fun c15 => ?_) (fun c15 => ?_)
      · replace c15 := (nI_leI (by omega) (by omega)).mp c15
        refine s_aload (k := 4) hX dX8_spreadOn_20 rfl ?_
        refine s_iload_n (k := 3) hX dX8_spreadOn_22 rfl rfl ?_
        refine s_iconst (v := (nI 0)) hX dX8_spreadOn_23 (by decide) ?_
        refine s_iast hX hk (vp_in_iff.mpr (by omega)) dX8_spreadOn_24 ?_
        refine s_mem (fun M_1 eM_1 => ?_)
        have hfM_1 : ∀ a, a ≠ k → a ≠ 26 → M_1 a = M a := fun a q0 q1 => (congrFun eM_1 a).trans ((mset_n (by omega)).trans (hf_0 a q0 q1))
        refine s_aload_n (k := 0) hX dX8_spreadOn_25 rfl rfl ?_
        refine s_get hX fX8_18 oC23 rfl dX8_spreadOn_26 ?_
        refine s_iconst (v := (nI 0)) hX dX8_spreadOn_29 (by decide) ?_
        refine s_iload_n (k := 3) hX dX8_spreadOn_30 rfl rfl ?_
        refine s_iastN hX aC26 (by omega) dX8_spreadOn_31 ?_
        refine s_mem (fun M_2 eM_2 => ?_)
        have hfM_2 : ∀ a, a ≠ k → a ≠ 26 → M_2 a = M a := fun a q0 q1 => (congrFun eM_2 a).trans ((mset_n (by omega)).trans (hfM_1 a q0 q1))
        refine s_iconst (v := (nI 1)) hX dX8_spreadOn_32 (by decide) ?_
        refine s_istore (lv' := [(0, .ref (ad 23)), (1, .ref (ad b)), (2, .int v2), (3, .int v3), (4, .ref (ad k)), (5, .int v5), (6, .int (nI 1))]) hX dX8_spreadOn_33 (by decide) rfl ?_
        refine s_iconst (v := (nI 0)) hX dX8_spreadOn_35 (by decide) ?_
        refine s_istore (lv' := [(0, .ref (ad 23)), (1, .ref (ad b)), (2, .int v2), (3, .int v3), (4, .ref (ad k)), (5, .int v5), (6, .int (nI 1)), (7, .int (nI 0))]) hX dX8_spreadOn_36 (by decide) rfl ?_
        have lp38 : ∀ (N38 : Nat) (i38 : Nat) (y6_38 : Int32) (M38 : Mem), (i38 ≤ 42) → (42 < i38 + N38) → (∀ a, a ≠ k → a ≠ 26 → M38 a = M a) → (0 ≤ y6_38.toInt) → V X M38 [(0, .ref (ad 23)), (1, .ref (ad b)), (2, .int v2), (3, .int v3), (4, .ref (ad k)), (5, .int v5), (6, .int y6_38), (7, .int (nI i38))] [] 38 := by
          intro N38
          induction N38 with
          | zero => intro i38 y6_38 M38 hi38 hN38 hf_38 ht38; exact absurd hN38 (by omega)
          | succ N38 ih38 =>
            intro i38 y6_38 M38 hi38 hN38 hf_38 ht38
            refine s_iload (k := 7) hX dX8_spreadOn_38 rfl ?_
            refine s_iload (k := 6) hX dX8_spreadOn_40 rfl ?_
            refine s_icmp_ge (tgt := 162) hX dX8_spreadOn_42 (by decide) (fun c42 => ?_) (fun c42 => ?_)
            · replace c42 := (q_le (by omega)).mp c42
              refine s_iload (k := 6) hX dX8_spreadOn_162 rfl ?_
              exact s_iret hX hR dX8_spreadOn_164 hf_38
            · replace c42 := mt (q_le (by omega)).mpr c42
              refine s_iload (k := 7) hX dX8_spreadOn_45 rfl ?_
              refine s_bipush (v := (nI 42)) hX dX8_spreadOn_47 (by decide) ?_
              refine s_icmp_ge (tgt := 162) hX dX8_spreadOn_49 (by decide) (fun c49 => ?_) (fun c49 => ?_)
              · replace c49 := (nI_leI (by omega) (by omega)).mp c49
                refine s_iload (k := 6) hX dX8_spreadOn_162 rfl ?_
                exact s_iret hX hR dX8_spreadOn_164 hf_38
              · replace c49 := mt (nI_leI (by omega) (by omega)).mpr c49
                refine s_aload_n (k := 0) hX dX8_spreadOn_52 rfl rfl ?_
                refine s_get hX fX8_18 oC23 rfl dX8_spreadOn_53 ?_
                refine s_iload (k := 7) hX dX8_spreadOn_56 rfl ?_
                refine s_ialdN hX aC26 (by omega) dX8_spreadOn_58 ?_
                refine s_topi (fun x8_5 ex8_5 => ?_)
                refine s_istore (lv' := [(0, .ref (ad 23)), (1, .ref (ad b)), (2, .int v2), (3, .int v3), (4, .ref (ad k)), (5, .int v5), (6, .int y6_38), (7, .int (nI i38)), (8, .int x8_5)]) hX dX8_spreadOn_59 (by decide) rfl ?_
                refine s_iload (k := 8) hX dX8_spreadOn_61 rfl ?_
                refine s_if_lt (tgt := 83) hX dX8_spreadOn_63 (by decide) (fun c63 => ?_) (fun c63 => ?_)
                · replace c63 := z_lt.mp c63
                  refine s_iconst (v := (nI 0)) hX dX8_spreadOn_83 (by decide) ?_
                  refine s_istore (lv' := [(0, .ref (ad 23)), (1, .ref (ad b)), (2, .int v2), (3, .int v3), (4, .ref (ad k)), (5, .int v5), (6, .int y6_38), (7, .int (nI i38)), (8, .int x8_5), (9, .int (nI 0))]) hX dX8_spreadOn_84 (by decide) rfl ?_
                  refine s_iconst (v := (nI 0)) hX dX8_spreadOn_86 (by decide) ?_
                  refine s_istore (lv' := [(0, .ref (ad 23)), (1, .ref (ad b)), (2, .int v2), (3, .int v3), (4, .ref (ad k)), (5, .int v5), (6, .int y6_38), (7, .int (nI i38)), (8, .int x8_5), (9, .int (nI 0)), (10, .int (nI 0))]) hX dX8_spreadOn_87 (by decide) rfl ?_
                  have lp89 : ∀ (N89 : Nat) (i89 : Nat) (y6_89 : Int32) (M89 : Mem), (i89 ≤ 42) → (42 < i89 + N89) → (∀ a, a ≠ k → a ≠ 26 → M89 a = M a) → (0 ≤ y6_89.toInt) → V X M89 [(0, .ref (ad 23)), (1, .ref (ad b)), (2, .int v2), (3, .int v3), (4, .ref (ad k)), (5, .int v5), (6, .int y6_89), (7, .int (nI i38)), (8, .int x8_5), (9, .int (nI 0)), (10, .int (nI i89))] [] 89 := by
                    intro N89
                    induction N89 with
                    | zero => intro i89 y6_89 M89 hi89 hN89 hf_89 ht89; exact absurd hN89 (by omega)
                    | succ N89 ih89 =>
                      intro i89 y6_89 M89 hi89 hN89 hf_89 ht89
                      refine s_iload (k := 10) hX dX8_spreadOn_89 rfl ?_
                      refine s_iload (k := 5) hX dX8_spreadOn_91 rfl ?_
                      refine s_icmp_ge (tgt := 156) hX dX8_spreadOn_93 (by decide) (fun c93 => ?_) (fun c93 => ?_)
                      · replace c93 := (q_le (by omega)).mp c93
                        refine s_iinc (k := 7) (v := nI (i38 + 1)) (lv' := [(0, .ref (ad 23)), (1, .ref (ad b)), (2, .int v2), (3, .int v3), (4, .ref (ad k)), (5, .int v5), (6, .int y6_89), (8, .int x8_5), (9, .int (nI 0)), (10, .int (nI i89)), (7, .int (nI (i38 + 1)))]) hX dX8_spreadOn_156 (nI_1 _) (by decide) rfl rfl ?_
                        refine s_goto (tgt := 38) hX dX8_spreadOn_159 (by decide) ?_
                        refine s_loc [0, 1, 2, 3, 4, 5, 6, 10] rfl ?_
                        exact ih38 _ _ _ (by omega) (by omega) hf_89 ht89
                      · replace c93 := mt (q_le (by omega)).mpr c93
                        refine s_iload (k := 10) hX dX8_spreadOn_96 rfl ?_
                        refine s_bipush (v := (nI 42)) hX dX8_spreadOn_98 (by decide) ?_
                        refine s_icmp_ge (tgt := 156) hX dX8_spreadOn_100 (by decide) (fun c100 => ?_) (fun c100 => ?_)
                        · replace c100 := (nI_leI (by omega) (by omega)).mp c100
                          refine s_iinc (k := 7) (v := nI (i38 + 1)) (lv' := [(0, .ref (ad 23)), (1, .ref (ad b)), (2, .int v2), (3, .int v3), (4, .ref (ad k)), (5, .int v5), (6, .int y6_89), (8, .int x8_5), (9, .int (nI 0)), (10, .int (nI i89)), (7, .int (nI (i38 + 1)))]) hX dX8_spreadOn_156 (nI_1 _) (by decide) rfl rfl ?_
                          refine s_goto (tgt := 38) hX dX8_spreadOn_159 (by decide) ?_
                          refine s_loc [0, 1, 2, 3, 4, 5, 6, 10] rfl ?_
                          exact ih38 _ _ _ (by omega) (by omega) hf_89 ht89
                        · replace c100 := mt (nI_leI (by omega) (by omega)).mpr c100
                          refine s_aload (k := 4) hX dX8_spreadOn_103 rfl ?_
                          refine s_iload (k := 10) hX dX8_spreadOn_105 rfl ?_
                          refine s_ialdN (hlen := hlk) hX hk (by omega) dX8_spreadOn_107 ?_
                          refine s_iconst (v := (-1)) hX dX8_spreadOn_108 (by decide) ?_
                          refine s_icmp_ne (tgt := 150) hX dX8_spreadOn_109 (by decide) (fun c109 => ?_) (fun c109 => ?_)
                          · refine s_iinc (k := 10) (v := nI (i89 + 1)) (lv' := [(0, .ref (ad 23)), (1, .ref (ad b)), (2, .int v2), (3, .int v3), (4, .ref (ad k)), (5, .int v5), (6, .int y6_89), (7, .int (nI i38)), (8, .int x8_5), (9, .int (nI 0)), (10, .int (nI (i89 + 1)))]) hX dX8_spreadOn_150 (nI_1 _) (by decide) rfl rfl ?_
                            refine s_goto (tgt := 89) hX dX8_spreadOn_153 (by decide) ?_
                            exact ih89 _ _ _ (by omega) (by omega) hf_89 ht89
                          · refine s_iload (k := 6) hX dX8_spreadOn_112 rfl ?_
                            refine s_bipush (v := (nI 42)) hX dX8_spreadOn_114 (by decide) ?_
                            refine s_icmp_ge (tgt := 150) hX dX8_spreadOn_116 (by decide) (fun c116 => ?_) (fun c116 => ?_)
                            · replace c116 := (q_ge (by omega)).mp c116
                              refine s_iinc (k := 10) (v := nI (i89 + 1)) (lv' := [(0, .ref (ad 23)), (1, .ref (ad b)), (2, .int v2), (3, .int v3), (4, .ref (ad k)), (5, .int v5), (6, .int y6_89), (7, .int (nI i38)), (8, .int x8_5), (9, .int (nI 0)), (10, .int (nI (i89 + 1)))]) hX dX8_spreadOn_150 (nI_1 _) (by decide) rfl rfl ?_
                              refine s_goto (tgt := 89) hX dX8_spreadOn_153 (by decide) ?_
                              exact ih89 _ _ _ (by omega) (by omega) hf_89 ht89
                            · replace c116 := mt (q_ge (by omega)).mpr c116
                              refine s_aload_n (k := 1) hX dX8_spreadOn_119 rfl rfl ?_
                              refine s_iload (k := 8) hX dX8_spreadOn_120 rfl ?_
                              refine s_iload (k := 10) hX dX8_spreadOn_122 rfl ?_
                              refine s_iload_n (k := 2) hX dX8_spreadOn_124 rfl rfl ?_
                              refine s_callVi hX (s_X2_isStep b hb _ _ _ M89) mX2_isStep lX8_41 (by decide) (by decide) (oF hb) rfl rfl rfl rfl rfl (Nat.le_of_ble_eq_true rfl) dX8_spreadOn_125 (fun r125 M_8 hp125 => ?_)
                              obtain ⟨hz125, hq125⟩ := hp125
                              subst hq125
                              refine s_if_eq (tgt := 150) hX dX8_spreadOn_128 (by decide) (fun c128 => ?_) (fun c128 => ?_)
                              · replace c128 := z_eq.mp c128
                                refine s_iinc (k := 10) (v := nI (i89 + 1)) (lv' := [(0, .ref (ad 23)), (1, .ref (ad b)), (2, .int v2), (3, .int v3), (4, .ref (ad k)), (5, .int v5), (6, .int y6_89), (7, .int (nI i38)), (8, .int x8_5), (9, .int (nI 0)), (10, .int (nI (i89 + 1)))]) hX dX8_spreadOn_150 (nI_1 _) (by decide) rfl rfl ?_
                                refine s_goto (tgt := 89) hX dX8_spreadOn_153 (by decide) ?_
                                exact ih89 _ _ _ (by omega) (by omega) hf_89 ht89
                              · replace c128 := mt z_eq.mpr c128
                                refine s_aload (k := 4) hX dX8_spreadOn_131 rfl ?_
                                refine s_iload (k := 10) hX dX8_spreadOn_133 rfl ?_
                                refine s_iload (k := 9) hX dX8_spreadOn_135 rfl ?_
                                refine s_iastN (hlen := hlk) hX hk (by omega) dX8_spreadOn_137 ?_
                                refine s_mem (fun M_9 eM_9 => ?_)
                                have hfM_9 : ∀ a, a ≠ k → a ≠ 26 → M_9 a = M a := fun a q0 q1 => (congrFun eM_9 a).trans ((mset_n (by omega)).trans (hf_89 a q0 q1))
                                refine s_aload_n (k := 0) hX dX8_spreadOn_138 rfl rfl ?_
                                refine s_get hX fX8_18 oC23 rfl dX8_spreadOn_139 ?_
                                refine s_iload (k := 6) hX dX8_spreadOn_142 rfl ?_
                                refine s_iload (k := 10) hX dX8_spreadOn_144 rfl ?_
                                refine s_iast hX aC26 (vp_in_iff.mpr (by omega)) dX8_spreadOn_146 ?_
                                refine s_mem (fun M_10 eM_10 => ?_)
                                have hfM_10 : ∀ a, a ≠ k → a ≠ 26 → M_10 a = M a := fun a q0 q1 => (congrFun eM_10 a).trans ((mset_n (by omega)).trans (hfM_9 a q0 q1))
                                obtain ⟨t9, et9⟩ : ∃ z : Int32, z = y6_89 + Int32.ofInt 1 := ⟨_, rfl⟩
                                have ht9 : 0 ≤ t9.toInt := by rw [et9]; exact inc_nn ht89 (by omega)
                                refine s_iinc (k := 6) (v := t9) (lv' := [(0, .ref (ad 23)), (1, .ref (ad b)), (2, .int v2), (3, .int v3), (4, .ref (ad k)), (5, .int v5), (7, .int (nI i38)), (8, .int x8_5), (9, .int (nI 0)), (10, .int (nI i89)), (6, .int t9)]) hX dX8_spreadOn_147 et9.symm (by decide) rfl rfl ?_
                                refine s_iinc (k := 9) (v := nI (i89 + 1)) (lv' := [(0, .ref (ad 23)), (1, .ref (ad b)), (2, .int v2), (3, .int v3), (4, .ref (ad k)), (5, .int v5), (7, .int (nI i38)), (8, .int x8_5), (9, .int (nI 0)), (6, .int t9), (10, .int (nI (i89 + 1)))]) hX dX8_spreadOn_150 (nI_1 _) (by decide) rfl rfl ?_
                                refine s_goto (tgt := 89) hX dX8_spreadOn_153 (by decide) ?_
                                refine s_loc [0, 1, 2, 3, 4, 5, 9, 6, 7, 8, 10] rfl ?_
                                exact ih89 _ _ _ (by omega) (by omega) hfM_10 ht9
                  exact lp89 (42 + 1) _ _ _ (by omega) (by omega) hf_38 ht38
                · replace c63 := mt z_lt.mpr c63
                  refine s_iload (k := 8) hX dX8_spreadOn_66 rfl ?_
                  refine s_bipush (v := (nI 42)) hX dX8_spreadOn_68 (by decide) ?_
                  refine s_icmp_ge (tgt := 83) hX dX8_spreadOn_70 (by decide) (fun c70 => ?_) (fun c70 => ?_)
                  · replace c70 := (q_ge (by omega)).mp c70
                    refine s_iconst (v := (nI 0)) hX dX8_spreadOn_83 (by decide) ?_
                    refine s_istore (lv' := [(0, .ref (ad 23)), (1, .ref (ad b)), (2, .int v2), (3, .int v3), (4, .ref (ad k)), (5, .int v5), (6, .int y6_38), (7, .int (nI i38)), (8, .int x8_5), (9, .int (nI 0))]) hX dX8_spreadOn_84 (by decide) rfl ?_
                    refine s_iconst (v := (nI 0)) hX dX8_spreadOn_86 (by decide) ?_
                    refine s_istore (lv' := [(0, .ref (ad 23)), (1, .ref (ad b)), (2, .int v2), (3, .int v3), (4, .ref (ad k)), (5, .int v5), (6, .int y6_38), (7, .int (nI i38)), (8, .int x8_5), (9, .int (nI 0)), (10, .int (nI 0))]) hX dX8_spreadOn_87 (by decide) rfl ?_
                    have lp89 : ∀ (N89 : Nat) (i89 : Nat) (y6_89 : Int32) (M89 : Mem), (i89 ≤ 42) → (42 < i89 + N89) → (∀ a, a ≠ k → a ≠ 26 → M89 a = M a) → (0 ≤ y6_89.toInt) → V X M89 [(0, .ref (ad 23)), (1, .ref (ad b)), (2, .int v2), (3, .int v3), (4, .ref (ad k)), (5, .int v5), (6, .int y6_89), (7, .int (nI i38)), (8, .int x8_5), (9, .int (nI 0)), (10, .int (nI i89))] [] 89 := by
                      intro N89
                      induction N89 with
                      | zero => intro i89 y6_89 M89 hi89 hN89 hf_89 ht89; exact absurd hN89 (by omega)
                      | succ N89 ih89 =>
                        intro i89 y6_89 M89 hi89 hN89 hf_89 ht89
                        refine s_iload (k := 10) hX dX8_spreadOn_89 rfl ?_
                        refine s_iload (k := 5) hX dX8_spreadOn_91 rfl ?_
                        refine s_icmp_ge (tgt := 156) hX dX8_spreadOn_93 (by decide) (fun c93 => ?_) (fun c93 => ?_)
                        · replace c93 := (q_le (by omega)).mp c93
                          refine s_iinc (k := 7) (v := nI (i38 + 1)) (lv' := [(0, .ref (ad 23)), (1, .ref (ad b)), (2, .int v2), (3, .int v3), (4, .ref (ad k)), (5, .int v5), (6, .int y6_89), (8, .int x8_5), (9, .int (nI 0)), (10, .int (nI i89)), (7, .int (nI (i38 + 1)))]) hX dX8_spreadOn_156 (nI_1 _) (by decide) rfl rfl ?_
                          refine s_goto (tgt := 38) hX dX8_spreadOn_159 (by decide) ?_
                          refine s_loc [0, 1, 2, 3, 4, 5, 6, 10] rfl ?_
                          exact ih38 _ _ _ (by omega) (by omega) hf_89 ht89
                        · replace c93 := mt (q_le (by omega)).mpr c93
                          refine s_iload (k := 10) hX dX8_spreadOn_96 rfl ?_
                          refine s_bipush (v := (nI 42)) hX dX8_spreadOn_98 (by decide) ?_
                          refine s_icmp_ge (tgt := 156) hX dX8_spreadOn_100 (by decide) (fun c100 => ?_) (fun c100 => ?_)
                          · replace c100 := (nI_leI (by omega) (by omega)).mp c100
                            refine s_iinc (k := 7) (v := nI (i38 + 1)) (lv' := [(0, .ref (ad 23)), (1, .ref (ad b)), (2, .int v2), (3, .int v3), (4, .ref (ad k)), (5, .int v5), (6, .int y6_89), (8, .int x8_5), (9, .int (nI 0)), (10, .int (nI i89)), (7, .int (nI (i38 + 1)))]) hX dX8_spreadOn_156 (nI_1 _) (by decide) rfl rfl ?_
                            refine s_goto (tgt := 38) hX dX8_spreadOn_159 (by decide) ?_
                            refine s_loc [0, 1, 2, 3, 4, 5, 6, 10] rfl ?_
                            exact ih38 _ _ _ (by omega) (by omega) hf_89 ht89
                          · replace c100 := mt (nI_leI (by omega) (by omega)).mpr c100
                            refine s_aload (k := 4) hX dX8_spreadOn_103 rfl ?_
                            refine s_iload (k := 10) hX dX8_spreadOn_105 rfl ?_
                            refine s_ialdN (hlen := hlk) hX hk (by omega) dX8_spreadOn_107 ?_
                            refine s_iconst (v := (-1)) hX dX8_spreadOn_108 (by decide) ?_
                            refine s_icmp_ne (tgt := 150) hX dX8_spreadOn_109 (by decide) (fun c109 => ?_) (fun c109 => ?_)
                            · refine s_iinc (k := 10) (v := nI (i89 + 1)) (lv' := [(0, .ref (ad 23)), (1, .ref (ad b)), (2, .int v2), (3, .int v3), (4, .ref (ad k)), (5, .int v5), (6, .int y6_89), (7, .int (nI i38)), (8, .int x8_5), (9, .int (nI 0)), (10, .int (nI (i89 + 1)))]) hX dX8_spreadOn_150 (nI_1 _) (by decide) rfl rfl ?_
                              refine s_goto (tgt := 89) hX dX8_spreadOn_153 (by decide) ?_
                              exact ih89 _ _ _ (by omega) (by omega) hf_89 ht89
                            · refine s_iload (k := 6) hX dX8_spreadOn_112 rfl ?_
                              refine s_bipush (v := (nI 42)) hX dX8_spreadOn_114 (by decide) ?_
                              refine s_icmp_ge (tgt := 150) hX dX8_spreadOn_116 (by decide) (fun c116 => ?_) (fun c116 => ?_)
                              · replace c116 := (q_ge (by omega)).mp c116
                                refine s_iinc (k := 10) (v := nI (i89 + 1)) (lv' := [(0, .ref (ad 23)), (1, .ref (ad b)), (2, .int v2), (3, .int v3), (4, .ref (ad k)), (5, .int v5), (6, .int y6_89), (7, .int (nI i38)), (8, .int x8_5), (9, .int (nI 0)), (10, .int (nI (i89 + 1)))]) hX dX8_spreadOn_150 (nI_1 _) (by decide) rfl rfl ?_
                                refine s_goto (tgt := 89) hX dX8_spreadOn_153 (by decide) ?_
                                exact ih89 _ _ _ (by omega) (by omega) hf_89 ht89
                              · replace c116 := mt (q_ge (by omega)).mpr c116
                                refine s_aload_n (k := 1) hX dX8_spreadOn_119 rfl rfl ?_
                                refine s_iload (k := 8) hX dX8_spreadOn_120 rfl ?_
                                refine s_iload (k := 10) hX dX8_spreadOn_122 rfl ?_
                                refine s_iload_n (k := 2) hX dX8_spreadOn_124 rfl rfl ?_
                                refine s_callVi hX (s_X2_isStep b hb _ _ _ M89) mX2_isStep lX8_41 (by decide) (by decide) (oF hb) rfl rfl rfl rfl rfl (Nat.le_of_ble_eq_true rfl) dX8_spreadOn_125 (fun r125 M_13 hp125 => ?_)
                                obtain ⟨hz125, hq125⟩ := hp125
                                subst hq125
                                refine s_if_eq (tgt := 150) hX dX8_spreadOn_128 (by decide) (fun c128 => ?_) (fun c128 => ?_)
                                · replace c128 := z_eq.mp c128
                                  refine s_iinc (k := 10) (v := nI (i89 + 1)) (lv' := [(0, .ref (ad 23)), (1, .ref (ad b)), (2, .int v2), (3, .int v3), (4, .ref (ad k)), (5, .int v5), (6, .int y6_89), (7, .int (nI i38)), (8, .int x8_5), (9, .int (nI 0)), (10, .int (nI (i89 + 1)))]) hX dX8_spreadOn_150 (nI_1 _) (by decide) rfl rfl ?_
                                  refine s_goto (tgt := 89) hX dX8_spreadOn_153 (by decide) ?_
                                  exact ih89 _ _ _ (by omega) (by omega) hf_89 ht89
                                · replace c128 := mt z_eq.mpr c128
                                  refine s_aload (k := 4) hX dX8_spreadOn_131 rfl ?_
                                  refine s_iload (k := 10) hX dX8_spreadOn_133 rfl ?_
                                  refine s_iload (k := 9) hX dX8_spreadOn_135 rfl ?_
                                  refine s_iastN (hlen := hlk) hX hk (by omega) dX8_spreadOn_137 ?_
                                  refine s_mem (fun M_14 eM_14 => ?_)
                                  have hfM_14 : ∀ a, a ≠ k → a ≠ 26 → M_14 a = M a := fun a q0 q1 => (congrFun eM_14 a).trans ((mset_n (by omega)).trans (hf_89 a q0 q1))
                                  refine s_aload_n (k := 0) hX dX8_spreadOn_138 rfl rfl ?_
                                  refine s_get hX fX8_18 oC23 rfl dX8_spreadOn_139 ?_
                                  refine s_iload (k := 6) hX dX8_spreadOn_142 rfl ?_
                                  refine s_iload (k := 10) hX dX8_spreadOn_144 rfl ?_
                                  refine s_iast hX aC26 (vp_in_iff.mpr (by omega)) dX8_spreadOn_146 ?_
                                  refine s_mem (fun M_15 eM_15 => ?_)
                                  have hfM_15 : ∀ a, a ≠ k → a ≠ 26 → M_15 a = M a := fun a q0 q1 => (congrFun eM_15 a).trans ((mset_n (by omega)).trans (hfM_14 a q0 q1))
                                  obtain ⟨t9, et9⟩ : ∃ z : Int32, z = y6_89 + Int32.ofInt 1 := ⟨_, rfl⟩
                                  have ht9 : 0 ≤ t9.toInt := by rw [et9]; exact inc_nn ht89 (by omega)
                                  refine s_iinc (k := 6) (v := t9) (lv' := [(0, .ref (ad 23)), (1, .ref (ad b)), (2, .int v2), (3, .int v3), (4, .ref (ad k)), (5, .int v5), (7, .int (nI i38)), (8, .int x8_5), (9, .int (nI 0)), (10, .int (nI i89)), (6, .int t9)]) hX dX8_spreadOn_147 et9.symm (by decide) rfl rfl ?_
                                  refine s_iinc (k := 9) (v := nI (i89 + 1)) (lv' := [(0, .ref (ad 23)), (1, .ref (ad b)), (2, .int v2), (3, .int v3), (4, .ref (ad k)), (5, .int v5), (7, .int (nI i38)), (8, .int x8_5), (9, .int (nI 0)), (6, .int t9), (10, .int (nI (i89 + 1)))]) hX dX8_spreadOn_150 (nI_1 _) (by decide) rfl rfl ?_
                                  refine s_goto (tgt := 89) hX dX8_spreadOn_153 (by decide) ?_
                                  refine s_loc [0, 1, 2, 3, 4, 5, 9, 6, 7, 8, 10] rfl ?_
                                  exact ih89 _ _ _ (by omega) (by omega) hfM_15 ht9
                    exact lp89 (42 + 1) _ _ _ (by omega) (by omega) hf_38 ht38
                  · replace c70 := mt (q_ge (by omega)).mpr c70
                    refine s_aload (k := 4) hX dX8_spreadOn_73 rfl ?_
                    refine s_iload (k := 8) hX dX8_spreadOn_75 rfl ?_
                    refine s_iald hX hk (vp_in_iff.mpr (by omega)) dX8_spreadOn_77 ?_
                    refine s_iconst (v := (nI 1)) hX dX8_spreadOn_78 (by decide) ?_
                    refine s_iadd hX dX8_spreadOn_79 ?_
                    refine s_goto (tgt := 84) hX dX8_spreadOn_80 (by decide) ?_
                    refine s_topi (fun x9_16 ex9_16 => ?_)
                    refine s_istore (lv' := [(0, .ref (ad 23)), (1, .ref (ad b)), (2, .int v2), (3, .int v3), (4, .ref (ad k)), (5, .int v5), (6, .int y6_38), (7, .int (nI i38)), (8, .int x8_5), (9, .int x9_16)]) hX dX8_spreadOn_84 (by decide) rfl ?_
                    refine s_iconst (v := (nI 0)) hX dX8_spreadOn_86 (by decide) ?_
                    refine s_istore (lv' := [(0, .ref (ad 23)), (1, .ref (ad b)), (2, .int v2), (3, .int v3), (4, .ref (ad k)), (5, .int v5), (6, .int y6_38), (7, .int (nI i38)), (8, .int x8_5), (9, .int x9_16), (10, .int (nI 0))]) hX dX8_spreadOn_87 (by decide) rfl ?_
                    have lp89 : ∀ (N89 : Nat) (i89 : Nat) (y6_89 : Int32) (M89 : Mem), (i89 ≤ 42) → (42 < i89 + N89) → (∀ a, a ≠ k → a ≠ 26 → M89 a = M a) → (0 ≤ y6_89.toInt) → V X M89 [(0, .ref (ad 23)), (1, .ref (ad b)), (2, .int v2), (3, .int v3), (4, .ref (ad k)), (5, .int v5), (6, .int y6_89), (7, .int (nI i38)), (8, .int x8_5), (9, .int x9_16), (10, .int (nI i89))] [] 89 := by
                      intro N89
                      induction N89 with
                      | zero => intro i89 y6_89 M89 hi89 hN89 hf_89 ht89; exact absurd hN89 (by omega)
                      | succ N89 ih89 =>
                        intro i89 y6_89 M89 hi89 hN89 hf_89 ht89
                        refine s_iload (k := 10) hX dX8_spreadOn_89 rfl ?_
                        refine s_iload (k := 5) hX dX8_spreadOn_91 rfl ?_
                        refine s_icmp_ge (tgt := 156) hX dX8_spreadOn_93 (by decide) (fun c93 => ?_) (fun c93 => ?_)
                        · replace c93 := (q_le (by omega)).mp c93
                          refine s_iinc (k := 7) (v := nI (i38 + 1)) (lv' := [(0, .ref (ad 23)), (1, .ref (ad b)), (2, .int v2), (3, .int v3), (4, .ref (ad k)), (5, .int v5), (6, .int y6_89), (8, .int x8_5), (9, .int x9_16), (10, .int (nI i89)), (7, .int (nI (i38 + 1)))]) hX dX8_spreadOn_156 (nI_1 _) (by decide) rfl rfl ?_
                          refine s_goto (tgt := 38) hX dX8_spreadOn_159 (by decide) ?_
                          refine s_loc [0, 1, 2, 3, 4, 5, 6, 10] rfl ?_
                          exact ih38 _ _ _ (by omega) (by omega) hf_89 ht89
                        · replace c93 := mt (q_le (by omega)).mpr c93
                          refine s_iload (k := 10) hX dX8_spreadOn_96 rfl ?_
                          refine s_bipush (v := (nI 42)) hX dX8_spreadOn_98 (by decide) ?_
                          refine s_icmp_ge (tgt := 156) hX dX8_spreadOn_100 (by decide) (fun c100 => ?_) (fun c100 => ?_)
                          · replace c100 := (nI_leI (by omega) (by omega)).mp c100
                            refine s_iinc (k := 7) (v := nI (i38 + 1)) (lv' := [(0, .ref (ad 23)), (1, .ref (ad b)), (2, .int v2), (3, .int v3), (4, .ref (ad k)), (5, .int v5), (6, .int y6_89), (8, .int x8_5), (9, .int x9_16), (10, .int (nI i89)), (7, .int (nI (i38 + 1)))]) hX dX8_spreadOn_156 (nI_1 _) (by decide) rfl rfl ?_
                            refine s_goto (tgt := 38) hX dX8_spreadOn_159 (by decide) ?_
                            refine s_loc [0, 1, 2, 3, 4, 5, 6, 10] rfl ?_
                            exact ih38 _ _ _ (by omega) (by omega) hf_89 ht89
                          · replace c100 := mt (nI_leI (by omega) (by omega)).mpr c100
                            refine s_aload (k := 4) hX dX8_spreadOn_103 rfl ?_
                            refine s_iload (k := 10) hX dX8_spreadOn_105 rfl ?_
                            refine s_ialdN (hlen := hlk) hX hk (by omega) dX8_spreadOn_107 ?_
                            refine s_iconst (v := (-1)) hX dX8_spreadOn_108 (by decide) ?_
                            refine s_icmp_ne (tgt := 150) hX dX8_spreadOn_109 (by decide) (fun c109 => ?_) (fun c109 => ?_)
                            · refine s_iinc (k := 10) (v := nI (i89 + 1)) (lv' := [(0, .ref (ad 23)), (1, .ref (ad b)), (2, .int v2), (3, .int v3), (4, .ref (ad k)), (5, .int v5), (6, .int y6_89), (7, .int (nI i38)), (8, .int x8_5), (9, .int x9_16), (10, .int (nI (i89 + 1)))]) hX dX8_spreadOn_150 (nI_1 _) (by decide) rfl rfl ?_
                              refine s_goto (tgt := 89) hX dX8_spreadOn_153 (by decide) ?_
                              exact ih89 _ _ _ (by omega) (by omega) hf_89 ht89
                            · refine s_iload (k := 6) hX dX8_spreadOn_112 rfl ?_
                              refine s_bipush (v := (nI 42)) hX dX8_spreadOn_114 (by decide) ?_
                              refine s_icmp_ge (tgt := 150) hX dX8_spreadOn_116 (by decide) (fun c116 => ?_) (fun c116 => ?_)
                              · replace c116 := (q_ge (by omega)).mp c116
                                refine s_iinc (k := 10) (v := nI (i89 + 1)) (lv' := [(0, .ref (ad 23)), (1, .ref (ad b)), (2, .int v2), (3, .int v3), (4, .ref (ad k)), (5, .int v5), (6, .int y6_89), (7, .int (nI i38)), (8, .int x8_5), (9, .int x9_16), (10, .int (nI (i89 + 1)))]) hX dX8_spreadOn_150 (nI_1 _) (by decide) rfl rfl ?_
                                refine s_goto (tgt := 89) hX dX8_spreadOn_153 (by decide) ?_
                                exact ih89 _ _ _ (by omega) (by omega) hf_89 ht89
                              · replace c116 := mt (q_ge (by omega)).mpr c116
                                refine s_aload_n (k := 1) hX dX8_spreadOn_119 rfl rfl ?_
                                refine s_iload (k := 8) hX dX8_spreadOn_120 rfl ?_
                                refine s_iload (k := 10) hX dX8_spreadOn_122 rfl ?_
                                refine s_iload_n (k := 2) hX dX8_spreadOn_124 rfl rfl ?_
                                refine s_callVi hX (s_X2_isStep b hb _ _ _ M89) mX2_isStep lX8_41 (by decide) (by decide) (oF hb) rfl rfl rfl rfl rfl (Nat.le_of_ble_eq_true rfl) dX8_spreadOn_125 (fun r125 M_18 hp125 => ?_)
                                obtain ⟨hz125, hq125⟩ := hp125
                                subst hq125
                                refine s_if_eq (tgt := 150) hX dX8_spreadOn_128 (by decide) (fun c128 => ?_) (fun c128 => ?_)
                                · replace c128 := z_eq.mp c128
                                  refine s_iinc (k := 10) (v := nI (i89 + 1)) (lv' := [(0, .ref (ad 23)), (1, .ref (ad b)), (2, .int v2), (3, .int v3), (4, .ref (ad k)), (5, .int v5), (6, .int y6_89), (7, .int (nI i38)), (8, .int x8_5), (9, .int x9_16), (10, .int (nI (i89 + 1)))]) hX dX8_spreadOn_150 (nI_1 _) (by decide) rfl rfl ?_
                                  refine s_goto (tgt := 89) hX dX8_spreadOn_153 (by decide) ?_
                                  exact ih89 _ _ _ (by omega) (by omega) hf_89 ht89
                                · replace c128 := mt z_eq.mpr c128
                                  refine s_aload (k := 4) hX dX8_spreadOn_131 rfl ?_
                                  refine s_iload (k := 10) hX dX8_spreadOn_133 rfl ?_
                                  refine s_iload (k := 9) hX dX8_spreadOn_135 rfl ?_
                                  refine s_iastN (hlen := hlk) hX hk (by omega) dX8_spreadOn_137 ?_
                                  refine s_mem (fun M_19 eM_19 => ?_)
                                  have hfM_19 : ∀ a, a ≠ k → a ≠ 26 → M_19 a = M a := fun a q0 q1 => (congrFun eM_19 a).trans ((mset_n (by omega)).trans (hf_89 a q0 q1))
                                  refine s_aload_n (k := 0) hX dX8_spreadOn_138 rfl rfl ?_
                                  refine s_get hX fX8_18 oC23 rfl dX8_spreadOn_139 ?_
                                  refine s_iload (k := 6) hX dX8_spreadOn_142 rfl ?_
                                  refine s_iload (k := 10) hX dX8_spreadOn_144 rfl ?_
                                  refine s_iast hX aC26 (vp_in_iff.mpr (by omega)) dX8_spreadOn_146 ?_
                                  refine s_mem (fun M_20 eM_20 => ?_)
                                  have hfM_20 : ∀ a, a ≠ k → a ≠ 26 → M_20 a = M a := fun a q0 q1 => (congrFun eM_20 a).trans ((mset_n (by omega)).trans (hfM_19 a q0 q1))
                                  obtain ⟨t9, et9⟩ : ∃ z : Int32, z = y6_89 + Int32.ofInt 1 := ⟨_, rfl⟩
                                  have ht9 : 0 ≤ t9.toInt := by rw [et9]; exact inc_nn ht89 (by omega)
                                  refine s_iinc (k := 6) (v := t9) (lv' := [(0, .ref (ad 23)), (1, .ref (ad b)), (2, .int v2), (3, .int v3), (4, .ref (ad k)), (5, .int v5), (7, .int (nI i38)), (8, .int x8_5), (9, .int x9_16), (10, .int (nI i89)), (6, .int t9)]) hX dX8_spreadOn_147 et9.symm (by decide) rfl rfl ?_
                                  refine s_iinc (k := 9) (v := nI (i89 + 1)) (lv' := [(0, .ref (ad 23)), (1, .ref (ad b)), (2, .int v2), (3, .int v3), (4, .ref (ad k)), (5, .int v5), (7, .int (nI i38)), (8, .int x8_5), (9, .int x9_16), (6, .int t9), (10, .int (nI (i89 + 1)))]) hX dX8_spreadOn_150 (nI_1 _) (by decide) rfl rfl ?_
                                  refine s_goto (tgt := 89) hX dX8_spreadOn_153 (by decide) ?_
                                  refine s_loc [0, 1, 2, 3, 4, 5, 9, 6, 7, 8, 10] rfl ?_
                                  exact ih89 _ _ _ (by omega) (by omega) hfM_20 ht9
                    exact lp89 (42 + 1) _ _ _ (by omega) (by omega) hf_38 ht38
        exact lp38 (42 + 1) _ _ _ (by omega) (by omega) hfM_2 (by decide)
      · replace c15 := mt (nI_leI (by omega) (by omega)).mpr c15
        refine s_iconst (v := (nI 0)) hX dX8_spreadOn_18 (by decide) ?_
        exact s_iret hX hR dX8_spreadOn_19 hf_0
