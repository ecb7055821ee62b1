theorem q_eq2 {x : Int32} {n : Nat} (h : n < 2 ^ 31) : nI n = x ↔ x.toInt = (n : Int) := by rw [← Int32.toInt_inj, nI_toInt h]; exact eq_comm
theorem bI_01 {p : Prop} [Decidable p] : bI p = 0 ∨ bI p = 1 := by
  by_cases hp : p
  · exact Or.inr (by rw [bI, if_pos hp])
  · exact Or.inl (by rw [bI, if_neg hp])
theorem i32_add {a b : Int32} (h : -2 ^ 31 ≤ a.toInt + b.toInt) (h2 : a.toInt + b.toInt < 2 ^ 31) : (a + b).toInt = a.toInt + b.toInt := by
  rw [Int32.toInt_add, Int.bmod_eq_of_le (by omega) (by omega)]
theorem inc_nn {y : Int32} (h : 0 ≤ y.toInt) (h2 : y.toInt < 1000000) : 0 ≤ (y + Int32.ofInt 1).toInt := by
  have h1 : (Int32.ofInt 1).toInt = 1 := by decide
  rw [i32_add (by omega) (by omega)]
  omega
theorem ch1 {y : Int32} (h : y = -1 ∨ (0 ≤ y.toInt ∧ y.toInt < 42)) (c : ¬ y = -1) : vp_in y 42 := vp_in_iff.mpr (by have := h.resolve_left c; omega)
theorem mx0 (x : Int32) : ∃ z : Nat, z < 2 ^ 31 ∧ (if x < nI 0 then nI 0 else x) = nI z := by
  by_cases h : x < nI 0
  · exact ⟨0, by decide, by rw [if_pos h]⟩
  · obtain ⟨j, h1, h2⟩ := nI_of (x := x) h
    exact ⟨j, h1, by rw [if_neg h]; exact h2⟩
theorem dX9_isStone_0 : decode cX9_isStone 0 = .ok (.iload_n 0, 1) := by decide +kernel
theorem dX9_isStone_1 : decode cX9_isStone 1 = .ok (.ifCond .lt 13, 3) := by decide +kernel
theorem dX9_isStone_4 : decode cX9_isStone 4 = .ok (.iload_n 0, 1) := by decide +kernel
theorem dX9_isStone_5 : decode cX9_isStone 5 = .ok (.bipush 40, 2) := by decide +kernel
theorem dX9_isStone_7 : decode cX9_isStone 7 = .ok (.if_icmp .ge 7, 3) := by decide +kernel
theorem dX9_isStone_10 : decode cX9_isStone 10 = .ok (.iconst 1, 1) := by decide +kernel
theorem dX9_isStone_11 : decode cX9_isStone 11 = .ok (.goto 4, 3) := by decide +kernel
theorem dX9_isStone_14 : decode cX9_isStone 14 = .ok (.iconst 0, 1) := by decide +kernel
theorem dX9_isStone_15 : decode cX9_isStone 15 = .ok (.ireturn, 1) := by decide +kernel
theorem dX9_isPlace_0 : decode cX9_isPlace 0 = .ok (.iload_n 0, 1) := by decide +kernel
theorem dX9_isPlace_1 : decode cX9_isPlace 1 = .ok (.ifCond .lt 24, 3) := by decide +kernel
theorem dX9_isPlace_4 : decode cX9_isPlace 4 = .ok (.iload_n 0, 1) := by decide +kernel
theorem dX9_isPlace_5 : decode cX9_isPlace 5 = .ok (.bipush 39, 2) := by decide +kernel
theorem dX9_isPlace_7 : decode cX9_isPlace 7 = .ok (.if_icmp .gt 18, 3) := by decide +kernel
theorem dX9_isPlace_10 : decode cX9_isPlace 10 = .ok (.iload_n 1, 1) := by decide +kernel
theorem dX9_isPlace_11 : decode cX9_isPlace 11 = .ok (.iconst 1, 1) := by decide +kernel
theorem dX9_isPlace_12 : decode cX9_isPlace 12 = .ok (.if_icmp .lt 13, 3) := by decide +kernel
theorem dX9_isPlace_15 : decode cX9_isPlace 15 = .ok (.iload_n 1, 1) := by decide +kernel
theorem dX9_isPlace_16 : decode cX9_isPlace 16 = .ok (.bipush 20, 2) := by decide +kernel
theorem dX9_isPlace_18 : decode cX9_isPlace 18 = .ok (.if_icmp .gt 7, 3) := by decide +kernel
theorem dX9_isPlace_21 : decode cX9_isPlace 21 = .ok (.iconst 1, 1) := by decide +kernel
theorem dX9_isPlace_22 : decode cX9_isPlace 22 = .ok (.goto 4, 3) := by decide +kernel
theorem dX9_isPlace_25 : decode cX9_isPlace 25 = .ok (.iconst 0, 1) := by decide +kernel
theorem dX9_isPlace_26 : decode cX9_isPlace 26 = .ok (.ireturn, 1) := by decide +kernel
theorem dX9_isStride_0 : decode cX9_isStride 0 = .ok (.iload_n 0, 1) := by decide +kernel
theorem dX9_isStride_1 : decode cX9_isStride 1 = .ok (.iconst 1, 1) := by decide +kernel
theorem dX9_isStride_2 : decode cX9_isStride 2 = .ok (.if_icmp .lt 13, 3) := by decide +kernel
theorem dX9_isStride_5 : decode cX9_isStride 5 = .ok (.iload_n 0, 1) := by decide +kernel
theorem dX9_isStride_6 : decode cX9_isStride 6 = .ok (.bipush 30, 2) := by decide +kernel
theorem dX9_isStride_8 : decode cX9_isStride 8 = .ok (.if_icmp .gt 7, 3) := by decide +kernel
theorem dX9_isStride_11 : decode cX9_isStride 11 = .ok (.iconst 1, 1) := by decide +kernel
theorem dX9_isStride_12 : decode cX9_isStride 12 = .ok (.goto 4, 3) := by decide +kernel
theorem dX9_isStride_15 : decode cX9_isStride 15 = .ok (.iconst 0, 1) := by decide +kernel
theorem dX9_isStride_16 : decode cX9_isStride 16 = .ok (.ireturn, 1) := by decide +kernel
theorem dX9_isNights_0 : decode cX9_isNights 0 = .ok (.iload_n 0, 1) := by decide +kernel
theorem dX9_isNights_1 : decode cX9_isNights 1 = .ok (.iconst 1, 1) := by decide +kernel
theorem dX9_isNights_2 : decode cX9_isNights 2 = .ok (.if_icmp .lt 13, 3) := by decide +kernel
theorem dX9_isNights_5 : decode cX9_isNights 5 = .ok (.iload_n 0, 1) := by decide +kernel
theorem dX9_isNights_6 : decode cX9_isNights 6 = .ok (.bipush 60, 2) := by decide +kernel
theorem dX9_isNights_8 : decode cX9_isNights 8 = .ok (.if_icmp .gt 7, 3) := by decide +kernel
theorem dX9_isNights_11 : decode cX9_isNights 11 = .ok (.iconst 1, 1) := by decide +kernel
theorem dX9_isNights_12 : decode cX9_isNights 12 = .ok (.goto 4, 3) := by decide +kernel
theorem dX9_isNights_15 : decode cX9_isNights 15 = .ok (.iconst 0, 1) := by decide +kernel
theorem dX9_isNights_16 : decode cX9_isNights 16 = .ok (.ireturn, 1) := by decide +kernel
theorem dX9_isEither_0 : decode cX9_isEither 0 = .ok (.iload_n 0, 1) := by decide +kernel
theorem dX9_isEither_1 : decode cX9_isEither 1 = .ok (.ifCond .eq 8, 3) := by decide +kernel
theorem dX9_isEither_4 : decode cX9_isEither 4 = .ok (.iload_n 0, 1) := by decide +kernel
theorem dX9_isEither_5 : decode cX9_isEither 5 = .ok (.iconst 1, 1) := by decide +kernel
theorem dX9_isEither_6 : decode cX9_isEither 6 = .ok (.if_icmp .ne 7, 3) := by decide +kernel
theorem dX9_isEither_9 : decode cX9_isEither 9 = .ok (.iconst 1, 1) := by decide +kernel
theorem dX9_isEither_10 : decode cX9_isEither 10 = .ok (.goto 4, 3) := by decide +kernel
theorem dX9_isEither_13 : decode cX9_isEither 13 = .ok (.iconst 0, 1) := by decide +kernel
theorem dX9_isEither_14 : decode cX9_isEither 14 = .ok (.ireturn, 1) := by decide +kernel
theorem dX7_isDigit_0 : decode cX7_isDigit 0 = .ok (.iload_n 0, 1) := by decide +kernel
theorem dX7_isDigit_1 : decode cX7_isDigit 1 = .ok (.bipush 48, 2) := by decide +kernel
theorem dX7_isDigit_3 : decode cX7_isDigit 3 = .ok (.if_icmp .lt 13, 3) := by decide +kernel
theorem dX7_isDigit_6 : decode cX7_isDigit 6 = .ok (.iload_n 0, 1) := by decide +kernel
theorem dX7_isDigit_7 : decode cX7_isDigit 7 = .ok (.bipush 57, 2) := by decide +kernel
theorem dX7_isDigit_9 : decode cX7_isDigit 9 = .ok (.if_icmp .gt 7, 3) := by decide +kernel
theorem dX7_isDigit_12 : decode cX7_isDigit 12 = .ok (.iconst 1, 1) := by decide +kernel
theorem dX7_isDigit_13 : decode cX7_isDigit 13 = .ok (.goto 4, 3) := by decide +kernel
theorem dX7_isDigit_16 : decode cX7_isDigit 16 = .ok (.iconst 0, 1) := by decide +kernel
theorem dX7_isDigit_17 : decode cX7_isDigit 17 = .ok (.ireturn, 1) := by decide +kernel
theorem dX3_isRuleLetter_0 : decode cX3_isRuleLetter 0 = .ok (.iload_n 0, 1) := by decide +kernel
theorem dX3_isRuleLetter_1 : decode cX3_isRuleLetter 1 = .ok (.bipush 117, 2) := by decide +kernel
theorem dX3_isRuleLetter_3 : decode cX3_isRuleLetter 3 = .ok (.if_icmp .eq 27, 3) := by decide +kernel
theorem dX3_isRuleLetter_6 : decode cX3_isRuleLetter 6 = .ok (.iload_n 0, 1) := by decide +kernel
theorem dX3_isRuleLetter_7 : decode cX3_isRuleLetter 7 = .ok (.bipush 100, 2) := by decide +kernel
theorem dX3_isRuleLetter_9 : decode cX3_isRuleLetter 9 = .ok (.if_icmp .eq 21, 3) := by decide +kernel
theorem dX3_isRuleLetter_12 : decode cX3_isRuleLetter 12 = .ok (.iload_n 0, 1) := by decide +kernel
theorem dX3_isRuleLetter_13 : decode cX3_isRuleLetter 13 = .ok (.bipush 111, 2) := by decide +kernel
theorem dX3_isRuleLetter_15 : decode cX3_isRuleLetter 15 = .ok (.if_icmp .eq 15, 3) := by decide +kernel
theorem dX3_isRuleLetter_18 : decode cX3_isRuleLetter 18 = .ok (.iload_n 0, 1) := by decide +kernel
theorem dX3_isRuleLetter_19 : decode cX3_isRuleLetter 19 = .ok (.bipush 98, 2) := by decide +kernel
theorem dX3_isRuleLetter_21 : decode cX3_isRuleLetter 21 = .ok (.if_icmp .eq 9, 3) := by decide +kernel
theorem dX3_isRuleLetter_24 : decode cX3_isRuleLetter 24 = .ok (.iload_n 0, 1) := by decide +kernel
theorem dX3_isRuleLetter_25 : decode cX3_isRuleLetter 25 = .ok (.bipush 120, 2) := by decide +kernel
theorem dX3_isRuleLetter_27 : decode cX3_isRuleLetter 27 = .ok (.if_icmp .ne 7, 3) := by decide +kernel
theorem dX3_isRuleLetter_30 : decode cX3_isRuleLetter 30 = .ok (.iconst 1, 1) := by decide +kernel
theorem dX3_isRuleLetter_31 : decode cX3_isRuleLetter 31 = .ok (.goto 4, 3) := by decide +kernel
theorem dX3_isRuleLetter_34 : decode cX3_isRuleLetter 34 = .ok (.iconst 0, 1) := by decide +kernel
theorem dX3_isRuleLetter_35 : decode cX3_isRuleLetter 35 = .ok (.ireturn, 1) := by decide +kernel
theorem dX4_isHop_0 : decode cX4_isHop 0 = .ok (.iload_n 0, 1) := by decide +kernel
theorem dX4_isHop_1 : decode cX4_isHop 1 = .ok (.bipush 117, 2) := by decide +kernel
theorem dX4_isHop_3 : decode cX4_isHop 3 = .ok (.if_icmp .eq 21, 3) := by decide +kernel
theorem dX4_isHop_6 : decode cX4_isHop 6 = .ok (.iload_n 0, 1) := by decide +kernel
theorem dX4_isHop_7 : decode cX4_isHop 7 = .ok (.bipush 100, 2) := by decide +kernel
theorem dX4_isHop_9 : decode cX4_isHop 9 = .ok (.if_icmp .eq 15, 3) := by decide +kernel
theorem dX4_isHop_12 : decode cX4_isHop 12 = .ok (.iload_n 0, 1) := by decide +kernel
theorem dX4_isHop_13 : decode cX4_isHop 13 = .ok (.bipush 111, 2) := by decide +kernel
theorem dX4_isHop_15 : decode cX4_isHop 15 = .ok (.if_icmp .eq 9, 3) := by decide +kernel
theorem dX4_isHop_18 : decode cX4_isHop 18 = .ok (.iload_n 0, 1) := by decide +kernel
theorem dX4_isHop_19 : decode cX4_isHop 19 = .ok (.bipush 98, 2) := by decide +kernel
theorem dX4_isHop_21 : decode cX4_isHop 21 = .ok (.if_icmp .ne 7, 3) := by decide +kernel
theorem dX4_isHop_24 : decode cX4_isHop 24 = .ok (.iconst 1, 1) := by decide +kernel
theorem dX4_isHop_25 : decode cX4_isHop 25 = .ok (.goto 4, 3) := by decide +kernel
theorem dX4_isHop_28 : decode cX4_isHop 28 = .ok (.iconst 0, 1) := by decide +kernel
theorem dX4_isHop_29 : decode cX4_isHop 29 = .ok (.ireturn, 1) := by decide +kernel
theorem dX5_indexOf_0 : decode cX5_indexOf 0 = .ok (.iload_n 0, 1) := by decide +kernel
theorem dX5_indexOf_1 : decode cX5_indexOf 1 = .ok (.tableswitch 117 101 121 #[107, 117, 114, 117, 99, 117, 117, 117, 117, 109, 117, 117, 117, 111, 105, 117, 117, 117, 117, 101, 103], 99) := by decide +kernel
theorem dX5_indexOf_100 : decode cX5_indexOf 100 = .ok (.iconst 0, 1) := by decide +kernel
theorem dX5_indexOf_101 : decode cX5_indexOf 101 = .ok (.ireturn, 1) := by decide +kernel
theorem dX5_indexOf_102 : decode cX5_indexOf 102 = .ok (.iconst 1, 1) := by decide +kernel
theorem dX5_indexOf_103 : decode cX5_indexOf 103 = .ok (.ireturn, 1) := by decide +kernel
theorem dX5_indexOf_104 : decode cX5_indexOf 104 = .ok (.iconst 2, 1) := by decide +kernel
theorem dX5_indexOf_105 : decode cX5_indexOf 105 = .ok (.ireturn, 1) := by decide +kernel
theorem dX5_indexOf_106 : decode cX5_indexOf 106 = .ok (.iconst 3, 1) := by decide +kernel
theorem dX5_indexOf_107 : decode cX5_indexOf 107 = .ok (.ireturn, 1) := by decide +kernel
theorem dX5_indexOf_108 : decode cX5_indexOf 108 = .ok (.iconst 4, 1) := by decide +kernel
theorem dX5_indexOf_109 : decode cX5_indexOf 109 = .ok (.ireturn, 1) := by decide +kernel
theorem dX5_indexOf_110 : decode cX5_indexOf 110 = .ok (.iconst 5, 1) := by decide +kernel
theorem dX5_indexOf_111 : decode cX5_indexOf 111 = .ok (.ireturn, 1) := by decide +kernel
theorem dX5_indexOf_112 : decode cX5_indexOf 112 = .ok (.bipush 6, 2) := by decide +kernel
theorem dX5_indexOf_114 : decode cX5_indexOf 114 = .ok (.ireturn, 1) := by decide +kernel
theorem dX5_indexOf_115 : decode cX5_indexOf 115 = .ok (.bipush 7, 2) := by decide +kernel
theorem dX5_indexOf_117 : decode cX5_indexOf 117 = .ok (.ireturn, 1) := by decide +kernel
theorem dX5_indexOf_118 : decode cX5_indexOf 118 = .ok (.iconst (-1), 1) := by decide +kernel
theorem dX5_indexOf_119 : decode cX5_indexOf 119 = .ok (.ireturn, 1) := by decide +kernel
theorem dX2_isTold_0 : decode cX2_isTold 0 = .ok (.iload_n 1, 1) := by decide +kernel
theorem dX2_isTold_1 : decode cX2_isTold 1 = .ok (.ifCond .lt 22, 3) := by decide +kernel
theorem dX2_isTold_4 : decode cX2_isTold 4 = .ok (.iload_n 1, 1) := by decide +kernel
theorem dX2_isTold_5 : decode cX2_isTold 5 = .ok (.bipush 40, 2) := by decide +kernel
theorem dX2_isTold_7 : decode cX2_isTold 7 = .ok (.if_icmp .ge 16, 3) := by decide +kernel
theorem dX2_isTold_10 : decode cX2_isTold 10 = .ok (.aload_n 0, 1) := by decide +kernel
theorem dX2_isTold_11 : decode cX2_isTold 11 = .ok (.getfield 21, 3) := by decide +kernel
theorem dX2_isTold_14 : decode cX2_isTold 14 = .ok (.iload_n 1, 1) := by decide +kernel
theorem dX2_isTold_15 : decode cX2_isTold 15 = .ok (.baload, 1) := by decide +kernel
theorem dX2_isTold_16 : decode cX2_isTold 16 = .ok (.ifCond .eq 7, 3) := by decide +kernel
theorem dX2_isTold_19 : decode cX2_isTold 19 = .ok (.iconst 1, 1) := by decide +kernel
theorem dX2_isTold_20 : decode cX2_isTold 20 = .ok (.goto 4, 3) := by decide +kernel
theorem dX2_isTold_23 : decode cX2_isTold 23 = .ok (.iconst 0, 1) := by decide +kernel
theorem dX2_isTold_24 : decode cX2_isTold 24 = .ok (.ireturn, 1) := by decide +kernel
theorem dX2_isDry_0 : decode cX2_isDry 0 = .ok (.iload_n 1, 1) := by decide +kernel
theorem dX2_isDry_1 : decode cX2_isDry 1 = .ok (.ifCond .lt 31, 3) := by decide +kernel
theorem dX2_isDry_4 : decode cX2_isDry 4 = .ok (.iload_n 1, 1) := by decide +kernel
theorem dX2_isDry_5 : decode cX2_isDry 5 = .ok (.bipush 40, 2) := by decide +kernel
theorem dX2_isDry_7 : decode cX2_isDry 7 = .ok (.if_icmp .ge 25, 3) := by decide +kernel
theorem dX2_isDry_10 : decode cX2_isDry 10 = .ok (.aload_n 0, 1) := by decide +kernel
theorem dX2_isDry_11 : decode cX2_isDry 11 = .ok (.getfield 21, 3) := by decide +kernel
theorem dX2_isDry_14 : decode cX2_isDry 14 = .ok (.iload_n 1, 1) := by decide +kernel
theorem dX2_isDry_15 : decode cX2_isDry 15 = .ok (.baload, 1) := by decide +kernel
theorem dX2_isDry_16 : decode cX2_isDry 16 = .ok (.ifCond .eq 16, 3) := by decide +kernel
theorem dX2_isDry_19 : decode cX2_isDry 19 = .ok (.aload_n 0, 1) := by decide +kernel
theorem dX2_isDry_20 : decode cX2_isDry 20 = .ok (.getfield 25, 3) := by decide +kernel
theorem dX2_isDry_23 : decode cX2_isDry 23 = .ok (.iload_n 1, 1) := by decide +kernel
theorem dX2_isDry_24 : decode cX2_isDry 24 = .ok (.baload, 1) := by decide +kernel
theorem dX2_isDry_25 : decode cX2_isDry 25 = .ok (.ifCond .ne 7, 3) := by decide +kernel
theorem dX2_isDry_28 : decode cX2_isDry 28 = .ok (.iconst 1, 1) := by decide +kernel
theorem dX2_isDry_29 : decode cX2_isDry 29 = .ok (.goto 4, 3) := by decide +kernel
theorem dX2_isDry_32 : decode cX2_isDry 32 = .ok (.iconst 0, 1) := by decide +kernel
theorem dX2_isDry_33 : decode cX2_isDry 33 = .ok (.ireturn, 1) := by decide +kernel
theorem dX2_stoneAt_0 : decode cX2_stoneAt 0 = .ok (.iconst 0, 1) := by decide +kernel
theorem dX2_stoneAt_1 : decode cX2_stoneAt 1 = .ok (.istore_n 3, 1) := by decide +kernel
theorem dX2_stoneAt_2 : decode cX2_stoneAt 2 = .ok (.iload_n 3, 1) := by decide +kernel
theorem dX2_stoneAt_3 : decode cX2_stoneAt 3 = .ok (.bipush 40, 2) := by decide +kernel
theorem dX2_stoneAt_5 : decode cX2_stoneAt 5 = .ok (.if_icmp .ge 40, 3) := by decide +kernel
theorem dX2_stoneAt_8 : decode cX2_stoneAt 8 = .ok (.aload_n 0, 1) := by decide +kernel
theorem dX2_stoneAt_9 : decode cX2_stoneAt 9 = .ok (.getfield 21, 3) := by decide +kernel
theorem dX2_stoneAt_12 : decode cX2_stoneAt 12 = .ok (.iload_n 3, 1) := by decide +kernel
theorem dX2_stoneAt_13 : decode cX2_stoneAt 13 = .ok (.baload, 1) := by decide +kernel
theorem dX2_stoneAt_14 : decode cX2_stoneAt 14 = .ok (.ifCond .eq 25, 3) := by decide +kernel
theorem dX2_stoneAt_17 : decode cX2_stoneAt 17 = .ok (.aload_n 0, 1) := by decide +kernel
theorem dX2_stoneAt_18 : decode cX2_stoneAt 18 = .ok (.getfield 9, 3) := by decide +kernel
theorem dX2_stoneAt_21 : decode cX2_stoneAt 21 = .ok (.iload_n 3, 1) := by decide +kernel
theorem dX2_stoneAt_22 : decode cX2_stoneAt 22 = .ok (.iaload, 1) := by decide +kernel
theorem dX2_stoneAt_23 : decode cX2_stoneAt 23 = .ok (.iload_n 1, 1) := by decide +kernel
theorem dX2_stoneAt_24 : decode cX2_stoneAt 24 = .ok (.if_icmp .ne 15, 3) := by decide +kernel
theorem dX2_stoneAt_27 : decode cX2_stoneAt 27 = .ok (.aload_n 0, 1) := by decide +kernel
theorem dX2_stoneAt_28 : decode cX2_stoneAt 28 = .ok (.getfield 15, 3) := by decide +kernel
theorem dX2_stoneAt_31 : decode cX2_stoneAt 31 = .ok (.iload_n 3, 1) := by decide +kernel
theorem dX2_stoneAt_32 : decode cX2_stoneAt 32 = .ok (.iaload, 1) := by decide +kernel
theorem dX2_stoneAt_33 : decode cX2_stoneAt 33 = .ok (.iload_n 2, 1) := by decide +kernel
theorem dX2_stoneAt_34 : decode cX2_stoneAt 34 = .ok (.if_icmp .ne 5, 3) := by decide +kernel
theorem dX2_stoneAt_37 : decode cX2_stoneAt 37 = .ok (.iload_n 3, 1) := by decide +kernel
theorem dX2_stoneAt_38 : decode cX2_stoneAt 38 = .ok (.ireturn, 1) := by decide +kernel
theorem dX2_stoneAt_39 : decode cX2_stoneAt 39 = .ok (.iinc 3 1, 3) := by decide +kernel
theorem dX2_stoneAt_42 : decode cX2_stoneAt 42 = .ok (.goto (-40), 3) := by decide +kernel
theorem dX2_stoneAt_45 : decode cX2_stoneAt 45 = .ok (.iconst (-1), 1) := by decide +kernel
theorem dX2_stoneAt_46 : decode cX2_stoneAt 46 = .ok (.ireturn, 1) := by decide +kernel
theorem dX2_countTold_0 : decode cX2_countTold 0 = .ok (.iconst 0, 1) := by decide +kernel
theorem dX2_countTold_1 : decode cX2_countTold 1 = .ok (.istore_n 1, 1) := by decide +kernel
theorem dX2_countTold_2 : decode cX2_countTold 2 = .ok (.iconst 0, 1) := by decide +kernel
theorem dX2_countTold_3 : decode cX2_countTold 3 = .ok (.istore_n 2, 1) := by decide +kernel
theorem dX2_countTold_4 : decode cX2_countTold 4 = .ok (.iload_n 2, 1) := by decide +kernel
theorem dX2_countTold_5 : decode cX2_countTold 5 = .ok (.bipush 40, 2) := by decide +kernel
theorem dX2_countTold_7 : decode cX2_countTold 7 = .ok (.if_icmp .ge 26, 3) := by decide +kernel
theorem dX2_countTold_10 : decode cX2_countTold 10 = .ok (.iload_n 1, 1) := by decide +kernel
theorem dX2_countTold_11 : decode cX2_countTold 11 = .ok (.aload_n 0, 1) := by decide +kernel
theorem dX2_countTold_12 : decode cX2_countTold 12 = .ok (.getfield 21, 3) := by decide +kernel
theorem dX2_countTold_15 : decode cX2_countTold 15 = .ok (.iload_n 2, 1) := by decide +kernel
theorem dX2_countTold_16 : decode cX2_countTold 16 = .ok (.baload, 1) := by decide +kernel
theorem dX2_countTold_17 : decode cX2_countTold 17 = .ok (.ifCond .eq 7, 3) := by decide +kernel
theorem dX2_countTold_20 : decode cX2_countTold 20 = .ok (.iconst 1, 1) := by decide +kernel
theorem dX2_countTold_21 : decode cX2_countTold 21 = .ok (.goto 4, 3) := by decide +kernel
theorem dX2_countTold_24 : decode cX2_countTold 24 = .ok (.iconst 0, 1) := by decide +kernel
theorem dX2_countTold_25 : decode cX2_countTold 25 = .ok (.iadd, 1) := by decide +kernel
theorem dX2_countTold_26 : decode cX2_countTold 26 = .ok (.istore_n 1, 1) := by decide +kernel
theorem dX2_countTold_27 : decode cX2_countTold 27 = .ok (.iinc 2 1, 3) := by decide +kernel
theorem dX2_countTold_30 : decode cX2_countTold 30 = .ok (.goto (-26), 3) := by decide +kernel
theorem dX2_countTold_33 : decode cX2_countTold 33 = .ok (.iload_n 1, 1) := by decide +kernel
theorem dX2_countTold_34 : decode cX2_countTold 34 = .ok (.ireturn, 1) := by decide +kernel
theorem dX2_countSunk_0 : decode cX2_countSunk 0 = .ok (.iconst 0, 1) := by decide +kernel
theorem dX2_countSunk_1 : decode cX2_countSunk 1 = .ok (.istore_n 1, 1) := by decide +kernel
theorem dX2_countSunk_2 : decode cX2_countSunk 2 = .ok (.iconst 0, 1) := by decide +kernel
theorem dX2_countSunk_3 : decode cX2_countSunk 3 = .ok (.istore_n 2, 1) := by decide +kernel
theorem dX2_countSunk_4 : decode cX2_countSunk 4 = .ok (.iload_n 2, 1) := by decide +kernel
theorem dX2_countSunk_5 : decode cX2_countSunk 5 = .ok (.bipush 40, 2) := by decide +kernel
theorem dX2_countSunk_7 : decode cX2_countSunk 7 = .ok (.if_icmp .ge 35, 3) := by decide +kernel
theorem dX2_countSunk_10 : decode cX2_countSunk 10 = .ok (.iload_n 1, 1) := by decide +kernel
theorem dX2_countSunk_11 : decode cX2_countSunk 11 = .ok (.aload_n 0, 1) := by decide +kernel
theorem dX2_countSunk_12 : decode cX2_countSunk 12 = .ok (.getfield 21, 3) := by decide +kernel
theorem dX2_countSunk_15 : decode cX2_countSunk 15 = .ok (.iload_n 2, 1) := by decide +kernel
theorem dX2_countSunk_16 : decode cX2_countSunk 16 = .ok (.baload, 1) := by decide +kernel
theorem dX2_countSunk_17 : decode cX2_countSunk 17 = .ok (.ifCond .eq 16, 3) := by decide +kernel
theorem dX2_countSunk_20 : decode cX2_countSunk 20 = .ok (.aload_n 0, 1) := by decide +kernel
theorem dX2_countSunk_21 : decode cX2_countSunk 21 = .ok (.getfield 25, 3) := by decide +kernel
theorem dX2_countSunk_24 : decode cX2_countSunk 24 = .ok (.iload_n 2, 1) := by decide +kernel
theorem dX2_countSunk_25 : decode cX2_countSunk 25 = .ok (.baload, 1) := by decide +kernel
theorem dX2_countSunk_26 : decode cX2_countSunk 26 = .ok (.ifCond .eq 7, 3) := by decide +kernel
theorem dX2_countSunk_29 : decode cX2_countSunk 29 = .ok (.iconst 1, 1) := by decide +kernel
theorem dX2_countSunk_30 : decode cX2_countSunk 30 = .ok (.goto 4, 3) := by decide +kernel
theorem dX2_countSunk_33 : decode cX2_countSunk 33 = .ok (.iconst 0, 1) := by decide +kernel
theorem dX2_countSunk_34 : decode cX2_countSunk 34 = .ok (.iadd, 1) := by decide +kernel
theorem dX2_countSunk_35 : decode cX2_countSunk 35 = .ok (.istore_n 1, 1) := by decide +kernel
theorem dX2_countSunk_36 : decode cX2_countSunk 36 = .ok (.iinc 2 1, 3) := by decide +kernel
theorem dX2_countSunk_39 : decode cX2_countSunk 39 = .ok (.goto (-35), 3) := by decide +kernel
theorem dX2_countSunk_42 : decode cX2_countSunk 42 = .ok (.iload_n 1, 1) := by decide +kernel
theorem dX2_countSunk_43 : decode cX2_countSunk 43 = .ok (.ireturn, 1) := by decide +kernel
theorem dX2_sumOfX_0 : decode cX2_sumOfX 0 = .ok (.iconst 0, 1) := by decide +kernel
theorem dX2_sumOfX_1 : decode cX2_sumOfX 1 = .ok (.istore_n 1, 1) := by decide +kernel
theorem dX2_sumOfX_2 : decode cX2_sumOfX 2 = .ok (.iconst 0, 1) := by decide +kernel
theorem dX2_sumOfX_3 : decode cX2_sumOfX 3 = .ok (.istore_n 2, 1) := by decide +kernel
theorem dX2_sumOfX_4 : decode cX2_sumOfX 4 = .ok (.iload_n 2, 1) := by decide +kernel
theorem dX2_sumOfX_5 : decode cX2_sumOfX 5 = .ok (.bipush 40, 2) := by decide +kernel
theorem dX2_sumOfX_7 : decode cX2_sumOfX 7 = .ok (.if_icmp .ge 31, 3) := by decide +kernel
theorem dX2_sumOfX_10 : decode cX2_sumOfX 10 = .ok (.iload_n 1, 1) := by decide +kernel
theorem dX2_sumOfX_11 : decode cX2_sumOfX 11 = .ok (.aload_n 0, 1) := by decide +kernel
theorem dX2_sumOfX_12 : decode cX2_sumOfX 12 = .ok (.getfield 21, 3) := by decide +kernel
theorem dX2_sumOfX_15 : decode cX2_sumOfX 15 = .ok (.iload_n 2, 1) := by decide +kernel
theorem dX2_sumOfX_16 : decode cX2_sumOfX 16 = .ok (.baload, 1) := by decide +kernel
theorem dX2_sumOfX_17 : decode cX2_sumOfX 17 = .ok (.ifCond .eq 12, 3) := by decide +kernel
theorem dX2_sumOfX_20 : decode cX2_sumOfX 20 = .ok (.aload_n 0, 1) := by decide +kernel
theorem dX2_sumOfX_21 : decode cX2_sumOfX 21 = .ok (.getfield 9, 3) := by decide +kernel
theorem dX2_sumOfX_24 : decode cX2_sumOfX 24 = .ok (.iload_n 2, 1) := by decide +kernel
theorem dX2_sumOfX_25 : decode cX2_sumOfX 25 = .ok (.iaload, 1) := by decide +kernel
theorem dX2_sumOfX_26 : decode cX2_sumOfX 26 = .ok (.goto 4, 3) := by decide +kernel
theorem dX2_sumOfX_29 : decode cX2_sumOfX 29 = .ok (.iconst 0, 1) := by decide +kernel
theorem dX2_sumOfX_30 : decode cX2_sumOfX 30 = .ok (.iadd, 1) := by decide +kernel
theorem dX2_sumOfX_31 : decode cX2_sumOfX 31 = .ok (.istore_n 1, 1) := by decide +kernel
theorem dX2_sumOfX_32 : decode cX2_sumOfX 32 = .ok (.iinc 2 1, 3) := by decide +kernel
theorem dX2_sumOfX_35 : decode cX2_sumOfX 35 = .ok (.goto (-31), 3) := by decide +kernel
theorem dX2_sumOfX_38 : decode cX2_sumOfX 38 = .ok (.iload_n 1, 1) := by decide +kernel
theorem dX2_sumOfX_39 : decode cX2_sumOfX 39 = .ok (.ireturn, 1) := by decide +kernel
theorem dX2_clearStones_0 : decode cX2_clearStones 0 = .ok (.iconst 0, 1) := by decide +kernel
theorem dX2_clearStones_1 : decode cX2_clearStones 1 = .ok (.istore_n 1, 1) := by decide +kernel
theorem dX2_clearStones_2 : decode cX2_clearStones 2 = .ok (.iload_n 1, 1) := by decide +kernel
theorem dX2_clearStones_3 : decode cX2_clearStones 3 = .ok (.bipush 40, 2) := by decide +kernel
theorem dX2_clearStones_5 : decode cX2_clearStones 5 = .ok (.if_icmp .ge 16, 3) := by decide +kernel
theorem dX2_clearStones_8 : decode cX2_clearStones 8 = .ok (.aload_n 0, 1) := by decide +kernel
theorem dX2_clearStones_9 : decode cX2_clearStones 9 = .ok (.getfield 21, 3) := by decide +kernel
theorem dX2_clearStones_12 : decode cX2_clearStones 12 = .ok (.iload_n 1, 1) := by decide +kernel
theorem dX2_clearStones_13 : decode cX2_clearStones 13 = .ok (.iconst 0, 1) := by decide +kernel
theorem dX2_clearStones_14 : decode cX2_clearStones 14 = .ok (.bastore, 1) := by decide +kernel
theorem dX2_clearStones_15 : decode cX2_clearStones 15 = .ok (.iinc 1 1, 3) := by decide +kernel
theorem dX2_clearStones_18 : decode cX2_clearStones 18 = .ok (.goto (-16), 3) := by decide +kernel
theorem dX2_clearStones_21 : decode cX2_clearStones 21 = .ok (.return_, 1) := by decide +kernel
theorem dX2_copyStones_0 : decode cX2_copyStones 0 = .ok (.iconst 0, 1) := by decide +kernel
theorem dX2_copyStones_1 : decode cX2_copyStones 1 = .ok (.istore_n 2, 1) := by decide +kernel
theorem dX2_copyStones_2 : decode cX2_copyStones 2 = .ok (.iload_n 2, 1) := by decide +kernel
theorem dX2_copyStones_3 : decode cX2_copyStones 3 = .ok (.bipush 40, 2) := by decide +kernel
theorem dX2_copyStones_5 : decode cX2_copyStones 5 = .ok (.if_icmp .ge 69, 3) := by decide +kernel
theorem dX2_copyStones_8 : decode cX2_copyStones 8 = .ok (.aload_n 0, 1) := by decide +kernel
theorem dX2_copyStones_9 : decode cX2_copyStones 9 = .ok (.getfield 9, 3) := by decide +kernel
theorem dX2_copyStones_12 : decode cX2_copyStones 12 = .ok (.iload_n 2, 1) := by decide +kernel
theorem dX2_copyStones_13 : decode cX2_copyStones 13 = .ok (.aload_n 1, 1) := by decide +kernel
theorem dX2_copyStones_14 : decode cX2_copyStones 14 = .ok (.getfield 9, 3) := by decide +kernel
theorem dX2_copyStones_17 : decode cX2_copyStones 17 = .ok (.iload_n 2, 1) := by decide +kernel
theorem dX2_copyStones_18 : decode cX2_copyStones 18 = .ok (.iaload, 1) := by decide +kernel
theorem dX2_copyStones_19 : decode cX2_copyStones 19 = .ok (.iastore, 1) := by decide +kernel
theorem dX2_copyStones_20 : decode cX2_copyStones 20 = .ok (.aload_n 0, 1) := by decide +kernel
theorem dX2_copyStones_21 : decode cX2_copyStones 21 = .ok (.getfield 15, 3) := by decide +kernel
theorem dX2_copyStones_24 : decode cX2_copyStones 24 = .ok (.iload_n 2, 1) := by decide +kernel
theorem dX2_copyStones_25 : decode cX2_copyStones 25 = .ok (.aload_n 1, 1) := by decide +kernel
theorem dX2_copyStones_26 : decode cX2_copyStones 26 = .ok (.getfield 15, 3) := by decide +kernel
theorem dX2_copyStones_29 : decode cX2_copyStones 29 = .ok (.iload_n 2, 1) := by decide +kernel
theorem dX2_copyStones_30 : decode cX2_copyStones 30 = .ok (.iaload, 1) := by decide +kernel
theorem dX2_copyStones_31 : decode cX2_copyStones 31 = .ok (.iastore, 1) := by decide +kernel
theorem dX2_copyStones_32 : decode cX2_copyStones 32 = .ok (.aload_n 0, 1) := by decide +kernel
theorem dX2_copyStones_33 : decode cX2_copyStones 33 = .ok (.getfield 18, 3) := by decide +kernel
theorem dX2_copyStones_36 : decode cX2_copyStones 36 = .ok (.iload_n 2, 1) := by decide +kernel
theorem dX2_copyStones_37 : decode cX2_copyStones 37 = .ok (.aload_n 1, 1) := by decide +kernel
theorem dX2_copyStones_38 : decode cX2_copyStones 38 = .ok (.getfield 18, 3) := by decide +kernel
theorem dX2_copyStones_41 : decode cX2_copyStones 41 = .ok (.iload_n 2, 1) := by decide +kernel
theorem dX2_copyStones_42 : decode cX2_copyStones 42 = .ok (.iaload, 1) := by decide +kernel
theorem dX2_copyStones_43 : decode cX2_copyStones 43 = .ok (.iastore, 1) := by decide +kernel
theorem dX2_copyStones_44 : decode cX2_copyStones 44 = .ok (.aload_n 0, 1) := by decide +kernel
theorem dX2_copyStones_45 : decode cX2_copyStones 45 = .ok (.getfield 21, 3) := by decide +kernel
theorem dX2_copyStones_48 : decode cX2_copyStones 48 = .ok (.iload_n 2, 1) := by decide +kernel
theorem dX2_copyStones_49 : decode cX2_copyStones 49 = .ok (.aload_n 1, 1) := by decide +kernel
theorem dX2_copyStones_50 : decode cX2_copyStones 50 = .ok (.getfield 21, 3) := by decide +kernel
theorem dX2_copyStones_53 : decode cX2_copyStones 53 = .ok (.iload_n 2, 1) := by decide +kernel
theorem dX2_copyStones_54 : decode cX2_copyStones 54 = .ok (.baload, 1) := by decide +kernel
theorem dX2_copyStones_55 : decode cX2_copyStones 55 = .ok (.bastore, 1) := by decide +kernel
theorem dX2_copyStones_56 : decode cX2_copyStones 56 = .ok (.aload_n 0, 1) := by decide +kernel
theorem dX2_copyStones_57 : decode cX2_copyStones 57 = .ok (.getfield 25, 3) := by decide +kernel
theorem dX2_copyStones_60 : decode cX2_copyStones 60 = .ok (.iload_n 2, 1) := by decide +kernel
theorem dX2_copyStones_61 : decode cX2_copyStones 61 = .ok (.aload_n 1, 1) := by decide +kernel
theorem dX2_copyStones_62 : decode cX2_copyStones 62 = .ok (.getfield 25, 3) := by decide +kernel
theorem dX2_copyStones_65 : decode cX2_copyStones 65 = .ok (.iload_n 2, 1) := by decide +kernel
theorem dX2_copyStones_66 : decode cX2_copyStones 66 = .ok (.baload, 1) := by decide +kernel
theorem dX2_copyStones_67 : decode cX2_copyStones 67 = .ok (.bastore, 1) := by decide +kernel
theorem dX2_copyStones_68 : decode cX2_copyStones 68 = .ok (.iinc 2 1, 3) := by decide +kernel
theorem dX2_copyStones_71 : decode cX2_copyStones 71 = .ok (.goto (-69), 3) := by decide +kernel
theorem dX2_copyStones_74 : decode cX2_copyStones 74 = .ok (.return_, 1) := by decide +kernel
theorem dX2_copyAll_0 : decode cX2_copyAll 0 = .ok (.aload_n 0, 1) := by decide +kernel
theorem dX2_copyAll_1 : decode cX2_copyAll 1 = .ok (.aload_n 1, 1) := by decide +kernel
theorem dX2_copyAll_2 : decode cX2_copyAll 2 = .ok (.invokevirtual 35, 3) := by decide +kernel
theorem dX2_copyAll_5 : decode cX2_copyAll 5 = .ok (.aload_n 0, 1) := by decide +kernel
theorem dX2_copyAll_6 : decode cX2_copyAll 6 = .ok (.aload_n 1, 1) := by decide +kernel
theorem dX2_copyAll_7 : decode cX2_copyAll 7 = .ok (.getfield 28, 3) := by decide +kernel
theorem dX2_copyAll_10 : decode cX2_copyAll 10 = .ok (.putfield 28, 3) := by decide +kernel
theorem dX2_copyAll_13 : decode cX2_copyAll 13 = .ok (.aload_n 0, 1) := by decide +kernel
theorem dX2_copyAll_14 : decode cX2_copyAll 14 = .ok (.aload_n 1, 1) := by decide +kernel
theorem dX2_copyAll_15 : decode cX2_copyAll 15 = .ok (.getfield 32, 3) := by decide +kernel
theorem dX2_copyAll_18 : decode cX2_copyAll 18 = .ok (.putfield 32, 3) := by decide +kernel
theorem dX2_copyAll_21 : decode cX2_copyAll 21 = .ok (.return_, 1) := by decide +kernel
theorem dX2_lay_0 : decode cX2_lay 0 = .ok (.iload_n 1, 1) := by decide +kernel
theorem dX2_lay_1 : decode cX2_lay 1 = .ok (.ifCond .lt 9, 3) := by decide +kernel
theorem dX2_lay_4 : decode cX2_lay 4 = .ok (.iload_n 1, 1) := by decide +kernel
theorem dX2_lay_5 : decode cX2_lay 5 = .ok (.bipush 40, 2) := by decide +kernel
theorem dX2_lay_7 : decode cX2_lay 7 = .ok (.if_icmp .lt 4, 3) := by decide +kernel
theorem dX2_lay_10 : decode cX2_lay 10 = .ok (.return_, 1) := by decide +kernel
theorem dX2_lay_11 : decode cX2_lay 11 = .ok (.aload_n 0, 1) := by decide +kernel
theorem dX2_lay_12 : decode cX2_lay 12 = .ok (.getfield 9, 3) := by decide +kernel
theorem dX2_lay_15 : decode cX2_lay 15 = .ok (.iload_n 1, 1) := by decide +kernel
theorem dX2_lay_16 : decode cX2_lay 16 = .ok (.iload_n 2, 1) := by decide +kernel
theorem dX2_lay_17 : decode cX2_lay 17 = .ok (.iastore, 1) := by decide +kernel
theorem dX2_lay_18 : decode cX2_lay 18 = .ok (.aload_n 0, 1) := by decide +kernel
theorem dX2_lay_19 : decode cX2_lay 19 = .ok (.getfield 15, 3) := by decide +kernel
theorem dX2_lay_22 : decode cX2_lay 22 = .ok (.iload_n 1, 1) := by decide +kernel
theorem dX2_lay_23 : decode cX2_lay 23 = .ok (.iload_n 3, 1) := by decide +kernel
theorem dX2_lay_24 : decode cX2_lay 24 = .ok (.iastore, 1) := by decide +kernel
theorem dX2_lay_25 : decode cX2_lay 25 = .ok (.aload_n 0, 1) := by decide +kernel
theorem dX2_lay_26 : decode cX2_lay 26 = .ok (.getfield 18, 3) := by decide +kernel
theorem dX2_lay_29 : decode cX2_lay 29 = .ok (.iload_n 1, 1) := by decide +kernel
theorem dX2_lay_30 : decode cX2_lay 30 = .ok (.iload 4, 2) := by decide +kernel
theorem dX2_lay_32 : decode cX2_lay 32 = .ok (.iastore, 1) := by decide +kernel
theorem dX2_lay_33 : decode cX2_lay 33 = .ok (.aload_n 0, 1) := by decide +kernel
theorem dX2_lay_34 : decode cX2_lay 34 = .ok (.getfield 25, 3) := by decide +kernel
theorem dX2_lay_37 : decode cX2_lay 37 = .ok (.iload_n 1, 1) := by decide +kernel
theorem dX2_lay_38 : decode cX2_lay 38 = .ok (.iload 5, 2) := by decide +kernel
theorem dX2_lay_40 : decode cX2_lay 40 = .ok (.bastore, 1) := by decide +kernel
theorem dX2_lay_41 : decode cX2_lay 41 = .ok (.aload_n 0, 1) := by decide +kernel
theorem dX2_lay_42 : decode cX2_lay 42 = .ok (.getfield 21, 3) := by decide +kernel
theorem dX2_lay_45 : decode cX2_lay 45 = .ok (.iload_n 1, 1) := by decide +kernel
theorem dX2_lay_46 : decode cX2_lay 46 = .ok (.iconst 1, 1) := by decide +kernel
theorem dX2_lay_47 : decode cX2_lay 47 = .ok (.bastore, 1) := by decide +kernel
theorem dX2_lay_48 : decode cX2_lay 48 = .ok (.return_, 1) := by decide +kernel
theorem dX2_squares_0 : decode cX2_squares 0 = .ok (.aload_n 0, 1) := by decide +kernel
theorem dX2_squares_1 : decode cX2_squares 1 = .ok (.iload_n 1, 1) := by decide +kernel
theorem dX2_squares_2 : decode cX2_squares 2 = .ok (.invokevirtual 52, 3) := by decide +kernel
theorem dX2_squares_5 : decode cX2_squares 5 = .ok (.ifCond .eq 11, 3) := by decide +kernel
theorem dX2_squares_8 : decode cX2_squares 8 = .ok (.aload_n 0, 1) := by decide +kernel
theorem dX2_squares_9 : decode cX2_squares 9 = .ok (.iload_n 2, 1) := by decide +kernel
theorem dX2_squares_10 : decode cX2_squares 10 = .ok (.invokevirtual 52, 3) := by decide +kernel
theorem dX2_squares_13 : decode cX2_squares 13 = .ok (.ifCond .ne 5, 3) := by decide +kernel
theorem dX2_squares_16 : decode cX2_squares 16 = .ok (.iconst 0, 1) := by decide +kernel
theorem dX2_squares_17 : decode cX2_squares 17 = .ok (.ireturn, 1) := by decide +kernel
theorem dX2_squares_18 : decode cX2_squares 18 = .ok (.aload_n 0, 1) := by decide +kernel
theorem dX2_squares_19 : decode cX2_squares 19 = .ok (.getfield 9, 3) := by decide +kernel
theorem dX2_squares_22 : decode cX2_squares 22 = .ok (.iload_n 1, 1) := by decide +kernel
theorem dX2_squares_23 : decode cX2_squares 23 = .ok (.iaload, 1) := by decide +kernel
theorem dX2_squares_24 : decode cX2_squares 24 = .ok (.aload_n 0, 1) := by decide +kernel
theorem dX2_squares_25 : decode cX2_squares 25 = .ok (.getfield 9, 3) := by decide +kernel
theorem dX2_squares_28 : decode cX2_squares 28 = .ok (.iload_n 2, 1) := by decide +kernel
theorem dX2_squares_29 : decode cX2_squares 29 = .ok (.iaload, 1) := by decide +kernel
theorem dX2_squares_30 : decode cX2_squares 30 = .ok (.isub, 1) := by decide +kernel
theorem dX2_squares_31 : decode cX2_squares 31 = .ok (.istore_n 3, 1) := by decide +kernel
theorem dX2_squares_32 : decode cX2_squares 32 = .ok (.aload_n 0, 1) := by decide +kernel
theorem dX2_squares_33 : decode cX2_squares 33 = .ok (.getfield 15, 3) := by decide +kernel
theorem dX2_squares_36 : decode cX2_squares 36 = .ok (.iload_n 1, 1) := by decide +kernel
theorem dX2_squares_37 : decode cX2_squares 37 = .ok (.iaload, 1) := by decide +kernel
theorem dX2_squares_38 : decode cX2_squares 38 = .ok (.aload_n 0, 1) := by decide +kernel
theorem dX2_squares_39 : decode cX2_squares 39 = .ok (.getfield 15, 3) := by decide +kernel
theorem dX2_squares_42 : decode cX2_squares 42 = .ok (.iload_n 2, 1) := by decide +kernel
theorem dX2_squares_43 : decode cX2_squares 43 = .ok (.iaload, 1) := by decide +kernel
theorem dX2_squares_44 : decode cX2_squares 44 = .ok (.isub, 1) := by decide +kernel
theorem dX2_squares_45 : decode cX2_squares 45 = .ok (.istore 4, 2) := by decide +kernel
theorem dX2_squares_47 : decode cX2_squares 47 = .ok (.iload_n 3, 1) := by decide +kernel
theorem dX2_squares_48 : decode cX2_squares 48 = .ok (.iload_n 3, 1) := by decide +kernel
theorem dX2_squares_49 : decode cX2_squares 49 = .ok (.imul, 1) := by decide +kernel
theorem dX2_squares_50 : decode cX2_squares 50 = .ok (.iload 4, 2) := by decide +kernel
theorem dX2_squares_52 : decode cX2_squares 52 = .ok (.iload 4, 2) := by decide +kernel
theorem dX2_squares_54 : decode cX2_squares 54 = .ok (.imul, 1) := by decide +kernel
theorem dX2_squares_55 : decode cX2_squares 55 = .ok (.iadd, 1) := by decide +kernel
theorem dX2_squares_56 : decode cX2_squares 56 = .ok (.ireturn, 1) := by decide +kernel
theorem dX2_countClose_0 : decode cX2_countClose 0 = .ok (.iconst 0, 1) := by decide +kernel
theorem dX2_countClose_1 : decode cX2_countClose 1 = .ok (.istore_n 2, 1) := by decide +kernel
theorem dX2_countClose_2 : decode cX2_countClose 2 = .ok (.iconst 0, 1) := by decide +kernel
theorem dX2_countClose_3 : decode cX2_countClose 3 = .ok (.istore_n 3, 1) := by decide +kernel
theorem dX2_countClose_4 : decode cX2_countClose 4 = .ok (.iload_n 3, 1) := by decide +kernel
theorem dX2_countClose_5 : decode cX2_countClose 5 = .ok (.bipush 40, 2) := by decide +kernel
theorem dX2_countClose_7 : decode cX2_countClose 7 = .ok (.if_icmp .ge 36, 3) := by decide +kernel
theorem dX2_countClose_10 : decode cX2_countClose 10 = .ok (.iload_n 3, 1) := by decide +kernel
theorem dX2_countClose_11 : decode cX2_countClose 11 = .ok (.iload_n 1, 1) := by decide +kernel
theorem dX2_countClose_12 : decode cX2_countClose 12 = .ok (.if_icmp .eq 25, 3) := by decide +kernel
theorem dX2_countClose_15 : decode cX2_countClose 15 = .ok (.aload_n 0, 1) := by decide +kernel
theorem dX2_countClose_16 : decode cX2_countClose 16 = .ok (.getfield 21, 3) := by decide +kernel
theorem dX2_countClose_19 : decode cX2_countClose 19 = .ok (.iload_n 3, 1) := by decide +kernel
theorem dX2_countClose_20 : decode cX2_countClose 20 = .ok (.baload, 1) := by decide +kernel
theorem dX2_countClose_21 : decode cX2_countClose 21 = .ok (.ifCond .eq 16, 3) := by decide +kernel
theorem dX2_countClose_24 : decode cX2_countClose 24 = .ok (.aload_n 0, 1) := by decide +kernel
theorem dX2_countClose_25 : decode cX2_countClose 25 = .ok (.iload_n 1, 1) := by decide +kernel
theorem dX2_countClose_26 : decode cX2_countClose 26 = .ok (.iload_n 3, 1) := by decide +kernel
theorem dX2_countClose_27 : decode cX2_countClose 27 = .ok (.invokevirtual 49, 3) := by decide +kernel
theorem dX2_countClose_30 : decode cX2_countClose 30 = .ok (.iconst 4, 1) := by decide +kernel
theorem dX2_countClose_31 : decode cX2_countClose 31 = .ok (.if_icmp .gt 6, 3) := by decide +kernel
theorem dX2_countClose_34 : decode cX2_countClose 34 = .ok (.iinc 2 1, 3) := by decide +kernel
theorem dX2_countClose_37 : decode cX2_countClose 37 = .ok (.iinc 3 1, 3) := by decide +kernel
theorem dX2_countClose_40 : decode cX2_countClose 40 = .ok (.goto (-36), 3) := by decide +kernel
theorem dX2_countClose_43 : decode cX2_countClose 43 = .ok (.iload_n 2, 1) := by decide +kernel
theorem dX2_countClose_44 : decode cX2_countClose 44 = .ok (.ireturn, 1) := by decide +kernel
theorem dX2_draw_0 : decode cX2_draw 0 = .ok (.aload_n 0, 1) := by decide +kernel
theorem dX2_draw_1 : decode cX2_draw 1 = .ok (.sipush 25173, 3) := by decide +kernel
theorem dX2_draw_4 : decode cX2_draw 4 = .ok (.aload_n 0, 1) := by decide +kernel
theorem dX2_draw_5 : decode cX2_draw 5 = .ok (.getfield 32, 3) := by decide +kernel
theorem dX2_draw_8 : decode cX2_draw 8 = .ok (.imul, 1) := by decide +kernel
theorem dX2_draw_9 : decode cX2_draw 9 = .ok (.sipush 13849, 3) := by decide +kernel
theorem dX2_draw_12 : decode cX2_draw 12 = .ok (.iadd, 1) := by decide +kernel
theorem dX2_draw_13 : decode cX2_draw 13 = .ok (.ldc 55, 2) := by decide +kernel
theorem dX2_draw_15 : decode cX2_draw 15 = .ok (.iand, 1) := by decide +kernel
theorem dX2_draw_16 : decode cX2_draw 16 = .ok (.putfield 32, 3) := by decide +kernel
theorem dX2_draw_19 : decode cX2_draw 19 = .ok (.aload_n 0, 1) := by decide +kernel
theorem dX2_draw_20 : decode cX2_draw 20 = .ok (.getfield 32, 3) := by decide +kernel
theorem dX2_draw_23 : decode cX2_draw 23 = .ok (.bipush 10, 2) := by decide +kernel
theorem dX2_draw_25 : decode cX2_draw 25 = .ok (.irem, 1) := by decide +kernel
theorem dX2_draw_26 : decode cX2_draw 26 = .ok (.ireturn, 1) := by decide +kernel
theorem dX2_canStand_0 : decode cX2_canStand 0 = .ok (.iload_n 1, 1) := by decide +kernel
theorem dX2_canStand_1 : decode cX2_canStand 1 = .ok (.bipush 40, 2) := by decide +kernel
theorem dX2_canStand_3 : decode cX2_canStand 3 = .ok (.if_icmp .eq 17, 3) := by decide +kernel
theorem dX2_canStand_6 : decode cX2_canStand 6 = .ok (.iload_n 1, 1) := by decide +kernel
theorem dX2_canStand_7 : decode cX2_canStand 7 = .ok (.bipush 41, 2) := by decide +kernel
theorem dX2_canStand_9 : decode cX2_canStand 9 = .ok (.if_icmp .eq 11, 3) := by decide +kernel
theorem dX2_canStand_12 : decode cX2_canStand 12 = .ok (.aload_n 0, 1) := by decide +kernel
theorem dX2_canStand_13 : decode cX2_canStand 13 = .ok (.iload_n 1, 1) := by decide +kernel
theorem dX2_canStand_14 : decode cX2_canStand 14 = .ok (.invokevirtual 45, 3) := by decide +kernel
theorem dX2_canStand_17 : decode cX2_canStand 17 = .ok (.ifCond .eq 7, 3) := by decide +kernel
theorem dX2_canStand_20 : decode cX2_canStand 20 = .ok (.iconst 1, 1) := by decide +kernel
theorem dX2_canStand_21 : decode cX2_canStand 21 = .ok (.goto 4, 3) := by decide +kernel
theorem dX2_canStand_24 : decode cX2_canStand 24 = .ok (.iconst 0, 1) := by decide +kernel
theorem dX2_canStand_25 : decode cX2_canStand 25 = .ok (.ireturn, 1) := by decide +kernel
theorem dX2_heightOf_0 : decode cX2_heightOf 0 = .ok (.iload_n 1, 1) := by decide +kernel
theorem dX2_heightOf_1 : decode cX2_heightOf 1 = .ok (.bipush 41, 2) := by decide +kernel
theorem dX2_heightOf_3 : decode cX2_heightOf 3 = .ok (.if_icmp .ne 6, 3) := by decide +kernel
theorem dX2_heightOf_6 : decode cX2_heightOf 6 = .ok (.bipush 21, 2) := by decide +kernel
theorem dX2_heightOf_8 : decode cX2_heightOf 8 = .ok (.ireturn, 1) := by decide +kernel
theorem dX2_heightOf_9 : decode cX2_heightOf 9 = .ok (.iload_n 1, 1) := by decide +kernel
theorem dX2_heightOf_10 : decode cX2_heightOf 10 = .ok (.ifCond .lt 18, 3) := by decide +kernel
theorem dX2_heightOf_13 : decode cX2_heightOf 13 = .ok (.iload_n 1, 1) := by decide +kernel
theorem dX2_heightOf_14 : decode cX2_heightOf 14 = .ok (.bipush 40, 2) := by decide +kernel
theorem dX2_heightOf_16 : decode cX2_heightOf 16 = .ok (.if_icmp .ge 12, 3) := by decide +kernel
theorem dX2_heightOf_19 : decode cX2_heightOf 19 = .ok (.aload_n 0, 1) := by decide +kernel
theorem dX2_heightOf_20 : decode cX2_heightOf 20 = .ok (.getfield 15, 3) := by decide +kernel
theorem dX2_heightOf_23 : decode cX2_heightOf 23 = .ok (.iload_n 1, 1) := by decide +kernel
theorem dX2_heightOf_24 : decode cX2_heightOf 24 = .ok (.iaload, 1) := by decide +kernel
theorem dX2_heightOf_25 : decode cX2_heightOf 25 = .ok (.goto 4, 3) := by decide +kernel
theorem dX2_heightOf_28 : decode cX2_heightOf 28 = .ok (.iconst 0, 1) := by decide +kernel
theorem dX2_heightOf_29 : decode cX2_heightOf 29 = .ok (.ireturn, 1) := by decide +kernel
theorem dX2_isStepFrom_0 : decode cX2_isStepFrom 0 = .ok (.iload_n 1, 1) := by decide +kernel
theorem dX2_isStepFrom_1 : decode cX2_isStepFrom 1 = .ok (.ifCond .lt 20, 3) := by decide +kernel
theorem dX2_isStepFrom_4 : decode cX2_isStepFrom 4 = .ok (.iload_n 1, 1) := by decide +kernel
theorem dX2_isStepFrom_5 : decode cX2_isStepFrom 5 = .ok (.bipush 40, 2) := by decide +kernel
theorem dX2_isStepFrom_7 : decode cX2_isStepFrom 7 = .ok (.if_icmp .ge 14, 3) := by decide +kernel
theorem dX2_isStepFrom_10 : decode cX2_isStepFrom 10 = .ok (.aload_n 0, 1) := by decide +kernel
theorem dX2_isStepFrom_11 : decode cX2_isStepFrom 11 = .ok (.getfield 9, 3) := by decide +kernel
theorem dX2_isStepFrom_14 : decode cX2_isStepFrom 14 = .ok (.iload_n 1, 1) := by decide +kernel
theorem dX2_isStepFrom_15 : decode cX2_isStepFrom 15 = .ok (.iaload, 1) := by decide +kernel
theorem dX2_isStepFrom_16 : decode cX2_isStepFrom 16 = .ok (.iload_n 2, 1) := by decide +kernel
theorem dX2_isStepFrom_17 : decode cX2_isStepFrom 17 = .ok (.isub, 1) := by decide +kernel
theorem dX2_isStepFrom_18 : decode cX2_isStepFrom 18 = .ok (.goto 4, 3) := by decide +kernel
theorem dX2_isStepFrom_21 : decode cX2_isStepFrom 21 = .ok (.iconst 0, 1) := by decide +kernel
theorem dX2_isStepFrom_22 : decode cX2_isStepFrom 22 = .ok (.istore 5, 2) := by decide +kernel
theorem dX2_isStepFrom_24 : decode cX2_isStepFrom 24 = .ok (.aload_n 0, 1) := by decide +kernel
theorem dX2_isStepFrom_25 : decode cX2_isStepFrom 25 = .ok (.iload_n 1, 1) := by decide +kernel
theorem dX2_isStepFrom_26 : decode cX2_isStepFrom 26 = .ok (.invokevirtual 63, 3) := by decide +kernel
theorem dX2_isStepFrom_29 : decode cX2_isStepFrom 29 = .ok (.iload_n 3, 1) := by decide +kernel
theorem dX2_isStepFrom_30 : decode cX2_isStepFrom 30 = .ok (.isub, 1) := by decide +kernel
theorem dX2_isStepFrom_31 : decode cX2_isStepFrom 31 = .ok (.istore 6, 2) := by decide +kernel
theorem dX2_isStepFrom_33 : decode cX2_isStepFrom 33 = .ok (.iload 5, 2) := by decide +kernel
theorem dX2_isStepFrom_35 : decode cX2_isStepFrom 35 = .ok (.iload 5, 2) := by decide +kernel
theorem dX2_isStepFrom_37 : decode cX2_isStepFrom 37 = .ok (.imul, 1) := by decide +kernel
theorem dX2_isStepFrom_38 : decode cX2_isStepFrom 38 = .ok (.iload 6, 2) := by decide +kernel
theorem dX2_isStepFrom_40 : decode cX2_isStepFrom 40 = .ok (.iload 6, 2) := by decide +kernel
theorem dX2_isStepFrom_42 : decode cX2_isStepFrom 42 = .ok (.imul, 1) := by decide +kernel
theorem dX2_isStepFrom_43 : decode cX2_isStepFrom 43 = .ok (.iadd, 1) := by decide +kernel
theorem dX2_isStepFrom_44 : decode cX2_isStepFrom 44 = .ok (.iload 4, 2) := by decide +kernel
theorem dX2_isStepFrom_46 : decode cX2_isStepFrom 46 = .ok (.iload 4, 2) := by decide +kernel
theorem dX2_isStepFrom_48 : decode cX2_isStepFrom 48 = .ok (.imul, 1) := by decide +kernel
theorem dX2_isStepFrom_49 : decode cX2_isStepFrom 49 = .ok (.if_icmp .gt 7, 3) := by decide +kernel
theorem dX2_isStepFrom_52 : decode cX2_isStepFrom 52 = .ok (.iconst 1, 1) := by decide +kernel
theorem dX2_isStepFrom_53 : decode cX2_isStepFrom 53 = .ok (.goto 4, 3) := by decide +kernel
theorem dX2_isStepFrom_56 : decode cX2_isStepFrom 56 = .ok (.iconst 0, 1) := by decide +kernel
theorem dX2_isStepFrom_57 : decode cX2_isStepFrom 57 = .ok (.ireturn, 1) := by decide +kernel
theorem dX2_isStep_0 : decode cX2_isStep 0 = .ok (.iload_n 1, 1) := by decide +kernel
theorem dX2_isStep_1 : decode cX2_isStep 1 = .ok (.iload_n 2, 1) := by decide +kernel
theorem dX2_isStep_2 : decode cX2_isStep 2 = .ok (.if_icmp .eq 11, 3) := by decide +kernel
theorem dX2_isStep_5 : decode cX2_isStep 5 = .ok (.aload_n 0, 1) := by decide +kernel
theorem dX2_isStep_6 : decode cX2_isStep 6 = .ok (.iload_n 1, 1) := by decide +kernel
theorem dX2_isStep_7 : decode cX2_isStep 7 = .ok (.invokevirtual 56, 3) := by decide +kernel
theorem dX2_isStep_10 : decode cX2_isStep 10 = .ok (.ifCond .ne 5, 3) := by decide +kernel
theorem dX2_isStep_13 : decode cX2_isStep 13 = .ok (.iconst 0, 1) := by decide +kernel
theorem dX2_isStep_14 : decode cX2_isStep 14 = .ok (.ireturn, 1) := by decide +kernel
theorem dX2_isStep_15 : decode cX2_isStep 15 = .ok (.iload_n 2, 1) := by decide +kernel
theorem dX2_isStep_16 : decode cX2_isStep 16 = .ok (.ifCond .lt 44, 3) := by decide +kernel
theorem dX2_isStep_19 : decode cX2_isStep 19 = .ok (.iload_n 2, 1) := by decide +kernel
theorem dX2_isStep_20 : decode cX2_isStep 20 = .ok (.bipush 40, 2) := by decide +kernel
theorem dX2_isStep_22 : decode cX2_isStep 22 = .ok (.if_icmp .ge 38, 3) := by decide +kernel
theorem dX2_isStep_25 : decode cX2_isStep 25 = .ok (.aload_n 0, 1) := by decide +kernel
theorem dX2_isStep_26 : decode cX2_isStep 26 = .ok (.iload_n 2, 1) := by decide +kernel
theorem dX2_isStep_27 : decode cX2_isStep 27 = .ok (.invokevirtual 45, 3) := by decide +kernel
theorem dX2_isStep_30 : decode cX2_isStep 30 = .ok (.ifCond .eq 28, 3) := by decide +kernel
theorem dX2_isStep_33 : decode cX2_isStep 33 = .ok (.aload_n 0, 1) := by decide +kernel
theorem dX2_isStep_34 : decode cX2_isStep 34 = .ok (.iload_n 1, 1) := by decide +kernel
theorem dX2_isStep_35 : decode cX2_isStep 35 = .ok (.aload_n 0, 1) := by decide +kernel
theorem dX2_isStep_36 : decode cX2_isStep 36 = .ok (.getfield 9, 3) := by decide +kernel
theorem dX2_isStep_39 : decode cX2_isStep 39 = .ok (.iload_n 2, 1) := by decide +kernel
theorem dX2_isStep_40 : decode cX2_isStep 40 = .ok (.iaload, 1) := by decide +kernel
theorem dX2_isStep_41 : decode cX2_isStep 41 = .ok (.aload_n 0, 1) := by decide +kernel
theorem dX2_isStep_42 : decode cX2_isStep 42 = .ok (.getfield 15, 3) := by decide +kernel
theorem dX2_isStep_45 : decode cX2_isStep 45 = .ok (.iload_n 2, 1) := by decide +kernel
theorem dX2_isStep_46 : decode cX2_isStep 46 = .ok (.iaload, 1) := by decide +kernel
theorem dX2_isStep_47 : decode cX2_isStep 47 = .ok (.iload_n 3, 1) := by decide +kernel
theorem dX2_isStep_48 : decode cX2_isStep 48 = .ok (.invokevirtual 59, 3) := by decide +kernel
theorem dX2_isStep_51 : decode cX2_isStep 51 = .ok (.ifCond .eq 7, 3) := by decide +kernel
theorem dX2_isStep_54 : decode cX2_isStep 54 = .ok (.iconst 1, 1) := by decide +kernel
theorem dX2_isStep_55 : decode cX2_isStep 55 = .ok (.goto 4, 3) := by decide +kernel
theorem dX2_isStep_58 : decode cX2_isStep 58 = .ok (.iconst 0, 1) := by decide +kernel
theorem dX2_isStep_59 : decode cX2_isStep 59 = .ok (.ireturn, 1) := by decide +kernel
theorem dX2_isStep_60 : decode cX2_isStep 60 = .ok (.iload_n 2, 1) := by decide +kernel
theorem dX2_isStep_61 : decode cX2_isStep 61 = .ok (.bipush 40, 2) := by decide +kernel
theorem dX2_isStep_63 : decode cX2_isStep 63 = .ok (.if_icmp .eq 9, 3) := by decide +kernel
theorem dX2_isStep_66 : decode cX2_isStep 66 = .ok (.iload_n 2, 1) := by decide +kernel
theorem dX2_isStep_67 : decode cX2_isStep 67 = .ok (.bipush 41, 2) := by decide +kernel
theorem dX2_isStep_69 : decode cX2_isStep 69 = .ok (.if_icmp .ne 25, 3) := by decide +kernel
theorem dX2_isStep_72 : decode cX2_isStep 72 = .ok (.aload_n 0, 1) := by decide +kernel
theorem dX2_isStep_73 : decode cX2_isStep 73 = .ok (.iload_n 1, 1) := by decide +kernel
theorem dX2_isStep_74 : decode cX2_isStep 74 = .ok (.invokevirtual 63, 3) := by decide +kernel
theorem dX2_isStep_77 : decode cX2_isStep 77 = .ok (.aload_n 0, 1) := by decide +kernel
theorem dX2_isStep_78 : decode cX2_isStep 78 = .ok (.iload_n 2, 1) := by decide +kernel
theorem dX2_isStep_79 : decode cX2_isStep 79 = .ok (.invokevirtual 63, 3) := by decide +kernel
theorem dX2_isStep_82 : decode cX2_isStep 82 = .ok (.isub, 1) := by decide +kernel
theorem dX2_isStep_83 : decode cX2_isStep 83 = .ok (.invokestatic 67, 3) := by decide +kernel
theorem dX2_isStep_86 : decode cX2_isStep 86 = .ok (.iload_n 3, 1) := by decide +kernel
theorem dX2_isStep_87 : decode cX2_isStep 87 = .ok (.if_icmp .gt 7, 3) := by decide +kernel
theorem dX2_isStep_90 : decode cX2_isStep 90 = .ok (.iconst 1, 1) := by decide +kernel
theorem dX2_isStep_91 : decode cX2_isStep 91 = .ok (.goto 4, 3) := by decide +kernel
theorem dX2_isStep_94 : decode cX2_isStep 94 = .ok (.iconst 0, 1) := by decide +kernel
theorem dX2_isStep_95 : decode cX2_isStep 95 = .ok (.ireturn, 1) := by decide +kernel
theorem dX7_byteAt_0 : decode cX7_byteAt 0 = .ok (.iload_n 1, 1) := by decide +kernel
theorem dX7_byteAt_1 : decode cX7_byteAt 1 = .ok (.ifCond .lt 27, 3) := by decide +kernel
theorem dX7_byteAt_4 : decode cX7_byteAt 4 = .ok (.iload_n 1, 1) := by decide +kernel
theorem dX7_byteAt_5 : decode cX7_byteAt 5 = .ok (.aload_n 0, 1) := by decide +kernel
theorem dX7_byteAt_6 : decode cX7_byteAt 6 = .ok (.getfield 19, 3) := by decide +kernel
theorem dX7_byteAt_9 : decode cX7_byteAt 9 = .ok (.if_icmp .ge 19, 3) := by decide +kernel
theorem dX7_byteAt_12 : decode cX7_byteAt 12 = .ok (.iload_n 1, 1) := by decide +kernel
theorem dX7_byteAt_13 : decode cX7_byteAt 13 = .ok (.sipush 260, 3) := by decide +kernel
theorem dX7_byteAt_16 : decode cX7_byteAt 16 = .ok (.if_icmp .ge 12, 3) := by decide +kernel
theorem dX7_byteAt_19 : decode cX7_byteAt 19 = .ok (.aload_n 0, 1) := by decide +kernel
theorem dX7_byteAt_20 : decode cX7_byteAt 20 = .ok (.getfield 9, 3) := by decide +kernel
theorem dX7_byteAt_23 : decode cX7_byteAt 23 = .ok (.iload_n 1, 1) := by decide +kernel
theorem dX7_byteAt_24 : decode cX7_byteAt 24 = .ok (.iaload, 1) := by decide +kernel
theorem dX7_byteAt_25 : decode cX7_byteAt 25 = .ok (.goto 4, 3) := by decide +kernel
theorem dX7_byteAt_28 : decode cX7_byteAt 28 = .ok (.iconst (-1), 1) := by decide +kernel
theorem dX7_byteAt_29 : decode cX7_byteAt 29 = .ok (.ireturn, 1) := by decide +kernel
theorem dX7_here_0 : decode cX7_here 0 = .ok (.aload_n 0, 1) := by decide +kernel
theorem dX7_here_1 : decode cX7_here 1 = .ok (.getfield 22, 3) := by decide +kernel
theorem dX7_here_4 : decode cX7_here 4 = .ok (.ifCond .lt 36, 3) := by decide +kernel
theorem dX7_here_7 : decode cX7_here 7 = .ok (.aload_n 0, 1) := by decide +kernel
theorem dX7_here_8 : decode cX7_here 8 = .ok (.getfield 22, 3) := by decide +kernel
theorem dX7_here_11 : decode cX7_here 11 = .ok (.aload_n 0, 1) := by decide +kernel
theorem dX7_here_12 : decode cX7_here 12 = .ok (.getfield 19, 3) := by decide +kernel
theorem dX7_here_15 : decode cX7_here 15 = .ok (.if_icmp .ge 25, 3) := by decide +kernel
theorem dX7_here_18 : decode cX7_here 18 = .ok (.aload_n 0, 1) := by decide +kernel
theorem dX7_here_19 : decode cX7_here 19 = .ok (.getfield 22, 3) := by decide +kernel
theorem dX7_here_22 : decode cX7_here 22 = .ok (.sipush 260, 3) := by decide +kernel
theorem dX7_here_25 : decode cX7_here 25 = .ok (.if_icmp .ge 15, 3) := by decide +kernel
theorem dX7_here_28 : decode cX7_here 28 = .ok (.aload_n 0, 1) := by decide +kernel
theorem dX7_here_29 : decode cX7_here 29 = .ok (.getfield 9, 3) := by decide +kernel
theorem dX7_here_32 : decode cX7_here 32 = .ok (.aload_n 0, 1) := by decide +kernel
theorem dX7_here_33 : decode cX7_here 33 = .ok (.getfield 22, 3) := by decide +kernel
theorem dX7_here_36 : decode cX7_here 36 = .ok (.iaload, 1) := by decide +kernel
theorem dX7_here_37 : decode cX7_here 37 = .ok (.goto 4, 3) := by decide +kernel
theorem dX7_here_40 : decode cX7_here 40 = .ok (.iconst (-1), 1) := by decide +kernel
theorem dX7_here_41 : decode cX7_here 41 = .ok (.ireturn, 1) := by decide +kernel
theorem dX7_holds_0 : decode cX7_holds 0 = .ok (.iload_n 1, 1) := by decide +kernel
theorem dX7_holds_1 : decode cX7_holds 1 = .ok (.iload_n 2, 1) := by decide +kernel
theorem dX7_holds_2 : decode cX7_holds 2 = .ok (.if_icmp .lt 20, 3) := by decide +kernel
theorem dX7_holds_5 : decode cX7_holds 5 = .ok (.iload_n 1, 1) := by decide +kernel
theorem dX7_holds_6 : decode cX7_holds 6 = .ok (.iload_n 3, 1) := by decide +kernel
theorem dX7_holds_7 : decode cX7_holds 7 = .ok (.if_icmp .gt 15, 3) := by decide +kernel
theorem dX7_holds_10 : decode cX7_holds 10 = .ok (.iload_n 1, 1) := by decide +kernel
theorem dX7_holds_11 : decode cX7_holds 11 = .ok (.aload_n 0, 1) := by decide +kernel
theorem dX7_holds_12 : decode cX7_holds 12 = .ok (.getfield 15, 3) := by decide +kernel
theorem dX7_holds_15 : decode cX7_holds 15 = .ok (.if_icmp .gt 7, 3) := by decide +kernel
theorem dX7_holds_18 : decode cX7_holds 18 = .ok (.iconst 1, 1) := by decide +kernel
theorem dX7_holds_19 : decode cX7_holds 19 = .ok (.goto 4, 3) := by decide +kernel
theorem dX7_holds_22 : decode cX7_holds 22 = .ok (.iconst 0, 1) := by decide +kernel
theorem dX7_holds_23 : decode cX7_holds 23 = .ok (.ireturn, 1) := by decide +kernel
theorem dX7_open_0 : decode cX7_open 0 = .ok (.aload_n 0, 1) := by decide +kernel
theorem dX7_open_1 : decode cX7_open 1 = .ok (.iload_n 1, 1) := by decide +kernel
theorem dX7_open_2 : decode cX7_open 2 = .ok (.putfield 19, 3) := by decide +kernel
theorem dX7_open_5 : decode cX7_open 5 = .ok (.aload_n 0, 1) := by decide +kernel
theorem dX7_open_6 : decode cX7_open 6 = .ok (.iconst 0, 1) := by decide +kernel
theorem dX7_open_7 : decode cX7_open 7 = .ok (.putfield 22, 3) := by decide +kernel
theorem dX7_open_10 : decode cX7_open 10 = .ok (.aload_n 0, 1) := by decide +kernel
theorem dX7_open_11 : decode cX7_open 11 = .ok (.iconst 0, 1) := by decide +kernel
theorem dX7_open_12 : decode cX7_open 12 = .ok (.putfield 25, 3) := by decide +kernel
theorem dX7_open_15 : decode cX7_open 15 = .ok (.aload_n 0, 1) := by decide +kernel
theorem dX7_open_16 : decode cX7_open 16 = .ok (.iconst 0, 1) := by decide +kernel
theorem dX7_open_17 : decode cX7_open 17 = .ok (.putfield 15, 3) := by decide +kernel
theorem dX7_open_20 : decode cX7_open 20 = .ok (.return_, 1) := by decide +kernel
theorem dX7_refuse_0 : decode cX7_refuse 0 = .ok (.aload_n 0, 1) := by decide +kernel
theorem dX7_refuse_1 : decode cX7_refuse 1 = .ok (.sipush (-1000), 3) := by decide +kernel
theorem dX7_refuse_4 : decode cX7_refuse 4 = .ok (.iload_n 1, 1) := by decide +kernel
theorem dX7_refuse_5 : decode cX7_refuse 5 = .ok (.imul, 1) := by decide +kernel
theorem dX7_refuse_6 : decode cX7_refuse 6 = .ok (.iload_n 2, 1) := by decide +kernel
theorem dX7_refuse_7 : decode cX7_refuse 7 = .ok (.isub, 1) := by decide +kernel
theorem dX7_refuse_8 : decode cX7_refuse 8 = .ok (.putfield 25, 3) := by decide +kernel
theorem dX7_refuse_11 : decode cX7_refuse 11 = .ok (.iconst 0, 1) := by decide +kernel
theorem dX7_refuse_12 : decode cX7_refuse 12 = .ok (.ireturn, 1) := by decide +kernel
theorem dX7_skip_0 : decode cX7_skip 0 = .ok (.aload_n 0, 1) := by decide +kernel
theorem dX7_skip_1 : decode cX7_skip 1 = .ok (.invokevirtual 28, 3) := by decide +kernel
theorem dX7_skip_4 : decode cX7_skip 4 = .ok (.iload_n 1, 1) := by decide +kernel
theorem dX7_skip_5 : decode cX7_skip 5 = .ok (.if_icmp .eq 13, 3) := by decide +kernel
theorem dX7_skip_8 : decode cX7_skip 8 = .ok (.aload_n 0, 1) := by decide +kernel
theorem dX7_skip_9 : decode cX7_skip 9 = .ok (.iconst 1, 1) := by decide +kernel
theorem dX7_skip_10 : decode cX7_skip 10 = .ok (.aload_n 0, 1) := by decide +kernel
theorem dX7_skip_11 : decode cX7_skip 11 = .ok (.getfield 22, 3) := by decide +kernel
theorem dX7_skip_14 : decode cX7_skip 14 = .ok (.invokevirtual 32, 3) := by decide +kernel
theorem dX7_skip_17 : decode cX7_skip 17 = .ok (.ireturn, 1) := by decide +kernel
theorem dX7_skip_18 : decode cX7_skip 18 = .ok (.aload_n 0, 1) := by decide +kernel
theorem dX7_skip_19 : decode cX7_skip 19 = .ok (.dup, 1) := by decide +kernel
theorem dX7_skip_20 : decode cX7_skip 20 = .ok (.getfield 22, 3) := by decide +kernel
theorem dX7_skip_23 : decode cX7_skip 23 = .ok (.iconst 1, 1) := by decide +kernel
theorem dX7_skip_24 : decode cX7_skip 24 = .ok (.iadd, 1) := by decide +kernel
theorem dX7_skip_25 : decode cX7_skip 25 = .ok (.putfield 22, 3) := by decide +kernel
theorem dX7_skip_28 : decode cX7_skip 28 = .ok (.iconst 1, 1) := by decide +kernel
theorem dX7_skip_29 : decode cX7_skip 29 = .ok (.ireturn, 1) := by decide +kernel
set_option maxHeartbeats 4000000 in
theorem s_X9_isStone (v0 : Int32) (M : Mem) : AM yX9_isStone cX9_isStone 1 (some .boolean) 0 60 glC (fun ad => [.int v0]) M (PI (fun r M' => (r = 0 ∨ r = 1) ∧ M = M')) := by
  refine AM.of (by decide) (fun _ => Nat.le_of_ble_eq_true rfl) (fun X ad cI cZ cB hX hR => ?_)
  show V X M [(0, .int v0)] [] 0
  refine s_iload_n (k := 0) hX dX9_isStone_0 rfl rfl ?_
  refine s_if_lt (tgt := 14) hX dX9_isStone_1 (by decide) (fun c1 => ?_) (fun c1 => ?_)
  · replace c1 := z_lt.mp c1
    refine s_iconst (v := (nI 0)) hX dX9_isStone_14 (by decide) ?_
    exact s_zret hX hR dX9_isStone_15 (by decide) ⟨(by decide), rfl⟩
  · replace c1 := mt z_lt.mpr c1
    refine s_iload_n (k := 0) hX dX9_isStone_4 rfl rfl ?_
    refine s_bipush (v := (nI 40)) hX dX9_isStone_5 (by decide) ?_
    refine s_icmp_ge (tgt := 14) hX dX9_isStone_7 (by decide) (fun c7 => ?_) (fun c7 => ?_)
    · replace c7 := (q_ge (by omega)).mp c7
      refine s_iconst (v := (nI 0)) hX dX9_isStone_14 (by decide) ?_
      exact s_zret hX hR dX9_isStone_15 (by decide) ⟨(by decide), rfl⟩
    · replace c7 := mt (q_ge (by omega)).mpr c7
      refine s_iconst (v := (nI 1)) hX dX9_isStone_10 (by decide) ?_
      refine s_goto (tgt := 15) hX dX9_isStone_11 (by decide) ?_
      exact s_zret hX hR dX9_isStone_15 (by decide) ⟨(by decide), rfl⟩
set_option maxHeartbeats 4000000 in
theorem s_X9_isPlace (v0 : Int32) (v1 : Int32) (M : Mem) : AM yX9_isPlace cX9_isPlace 2 (some .boolean) 0 60 glC (fun ad => [.int v0, .int v1]) M (PI (fun r M' => (r = 0 ∨ r = 1) ∧ M = M')) := by
  refine AM.of (by decide) (fun _ => Nat.le_of_ble_eq_true rfl) (fun X ad cI cZ cB hX hR => ?_)
  show V X M [(0, .int v0), (1, .int v1)] [] 0
  refine s_iload_n (k := 0) hX dX9_isPlace_0 rfl rfl ?_
  refine s_if_lt (tgt := 25) hX dX9_isPlace_1 (by decide) (fun c1 => ?_) (fun c1 => ?_)
  · replace c1 := z_lt.mp c1
    refine s_iconst (v := (nI 0)) hX dX9_isPlace_25 (by decide) ?_
    exact s_zret hX hR dX9_isPlace_26 (by decide) ⟨(by decide), rfl⟩
  · replace c1 := mt z_lt.mpr c1
    refine s_iload_n (k := 0) hX dX9_isPlace_4 rfl rfl ?_
    refine s_bipush (v := (nI 39)) hX dX9_isPlace_5 (by decide) ?_
    refine s_icmp_gt (tgt := 25) hX dX9_isPlace_7 (by decide) (fun c7 => ?_) (fun c7 => ?_)
    · replace c7 := (q_gt (by omega)).mp c7
      refine s_iconst (v := (nI 0)) hX dX9_isPlace_25 (by decide) ?_
      exact s_zret hX hR dX9_isPlace_26 (by decide) ⟨(by decide), rfl⟩
    · replace c7 := mt (q_gt (by omega)).mpr c7
      refine s_iload_n (k := 1) hX dX9_isPlace_10 rfl rfl ?_
      refine s_iconst (v := (nI 1)) hX dX9_isPlace_11 (by decide) ?_
      refine s_icmp_lt (tgt := 25) hX dX9_isPlace_12 (by decide) (fun c12 => ?_) (fun c12 => ?_)
      · replace c12 := (q_lt (by omega)).mp c12
        refine s_iconst (v := (nI 0)) hX dX9_isPlace_25 (by decide) ?_
        exact s_zret hX hR dX9_isPlace_26 (by decide) ⟨(by decide), rfl⟩
      · replace c12 := mt (q_lt (by omega)).mpr c12
        refine s_iload_n (k := 1) hX dX9_isPlace_15 rfl rfl ?_
        refine s_bipush (v := (nI 20)) hX dX9_isPlace_16 (by decide) ?_
        refine s_icmp_gt (tgt := 25) hX dX9_isPlace_18 (by decide) (fun c18 => ?_) (fun c18 => ?_)
        · replace c18 := (q_gt (by omega)).mp c18
          refine s_iconst (v := (nI 0)) hX dX9_isPlace_25 (by decide) ?_
          exact s_zret hX hR dX9_isPlace_26 (by decide) ⟨(by decide), rfl⟩
        · replace c18 := mt (q_gt (by omega)).mpr c18
          refine s_iconst (v := (nI 1)) hX dX9_isPlace_21 (by decide) ?_
          refine s_goto (tgt := 26) hX dX9_isPlace_22 (by decide) ?_
          exact s_zret hX hR dX9_isPlace_26 (by decide) ⟨(by decide), rfl⟩
set_option maxHeartbeats 4000000 in
theorem s_X9_isStride (v0 : Int32) (M : Mem) : AM yX9_isStride cX9_isStride 1 (some .boolean) 0 60 glC (fun ad => [.int v0]) M (PI (fun r M' => (r = 0 ∨ r = 1) ∧ M = M')) := by
  refine AM.of (by decide) (fun _ => Nat.le_of_ble_eq_true rfl) (fun X ad cI cZ cB hX hR => ?_)
  show V X M [(0, .int v0)] [] 0
  refine s_iload_n (k := 0) hX dX9_isStride_0 rfl rfl ?_
  refine s_iconst (v := (nI 1)) hX dX9_isStride_1 (by decide) ?_
  refine s_icmp_lt (tgt := 15) hX dX9_isStride_2 (by decide) (fun c2 => ?_) (fun c2 => ?_)
  · replace c2 := (q_lt (by omega)).mp c2
    refine s_iconst (v := (nI 0)) hX dX9_isStride_15 (by decide) ?_
    exact s_zret hX hR dX9_isStride_16 (by decide) ⟨(by decide), rfl⟩
  · replace c2 := mt (q_lt (by omega)).mpr c2
    refine s_iload_n (k := 0) hX dX9_isStride_5 rfl rfl ?_
    refine s_bipush (v := (nI 30)) hX dX9_isStride_6 (by decide) ?_
    refine s_icmp_gt (tgt := 15) hX dX9_isStride_8 (by decide) (fun c8 => ?_) (fun c8 => ?_)
    · replace c8 := (q_gt (by omega)).mp c8
      refine s_iconst (v := (nI 0)) hX dX9_isStride_15 (by decide) ?_
      exact s_zret hX hR dX9_isStride_16 (by decide) ⟨(by decide), rfl⟩
    · replace c8 := mt (q_gt (by omega)).mpr c8
      refine s_iconst (v := (nI 1)) hX dX9_isStride_11 (by decide) ?_
      refine s_goto (tgt := 16) hX dX9_isStride_12 (by decide) ?_
      exact s_zret hX hR dX9_isStride_16 (by decide) ⟨(by decide), rfl⟩
set_option maxHeartbeats 4000000 in
theorem s_X9_isNights (v0 : Int32) (M : Mem) : AM yX9_isNights cX9_isNights 1 (some .boolean) 0 60 glC (fun ad => [.int v0]) M (PI (fun r M' => (r = 0 ∨ r = 1) ∧ M = M')) := by
  refine AM.of (by decide) (fun _ => Nat.le_of_ble_eq_true rfl) (fun X ad cI cZ cB hX hR => ?_)
  show V X M [(0, .int v0)] [] 0
  refine s_iload_n (k := 0) hX dX9_isNights_0 rfl rfl ?_
  refine s_iconst (v := (nI 1)) hX dX9_isNights_1 (by decide) ?_
  refine s_icmp_lt (tgt := 15) hX dX9_isNights_2 (by decide) (fun c2 => ?_) (fun c2 => ?_)
  · replace c2 := (q_lt (by omega)).mp c2
    refine s_iconst (v := (nI 0)) hX dX9_isNights_15 (by decide) ?_
    exact s_zret hX hR dX9_isNights_16 (by decide) ⟨(by decide), rfl⟩
  · replace c2 := mt (q_lt (by omega)).mpr c2
    refine s_iload_n (k := 0) hX dX9_isNights_5 rfl rfl ?_
    refine s_bipush (v := (nI 60)) hX dX9_isNights_6 (by decide) ?_
    refine s_icmp_gt (tgt := 15) hX dX9_isNights_8 (by decide) (fun c8 => ?_) (fun c8 => ?_)
    · replace c8 := (q_gt (by omega)).mp c8
      refine s_iconst (v := (nI 0)) hX dX9_isNights_15 (by decide) ?_
      exact s_zret hX hR dX9_isNights_16 (by decide) ⟨(by decide), rfl⟩
    · replace c8 := mt (q_gt (by omega)).mpr c8
      refine s_iconst (v := (nI 1)) hX dX9_isNights_11 (by decide) ?_
      refine s_goto (tgt := 16) hX dX9_isNights_12 (by decide) ?_
      exact s_zret hX hR dX9_isNights_16 (by decide) ⟨(by decide), rfl⟩
set_option maxHeartbeats 4000000 in
theorem s_X9_isEither (v0 : Int32) (M : Mem) : AM yX9_isEither cX9_isEither 1 (some .boolean) 0 60 glC (fun ad => [.int v0]) M (PI (fun r M' => (r = 0 ∨ r = 1) ∧ M = M')) := by
  refine AM.of (by decide) (fun _ => Nat.le_of_ble_eq_true rfl) (fun X ad cI cZ cB hX hR => ?_)
  show V X M [(0, .int v0)] [] 0
  refine s_iload_n (k := 0) hX dX9_isEither_0 rfl rfl ?_
  refine s_if_eq (tgt := 9) hX dX9_isEither_1 (by decide) (fun c1 => ?_) (fun c1 => ?_)
  · replace c1 := z_eq.mp c1
    refine s_iconst (v := (nI 1)) hX dX9_isEither_9 (by decide) ?_
    refine s_goto (tgt := 14) hX dX9_isEither_10 (by decide) ?_
    exact s_zret hX hR dX9_isEither_14 (by decide) ⟨(by decide), rfl⟩
  · replace c1 := mt z_eq.mpr c1
    refine s_iload_n (k := 0) hX dX9_isEither_4 rfl rfl ?_
    refine s_iconst (v := (nI 1)) hX dX9_isEither_5 (by decide) ?_
    refine s_icmp_ne (tgt := 13) hX dX9_isEither_6 (by decide) (fun c6 => ?_) (fun c6 => ?_)
    · replace c6 := mt (q_eq (by omega)).mpr c6
      refine s_iconst (v := (nI 0)) hX dX9_isEither_13 (by decide) ?_
      exact s_zret hX hR dX9_isEither_14 (by decide) ⟨(by decide), rfl⟩
    · replace c6 := (q_eq (by omega)).mp c6
      refine s_iconst (v := (nI 1)) hX dX9_isEither_9 (by decide) ?_
      refine s_goto (tgt := 14) hX dX9_isEither_10 (by decide) ?_
      exact s_zret hX hR dX9_isEither_14 (by decide) ⟨(by decide), rfl⟩
set_option maxHeartbeats 4000000 in
theorem s_X7_isDigit (v0 : Int32) (M : Mem) : AM yX7_isDigit cX7_isDigit 1 (some .boolean) 0 60 glC (fun ad => [.int v0]) M (PI (fun r M' => (r = 0 ∨ r = 1) ∧ M = M')) := by
  refine AM.of (by decide) (fun _ => Nat.le_of_ble_eq_true rfl) (fun X ad cI cZ cB hX hR => ?_)
  show V X M [(0, .int v0)] [] 0
  refine s_iload_n (k := 0) hX dX7_isDigit_0 rfl rfl ?_
  refine s_bipush (v := (nI 48)) hX dX7_isDigit_1 (by decide) ?_
  refine s_icmp_lt (tgt := 16) hX dX7_isDigit_3 (by decide) (fun c3 => ?_) (fun c3 => ?_)
  · replace c3 := (q_lt (by omega)).mp c3
    refine s_iconst (v := (nI 0)) hX dX7_isDigit_16 (by decide) ?_
    exact s_zret hX hR dX7_isDigit_17 (by decide) ⟨(by decide), rfl⟩
  · replace c3 := mt (q_lt (by omega)).mpr c3
    refine s_iload_n (k := 0) hX dX7_isDigit_6 rfl rfl ?_
    refine s_bipush (v := (nI 57)) hX dX7_isDigit_7 (by decide) ?_
    refine s_icmp_gt (tgt := 16) hX dX7_isDigit_9 (by decide) (fun c9 => ?_) (fun c9 => ?_)
    · replace c9 := (q_gt (by omega)).mp c9
      refine s_iconst (v := (nI 0)) hX dX7_isDigit_16 (by decide) ?_
      exact s_zret hX hR dX7_isDigit_17 (by decide) ⟨(by decide), rfl⟩
    · replace c9 := mt (q_gt (by omega)).mpr c9
      refine s_iconst (v := (nI 1)) hX dX7_isDigit_12 (by decide) ?_
      refine s_goto (tgt := 17) hX dX7_isDigit_13 (by decide) ?_
      exact s_zret hX hR dX7_isDigit_17 (by decide) ⟨(by decide), rfl⟩
set_option maxHeartbeats 4000000 in
theorem s_X3_isRuleLetter (v0 : Int32) (M : Mem) : AM yX3_isRuleLetter cX3_isRuleLetter 1 (some .boolean) 0 60 glC (fun ad => [.int v0]) M (PI (fun r M' => (r = 0 ∨ r = 1) ∧ M = M')) := by
  refine AM.of (by decide) (fun _ => Nat.le_of_ble_eq_true rfl) (fun X ad cI cZ cB hX hR => ?_)
  show V X M [(0, .int v0)] [] 0
  refine s_iload_n (k := 0) hX dX3_isRuleLetter_0 rfl rfl ?_
  refine s_bipush (v := (nI 117)) hX dX3_isRuleLetter_1 (by decide) ?_
  refine s_icmp_eq (tgt := 30) hX dX3_isRuleLetter_3 (by decide) (fun c3 => ?_) (fun c3 => ?_)
  · replace c3 := (q_eq (by omega)).mp c3
    refine s_iconst (v := (nI 1)) hX dX3_isRuleLetter_30 (by decide) ?_
    refine s_goto (tgt := 35) hX dX3_isRuleLetter_31 (by decide) ?_
    exact s_zret hX hR dX3_isRuleLetter_35 (by decide) ⟨(by decide), rfl⟩
  · replace c3 := mt (q_eq (by omega)).mpr c3
    refine s_iload_n (k := 0) hX dX3_isRuleLetter_6 rfl rfl ?_
    refine s_bipush (v := (nI 100)) hX dX3_isRuleLetter_7 (by decide) ?_
    refine s_icmp_eq (tgt := 30) hX dX3_isRuleLetter_9 (by decide) (fun c9 => ?_) (fun c9 => ?_)
    · replace c9 := (q_eq (by omega)).mp c9
      refine s_iconst (v := (nI 1)) hX dX3_isRuleLetter_30 (by decide) ?_
      refine s_goto (tgt := 35) hX dX3_isRuleLetter_31 (by decide) ?_
      exact s_zret hX hR dX3_isRuleLetter_35 (by decide) ⟨(by decide), rfl⟩
    · replace c9 := mt (q_eq (by omega)).mpr c9
      refine s_iload_n (k := 0) hX dX3_isRuleLetter_12 rfl rfl ?_
      refine s_bipush (v := (nI 111)) hX dX3_isRuleLetter_13 (by decide) ?_
      refine s_icmp_eq (tgt := 30) hX dX3_isRuleLetter_15 (by decide) (fun c15 => ?_) (fun c15 => ?_)
      · replace c15 := (q_eq (by omega)).mp c15
        refine s_iconst (v := (nI 1)) hX dX3_isRuleLetter_30 (by decide) ?_
        refine s_goto (tgt := 35) hX dX3_isRuleLetter_31 (by decide) ?_
        exact s_zret hX hR dX3_isRuleLetter_35 (by decide) ⟨(by decide), rfl⟩
      · replace c15 := mt (q_eq (by omega)).mpr c15
        refine s_iload_n (k := 0) hX dX3_isRuleLetter_18 rfl rfl ?_
        refine s_bipush (v := (nI 98)) hX dX3_isRuleLetter_19 (by decide) ?_
        refine s_icmp_eq (tgt := 30) hX dX3_isRuleLetter_21 (by decide) (fun c21 => ?_) (fun c21 => ?_)
        · replace c21 := (q_eq (by omega)).mp c21
          refine s_iconst (v := (nI 1)) hX dX3_isRuleLetter_30 (by decide) ?_
          refine s_goto (tgt := 35) hX dX3_isRuleLetter_31 (by decide) ?_
          exact s_zret hX hR dX3_isRuleLetter_35 (by decide) ⟨(by decide), rfl⟩
        · replace c21 := mt (q_eq (by omega)).mpr c21
          refine s_iload_n (k := 0) hX dX3_isRuleLetter_24 rfl rfl ?_
          refine s_bipush (v := (nI 120)) hX dX3_isRuleLetter_25 (by decide) ?_
          refine s_icmp_ne (tgt := 34) hX dX3_isRuleLetter_27 (by decide) (fun c27 => ?_) (fun c27 => ?_)
          · replace c27 := mt (q_eq (by omega)).mpr c27
            refine s_iconst (v := (nI 0)) hX dX3_isRuleLetter_34 (by decide) ?_
            exact s_zret hX hR dX3_isRuleLetter_35 (by decide) ⟨(by decide), rfl⟩
          · replace c27 := (q_eq (by omega)).mp c27
            refine s_iconst (v := (nI 1)) hX dX3_isRuleLetter_30 (by decide) ?_
            refine s_goto (tgt := 35) hX dX3_isRuleLetter_31 (by decide) ?_
            exact s_zret hX hR dX3_isRuleLetter_35 (by decide) ⟨(by decide), rfl⟩
set_option maxHeartbeats 4000000 in
theorem s_X4_isHop (v0 : Int32) (M : Mem) : AM yX4_isHop cX4_isHop 1 (some .boolean) 0 60 glC (fun ad => [.int v0]) M (PI (fun r M' => (r = 0 ∨ r = 1) ∧ M = M')) := by
  refine AM.of (by decide) (fun _ => Nat.le_of_ble_eq_true rfl) (fun X ad cI cZ cB hX hR => ?_)
  show V X M [(0, .int v0)] [] 0
  refine s_iload_n (k := 0) hX dX4_isHop_0 rfl rfl ?_
  refine s_bipush (v := (nI 117)) hX dX4_isHop_1 (by decide) ?_
  refine s_icmp_eq (tgt := 24) hX dX4_isHop_3 (by decide) (fun c3 => ?_) (fun c3 => ?_)
  · replace c3 := (q_eq (by omega)).mp c3
    refine s_iconst (v := (nI 1)) hX dX4_isHop_24 (by decide) ?_
    refine s_goto (tgt := 29) hX dX4_isHop_25 (by decide) ?_
    exact s_zret hX hR dX4_isHop_29 (by decide) ⟨(by decide), rfl⟩
  · replace c3 := mt (q_eq (by omega)).mpr c3
    refine s_iload_n (k := 0) hX dX4_isHop_6 rfl rfl ?_
    refine s_bipush (v := (nI 100)) hX dX4_isHop_7 (by decide) ?_
    refine s_icmp_eq (tgt := 24) hX dX4_isHop_9 (by decide) (fun c9 => ?_) (fun c9 => ?_)
    · replace c9 := (q_eq (by omega)).mp c9
      refine s_iconst (v := (nI 1)) hX dX4_isHop_24 (by decide) ?_
      refine s_goto (tgt := 29) hX dX4_isHop_25 (by decide) ?_
      exact s_zret hX hR dX4_isHop_29 (by decide) ⟨(by decide), rfl⟩
    · replace c9 := mt (q_eq (by omega)).mpr c9
      refine s_iload_n (k := 0) hX dX4_isHop_12 rfl rfl ?_
      refine s_bipush (v := (nI 111)) hX dX4_isHop_13 (by decide) ?_
      refine s_icmp_eq (tgt := 24) hX dX4_isHop_15 (by decide) (fun c15 => ?_) (fun c15 => ?_)
      · replace c15 := (q_eq (by omega)).mp c15
        refine s_iconst (v := (nI 1)) hX dX4_isHop_24 (by decide) ?_
        refine s_goto (tgt := 29) hX dX4_isHop_25 (by decide) ?_
        exact s_zret hX hR dX4_isHop_29 (by decide) ⟨(by decide), rfl⟩
      · replace c15 := mt (q_eq (by omega)).mpr c15
        refine s_iload_n (k := 0) hX dX4_isHop_18 rfl rfl ?_
        refine s_bipush (v := (nI 98)) hX dX4_isHop_19 (by decide) ?_
        refine s_icmp_ne (tgt := 28) hX dX4_isHop_21 (by decide) (fun c21 => ?_) (fun c21 => ?_)
        · replace c21 := mt (q_eq (by omega)).mpr c21
          refine s_iconst (v := (nI 0)) hX dX4_isHop_28 (by decide) ?_
          exact s_zret hX hR dX4_isHop_29 (by decide) ⟨(by decide), rfl⟩
        · replace c21 := (q_eq (by omega)).mp c21
          refine s_iconst (v := (nI 1)) hX dX4_isHop_24 (by decide) ?_
          refine s_goto (tgt := 29) hX dX4_isHop_25 (by decide) ?_
          exact s_zret hX hR dX4_isHop_29 (by decide) ⟨(by decide), rfl⟩
set_option maxHeartbeats 4000000 in
theorem s_X5_indexOf (v0 : Int32) (M : Mem) : AM yX5_indexOf cX5_indexOf 1 (some .int) 0 60 glC (fun ad => [.int v0]) M (PI (fun _ M' => M = M')) := by
  refine AM.of (by decide) (fun _ => Nat.le_of_ble_eq_true rfl) (fun X ad cI cZ cB hX hR => ?_)
  show V X M [(0, .int v0)] [] 0
  refine s_iload_n (k := 0) hX dX5_indexOf_0 rfl rfl ?_
  by_cases sw1 : v0.toInt < 101 ∨ 121 < v0.toInt
  · refine s_tabOut (tgt := 118) hX dX5_indexOf_1 sw1 (by decide) ?_
    refine s_iconst (v := (-1)) hX dX5_indexOf_118 (by decide) ?_
    exact s_iret hX hR dX5_indexOf_119 rfl
  · obtain ⟨tv, htv, rfl⟩ := ixi (x := v0) (n := 122) (by omega) (by omega)
    have htt := nI_toInt (n := tv) (by omega)
    have htw : tv = 101 ∨ tv = 102 ∨ tv = 103 ∨ tv = 104 ∨ tv = 105 ∨ tv = 106 ∨ tv = 107 ∨ tv = 108 ∨ tv = 109 ∨ tv = 110 ∨ tv = 111 ∨ tv = 112 ∨ tv = 113 ∨ tv = 114 ∨ tv = 115 ∨ tv = 116 ∨ tv = 117 ∨ tv = 118 ∨ tv = 119 ∨ tv = 120 ∨ tv = 121 := by omega
    rcases htw with rfl | rfl | rfl | rfl | rfl | rfl | rfl | rfl | rfl | rfl | rfl | rfl | rfl | rfl | rfl | rfl | rfl | rfl | rfl | rfl | rfl
    · refine s_tabIn (tgt := 108) (off := 107) hX dX5_indexOf_1 (by decide) (by decide) (by decide) (by decide) ?_
      refine s_iconst (v := (nI 4)) hX dX5_indexOf_108 (by decide) ?_
      exact s_iret hX hR dX5_indexOf_109 rfl
    · refine s_tabIn (tgt := 118) (off := 117) hX dX5_indexOf_1 (by decide) (by decide) (by decide) (by decide) ?_
      refine s_iconst (v := (-1)) hX dX5_indexOf_118 (by decide) ?_
      exact s_iret hX hR dX5_indexOf_119 rfl
    · refine s_tabIn (tgt := 115) (off := 114) hX dX5_indexOf_1 (by decide) (by decide) (by decide) (by decide) ?_
      refine s_bipush (v := (nI 7)) hX dX5_indexOf_115 (by decide) ?_
      exact s_iret hX hR dX5_indexOf_117 rfl
    · refine s_tabIn (tgt := 118) (off := 117) hX dX5_indexOf_1 (by decide) (by decide) (by decide) (by decide) ?_
      refine s_iconst (v := (-1)) hX dX5_indexOf_118 (by decide) ?_
      exact s_iret hX hR dX5_indexOf_119 rfl
    · refine s_tabIn (tgt := 100) (off := 99) hX dX5_indexOf_1 (by decide) (by decide) (by decide) (by decide) ?_
      refine s_iconst (v := (nI 0)) hX dX5_indexOf_100 (by decide) ?_
      exact s_iret hX hR dX5_indexOf_101 rfl
    · refine s_tabIn (tgt := 118) (off := 117) hX dX5_indexOf_1 (by decide) (by decide) (by decide) (by decide) ?_
      refine s_iconst (v := (-1)) hX dX5_indexOf_118 (by decide) ?_
      exact s_iret hX hR dX5_indexOf_119 rfl
    · refine s_tabIn (tgt := 118) (off := 117) hX dX5_indexOf_1 (by decide) (by decide) (by decide) (by decide) ?_
      refine s_iconst (v := (-1)) hX dX5_indexOf_118 (by decide) ?_
      exact s_iret hX hR dX5_indexOf_119 rfl
    · refine s_tabIn (tgt := 118) (off := 117) hX dX5_indexOf_1 (by decide) (by decide) (by decide) (by decide) ?_
      refine s_iconst (v := (-1)) hX dX5_indexOf_118 (by decide) ?_
      exact s_iret hX hR dX5_indexOf_119 rfl
    · refine s_tabIn (tgt := 118) (off := 117) hX dX5_indexOf_1 (by decide) (by decide) (by decide) (by decide) ?_
      refine s_iconst (v := (-1)) hX dX5_indexOf_118 (by decide) ?_
      exact s_iret hX hR dX5_indexOf_119 rfl
    · refine s_tabIn (tgt := 110) (off := 109) hX dX5_indexOf_1 (by decide) (by decide) (by decide) (by decide) ?_
      refine s_iconst (v := (nI 5)) hX dX5_indexOf_110 (by decide) ?_
      exact s_iret hX hR dX5_indexOf_111 rfl
    · refine s_tabIn (tgt := 118) (off := 117) hX dX5_indexOf_1 (by decide) (by decide) (by decide) (by decide) ?_
      refine s_iconst (v := (-1)) hX dX5_indexOf_118 (by decide) ?_
      exact s_iret hX hR dX5_indexOf_119 rfl
    · refine s_tabIn (tgt := 118) (off := 117) hX dX5_indexOf_1 (by decide) (by decide) (by decide) (by decide) ?_
      refine s_iconst (v := (-1)) hX dX5_indexOf_118 (by decide) ?_
      exact s_iret hX hR dX5_indexOf_119 rfl
    · refine s_tabIn (tgt := 118) (off := 117) hX dX5_indexOf_1 (by decide) (by decide) (by decide) (by decide) ?_
      refine s_iconst (v := (-1)) hX dX5_indexOf_118 (by decide) ?_
      exact s_iret hX hR dX5_indexOf_119 rfl
    · refine s_tabIn (tgt := 112) (off := 111) hX dX5_indexOf_1 (by decide) (by decide) (by decide) (by decide) ?_
      refine s_bipush (v := (nI 6)) hX dX5_indexOf_112 (by decide) ?_
      exact s_iret hX hR dX5_indexOf_114 rfl
    · refine s_tabIn (tgt := 106) (off := 105) hX dX5_indexOf_1 (by decide) (by decide) (by decide) (by decide) ?_
      refine s_iconst (v := (nI 3)) hX dX5_indexOf_106 (by decide) ?_
      exact s_iret hX hR dX5_indexOf_107 rfl
    · refine s_tabIn (tgt := 118) (off := 117) hX dX5_indexOf_1 (by decide) (by decide) (by decide) (by decide) ?_
      refine s_iconst (v := (-1)) hX dX5_indexOf_118 (by decide) ?_
      exact s_iret hX hR dX5_indexOf_119 rfl
    · refine s_tabIn (tgt := 118) (off := 117) hX dX5_indexOf_1 (by decide) (by decide) (by decide) (by decide) ?_
      refine s_iconst (v := (-1)) hX dX5_indexOf_118 (by decide) ?_
      exact s_iret hX hR dX5_indexOf_119 rfl
    · refine s_tabIn (tgt := 118) (off := 117) hX dX5_indexOf_1 (by decide) (by decide) (by decide) (by decide) ?_
      refine s_iconst (v := (-1)) hX dX5_indexOf_118 (by decide) ?_
      exact s_iret hX hR dX5_indexOf_119 rfl
    · refine s_tabIn (tgt := 118) (off := 117) hX dX5_indexOf_1 (by decide) (by decide) (by decide) (by decide) ?_
      refine s_iconst (v := (-1)) hX dX5_indexOf_118 (by decide) ?_
      exact s_iret hX hR dX5_indexOf_119 rfl
    · refine s_tabIn (tgt := 102) (off := 101) hX dX5_indexOf_1 (by decide) (by decide) (by decide) (by decide) ?_
      refine s_iconst (v := (nI 1)) hX dX5_indexOf_102 (by decide) ?_
      exact s_iret hX hR dX5_indexOf_103 rfl
    · refine s_tabIn (tgt := 104) (off := 103) hX dX5_indexOf_1 (by decide) (by decide) (by decide) (by decide) ?_
      refine s_iconst (v := (nI 2)) hX dX5_indexOf_104 (by decide) ?_
      exact s_iret hX hR dX5_indexOf_105 rfl
set_option maxHeartbeats 4000000 in
theorem s_X2_isTold (b : Nat) (hb : isF b) (v1 : Int32) (M : Mem) : AM yX2_isTold cX2_isTold 2 (some .boolean) 0 60 glC (fun ad => [.ref (ad b), .int v1]) M (PI (fun r M' => r = bI (0 ≤ v1.toInt ∧ v1.toInt < 40 ∧ ¬ M (b + 4) v1.toNatClampNeg = 0) ∧ M = M')) := by
  refine AM.of (by decide) (fun _ => Nat.le_of_ble_eq_true rfl) (fun X ad cI cZ cB hX hR => ?_)
  show V X M [(0, .ref (ad b)), (1, .int v1)] [] 0
  have hb0 : b = 1 ∨ b = 7 ∨ b = 13 := hb
  refine s_iload_n (k := 1) hX dX2_isTold_0 rfl rfl ?_
  refine s_if_lt (tgt := 23) hX dX2_isTold_1 (by decide) (fun c1 => ?_) (fun c1 => ?_)
  · replace c1 := z_lt.mp c1
    refine s_iconst (v := (nI 0)) hX dX2_isTold_23 (by decide) ?_
    exact s_zret hX hR dX2_isTold_24 (by decide) ⟨bI_f (fun hh => by first | exact hh.2.2 c16 | omega), rfl⟩
  · replace c1 := mt z_lt.mpr c1
    refine s_iload_n (k := 1) hX dX2_isTold_4 rfl rfl ?_
    refine s_bipush (v := (nI 40)) hX dX2_isTold_5 (by decide) ?_
    refine s_icmp_ge (tgt := 23) hX dX2_isTold_7 (by decide) (fun c7 => ?_) (fun c7 => ?_)
    · replace c7 := (q_ge (by omega)).mp c7
      refine s_iconst (v := (nI 0)) hX dX2_isTold_23 (by decide) ?_
      exact s_zret hX hR dX2_isTold_24 (by decide) ⟨bI_f (fun hh => by first | exact hh.2.2 c16 | omega), rfl⟩
    · replace c7 := mt (q_ge (by omega)).mpr c7
      refine s_aload_n (k := 0) hX dX2_isTold_10 rfl rfl ?_
      refine s_get hX fX2_21 (oF hb) rfl dX2_isTold_11 ?_
      refine s_iload_n (k := 1) hX dX2_isTold_14 rfl rfl ?_
      refine s_zald hX (aF4 hb) (vp_in_iff.mpr (by omega)) dX2_isTold_15 ?_
      refine s_if_eq (tgt := 23) hX dX2_isTold_16 (by decide) (fun c16 => ?_) (fun c16 => ?_)
      · refine s_iconst (v := (nI 0)) hX dX2_isTold_23 (by decide) ?_
        exact s_zret hX hR dX2_isTold_24 (by decide) ⟨bI_f (fun hh => by first | exact hh.2.2 c16 | omega), rfl⟩
      · refine s_iconst (v := (nI 1)) hX dX2_isTold_19 (by decide) ?_
        refine s_goto (tgt := 24) hX dX2_isTold_20 (by decide) ?_
        exact s_zret hX hR dX2_isTold_24 (by decide) ⟨bI_t ⟨by omega, by omega, c16⟩, rfl⟩
set_option maxHeartbeats 4000000 in
theorem s_X2_isDry (b : Nat) (hb : isF b) (v1 : Int32) (M : Mem) : AM yX2_isDry cX2_isDry 2 (some .boolean) 0 60 glC (fun ad => [.ref (ad b), .int v1]) M (PI (fun r M' => r = bI (0 ≤ v1.toInt ∧ v1.toInt < 40 ∧ ¬ M (b + 4) v1.toNatClampNeg = 0 ∧ M (b + 5) v1.toNatClampNeg = 0) ∧ M = M')) := by
  refine AM.of (by decide) (fun _ => Nat.le_of_ble_eq_true rfl) (fun X ad cI cZ cB hX hR => ?_)
  show V X M [(0, .ref (ad b)), (1, .int v1)] [] 0
  have hb0 : b = 1 ∨ b = 7 ∨ b = 13 := hb
  refine s_iload_n (k := 1) hX dX2_isDry_0 rfl rfl ?_
  refine s_if_lt (tgt := 32) hX dX2_isDry_1 (by decide) (fun c1 => ?_) (fun c1 => ?_)
  · replace c1 := z_lt.mp c1
    refine s_iconst (v := (nI 0)) hX dX2_isDry_32 (by decide) ?_
    exact s_zret hX hR dX2_isDry_33 (by decide) ⟨bI_f (fun hh => by first | exact hh.2.2.1 c16 | exact c25 hh.2.2.2 | omega), rfl⟩
  · replace c1 := mt z_lt.mpr c1
    refine s_iload_n (k := 1) hX dX2_isDry_4 rfl rfl ?_
    refine s_bipush (v := (nI 40)) hX dX2_isDry_5 (by decide) ?_
    refine s_icmp_ge (tgt := 32) hX dX2_isDry_7 (by decide) (fun c7 => ?_) (fun c7 => ?_)
    · replace c7 := (q_ge (by omega)).mp c7
      refine s_iconst (v := (nI 0)) hX dX2_isDry_32 (by decide) ?_
      exact s_zret hX hR dX2_isDry_33 (by decide) ⟨bI_f (fun hh => by first | exact hh.2.2.1 c16 | exact c25 hh.2.2.2 | omega), rfl⟩
    · replace c7 := mt (q_ge (by omega)).mpr c7
      refine s_aload_n (k := 0) hX dX2_isDry_10 rfl rfl ?_
      refine s_get hX fX2_21 (oF hb) rfl dX2_isDry_11 ?_
      refine s_iload_n (k := 1) hX dX2_isDry_14 rfl rfl ?_
      refine s_zald hX (aF4 hb) (vp_in_iff.mpr (by omega)) dX2_isDry_15 ?_
      refine s_if_eq (tgt := 32) hX dX2_isDry_16 (by decide) (fun c16 => ?_) (fun c16 => ?_)
      · refine s_iconst (v := (nI 0)) hX dX2_isDry_32 (by decide) ?_
        exact s_zret hX hR dX2_isDry_33 (by decide) ⟨bI_f (fun hh => by first | exact hh.2.2.1 c16 | exact c25 hh.2.2.2 | omega), rfl⟩
      · refine s_aload_n (k := 0) hX dX2_isDry_19 rfl rfl ?_
        refine s_get hX fX2_25 (oF hb) rfl dX2_isDry_20 ?_
        refine s_iload_n (k := 1) hX dX2_isDry_23 rfl rfl ?_
        refine s_zald hX (aF5 hb) (vp_in_iff.mpr (by omega)) dX2_isDry_24 ?_
        refine s_if_ne (tgt := 32) hX dX2_isDry_25 (by decide) (fun c25 => ?_) (fun c25 => ?_)
        · refine s_iconst (v := (nI 0)) hX dX2_isDry_32 (by decide) ?_
          exact s_zret hX hR dX2_isDry_33 (by decide) ⟨bI_f (fun hh => by first | exact hh.2.2.1 c16 | exact c25 hh.2.2.2 | omega), rfl⟩
        · refine s_iconst (v := (nI 1)) hX dX2_isDry_28 (by decide) ?_
          refine s_goto (tgt := 33) hX dX2_isDry_29 (by decide) ?_
          exact s_zret hX hR dX2_isDry_33 (by decide) ⟨bI_t ⟨by omega, by omega, c16, c25⟩, rfl⟩
set_option maxHeartbeats 4000000 in
theorem s_X2_stoneAt (b : Nat) (hb : isF b) (v1 : Int32) (v2 : Int32) (M : Mem) : AM yX2_stoneAt cX2_stoneAt 4 (some .int) 0 60 glC (fun ad => [.ref (ad b), .int v1, .int v2]) M (PI (fun _ M' => M = M')) := by
  refine AM.of (by decide) (fun _ => Nat.le_of_ble_eq_true rfl) (fun X ad cI cZ cB hX hR => ?_)
  show V X M [(0, .ref (ad b)), (1, .int v1), (2, .int v2)] [] 0
  have hb0 : b = 1 ∨ b = 7 ∨ b = 13 := hb
  refine s_iconst (v := (nI 0)) hX dX2_stoneAt_0 (by decide) ?_
  refine s_istore_n (lv' := [(0, .ref (ad b)), (1, .int v1), (2, .int v2), (3, .int (nI 0))]) hX dX2_stoneAt_1 rfl (by decide) rfl ?_
  have lp2 : ∀ (N2 : Nat) (i2 : Nat), (i2 ≤ 40) → (40 < i2 + N2) → V X M [(0, .ref (ad b)), (1, .int v1), (2, .int v2), (3, .int (nI i2))] [] 2 := by
    intro N2
    induction N2 with
    | zero => intro i2 hi2 hN2; exact absurd hN2 (by omega)
    | succ N2 ih2 =>
      intro i2 hi2 hN2
      refine s_iload_n (k := 3) hX dX2_stoneAt_2 rfl rfl ?_
      refine s_bipush (v := (nI 40)) hX dX2_stoneAt_3 (by decide) ?_
      refine s_icmp_ge (tgt := 45) hX dX2_stoneAt_5 (by decide) (fun c5 => ?_) (fun c5 => ?_)
      · replace c5 := (nI_leI (by omega) (by omega)).mp c5
        refine s_iconst (v := (-1)) hX dX2_stoneAt_45 (by decide) ?_
        exact s_iret hX hR dX2_stoneAt_46 rfl
      · replace c5 := mt (nI_leI (by omega) (by omega)).mpr c5
        refine s_aload_n (k := 0) hX dX2_stoneAt_8 rfl rfl ?_
        refine s_get hX fX2_21 (oF hb) rfl dX2_stoneAt_9 ?_
        refine s_iload_n (k := 3) hX dX2_stoneAt_12 rfl rfl ?_
        refine s_zaldN hX (aF4 hb) (by omega) dX2_stoneAt_13 ?_
        refine s_if_eq (tgt := 39) hX dX2_stoneAt_14 (by decide) (fun c14 => ?_) (fun c14 => ?_)
        · replace c14 := z_eq.mp c14
          refine s_iinc (k := 3) (v := nI (i2 + 1)) (lv' := [(0, .ref (ad b)), (1, .int v1), (2, .int v2), (3, .int (nI (i2 + 1)))]) hX dX2_stoneAt_39 (nI_1 _) (by decide) rfl rfl ?_
          refine s_goto (tgt := 2) hX dX2_stoneAt_42 (by decide) ?_
          exact ih2 _ (by omega) (by omega)
        · replace c14 := mt z_eq.mpr c14
          refine s_aload_n (k := 0) hX dX2_stoneAt_17 rfl rfl ?_
          refine s_get hX fX2_9 (oF hb) rfl dX2_stoneAt_18 ?_
          refine s_iload_n (k := 3) hX dX2_stoneAt_21 rfl rfl ?_
          refine s_ialdN hX (aF1 hb) (by omega) dX2_stoneAt_22 ?_
          refine s_iload_n (k := 1) hX dX2_stoneAt_23 rfl rfl ?_
          refine s_icmp_ne (tgt := 39) hX dX2_stoneAt_24 (by decide) (fun c24 => ?_) (fun c24 => ?_)
          · replace c24 := mt Int32.toInt_inj.symm.mpr c24
            refine s_iinc (k := 3) (v := nI (i2 + 1)) (lv' := [(0, .ref (ad b)), (1, .int v1), (2, .int v2), (3, .int (nI (i2 + 1)))]) hX dX2_stoneAt_39 (nI_1 _) (by decide) rfl rfl ?_
            refine s_goto (tgt := 2) hX dX2_stoneAt_42 (by decide) ?_
            exact ih2 _ (by omega) (by omega)
          · replace c24 := Int32.toInt_inj.symm.mp c24
            refine s_aload_n (k := 0) hX dX2_stoneAt_27 rfl rfl ?_
            refine s_get hX fX2_15 (oF hb) rfl dX2_stoneAt_28 ?_
            refine s_iload_n (k := 3) hX dX2_stoneAt_31 rfl rfl ?_
            refine s_ialdN hX (aF2 hb) (by omega) dX2_stoneAt_32 ?_
            refine s_iload_n (k := 2) hX dX2_stoneAt_33 rfl rfl ?_
            refine s_icmp_ne (tgt := 39) hX dX2_stoneAt_34 (by decide) (fun c34 => ?_) (fun c34 => ?_)
            · replace c34 := mt Int32.toInt_inj.symm.mpr c34
              refine s_iinc (k := 3) (v := nI (i2 + 1)) (lv' := [(0, .ref (ad b)), (1, .int v1), (2, .int v2), (3, .int (nI (i2 + 1)))]) hX dX2_stoneAt_39 (nI_1 _) (by decide) rfl rfl ?_
              refine s_goto (tgt := 2) hX dX2_stoneAt_42 (by decide) ?_
              exact ih2 _ (by omega) (by omega)
            · replace c34 := Int32.toInt_inj.symm.mp c34
              refine s_iload_n (k := 3) hX dX2_stoneAt_37 rfl rfl ?_
              exact s_iret hX hR dX2_stoneAt_38 rfl
  exact lp2 (40 + 1) _ (by omega) (by omega)
set_option maxHeartbeats 4000000 in
theorem s_X2_countTold (b : Nat) (hb : isF b) (M : Mem) : AM yX2_countTold cX2_countTold 3 (some .int) 0 60 glC (fun ad => [.ref (ad b)]) M (PI (fun _ M' => M = M')) := by
  refine AM.of (by decide) (fun _ => Nat.le_of_ble_eq_true rfl) (fun X ad cI cZ cB hX hR => ?_)
  show V X M [(0, .ref (ad b))] [] 0
  have hb0 : b = 1 ∨ b = 7 ∨ b = 13 := hb
  refine s_iconst (v := (nI 0)) hX dX2_countTold_0 (by decide) ?_
  refine s_istore_n (lv' := [(0, .ref (ad b)), (1, .int (nI 0))]) hX dX2_countTold_1 rfl (by decide) rfl ?_
  refine s_iconst (v := (nI 0)) hX dX2_countTold_2 (by decide) ?_
  refine s_istore_n (lv' := [(0, .ref (ad b)), (1, .int (nI 0)), (2, .int (nI 0))]) hX dX2_countTold_3 rfl (by decide) rfl ?_
  have lp4 : ∀ (N4 : Nat) (i4 : Nat) (y1_4 : Int32), (i4 ≤ 40) → (40 < i4 + N4) → V X M [(0, .ref (ad b)), (1, .int y1_4), (2, .int (nI i4))] [] 4 := by
    intro N4
    induction N4 with
    | zero => intro i4 y1_4 hi4 hN4; exact absurd hN4 (by omega)
    | succ N4 ih4 =>
      intro i4 y1_4 hi4 hN4
      refine s_iload_n (k := 2) hX dX2_countTold_4 rfl rfl ?_
      refine s_bipush (v := (nI 40)) hX dX2_countTold_5 (by decide) ?_
      refine s_icmp_ge (tgt := 33) hX dX2_countTold_7 (by decide) (fun c7 => ?_) (fun c7 => ?_)
      · replace c7 := (nI_leI (by omega) (by omega)).mp c7
        refine s_iload_n (k := 1) hX dX2_countTold_33 rfl rfl ?_
        exact s_iret hX hR dX2_countTold_34 rfl
      · replace c7 := mt (nI_leI (by omega) (by omega)).mpr c7
        refine s_iload_n (k := 1) hX dX2_countTold_10 rfl rfl ?_
        refine s_aload_n (k := 0) hX dX2_countTold_11 rfl rfl ?_
        refine s_get hX fX2_21 (oF hb) rfl dX2_countTold_12 ?_
        refine s_iload_n (k := 2) hX dX2_countTold_15 rfl rfl ?_
        refine s_zaldN hX (aF4 hb) (by omega) dX2_countTold_16 ?_
        refine s_if_eq (tgt := 24) hX dX2_countTold_17 (by decide) (fun c17 => ?_) (fun c17 => ?_)
        · replace c17 := z_eq.mp c17
          refine s_iconst (v := (nI 0)) hX dX2_countTold_24 (by decide) ?_
          refine s_iadd hX dX2_countTold_25 ?_
          refine s_topi (fun x1_3 ex1_3 => ?_)
          refine s_istore_n (lv' := [(0, .ref (ad b)), (2, .int (nI i4)), (1, .int x1_3)]) hX dX2_countTold_26 rfl (by decide) rfl ?_
          refine s_iinc (k := 1) (v := nI (i4 + 1)) (lv' := [(0, .ref (ad b)), (1, .int x1_3), (2, .int (nI (i4 + 1)))]) hX dX2_countTold_27 (nI_1 _) (by decide) rfl rfl ?_
          refine s_goto (tgt := 4) hX dX2_countTold_30 (by decide) ?_
          exact ih4 _ _ (by omega) (by omega)
        · replace c17 := mt z_eq.mpr c17
          refine s_iconst (v := (nI 1)) hX dX2_countTold_20 (by decide) ?_
          refine s_goto (tgt := 25) hX dX2_countTold_21 (by decide) ?_
          refine s_iadd hX dX2_countTold_25 ?_
          refine s_topi (fun x1_4 ex1_4 => ?_)
          refine s_istore_n (lv' := [(0, .ref (ad b)), (2, .int (nI i4)), (1, .int x1_4)]) hX dX2_countTold_26 rfl (by decide) rfl ?_
          refine s_iinc (k := 1) (v := nI (i4 + 1)) (lv' := [(0, .ref (ad b)), (1, .int x1_4), (2, .int (nI (i4 + 1)))]) hX dX2_countTold_27 (nI_1 _) (by decide) rfl rfl ?_
          refine s_goto (tgt := 4) hX dX2_countTold_30 (by decide) ?_
          exact ih4 _ _ (by omega) (by omega)
  exact lp4 (40 + 1) _ _ (by omega) (by omega)
set_option maxHeartbeats 4000000 in
theorem s_X2_countSunk (b : Nat) (hb : isF b) (M : Mem) : AM yX2_countSunk cX2_countSunk 3 (some .int) 0 60 glC (fun ad => [.ref (ad b)]) M (PI (fun _ M' => M = M')) := by
  refine AM.of (by decide) (fun _ => Nat.le_of_ble_eq_true rfl) (fun X ad cI cZ cB hX hR => ?_)
  show V X M [(0, .ref (ad b))] [] 0
  have hb0 : b = 1 ∨ b = 7 ∨ b = 13 := hb
  refine s_iconst (v := (nI 0)) hX dX2_countSunk_0 (by decide) ?_
  refine s_istore_n (lv' := [(0, .ref (ad b)), (1, .int (nI 0))]) hX dX2_countSunk_1 rfl (by decide) rfl ?_
  refine s_iconst (v := (nI 0)) hX dX2_countSunk_2 (by decide) ?_
  refine s_istore_n (lv' := [(0, .ref (ad b)), (1, .int (nI 0)), (2, .int (nI 0))]) hX dX2_countSunk_3 rfl (by decide) rfl ?_
  have lp4 : ∀ (N4 : Nat) (i4 : Nat) (y1_4 : Int32), (i4 ≤ 40) → (40 < i4 + N4) → V X M [(0, .ref (ad b)), (1, .int y1_4), (2, .int (nI i4))] [] 4 := by
    intro N4
    induction N4 with
    | zero => intro i4 y1_4 hi4 hN4; exact absurd hN4 (by omega)
    | succ N4 ih4 =>
      intro i4 y1_4 hi4 hN4
      refine s_iload_n (k := 2) hX dX2_countSunk_4 rfl rfl ?_
      refine s_bipush (v := (nI 40)) hX dX2_countSunk_5 (by decide) ?_
      refine s_icmp_ge (tgt := 42) hX dX2_countSunk_7 (by decide) (fun c7 => ?_) (fun c7 => ?_)
      · replace c7 := (nI_leI (by omega) (by omega)).mp c7
        refine s_iload_n (k := 1) hX dX2_countSunk_42 rfl rfl ?_
        exact s_iret hX hR dX2_countSunk_43 rfl
      · replace c7 := mt (nI_leI (by omega) (by omega)).mpr c7
        refine s_iload_n (k := 1) hX dX2_countSunk_10 rfl rfl ?_
        refine s_aload_n (k := 0) hX dX2_countSunk_11 rfl rfl ?_
        refine s_get hX fX2_21 (oF hb) rfl dX2_countSunk_12 ?_
        refine s_iload_n (k := 2) hX dX2_countSunk_15 rfl rfl ?_
        refine s_zaldN hX (aF4 hb) (by omega) dX2_countSunk_16 ?_
        refine s_if_eq (tgt := 33) hX dX2_countSunk_17 (by decide) (fun c17 => ?_) (fun c17 => ?_)
        · replace c17 := z_eq.mp c17
          refine s_iconst (v := (nI 0)) hX dX2_countSunk_33 (by decide) ?_
          refine s_iadd hX dX2_countSunk_34 ?_
          refine s_topi (fun x1_3 ex1_3 => ?_)
          refine s_istore_n (lv' := [(0, .ref (ad b)), (2, .int (nI i4)), (1, .int x1_3)]) hX dX2_countSunk_35 rfl (by decide) rfl ?_
          refine s_iinc (k := 1) (v := nI (i4 + 1)) (lv' := [(0, .ref (ad b)), (1, .int x1_3), (2, .int (nI (i4 + 1)))]) hX dX2_countSunk_36 (nI_1 _) (by decide) rfl rfl ?_
          refine s_goto (tgt := 4) hX dX2_countSunk_39 (by decide) ?_
          exact ih4 _ _ (by omega) (by omega)
        · replace c17 := mt z_eq.mpr c17
          refine s_aload_n (k := 0) hX dX2_countSunk_20 rfl rfl ?_
          refine s_get hX fX2_25 (oF hb) rfl dX2_countSunk_21 ?_
          refine s_iload_n (k := 2) hX dX2_countSunk_24 rfl rfl ?_
          refine s_zaldN hX (aF5 hb) (by omega) dX2_countSunk_25 ?_
          refine s_if_eq (tgt := 33) hX dX2_countSunk_26 (by decide) (fun c26 => ?_) (fun c26 => ?_)
          · replace c26 := z_eq.mp c26
            refine s_iconst (v := (nI 0)) hX dX2_countSunk_33 (by decide) ?_
            refine s_iadd hX dX2_countSunk_34 ?_
            refine s_topi (fun x1_4 ex1_4 => ?_)
            refine s_istore_n (lv' := [(0, .ref (ad b)), (2, .int (nI i4)), (1, .int x1_4)]) hX dX2_countSunk_35 rfl (by decide) rfl ?_
            refine s_iinc (k := 1) (v := nI (i4 + 1)) (lv' := [(0, .ref (ad b)), (1, .int x1_4), (2, .int (nI (i4 + 1)))]) hX dX2_countSunk_36 (nI_1 _) (by decide) rfl rfl ?_
            refine s_goto (tgt := 4) hX dX2_countSunk_39 (by decide) ?_
            exact ih4 _ _ (by omega) (by omega)
          · replace c26 := mt z_eq.mpr c26
            refine s_iconst (v := (nI 1)) hX dX2_countSunk_29 (by decide) ?_
            refine s_goto (tgt := 34) hX dX2_countSunk_30 (by decide) ?_
            refine s_iadd hX dX2_countSunk_34 ?_
            refine s_topi (fun x1_5 ex1_5 => ?_)
            refine s_istore_n (lv' := [(0, .ref (ad b)), (2, .int (nI i4)), (1, .int x1_5)]) hX dX2_countSunk_35 rfl (by decide) rfl ?_
            refine s_iinc (k := 1) (v := nI (i4 + 1)) (lv' := [(0, .ref (ad b)), (1, .int x1_5), (2, .int (nI (i4 + 1)))]) hX dX2_countSunk_36 (nI_1 _) (by decide) rfl rfl ?_
            refine s_goto (tgt := 4) hX dX2_countSunk_39 (by decide) ?_
            exact ih4 _ _ (by omega) (by omega)
  exact lp4 (40 + 1) _ _ (by omega) (by omega)
set_option maxHeartbeats 4000000 in
theorem s_X2_sumOfX (b : Nat) (hb : isF b) (M : Mem) : AM yX2_sumOfX cX2_sumOfX 3 (some .int) 0 60 glC (fun ad => [.ref (ad b)]) M (PI (fun _ M' => M = M')) := by
  refine AM.of (by decide) (fun _ => Nat.le_of_ble_eq_true rfl) (fun X ad cI cZ cB hX hR => ?_)
  show V X M [(0, .ref (ad b))] [] 0
  have hb0 : b = 1 ∨ b = 7 ∨ b = 13 := hb
  refine s_iconst (v := (nI 0)) hX dX2_sumOfX_0 (by decide) ?_
  refine s_istore_n (lv' := [(0, .ref (ad b)), (1, .int (nI 0))]) hX dX2_sumOfX_1 rfl (by decide) rfl ?_
  refine s_iconst (v := (nI 0)) hX dX2_sumOfX_2 (by decide) ?_
  refine s_istore_n (lv' := [(0, .ref (ad b)), (1, .int (nI 0)), (2, .int (nI 0))]) hX dX2_sumOfX_3 rfl (by decide) rfl ?_
  have lp4 : ∀ (N4 : Nat) (i4 : Nat) (y1_4 : Int32), (i4 ≤ 40) → (40 < i4 + N4) → V X M [(0, .ref (ad b)), (1, .int y1_4), (2, .int (nI i4))] [] 4 := by
    intro N4
    induction N4 with
    | zero => intro i4 y1_4 hi4 hN4; exact absurd hN4 (by omega)
    | succ N4 ih4 =>
      intro i4 y1_4 hi4 hN4
      refine s_iload_n (k := 2) hX dX2_sumOfX_4 rfl rfl ?_
      refine s_bipush (v := (nI 40)) hX dX2_sumOfX_5 (by decide) ?_
      refine s_icmp_ge (tgt := 38) hX dX2_sumOfX_7 (by decide) (fun c7 => ?_) (fun c7 => ?_)
      · replace c7 := (nI_leI (by omega) (by omega)).mp c7
        refine s_iload_n (k := 1) hX dX2_sumOfX_38 rfl rfl ?_
        exact s_iret hX hR dX2_sumOfX_39 rfl
      · replace c7 := mt (nI_leI (by omega) (by omega)).mpr c7
        refine s_iload_n (k := 1) hX dX2_sumOfX_10 rfl rfl ?_
        refine s_aload_n (k := 0) hX dX2_sumOfX_11 rfl rfl ?_
        refine s_get hX fX2_21 (oF hb) rfl dX2_sumOfX_12 ?_
        refine s_iload_n (k := 2) hX dX2_sumOfX_15 rfl rfl ?_
        refine s_zaldN hX (aF4 hb) (by omega) dX2_sumOfX_16 ?_
        refine s_if_eq (tgt := 29) hX dX2_sumOfX_17 (by decide) (fun c17 => ?_) (fun c17 => ?_)
        · replace c17 := z_eq.mp c17
          refine s_iconst (v := (nI 0)) hX dX2_sumOfX_29 (by decide) ?_
          refine s_iadd hX dX2_sumOfX_30 ?_
          refine s_topi (fun x1_3 ex1_3 => ?_)
          refine s_istore_n (lv' := [(0, .ref (ad b)), (2, .int (nI i4)), (1, .int x1_3)]) hX dX2_sumOfX_31 rfl (by decide) rfl ?_
          refine s_iinc (k := 1) (v := nI (i4 + 1)) (lv' := [(0, .ref (ad b)), (1, .int x1_3), (2, .int (nI (i4 + 1)))]) hX dX2_sumOfX_32 (nI_1 _) (by decide) rfl rfl ?_
          refine s_goto (tgt := 4) hX dX2_sumOfX_35 (by decide) ?_
          exact ih4 _ _ (by omega) (by omega)
        · replace c17 := mt z_eq.mpr c17
          refine s_aload_n (k := 0) hX dX2_sumOfX_20 rfl rfl ?_
          refine s_get hX fX2_9 (oF hb) rfl dX2_sumOfX_21 ?_
          refine s_iload_n (k := 2) hX dX2_sumOfX_24 rfl rfl ?_
          refine s_ialdN hX (aF1 hb) (by omega) dX2_sumOfX_25 ?_
          refine s_goto (tgt := 30) hX dX2_sumOfX_26 (by decide) ?_
          refine s_iadd hX dX2_sumOfX_30 ?_
          refine s_topi (fun x1_4 ex1_4 => ?_)
          refine s_istore_n (lv' := [(0, .ref (ad b)), (2, .int (nI i4)), (1, .int x1_4)]) hX dX2_sumOfX_31 rfl (by decide) rfl ?_
          refine s_iinc (k := 1) (v := nI (i4 + 1)) (lv' := [(0, .ref (ad b)), (1, .int x1_4), (2, .int (nI (i4 + 1)))]) hX dX2_sumOfX_32 (nI_1 _) (by decide) rfl rfl ?_
          refine s_goto (tgt := 4) hX dX2_sumOfX_35 (by decide) ?_
          exact ih4 _ _ (by omega) (by omega)
  exact lp4 (40 + 1) _ _ (by omega) (by omega)
set_option maxHeartbeats 4000000 in
theorem s_X2_clearStones (b : Nat) (hb : isF b) (M : Mem) : AM yX2_clearStones cX2_clearStones 2 none 0 60 glC (fun ad => [.ref (ad b)]) M (PV (fun M' => ∀ a, a ≠ (b + 4) → M' a = M a)) := by
  refine AM.of (by decide) (fun _ => Nat.le_of_ble_eq_true rfl) (fun X ad cI cZ cB hX hR => ?_)
  show V X M [(0, .ref (ad b))] [] 0
  have hb0 : b = 1 ∨ b = 7 ∨ b = 13 := hb
  have hf_0 : ∀ a, a ≠ (b + 4) → M a = M a := fun _ _ => rfl
  refine s_iconst (v := (nI 0)) hX dX2_clearStones_0 (by decide) ?_
  refine s_istore_n (lv' := [(0, .ref (ad b)), (1, .int (nI 0))]) hX dX2_clearStones_1 rfl (by decide) rfl ?_
  have lp2 : ∀ (N2 : Nat) (i2 : Nat) (M2 : Mem), (i2 ≤ 40) → (40 < i2 + N2) → (∀ a, a ≠ (b + 4) → M2 a = M a) → V X M2 [(0, .ref (ad b)), (1, .int (nI i2))] [] 2 := by
    intro N2
    induction N2 with
    | zero => intro i2 M2 hi2 hN2 hf_2; exact absurd hN2 (by omega)
    | succ N2 ih2 =>
      intro i2 M2 hi2 hN2 hf_2
      refine s_iload_n (k := 1) hX dX2_clearStones_2 rfl rfl ?_
      refine s_bipush (v := (nI 40)) hX dX2_clearStones_3 (by decide) ?_
      refine s_icmp_ge (tgt := 21) hX dX2_clearStones_5 (by decide) (fun c5 => ?_) (fun c5 => ?_)
      · replace c5 := (nI_leI (by omega) (by omega)).mp c5
        exact s_vret hX hR dX2_clearStones_21 hf_2
      · replace c5 := mt (nI_leI (by omega) (by omega)).mpr c5
        refine s_aload_n (k := 0) hX dX2_clearStones_8 rfl rfl ?_
        refine s_get hX fX2_21 (oF hb) rfl dX2_clearStones_9 ?_
        refine s_iload_n (k := 1) hX dX2_clearStones_12 rfl rfl ?_
        refine s_iconst (v := (nI 0)) hX dX2_clearStones_13 (by decide) ?_
        refine s_zastN hX (aF4 hb) (by omega) dX2_clearStones_14 ?_
        refine s_mem (fun M_2 eM_2 => ?_)
        have hfM_2 : ∀ a, a ≠ (b + 4) → M_2 a = M a := fun a q0 => (congrFun eM_2 a).trans ((mset_n (by omega)).trans (hf_2 a q0))
        refine s_iinc (k := 1) (v := nI (i2 + 1)) (lv' := [(0, .ref (ad b)), (1, .int (nI (i2 + 1)))]) hX dX2_clearStones_15 (nI_1 _) (by decide) rfl rfl ?_
        refine s_goto (tgt := 2) hX dX2_clearStones_18 (by decide) ?_
        exact ih2 _ _ (by omega) (by omega) hfM_2
  exact lp2 (40 + 1) _ _ (by omega) (by omega) hf_0
set_option maxHeartbeats 4000000 in
theorem s_X2_copyStones (b : Nat) (hb : isF b) (b2 : Nat) (hb2 : isF b2) (M : Mem) : AM yX2_copyStones cX2_copyStones 3 none 0 60 glC (fun ad => [.ref (ad b), .ref (ad b2)]) M (PV (fun M' => ∀ a, a ≠ (b + 1) → a ≠ (b + 2) → a ≠ (b + 3) → a ≠ (b + 4) → a ≠ (b + 5) → M' a = M a)) := by
  refine AM.of (by decide) (fun _ => Nat.le_of_ble_eq_true rfl) (fun X ad cI cZ cB hX hR => ?_)
  show V X M [(0, .ref (ad b)), (1, .ref (ad b2))] [] 0
  have hb0 : b = 1 ∨ b = 7 ∨ b = 13 := hb
  have hb20 : b2 = 1 ∨ b2 = 7 ∨ b2 = 13 := hb2
  have hf_0 : ∀ a, a ≠ (b + 1) → a ≠ (b + 2) → a ≠ (b + 3) → a ≠ (b + 4) → a ≠ (b + 5) → M a = M a := fun _ _ _ _ _ _ => rfl
  refine s_iconst (v := (nI 0)) hX dX2_copyStones_0 (by decide) ?_
  refine s_istore_n (lv' := [(0, .ref (ad b)), (1, .ref (ad b2)), (2, .int (nI 0))]) hX dX2_copyStones_1 rfl (by decide) rfl ?_
  have lp2 : ∀ (N2 : Nat) (i2 : Nat) (M2 : Mem), (i2 ≤ 40) → (40 < i2 + N2) → (∀ a, a ≠ (b + 1) → a ≠ (b + 2) → a ≠ (b + 3) → a ≠ (b + 4) → a ≠ (b + 5) → M2 a = M a) → V X M2 [(0, .ref (ad b)), (1, .ref (ad b2)), (2, .int (nI i2))] [] 2 := by
    intro N2
    induction N2 with
    | zero => intro i2 M2 hi2 hN2 hf_2; exact absurd hN2 (by omega)
    | succ N2 ih2 =>
      intro i2 M2 hi2 hN2 hf_2
      refine s_iload_n (k := 2) hX dX2_copyStones_2 rfl rfl ?_
      refine s_bipush (v := (nI 40)) hX dX2_copyStones_3 (by decide) ?_
      refine s_icmp_ge (tgt := 74) hX dX2_copyStones_5 (by decide) (fun c5 => ?_) (fun c5 => ?_)
      · replace c5 := (nI_leI (by omega) (by omega)).mp c5
        exact s_vret hX hR dX2_copyStones_74 hf_2
      · replace c5 := mt (nI_leI (by omega) (by omega)).mpr c5
        refine s_aload_n (k := 0) hX dX2_copyStones_8 rfl rfl ?_
        refine s_get hX fX2_9 (oF hb) rfl dX2_copyStones_9 ?_
        refine s_iload_n (k := 2) hX dX2_copyStones_12 rfl rfl ?_
        refine s_aload_n (k := 1) hX dX2_copyStones_13 rfl rfl ?_
        refine s_get hX fX2_9 (oF hb2) rfl dX2_copyStones_14 ?_
        refine s_iload_n (k := 2) hX dX2_copyStones_17 rfl rfl ?_
        refine s_ialdN hX (aF1 hb2) (by omega) dX2_copyStones_18 ?_
        refine s_iastN hX (aF1 hb) (by omega) dX2_copyStones_19 ?_
        refine s_mem (fun M_2 eM_2 => ?_)
        have hfM_2 : ∀ a, a ≠ (b + 1) → a ≠ (b + 2) → a ≠ (b + 3) → a ≠ (b + 4) → a ≠ (b + 5) → M_2 a = M a := fun a q0 q1 q2 q3 q4 => (congrFun eM_2 a).trans ((mset_n (by omega)).trans (hf_2 a q0 q1 q2 q3 q4))
        refine s_aload_n (k := 0) hX dX2_copyStones_20 rfl rfl ?_
        refine s_get hX fX2_15 (oF hb) rfl dX2_copyStones_21 ?_
        refine s_iload_n (k := 2) hX dX2_copyStones_24 rfl rfl ?_
        refine s_aload_n (k := 1) hX dX2_copyStones_25 rfl rfl ?_
        refine s_get hX fX2_15 (oF hb2) rfl dX2_copyStones_26 ?_
        refine s_iload_n (k := 2) hX dX2_copyStones_29 rfl rfl ?_
        refine s_ialdN hX (aF2 hb2) (by omega) dX2_copyStones_30 ?_
        refine s_iastN hX (aF2 hb) (by omega) dX2_copyStones_31 ?_
        refine s_mem (fun M_3 eM_3 => ?_)
        have hfM_3 : ∀ a, a ≠ (b + 1) → a ≠ (b + 2) → a ≠ (b + 3) → a ≠ (b + 4) → a ≠ (b + 5) → M_3 a = M a := fun a q0 q1 q2 q3 q4 => (congrFun eM_3 a).trans ((mset_n (by omega)).trans (hfM_2 a q0 q1 q2 q3 q4))
        refine s_aload_n (k := 0) hX dX2_copyStones_32 rfl rfl ?_
        refine s_get hX fX2_18 (oF hb) rfl dX2_copyStones_33 ?_
        refine s_iload_n (k := 2) hX dX2_copyStones_36 rfl rfl ?_
        refine s_aload_n (k := 1) hX dX2_copyStones_37 rfl rfl ?_
        refine s_get hX fX2_18 (oF hb2) rfl dX2_copyStones_38 ?_
        refine s_iload_n (k := 2) hX dX2_copyStones_41 rfl rfl ?_
        refine s_ialdN hX (aF3 hb2) (by omega) dX2_copyStones_42 ?_
        refine s_iastN hX (aF3 hb) (by omega) dX2_copyStones_43 ?_
        refine s_mem (fun M_4 eM_4 => ?_)
        have hfM_4 : ∀ a, a ≠ (b + 1) → a ≠ (b + 2) → a ≠ (b + 3) → a ≠ (b + 4) → a ≠ (b + 5) → M_4 a = M a := fun a q0 q1 q2 q3 q4 => (congrFun eM_4 a).trans ((mset_n (by omega)).trans (hfM_3 a q0 q1 q2 q3 q4))
        refine s_aload_n (k := 0) hX dX2_copyStones_44 rfl rfl ?_
        refine s_get hX fX2_21 (oF hb) rfl dX2_copyStones_45 ?_
        refine s_iload_n (k := 2) hX dX2_copyStones_48 rfl rfl ?_
        refine s_aload_n (k := 1) hX dX2_copyStones_49 rfl rfl ?_
        refine s_get hX fX2_21 (oF hb2) rfl dX2_copyStones_50 ?_
        refine s_iload_n (k := 2) hX dX2_copyStones_53 rfl rfl ?_
        refine s_zaldN hX (aF4 hb2) (by omega) dX2_copyStones_54 ?_
        refine s_zastN hX (aF4 hb) (by omega) dX2_copyStones_55 ?_
        refine s_mem (fun M_5 eM_5 => ?_)
        have hfM_5 : ∀ a, a ≠ (b + 1) → a ≠ (b + 2) → a ≠ (b + 3) → a ≠ (b + 4) → a ≠ (b + 5) → M_5 a = M a := fun a q0 q1 q2 q3 q4 => (congrFun eM_5 a).trans ((mset_n (by omega)).trans (hfM_4 a q0 q1 q2 q3 q4))
        refine s_aload_n (k := 0) hX dX2_copyStones_56 rfl rfl ?_
        refine s_get hX fX2_25 (oF hb) rfl dX2_copyStones_57 ?_
        refine s_iload_n (k := 2) hX dX2_copyStones_60 rfl rfl ?_
        refine s_aload_n (k := 1) hX dX2_copyStones_61 rfl rfl ?_
        refine s_get hX fX2_25 (oF hb2) rfl dX2_copyStones_62 ?_
        refine s_iload_n (k := 2) hX dX2_copyStones_65 rfl rfl ?_
        refine s_zaldN hX (aF5 hb2) (by omega) dX2_copyStones_66 ?_
        refine s_zastN hX (aF5 hb) (by omega) dX2_copyStones_67 ?_
        refine s_mem (fun M_6 eM_6 => ?_)
        have hfM_6 : ∀ a, a ≠ (b + 1) → a ≠ (b + 2) → a ≠ (b + 3) → a ≠ (b + 4) → a ≠ (b + 5) → M_6 a = M a := fun a q0 q1 q2 q3 q4 => (congrFun eM_6 a).trans ((mset_n (by omega)).trans (hfM_5 a q0 q1 q2 q3 q4))
        refine s_iinc (k := 2) (v := nI (i2 + 1)) (lv' := [(0, .ref (ad b)), (1, .ref (ad b2)), (2, .int (nI (i2 + 1)))]) hX dX2_copyStones_68 (nI_1 _) (by decide) rfl rfl ?_
        refine s_goto (tgt := 2) hX dX2_copyStones_71 (by decide) ?_
        exact ih2 _ _ (by omega) (by omega) hfM_6
  exact lp2 (40 + 1) _ _ (by omega) (by omega) hf_0
set_option maxHeartbeats 4000000 in
theorem s_X2_copyAll (b : Nat) (hb : isF b) (b2 : Nat) (hb2 : isF b2) (M : Mem) : AM yX2_copyAll cX2_copyAll 2 none 1 60 glC (fun ad => [.ref (ad b), .ref (ad b2)]) M (PV (fun M' => ∀ a, a ≠ b → a ≠ (b + 1) → a ≠ (b + 2) → a ≠ (b + 3) → a ≠ (b + 4) → a ≠ (b + 5) → M' a = M a)) := by
  refine AM.of (by decide) (fun _ => Nat.le_of_ble_eq_true rfl) (fun X ad cI cZ cB hX hR => ?_)
  show V X M [(0, .ref (ad b)), (1, .ref (ad b2))] [] 0
  have hb0 : b = 1 ∨ b = 7 ∨ b = 13 := hb
  have hb20 : b2 = 1 ∨ b2 = 7 ∨ b2 = 13 := hb2
  have hf_0 : ∀ a, a ≠ b → a ≠ (b + 1) → a ≠ (b + 2) → a ≠ (b + 3) → a ≠ (b + 4) → a ≠ (b + 5) → M a = M a := fun _ _ _ _ _ _ _ => rfl
  refine s_aload_n (k := 0) hX dX2_copyAll_0 rfl rfl ?_
  refine s_aload_n (k := 1) hX dX2_copyAll_1 rfl rfl ?_
  refine s_callVv hX (s_X2_copyStones b hb b2 hb2 M) mX2_copyStones lX2_35 (by decide) (by decide) (oF hb) rfl rfl rfl rfl rfl (Nat.le_of_ble_eq_true rfl) dX2_copyAll_2 (fun M_1 hp2 => ?_)
  have hfM_1 : ∀ a, a ≠ b → a ≠ (b + 1) → a ≠ (b + 2) → a ≠ (b + 3) → a ≠ (b + 4) → a ≠ (b + 5) → M_1 a = M a := fun a q0 q1 q2 q3 q4 q5 => (hp2 a (by omega) (by omega) (by omega) (by omega) (by omega)).trans (hf_0 a q0 q1 q2 q3 q4 q5)
  refine s_aload_n (k := 0) hX dX2_copyAll_5 rfl rfl ?_
  refine s_aload_n (k := 1) hX dX2_copyAll_6 rfl rfl ?_
  refine s_get hX fX2_28 (oF hb2) rfl dX2_copyAll_7 ?_
  refine s_puti (ty := .int) hX fX2_28 (oF hb) rfl (Nat.le_of_ble_eq_true rfl) ty_2_5 rfl rfl dX2_copyAll_10 ?_
  refine s_mem (fun M_2 eM_2 => ?_)
  have hfM_2 : ∀ a, a ≠ b → a ≠ (b + 1) → a ≠ (b + 2) → a ≠ (b + 3) → a ≠ (b + 4) → a ≠ (b + 5) → M_2 a = M a := fun a q0 q1 q2 q3 q4 q5 => (congrFun eM_2 a).trans ((mset_n (by omega)).trans (hfM_1 a q0 q1 q2 q3 q4 q5))
  refine s_aload_n (k := 0) hX dX2_copyAll_13 rfl rfl ?_
  refine s_aload_n (k := 1) hX dX2_copyAll_14 rfl rfl ?_
  refine s_get hX fX2_32 (oF hb2) rfl dX2_copyAll_15 ?_
  refine s_puti (ty := .int) hX fX2_32 (oF hb) rfl (Nat.le_of_ble_eq_true rfl) ty_2_6 rfl rfl dX2_copyAll_18 ?_
  refine s_mem (fun M_3 eM_3 => ?_)
  have hfM_3 : ∀ a, a ≠ b → a ≠ (b + 1) → a ≠ (b + 2) → a ≠ (b + 3) → a ≠ (b + 4) → a ≠ (b + 5) → M_3 a = M a := fun a q0 q1 q2 q3 q4 q5 => (congrFun eM_3 a).trans ((mset_n (by omega)).trans (hfM_2 a q0 q1 q2 q3 q4 q5))
  exact s_vret hX hR dX2_copyAll_21 hfM_3
set_option maxHeartbeats 4000000 in
theorem s_X2_lay (b : Nat) (hb : isF b) (v1 : Int32) (v2 : Int32) (v3 : Int32) (v4 : Int32) (v5 : Int32) (M : Mem) : AM yX2_lay cX2_lay 6 none 0 60 glC (fun ad => [.ref (ad b), .int v1, .int v2, .int v3, .int v4, .int v5]) M (PV (fun M' => ∀ a, a ≠ (b + 1) → a ≠ (b + 2) → a ≠ (b + 3) → a ≠ (b + 4) → a ≠ (b + 5) → M' a = M a)) := by
  refine AM.of (by decide) (fun _ => Nat.le_of_ble_eq_true rfl) (fun X ad cI cZ cB hX hR => ?_)
  show V X M [(0, .ref (ad b)), (1, .int v1), (2, .int v2), (3, .int v3), (4, .int v4), (5, .int v5)] [] 0
  have hb0 : b = 1 ∨ b = 7 ∨ b = 13 := hb
  have hf_0 : ∀ a, a ≠ (b + 1) → a ≠ (b + 2) → a ≠ (b + 3) → a ≠ (b + 4) → a ≠ (b + 5) → M a = M a := fun _ _ _ _ _ _ => rfl
  refine s_iload_n (k := 1) hX dX2_lay_0 rfl rfl ?_
  refine s_if_lt (tgt := 10) hX dX2_lay_1 (by decide) (fun c1 => ?_) (fun c1 => ?_)
  · replace c1 := z_lt.mp c1
    exact s_vret hX hR dX2_lay_10 hf_0
  · replace c1 := mt z_lt.mpr c1
    refine s_iload_n (k := 1) hX dX2_lay_4 rfl rfl ?_
    refine s_bipush (v := (nI 40)) hX dX2_lay_5 (by decide) ?_
    refine s_icmp_lt (tgt := 11) hX dX2_lay_7 (by decide) (fun c7 => ?_) (fun c7 => ?_)
    · replace c7 := (q_lt (by omega)).mp c7
      refine s_aload_n (k := 0) hX dX2_lay_11 rfl rfl ?_
      refine s_get hX fX2_9 (oF hb) rfl dX2_lay_12 ?_
      refine s_iload_n (k := 1) hX dX2_lay_15 rfl rfl ?_
      refine s_iload_n (k := 2) hX dX2_lay_16 rfl rfl ?_
      refine s_iast hX (aF1 hb) (vp_in_iff.mpr (by omega)) dX2_lay_17 ?_
      refine s_mem (fun M_1 eM_1 => ?_)
      have hfM_1 : ∀ a, a ≠ (b + 1) → a ≠ (b + 2) → a ≠ (b + 3) → a ≠ (b + 4) → a ≠ (b + 5) → M_1 a = M a := fun a q0 q1 q2 q3 q4 => (congrFun eM_1 a).trans ((mset_n (by omega)).trans (hf_0 a q0 q1 q2 q3 q4))
      refine s_aload_n (k := 0) hX dX2_lay_18 rfl rfl ?_
      refine s_get hX fX2_15 (oF hb) rfl dX2_lay_19 ?_
      refine s_iload_n (k := 1) hX dX2_lay_22 rfl rfl ?_
      refine s_iload_n (k := 3) hX dX2_lay_23 rfl rfl ?_
      refine s_iast hX (aF2 hb) (vp_in_iff.mpr (by omega)) dX2_lay_24 ?_
      refine s_mem (fun M_2 eM_2 => ?_)
      have hfM_2 : ∀ a, a ≠ (b + 1) → a ≠ (b + 2) → a ≠ (b + 3) → a ≠ (b + 4) → a ≠ (b + 5) → M_2 a = M a := fun a q0 q1 q2 q3 q4 => (congrFun eM_2 a).trans ((mset_n (by omega)).trans (hfM_1 a q0 q1 q2 q3 q4))
      refine s_aload_n (k := 0) hX dX2_lay_25 rfl rfl ?_
      refine s_get hX fX2_18 (oF hb) rfl dX2_lay_26 ?_
      refine s_iload_n (k := 1) hX dX2_lay_29 rfl rfl ?_
      refine s_iload (k := 4) hX dX2_lay_30 rfl ?_
      refine s_iast hX (aF3 hb) (vp_in_iff.mpr (by omega)) dX2_lay_32 ?_
      refine s_mem (fun M_3 eM_3 => ?_)
      have hfM_3 : ∀ a, a ≠ (b + 1) → a ≠ (b + 2) → a ≠ (b + 3) → a ≠ (b + 4) → a ≠ (b + 5) → M_3 a = M a := fun a q0 q1 q2 q3 q4 => (congrFun eM_3 a).trans ((mset_n (by omega)).trans (hfM_2 a q0 q1 q2 q3 q4))
      refine s_aload_n (k := 0) hX dX2_lay_33 rfl rfl ?_
      refine s_get hX fX2_25 (oF hb) rfl dX2_lay_34 ?_
      refine s_iload_n (k := 1) hX dX2_lay_37 rfl rfl ?_
      refine s_iload (k := 5) hX dX2_lay_38 rfl ?_
      refine s_zast hX (aF5 hb) (vp_in_iff.mpr (by omega)) dX2_lay_40 ?_
      refine s_mem (fun M_4 eM_4 => ?_)
      have hfM_4 : ∀ a, a ≠ (b + 1) → a ≠ (b + 2) → a ≠ (b + 3) → a ≠ (b + 4) → a ≠ (b + 5) → M_4 a = M a := fun a q0 q1 q2 q3 q4 => (congrFun eM_4 a).trans ((mset_n (by omega)).trans (hfM_3 a q0 q1 q2 q3 q4))
      refine s_aload_n (k := 0) hX dX2_lay_41 rfl rfl ?_
      refine s_get hX fX2_21 (oF hb) rfl dX2_lay_42 ?_
      refine s_iload_n (k := 1) hX dX2_lay_45 rfl rfl ?_
      refine s_iconst (v := (nI 1)) hX dX2_lay_46 (by decide) ?_
      refine s_zast hX (aF4 hb) (vp_in_iff.mpr (by omega)) dX2_lay_47 ?_
      refine s_mem (fun M_5 eM_5 => ?_)
      have hfM_5 : ∀ a, a ≠ (b + 1) → a ≠ (b + 2) → a ≠ (b + 3) → a ≠ (b + 4) → a ≠ (b + 5) → M_5 a = M a := fun a q0 q1 q2 q3 q4 => (congrFun eM_5 a).trans ((mset_n (by omega)).trans (hfM_4 a q0 q1 q2 q3 q4))
      exact s_vret hX hR dX2_lay_48 hfM_5
    · replace c7 := mt (q_lt (by omega)).mpr c7
      exact s_vret hX hR dX2_lay_10 hf_0
set_option maxHeartbeats 4000000 in
theorem s_X2_squares (b : Nat) (hb : isF b) (v1 : Int32) (v2 : Int32) (M : Mem) : AM yX2_squares cX2_squares 5 (some .int) 1 60 glC (fun ad => [.ref (ad b), .int v1, .int v2]) M (PI (fun _ M' => M = M')) := by
  refine AM.of (by decide) (fun _ => Nat.le_of_ble_eq_true rfl) (fun X ad cI cZ cB hX hR => ?_)
  show V X M [(0, .ref (ad b)), (1, .int v1), (2, .int v2)] [] 0
  have hb0 : b = 1 ∨ b = 7 ∨ b = 13 := hb
  refine s_aload_n (k := 0) hX dX2_squares_0 rfl rfl ?_
  refine s_iload_n (k := 1) hX dX2_squares_1 rfl rfl ?_
  refine s_callVi hX (s_X2_isTold b hb _ M) mX2_isTold lX2_52 (by decide) (by decide) (oF hb) rfl rfl rfl rfl rfl (Nat.le_of_ble_eq_true rfl) dX2_squares_2 (fun r2 M_1 hp2 => ?_)
  obtain ⟨rfl, h2⟩ := hp2
  subst h2
  refine s_if_eq (tgt := 16) hX dX2_squares_5 (by decide) (fun c5 => ?_) (fun c5 => ?_)
  · replace c5 := bI_eq c5
    refine s_iconst (v := (nI 0)) hX dX2_squares_16 (by decide) ?_
    exact s_iret hX hR dX2_squares_17 rfl
  · replace c5 := bI_ne c5
    refine s_aload_n (k := 0) hX dX2_squares_8 rfl rfl ?_
    refine s_iload_n (k := 2) hX dX2_squares_9 rfl rfl ?_
    refine s_callVi hX (s_X2_isTold b hb _ M) mX2_isTold lX2_52 (by decide) (by decide) (oF hb) rfl rfl rfl rfl rfl (Nat.le_of_ble_eq_true rfl) dX2_squares_10 (fun r10 M_2 hp10 => ?_)
    obtain ⟨rfl, h2⟩ := hp10
    subst h2
    refine s_if_ne (tgt := 18) hX dX2_squares_13 (by decide) (fun c13 => ?_) (fun c13 => ?_)
    · replace c13 := bI_ne c13
      refine s_aload_n (k := 0) hX dX2_squares_18 rfl rfl ?_
      refine s_get hX fX2_9 (oF hb) rfl dX2_squares_19 ?_
      refine s_iload_n (k := 1) hX dX2_squares_22 rfl rfl ?_
      refine s_iald hX (aF1 hb) (vp_in_iff.mpr (by omega)) dX2_squares_23 ?_
      refine s_aload_n (k := 0) hX dX2_squares_24 rfl rfl ?_
      refine s_get hX fX2_9 (oF hb) rfl dX2_squares_25 ?_
      refine s_iload_n (k := 2) hX dX2_squares_28 rfl rfl ?_
      refine s_iald hX (aF1 hb) (vp_in_iff.mpr (by omega)) dX2_squares_29 ?_
      refine s_isub hX dX2_squares_30 ?_
      refine s_topi (fun x3_3 ex3_3 => ?_)
      refine s_istore_n (lv' := [(0, .ref (ad b)), (1, .int v1), (2, .int v2), (3, .int x3_3)]) hX dX2_squares_31 rfl (by decide) rfl ?_
      refine s_aload_n (k := 0) hX dX2_squares_32 rfl rfl ?_
      refine s_get hX fX2_15 (oF hb) rfl dX2_squares_33 ?_
      refine s_iload_n (k := 1) hX dX2_squares_36 rfl rfl ?_
      refine s_iald hX (aF2 hb) (vp_in_iff.mpr (by omega)) dX2_squares_37 ?_
      refine s_aload_n (k := 0) hX dX2_squares_38 rfl rfl ?_
      refine s_get hX fX2_15 (oF hb) rfl dX2_squares_39 ?_
      refine s_iload_n (k := 2) hX dX2_squares_42 rfl rfl ?_
      refine s_iald hX (aF2 hb) (vp_in_iff.mpr (by omega)) dX2_squares_43 ?_
      refine s_isub hX dX2_squares_44 ?_
      refine s_topi (fun x4_4 ex4_4 => ?_)
      refine s_istore (lv' := [(0, .ref (ad b)), (1, .int v1), (2, .int v2), (3, .int x3_3), (4, .int x4_4)]) hX dX2_squares_45 (by decide) rfl ?_
      refine s_iload_n (k := 3) hX dX2_squares_47 rfl rfl ?_
      refine s_iload_n (k := 3) hX dX2_squares_48 rfl rfl ?_
      refine s_imul hX dX2_squares_49 ?_
      refine s_iload (k := 4) hX dX2_squares_50 rfl ?_
      refine s_iload (k := 4) hX dX2_squares_52 rfl ?_
      refine s_imul hX dX2_squares_54 ?_
      refine s_iadd hX dX2_squares_55 ?_
      exact s_iret hX hR dX2_squares_56 rfl
    · replace c13 := bI_eq c13
      refine s_iconst (v := (nI 0)) hX dX2_squares_16 (by decide) ?_
      exact s_iret hX hR dX2_squares_17 rfl
set_option maxHeartbeats 4000000 in
theorem s_X2_countClose (b : Nat) (hb : isF b) (v1 : Int32) (M : Mem) : AM yX2_countClose cX2_countClose 4 (some .int) 2 60 glC (fun ad => [.ref (ad b), .int v1]) M (PI (fun _ M' => M = M')) := by
  refine AM.of (by decide) (fun _ => Nat.le_of_ble_eq_true rfl) (fun X ad cI cZ cB hX hR => ?_)
  show V X M [(0, .ref (ad b)), (1, .int v1)] [] 0
  have hb0 : b = 1 ∨ b = 7 ∨ b = 13 := hb
  refine s_iconst (v := (nI 0)) hX dX2_countClose_0 (by decide) ?_
  refine s_istore_n (lv' := [(0, .ref (ad b)), (1, .int v1), (2, .int (nI 0))]) hX dX2_countClose_1 rfl (by decide) rfl ?_
  refine s_iconst (v := (nI 0)) hX dX2_countClose_2 (by decide) ?_
  refine s_istore_n (lv' := [(0, .ref (ad b)), (1, .int v1), (2, .int (nI 0)), (3, .int (nI 0))]) hX dX2_countClose_3 rfl (by decide) rfl ?_
  have lp4 : ∀ (N4 : Nat) (i4 : Nat) (y2_4 : Int32), (i4 ≤ 40) → (40 < i4 + N4) → V X M [(0, .ref (ad b)), (1, .int v1), (2, .int y2_4), (3, .int (nI i4))] [] 4 := by
    intro N4
    induction N4 with
    | zero => intro i4 y2_4 hi4 hN4; exact absurd hN4 (by omega)
    | succ N4 ih4 =>
      intro i4 y2_4 hi4 hN4
      refine s_iload_n (k := 3) hX dX2_countClose_4 rfl rfl ?_
      refine s_bipush (v := (nI 40)) hX dX2_countClose_5 (by decide) ?_
      refine s_icmp_ge (tgt := 43) hX dX2_countClose_7 (by decide) (fun c7 => ?_) (fun c7 => ?_)
      · replace c7 := (nI_leI (by omega) (by omega)).mp c7
        refine s_iload_n (k := 2) hX dX2_countClose_43 rfl rfl ?_
        exact s_iret hX hR dX2_countClose_44 rfl
      · replace c7 := mt (nI_leI (by omega) (by omega)).mpr c7
        refine s_iload_n (k := 3) hX dX2_countClose_10 rfl rfl ?_
        refine s_iload_n (k := 1) hX dX2_countClose_11 rfl rfl ?_
        refine s_icmp_eq (tgt := 37) hX dX2_countClose_12 (by decide) (fun c12 => ?_) (fun c12 => ?_)
        · replace c12 := (q_eq2 (by omega)).mp c12
          refine s_iinc (k := 3) (v := nI (i4 + 1)) (lv' := [(0, .ref (ad b)), (1, .int v1), (2, .int y2_4), (3, .int (nI (i4 + 1)))]) hX dX2_countClose_37 (nI_1 _) (by decide) rfl rfl ?_
          refine s_goto (tgt := 4) hX dX2_countClose_40 (by decide) ?_
          exact ih4 _ _ (by omega) (by omega)
        · replace c12 := mt (q_eq2 (by omega)).mpr c12
          refine s_aload_n (k := 0) hX dX2_countClose_15 rfl rfl ?_
          refine s_get hX fX2_21 (oF hb) rfl dX2_countClose_16 ?_
          refine s_iload_n (k := 3) hX dX2_countClose_19 rfl rfl ?_
          refine s_zaldN hX (aF4 hb) (by omega) dX2_countClose_20 ?_
          refine s_if_eq (tgt := 37) hX dX2_countClose_21 (by decide) (fun c21 => ?_) (fun c21 => ?_)
          · replace c21 := z_eq.mp c21
            refine s_iinc (k := 3) (v := nI (i4 + 1)) (lv' := [(0, .ref (ad b)), (1, .int v1), (2, .int y2_4), (3, .int (nI (i4 + 1)))]) hX dX2_countClose_37 (nI_1 _) (by decide) rfl rfl ?_
            refine s_goto (tgt := 4) hX dX2_countClose_40 (by decide) ?_
            exact ih4 _ _ (by omega) (by omega)
          · replace c21 := mt z_eq.mpr c21
            refine s_aload_n (k := 0) hX dX2_countClose_24 rfl rfl ?_
            refine s_iload_n (k := 1) hX dX2_countClose_25 rfl rfl ?_
            refine s_iload_n (k := 3) hX dX2_countClose_26 rfl rfl ?_
            refine s_callVi hX (s_X2_squares b hb _ _ M) mX2_squares lX2_49 (by decide) (by decide) (oF hb) rfl rfl rfl rfl rfl (Nat.le_of_ble_eq_true rfl) dX2_countClose_27 (fun r27 M_3 hp27 => ?_)
            subst hp27
            refine s_iconst (v := (nI 4)) hX dX2_countClose_30 (by decide) ?_
            refine s_icmp_gt (tgt := 37) hX dX2_countClose_31 (by decide) (fun c31 => ?_) (fun c31 => ?_)
            · replace c31 := (q_gt (by omega)).mp c31
              refine s_iinc (k := 3) (v := nI (i4 + 1)) (lv' := [(0, .ref (ad b)), (1, .int v1), (2, .int y2_4), (3, .int (nI (i4 + 1)))]) hX dX2_countClose_37 (nI_1 _) (by decide) rfl rfl ?_
              refine s_goto (tgt := 4) hX dX2_countClose_40 (by decide) ?_
              exact ih4 _ _ (by omega) (by omega)
            · replace c31 := mt (q_gt (by omega)).mpr c31
              obtain ⟨x2_4, ex2_4⟩ : ∃ z : Int32, z = y2_4 + Int32.ofInt (1) := ⟨_, rfl⟩
              refine s_iinc (k := 2) (v := x2_4) (lv' := [(0, .ref (ad b)), (1, .int v1), (3, .int (nI i4)), (2, .int x2_4)]) hX dX2_countClose_34 ex2_4.symm (by decide) rfl rfl ?_
              refine s_iinc (k := 2) (v := nI (i4 + 1)) (lv' := [(0, .ref (ad b)), (1, .int v1), (2, .int x2_4), (3, .int (nI (i4 + 1)))]) hX dX2_countClose_37 (nI_1 _) (by decide) rfl rfl ?_
              refine s_goto (tgt := 4) hX dX2_countClose_40 (by decide) ?_
              exact ih4 _ _ (by omega) (by omega)
  exact lp4 (40 + 1) _ _ (by omega) (by omega)
set_option maxHeartbeats 4000000 in
theorem s_X2_draw (b : Nat) (hb : isF b) (M : Mem) : AM yX2_draw cX2_draw 1 (some .int) 0 60 glC (fun ad => [.ref (ad b)]) M (PI (fun _ M' => ∀ a, a ≠ b → M' a = M a)) := by
  refine AM.of (by decide) (fun _ => Nat.le_of_ble_eq_true rfl) (fun X ad cI cZ cB hX hR => ?_)
  show V X M [(0, .ref (ad b))] [] 0
  have hb0 : b = 1 ∨ b = 7 ∨ b = 13 := hb
  have hf_0 : ∀ a, a ≠ b → M a = M a := fun _ _ => rfl
  refine s_aload_n (k := 0) hX dX2_draw_0 rfl rfl ?_
  refine s_sipush (v := (nI 25173)) hX dX2_draw_1 (by decide) ?_
  refine s_aload_n (k := 0) hX dX2_draw_4 rfl rfl ?_
  refine s_get hX fX2_32 (oF hb) rfl dX2_draw_5 ?_
  refine s_imul hX dX2_draw_8 ?_
  refine s_sipush (v := (nI 13849)) hX dX2_draw_9 (by decide) ?_
  refine s_iadd hX dX2_draw_12 ?_
  refine s_ldc (v := (nI 65535)) hX kX2_55 dX2_draw_13 ?_
  refine s_iand hX dX2_draw_15 ?_
  refine s_puti (ty := .int) hX fX2_32 (oF hb) rfl (Nat.le_of_ble_eq_true rfl) ty_2_6 rfl rfl dX2_draw_16 ?_
  refine s_mem (fun M_1 eM_1 => ?_)
  have hfM_1 : ∀ a, a ≠ b → M_1 a = M a := fun a q0 => (congrFun eM_1 a).trans ((mset_n (by omega)).trans (hf_0 a q0))
  refine s_aload_n (k := 0) hX dX2_draw_19 rfl rfl ?_
  refine s_get hX fX2_32 (oF hb) rfl dX2_draw_20 ?_
  refine s_bipush (v := (nI 10)) hX dX2_draw_23 (by decide) ?_
  refine s_irem hX dX2_draw_25 (by decide) ?_
  exact s_iret hX hR dX2_draw_26 hfM_1
set_option maxHeartbeats 4000000 in
theorem s_X2_canStand (b : Nat) (hb : isF b) (v1 : Int32) (M : Mem) : AM yX2_canStand cX2_canStand 2 (some .boolean) 1 60 glC (fun ad => [.ref (ad b), .int v1]) M (PI (fun r M' => (r = 0 ∨ r = 1) ∧ M = M')) := by
  refine AM.of (by decide) (fun _ => Nat.le_of_ble_eq_true rfl) (fun X ad cI cZ cB hX hR => ?_)
  show V X M [(0, .ref (ad b)), (1, .int v1)] [] 0
  have hb0 : b = 1 ∨ b = 7 ∨ b = 13 := hb
  refine s_iload_n (k := 1) hX dX2_canStand_0 rfl rfl ?_
  refine s_bipush (v := (nI 40)) hX dX2_canStand_1 (by decide) ?_
  refine s_icmp_eq (tgt := 20) hX dX2_canStand_3 (by decide) (fun c3 => ?_) (fun c3 => ?_)
  · replace c3 := (q_eq (by omega)).mp c3
    refine s_iconst (v := (nI 1)) hX dX2_canStand_20 (by decide) ?_
    refine s_goto (tgt := 25) hX dX2_canStand_21 (by decide) ?_
    exact s_zret hX hR dX2_canStand_25 (by decide) ⟨(by decide), rfl⟩
  · replace c3 := mt (q_eq (by omega)).mpr c3
    refine s_iload_n (k := 1) hX dX2_canStand_6 rfl rfl ?_
    refine s_bipush (v := (nI 41)) hX dX2_canStand_7 (by decide) ?_
    refine s_icmp_eq (tgt := 20) hX dX2_canStand_9 (by decide) (fun c9 => ?_) (fun c9 => ?_)
    · replace c9 := (q_eq (by omega)).mp c9
      refine s_iconst (v := (nI 1)) hX dX2_canStand_20 (by decide) ?_
      refine s_goto (tgt := 25) hX dX2_canStand_21 (by decide) ?_
      exact s_zret hX hR dX2_canStand_25 (by decide) ⟨(by decide), rfl⟩
    · replace c9 := mt (q_eq (by omega)).mpr c9
      refine s_aload_n (k := 0) hX dX2_canStand_12 rfl rfl ?_
      refine s_iload_n (k := 1) hX dX2_canStand_13 rfl rfl ?_
      refine s_callVi hX (s_X2_isDry b hb _ M) mX2_isDry lX2_45 (by decide) (by decide) (oF hb) rfl rfl rfl rfl rfl (Nat.le_of_ble_eq_true rfl) dX2_canStand_14 (fun r14 M_1 hp14 => ?_)
      obtain ⟨rfl, h2⟩ := hp14
      subst h2
      refine s_if_eq (tgt := 24) hX dX2_canStand_17 (by decide) (fun c17 => ?_) (fun c17 => ?_)
      · replace c17 := bI_eq c17
        refine s_iconst (v := (nI 0)) hX dX2_canStand_24 (by decide) ?_
        exact s_zret hX hR dX2_canStand_25 (by decide) ⟨(by decide), rfl⟩
      · replace c17 := bI_ne c17
        refine s_iconst (v := (nI 1)) hX dX2_canStand_20 (by decide) ?_
        refine s_goto (tgt := 25) hX dX2_canStand_21 (by decide) ?_
        exact s_zret hX hR dX2_canStand_25 (by decide) ⟨(by decide), rfl⟩
set_option maxHeartbeats 4000000 in
theorem s_X2_heightOf (b : Nat) (hb : isF b) (v1 : Int32) (M : Mem) : AM yX2_heightOf cX2_heightOf 2 (some .int) 0 60 glC (fun ad => [.ref (ad b), .int v1]) M (PI (fun _ M' => M = M')) := by
  refine AM.of (by decide) (fun _ => Nat.le_of_ble_eq_true rfl) (fun X ad cI cZ cB hX hR => ?_)
  show V X M [(0, .ref (ad b)), (1, .int v1)] [] 0
  have hb0 : b = 1 ∨ b = 7 ∨ b = 13 := hb
  refine s_iload_n (k := 1) hX dX2_heightOf_0 rfl rfl ?_
  refine s_bipush (v := (nI 41)) hX dX2_heightOf_1 (by decide) ?_
  refine s_icmp_ne (tgt := 9) hX dX2_heightOf_3 (by decide) (fun c3 => ?_) (fun c3 => ?_)
  · replace c3 := mt (q_eq (by omega)).mpr c3
    refine s_iload_n (k := 1) hX dX2_heightOf_9 rfl rfl ?_
    refine s_if_lt (tgt := 28) hX dX2_heightOf_10 (by decide) (fun c10 => ?_) (fun c10 => ?_)
    · replace c10 := z_lt.mp c10
      refine s_iconst (v := (nI 0)) hX dX2_heightOf_28 (by decide) ?_
      exact s_iret hX hR dX2_heightOf_29 rfl
    · replace c10 := mt z_lt.mpr c10
      refine s_iload_n (k := 1) hX dX2_heightOf_13 rfl rfl ?_
      refine s_bipush (v := (nI 40)) hX dX2_heightOf_14 (by decide) ?_
      refine s_icmp_ge (tgt := 28) hX dX2_heightOf_16 (by decide) (fun c16 => ?_) (fun c16 => ?_)
      · replace c16 := (q_ge (by omega)).mp c16
        refine s_iconst (v := (nI 0)) hX dX2_heightOf_28 (by decide) ?_
        exact s_iret hX hR dX2_heightOf_29 rfl
      · replace c16 := mt (q_ge (by omega)).mpr c16
        refine s_aload_n (k := 0) hX dX2_heightOf_19 rfl rfl ?_
        refine s_get hX fX2_15 (oF hb) rfl dX2_heightOf_20 ?_
        refine s_iload_n (k := 1) hX dX2_heightOf_23 rfl rfl ?_
        refine s_iald hX (aF2 hb) (vp_in_iff.mpr (by omega)) dX2_heightOf_24 ?_
        refine s_goto (tgt := 29) hX dX2_heightOf_25 (by decide) ?_
        exact s_iret hX hR dX2_heightOf_29 rfl
  · replace c3 := (q_eq (by omega)).mp c3
    refine s_bipush (v := (nI 21)) hX dX2_heightOf_6 (by decide) ?_
    exact s_iret hX hR dX2_heightOf_8 rfl
set_option maxHeartbeats 4000000 in
theorem s_X2_isStepFrom (b : Nat) (hb : isF b) (v1 : Int32) (v2 : Int32) (v3 : Int32) (v4 : Int32) (M : Mem) : AM yX2_isStepFrom cX2_isStepFrom 7 (some .boolean) 1 60 glC (fun ad => [.ref (ad b), .int v1, .int v2, .int v3, .int v4]) M (PI (fun r M' => (r = 0 ∨ r = 1) ∧ M = M')) := by
  refine AM.of (by decide) (fun _ => Nat.le_of_ble_eq_true rfl) (fun X ad cI cZ cB hX hR => ?_)
  show V X M [(0, .ref (ad b)), (1, .int v1), (2, .int v2), (3, .int v3), (4, .int v4)] [] 0
  have hb0 : b = 1 ∨ b = 7 ∨ b = 13 := hb
  refine s_iload_n (k := 1) hX dX2_isStepFrom_0 rfl rfl ?_
  refine s_if_lt (tgt := 21) hX dX2_isStepFrom_1 (by decide) (fun c1 => ?_) (fun c1 => ?_)
  · replace c1 := z_lt.mp c1
    refine s_iconst (v := (nI 0)) hX dX2_isStepFrom_21 (by decide) ?_
    refine s_istore (lv' := [(0, .ref (ad b)), (1, .int v1), (2, .int v2), (3, .int v3), (4, .int v4), (5, .int (nI 0))]) hX dX2_isStepFrom_22 (by decide) rfl ?_
    refine s_aload_n (k := 0) hX dX2_isStepFrom_24 rfl rfl ?_
    refine s_iload_n (k := 1) hX dX2_isStepFrom_25 rfl rfl ?_
    refine s_callVi hX (s_X2_heightOf b hb _ M) mX2_heightOf lX2_63 (by decide) (by decide) (oF hb) rfl rfl rfl rfl rfl (Nat.le_of_ble_eq_true rfl) dX2_isStepFrom_26 (fun r26 M_2 hp26 => ?_)
    subst hp26
    refine s_iload_n (k := 3) hX dX2_isStepFrom_29 rfl rfl ?_
    refine s_isub hX dX2_isStepFrom_30 ?_
    refine s_topi (fun x6_3 ex6_3 => ?_)
    refine s_istore (lv' := [(0, .ref (ad b)), (1, .int v1), (2, .int v2), (3, .int v3), (4, .int v4), (5, .int (nI 0)), (6, .int x6_3)]) hX dX2_isStepFrom_31 (by decide) rfl ?_
    refine s_iload (k := 5) hX dX2_isStepFrom_33 rfl ?_
    refine s_iload (k := 5) hX dX2_isStepFrom_35 rfl ?_
    refine s_imul hX dX2_isStepFrom_37 ?_
    refine s_iload (k := 6) hX dX2_isStepFrom_38 rfl ?_
    refine s_iload (k := 6) hX dX2_isStepFrom_40 rfl ?_
    refine s_imul hX dX2_isStepFrom_42 ?_
    refine s_iadd hX dX2_isStepFrom_43 ?_
    refine s_iload (k := 4) hX dX2_isStepFrom_44 rfl ?_
    refine s_iload (k := 4) hX dX2_isStepFrom_46 rfl ?_
    refine s_imul hX dX2_isStepFrom_48 ?_
    refine s_icmp_gt (tgt := 56) hX dX2_isStepFrom_49 (by decide) (fun c49 => ?_) (fun c49 => ?_)
    · refine s_iconst (v := (nI 0)) hX dX2_isStepFrom_56 (by decide) ?_
      exact s_zret hX hR dX2_isStepFrom_57 (by decide) ⟨(by decide), rfl⟩
    · refine s_iconst (v := (nI 1)) hX dX2_isStepFrom_52 (by decide) ?_
      refine s_goto (tgt := 57) hX dX2_isStepFrom_53 (by decide) ?_
      exact s_zret hX hR dX2_isStepFrom_57 (by decide) ⟨(by decide), rfl⟩
  · replace c1 := mt z_lt.mpr c1
    refine s_iload_n (k := 1) hX dX2_isStepFrom_4 rfl rfl ?_
    refine s_bipush (v := (nI 40)) hX dX2_isStepFrom_5 (by decide) ?_
    refine s_icmp_ge (tgt := 21) hX dX2_isStepFrom_7 (by decide) (fun c7 => ?_) (fun c7 => ?_)
    · replace c7 := (q_ge (by omega)).mp c7
      refine s_iconst (v := (nI 0)) hX dX2_isStepFrom_21 (by decide) ?_
      refine s_istore (lv' := [(0, .ref (ad b)), (1, .int v1), (2, .int v2), (3, .int v3), (4, .int v4), (5, .int (nI 0))]) hX dX2_isStepFrom_22 (by decide) rfl ?_
      refine s_aload_n (k := 0) hX dX2_isStepFrom_24 rfl rfl ?_
      refine s_iload_n (k := 1) hX dX2_isStepFrom_25 rfl rfl ?_
      refine s_callVi hX (s_X2_heightOf b hb _ M) mX2_heightOf lX2_63 (by decide) (by decide) (oF hb) rfl rfl rfl rfl rfl (Nat.le_of_ble_eq_true rfl) dX2_isStepFrom_26 (fun r26 M_5 hp26 => ?_)
      subst hp26
      refine s_iload_n (k := 3) hX dX2_isStepFrom_29 rfl rfl ?_
      refine s_isub hX dX2_isStepFrom_30 ?_
      refine s_topi (fun x6_6 ex6_6 => ?_)
      refine s_istore (lv' := [(0, .ref (ad b)), (1, .int v1), (2, .int v2), (3, .int v3), (4, .int v4), (5, .int (nI 0)), (6, .int x6_6)]) hX dX2_isStepFrom_31 (by decide) rfl ?_
      refine s_iload (k := 5) hX dX2_isStepFrom_33 rfl ?_
      refine s_iload (k := 5) hX dX2_isStepFrom_35 rfl ?_
      refine s_imul hX dX2_isStepFrom_37 ?_
      refine s_iload (k := 6) hX dX2_isStepFrom_38 rfl ?_
      refine s_iload (k := 6) hX dX2_isStepFrom_40 rfl ?_
      refine s_imul hX dX2_isStepFrom_42 ?_
      refine s_iadd hX dX2_isStepFrom_43 ?_
      refine s_iload (k := 4) hX dX2_isStepFrom_44 rfl ?_
      refine s_iload (k := 4) hX dX2_isStepFrom_46 rfl ?_
      refine s_imul hX dX2_isStepFrom_48 ?_
      refine s_icmp_gt (tgt := 56) hX dX2_isStepFrom_49 (by decide) (fun c49 => ?_) (fun c49 => ?_)
      · refine s_iconst (v := (nI 0)) hX dX2_isStepFrom_56 (by decide) ?_
        exact s_zret hX hR dX2_isStepFrom_57 (by decide) ⟨(by decide), rfl⟩
      · refine s_iconst (v := (nI 1)) hX dX2_isStepFrom_52 (by decide) ?_
        refine s_goto (tgt := 57) hX dX2_isStepFrom_53 (by decide) ?_
        exact s_zret hX hR dX2_isStepFrom_57 (by decide) ⟨(by decide), rfl⟩
    · replace c7 := mt (q_ge (by omega)).mpr c7
      refine s_aload_n (k := 0) hX dX2_isStepFrom_10 rfl rfl ?_
      refine s_get hX fX2_9 (oF hb) rfl dX2_isStepFrom_11 ?_
      refine s_iload_n (k := 1) hX dX2_isStepFrom_14 rfl rfl ?_
      refine s_iald hX (aF1 hb) (vp_in_iff.mpr (by omega)) dX2_isStepFrom_15 ?_
      refine s_iload_n (k := 2) hX dX2_isStepFrom_16 rfl rfl ?_
      refine s_isub hX dX2_isStepFrom_17 ?_
      refine s_goto (tgt := 22) hX dX2_isStepFrom_18 (by decide) ?_
      refine s_topi (fun x5_7 ex5_7 => ?_)
      refine s_istore (lv' := [(0, .ref (ad b)), (1, .int v1), (2, .int v2), (3, .int v3), (4, .int v4), (5, .int x5_7)]) hX dX2_isStepFrom_22 (by decide) rfl ?_
      refine s_aload_n (k := 0) hX dX2_isStepFrom_24 rfl rfl ?_
      refine s_iload_n (k := 1) hX dX2_isStepFrom_25 rfl rfl ?_
      refine s_callVi hX (s_X2_heightOf b hb _ M) mX2_heightOf lX2_63 (by decide) (by decide) (oF hb) rfl rfl rfl rfl rfl (Nat.le_of_ble_eq_true rfl) dX2_isStepFrom_26 (fun r26 M_8 hp26 => ?_)
      subst hp26
      refine s_iload_n (k := 3) hX dX2_isStepFrom_29 rfl rfl ?_
      refine s_isub hX dX2_isStepFrom_30 ?_
      refine s_topi (fun x6_9 ex6_9 => ?_)
      refine s_istore (lv' := [(0, .ref (ad b)), (1, .int v1), (2, .int v2), (3, .int v3), (4, .int v4), (5, .int x5_7), (6, .int x6_9)]) hX dX2_isStepFrom_31 (by decide) rfl ?_
      refine s_iload (k := 5) hX dX2_isStepFrom_33 rfl ?_
      refine s_iload (k := 5) hX dX2_isStepFrom_35 rfl ?_
      refine s_imul hX dX2_isStepFrom_37 ?_
      refine s_iload (k := 6) hX dX2_isStepFrom_38 rfl ?_
      refine s_iload (k := 6) hX dX2_isStepFrom_40 rfl ?_
      refine s_imul hX dX2_isStepFrom_42 ?_
      refine s_iadd hX dX2_isStepFrom_43 ?_
      refine s_iload (k := 4) hX dX2_isStepFrom_44 rfl ?_
      refine s_iload (k := 4) hX dX2_isStepFrom_46 rfl ?_
      refine s_imul hX dX2_isStepFrom_48 ?_
      refine s_icmp_gt (tgt := 56) hX dX2_isStepFrom_49 (by decide) (fun c49 => ?_) (fun c49 => ?_)
      · refine s_iconst (v := (nI 0)) hX dX2_isStepFrom_56 (by decide) ?_
        exact s_zret hX hR dX2_isStepFrom_57 (by decide) ⟨(by decide), rfl⟩
      · refine s_iconst (v := (nI 1)) hX dX2_isStepFrom_52 (by decide) ?_
        refine s_goto (tgt := 57) hX dX2_isStepFrom_53 (by decide) ?_
        exact s_zret hX hR dX2_isStepFrom_57 (by decide) ⟨(by decide), rfl⟩
set_option maxHeartbeats 4000000 in
theorem s_X2_isStep (b : Nat) (hb : isF b) (v1 : Int32) (v2 : Int32) (v3 : Int32) (M : Mem) : AM yX2_isStep cX2_isStep 4 (some .boolean) 2 60 glC (fun ad => [.ref (ad b), .int v1, .int v2, .int v3]) M (PI (fun r M' => (r = 0 ∨ r = 1) ∧ M = M')) := by
  refine AM.of (by decide) (fun _ => Nat.le_of_ble_eq_true rfl) (fun X ad cI cZ cB hX hR => ?_)
  show V X M [(0, .ref (ad b)), (1, .int v1), (2, .int v2), (3, .int v3)] [] 0
  have hb0 : b = 1 ∨ b = 7 ∨ b = 13 := hb
  refine s_iload_n (k := 1) hX dX2_isStep_0 rfl rfl ?_
  refine s_iload_n (k := 2) hX dX2_isStep_1 rfl rfl ?_
  refine s_icmp_eq (tgt := 13) hX dX2_isStep_2 (by decide) (fun c2 => ?_) (fun c2 => ?_)
  · replace c2 := Int32.toInt_inj.symm.mp c2
    refine s_iconst (v := (nI 0)) hX dX2_isStep_13 (by decide) ?_
    exact s_zret hX hR dX2_isStep_14 (by decide) ⟨(by decide), rfl⟩
  · replace c2 := mt Int32.toInt_inj.symm.mpr c2
    refine s_aload_n (k := 0) hX dX2_isStep_5 rfl rfl ?_
    refine s_iload_n (k := 1) hX dX2_isStep_6 rfl rfl ?_
    refine s_callVi hX (s_X2_canStand b hb _ M) mX2_canStand lX2_56 (by decide) (by decide) (oF hb) rfl rfl rfl rfl rfl (Nat.le_of_ble_eq_true rfl) dX2_isStep_7 (fun r7 M_1 hp7 => ?_)
    obtain ⟨hz7, hq7⟩ := hp7
    subst hq7
    refine s_if_ne (tgt := 15) hX dX2_isStep_10 (by decide) (fun c10 => ?_) (fun c10 => ?_)
    · replace c10 := mt z_eq.mpr c10
      refine s_iload_n (k := 2) hX dX2_isStep_15 rfl rfl ?_
      refine s_if_lt (tgt := 60) hX dX2_isStep_16 (by decide) (fun c16 => ?_) (fun c16 => ?_)
      · replace c16 := z_lt.mp c16
        refine s_iload_n (k := 2) hX dX2_isStep_60 rfl rfl ?_
        refine s_bipush (v := (nI 40)) hX dX2_isStep_61 (by decide) ?_
        refine s_icmp_eq (tgt := 72) hX dX2_isStep_63 (by decide) (fun c63 => ?_) (fun c63 => ?_)
        · replace c63 := (q_eq (by omega)).mp c63
          refine s_aload_n (k := 0) hX dX2_isStep_72 rfl rfl ?_
          refine s_iload_n (k := 1) hX dX2_isStep_73 rfl rfl ?_
          refine s_callVi hX (s_X2_heightOf b hb _ M) mX2_heightOf lX2_63 (by decide) (by decide) (oF hb) rfl rfl rfl rfl rfl (Nat.le_of_ble_eq_true rfl) dX2_isStep_74 (fun r74 M_2 hp74 => ?_)
          subst hp74
          refine s_aload_n (k := 0) hX dX2_isStep_77 rfl rfl ?_
          refine s_iload_n (k := 2) hX dX2_isStep_78 rfl rfl ?_
          refine s_callVi hX (s_X2_heightOf b hb _ M) mX2_heightOf lX2_63 (by decide) (by decide) (oF hb) rfl rfl rfl rfl rfl (Nat.le_of_ble_eq_true rfl) dX2_isStep_79 (fun r79 M_3 hp79 => ?_)
          subst hp79
          refine s_isub hX dX2_isStep_82 ?_
          refine s_mabs hX lX2_67 mJ9_abs (by decide) (Nat.le_of_ble_eq_true rfl) dX2_isStep_83 ?_
          refine s_iload_n (k := 3) hX dX2_isStep_86 rfl rfl ?_
          refine s_icmp_gt (tgt := 94) hX dX2_isStep_87 (by decide) (fun c87 => ?_) (fun c87 => ?_)
          · refine s_iconst (v := (nI 0)) hX dX2_isStep_94 (by decide) ?_
            exact s_zret hX hR dX2_isStep_95 (by decide) ⟨(by decide), rfl⟩
          · refine s_iconst (v := (nI 1)) hX dX2_isStep_90 (by decide) ?_
            refine s_goto (tgt := 95) hX dX2_isStep_91 (by decide) ?_
            exact s_zret hX hR dX2_isStep_95 (by decide) ⟨(by decide), rfl⟩
        · replace c63 := mt (q_eq (by omega)).mpr c63
          refine s_iload_n (k := 2) hX dX2_isStep_66 rfl rfl ?_
          refine s_bipush (v := (nI 41)) hX dX2_isStep_67 (by decide) ?_
          refine s_icmp_ne (tgt := 94) hX dX2_isStep_69 (by decide) (fun c69 => ?_) (fun c69 => ?_)
          · replace c69 := mt (q_eq (by omega)).mpr c69
            refine s_iconst (v := (nI 0)) hX dX2_isStep_94 (by decide) ?_
            exact s_zret hX hR dX2_isStep_95 (by decide) ⟨(by decide), rfl⟩
          · replace c69 := (q_eq (by omega)).mp c69
            refine s_aload_n (k := 0) hX dX2_isStep_72 rfl rfl ?_
            refine s_iload_n (k := 1) hX dX2_isStep_73 rfl rfl ?_
            refine s_callVi hX (s_X2_heightOf b hb _ M) mX2_heightOf lX2_63 (by decide) (by decide) (oF hb) rfl rfl rfl rfl rfl (Nat.le_of_ble_eq_true rfl) dX2_isStep_74 (fun r74 M_4 hp74 => ?_)
            subst hp74
            refine s_aload_n (k := 0) hX dX2_isStep_77 rfl rfl ?_
            refine s_iload_n (k := 2) hX dX2_isStep_78 rfl rfl ?_
            refine s_callVi hX (s_X2_heightOf b hb _ M) mX2_heightOf lX2_63 (by decide) (by decide) (oF hb) rfl rfl rfl rfl rfl (Nat.le_of_ble_eq_true rfl) dX2_isStep_79 (fun r79 M_5 hp79 => ?_)
            subst hp79
            refine s_isub hX dX2_isStep_82 ?_
            refine s_mabs hX lX2_67 mJ9_abs (by decide) (Nat.le_of_ble_eq_true rfl) dX2_isStep_83 ?_
            refine s_iload_n (k := 3) hX dX2_isStep_86 rfl rfl ?_
            refine s_icmp_gt (tgt := 94) hX dX2_isStep_87 (by decide) (fun c87 => ?_) (fun c87 => ?_)
            · refine s_iconst (v := (nI 0)) hX dX2_isStep_94 (by decide) ?_
              exact s_zret hX hR dX2_isStep_95 (by decide) ⟨(by decide), rfl⟩
            · refine s_iconst (v := (nI 1)) hX dX2_isStep_90 (by decide) ?_
              refine s_goto (tgt := 95) hX dX2_isStep_91 (by decide) ?_
              exact s_zret hX hR dX2_isStep_95 (by decide) ⟨(by decide), rfl⟩
      · replace c16 := mt z_lt.mpr c16
        refine s_iload_n (k := 2) hX dX2_isStep_19 rfl rfl ?_
        refine s_bipush (v := (nI 40)) hX dX2_isStep_20 (by decide) ?_
        refine s_icmp_ge (tgt := 60) hX dX2_isStep_22 (by decide) (fun c22 => ?_) (fun c22 => ?_)
        · replace c22 := (q_ge (by omega)).mp c22
          refine s_iload_n (k := 2) hX dX2_isStep_60 rfl rfl ?_
          refine s_bipush (v := (nI 40)) hX dX2_isStep_61 (by decide) ?_
          refine s_icmp_eq (tgt := 72) hX dX2_isStep_63 (by decide) (fun c63 => ?_) (fun c63 => ?_)
          · replace c63 := (q_eq (by omega)).mp c63
            refine s_aload_n (k := 0) hX dX2_isStep_72 rfl rfl ?_
            refine s_iload_n (k := 1) hX dX2_isStep_73 rfl rfl ?_
            refine s_callVi hX (s_X2_heightOf b hb _ M) mX2_heightOf lX2_63 (by decide) (by decide) (oF hb) rfl rfl rfl rfl rfl (Nat.le_of_ble_eq_true rfl) dX2_isStep_74 (fun r74 M_6 hp74 => ?_)
            subst hp74
            refine s_aload_n (k := 0) hX dX2_isStep_77 rfl rfl ?_
            refine s_iload_n (k := 2) hX dX2_isStep_78 rfl rfl ?_
            refine s_callVi hX (s_X2_heightOf b hb _ M) mX2_heightOf lX2_63 (by decide) (by decide) (oF hb) rfl rfl rfl rfl rfl (Nat.le_of_ble_eq_true rfl) dX2_isStep_79 (fun r79 M_7 hp79 => ?_)
            subst hp79
            refine s_isub hX dX2_isStep_82 ?_
            refine s_mabs hX lX2_67 mJ9_abs (by decide) (Nat.le_of_ble_eq_true rfl) dX2_isStep_83 ?_
            refine s_iload_n (k := 3) hX dX2_isStep_86 rfl rfl ?_
            refine s_icmp_gt (tgt := 94) hX dX2_isStep_87 (by decide) (fun c87 => ?_) (fun c87 => ?_)
            · refine s_iconst (v := (nI 0)) hX dX2_isStep_94 (by decide) ?_
              exact s_zret hX hR dX2_isStep_95 (by decide) ⟨(by decide), rfl⟩
            · refine s_iconst (v := (nI 1)) hX dX2_isStep_90 (by decide) ?_
              refine s_goto (tgt := 95) hX dX2_isStep_91 (by decide) ?_
              exact s_zret hX hR dX2_isStep_95 (by decide) ⟨(by decide), rfl⟩
          · replace c63 := mt (q_eq (by omega)).mpr c63
            refine s_iload_n (k := 2) hX dX2_isStep_66 rfl rfl ?_
            refine s_bipush (v := (nI 41)) hX dX2_isStep_67 (by decide) ?_
            refine s_icmp_ne (tgt := 94) hX dX2_isStep_69 (by decide) (fun c69 => ?_) (fun c69 => ?_)
            · replace c69 := mt (q_eq (by omega)).mpr c69
              refine s_iconst (v := (nI 0)) hX dX2_isStep_94 (by decide) ?_
              exact s_zret hX hR dX2_isStep_95 (by decide) ⟨(by decide), rfl⟩
            · replace c69 := (q_eq (by omega)).mp c69
              refine s_aload_n (k := 0) hX dX2_isStep_72 rfl rfl ?_
              refine s_iload_n (k := 1) hX dX2_isStep_73 rfl rfl ?_
              refine s_callVi hX (s_X2_heightOf b hb _ M) mX2_heightOf lX2_63 (by decide) (by decide) (oF hb) rfl rfl rfl rfl rfl (Nat.le_of_ble_eq_true rfl) dX2_isStep_74 (fun r74 M_8 hp74 => ?_)
              subst hp74
              refine s_aload_n (k := 0) hX dX2_isStep_77 rfl rfl ?_
              refine s_iload_n (k := 2) hX dX2_isStep_78 rfl rfl ?_
              refine s_callVi hX (s_X2_heightOf b hb _ M) mX2_heightOf lX2_63 (by decide) (by decide) (oF hb) rfl rfl rfl rfl rfl (Nat.le_of_ble_eq_true rfl) dX2_isStep_79 (fun r79 M_9 hp79 => ?_)
              subst hp79
              refine s_isub hX dX2_isStep_82 ?_
              refine s_mabs hX lX2_67 mJ9_abs (by decide) (Nat.le_of_ble_eq_true rfl) dX2_isStep_83 ?_
              refine s_iload_n (k := 3) hX dX2_isStep_86 rfl rfl ?_
              refine s_icmp_gt (tgt := 94) hX dX2_isStep_87 (by decide) (fun c87 => ?_) (fun c87 => ?_)
              · refine s_iconst (v := (nI 0)) hX dX2_isStep_94 (by decide) ?_
                exact s_zret hX hR dX2_isStep_95 (by decide) ⟨(by decide), rfl⟩
              · refine s_iconst (v := (nI 1)) hX dX2_isStep_90 (by decide) ?_
                refine s_goto (tgt := 95) hX dX2_isStep_91 (by decide) ?_
                exact s_zret hX hR dX2_isStep_95 (by decide) ⟨(by decide), rfl⟩
        · replace c22 := mt (q_ge (by omega)).mpr c22
          refine s_aload_n (k := 0) hX dX2_isStep_25 rfl rfl ?_
          refine s_iload_n (k := 2) hX dX2_isStep_26 rfl rfl ?_
          refine s_callVi hX (s_X2_isDry b hb _ M) mX2_isDry lX2_45 (by decide) (by decide) (oF hb) rfl rfl rfl rfl rfl (Nat.le_of_ble_eq_true rfl) dX2_isStep_27 (fun r27 M_10 hp27 => ?_)
          obtain ⟨rfl, h2⟩ := hp27
          subst h2
          refine s_if_eq (tgt := 58) hX dX2_isStep_30 (by decide) (fun c30 => ?_) (fun c30 => ?_)
          · replace c30 := bI_eq c30
            refine s_iconst (v := (nI 0)) hX dX2_isStep_58 (by decide) ?_
            exact s_zret hX hR dX2_isStep_59 (by decide) ⟨(by decide), rfl⟩
          · replace c30 := bI_ne c30
            refine s_aload_n (k := 0) hX dX2_isStep_33 rfl rfl ?_
            refine s_iload_n (k := 1) hX dX2_isStep_34 rfl rfl ?_
            refine s_aload_n (k := 0) hX dX2_isStep_35 rfl rfl ?_
            refine s_get hX fX2_9 (oF hb) rfl dX2_isStep_36 ?_
            refine s_iload_n (k := 2) hX dX2_isStep_39 rfl rfl ?_
            refine s_iald hX (aF1 hb) (vp_in_iff.mpr (by omega)) dX2_isStep_40 ?_
            refine s_aload_n (k := 0) hX dX2_isStep_41 rfl rfl ?_
            refine s_get hX fX2_15 (oF hb) rfl dX2_isStep_42 ?_
            refine s_iload_n (k := 2) hX dX2_isStep_45 rfl rfl ?_
            refine s_iald hX (aF2 hb) (vp_in_iff.mpr (by omega)) dX2_isStep_46 ?_
            refine s_iload_n (k := 3) hX dX2_isStep_47 rfl rfl ?_
            refine s_callVi hX (s_X2_isStepFrom b hb _ _ _ _ M) mX2_isStepFrom lX2_59 (by decide) (by decide) (oF hb) rfl rfl rfl rfl rfl (Nat.le_of_ble_eq_true rfl) dX2_isStep_48 (fun r48 M_11 hp48 => ?_)
            obtain ⟨hz48, hq48⟩ := hp48
            subst hq48
            refine s_if_eq (tgt := 58) hX dX2_isStep_51 (by decide) (fun c51 => ?_) (fun c51 => ?_)
            · replace c51 := z_eq.mp c51
              refine s_iconst (v := (nI 0)) hX dX2_isStep_58 (by decide) ?_
              exact s_zret hX hR dX2_isStep_59 (by decide) ⟨(by decide), rfl⟩
            · replace c51 := mt z_eq.mpr c51
              refine s_iconst (v := (nI 1)) hX dX2_isStep_54 (by decide) ?_
              refine s_goto (tgt := 59) hX dX2_isStep_55 (by decide) ?_
              exact s_zret hX hR dX2_isStep_59 (by decide) ⟨(by decide), rfl⟩
    · replace c10 := z_eq.mp c10
      refine s_iconst (v := (nI 0)) hX dX2_isStep_13 (by decide) ?_
      exact s_zret hX hR dX2_isStep_14 (by decide) ⟨(by decide), rfl⟩
set_option maxHeartbeats 4000000 in
theorem s_X7_byteAt (v1 : Int32) (M : Mem) : AM yX7_byteAt cX7_byteAt 2 (some .int) 0 60 glC (fun ad => [.ref (ad 19), .int v1]) M (PI (fun _ M' => M = M')) := by
  refine AM.of (by decide) (fun _ => Nat.le_of_ble_eq_true rfl) (fun X ad cI cZ cB hX hR => ?_)
  show V X M [(0, .ref (ad 19)), (1, .int v1)] [] 0
  refine s_iload_n (k := 1) hX dX7_byteAt_0 rfl rfl ?_
  refine s_if_lt (tgt := 28) hX dX7_byteAt_1 (by decide) (fun c1 => ?_) (fun c1 => ?_)
  · replace c1 := z_lt.mp c1
    refine s_iconst (v := (-1)) hX dX7_byteAt_28 (by decide) ?_
    exact s_iret hX hR dX7_byteAt_29 rfl
  · replace c1 := mt z_lt.mpr c1
    refine s_iload_n (k := 1) hX dX7_byteAt_4 rfl rfl ?_
    refine s_aload_n (k := 0) hX dX7_byteAt_5 rfl rfl ?_
    refine s_get hX fX7_19 oC19 rfl dX7_byteAt_6 ?_
    refine s_icmp_ge (tgt := 28) hX dX7_byteAt_9 (by decide) (fun c9 => ?_) (fun c9 => ?_)
    · replace c9 := Int32.le_iff_toInt_le.mp c9
      refine s_iconst (v := (-1)) hX dX7_byteAt_28 (by decide) ?_
      exact s_iret hX hR dX7_byteAt_29 rfl
    · replace c9 := mt Int32.le_iff_toInt_le.mpr c9
      refine s_iload_n (k := 1) hX dX7_byteAt_12 rfl rfl ?_
      refine s_sipush (v := (nI 260)) hX dX7_byteAt_13 (by decide) ?_
      refine s_icmp_ge (tgt := 28) hX dX7_byteAt_16 (by decide) (fun c16 => ?_) (fun c16 => ?_)
      · replace c16 := (q_ge (by omega)).mp c16
        refine s_iconst (v := (-1)) hX dX7_byteAt_28 (by decide) ?_
        exact s_iret hX hR dX7_byteAt_29 rfl
      · replace c16 := mt (q_ge (by omega)).mpr c16
        refine s_aload_n (k := 0) hX dX7_byteAt_19 rfl rfl ?_
        refine s_get hX fX7_9 oC19 rfl dX7_byteAt_20 ?_
        refine s_iload_n (k := 1) hX dX7_byteAt_23 rfl rfl ?_
        refine s_iald hX aC20 (vp_in_iff.mpr (by omega)) dX7_byteAt_24 ?_
        refine s_goto (tgt := 29) hX dX7_byteAt_25 (by decide) ?_
        exact s_iret hX hR dX7_byteAt_29 rfl
set_option maxHeartbeats 4000000 in
theorem s_X7_here (M : Mem) : AM yX7_here cX7_here 1 (some .int) 0 60 glC (fun ad => [.ref (ad 19)]) M (PI (fun _ M' => M = M')) := by
  refine AM.of (by decide) (fun _ => Nat.le_of_ble_eq_true rfl) (fun X ad cI cZ cB hX hR => ?_)
  show V X M [(0, .ref (ad 19))] [] 0
  refine s_aload_n (k := 0) hX dX7_here_0 rfl rfl ?_
  refine s_get hX fX7_22 oC19 rfl dX7_here_1 ?_
  refine s_if_lt (tgt := 40) hX dX7_here_4 (by decide) (fun c4 => ?_) (fun c4 => ?_)
  · replace c4 := z_lt.mp c4
    refine s_iconst (v := (-1)) hX dX7_here_40 (by decide) ?_
    exact s_iret hX hR dX7_here_41 rfl
  · replace c4 := mt z_lt.mpr c4
    refine s_aload_n (k := 0) hX dX7_here_7 rfl rfl ?_
    refine s_get hX fX7_22 oC19 rfl dX7_here_8 ?_
    refine s_aload_n (k := 0) hX dX7_here_11 rfl rfl ?_
    refine s_get hX fX7_19 oC19 rfl dX7_here_12 ?_
    refine s_icmp_ge (tgt := 40) hX dX7_here_15 (by decide) (fun c15 => ?_) (fun c15 => ?_)
    · replace c15 := Int32.le_iff_toInt_le.mp c15
      refine s_iconst (v := (-1)) hX dX7_here_40 (by decide) ?_
      exact s_iret hX hR dX7_here_41 rfl
    · replace c15 := mt Int32.le_iff_toInt_le.mpr c15
      refine s_aload_n (k := 0) hX dX7_here_18 rfl rfl ?_
      refine s_get hX fX7_22 oC19 rfl dX7_here_19 ?_
      refine s_sipush (v := (nI 260)) hX dX7_here_22 (by decide) ?_
      refine s_icmp_ge (tgt := 40) hX dX7_here_25 (by decide) (fun c25 => ?_) (fun c25 => ?_)
      · replace c25 := (q_ge (by omega)).mp c25
        refine s_iconst (v := (-1)) hX dX7_here_40 (by decide) ?_
        exact s_iret hX hR dX7_here_41 rfl
      · replace c25 := mt (q_ge (by omega)).mpr c25
        refine s_aload_n (k := 0) hX dX7_here_28 rfl rfl ?_
        refine s_get hX fX7_9 oC19 rfl dX7_here_29 ?_
        refine s_aload_n (k := 0) hX dX7_here_32 rfl rfl ?_
        refine s_get hX fX7_22 oC19 rfl dX7_here_33 ?_
        refine s_iald hX aC20 (vp_in_iff.mpr (by omega)) dX7_here_36 ?_
        refine s_goto (tgt := 41) hX dX7_here_37 (by decide) ?_
        exact s_iret hX hR dX7_here_41 rfl
set_option maxHeartbeats 4000000 in
theorem s_X7_holds (v1 : Int32) (v2 : Int32) (v3 : Int32) (M : Mem) : AM yX7_holds cX7_holds 4 (some .boolean) 0 60 glC (fun ad => [.ref (ad 19), .int v1, .int v2, .int v3]) M (PI (fun r M' => (r = 0 ∨ r = 1) ∧ M = M')) := by
  refine AM.of (by decide) (fun _ => Nat.le_of_ble_eq_true rfl) (fun X ad cI cZ cB hX hR => ?_)
  show V X M [(0, .ref (ad 19)), (1, .int v1), (2, .int v2), (3, .int v3)] [] 0
  refine s_iload_n (k := 1) hX dX7_holds_0 rfl rfl ?_
  refine s_iload_n (k := 2) hX dX7_holds_1 rfl rfl ?_
  refine s_icmp_lt (tgt := 22) hX dX7_holds_2 (by decide) (fun c2 => ?_) (fun c2 => ?_)
  · replace c2 := Int32.lt_iff_toInt_lt.mp c2
    refine s_iconst (v := (nI 0)) hX dX7_holds_22 (by decide) ?_
    exact s_zret hX hR dX7_holds_23 (by decide) ⟨(by decide), rfl⟩
  · replace c2 := mt Int32.lt_iff_toInt_lt.mpr c2
    refine s_iload_n (k := 1) hX dX7_holds_5 rfl rfl ?_
    refine s_iload_n (k := 3) hX dX7_holds_6 rfl rfl ?_
    refine s_icmp_gt (tgt := 22) hX dX7_holds_7 (by decide) (fun c7 => ?_) (fun c7 => ?_)
    · replace c7 := Int32.lt_iff_toInt_lt.mp c7
      refine s_iconst (v := (nI 0)) hX dX7_holds_22 (by decide) ?_
      exact s_zret hX hR dX7_holds_23 (by decide) ⟨(by decide), rfl⟩
    · replace c7 := mt Int32.lt_iff_toInt_lt.mpr c7
      refine s_iload_n (k := 1) hX dX7_holds_10 rfl rfl ?_
      refine s_aload_n (k := 0) hX dX7_holds_11 rfl rfl ?_
      refine s_get hX fX7_15 oC19 rfl dX7_holds_12 ?_
      refine s_icmp_gt (tgt := 22) hX dX7_holds_15 (by decide) (fun c15 => ?_) (fun c15 => ?_)
      · replace c15 := Int32.lt_iff_toInt_lt.mp c15
        refine s_iconst (v := (nI 0)) hX dX7_holds_22 (by decide) ?_
        exact s_zret hX hR dX7_holds_23 (by decide) ⟨(by decide), rfl⟩
      · replace c15 := mt Int32.lt_iff_toInt_lt.mpr c15
        refine s_iconst (v := (nI 1)) hX dX7_holds_18 (by decide) ?_
        refine s_goto (tgt := 23) hX dX7_holds_19 (by decide) ?_
        exact s_zret hX hR dX7_holds_23 (by decide) ⟨(by decide), rfl⟩
set_option maxHeartbeats 4000000 in
theorem s_X7_open (v1 : Int32) (M : Mem) : AM yX7_open cX7_open 2 none 0 60 glC (fun ad => [.ref (ad 19), .int v1]) M (PV (fun M' => ∀ a, a ≠ 19 → M' a = M a)) := by
  refine AM.of (by decide) (fun _ => Nat.le_of_ble_eq_true rfl) (fun X ad cI cZ cB hX hR => ?_)
  show V X M [(0, .ref (ad 19)), (1, .int v1)] [] 0
  have hf_0 : ∀ a, a ≠ 19 → M a = M a := fun _ _ => rfl
  refine s_aload_n (k := 0) hX dX7_open_0 rfl rfl ?_
  refine s_iload_n (k := 1) hX dX7_open_1 rfl rfl ?_
  refine s_puti (ty := .int) hX fX7_19 oC19 rfl (Nat.le_of_ble_eq_true rfl) ty_7_2 rfl rfl dX7_open_2 ?_
  refine s_mem (fun M_1 eM_1 => ?_)
  have hfM_1 : ∀ a, a ≠ 19 → M_1 a = M a := fun a q0 => (congrFun eM_1 a).trans ((mset_n (by omega)).trans (hf_0 a q0))
  refine s_aload_n (k := 0) hX dX7_open_5 rfl rfl ?_
  refine s_iconst (v := (nI 0)) hX dX7_open_6 (by decide) ?_
  refine s_puti (ty := .int) hX fX7_22 oC19 rfl (Nat.le_of_ble_eq_true rfl) ty_7_3 rfl rfl dX7_open_7 ?_
  refine s_mem (fun M_2 eM_2 => ?_)
  have hfM_2 : ∀ a, a ≠ 19 → M_2 a = M a := fun a q0 => (congrFun eM_2 a).trans ((mset_n (by omega)).trans (hfM_1 a q0))
  refine s_aload_n (k := 0) hX dX7_open_10 rfl rfl ?_
  refine s_iconst (v := (nI 0)) hX dX7_open_11 (by decide) ?_
  refine s_puti (ty := .int) hX fX7_25 oC19 rfl (Nat.le_of_ble_eq_true rfl) ty_7_4 rfl rfl dX7_open_12 ?_
  refine s_mem (fun M_3 eM_3 => ?_)
  have hfM_3 : ∀ a, a ≠ 19 → M_3 a = M a := fun a q0 => (congrFun eM_3 a).trans ((mset_n (by omega)).trans (hfM_2 a q0))
  refine s_aload_n (k := 0) hX dX7_open_15 rfl rfl ?_
  refine s_iconst (v := (nI 0)) hX dX7_open_16 (by decide) ?_
  refine s_puti (ty := .int) hX fX7_15 oC19 rfl (Nat.le_of_ble_eq_true rfl) ty_7_1 rfl rfl dX7_open_17 ?_
  refine s_mem (fun M_4 eM_4 => ?_)
  have hfM_4 : ∀ a, a ≠ 19 → M_4 a = M a := fun a q0 => (congrFun eM_4 a).trans ((mset_n (by omega)).trans (hfM_3 a q0))
  exact s_vret hX hR dX7_open_20 hfM_4
set_option maxHeartbeats 4000000 in
theorem s_X7_refuse (v1 : Int32) (v2 : Int32) (M : Mem) : AM yX7_refuse cX7_refuse 3 (some .boolean) 0 60 glC (fun ad => [.ref (ad 19), .int v1, .int v2]) M (PI (fun r M' => (r = 0 ∨ r = 1) ∧ (∀ a, a ≠ 19 → M' a = M a))) := by
  refine AM.of (by decide) (fun _ => Nat.le_of_ble_eq_true rfl) (fun X ad cI cZ cB hX hR => ?_)
  show V X M [(0, .ref (ad 19)), (1, .int v1), (2, .int v2)] [] 0
  have hf_0 : ∀ a, a ≠ 19 → M a = M a := fun _ _ => rfl
  refine s_aload_n (k := 0) hX dX7_refuse_0 rfl rfl ?_
  refine s_sipush (v := (-1000)) hX dX7_refuse_1 (by decide) ?_
  refine s_iload_n (k := 1) hX dX7_refuse_4 rfl rfl ?_
  refine s_imul hX dX7_refuse_5 ?_
  refine s_iload_n (k := 2) hX dX7_refuse_6 rfl rfl ?_
  refine s_isub hX dX7_refuse_7 ?_
  refine s_puti (ty := .int) hX fX7_25 oC19 rfl (Nat.le_of_ble_eq_true rfl) ty_7_4 rfl rfl dX7_refuse_8 ?_
  refine s_mem (fun M_1 eM_1 => ?_)
  have hfM_1 : ∀ a, a ≠ 19 → M_1 a = M a := fun a q0 => (congrFun eM_1 a).trans ((mset_n (by omega)).trans (hf_0 a q0))
  refine s_iconst (v := (nI 0)) hX dX7_refuse_11 (by decide) ?_
  exact s_zret hX hR dX7_refuse_12 (by decide) ⟨(by decide), hfM_1⟩
set_option maxHeartbeats 4000000 in
theorem s_X7_skip (v1 : Int32) (M : Mem) : AM yX7_skip cX7_skip 2 (some .boolean) 1 60 glC (fun ad => [.ref (ad 19), .int v1]) M (PI (fun r M' => (r = 0 ∨ r = 1) ∧ (∀ a, a ≠ 19 → M' a = M a))) := by
  refine AM.of (by decide) (fun _ => Nat.le_of_ble_eq_true rfl) (fun X ad cI cZ cB hX hR => ?_)
  show V X M [(0, .ref (ad 19)), (1, .int v1)] [] 0
  have hf_0 : ∀ a, a ≠ 19 → M a = M a := fun _ _ => rfl
  refine s_aload_n (k := 0) hX dX7_skip_0 rfl rfl ?_
  refine s_callVi hX (s_X7_here  M) mX7_here lX7_28 (by decide) (by decide) oC19 rfl rfl rfl rfl rfl (Nat.le_of_ble_eq_true rfl) dX7_skip_1 (fun r1 M_1 hp1 => ?_)
  subst hp1
  refine s_iload_n (k := 1) hX dX7_skip_4 rfl rfl ?_
  refine s_icmp_eq (tgt := 18) hX dX7_skip_5 (by decide) (fun c5 => ?_) (fun c5 => ?_)
  · replace c5 := Int32.toInt_inj.symm.mp c5
    refine s_aload_n (k := 0) hX dX7_skip_18 rfl rfl ?_
    refine s_dup hX dX7_skip_19 rfl ?_
    refine s_get hX fX7_22 oC19 rfl dX7_skip_20 ?_
    refine s_iconst (v := (nI 1)) hX dX7_skip_23 (by decide) ?_
    refine s_iadd hX dX7_skip_24 ?_
    refine s_puti (ty := .int) hX fX7_22 oC19 rfl (Nat.le_of_ble_eq_true rfl) ty_7_3 rfl rfl dX7_skip_25 ?_
    refine s_mem (fun M_2 eM_2 => ?_)
    have hfM_2 : ∀ a, a ≠ 19 → M_2 a = M a := fun a q0 => (congrFun eM_2 a).trans ((mset_n (by omega)).trans (hf_0 a q0))
    refine s_iconst (v := (nI 1)) hX dX7_skip_28 (by decide) ?_
    exact s_zret hX hR dX7_skip_29 (by decide) ⟨(by decide), hfM_2⟩
  · replace c5 := mt Int32.toInt_inj.symm.mpr c5
    refine s_aload_n (k := 0) hX dX7_skip_8 rfl rfl ?_
    refine s_iconst (v := (nI 1)) hX dX7_skip_9 (by decide) ?_
    refine s_aload_n (k := 0) hX dX7_skip_10 rfl rfl ?_
    refine s_get hX fX7_22 oC19 rfl dX7_skip_11 ?_
    refine s_callVi hX (s_X7_refuse _ _ M) mX7_refuse lX7_32 (by decide) (by decide) oC19 rfl rfl rfl rfl rfl (Nat.le_of_ble_eq_true rfl) dX7_skip_14 (fun r14 M_3 hp14 => ?_)
    obtain ⟨hz14, hq14⟩ := hp14
    have hfM_3 : ∀ a, a ≠ 19 → M_3 a = M a := fun a q0 => (hq14 a (by omega)).trans (hf_0 a q0)
    exact s_zret hX hR dX7_skip_17 hz14 ⟨hz14, hfM_3⟩
