theorem dX2_isTold_0 : decode cX2_isTold 0 = .ok (.iload_n 1, 1) := by decide +kernel
theorem dX2_isTold_1 : decode cX2_isTold 1 = .ok (.ifCond .lt 22, 3) := by decide +kernel
theorem dX2_isTold_4 : decode cX2_isTold 4 = .ok (.iload_n 1, 1) := by decide +kernel
theorem dX2_isTold_5 : decode cX2_isTold 5 = .ok (.bipush 40, 2) := by decide +kernel
theorem dX2_isTold_7 : decode cX2_isTold 7 = .ok (.if_icmp .ge 16, 3) := by decide +kernel
theorem dX2_isTold_10 : decode cX2_isTold 10 = .ok (.aload_n 0, 1) := by decide +kernel
theorem dX2_isTold_11 : decode cX2_isTold 11 = .ok (.getfield 21, 3) := by decide +kernel
theorem dX2_isTold_14 : decode cX2_isTold 14 = .ok (.iload_n 1, 1) := by decide +kernel
theorem dX2_isTold_15 : decode cX2_isTold 15 = .ok (.baload, 1) := by decide +kernel
theorem dX2_isTold_16 : decode cX2_isTold 16 = .ok (.ifCond .eq 7, 3) := by decide +kernel
theorem dX2_isTold_19 : decode cX2_isTold 19 = .ok (.iconst 1, 1) := by decide +kernel
theorem dX2_isTold_20 : decode cX2_isTold 20 = .ok (.goto 4, 3) := by decide +kernel
theorem dX2_isTold_23 : decode cX2_isTold 23 = .ok (.iconst 0, 1) := by decide +kernel
theorem dX2_isTold_24 : decode cX2_isTold 24 = .ok (.ireturn, 1) := by decide +kernel
theorem dX2_isDry_0 : decode cX2_isDry 0 = .ok (.iload_n 1, 1) := by decide +kernel
theorem dX2_isDry_1 : decode cX2_isDry 1 = .ok (.ifCond .lt 31, 3) := by decide +kernel
theorem dX2_isDry_4 : decode cX2_isDry 4 = .ok (.iload_n 1, 1) := by decide +kernel
theorem dX2_isDry_5 : decode cX2_isDry 5 = .ok (.bipush 40, 2) := by decide +kernel
theorem dX2_isDry_7 : decode cX2_isDry 7 = .ok (.if_icmp .ge 25, 3) := by decide +kernel
theorem dX2_isDry_10 : decode cX2_isDry 10 = .ok (.aload_n 0, 1) := by decide +kernel
theorem dX2_isDry_11 : decode cX2_isDry 11 = .ok (.getfield 21, 3) := by decide +kernel
theorem dX2_isDry_14 : decode cX2_isDry 14 = .ok (.iload_n 1, 1) := by decide +kernel
theorem dX2_isDry_15 : decode cX2_isDry 15 = .ok (.baload, 1) := by decide +kernel
theorem dX2_isDry_16 : decode cX2_isDry 16 = .ok (.ifCond .eq 16, 3) := by decide +kernel
theorem dX2_isDry_19 : decode cX2_isDry 19 = .ok (.aload_n 0, 1) := by decide +kernel
theorem dX2_isDry_20 : decode cX2_isDry 20 = .ok (.getfield 25, 3) := by decide +kernel
theorem dX2_isDry_23 : decode cX2_isDry 23 = .ok (.iload_n 1, 1) := by decide +kernel
theorem dX2_isDry_24 : decode cX2_isDry 24 = .ok (.baload, 1) := by decide +kernel
theorem dX2_isDry_25 : decode cX2_isDry 25 = .ok (.ifCond .ne 7, 3) := by decide +kernel
theorem dX2_isDry_28 : decode cX2_isDry 28 = .ok (.iconst 1, 1) := by decide +kernel
theorem dX2_isDry_29 : decode cX2_isDry 29 = .ok (.goto 4, 3) := by decide +kernel
theorem dX2_isDry_32 : decode cX2_isDry 32 = .ok (.iconst 0, 1) := by decide +kernel
theorem dX2_isDry_33 : decode cX2_isDry 33 = .ok (.ireturn, 1) := by decide +kernel
theorem dX2_stoneAt_0 : decode cX2_stoneAt 0 = .ok (.iconst 0, 1) := by decide +kernel
theorem dX2_stoneAt_1 : decode cX2_stoneAt 1 = .ok (.istore_n 3, 1) := by decide +kernel
theorem dX2_stoneAt_2 : decode cX2_stoneAt 2 = .ok (.iload_n 3, 1) := by decide +kernel
theorem dX2_stoneAt_3 : decode cX2_stoneAt 3 = .ok (.bipush 40, 2) := by decide +kernel
theorem dX2_stoneAt_5 : decode cX2_stoneAt 5 = .ok (.if_icmp .ge 40, 3) := by decide +kernel
theorem dX2_stoneAt_8 : decode cX2_stoneAt 8 = .ok (.aload_n 0, 1) := by decide +kernel
theorem dX2_stoneAt_9 : decode cX2_stoneAt 9 = .ok (.getfield 21, 3) := by decide +kernel
theorem dX2_stoneAt_12 : decode cX2_stoneAt 12 = .ok (.iload_n 3, 1) := by decide +kernel
theorem dX2_stoneAt_13 : decode cX2_stoneAt 13 = .ok (.baload, 1) := by decide +kernel
theorem dX2_stoneAt_14 : decode cX2_stoneAt 14 = .ok (.ifCond .eq 25, 3) := by decide +kernel
theorem dX2_stoneAt_17 : decode cX2_stoneAt 17 = .ok (.aload_n 0, 1) := by decide +kernel
theorem dX2_stoneAt_18 : decode cX2_stoneAt 18 = .ok (.getfield 9, 3) := by decide +kernel
theorem dX2_stoneAt_21 : decode cX2_stoneAt 21 = .ok (.iload_n 3, 1) := by decide +kernel
theorem dX2_stoneAt_22 : decode cX2_stoneAt 22 = .ok (.iaload, 1) := by decide +kernel
theorem dX2_stoneAt_23 : decode cX2_stoneAt 23 = .ok (.iload_n 1, 1) := by decide +kernel
theorem dX2_stoneAt_24 : decode cX2_stoneAt 24 = .ok (.if_icmp .ne 15, 3) := by decide +kernel
theorem dX2_stoneAt_27 : decode cX2_stoneAt 27 = .ok (.aload_n 0, 1) := by decide +kernel
theorem dX2_stoneAt_28 : decode cX2_stoneAt 28 = .ok (.getfield 15, 3) := by decide +kernel
theorem dX2_stoneAt_31 : decode cX2_stoneAt 31 = .ok (.iload_n 3, 1) := by decide +kernel
theorem dX2_stoneAt_32 : decode cX2_stoneAt 32 = .ok (.iaload, 1) := by decide +kernel
theorem dX2_stoneAt_33 : decode cX2_stoneAt 33 = .ok (.iload_n 2, 1) := by decide +kernel
theorem dX2_stoneAt_34 : decode cX2_stoneAt 34 = .ok (.if_icmp .ne 5, 3) := by decide +kernel
theorem dX2_stoneAt_37 : decode cX2_stoneAt 37 = .ok (.iload_n 3, 1) := by decide +kernel
theorem dX2_stoneAt_38 : decode cX2_stoneAt 38 = .ok (.ireturn, 1) := by decide +kernel
theorem dX2_stoneAt_39 : decode cX2_stoneAt 39 = .ok (.iinc 3 1, 3) := by decide +kernel
theorem dX2_stoneAt_42 : decode cX2_stoneAt 42 = .ok (.goto (-40), 3) := by decide +kernel
theorem dX2_stoneAt_45 : decode cX2_stoneAt 45 = .ok (.iconst (-1), 1) := by decide +kernel
theorem dX2_stoneAt_46 : decode cX2_stoneAt 46 = .ok (.ireturn, 1) := by decide +kernel

