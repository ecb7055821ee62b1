theorem dX8_spread_0 : decode cX8_spread 0 = .ok (.aload 4, 2) := by decide +kernel
theorem dX8_spread_2 : decode cX8_spread 2 = .ok (.iconst (-1), 1) := by decide +kernel
theorem dX8_spread_3 : decode cX8_spread 3 = .ok (.invokestatic 31, 3) := by decide +kernel
theorem dX8_spread_6 : decode cX8_spread 6 = .ok (.aload_n 0, 1) := by decide +kernel
theorem dX8_spread_7 : decode cX8_spread 7 = .ok (.aload_n 1, 1) := by decide +kernel
theorem dX8_spread_8 : decode cX8_spread 8 = .ok (.iload_n 2, 1) := by decide +kernel
theorem dX8_spread_9 : decode cX8_spread 9 = .ok (.iload_n 3, 1) := by decide +kernel
theorem dX8_spread_10 : decode cX8_spread 10 = .ok (.aload 4, 2) := by decide +kernel
theorem dX8_spread_12 : decode cX8_spread 12 = .ok (.iload 5, 2) := by decide +kernel
theorem dX8_spread_14 : decode cX8_spread 14 = .ok (.invokevirtual 37, 3) := by decide +kernel
theorem dX8_spread_17 : decode cX8_spread 17 = .ok (.ireturn, 1) := by decide +kernel
theorem dX8_canCross_0 : decode cX8_canCross 0 = .ok (.aload_n 0, 1) := by decide +kernel
theorem dX8_canCross_1 : decode cX8_canCross 1 = .ok (.aload_n 1, 1) := by decide +kernel
theorem dX8_canCross_2 : decode cX8_canCross 2 = .ok (.iload_n 2, 1) := by decide +kernel
theorem dX8_canCross_3 : decode cX8_canCross 3 = .ok (.bipush 40, 2) := by decide +kernel
theorem dX8_canCross_5 : decode cX8_canCross 5 = .ok (.aload_n 0, 1) := by decide +kernel
theorem dX8_canCross_6 : decode cX8_canCross 6 = .ok (.getfield 9, 3) := by decide +kernel
theorem dX8_canCross_9 : decode cX8_canCross 9 = .ok (.bipush 42, 2) := by decide +kernel
theorem dX8_canCross_11 : decode cX8_canCross 11 = .ok (.invokevirtual 47, 3) := by decide +kernel
theorem dX8_canCross_14 : decode cX8_canCross 14 = .ok (.pop, 1) := by decide +kernel
theorem dX8_canCross_15 : decode cX8_canCross 15 = .ok (.aload_n 0, 1) := by decide +kernel
theorem dX8_canCross_16 : decode cX8_canCross 16 = .ok (.getfield 9, 3) := by decide +kernel
theorem dX8_canCross_19 : decode cX8_canCross 19 = .ok (.bipush 41, 2) := by decide +kernel
theorem dX8_canCross_21 : decode cX8_canCross 21 = .ok (.iaload, 1) := by decide +kernel
theorem dX8_canCross_22 : decode cX8_canCross 22 = .ok (.iconst (-1), 1) := by decide +kernel
theorem dX8_canCross_23 : decode cX8_canCross 23 = .ok (.if_icmp .eq 7, 3) := by decide +kernel
theorem dX8_canCross_26 : decode cX8_canCross 26 = .ok (.iconst 1, 1) := by decide +kernel
theorem dX8_canCross_27 : decode cX8_canCross 27 = .ok (.goto 4, 3) := by decide +kernel
theorem dX8_canCross_30 : decode cX8_canCross 30 = .ok (.iconst 0, 1) := by decide +kernel
theorem dX8_canCross_31 : decode cX8_canCross 31 = .ok (.ireturn, 1) := by decide +kernel
theorem dX8_leadOn_0 : decode cX8_leadOn 0 = .ok (.iload_n 3, 1) := by decide +kernel
theorem dX8_leadOn_1 : decode cX8_leadOn 1 = .ok (.ifCond .lt 9, 3) := by decide +kernel
theorem dX8_leadOn_4 : decode cX8_leadOn 4 = .ok (.iload_n 3, 1) := by decide +kernel
theorem dX8_leadOn_5 : decode cX8_leadOn 5 = .ok (.bipush 42, 2) := by decide +kernel
theorem dX8_leadOn_7 : decode cX8_leadOn 7 = .ok (.if_icmp .lt 4, 3) := by decide +kernel
theorem dX8_leadOn_10 : decode cX8_leadOn 10 = .ok (.return_, 1) := by decide +kernel
theorem dX8_leadOn_11 : decode cX8_leadOn 11 = .ok (.iconst 0, 1) := by decide +kernel
theorem dX8_leadOn_12 : decode cX8_leadOn 12 = .ok (.istore 4, 2) := by decide +kernel
theorem dX8_leadOn_14 : decode cX8_leadOn 14 = .ok (.iload 4, 2) := by decide +kernel
theorem dX8_leadOn_16 : decode cX8_leadOn 16 = .ok (.bipush 42, 2) := by decide +kernel
theorem dX8_leadOn_18 : decode cX8_leadOn 18 = .ok (.if_icmp .ge 64, 3) := by decide +kernel
theorem dX8_leadOn_21 : decode cX8_leadOn 21 = .ok (.aload_n 0, 1) := by decide +kernel
theorem dX8_leadOn_22 : decode cX8_leadOn 22 = .ok (.getfield 9, 3) := by decide +kernel
theorem dX8_leadOn_25 : decode cX8_leadOn 25 = .ok (.iload 4, 2) := by decide +kernel
theorem dX8_leadOn_27 : decode cX8_leadOn 27 = .ok (.iaload, 1) := by decide +kernel
theorem dX8_leadOn_28 : decode cX8_leadOn 28 = .ok (.aload_n 0, 1) := by decide +kernel
theorem dX8_leadOn_29 : decode cX8_leadOn 29 = .ok (.getfield 9, 3) := by decide +kernel
theorem dX8_leadOn_32 : decode cX8_leadOn 32 = .ok (.iload_n 3, 1) := by decide +kernel
theorem dX8_leadOn_33 : decode cX8_leadOn 33 = .ok (.iaload, 1) := by decide +kernel
theorem dX8_leadOn_34 : decode cX8_leadOn 34 = .ok (.iconst 1, 1) := by decide +kernel
theorem dX8_leadOn_35 : decode cX8_leadOn 35 = .ok (.iadd, 1) := by decide +kernel
theorem dX8_leadOn_36 : decode cX8_leadOn 36 = .ok (.if_icmp .ne 40, 3) := by decide +kernel
theorem dX8_leadOn_39 : decode cX8_leadOn 39 = .ok (.aload_n 1, 1) := by decide +kernel
theorem dX8_leadOn_40 : decode cX8_leadOn 40 = .ok (.iload_n 3, 1) := by decide +kernel
theorem dX8_leadOn_41 : decode cX8_leadOn 41 = .ok (.iload 4, 2) := by decide +kernel
theorem dX8_leadOn_43 : decode cX8_leadOn 43 = .ok (.iload_n 2, 1) := by decide +kernel
theorem dX8_leadOn_44 : decode cX8_leadOn 44 = .ok (.invokevirtual 41, 3) := by decide +kernel
theorem dX8_leadOn_47 : decode cX8_leadOn 47 = .ok (.ifCond .eq 29, 3) := by decide +kernel
theorem dX8_leadOn_50 : decode cX8_leadOn 50 = .ok (.aload_n 0, 1) := by decide +kernel
theorem dX8_leadOn_51 : decode cX8_leadOn 51 = .ok (.getfield 21, 3) := by decide +kernel
theorem dX8_leadOn_54 : decode cX8_leadOn 54 = .ok (.iload 4, 2) := by decide +kernel
theorem dX8_leadOn_56 : decode cX8_leadOn 56 = .ok (.ldc 62, 2) := by decide +kernel
theorem dX8_leadOn_58 : decode cX8_leadOn 58 = .ok (.aload_n 0, 1) := by decide +kernel
theorem dX8_leadOn_59 : decode cX8_leadOn 59 = .ok (.getfield 21, 3) := by decide +kernel
theorem dX8_leadOn_62 : decode cX8_leadOn 62 = .ok (.iload 4, 2) := by decide +kernel
theorem dX8_leadOn_64 : decode cX8_leadOn 64 = .ok (.iaload, 1) := by decide +kernel
theorem dX8_leadOn_65 : decode cX8_leadOn 65 = .ok (.aload_n 0, 1) := by decide +kernel
theorem dX8_leadOn_66 : decode cX8_leadOn 66 = .ok (.getfield 21, 3) := by decide +kernel
theorem dX8_leadOn_69 : decode cX8_leadOn 69 = .ok (.iload_n 3, 1) := by decide +kernel
theorem dX8_leadOn_70 : decode cX8_leadOn 70 = .ok (.iaload, 1) := by decide +kernel
theorem dX8_leadOn_71 : decode cX8_leadOn 71 = .ok (.iadd, 1) := by decide +kernel
theorem dX8_leadOn_72 : decode cX8_leadOn 72 = .ok (.invokestatic 63, 3) := by decide +kernel
theorem dX8_leadOn_75 : decode cX8_leadOn 75 = .ok (.iastore, 1) := by decide +kernel
theorem dX8_leadOn_76 : decode cX8_leadOn 76 = .ok (.iinc 4 1, 3) := by decide +kernel
theorem dX8_leadOn_79 : decode cX8_leadOn 79 = .ok (.goto (-65), 3) := by decide +kernel
theorem dX8_leadOn_82 : decode cX8_leadOn 82 = .ok (.return_, 1) := by decide +kernel
theorem dX8_countRows_0 : decode cX8_countRows 0 = .ok (.aload_n 0, 1) := by decide +kernel
theorem dX8_countRows_1 : decode cX8_countRows 1 = .ok (.getfield 21, 3) := by decide +kernel
theorem dX8_countRows_4 : decode cX8_countRows 4 = .ok (.iconst 0, 1) := by decide +kernel
theorem dX8_countRows_5 : decode cX8_countRows 5 = .ok (.invokestatic 31, 3) := by decide +kernel
theorem dX8_countRows_8 : decode cX8_countRows 8 = .ok (.aload_n 0, 1) := by decide +kernel
theorem dX8_countRows_9 : decode cX8_countRows 9 = .ok (.getfield 21, 3) := by decide +kernel
theorem dX8_countRows_12 : decode cX8_countRows 12 = .ok (.bipush 40, 2) := by decide +kernel
theorem dX8_countRows_14 : decode cX8_countRows 14 = .ok (.iconst 1, 1) := by decide +kernel
theorem dX8_countRows_15 : decode cX8_countRows 15 = .ok (.iastore, 1) := by decide +kernel
theorem dX8_countRows_16 : decode cX8_countRows 16 = .ok (.iconst 0, 1) := by decide +kernel
theorem dX8_countRows_17 : decode cX8_countRows 17 = .ok (.istore 4, 2) := by decide +kernel
theorem dX8_countRows_19 : decode cX8_countRows 19 = .ok (.iload 4, 2) := by decide +kernel
theorem dX8_countRows_21 : decode cX8_countRows 21 = .ok (.iload_n 3, 1) := by decide +kernel
theorem dX8_countRows_22 : decode cX8_countRows 22 = .ok (.if_icmp .ge 29, 3) := by decide +kernel
theorem dX8_countRows_25 : decode cX8_countRows 25 = .ok (.iload 4, 2) := by decide +kernel
theorem dX8_countRows_27 : decode cX8_countRows 27 = .ok (.bipush 42, 2) := by decide +kernel
theorem dX8_countRows_29 : decode cX8_countRows 29 = .ok (.if_icmp .ge 22, 3) := by decide +kernel
theorem dX8_countRows_32 : decode cX8_countRows 32 = .ok (.aload_n 0, 1) := by decide +kernel
theorem dX8_countRows_33 : decode cX8_countRows 33 = .ok (.aload_n 1, 1) := by decide +kernel
theorem dX8_countRows_34 : decode cX8_countRows 34 = .ok (.iload_n 2, 1) := by decide +kernel
theorem dX8_countRows_35 : decode cX8_countRows 35 = .ok (.aload_n 0, 1) := by decide +kernel
theorem dX8_countRows_36 : decode cX8_countRows 36 = .ok (.getfield 18, 3) := by decide +kernel
theorem dX8_countRows_39 : decode cX8_countRows 39 = .ok (.iload 4, 2) := by decide +kernel
theorem dX8_countRows_41 : decode cX8_countRows 41 = .ok (.iaload, 1) := by decide +kernel
theorem dX8_countRows_42 : decode cX8_countRows 42 = .ok (.invokevirtual 58, 3) := by decide +kernel
theorem dX8_countRows_45 : decode cX8_countRows 45 = .ok (.iinc 4 1, 3) := by decide +kernel
theorem dX8_countRows_48 : decode cX8_countRows 48 = .ok (.goto (-29), 3) := by decide +kernel
theorem dX8_countRows_51 : decode cX8_countRows 51 = .ok (.aload_n 0, 1) := by decide +kernel
theorem dX8_countRows_52 : decode cX8_countRows 52 = .ok (.getfield 21, 3) := by decide +kernel
theorem dX8_countRows_55 : decode cX8_countRows 55 = .ok (.bipush 41, 2) := by decide +kernel
theorem dX8_countRows_57 : decode cX8_countRows 57 = .ok (.iaload, 1) := by decide +kernel
theorem dX8_countRows_58 : decode cX8_countRows 58 = .ok (.ireturn, 1) := by decide +kernel
theorem dX8_lowestOnward_0 : decode cX8_lowestOnward 0 = .ok (.iconst 0, 1) := by decide +kernel
theorem dX8_lowestOnward_1 : decode cX8_lowestOnward 1 = .ok (.istore 5, 2) := by decide +kernel
theorem dX8_lowestOnward_3 : decode cX8_lowestOnward 3 = .ok (.iload 5, 2) := by decide +kernel
theorem dX8_lowestOnward_5 : decode cX8_lowestOnward 5 = .ok (.bipush 40, 2) := by decide +kernel
theorem dX8_lowestOnward_7 : decode cX8_lowestOnward 7 = .ok (.if_icmp .ge 35, 3) := by decide +kernel
theorem dX8_lowestOnward_10 : decode cX8_lowestOnward 10 = .ok (.aload_n 0, 1) := by decide +kernel
theorem dX8_lowestOnward_11 : decode cX8_lowestOnward 11 = .ok (.getfield 15, 3) := by decide +kernel
theorem dX8_lowestOnward_14 : decode cX8_lowestOnward 14 = .ok (.iload 5, 2) := by decide +kernel
theorem dX8_lowestOnward_16 : decode cX8_lowestOnward 16 = .ok (.iaload, 1) := by decide +kernel
theorem dX8_lowestOnward_17 : decode cX8_lowestOnward 17 = .ok (.iload 4, 2) := by decide +kernel
theorem dX8_lowestOnward_19 : decode cX8_lowestOnward 19 = .ok (.if_icmp .ne 17, 3) := by decide +kernel
theorem dX8_lowestOnward_22 : decode cX8_lowestOnward 22 = .ok (.aload_n 1, 1) := by decide +kernel
theorem dX8_lowestOnward_23 : decode cX8_lowestOnward 23 = .ok (.iload_n 3, 1) := by decide +kernel
theorem dX8_lowestOnward_24 : decode cX8_lowestOnward 24 = .ok (.iload 5, 2) := by decide +kernel
theorem dX8_lowestOnward_26 : decode cX8_lowestOnward 26 = .ok (.iload_n 2, 1) := by decide +kernel
theorem dX8_lowestOnward_27 : decode cX8_lowestOnward 27 = .ok (.invokevirtual 41, 3) := by decide +kernel
theorem dX8_lowestOnward_30 : decode cX8_lowestOnward 30 = .ok (.ifCond .eq 6, 3) := by decide +kernel
theorem dX8_lowestOnward_33 : decode cX8_lowestOnward 33 = .ok (.iload 5, 2) := by decide +kernel
theorem dX8_lowestOnward_35 : decode cX8_lowestOnward 35 = .ok (.ireturn, 1) := by decide +kernel
theorem dX8_lowestOnward_36 : decode cX8_lowestOnward 36 = .ok (.iinc 5 1, 3) := by decide +kernel
theorem dX8_lowestOnward_39 : decode cX8_lowestOnward 39 = .ok (.goto (-36), 3) := by decide +kernel
theorem dX8_lowestOnward_42 : decode cX8_lowestOnward 42 = .ok (.bipush (-2), 2) := by decide +kernel
theorem dX8_lowestOnward_44 : decode cX8_lowestOnward 44 = .ok (.ireturn, 1) := by decide +kernel
theorem dX8_stoneOfLeastRow_0 : decode cX8_stoneOfLeastRow 0 = .ok (.aload_n 0, 1) := by decide +kernel
theorem dX8_stoneOfLeastRow_1 : decode cX8_stoneOfLeastRow 1 = .ok (.aload_n 1, 1) := by decide +kernel
theorem dX8_stoneOfLeastRow_2 : decode cX8_stoneOfLeastRow 2 = .ok (.iload_n 2, 1) := by decide +kernel
theorem dX8_stoneOfLeastRow_3 : decode cX8_stoneOfLeastRow 3 = .ok (.bipush 41, 2) := by decide +kernel
theorem dX8_stoneOfLeastRow_5 : decode cX8_stoneOfLeastRow 5 = .ok (.aload_n 0, 1) := by decide +kernel
theorem dX8_stoneOfLeastRow_6 : decode cX8_stoneOfLeastRow 6 = .ok (.getfield 15, 3) := by decide +kernel
theorem dX8_stoneOfLeastRow_9 : decode cX8_stoneOfLeastRow 9 = .ok (.bipush 42, 2) := by decide +kernel
theorem dX8_stoneOfLeastRow_11 : decode cX8_stoneOfLeastRow 11 = .ok (.invokevirtual 47, 3) := by decide +kernel
theorem dX8_stoneOfLeastRow_14 : decode cX8_stoneOfLeastRow 14 = .ok (.pop, 1) := by decide +kernel
theorem dX8_stoneOfLeastRow_15 : decode cX8_stoneOfLeastRow 15 = .ok (.bipush 40, 2) := by decide +kernel
theorem dX8_stoneOfLeastRow_17 : decode cX8_stoneOfLeastRow 17 = .ok (.istore 5, 2) := by decide +kernel
theorem dX8_stoneOfLeastRow_19 : decode cX8_stoneOfLeastRow 19 = .ok (.iconst 0, 1) := by decide +kernel
theorem dX8_stoneOfLeastRow_20 : decode cX8_stoneOfLeastRow 20 = .ok (.istore 6, 2) := by decide +kernel
theorem dX8_stoneOfLeastRow_22 : decode cX8_stoneOfLeastRow 22 = .ok (.iload 6, 2) := by decide +kernel
theorem dX8_stoneOfLeastRow_24 : decode cX8_stoneOfLeastRow 24 = .ok (.iload 4, 2) := by decide +kernel
theorem dX8_stoneOfLeastRow_26 : decode cX8_stoneOfLeastRow 26 = .ok (.if_icmp .gt 32, 3) := by decide +kernel
theorem dX8_stoneOfLeastRow_29 : decode cX8_stoneOfLeastRow 29 = .ok (.iload 6, 2) := by decide +kernel
theorem dX8_stoneOfLeastRow_31 : decode cX8_stoneOfLeastRow 31 = .ok (.bipush 40, 2) := by decide +kernel
theorem dX8_stoneOfLeastRow_33 : decode cX8_stoneOfLeastRow 33 = .ok (.if_icmp .ge 25, 3) := by decide +kernel
theorem dX8_stoneOfLeastRow_36 : decode cX8_stoneOfLeastRow 36 = .ok (.aload_n 0, 1) := by decide +kernel
theorem dX8_stoneOfLeastRow_37 : decode cX8_stoneOfLeastRow 37 = .ok (.aload_n 1, 1) := by decide +kernel
theorem dX8_stoneOfLeastRow_38 : decode cX8_stoneOfLeastRow 38 = .ok (.iload_n 2, 1) := by decide +kernel
theorem dX8_stoneOfLeastRow_39 : decode cX8_stoneOfLeastRow 39 = .ok (.iload 5, 2) := by decide +kernel
theorem dX8_stoneOfLeastRow_41 : decode cX8_stoneOfLeastRow 41 = .ok (.iload_n 3, 1) := by decide +kernel
theorem dX8_stoneOfLeastRow_42 : decode cX8_stoneOfLeastRow 42 = .ok (.iconst 1, 1) := by decide +kernel
theorem dX8_stoneOfLeastRow_43 : decode cX8_stoneOfLeastRow 43 = .ok (.isub, 1) := by decide +kernel
theorem dX8_stoneOfLeastRow_44 : decode cX8_stoneOfLeastRow 44 = .ok (.iload 6, 2) := by decide +kernel
theorem dX8_stoneOfLeastRow_46 : decode cX8_stoneOfLeastRow 46 = .ok (.isub, 1) := by decide +kernel
theorem dX8_stoneOfLeastRow_47 : decode cX8_stoneOfLeastRow 47 = .ok (.invokevirtual 69, 3) := by decide +kernel
theorem dX8_stoneOfLeastRow_50 : decode cX8_stoneOfLeastRow 50 = .ok (.istore 5, 2) := by decide +kernel
theorem dX8_stoneOfLeastRow_52 : decode cX8_stoneOfLeastRow 52 = .ok (.iinc 6 1, 3) := by decide +kernel
theorem dX8_stoneOfLeastRow_55 : decode cX8_stoneOfLeastRow 55 = .ok (.goto (-33), 3) := by decide +kernel
theorem dX8_stoneOfLeastRow_58 : decode cX8_stoneOfLeastRow 58 = .ok (.iload 5, 2) := by decide +kernel
theorem dX8_stoneOfLeastRow_60 : decode cX8_stoneOfLeastRow 60 = .ok (.ireturn, 1) := by decide +kernel
theorem dX8_crossing_0 : decode cX8_crossing 0 = .ok (.aload_n 0, 1) := by decide +kernel
theorem dX8_crossing_1 : decode cX8_crossing 1 = .ok (.aload_n 1, 1) := by decide +kernel
theorem dX8_crossing_2 : decode cX8_crossing 2 = .ok (.iload_n 2, 1) := by decide +kernel
theorem dX8_crossing_3 : decode cX8_crossing 3 = .ok (.bipush 40, 2) := by decide +kernel
theorem dX8_crossing_5 : decode cX8_crossing 5 = .ok (.aload_n 0, 1) := by decide +kernel
theorem dX8_crossing_6 : decode cX8_crossing 6 = .ok (.getfield 9, 3) := by decide +kernel
theorem dX8_crossing_9 : decode cX8_crossing 9 = .ok (.bipush 42, 2) := by decide +kernel
theorem dX8_crossing_11 : decode cX8_crossing 11 = .ok (.invokevirtual 47, 3) := by decide +kernel
theorem dX8_crossing_14 : decode cX8_crossing 14 = .ok (.istore 4, 2) := by decide +kernel
theorem dX8_crossing_16 : decode cX8_crossing 16 = .ok (.aload_n 0, 1) := by decide +kernel
theorem dX8_crossing_17 : decode cX8_crossing 17 = .ok (.getfield 9, 3) := by decide +kernel
theorem dX8_crossing_20 : decode cX8_crossing 20 = .ok (.bipush 41, 2) := by decide +kernel
theorem dX8_crossing_22 : decode cX8_crossing 22 = .ok (.iaload, 1) := by decide +kernel
theorem dX8_crossing_23 : decode cX8_crossing 23 = .ok (.istore 5, 2) := by decide +kernel
theorem dX8_crossing_25 : decode cX8_crossing 25 = .ok (.iload 5, 2) := by decide +kernel
theorem dX8_crossing_27 : decode cX8_crossing 27 = .ok (.iconst (-1), 1) := by decide +kernel
theorem dX8_crossing_28 : decode cX8_crossing 28 = .ok (.if_icmp .ne 6, 3) := by decide +kernel
theorem dX8_crossing_31 : decode cX8_crossing 31 = .ok (.bipush (-2), 2) := by decide +kernel
theorem dX8_crossing_33 : decode cX8_crossing 33 = .ok (.ireturn, 1) := by decide +kernel
theorem dX8_crossing_34 : decode cX8_crossing 34 = .ok (.iload_n 3, 1) := by decide +kernel
theorem dX8_crossing_35 : decode cX8_crossing 35 = .ok (.bipush 100, 2) := by decide +kernel
theorem dX8_crossing_37 : decode cX8_crossing 37 = .ok (.if_icmp .ne 6, 3) := by decide +kernel
theorem dX8_crossing_40 : decode cX8_crossing 40 = .ok (.iload 5, 2) := by decide +kernel
theorem dX8_crossing_42 : decode cX8_crossing 42 = .ok (.ireturn, 1) := by decide +kernel
theorem dX8_crossing_43 : decode cX8_crossing 43 = .ok (.iload_n 3, 1) := by decide +kernel
theorem dX8_crossing_44 : decode cX8_crossing 44 = .ok (.bipush 101, 2) := by decide +kernel
theorem dX8_crossing_46 : decode cX8_crossing 46 = .ok (.if_icmp .ne 12, 3) := by decide +kernel
theorem dX8_crossing_49 : decode cX8_crossing 49 = .ok (.aload_n 0, 1) := by decide +kernel
theorem dX8_crossing_50 : decode cX8_crossing 50 = .ok (.aload_n 1, 1) := by decide +kernel
theorem dX8_crossing_51 : decode cX8_crossing 51 = .ok (.iload_n 2, 1) := by decide +kernel
theorem dX8_crossing_52 : decode cX8_crossing 52 = .ok (.iload 4, 2) := by decide +kernel
theorem dX8_crossing_54 : decode cX8_crossing 54 = .ok (.invokevirtual 50, 3) := by decide +kernel
theorem dX8_crossing_57 : decode cX8_crossing 57 = .ok (.ireturn, 1) := by decide +kernel
theorem dX8_crossing_58 : decode cX8_crossing 58 = .ok (.iload_n 3, 1) := by decide +kernel
theorem dX8_crossing_59 : decode cX8_crossing 59 = .ok (.iload 5, 2) := by decide +kernel
theorem dX8_crossing_61 : decode cX8_crossing 61 = .ok (.iconst 1, 1) := by decide +kernel
theorem dX8_crossing_62 : decode cX8_crossing 62 = .ok (.isub, 1) := by decide +kernel
theorem dX8_crossing_63 : decode cX8_crossing 63 = .ok (.if_icmp .lt 8, 3) := by decide +kernel
theorem dX8_crossing_66 : decode cX8_crossing 66 = .ok (.bipush (-4), 2) := by decide +kernel
theorem dX8_crossing_68 : decode cX8_crossing 68 = .ok (.goto 12, 3) := by decide +kernel
theorem dX8_crossing_71 : decode cX8_crossing 71 = .ok (.aload_n 0, 1) := by decide +kernel
theorem dX8_crossing_72 : decode cX8_crossing 72 = .ok (.aload_n 1, 1) := by decide +kernel
theorem dX8_crossing_73 : decode cX8_crossing 73 = .ok (.iload_n 2, 1) := by decide +kernel
theorem dX8_crossing_74 : decode cX8_crossing 74 = .ok (.iload 5, 2) := by decide +kernel
theorem dX8_crossing_76 : decode cX8_crossing 76 = .ok (.iload_n 3, 1) := by decide +kernel
theorem dX8_crossing_77 : decode cX8_crossing 77 = .ok (.invokevirtual 54, 3) := by decide +kernel
theorem dX8_crossing_80 : decode cX8_crossing 80 = .ok (.ireturn, 1) := by decide +kernel
theorem dX8_cheapest_0 : decode cX8_cheapest 0 = .ok (.iconst (-1), 1) := by decide +kernel
theorem dX8_cheapest_1 : decode cX8_cheapest 1 = .ok (.istore_n 1, 1) := by decide +kernel
theorem dX8_cheapest_2 : decode cX8_cheapest 2 = .ok (.iconst 0, 1) := by decide +kernel
theorem dX8_cheapest_3 : decode cX8_cheapest 3 = .ok (.istore_n 2, 1) := by decide +kernel
theorem dX8_cheapest_4 : decode cX8_cheapest 4 = .ok (.iload_n 2, 1) := by decide +kernel
theorem dX8_cheapest_5 : decode cX8_cheapest 5 = .ok (.bipush 42, 2) := by decide +kernel
theorem dX8_cheapest_7 : decode cX8_cheapest 7 = .ok (.if_icmp .ge 50, 3) := by decide +kernel
theorem dX8_cheapest_10 : decode cX8_cheapest 10 = .ok (.aload_n 0, 1) := by decide +kernel
theorem dX8_cheapest_11 : decode cX8_cheapest 11 = .ok (.getfield 27, 3) := by decide +kernel
theorem dX8_cheapest_14 : decode cX8_cheapest 14 = .ok (.iload_n 2, 1) := by decide +kernel
theorem dX8_cheapest_15 : decode cX8_cheapest 15 = .ok (.baload, 1) := by decide +kernel
theorem dX8_cheapest_16 : decode cX8_cheapest 16 = .ok (.ifCond .ne 35, 3) := by decide +kernel
theorem dX8_cheapest_19 : decode cX8_cheapest 19 = .ok (.aload_n 0, 1) := by decide +kernel
theorem dX8_cheapest_20 : decode cX8_cheapest 20 = .ok (.getfield 24, 3) := by decide +kernel
theorem dX8_cheapest_23 : decode cX8_cheapest 23 = .ok (.iload_n 2, 1) := by decide +kernel
theorem dX8_cheapest_24 : decode cX8_cheapest 24 = .ok (.iaload, 1) := by decide +kernel
theorem dX8_cheapest_25 : decode cX8_cheapest 25 = .ok (.iconst (-1), 1) := by decide +kernel
theorem dX8_cheapest_26 : decode cX8_cheapest 26 = .ok (.if_icmp .eq 25, 3) := by decide +kernel
theorem dX8_cheapest_29 : decode cX8_cheapest 29 = .ok (.iload_n 1, 1) := by decide +kernel
theorem dX8_cheapest_30 : decode cX8_cheapest 30 = .ok (.iconst (-1), 1) := by decide +kernel
theorem dX8_cheapest_31 : decode cX8_cheapest 31 = .ok (.if_icmp .eq 18, 3) := by decide +kernel
theorem dX8_cheapest_34 : decode cX8_cheapest 34 = .ok (.aload_n 0, 1) := by decide +kernel
theorem dX8_cheapest_35 : decode cX8_cheapest 35 = .ok (.getfield 24, 3) := by decide +kernel
theorem dX8_cheapest_38 : decode cX8_cheapest 38 = .ok (.iload_n 2, 1) := by decide +kernel
theorem dX8_cheapest_39 : decode cX8_cheapest 39 = .ok (.iaload, 1) := by decide +kernel
theorem dX8_cheapest_40 : decode cX8_cheapest 40 = .ok (.aload_n 0, 1) := by decide +kernel
theorem dX8_cheapest_41 : decode cX8_cheapest 41 = .ok (.getfield 24, 3) := by decide +kernel
theorem dX8_cheapest_44 : decode cX8_cheapest 44 = .ok (.iload_n 1, 1) := by decide +kernel
theorem dX8_cheapest_45 : decode cX8_cheapest 45 = .ok (.iaload, 1) := by decide +kernel
theorem dX8_cheapest_46 : decode cX8_cheapest 46 = .ok (.if_icmp .ge 5, 3) := by decide +kernel
theorem dX8_cheapest_49 : decode cX8_cheapest 49 = .ok (.iload_n 2, 1) := by decide +kernel
theorem dX8_cheapest_50 : decode cX8_cheapest 50 = .ok (.istore_n 1, 1) := by decide +kernel
theorem dX8_cheapest_51 : decode cX8_cheapest 51 = .ok (.iinc 2 1, 3) := by decide +kernel
theorem dX8_cheapest_54 : decode cX8_cheapest 54 = .ok (.goto (-50), 3) := by decide +kernel
theorem dX8_cheapest_57 : decode cX8_cheapest 57 = .ok (.iload_n 1, 1) := by decide +kernel
theorem dX8_cheapest_58 : decode cX8_cheapest 58 = .ok (.ireturn, 1) := by decide +kernel
theorem dX8_settle_0 : decode cX8_settle 0 = .ok (.iload_n 3, 1) := by decide +kernel
theorem dX8_settle_1 : decode cX8_settle 1 = .ok (.ifCond .lt 9, 3) := by decide +kernel
theorem dX8_settle_4 : decode cX8_settle 4 = .ok (.iload_n 3, 1) := by decide +kernel
theorem dX8_settle_5 : decode cX8_settle 5 = .ok (.bipush 42, 2) := by decide +kernel
theorem dX8_settle_7 : decode cX8_settle 7 = .ok (.if_icmp .lt 4, 3) := by decide +kernel
theorem dX8_settle_10 : decode cX8_settle 10 = .ok (.return_, 1) := by decide +kernel
theorem dX8_settle_11 : decode cX8_settle 11 = .ok (.aload_n 0, 1) := by decide +kernel
theorem dX8_settle_12 : decode cX8_settle 12 = .ok (.getfield 27, 3) := by decide +kernel
theorem dX8_settle_15 : decode cX8_settle 15 = .ok (.iload_n 3, 1) := by decide +kernel
theorem dX8_settle_16 : decode cX8_settle 16 = .ok (.iconst 1, 1) := by decide +kernel
theorem dX8_settle_17 : decode cX8_settle 17 = .ok (.bastore, 1) := by decide +kernel
theorem dX8_settle_18 : decode cX8_settle 18 = .ok (.iconst 0, 1) := by decide +kernel
theorem dX8_settle_19 : decode cX8_settle 19 = .ok (.istore 4, 2) := by decide +kernel
theorem dX8_settle_21 : decode cX8_settle 21 = .ok (.iload 4, 2) := by decide +kernel
theorem dX8_settle_23 : decode cX8_settle 23 = .ok (.bipush 42, 2) := by decide +kernel
theorem dX8_settle_25 : decode cX8_settle 25 = .ok (.if_icmp .ge 94, 3) := by decide +kernel
theorem dX8_settle_28 : decode cX8_settle 28 = .ok (.aload_n 0, 1) := by decide +kernel
theorem dX8_settle_29 : decode cX8_settle 29 = .ok (.getfield 27, 3) := by decide +kernel
theorem dX8_settle_32 : decode cX8_settle 32 = .ok (.iload 4, 2) := by decide +kernel
theorem dX8_settle_34 : decode cX8_settle 34 = .ok (.baload, 1) := by decide +kernel
theorem dX8_settle_35 : decode cX8_settle 35 = .ok (.ifCond .ne 78, 3) := by decide +kernel
theorem dX8_settle_38 : decode cX8_settle 38 = .ok (.aload_n 1, 1) := by decide +kernel
theorem dX8_settle_39 : decode cX8_settle 39 = .ok (.iload_n 3, 1) := by decide +kernel
theorem dX8_settle_40 : decode cX8_settle 40 = .ok (.iload 4, 2) := by decide +kernel
theorem dX8_settle_42 : decode cX8_settle 42 = .ok (.iload_n 2, 1) := by decide +kernel
theorem dX8_settle_43 : decode cX8_settle 43 = .ok (.invokevirtual 41, 3) := by decide +kernel
theorem dX8_settle_46 : decode cX8_settle 46 = .ok (.ifCond .eq 67, 3) := by decide +kernel
theorem dX8_settle_49 : decode cX8_settle 49 = .ok (.aload_n 0, 1) := by decide +kernel
theorem dX8_settle_50 : decode cX8_settle 50 = .ok (.getfield 24, 3) := by decide +kernel
theorem dX8_settle_53 : decode cX8_settle 53 = .ok (.iload_n 3, 1) := by decide +kernel
theorem dX8_settle_54 : decode cX8_settle 54 = .ok (.iaload, 1) := by decide +kernel
theorem dX8_settle_55 : decode cX8_settle 55 = .ok (.iconst 1, 1) := by decide +kernel
theorem dX8_settle_56 : decode cX8_settle 56 = .ok (.iadd, 1) := by decide +kernel
theorem dX8_settle_57 : decode cX8_settle 57 = .ok (.iload 4, 2) := by decide +kernel
theorem dX8_settle_59 : decode cX8_settle 59 = .ok (.bipush 40, 2) := by decide +kernel
theorem dX8_settle_61 : decode cX8_settle 61 = .ok (.if_icmp .ge 16, 3) := by decide +kernel
theorem dX8_settle_64 : decode cX8_settle 64 = .ok (.bipush 100, 2) := by decide +kernel
theorem dX8_settle_66 : decode cX8_settle 66 = .ok (.aload_n 1, 1) := by decide +kernel
theorem dX8_settle_67 : decode cX8_settle 67 = .ok (.getfield 79, 3) := by decide +kernel
theorem dX8_settle_70 : decode cX8_settle 70 = .ok (.iload 4, 2) := by decide +kernel
theorem dX8_settle_72 : decode cX8_settle 72 = .ok (.iaload, 1) := by decide +kernel
theorem dX8_settle_73 : decode cX8_settle 73 = .ok (.imul, 1) := by decide +kernel
theorem dX8_settle_74 : decode cX8_settle 74 = .ok (.goto 4, 3) := by decide +kernel
theorem dX8_settle_77 : decode cX8_settle 77 = .ok (.iconst 0, 1) := by decide +kernel
theorem dX8_settle_78 : decode cX8_settle 78 = .ok (.iadd, 1) := by decide +kernel
theorem dX8_settle_79 : decode cX8_settle 79 = .ok (.istore 5, 2) := by decide +kernel
theorem dX8_settle_81 : decode cX8_settle 81 = .ok (.aload_n 0, 1) := by decide +kernel
theorem dX8_settle_82 : decode cX8_settle 82 = .ok (.getfield 24, 3) := by decide +kernel
theorem dX8_settle_85 : decode cX8_settle 85 = .ok (.iload 4, 2) := by decide +kernel
theorem dX8_settle_87 : decode cX8_settle 87 = .ok (.iaload, 1) := by decide +kernel
theorem dX8_settle_88 : decode cX8_settle 88 = .ok (.iconst (-1), 1) := by decide +kernel
theorem dX8_settle_89 : decode cX8_settle 89 = .ok (.if_icmp .eq 15, 3) := by decide +kernel
theorem dX8_settle_92 : decode cX8_settle 92 = .ok (.iload 5, 2) := by decide +kernel
theorem dX8_settle_94 : decode cX8_settle 94 = .ok (.aload_n 0, 1) := by decide +kernel
theorem dX8_settle_95 : decode cX8_settle 95 = .ok (.getfield 24, 3) := by decide +kernel
theorem dX8_settle_98 : decode cX8_settle 98 = .ok (.iload 4, 2) := by decide +kernel
theorem dX8_settle_100 : decode cX8_settle 100 = .ok (.iaload, 1) := by decide +kernel
theorem dX8_settle_101 : decode cX8_settle 101 = .ok (.if_icmp .ge 12, 3) := by decide +kernel
theorem dX8_settle_104 : decode cX8_settle 104 = .ok (.aload_n 0, 1) := by decide +kernel
theorem dX8_settle_105 : decode cX8_settle 105 = .ok (.getfield 24, 3) := by decide +kernel
theorem dX8_settle_108 : decode cX8_settle 108 = .ok (.iload 4, 2) := by decide +kernel
theorem dX8_settle_110 : decode cX8_settle 110 = .ok (.iload 5, 2) := by decide +kernel
theorem dX8_settle_112 : decode cX8_settle 112 = .ok (.iastore, 1) := by decide +kernel
theorem dX8_settle_113 : decode cX8_settle 113 = .ok (.iinc 4 1, 3) := by decide +kernel
theorem dX8_settle_116 : decode cX8_settle 116 = .ok (.goto (-95), 3) := by decide +kernel
theorem dX8_settle_119 : decode cX8_settle 119 = .ok (.return_, 1) := by decide +kernel
theorem dX8_driestWay_0 : decode cX8_driestWay 0 = .ok (.iconst 0, 1) := by decide +kernel
theorem dX8_driestWay_1 : decode cX8_driestWay 1 = .ok (.istore 4, 2) := by decide +kernel
theorem dX8_driestWay_3 : decode cX8_driestWay 3 = .ok (.iload 4, 2) := by decide +kernel
theorem dX8_driestWay_5 : decode cX8_driestWay 5 = .ok (.bipush 42, 2) := by decide +kernel
theorem dX8_driestWay_7 : decode cX8_driestWay 7 = .ok (.if_icmp .ge 25, 3) := by decide +kernel
theorem dX8_driestWay_10 : decode cX8_driestWay 10 = .ok (.aload_n 0, 1) := by decide +kernel
theorem dX8_driestWay_11 : decode cX8_driestWay 11 = .ok (.getfield 24, 3) := by decide +kernel
theorem dX8_driestWay_14 : decode cX8_driestWay 14 = .ok (.iload 4, 2) := by decide +kernel
theorem dX8_driestWay_16 : decode cX8_driestWay 16 = .ok (.iconst (-1), 1) := by decide +kernel
theorem dX8_driestWay_17 : decode cX8_driestWay 17 = .ok (.iastore, 1) := by decide +kernel
theorem dX8_driestWay_18 : decode cX8_driestWay 18 = .ok (.aload_n 0, 1) := by decide +kernel
theorem dX8_driestWay_19 : decode cX8_driestWay 19 = .ok (.getfield 27, 3) := by decide +kernel
theorem dX8_driestWay_22 : decode cX8_driestWay 22 = .ok (.iload 4, 2) := by decide +kernel
theorem dX8_driestWay_24 : decode cX8_driestWay 24 = .ok (.iconst 0, 1) := by decide +kernel
theorem dX8_driestWay_25 : decode cX8_driestWay 25 = .ok (.bastore, 1) := by decide +kernel
theorem dX8_driestWay_26 : decode cX8_driestWay 26 = .ok (.iinc 4 1, 3) := by decide +kernel
theorem dX8_driestWay_29 : decode cX8_driestWay 29 = .ok (.goto (-26), 3) := by decide +kernel
theorem dX8_driestWay_32 : decode cX8_driestWay 32 = .ok (.aload_n 0, 1) := by decide +kernel
theorem dX8_driestWay_33 : decode cX8_driestWay 33 = .ok (.getfield 24, 3) := by decide +kernel
theorem dX8_driestWay_36 : decode cX8_driestWay 36 = .ok (.bipush 40, 2) := by decide +kernel
theorem dX8_driestWay_38 : decode cX8_driestWay 38 = .ok (.iconst 0, 1) := by decide +kernel
theorem dX8_driestWay_39 : decode cX8_driestWay 39 = .ok (.iastore, 1) := by decide +kernel
theorem dX8_driestWay_40 : decode cX8_driestWay 40 = .ok (.iconst 0, 1) := by decide +kernel
theorem dX8_driestWay_41 : decode cX8_driestWay 41 = .ok (.istore 4, 2) := by decide +kernel
theorem dX8_driestWay_43 : decode cX8_driestWay 43 = .ok (.iload 4, 2) := by decide +kernel
theorem dX8_driestWay_45 : decode cX8_driestWay 45 = .ok (.bipush 42, 2) := by decide +kernel
theorem dX8_driestWay_47 : decode cX8_driestWay 47 = .ok (.if_icmp .ge 32, 3) := by decide +kernel
theorem dX8_driestWay_50 : decode cX8_driestWay 50 = .ok (.aload_n 0, 1) := by decide +kernel
theorem dX8_driestWay_51 : decode cX8_driestWay 51 = .ok (.invokevirtual 72, 3) := by decide +kernel
theorem dX8_driestWay_54 : decode cX8_driestWay 54 = .ok (.istore 5, 2) := by decide +kernel
theorem dX8_driestWay_56 : decode cX8_driestWay 56 = .ok (.iload 5, 2) := by decide +kernel
theorem dX8_driestWay_58 : decode cX8_driestWay 58 = .ok (.iconst (-1), 1) := by decide +kernel
theorem dX8_driestWay_59 : decode cX8_driestWay 59 = .ok (.if_icmp .ne 6, 3) := by decide +kernel
theorem dX8_driestWay_62 : decode cX8_driestWay 62 = .ok (.goto 17, 3) := by decide +kernel
theorem dX8_driestWay_65 : decode cX8_driestWay 65 = .ok (.aload_n 0, 1) := by decide +kernel
theorem dX8_driestWay_66 : decode cX8_driestWay 66 = .ok (.aload_n 1, 1) := by decide +kernel
theorem dX8_driestWay_67 : decode cX8_driestWay 67 = .ok (.iload_n 2, 1) := by decide +kernel
theorem dX8_driestWay_68 : decode cX8_driestWay 68 = .ok (.iload 5, 2) := by decide +kernel
theorem dX8_driestWay_70 : decode cX8_driestWay 70 = .ok (.invokevirtual 76, 3) := by decide +kernel
theorem dX8_driestWay_73 : decode cX8_driestWay 73 = .ok (.iinc 4 1, 3) := by decide +kernel
theorem dX8_driestWay_76 : decode cX8_driestWay 76 = .ok (.goto (-33), 3) := by decide +kernel
theorem dX8_driestWay_79 : decode cX8_driestWay 79 = .ok (.aload_n 0, 1) := by decide +kernel
theorem dX8_driestWay_80 : decode cX8_driestWay 80 = .ok (.getfield 24, 3) := by decide +kernel
theorem dX8_driestWay_83 : decode cX8_driestWay 83 = .ok (.bipush 41, 2) := by decide +kernel
theorem dX8_driestWay_85 : decode cX8_driestWay 85 = .ok (.iaload, 1) := by decide +kernel
theorem dX8_driestWay_86 : decode cX8_driestWay 86 = .ok (.iconst (-1), 1) := by decide +kernel
theorem dX8_driestWay_87 : decode cX8_driestWay 87 = .ok (.if_icmp .ne 6, 3) := by decide +kernel
theorem dX8_driestWay_90 : decode cX8_driestWay 90 = .ok (.bipush (-2), 2) := by decide +kernel
theorem dX8_driestWay_92 : decode cX8_driestWay 92 = .ok (.ireturn, 1) := by decide +kernel
theorem dX8_driestWay_93 : decode cX8_driestWay 93 = .ok (.iload_n 3, 1) := by decide +kernel
theorem dX8_driestWay_94 : decode cX8_driestWay 94 = .ok (.ifCond .ne 16, 3) := by decide +kernel
theorem dX8_driestWay_97 : decode cX8_driestWay 97 = .ok (.aload_n 0, 1) := by decide +kernel
theorem dX8_driestWay_98 : decode cX8_driestWay 98 = .ok (.getfield 24, 3) := by decide +kernel
theorem dX8_driestWay_101 : decode cX8_driestWay 101 = .ok (.bipush 41, 2) := by decide +kernel
theorem dX8_driestWay_103 : decode cX8_driestWay 103 = .ok (.iaload, 1) := by decide +kernel
theorem dX8_driestWay_104 : decode cX8_driestWay 104 = .ok (.bipush 100, 2) := by decide +kernel
theorem dX8_driestWay_106 : decode cX8_driestWay 106 = .ok (.idiv, 1) := by decide +kernel
theorem dX8_driestWay_107 : decode cX8_driestWay 107 = .ok (.goto 13, 3) := by decide +kernel
theorem dX8_driestWay_110 : decode cX8_driestWay 110 = .ok (.aload_n 0, 1) := by decide +kernel
theorem dX8_driestWay_111 : decode cX8_driestWay 111 = .ok (.getfield 24, 3) := by decide +kernel
theorem dX8_driestWay_114 : decode cX8_driestWay 114 = .ok (.bipush 41, 2) := by decide +kernel
theorem dX8_driestWay_116 : decode cX8_driestWay 116 = .ok (.iaload, 1) := by decide +kernel
theorem dX8_driestWay_117 : decode cX8_driestWay 117 = .ok (.bipush 100, 2) := by decide +kernel
theorem dX8_driestWay_119 : decode cX8_driestWay 119 = .ok (.irem, 1) := by decide +kernel
theorem dX8_driestWay_120 : decode cX8_driestWay 120 = .ok (.ireturn, 1) := by decide +kernel
theorem dX8_farthest_0 : decode cX8_farthest 0 = .ok (.aload_n 0, 1) := by decide +kernel
theorem dX8_farthest_1 : decode cX8_farthest 1 = .ok (.aload_n 1, 1) := by decide +kernel
theorem dX8_farthest_2 : decode cX8_farthest 2 = .ok (.iload_n 2, 1) := by decide +kernel
theorem dX8_farthest_3 : decode cX8_farthest 3 = .ok (.bipush 40, 2) := by decide +kernel
theorem dX8_farthest_5 : decode cX8_farthest 5 = .ok (.aload_n 0, 1) := by decide +kernel
theorem dX8_farthest_6 : decode cX8_farthest 6 = .ok (.getfield 9, 3) := by decide +kernel
theorem dX8_farthest_9 : decode cX8_farthest 9 = .ok (.bipush 42, 2) := by decide +kernel
theorem dX8_farthest_11 : decode cX8_farthest 11 = .ok (.invokevirtual 47, 3) := by decide +kernel
theorem dX8_farthest_14 : decode cX8_farthest 14 = .ok (.pop, 1) := by decide +kernel
theorem dX8_farthest_15 : decode cX8_farthest 15 = .ok (.iconst 0, 1) := by decide +kernel
theorem dX8_farthest_16 : decode cX8_farthest 16 = .ok (.istore_n 3, 1) := by decide +kernel
theorem dX8_farthest_17 : decode cX8_farthest 17 = .ok (.iconst 0, 1) := by decide +kernel
theorem dX8_farthest_18 : decode cX8_farthest 18 = .ok (.istore 4, 2) := by decide +kernel
theorem dX8_farthest_20 : decode cX8_farthest 20 = .ok (.iload 4, 2) := by decide +kernel
theorem dX8_farthest_22 : decode cX8_farthest 22 = .ok (.bipush 42, 2) := by decide +kernel
theorem dX8_farthest_24 : decode cX8_farthest 24 = .ok (.if_icmp .ge 31, 3) := by decide +kernel
theorem dX8_farthest_27 : decode cX8_farthest 27 = .ok (.aload_n 0, 1) := by decide +kernel
theorem dX8_farthest_28 : decode cX8_farthest 28 = .ok (.getfield 9, 3) := by decide +kernel
theorem dX8_farthest_31 : decode cX8_farthest 31 = .ok (.iload 4, 2) := by decide +kernel
theorem dX8_farthest_33 : decode cX8_farthest 33 = .ok (.iaload, 1) := by decide +kernel
theorem dX8_farthest_34 : decode cX8_farthest 34 = .ok (.iconst (-1), 1) := by decide +kernel
theorem dX8_farthest_35 : decode cX8_farthest 35 = .ok (.if_icmp .eq 14, 3) := by decide +kernel
theorem dX8_farthest_38 : decode cX8_farthest 38 = .ok (.iload_n 3, 1) := by decide +kernel
theorem dX8_farthest_39 : decode cX8_farthest 39 = .ok (.aload_n 1, 1) := by decide +kernel
theorem dX8_farthest_40 : decode cX8_farthest 40 = .ok (.iload 4, 2) := by decide +kernel
theorem dX8_farthest_42 : decode cX8_farthest 42 = .ok (.invokevirtual 82, 3) := by decide +kernel
theorem dX8_farthest_45 : decode cX8_farthest 45 = .ok (.invokestatic 86, 3) := by decide +kernel
theorem dX8_farthest_48 : decode cX8_farthest 48 = .ok (.istore_n 3, 1) := by decide +kernel
theorem dX8_farthest_49 : decode cX8_farthest 49 = .ok (.iinc 4 1, 3) := by decide +kernel
theorem dX8_farthest_52 : decode cX8_farthest 52 = .ok (.goto (-32), 3) := by decide +kernel
theorem dX8_farthest_55 : decode cX8_farthest 55 = .ok (.iload_n 3, 1) := by decide +kernel
theorem dX8_farthest_56 : decode cX8_farthest 56 = .ok (.ireturn, 1) := by decide +kernel
theorem dX8_wouldJoin_0 : decode cX8_wouldJoin 0 = .ok (.iconst 0, 1) := by decide +kernel
theorem dX8_wouldJoin_1 : decode cX8_wouldJoin 1 = .ok (.istore 5, 2) := by decide +kernel
theorem dX8_wouldJoin_3 : decode cX8_wouldJoin 3 = .ok (.iconst 0, 1) := by decide +kernel
theorem dX8_wouldJoin_4 : decode cX8_wouldJoin 4 = .ok (.istore 6, 2) := by decide +kernel
theorem dX8_wouldJoin_6 : decode cX8_wouldJoin 6 = .ok (.iconst 0, 1) := by decide +kernel
theorem dX8_wouldJoin_7 : decode cX8_wouldJoin 7 = .ok (.istore 7, 2) := by decide +kernel
theorem dX8_wouldJoin_9 : decode cX8_wouldJoin 9 = .ok (.iload 7, 2) := by decide +kernel
theorem dX8_wouldJoin_11 : decode cX8_wouldJoin 11 = .ok (.bipush 42, 2) := by decide +kernel
theorem dX8_wouldJoin_13 : decode cX8_wouldJoin 13 = .ok (.if_icmp .ge 98, 3) := by decide +kernel
theorem dX8_wouldJoin_16 : decode cX8_wouldJoin 16 = .ok (.aload_n 0, 1) := by decide +kernel
theorem dX8_wouldJoin_17 : decode cX8_wouldJoin 17 = .ok (.getfield 9, 3) := by decide +kernel
theorem dX8_wouldJoin_20 : decode cX8_wouldJoin 20 = .ok (.iload 7, 2) := by decide +kernel
theorem dX8_wouldJoin_22 : decode cX8_wouldJoin 22 = .ok (.iaload, 1) := by decide +kernel
theorem dX8_wouldJoin_23 : decode cX8_wouldJoin 23 = .ok (.iconst (-1), 1) := by decide +kernel
theorem dX8_wouldJoin_24 : decode cX8_wouldJoin 24 = .ok (.if_icmp .ne 14, 3) := by decide +kernel
theorem dX8_wouldJoin_27 : decode cX8_wouldJoin 27 = .ok (.aload_n 0, 1) := by decide +kernel
theorem dX8_wouldJoin_28 : decode cX8_wouldJoin 28 = .ok (.getfield 15, 3) := by decide +kernel
theorem dX8_wouldJoin_31 : decode cX8_wouldJoin 31 = .ok (.iload 7, 2) := by decide +kernel
theorem dX8_wouldJoin_33 : decode cX8_wouldJoin 33 = .ok (.iaload, 1) := by decide +kernel
theorem dX8_wouldJoin_34 : decode cX8_wouldJoin 34 = .ok (.iconst (-1), 1) := by decide +kernel
theorem dX8_wouldJoin_35 : decode cX8_wouldJoin 35 = .ok (.if_icmp .eq 7, 3) := by decide +kernel
theorem dX8_wouldJoin_38 : decode cX8_wouldJoin 38 = .ok (.iconst 1, 1) := by decide +kernel
theorem dX8_wouldJoin_39 : decode cX8_wouldJoin 39 = .ok (.goto 4, 3) := by decide +kernel
theorem dX8_wouldJoin_42 : decode cX8_wouldJoin 42 = .ok (.iconst 0, 1) := by decide +kernel
theorem dX8_wouldJoin_43 : decode cX8_wouldJoin 43 = .ok (.istore 8, 2) := by decide +kernel
theorem dX8_wouldJoin_45 : decode cX8_wouldJoin 45 = .ok (.iload 8, 2) := by decide +kernel
theorem dX8_wouldJoin_47 : decode cX8_wouldJoin 47 = .ok (.ifCond .eq 58, 3) := by decide +kernel
theorem dX8_wouldJoin_50 : decode cX8_wouldJoin 50 = .ok (.aload_n 1, 1) := by decide +kernel
theorem dX8_wouldJoin_51 : decode cX8_wouldJoin 51 = .ok (.iload 7, 2) := by decide +kernel
theorem dX8_wouldJoin_53 : decode cX8_wouldJoin 53 = .ok (.iload_n 3, 1) := by decide +kernel
theorem dX8_wouldJoin_54 : decode cX8_wouldJoin 54 = .ok (.iload 4, 2) := by decide +kernel
theorem dX8_wouldJoin_56 : decode cX8_wouldJoin 56 = .ok (.iload_n 2, 1) := by decide +kernel
theorem dX8_wouldJoin_57 : decode cX8_wouldJoin 57 = .ok (.invokevirtual 97, 3) := by decide +kernel
theorem dX8_wouldJoin_60 : decode cX8_wouldJoin 60 = .ok (.ifCond .eq 45, 3) := by decide +kernel
theorem dX8_wouldJoin_63 : decode cX8_wouldJoin 63 = .ok (.iload 5, 2) := by decide +kernel
theorem dX8_wouldJoin_65 : decode cX8_wouldJoin 65 = .ok (.aload_n 0, 1) := by decide +kernel
theorem dX8_wouldJoin_66 : decode cX8_wouldJoin 66 = .ok (.getfield 9, 3) := by decide +kernel
theorem dX8_wouldJoin_69 : decode cX8_wouldJoin 69 = .ok (.iload 7, 2) := by decide +kernel
theorem dX8_wouldJoin_71 : decode cX8_wouldJoin 71 = .ok (.iaload, 1) := by decide +kernel
theorem dX8_wouldJoin_72 : decode cX8_wouldJoin 72 = .ok (.iconst (-1), 1) := by decide +kernel
theorem dX8_wouldJoin_73 : decode cX8_wouldJoin 73 = .ok (.if_icmp .eq 7, 3) := by decide +kernel
theorem dX8_wouldJoin_76 : decode cX8_wouldJoin 76 = .ok (.iconst 1, 1) := by decide +kernel
theorem dX8_wouldJoin_77 : decode cX8_wouldJoin 77 = .ok (.goto 4, 3) := by decide +kernel
theorem dX8_wouldJoin_80 : decode cX8_wouldJoin 80 = .ok (.iconst 0, 1) := by decide +kernel
theorem dX8_wouldJoin_81 : decode cX8_wouldJoin 81 = .ok (.ior, 1) := by decide +kernel
theorem dX8_wouldJoin_82 : decode cX8_wouldJoin 82 = .ok (.istore 5, 2) := by decide +kernel
theorem dX8_wouldJoin_84 : decode cX8_wouldJoin 84 = .ok (.iload 6, 2) := by decide +kernel
theorem dX8_wouldJoin_86 : decode cX8_wouldJoin 86 = .ok (.aload_n 0, 1) := by decide +kernel
theorem dX8_wouldJoin_87 : decode cX8_wouldJoin 87 = .ok (.getfield 15, 3) := by decide +kernel
theorem dX8_wouldJoin_90 : decode cX8_wouldJoin 90 = .ok (.iload 7, 2) := by decide +kernel
theorem dX8_wouldJoin_92 : decode cX8_wouldJoin 92 = .ok (.iaload, 1) := by decide +kernel
theorem dX8_wouldJoin_93 : decode cX8_wouldJoin 93 = .ok (.iconst (-1), 1) := by decide +kernel
theorem dX8_wouldJoin_94 : decode cX8_wouldJoin 94 = .ok (.if_icmp .eq 7, 3) := by decide +kernel
theorem dX8_wouldJoin_97 : decode cX8_wouldJoin 97 = .ok (.iconst 1, 1) := by decide +kernel
theorem dX8_wouldJoin_98 : decode cX8_wouldJoin 98 = .ok (.goto 4, 3) := by decide +kernel
theorem dX8_wouldJoin_101 : decode cX8_wouldJoin 101 = .ok (.iconst 0, 1) := by decide +kernel
theorem dX8_wouldJoin_102 : decode cX8_wouldJoin 102 = .ok (.ior, 1) := by decide +kernel
theorem dX8_wouldJoin_103 : decode cX8_wouldJoin 103 = .ok (.istore 6, 2) := by decide +kernel
theorem dX8_wouldJoin_105 : decode cX8_wouldJoin 105 = .ok (.iinc 7 1, 3) := by decide +kernel
theorem dX8_wouldJoin_108 : decode cX8_wouldJoin 108 = .ok (.goto (-99), 3) := by decide +kernel
theorem dX8_wouldJoin_111 : decode cX8_wouldJoin 111 = .ok (.iload 5, 2) := by decide +kernel
theorem dX8_wouldJoin_113 : decode cX8_wouldJoin 113 = .ok (.ifCond .eq 23, 3) := by decide +kernel
theorem dX8_wouldJoin_116 : decode cX8_wouldJoin 116 = .ok (.iload 6, 2) := by decide +kernel
theorem dX8_wouldJoin_118 : decode cX8_wouldJoin 118 = .ok (.ifCond .eq 18, 3) := by decide +kernel
theorem dX8_wouldJoin_121 : decode cX8_wouldJoin 121 = .ok (.aload_n 1, 1) := by decide +kernel
theorem dX8_wouldJoin_122 : decode cX8_wouldJoin 122 = .ok (.iload_n 3, 1) := by decide +kernel
theorem dX8_wouldJoin_123 : decode cX8_wouldJoin 123 = .ok (.iload 4, 2) := by decide +kernel
theorem dX8_wouldJoin_125 : decode cX8_wouldJoin 125 = .ok (.invokevirtual 101, 3) := by decide +kernel
theorem dX8_wouldJoin_128 : decode cX8_wouldJoin 128 = .ok (.iconst (-1), 1) := by decide +kernel
theorem dX8_wouldJoin_129 : decode cX8_wouldJoin 129 = .ok (.if_icmp .ne 7, 3) := by decide +kernel
theorem dX8_wouldJoin_132 : decode cX8_wouldJoin 132 = .ok (.iconst 1, 1) := by decide +kernel
theorem dX8_wouldJoin_133 : decode cX8_wouldJoin 133 = .ok (.goto 4, 3) := by decide +kernel
theorem dX8_wouldJoin_136 : decode cX8_wouldJoin 136 = .ok (.iconst 0, 1) := by decide +kernel
theorem dX8_wouldJoin_137 : decode cX8_wouldJoin 137 = .ok (.ireturn, 1) := by decide +kernel
theorem dX8_helpfulPlace_0 : decode cX8_helpfulPlace 0 = .ok (.aload_n 0, 1) := by decide +kernel
theorem dX8_helpfulPlace_1 : decode cX8_helpfulPlace 1 = .ok (.aload_n 1, 1) := by decide +kernel
theorem dX8_helpfulPlace_2 : decode cX8_helpfulPlace 2 = .ok (.iload_n 2, 1) := by decide +kernel
theorem dX8_helpfulPlace_3 : decode cX8_helpfulPlace 3 = .ok (.invokevirtual 89, 3) := by decide +kernel
theorem dX8_helpfulPlace_6 : decode cX8_helpfulPlace 6 = .ok (.ifCond .eq 6, 3) := by decide +kernel
theorem dX8_helpfulPlace_9 : decode cX8_helpfulPlace 9 = .ok (.bipush (-3), 2) := by decide +kernel
theorem dX8_helpfulPlace_11 : decode cX8_helpfulPlace 11 = .ok (.ireturn, 1) := by decide +kernel
theorem dX8_helpfulPlace_12 : decode cX8_helpfulPlace 12 = .ok (.aload_n 0, 1) := by decide +kernel
theorem dX8_helpfulPlace_13 : decode cX8_helpfulPlace 13 = .ok (.aload_n 1, 1) := by decide +kernel
theorem dX8_helpfulPlace_14 : decode cX8_helpfulPlace 14 = .ok (.iload_n 2, 1) := by decide +kernel
theorem dX8_helpfulPlace_15 : decode cX8_helpfulPlace 15 = .ok (.bipush 41, 2) := by decide +kernel
theorem dX8_helpfulPlace_17 : decode cX8_helpfulPlace 17 = .ok (.aload_n 0, 1) := by decide +kernel
theorem dX8_helpfulPlace_18 : decode cX8_helpfulPlace 18 = .ok (.getfield 15, 3) := by decide +kernel
theorem dX8_helpfulPlace_21 : decode cX8_helpfulPlace 21 = .ok (.bipush 42, 2) := by decide +kernel
theorem dX8_helpfulPlace_23 : decode cX8_helpfulPlace 23 = .ok (.invokevirtual 47, 3) := by decide +kernel
theorem dX8_helpfulPlace_26 : decode cX8_helpfulPlace 26 = .ok (.pop, 1) := by decide +kernel
theorem dX8_helpfulPlace_27 : decode cX8_helpfulPlace 27 = .ok (.iconst 1, 1) := by decide +kernel
theorem dX8_helpfulPlace_28 : decode cX8_helpfulPlace 28 = .ok (.istore 4, 2) := by decide +kernel
theorem dX8_helpfulPlace_30 : decode cX8_helpfulPlace 30 = .ok (.iload 4, 2) := by decide +kernel
theorem dX8_helpfulPlace_32 : decode cX8_helpfulPlace 32 = .ok (.bipush 20, 2) := by decide +kernel
theorem dX8_helpfulPlace_34 : decode cX8_helpfulPlace 34 = .ok (.if_icmp .gt 50, 3) := by decide +kernel
theorem dX8_helpfulPlace_37 : decode cX8_helpfulPlace 37 = .ok (.iconst 0, 1) := by decide +kernel
theorem dX8_helpfulPlace_38 : decode cX8_helpfulPlace 38 = .ok (.istore 5, 2) := by decide +kernel
theorem dX8_helpfulPlace_40 : decode cX8_helpfulPlace 40 = .ok (.iload 5, 2) := by decide +kernel
theorem dX8_helpfulPlace_42 : decode cX8_helpfulPlace 42 = .ok (.bipush 39, 2) := by decide +kernel
theorem dX8_helpfulPlace_44 : decode cX8_helpfulPlace 44 = .ok (.if_icmp .gt 34, 3) := by decide +kernel
theorem dX8_helpfulPlace_47 : decode cX8_helpfulPlace 47 = .ok (.aload_n 0, 1) := by decide +kernel
theorem dX8_helpfulPlace_48 : decode cX8_helpfulPlace 48 = .ok (.aload_n 1, 1) := by decide +kernel
theorem dX8_helpfulPlace_49 : decode cX8_helpfulPlace 49 = .ok (.iload_n 2, 1) := by decide +kernel
theorem dX8_helpfulPlace_50 : decode cX8_helpfulPlace 50 = .ok (.iload 5, 2) := by decide +kernel
theorem dX8_helpfulPlace_52 : decode cX8_helpfulPlace 52 = .ok (.iload 4, 2) := by decide +kernel
theorem dX8_helpfulPlace_54 : decode cX8_helpfulPlace 54 = .ok (.invokevirtual 93, 3) := by decide +kernel
theorem dX8_helpfulPlace_57 : decode cX8_helpfulPlace 57 = .ok (.ifCond .eq 15, 3) := by decide +kernel
theorem dX8_helpfulPlace_60 : decode cX8_helpfulPlace 60 = .ok (.iload_n 3, 1) := by decide +kernel
theorem dX8_helpfulPlace_61 : decode cX8_helpfulPlace 61 = .ok (.ifCond .ne 8, 3) := by decide +kernel
theorem dX8_helpfulPlace_64 : decode cX8_helpfulPlace 64 = .ok (.iload 5, 2) := by decide +kernel
theorem dX8_helpfulPlace_66 : decode cX8_helpfulPlace 66 = .ok (.goto 5, 3) := by decide +kernel
theorem dX8_helpfulPlace_69 : decode cX8_helpfulPlace 69 = .ok (.iload 4, 2) := by decide +kernel
theorem dX8_helpfulPlace_71 : decode cX8_helpfulPlace 71 = .ok (.ireturn, 1) := by decide +kernel
theorem dX8_helpfulPlace_72 : decode cX8_helpfulPlace 72 = .ok (.iinc 5 1, 3) := by decide +kernel
theorem dX8_helpfulPlace_75 : decode cX8_helpfulPlace 75 = .ok (.goto (-35), 3) := by decide +kernel
theorem dX8_helpfulPlace_78 : decode cX8_helpfulPlace 78 = .ok (.iinc 4 1, 3) := by decide +kernel
theorem dX8_helpfulPlace_81 : decode cX8_helpfulPlace 81 = .ok (.goto (-51), 3) := by decide +kernel
theorem dX8_helpfulPlace_84 : decode cX8_helpfulPlace 84 = .ok (.bipush (-2), 2) := by decide +kernel
theorem dX8_helpfulPlace_86 : decode cX8_helpfulPlace 86 = .ok (.ireturn, 1) := by decide +kernel
theorem dX8_islandSize_0 : decode cX8_islandSize 0 = .ok (.aload_n 1, 1) := by decide +kernel
theorem dX8_islandSize_1 : decode cX8_islandSize 1 = .ok (.iload_n 3, 1) := by decide +kernel
theorem dX8_islandSize_2 : decode cX8_islandSize 2 = .ok (.invokevirtual 104, 3) := by decide +kernel
theorem dX8_islandSize_5 : decode cX8_islandSize 5 = .ok (.ifCond .eq 19, 3) := by decide +kernel
theorem dX8_islandSize_8 : decode cX8_islandSize 8 = .ok (.aload_n 0, 1) := by decide +kernel
theorem dX8_islandSize_9 : decode cX8_islandSize 9 = .ok (.aload_n 1, 1) := by decide +kernel
theorem dX8_islandSize_10 : decode cX8_islandSize 10 = .ok (.iload_n 2, 1) := by decide +kernel
theorem dX8_islandSize_11 : decode cX8_islandSize 11 = .ok (.iload_n 3, 1) := by decide +kernel
theorem dX8_islandSize_12 : decode cX8_islandSize 12 = .ok (.aload_n 0, 1) := by decide +kernel
theorem dX8_islandSize_13 : decode cX8_islandSize 13 = .ok (.getfield 9, 3) := by decide +kernel
theorem dX8_islandSize_16 : decode cX8_islandSize 16 = .ok (.bipush 40, 2) := by decide +kernel
theorem dX8_islandSize_18 : decode cX8_islandSize 18 = .ok (.invokevirtual 47, 3) := by decide +kernel
theorem dX8_islandSize_21 : decode cX8_islandSize 21 = .ok (.goto 4, 3) := by decide +kernel
theorem dX8_islandSize_24 : decode cX8_islandSize 24 = .ok (.iconst 0, 1) := by decide +kernel
theorem dX8_islandSize_25 : decode cX8_islandSize 25 = .ok (.ireturn, 1) := by decide +kernel
theorem dX8_countIslands_0 : decode cX8_countIslands 0 = .ok (.aload_n 0, 1) := by decide +kernel
theorem dX8_countIslands_1 : decode cX8_countIslands 1 = .ok (.getfield 9, 3) := by decide +kernel
theorem dX8_countIslands_4 : decode cX8_countIslands 4 = .ok (.iconst (-1), 1) := by decide +kernel
theorem dX8_countIslands_5 : decode cX8_countIslands 5 = .ok (.invokestatic 31, 3) := by decide +kernel
theorem dX8_countIslands_8 : decode cX8_countIslands 8 = .ok (.iconst 0, 1) := by decide +kernel
theorem dX8_countIslands_9 : decode cX8_countIslands 9 = .ok (.istore_n 3, 1) := by decide +kernel
theorem dX8_countIslands_10 : decode cX8_countIslands 10 = .ok (.iconst 0, 1) := by decide +kernel
theorem dX8_countIslands_11 : decode cX8_countIslands 11 = .ok (.istore 4, 2) := by decide +kernel
theorem dX8_countIslands_13 : decode cX8_countIslands 13 = .ok (.iload 4, 2) := by decide +kernel
theorem dX8_countIslands_15 : decode cX8_countIslands 15 = .ok (.bipush 40, 2) := by decide +kernel
theorem dX8_countIslands_17 : decode cX8_countIslands 17 = .ok (.if_icmp .ge 47, 3) := by decide +kernel
theorem dX8_countIslands_20 : decode cX8_countIslands 20 = .ok (.aload_n 1, 1) := by decide +kernel
theorem dX8_countIslands_21 : decode cX8_countIslands 21 = .ok (.iload 4, 2) := by decide +kernel
theorem dX8_countIslands_23 : decode cX8_countIslands 23 = .ok (.invokevirtual 104, 3) := by decide +kernel
theorem dX8_countIslands_26 : decode cX8_countIslands 26 = .ok (.ifCond .eq 32, 3) := by decide +kernel
theorem dX8_countIslands_29 : decode cX8_countIslands 29 = .ok (.aload_n 0, 1) := by decide +kernel
theorem dX8_countIslands_30 : decode cX8_countIslands 30 = .ok (.getfield 9, 3) := by decide +kernel
theorem dX8_countIslands_33 : decode cX8_countIslands 33 = .ok (.iload 4, 2) := by decide +kernel
theorem dX8_countIslands_35 : decode cX8_countIslands 35 = .ok (.iaload, 1) := by decide +kernel
theorem dX8_countIslands_36 : decode cX8_countIslands 36 = .ok (.iconst (-1), 1) := by decide +kernel
theorem dX8_countIslands_37 : decode cX8_countIslands 37 = .ok (.if_icmp .ne 21, 3) := by decide +kernel
theorem dX8_countIslands_40 : decode cX8_countIslands 40 = .ok (.iinc 3 1, 3) := by decide +kernel
theorem dX8_countIslands_43 : decode cX8_countIslands 43 = .ok (.aload_n 0, 1) := by decide +kernel
theorem dX8_countIslands_44 : decode cX8_countIslands 44 = .ok (.aload_n 1, 1) := by decide +kernel
theorem dX8_countIslands_45 : decode cX8_countIslands 45 = .ok (.iload_n 2, 1) := by decide +kernel
theorem dX8_countIslands_46 : decode cX8_countIslands 46 = .ok (.iload 4, 2) := by decide +kernel
theorem dX8_countIslands_48 : decode cX8_countIslands 48 = .ok (.aload_n 0, 1) := by decide +kernel
theorem dX8_countIslands_49 : decode cX8_countIslands 49 = .ok (.getfield 9, 3) := by decide +kernel
theorem dX8_countIslands_52 : decode cX8_countIslands 52 = .ok (.bipush 40, 2) := by decide +kernel
theorem dX8_countIslands_54 : decode cX8_countIslands 54 = .ok (.invokevirtual 37, 3) := by decide +kernel
theorem dX8_countIslands_57 : decode cX8_countIslands 57 = .ok (.pop, 1) := by decide +kernel
theorem dX8_countIslands_58 : decode cX8_countIslands 58 = .ok (.iinc 4 1, 3) := by decide +kernel
theorem dX8_countIslands_61 : decode cX8_countIslands 61 = .ok (.goto (-48), 3) := by decide +kernel
theorem dX8_countIslands_64 : decode cX8_countIslands 64 = .ok (.iload_n 3, 1) := by decide +kernel
theorem dX8_countIslands_65 : decode cX8_countIslands 65 = .ok (.ireturn, 1) := by decide +kernel
theorem dX8_needs_0 : decode cX8_needs 0 = .ok (.aload_n 1, 1) := by decide +kernel
theorem dX8_needs_1 : decode cX8_needs 1 = .ok (.iload_n 3, 1) := by decide +kernel
theorem dX8_needs_2 : decode cX8_needs 2 = .ok (.invokevirtual 104, 3) := by decide +kernel
theorem dX8_needs_5 : decode cX8_needs 5 = .ok (.ifCond .ne 5, 3) := by decide +kernel
theorem dX8_needs_8 : decode cX8_needs 8 = .ok (.iconst 0, 1) := by decide +kernel
theorem dX8_needs_9 : decode cX8_needs 9 = .ok (.ireturn, 1) := by decide +kernel
theorem dX8_needs_10 : decode cX8_needs 10 = .ok (.aload_n 1, 1) := by decide +kernel
theorem dX8_needs_11 : decode cX8_needs 11 = .ok (.getfield 108, 3) := by decide +kernel
theorem dX8_needs_14 : decode cX8_needs 14 = .ok (.iload_n 3, 1) := by decide +kernel
theorem dX8_needs_15 : decode cX8_needs 15 = .ok (.iconst 1, 1) := by decide +kernel
theorem dX8_needs_16 : decode cX8_needs 16 = .ok (.bastore, 1) := by decide +kernel
theorem dX8_needs_17 : decode cX8_needs 17 = .ok (.aload_n 0, 1) := by decide +kernel
theorem dX8_needs_18 : decode cX8_needs 18 = .ok (.aload_n 1, 1) := by decide +kernel
theorem dX8_needs_19 : decode cX8_needs 19 = .ok (.iload_n 2, 1) := by decide +kernel
theorem dX8_needs_20 : decode cX8_needs 20 = .ok (.invokevirtual 89, 3) := by decide +kernel
theorem dX8_needs_23 : decode cX8_needs 23 = .ok (.ifCond .ne 7, 3) := by decide +kernel
theorem dX8_needs_26 : decode cX8_needs 26 = .ok (.iconst 1, 1) := by decide +kernel
theorem dX8_needs_27 : decode cX8_needs 27 = .ok (.goto 4, 3) := by decide +kernel
theorem dX8_needs_30 : decode cX8_needs 30 = .ok (.iconst 0, 1) := by decide +kernel
theorem dX8_needs_31 : decode cX8_needs 31 = .ok (.istore 4, 2) := by decide +kernel
theorem dX8_needs_33 : decode cX8_needs 33 = .ok (.aload_n 1, 1) := by decide +kernel
theorem dX8_needs_34 : decode cX8_needs 34 = .ok (.getfield 108, 3) := by decide +kernel
theorem dX8_needs_37 : decode cX8_needs 37 = .ok (.iload_n 3, 1) := by decide +kernel
theorem dX8_needs_38 : decode cX8_needs 38 = .ok (.iconst 0, 1) := by decide +kernel
theorem dX8_needs_39 : decode cX8_needs 39 = .ok (.bastore, 1) := by decide +kernel
theorem dX8_needs_40 : decode cX8_needs 40 = .ok (.iload 4, 2) := by decide +kernel
theorem dX8_needs_42 : decode cX8_needs 42 = .ok (.ireturn, 1) := by decide +kernel
theorem dX8_meeting_0 : decode cX8_meeting 0 = .ok (.aload_n 0, 1) := by decide +kernel
theorem dX8_meeting_1 : decode cX8_meeting 1 = .ok (.aload_n 1, 1) := by decide +kernel
theorem dX8_meeting_2 : decode cX8_meeting 2 = .ok (.iload_n 2, 1) := by decide +kernel
theorem dX8_meeting_3 : decode cX8_meeting 3 = .ok (.bipush 40, 2) := by decide +kernel
theorem dX8_meeting_5 : decode cX8_meeting 5 = .ok (.aload_n 0, 1) := by decide +kernel
theorem dX8_meeting_6 : decode cX8_meeting 6 = .ok (.getfield 9, 3) := by decide +kernel
theorem dX8_meeting_9 : decode cX8_meeting 9 = .ok (.bipush 42, 2) := by decide +kernel
theorem dX8_meeting_11 : decode cX8_meeting 11 = .ok (.invokevirtual 47, 3) := by decide +kernel
theorem dX8_meeting_14 : decode cX8_meeting 14 = .ok (.pop, 1) := by decide +kernel
theorem dX8_meeting_15 : decode cX8_meeting 15 = .ok (.aload_n 0, 1) := by decide +kernel
theorem dX8_meeting_16 : decode cX8_meeting 16 = .ok (.aload_n 1, 1) := by decide +kernel
theorem dX8_meeting_17 : decode cX8_meeting 17 = .ok (.iload_n 3, 1) := by decide +kernel
theorem dX8_meeting_18 : decode cX8_meeting 18 = .ok (.bipush 41, 2) := by decide +kernel
theorem dX8_meeting_20 : decode cX8_meeting 20 = .ok (.aload_n 0, 1) := by decide +kernel
theorem dX8_meeting_21 : decode cX8_meeting 21 = .ok (.getfield 15, 3) := by decide +kernel
theorem dX8_meeting_24 : decode cX8_meeting 24 = .ok (.bipush 42, 2) := by decide +kernel
theorem dX8_meeting_26 : decode cX8_meeting 26 = .ok (.invokevirtual 47, 3) := by decide +kernel
theorem dX8_meeting_29 : decode cX8_meeting 29 = .ok (.pop, 1) := by decide +kernel
theorem dX8_meeting_30 : decode cX8_meeting 30 = .ok (.bipush (-2), 2) := by decide +kernel
theorem dX8_meeting_32 : decode cX8_meeting 32 = .ok (.istore 5, 2) := by decide +kernel
theorem dX8_meeting_34 : decode cX8_meeting 34 = .ok (.bipush (-2), 2) := by decide +kernel
theorem dX8_meeting_36 : decode cX8_meeting 36 = .ok (.istore 6, 2) := by decide +kernel
theorem dX8_meeting_38 : decode cX8_meeting 38 = .ok (.iconst 0, 1) := by decide +kernel
theorem dX8_meeting_39 : decode cX8_meeting 39 = .ok (.istore 7, 2) := by decide +kernel
theorem dX8_meeting_41 : decode cX8_meeting 41 = .ok (.iload 7, 2) := by decide +kernel
theorem dX8_meeting_43 : decode cX8_meeting 43 = .ok (.bipush 40, 2) := by decide +kernel
theorem dX8_meeting_45 : decode cX8_meeting 45 = .ok (.if_icmp .ge 72, 3) := by decide +kernel
theorem dX8_meeting_48 : decode cX8_meeting 48 = .ok (.aload_n 0, 1) := by decide +kernel
theorem dX8_meeting_49 : decode cX8_meeting 49 = .ok (.getfield 9, 3) := by decide +kernel
theorem dX8_meeting_52 : decode cX8_meeting 52 = .ok (.iload 7, 2) := by decide +kernel
theorem dX8_meeting_54 : decode cX8_meeting 54 = .ok (.iaload, 1) := by decide +kernel
theorem dX8_meeting_55 : decode cX8_meeting 55 = .ok (.iconst (-1), 1) := by decide +kernel
theorem dX8_meeting_56 : decode cX8_meeting 56 = .ok (.if_icmp .eq 55, 3) := by decide +kernel
theorem dX8_meeting_59 : decode cX8_meeting 59 = .ok (.aload_n 0, 1) := by decide +kernel
theorem dX8_meeting_60 : decode cX8_meeting 60 = .ok (.getfield 15, 3) := by decide +kernel
theorem dX8_meeting_63 : decode cX8_meeting 63 = .ok (.iload 7, 2) := by decide +kernel
theorem dX8_meeting_65 : decode cX8_meeting 65 = .ok (.iaload, 1) := by decide +kernel
theorem dX8_meeting_66 : decode cX8_meeting 66 = .ok (.iconst (-1), 1) := by decide +kernel
theorem dX8_meeting_67 : decode cX8_meeting 67 = .ok (.if_icmp .eq 44, 3) := by decide +kernel
theorem dX8_meeting_70 : decode cX8_meeting 70 = .ok (.aload_n 0, 1) := by decide +kernel
theorem dX8_meeting_71 : decode cX8_meeting 71 = .ok (.getfield 9, 3) := by decide +kernel
theorem dX8_meeting_74 : decode cX8_meeting 74 = .ok (.iload 7, 2) := by decide +kernel
theorem dX8_meeting_76 : decode cX8_meeting 76 = .ok (.iaload, 1) := by decide +kernel
theorem dX8_meeting_77 : decode cX8_meeting 77 = .ok (.aload_n 0, 1) := by decide +kernel
theorem dX8_meeting_78 : decode cX8_meeting 78 = .ok (.getfield 15, 3) := by decide +kernel
theorem dX8_meeting_81 : decode cX8_meeting 81 = .ok (.iload 7, 2) := by decide +kernel
theorem dX8_meeting_83 : decode cX8_meeting 83 = .ok (.iaload, 1) := by decide +kernel
theorem dX8_meeting_84 : decode cX8_meeting 84 = .ok (.invokestatic 86, 3) := by decide +kernel
theorem dX8_meeting_87 : decode cX8_meeting 87 = .ok (.istore 8, 2) := by decide +kernel
theorem dX8_meeting_89 : decode cX8_meeting 89 = .ok (.iload 6, 2) := by decide +kernel
theorem dX8_meeting_91 : decode cX8_meeting 91 = .ok (.bipush (-2), 2) := by decide +kernel
theorem dX8_meeting_93 : decode cX8_meeting 93 = .ok (.if_icmp .eq 10, 3) := by decide +kernel
theorem dX8_meeting_96 : decode cX8_meeting 96 = .ok (.iload 8, 2) := by decide +kernel
theorem dX8_meeting_98 : decode cX8_meeting 98 = .ok (.iload 5, 2) := by decide +kernel
theorem dX8_meeting_100 : decode cX8_meeting 100 = .ok (.if_icmp .ge 11, 3) := by decide +kernel
theorem dX8_meeting_103 : decode cX8_meeting 103 = .ok (.iload 8, 2) := by decide +kernel
theorem dX8_meeting_105 : decode cX8_meeting 105 = .ok (.istore 5, 2) := by decide +kernel
theorem dX8_meeting_107 : decode cX8_meeting 107 = .ok (.iload 7, 2) := by decide +kernel
theorem dX8_meeting_109 : decode cX8_meeting 109 = .ok (.istore 6, 2) := by decide +kernel
theorem dX8_meeting_111 : decode cX8_meeting 111 = .ok (.iinc 7 1, 3) := by decide +kernel
theorem dX8_meeting_114 : decode cX8_meeting 114 = .ok (.goto (-73), 3) := by decide +kernel
theorem dX8_meeting_117 : decode cX8_meeting 117 = .ok (.iload 4, 2) := by decide +kernel
theorem dX8_meeting_119 : decode cX8_meeting 119 = .ok (.ifCond .ne 8, 3) := by decide +kernel
theorem dX8_meeting_122 : decode cX8_meeting 122 = .ok (.iload 5, 2) := by decide +kernel
theorem dX8_meeting_124 : decode cX8_meeting 124 = .ok (.goto 5, 3) := by decide +kernel
theorem dX8_meeting_127 : decode cX8_meeting 127 = .ok (.iload 6, 2) := by decide +kernel
theorem dX8_meeting_129 : decode cX8_meeting 129 = .ok (.ireturn, 1) := by decide +kernel
theorem dX1_reach_0 : decode cX1_reach 0 = .ok (.iload_n 1, 1) := by decide +kernel
theorem dX1_reach_1 : decode cX1_reach 1 = .ok (.ifCond .lt 62, 3) := by decide +kernel
theorem dX1_reach_4 : decode cX1_reach 4 = .ok (.iload_n 1, 1) := by decide +kernel
theorem dX1_reach_5 : decode cX1_reach 5 = .ok (.bipush 80, 2) := by decide +kernel
theorem dX1_reach_7 : decode cX1_reach 7 = .ok (.if_icmp .ge 56, 3) := by decide +kernel
theorem dX1_reach_10 : decode cX1_reach 10 = .ok (.aload_n 0, 1) := by decide +kernel
theorem dX1_reach_11 : decode cX1_reach 11 = .ok (.getfield 21, 3) := by decide +kernel
theorem dX1_reach_14 : decode cX1_reach 14 = .ok (.ifCond .lt 49, 3) := by decide +kernel
theorem dX1_reach_17 : decode cX1_reach 17 = .ok (.aload_n 0, 1) := by decide +kernel
theorem dX1_reach_18 : decode cX1_reach 18 = .ok (.getfield 21, 3) := by decide +kernel
theorem dX1_reach_21 : decode cX1_reach 21 = .ok (.bipush 80, 2) := by decide +kernel
theorem dX1_reach_23 : decode cX1_reach 23 = .ok (.if_icmp .ge 40, 3) := by decide +kernel
theorem dX1_reach_26 : decode cX1_reach 26 = .ok (.aload_n 0, 1) := by decide +kernel
theorem dX1_reach_27 : decode cX1_reach 27 = .ok (.getfield 15, 3) := by decide +kernel
theorem dX1_reach_30 : decode cX1_reach 30 = .ok (.iload_n 1, 1) := by decide +kernel
theorem dX1_reach_31 : decode cX1_reach 31 = .ok (.iaload, 1) := by decide +kernel
theorem dX1_reach_32 : decode cX1_reach 32 = .ok (.iconst (-1), 1) := by decide +kernel
theorem dX1_reach_33 : decode cX1_reach 33 = .ok (.if_icmp .ne 30, 3) := by decide +kernel
theorem dX1_reach_36 : decode cX1_reach 36 = .ok (.aload_n 0, 1) := by decide +kernel
theorem dX1_reach_37 : decode cX1_reach 37 = .ok (.getfield 15, 3) := by decide +kernel
theorem dX1_reach_40 : decode cX1_reach 40 = .ok (.iload_n 1, 1) := by decide +kernel
theorem dX1_reach_41 : decode cX1_reach 41 = .ok (.iload_n 2, 1) := by decide +kernel
theorem dX1_reach_42 : decode cX1_reach 42 = .ok (.iastore, 1) := by decide +kernel
theorem dX1_reach_43 : decode cX1_reach 43 = .ok (.aload_n 0, 1) := by decide +kernel
theorem dX1_reach_44 : decode cX1_reach 44 = .ok (.getfield 18, 3) := by decide +kernel
theorem dX1_reach_47 : decode cX1_reach 47 = .ok (.aload_n 0, 1) := by decide +kernel
theorem dX1_reach_48 : decode cX1_reach 48 = .ok (.getfield 21, 3) := by decide +kernel
theorem dX1_reach_51 : decode cX1_reach 51 = .ok (.iload_n 1, 1) := by decide +kernel
theorem dX1_reach_52 : decode cX1_reach 52 = .ok (.iastore, 1) := by decide +kernel
theorem dX1_reach_53 : decode cX1_reach 53 = .ok (.aload_n 0, 1) := by decide +kernel
theorem dX1_reach_54 : decode cX1_reach 54 = .ok (.dup, 1) := by decide +kernel
theorem dX1_reach_55 : decode cX1_reach 55 = .ok (.getfield 21, 3) := by decide +kernel
theorem dX1_reach_58 : decode cX1_reach 58 = .ok (.iconst 1, 1) := by decide +kernel
theorem dX1_reach_59 : decode cX1_reach 59 = .ok (.iadd, 1) := by decide +kernel
theorem dX1_reach_60 : decode cX1_reach 60 = .ok (.putfield 21, 3) := by decide +kernel
theorem dX1_reach_63 : decode cX1_reach 63 = .ok (.return_, 1) := by decide +kernel
theorem dX1_comeOn_0 : decode cX1_comeOn 0 = .ok (.iload_n 1, 1) := by decide +kernel
theorem dX1_comeOn_1 : decode cX1_comeOn 1 = .ok (.ifCond .lt 9, 3) := by decide +kernel
theorem dX1_comeOn_4 : decode cX1_comeOn 4 = .ok (.iload_n 1, 1) := by decide +kernel
theorem dX1_comeOn_5 : decode cX1_comeOn 5 = .ok (.bipush 40, 2) := by decide +kernel
theorem dX1_comeOn_7 : decode cX1_comeOn 7 = .ok (.if_icmp .lt 4, 3) := by decide +kernel
theorem dX1_comeOn_10 : decode cX1_comeOn 10 = .ok (.return_, 1) := by decide +kernel
theorem dX1_comeOn_11 : decode cX1_comeOn 11 = .ok (.aload_n 0, 1) := by decide +kernel
theorem dX1_comeOn_12 : decode cX1_comeOn 12 = .ok (.getfield 9, 3) := by decide +kernel
theorem dX1_comeOn_15 : decode cX1_comeOn 15 = .ok (.iload_n 1, 1) := by decide +kernel
theorem dX1_comeOn_16 : decode cX1_comeOn 16 = .ok (.iaload, 1) := by decide +kernel
theorem dX1_comeOn_17 : decode cX1_comeOn 17 = .ok (.iconst (-1), 1) := by decide +kernel
theorem dX1_comeOn_18 : decode cX1_comeOn 18 = .ok (.if_icmp .ne 15, 3) := by decide +kernel
theorem dX1_comeOn_21 : decode cX1_comeOn 21 = .ok (.aload_n 0, 1) := by decide +kernel
theorem dX1_comeOn_22 : decode cX1_comeOn 22 = .ok (.iload_n 1, 1) := by decide +kernel
theorem dX1_comeOn_23 : decode cX1_comeOn 23 = .ok (.bipush 40, 2) := by decide +kernel
theorem dX1_comeOn_25 : decode cX1_comeOn 25 = .ok (.iadd, 1) := by decide +kernel
theorem dX1_comeOn_26 : decode cX1_comeOn 26 = .ok (.iload_n 1, 1) := by decide +kernel
theorem dX1_comeOn_27 : decode cX1_comeOn 27 = .ok (.invokevirtual 45, 3) := by decide +kernel
theorem dX1_comeOn_30 : decode cX1_comeOn 30 = .ok (.goto 28, 3) := by decide +kernel
theorem dX1_comeOn_33 : decode cX1_comeOn 33 = .ok (.aload_n 0, 1) := by decide +kernel
theorem dX1_comeOn_34 : decode cX1_comeOn 34 = .ok (.getfield 9, 3) := by decide +kernel
theorem dX1_comeOn_37 : decode cX1_comeOn 37 = .ok (.iload_n 1, 1) := by decide +kernel
theorem dX1_comeOn_38 : decode cX1_comeOn 38 = .ok (.iaload, 1) := by decide +kernel
theorem dX1_comeOn_39 : decode cX1_comeOn 39 = .ok (.bipush 40, 2) := by decide +kernel
theorem dX1_comeOn_41 : decode cX1_comeOn 41 = .ok (.if_icmp .ge 17, 3) := by decide +kernel
theorem dX1_comeOn_44 : decode cX1_comeOn 44 = .ok (.aload_n 0, 1) := by decide +kernel
theorem dX1_comeOn_45 : decode cX1_comeOn 45 = .ok (.aload_n 0, 1) := by decide +kernel
theorem dX1_comeOn_46 : decode cX1_comeOn 46 = .ok (.getfield 9, 3) := by decide +kernel
theorem dX1_comeOn_49 : decode cX1_comeOn 49 = .ok (.iload_n 1, 1) := by decide +kernel
theorem dX1_comeOn_50 : decode cX1_comeOn 50 = .ok (.iaload, 1) := by decide +kernel
theorem dX1_comeOn_51 : decode cX1_comeOn 51 = .ok (.bipush 40, 2) := by decide +kernel
theorem dX1_comeOn_53 : decode cX1_comeOn 53 = .ok (.iadd, 1) := by decide +kernel
theorem dX1_comeOn_54 : decode cX1_comeOn 54 = .ok (.iload_n 1, 1) := by decide +kernel
theorem dX1_comeOn_55 : decode cX1_comeOn 55 = .ok (.invokevirtual 45, 3) := by decide +kernel
theorem dX1_comeOn_58 : decode cX1_comeOn 58 = .ok (.return_, 1) := by decide +kernel
theorem dX1_leave_0 : decode cX1_leave 0 = .ok (.iload_n 3, 1) := by decide +kernel
theorem dX1_leave_1 : decode cX1_leave 1 = .ok (.ifCond .lt 9, 3) := by decide +kernel
theorem dX1_leave_4 : decode cX1_leave 4 = .ok (.iload_n 3, 1) := by decide +kernel
theorem dX1_leave_5 : decode cX1_leave 5 = .ok (.bipush 40, 2) := by decide +kernel
theorem dX1_leave_7 : decode cX1_leave 7 = .ok (.if_icmp .lt 5, 3) := by decide +kernel
theorem dX1_leave_10 : decode cX1_leave 10 = .ok (.iconst 0, 1) := by decide +kernel
theorem dX1_leave_11 : decode cX1_leave 11 = .ok (.ireturn, 1) := by decide +kernel
theorem dX1_leave_12 : decode cX1_leave 12 = .ok (.aload_n 1, 1) := by decide +kernel
theorem dX1_leave_13 : decode cX1_leave 13 = .ok (.iload_n 3, 1) := by decide +kernel
theorem dX1_leave_14 : decode cX1_leave 14 = .ok (.bipush 41, 2) := by decide +kernel
theorem dX1_leave_16 : decode cX1_leave 16 = .ok (.iload_n 2, 1) := by decide +kernel
theorem dX1_leave_17 : decode cX1_leave 17 = .ok (.invokevirtual 39, 3) := by decide +kernel
theorem dX1_leave_20 : decode cX1_leave 20 = .ok (.ifCond .eq 5, 3) := by decide +kernel
theorem dX1_leave_23 : decode cX1_leave 23 = .ok (.iconst 1, 1) := by decide +kernel
theorem dX1_leave_24 : decode cX1_leave 24 = .ok (.ireturn, 1) := by decide +kernel
theorem dX1_leave_25 : decode cX1_leave 25 = .ok (.iconst 0, 1) := by decide +kernel
theorem dX1_leave_26 : decode cX1_leave 26 = .ok (.istore 4, 2) := by decide +kernel
theorem dX1_leave_28 : decode cX1_leave 28 = .ok (.iload 4, 2) := by decide +kernel
theorem dX1_leave_30 : decode cX1_leave 30 = .ok (.bipush 40, 2) := by decide +kernel
theorem dX1_leave_32 : decode cX1_leave 32 = .ok (.if_icmp .ge 30, 3) := by decide +kernel
theorem dX1_leave_35 : decode cX1_leave 35 = .ok (.aload_n 1, 1) := by decide +kernel
theorem dX1_leave_36 : decode cX1_leave 36 = .ok (.iload_n 3, 1) := by decide +kernel
theorem dX1_leave_37 : decode cX1_leave 37 = .ok (.iload 4, 2) := by decide +kernel
theorem dX1_leave_39 : decode cX1_leave 39 = .ok (.iload_n 2, 1) := by decide +kernel
theorem dX1_leave_40 : decode cX1_leave 40 = .ok (.invokevirtual 39, 3) := by decide +kernel
theorem dX1_leave_43 : decode cX1_leave 43 = .ok (.ifCond .eq 13, 3) := by decide +kernel
theorem dX1_leave_46 : decode cX1_leave 46 = .ok (.aload_n 0, 1) := by decide +kernel
theorem dX1_leave_47 : decode cX1_leave 47 = .ok (.iload 4, 2) := by decide +kernel
theorem dX1_leave_49 : decode cX1_leave 49 = .ok (.iload_n 3, 1) := by decide +kernel
theorem dX1_leave_50 : decode cX1_leave 50 = .ok (.bipush 40, 2) := by decide +kernel
theorem dX1_leave_52 : decode cX1_leave 52 = .ok (.iadd, 1) := by decide +kernel
theorem dX1_leave_53 : decode cX1_leave 53 = .ok (.invokevirtual 45, 3) := by decide +kernel
theorem dX1_leave_56 : decode cX1_leave 56 = .ok (.iinc 4 1, 3) := by decide +kernel
theorem dX1_leave_59 : decode cX1_leave 59 = .ok (.goto (-31), 3) := by decide +kernel
theorem dX1_leave_62 : decode cX1_leave 62 = .ok (.aload_n 0, 1) := by decide +kernel
theorem dX1_leave_63 : decode cX1_leave 63 = .ok (.iload_n 3, 1) := by decide +kernel
theorem dX1_leave_64 : decode cX1_leave 64 = .ok (.iload_n 3, 1) := by decide +kernel
theorem dX1_leave_65 : decode cX1_leave 65 = .ok (.bipush 40, 2) := by decide +kernel
theorem dX1_leave_67 : decode cX1_leave 67 = .ok (.iadd, 1) := by decide +kernel
theorem dX1_leave_68 : decode cX1_leave 68 = .ok (.invokevirtual 45, 3) := by decide +kernel
theorem dX1_leave_71 : decode cX1_leave 71 = .ok (.iconst 0, 1) := by decide +kernel
theorem dX1_leave_72 : decode cX1_leave 72 = .ok (.ireturn, 1) := by decide +kernel
theorem dX1_join_0 : decode cX1_join 0 = .ok (.iload_n 2, 1) := by decide +kernel
theorem dX1_join_1 : decode cX1_join 1 = .ok (.ifCond .lt 25, 3) := by decide +kernel
theorem dX1_join_4 : decode cX1_join 4 = .ok (.iload_n 2, 1) := by decide +kernel
theorem dX1_join_5 : decode cX1_join 5 = .ok (.bipush 40, 2) := by decide +kernel
theorem dX1_join_7 : decode cX1_join 7 = .ok (.if_icmp .ge 19, 3) := by decide +kernel
theorem dX1_join_10 : decode cX1_join 10 = .ok (.aload_n 0, 1) := by decide +kernel
theorem dX1_join_11 : decode cX1_join 11 = .ok (.getfield 9, 3) := by decide +kernel
theorem dX1_join_14 : decode cX1_join 14 = .ok (.iload_n 2, 1) := by decide +kernel
theorem dX1_join_15 : decode cX1_join 15 = .ok (.iload_n 2, 1) := by decide +kernel
theorem dX1_join_16 : decode cX1_join 16 = .ok (.iload_n 1, 1) := by decide +kernel
theorem dX1_join_17 : decode cX1_join 17 = .ok (.if_icmp .ne 7, 3) := by decide +kernel
theorem dX1_join_20 : decode cX1_join 20 = .ok (.iconst (-1), 1) := by decide +kernel
theorem dX1_join_21 : decode cX1_join 21 = .ok (.goto 4, 3) := by decide +kernel
theorem dX1_join_24 : decode cX1_join 24 = .ok (.iload_n 1, 1) := by decide +kernel
theorem dX1_join_25 : decode cX1_join 25 = .ok (.iastore, 1) := by decide +kernel
theorem dX1_join_26 : decode cX1_join 26 = .ok (.return_, 1) := by decide +kernel
theorem dX1_weave_0 : decode cX1_weave 0 = .ok (.iload_n 1, 1) := by decide +kernel
theorem dX1_weave_1 : decode cX1_weave 1 = .ok (.istore_n 2, 1) := by decide +kernel
theorem dX1_weave_2 : decode cX1_weave 2 = .ok (.bipush 41, 2) := by decide +kernel
theorem dX1_weave_4 : decode cX1_weave 4 = .ok (.istore_n 3, 1) := by decide +kernel
theorem dX1_weave_5 : decode cX1_weave 5 = .ok (.iconst 0, 1) := by decide +kernel
theorem dX1_weave_6 : decode cX1_weave 6 = .ok (.istore 4, 2) := by decide +kernel
theorem dX1_weave_8 : decode cX1_weave 8 = .ok (.iload 4, 2) := by decide +kernel
theorem dX1_weave_10 : decode cX1_weave 10 = .ok (.bipush 80, 2) := by decide +kernel
theorem dX1_weave_12 : decode cX1_weave 12 = .ok (.if_icmp .gt 65, 3) := by decide +kernel
theorem dX1_weave_15 : decode cX1_weave 15 = .ok (.iload_n 2, 1) := by decide +kernel
theorem dX1_weave_16 : decode cX1_weave 16 = .ok (.ifCond .lt 61, 3) := by decide +kernel
theorem dX1_weave_19 : decode cX1_weave 19 = .ok (.iload_n 2, 1) := by decide +kernel
theorem dX1_weave_20 : decode cX1_weave 20 = .ok (.bipush 80, 2) := by decide +kernel
theorem dX1_weave_22 : decode cX1_weave 22 = .ok (.if_icmp .ge 55, 3) := by decide +kernel
theorem dX1_weave_25 : decode cX1_weave 25 = .ok (.iload_n 2, 1) := by decide +kernel
theorem dX1_weave_26 : decode cX1_weave 26 = .ok (.bipush 40, 2) := by decide +kernel
theorem dX1_weave_28 : decode cX1_weave 28 = .ok (.if_icmp .lt 15, 3) := by decide +kernel
theorem dX1_weave_31 : decode cX1_weave 31 = .ok (.aload_n 0, 1) := by decide +kernel
theorem dX1_weave_32 : decode cX1_weave 32 = .ok (.iload_n 2, 1) := by decide +kernel
theorem dX1_weave_33 : decode cX1_weave 33 = .ok (.bipush 40, 2) := by decide +kernel
theorem dX1_weave_35 : decode cX1_weave 35 = .ok (.isub, 1) := by decide +kernel
theorem dX1_weave_36 : decode cX1_weave 36 = .ok (.iload_n 3, 1) := by decide +kernel
theorem dX1_weave_37 : decode cX1_weave 37 = .ok (.invokevirtual 56, 3) := by decide +kernel
theorem dX1_weave_40 : decode cX1_weave 40 = .ok (.goto 22, 3) := by decide +kernel
theorem dX1_weave_43 : decode cX1_weave 43 = .ok (.aload_n 0, 1) := by decide +kernel
theorem dX1_weave_44 : decode cX1_weave 44 = .ok (.getfield 15, 3) := by decide +kernel
theorem dX1_weave_47 : decode cX1_weave 47 = .ok (.iload_n 2, 1) := by decide +kernel
theorem dX1_weave_48 : decode cX1_weave 48 = .ok (.iaload, 1) := by decide +kernel
theorem dX1_weave_49 : decode cX1_weave 49 = .ok (.bipush (-2), 2) := by decide +kernel
theorem dX1_weave_51 : decode cX1_weave 51 = .ok (.if_icmp .ne 11, 3) := by decide +kernel
theorem dX1_weave_54 : decode cX1_weave 54 = .ok (.aload_n 0, 1) := by decide +kernel
theorem dX1_weave_55 : decode cX1_weave 55 = .ok (.getfield 9, 3) := by decide +kernel
theorem dX1_weave_58 : decode cX1_weave 58 = .ok (.iload_n 2, 1) := by decide +kernel
theorem dX1_weave_59 : decode cX1_weave 59 = .ok (.bipush 40, 2) := by decide +kernel
theorem dX1_weave_61 : decode cX1_weave 61 = .ok (.iastore, 1) := by decide +kernel
theorem dX1_weave_62 : decode cX1_weave 62 = .ok (.iload_n 2, 1) := by decide +kernel
theorem dX1_weave_63 : decode cX1_weave 63 = .ok (.istore_n 3, 1) := by decide +kernel
theorem dX1_weave_64 : decode cX1_weave 64 = .ok (.aload_n 0, 1) := by decide +kernel
theorem dX1_weave_65 : decode cX1_weave 65 = .ok (.getfield 15, 3) := by decide +kernel
theorem dX1_weave_68 : decode cX1_weave 68 = .ok (.iload_n 2, 1) := by decide +kernel
theorem dX1_weave_69 : decode cX1_weave 69 = .ok (.iaload, 1) := by decide +kernel
theorem dX1_weave_70 : decode cX1_weave 70 = .ok (.istore_n 2, 1) := by decide +kernel
theorem dX1_weave_71 : decode cX1_weave 71 = .ok (.iinc 4 1, 3) := by decide +kernel
theorem dX1_weave_74 : decode cX1_weave 74 = .ok (.goto (-66), 3) := by decide +kernel
theorem dX1_weave_77 : decode cX1_weave 77 = .ok (.return_, 1) := by decide +kernel
theorem dX1_search_0 : decode cX1_search 0 = .ok (.aload_n 0, 1) := by decide +kernel
theorem dX1_search_1 : decode cX1_search 1 = .ok (.getfield 15, 3) := by decide +kernel
theorem dX1_search_4 : decode cX1_search 4 = .ok (.iconst (-1), 1) := by decide +kernel
theorem dX1_search_5 : decode cX1_search 5 = .ok (.invokestatic 25, 3) := by decide +kernel
theorem dX1_search_8 : decode cX1_search 8 = .ok (.aload_n 0, 1) := by decide +kernel
theorem dX1_search_9 : decode cX1_search 9 = .ok (.iconst 0, 1) := by decide +kernel
theorem dX1_search_10 : decode cX1_search 10 = .ok (.putfield 21, 3) := by decide +kernel
theorem dX1_search_13 : decode cX1_search 13 = .ok (.iconst 0, 1) := by decide +kernel
theorem dX1_search_14 : decode cX1_search 14 = .ok (.istore_n 3, 1) := by decide +kernel
theorem dX1_search_15 : decode cX1_search 15 = .ok (.iload_n 3, 1) := by decide +kernel
theorem dX1_search_16 : decode cX1_search 16 = .ok (.bipush 40, 2) := by decide +kernel
theorem dX1_search_18 : decode cX1_search 18 = .ok (.if_icmp .ge 27, 3) := by decide +kernel
theorem dX1_search_21 : decode cX1_search 21 = .ok (.aload_n 1, 1) := by decide +kernel
theorem dX1_search_22 : decode cX1_search 22 = .ok (.bipush 40, 2) := by decide +kernel
theorem dX1_search_24 : decode cX1_search 24 = .ok (.iload_n 3, 1) := by decide +kernel
theorem dX1_search_25 : decode cX1_search 25 = .ok (.iload_n 2, 1) := by decide +kernel
theorem dX1_search_26 : decode cX1_search 26 = .ok (.invokevirtual 39, 3) := by decide +kernel
theorem dX1_search_29 : decode cX1_search 29 = .ok (.ifCond .eq 10, 3) := by decide +kernel
theorem dX1_search_32 : decode cX1_search 32 = .ok (.aload_n 0, 1) := by decide +kernel
theorem dX1_search_33 : decode cX1_search 33 = .ok (.iload_n 3, 1) := by decide +kernel
theorem dX1_search_34 : decode cX1_search 34 = .ok (.bipush (-2), 2) := by decide +kernel
theorem dX1_search_36 : decode cX1_search 36 = .ok (.invokevirtual 45, 3) := by decide +kernel
theorem dX1_search_39 : decode cX1_search 39 = .ok (.iinc 3 1, 3) := by decide +kernel
theorem dX1_search_42 : decode cX1_search 42 = .ok (.goto (-27), 3) := by decide +kernel
theorem dX1_search_45 : decode cX1_search 45 = .ok (.iconst 0, 1) := by decide +kernel
theorem dX1_search_46 : decode cX1_search 46 = .ok (.istore_n 3, 1) := by decide +kernel
theorem dX1_search_47 : decode cX1_search 47 = .ok (.iload_n 3, 1) := by decide +kernel
theorem dX1_search_48 : decode cX1_search 48 = .ok (.aload_n 0, 1) := by decide +kernel
theorem dX1_search_49 : decode cX1_search 49 = .ok (.getfield 21, 3) := by decide +kernel
theorem dX1_search_52 : decode cX1_search 52 = .ok (.if_icmp .ge 56, 3) := by decide +kernel
theorem dX1_search_55 : decode cX1_search 55 = .ok (.iload_n 3, 1) := by decide +kernel
theorem dX1_search_56 : decode cX1_search 56 = .ok (.bipush 80, 2) := by decide +kernel
theorem dX1_search_58 : decode cX1_search 58 = .ok (.if_icmp .ge 50, 3) := by decide +kernel
theorem dX1_search_61 : decode cX1_search 61 = .ok (.aload_n 0, 1) := by decide +kernel
theorem dX1_search_62 : decode cX1_search 62 = .ok (.getfield 18, 3) := by decide +kernel
theorem dX1_search_65 : decode cX1_search 65 = .ok (.iload_n 3, 1) := by decide +kernel
theorem dX1_search_66 : decode cX1_search 66 = .ok (.iaload, 1) := by decide +kernel
theorem dX1_search_67 : decode cX1_search 67 = .ok (.istore 4, 2) := by decide +kernel
theorem dX1_search_69 : decode cX1_search 69 = .ok (.iload 4, 2) := by decide +kernel
theorem dX1_search_71 : decode cX1_search 71 = .ok (.bipush 40, 2) := by decide +kernel
theorem dX1_search_73 : decode cX1_search 73 = .ok (.if_icmp .ge 12, 3) := by decide +kernel
theorem dX1_search_76 : decode cX1_search 76 = .ok (.aload_n 0, 1) := by decide +kernel
theorem dX1_search_77 : decode cX1_search 77 = .ok (.iload 4, 2) := by decide +kernel
theorem dX1_search_79 : decode cX1_search 79 = .ok (.invokevirtual 49, 3) := by decide +kernel
theorem dX1_search_82 : decode cX1_search 82 = .ok (.goto 20, 3) := by decide +kernel
theorem dX1_search_85 : decode cX1_search 85 = .ok (.aload_n 0, 1) := by decide +kernel
theorem dX1_search_86 : decode cX1_search 86 = .ok (.aload_n 1, 1) := by decide +kernel
theorem dX1_search_87 : decode cX1_search 87 = .ok (.iload_n 2, 1) := by decide +kernel
theorem dX1_search_88 : decode cX1_search 88 = .ok (.iload 4, 2) := by decide +kernel
theorem dX1_search_90 : decode cX1_search 90 = .ok (.bipush 40, 2) := by decide +kernel
theorem dX1_search_92 : decode cX1_search 92 = .ok (.isub, 1) := by decide +kernel
theorem dX1_search_93 : decode cX1_search 93 = .ok (.invokevirtual 52, 3) := by decide +kernel
theorem dX1_search_96 : decode cX1_search 96 = .ok (.ifCond .eq 6, 3) := by decide +kernel
theorem dX1_search_99 : decode cX1_search 99 = .ok (.iload 4, 2) := by decide +kernel
theorem dX1_search_101 : decode cX1_search 101 = .ok (.ireturn, 1) := by decide +kernel
theorem dX1_search_102 : decode cX1_search 102 = .ok (.iinc 3 1, 3) := by decide +kernel
theorem dX1_search_105 : decode cX1_search 105 = .ok (.goto (-58), 3) := by decide +kernel
theorem dX1_search_108 : decode cX1_search 108 = .ok (.iconst (-1), 1) := by decide +kernel
theorem dX1_search_109 : decode cX1_search 109 = .ok (.ireturn, 1) := by decide +kernel
theorem dX1_fewest_0 : decode cX1_fewest 0 = .ok (.aload_n 0, 1) := by decide +kernel
theorem dX1_fewest_1 : decode cX1_fewest 1 = .ok (.getfield 9, 3) := by decide +kernel
theorem dX1_fewest_4 : decode cX1_fewest 4 = .ok (.iconst (-1), 1) := by decide +kernel
theorem dX1_fewest_5 : decode cX1_fewest 5 = .ok (.invokestatic 25, 3) := by decide +kernel
theorem dX1_fewest_8 : decode cX1_fewest 8 = .ok (.iconst 0, 1) := by decide +kernel
theorem dX1_fewest_9 : decode cX1_fewest 9 = .ok (.istore_n 3, 1) := by decide +kernel
theorem dX1_fewest_10 : decode cX1_fewest 10 = .ok (.iload_n 3, 1) := by decide +kernel
theorem dX1_fewest_11 : decode cX1_fewest 11 = .ok (.bipush 40, 2) := by decide +kernel
theorem dX1_fewest_13 : decode cX1_fewest 13 = .ok (.if_icmp .ge 31, 3) := by decide +kernel
theorem dX1_fewest_16 : decode cX1_fewest 16 = .ok (.aload_n 0, 1) := by decide +kernel
theorem dX1_fewest_17 : decode cX1_fewest 17 = .ok (.aload_n 1, 1) := by decide +kernel
theorem dX1_fewest_18 : decode cX1_fewest 18 = .ok (.iload_n 2, 1) := by decide +kernel
theorem dX1_fewest_19 : decode cX1_fewest 19 = .ok (.invokevirtual 31, 3) := by decide +kernel
theorem dX1_fewest_22 : decode cX1_fewest 22 = .ok (.istore 4, 2) := by decide +kernel
theorem dX1_fewest_24 : decode cX1_fewest 24 = .ok (.iload 4, 2) := by decide +kernel
theorem dX1_fewest_26 : decode cX1_fewest 26 = .ok (.iconst (-1), 1) := by decide +kernel
theorem dX1_fewest_27 : decode cX1_fewest 27 = .ok (.if_icmp .ne 5, 3) := by decide +kernel
theorem dX1_fewest_30 : decode cX1_fewest 30 = .ok (.iload_n 3, 1) := by decide +kernel
theorem dX1_fewest_31 : decode cX1_fewest 31 = .ok (.ireturn, 1) := by decide +kernel
theorem dX1_fewest_32 : decode cX1_fewest 32 = .ok (.aload_n 0, 1) := by decide +kernel
theorem dX1_fewest_33 : decode cX1_fewest 33 = .ok (.iload 4, 2) := by decide +kernel
theorem dX1_fewest_35 : decode cX1_fewest 35 = .ok (.invokevirtual 35, 3) := by decide +kernel
theorem dX1_fewest_38 : decode cX1_fewest 38 = .ok (.iinc 3 1, 3) := by decide +kernel
theorem dX1_fewest_41 : decode cX1_fewest 41 = .ok (.goto (-31), 3) := by decide +kernel
theorem dX1_fewest_44 : decode cX1_fewest 44 = .ok (.bipush 40, 2) := by decide +kernel
theorem dX1_fewest_46 : decode cX1_fewest 46 = .ok (.ireturn, 1) := by decide +kernel
theorem dX6_countOnLine_0 : decode cX6_countOnLine 0 = .ok (.aload_n 0, 1) := by decide +kernel
theorem dX6_countOnLine_1 : decode cX6_countOnLine 1 = .ok (.iload_n 1, 1) := by decide +kernel
theorem dX6_countOnLine_2 : decode cX6_countOnLine 2 = .ok (.invokevirtual 34, 3) := by decide +kernel
theorem dX6_countOnLine_5 : decode cX6_countOnLine 5 = .ok (.ifCond .eq 11, 3) := by decide +kernel
theorem dX6_countOnLine_8 : decode cX6_countOnLine 8 = .ok (.aload_n 0, 1) := by decide +kernel
theorem dX6_countOnLine_9 : decode cX6_countOnLine 9 = .ok (.iload_n 2, 1) := by decide +kernel
theorem dX6_countOnLine_10 : decode cX6_countOnLine 10 = .ok (.invokevirtual 34, 3) := by decide +kernel
theorem dX6_countOnLine_13 : decode cX6_countOnLine 13 = .ok (.ifCond .ne 5, 3) := by decide +kernel
theorem dX6_countOnLine_16 : decode cX6_countOnLine 16 = .ok (.iconst 0, 1) := by decide +kernel
theorem dX6_countOnLine_17 : decode cX6_countOnLine 17 = .ok (.ireturn, 1) := by decide +kernel
theorem dX6_countOnLine_18 : decode cX6_countOnLine 18 = .ok (.aload_n 0, 1) := by decide +kernel
theorem dX6_countOnLine_19 : decode cX6_countOnLine 19 = .ok (.getfield 38, 3) := by decide +kernel
theorem dX6_countOnLine_22 : decode cX6_countOnLine 22 = .ok (.iload_n 2, 1) := by decide +kernel
theorem dX6_countOnLine_23 : decode cX6_countOnLine 23 = .ok (.iaload, 1) := by decide +kernel
theorem dX6_countOnLine_24 : decode cX6_countOnLine 24 = .ok (.aload_n 0, 1) := by decide +kernel
theorem dX6_countOnLine_25 : decode cX6_countOnLine 25 = .ok (.getfield 38, 3) := by decide +kernel
theorem dX6_countOnLine_28 : decode cX6_countOnLine 28 = .ok (.iload_n 1, 1) := by decide +kernel
theorem dX6_countOnLine_29 : decode cX6_countOnLine 29 = .ok (.iaload, 1) := by decide +kernel
theorem dX6_countOnLine_30 : decode cX6_countOnLine 30 = .ok (.isub, 1) := by decide +kernel
theorem dX6_countOnLine_31 : decode cX6_countOnLine 31 = .ok (.istore_n 3, 1) := by decide +kernel
theorem dX6_countOnLine_32 : decode cX6_countOnLine 32 = .ok (.aload_n 0, 1) := by decide +kernel
theorem dX6_countOnLine_33 : decode cX6_countOnLine 33 = .ok (.getfield 42, 3) := by decide +kernel
theorem dX6_countOnLine_36 : decode cX6_countOnLine 36 = .ok (.iload_n 2, 1) := by decide +kernel
theorem dX6_countOnLine_37 : decode cX6_countOnLine 37 = .ok (.iaload, 1) := by decide +kernel
theorem dX6_countOnLine_38 : decode cX6_countOnLine 38 = .ok (.aload_n 0, 1) := by decide +kernel
theorem dX6_countOnLine_39 : decode cX6_countOnLine 39 = .ok (.getfield 42, 3) := by decide +kernel
theorem dX6_countOnLine_42 : decode cX6_countOnLine 42 = .ok (.iload_n 1, 1) := by decide +kernel
theorem dX6_countOnLine_43 : decode cX6_countOnLine 43 = .ok (.iaload, 1) := by decide +kernel
theorem dX6_countOnLine_44 : decode cX6_countOnLine 44 = .ok (.isub, 1) := by decide +kernel
theorem dX6_countOnLine_45 : decode cX6_countOnLine 45 = .ok (.istore 4, 2) := by decide +kernel
theorem dX6_countOnLine_47 : decode cX6_countOnLine 47 = .ok (.iconst 0, 1) := by decide +kernel
theorem dX6_countOnLine_48 : decode cX6_countOnLine 48 = .ok (.istore 5, 2) := by decide +kernel
theorem dX6_countOnLine_50 : decode cX6_countOnLine 50 = .ok (.iconst 0, 1) := by decide +kernel
theorem dX6_countOnLine_51 : decode cX6_countOnLine 51 = .ok (.istore 6, 2) := by decide +kernel
theorem dX6_countOnLine_53 : decode cX6_countOnLine 53 = .ok (.iload 6, 2) := by decide +kernel
theorem dX6_countOnLine_55 : decode cX6_countOnLine 55 = .ok (.bipush 40, 2) := by decide +kernel
theorem dX6_countOnLine_57 : decode cX6_countOnLine 57 = .ok (.if_icmp .ge 58, 3) := by decide +kernel
theorem dX6_countOnLine_60 : decode cX6_countOnLine 60 = .ok (.aload_n 0, 1) := by decide +kernel
theorem dX6_countOnLine_61 : decode cX6_countOnLine 61 = .ok (.getfield 21, 3) := by decide +kernel
theorem dX6_countOnLine_64 : decode cX6_countOnLine 64 = .ok (.iload 6, 2) := by decide +kernel
theorem dX6_countOnLine_66 : decode cX6_countOnLine 66 = .ok (.baload, 1) := by decide +kernel
theorem dX6_countOnLine_67 : decode cX6_countOnLine 67 = .ok (.ifCond .eq 42, 3) := by decide +kernel
theorem dX6_countOnLine_70 : decode cX6_countOnLine 70 = .ok (.iload_n 3, 1) := by decide +kernel
theorem dX6_countOnLine_71 : decode cX6_countOnLine 71 = .ok (.aload_n 0, 1) := by decide +kernel
theorem dX6_countOnLine_72 : decode cX6_countOnLine 72 = .ok (.getfield 42, 3) := by decide +kernel
theorem dX6_countOnLine_75 : decode cX6_countOnLine 75 = .ok (.iload 6, 2) := by decide +kernel
theorem dX6_countOnLine_77 : decode cX6_countOnLine 77 = .ok (.iaload, 1) := by decide +kernel
theorem dX6_countOnLine_78 : decode cX6_countOnLine 78 = .ok (.aload_n 0, 1) := by decide +kernel
theorem dX6_countOnLine_79 : decode cX6_countOnLine 79 = .ok (.getfield 42, 3) := by decide +kernel
theorem dX6_countOnLine_82 : decode cX6_countOnLine 82 = .ok (.iload_n 1, 1) := by decide +kernel
theorem dX6_countOnLine_83 : decode cX6_countOnLine 83 = .ok (.iaload, 1) := by decide +kernel
theorem dX6_countOnLine_84 : decode cX6_countOnLine 84 = .ok (.isub, 1) := by decide +kernel
theorem dX6_countOnLine_85 : decode cX6_countOnLine 85 = .ok (.imul, 1) := by decide +kernel
theorem dX6_countOnLine_86 : decode cX6_countOnLine 86 = .ok (.iload 4, 2) := by decide +kernel
theorem dX6_countOnLine_88 : decode cX6_countOnLine 88 = .ok (.aload_n 0, 1) := by decide +kernel
theorem dX6_countOnLine_89 : decode cX6_countOnLine 89 = .ok (.getfield 38, 3) := by decide +kernel
theorem dX6_countOnLine_92 : decode cX6_countOnLine 92 = .ok (.iload 6, 2) := by decide +kernel
theorem dX6_countOnLine_94 : decode cX6_countOnLine 94 = .ok (.iaload, 1) := by decide +kernel
theorem dX6_countOnLine_95 : decode cX6_countOnLine 95 = .ok (.aload_n 0, 1) := by decide +kernel
theorem dX6_countOnLine_96 : decode cX6_countOnLine 96 = .ok (.getfield 38, 3) := by decide +kernel
theorem dX6_countOnLine_99 : decode cX6_countOnLine 99 = .ok (.iload_n 1, 1) := by decide +kernel
theorem dX6_countOnLine_100 : decode cX6_countOnLine 100 = .ok (.iaload, 1) := by decide +kernel
theorem dX6_countOnLine_101 : decode cX6_countOnLine 101 = .ok (.isub, 1) := by decide +kernel
theorem dX6_countOnLine_102 : decode cX6_countOnLine 102 = .ok (.imul, 1) := by decide +kernel
theorem dX6_countOnLine_103 : decode cX6_countOnLine 103 = .ok (.if_icmp .ne 6, 3) := by decide +kernel
theorem dX6_countOnLine_106 : decode cX6_countOnLine 106 = .ok (.iinc 5 1, 3) := by decide +kernel
theorem dX6_countOnLine_109 : decode cX6_countOnLine 109 = .ok (.iinc 6 1, 3) := by decide +kernel
theorem dX6_countOnLine_112 : decode cX6_countOnLine 112 = .ok (.goto (-59), 3) := by decide +kernel
theorem dX6_countOnLine_115 : decode cX6_countOnLine 115 = .ok (.iload 5, 2) := by decide +kernel
theorem dX6_countOnLine_117 : decode cX6_countOnLine 117 = .ok (.ireturn, 1) := by decide +kernel
theorem dX6_line_0 : decode cX6_line 0 = .ok (.iconst 2, 1) := by decide +kernel
theorem dX6_line_1 : decode cX6_line 1 = .ok (.aload_n 0, 1) := by decide +kernel
theorem dX6_line_2 : decode cX6_line 2 = .ok (.invokevirtual 9, 3) := by decide +kernel
theorem dX6_line_5 : decode cX6_line 5 = .ok (.invokestatic 15, 3) := by decide +kernel
theorem dX6_line_8 : decode cX6_line 8 = .ok (.istore_n 1, 1) := by decide +kernel
theorem dX6_line_9 : decode cX6_line 9 = .ok (.iconst 0, 1) := by decide +kernel
theorem dX6_line_10 : decode cX6_line 10 = .ok (.istore_n 2, 1) := by decide +kernel
theorem dX6_line_11 : decode cX6_line 11 = .ok (.iload_n 2, 1) := by decide +kernel
theorem dX6_line_12 : decode cX6_line 12 = .ok (.bipush 40, 2) := by decide +kernel
theorem dX6_line_14 : decode cX6_line 14 = .ok (.if_icmp .ge 54, 3) := by decide +kernel
theorem dX6_line_17 : decode cX6_line 17 = .ok (.iload_n 2, 1) := by decide +kernel
theorem dX6_line_18 : decode cX6_line 18 = .ok (.iconst 1, 1) := by decide +kernel
theorem dX6_line_19 : decode cX6_line 19 = .ok (.iadd, 1) := by decide +kernel
theorem dX6_line_20 : decode cX6_line 20 = .ok (.istore_n 3, 1) := by decide +kernel
theorem dX6_line_21 : decode cX6_line 21 = .ok (.iload_n 3, 1) := by decide +kernel
theorem dX6_line_22 : decode cX6_line 22 = .ok (.bipush 40, 2) := by decide +kernel
theorem dX6_line_24 : decode cX6_line 24 = .ok (.if_icmp .ge 38, 3) := by decide +kernel
theorem dX6_line_27 : decode cX6_line 27 = .ok (.aload_n 0, 1) := by decide +kernel
theorem dX6_line_28 : decode cX6_line 28 = .ok (.getfield 21, 3) := by decide +kernel
theorem dX6_line_31 : decode cX6_line 31 = .ok (.iload_n 2, 1) := by decide +kernel
theorem dX6_line_32 : decode cX6_line 32 = .ok (.baload, 1) := by decide +kernel
theorem dX6_line_33 : decode cX6_line 33 = .ok (.ifCond .eq 23, 3) := by decide +kernel
theorem dX6_line_36 : decode cX6_line 36 = .ok (.aload_n 0, 1) := by decide +kernel
theorem dX6_line_37 : decode cX6_line 37 = .ok (.getfield 21, 3) := by decide +kernel
theorem dX6_line_40 : decode cX6_line 40 = .ok (.iload_n 3, 1) := by decide +kernel
theorem dX6_line_41 : decode cX6_line 41 = .ok (.baload, 1) := by decide +kernel
theorem dX6_line_42 : decode cX6_line 42 = .ok (.ifCond .eq 14, 3) := by decide +kernel
theorem dX6_line_45 : decode cX6_line 45 = .ok (.iload_n 1, 1) := by decide +kernel
theorem dX6_line_46 : decode cX6_line 46 = .ok (.aload_n 0, 1) := by decide +kernel
theorem dX6_line_47 : decode cX6_line 47 = .ok (.iload_n 2, 1) := by decide +kernel
theorem dX6_line_48 : decode cX6_line 48 = .ok (.iload_n 3, 1) := by decide +kernel
theorem dX6_line_49 : decode cX6_line 49 = .ok (.invokestatic 25, 3) := by decide +kernel
theorem dX6_line_52 : decode cX6_line 52 = .ok (.invokestatic 31, 3) := by decide +kernel
theorem dX6_line_55 : decode cX6_line 55 = .ok (.istore_n 1, 1) := by decide +kernel
theorem dX6_line_56 : decode cX6_line 56 = .ok (.iinc 3 1, 3) := by decide +kernel
theorem dX6_line_59 : decode cX6_line 59 = .ok (.goto (-38), 3) := by decide +kernel
theorem dX6_line_62 : decode cX6_line 62 = .ok (.iinc 2 1, 3) := by decide +kernel
theorem dX6_line_65 : decode cX6_line 65 = .ok (.goto (-54), 3) := by decide +kernel
theorem dX6_line_68 : decode cX6_line 68 = .ok (.iload_n 1, 1) := by decide +kernel
theorem dX6_line_69 : decode cX6_line 69 = .ok (.ireturn, 1) := by decide +kernel
theorem dX6_yardApart_0 : decode cX6_yardApart 0 = .ok (.iconst 0, 1) := by decide +kernel
theorem dX6_yardApart_1 : decode cX6_yardApart 1 = .ok (.istore_n 1, 1) := by decide +kernel
theorem dX6_yardApart_2 : decode cX6_yardApart 2 = .ok (.iconst 0, 1) := by decide +kernel
theorem dX6_yardApart_3 : decode cX6_yardApart 3 = .ok (.istore_n 2, 1) := by decide +kernel
theorem dX6_yardApart_4 : decode cX6_yardApart 4 = .ok (.iload_n 2, 1) := by decide +kernel
theorem dX6_yardApart_5 : decode cX6_yardApart 5 = .ok (.bipush 40, 2) := by decide +kernel
theorem dX6_yardApart_7 : decode cX6_yardApart 7 = .ok (.if_icmp .ge 60, 3) := by decide +kernel
theorem dX6_yardApart_10 : decode cX6_yardApart 10 = .ok (.aload_n 0, 1) := by decide +kernel
theorem dX6_yardApart_11 : decode cX6_yardApart 11 = .ok (.getfield 21, 3) := by decide +kernel
theorem dX6_yardApart_14 : decode cX6_yardApart 14 = .ok (.iload_n 2, 1) := by decide +kernel
theorem dX6_yardApart_15 : decode cX6_yardApart 15 = .ok (.baload, 1) := by decide +kernel
theorem dX6_yardApart_16 : decode cX6_yardApart 16 = .ok (.ifCond .eq 45, 3) := by decide +kernel
theorem dX6_yardApart_19 : decode cX6_yardApart 19 = .ok (.iconst 1, 1) := by decide +kernel
theorem dX6_yardApart_20 : decode cX6_yardApart 20 = .ok (.istore_n 3, 1) := by decide +kernel
theorem dX6_yardApart_21 : decode cX6_yardApart 21 = .ok (.iload_n 3, 1) := by decide +kernel
theorem dX6_yardApart_22 : decode cX6_yardApart 22 = .ok (.bipush 20, 2) := by decide +kernel
theorem dX6_yardApart_24 : decode cX6_yardApart 24 = .ok (.if_icmp .ge 31, 3) := by decide +kernel
theorem dX6_yardApart_27 : decode cX6_yardApart 27 = .ok (.aload_n 0, 1) := by decide +kernel
theorem dX6_yardApart_28 : decode cX6_yardApart 28 = .ok (.aload_n 0, 1) := by decide +kernel
theorem dX6_yardApart_29 : decode cX6_yardApart 29 = .ok (.getfield 38, 3) := by decide +kernel
theorem dX6_yardApart_32 : decode cX6_yardApart 32 = .ok (.iload_n 2, 1) := by decide +kernel
theorem dX6_yardApart_33 : decode cX6_yardApart 33 = .ok (.iaload, 1) := by decide +kernel
theorem dX6_yardApart_34 : decode cX6_yardApart 34 = .ok (.aload_n 0, 1) := by decide +kernel
theorem dX6_yardApart_35 : decode cX6_yardApart 35 = .ok (.getfield 42, 3) := by decide +kernel
theorem dX6_yardApart_38 : decode cX6_yardApart 38 = .ok (.iload_n 2, 1) := by decide +kernel
theorem dX6_yardApart_39 : decode cX6_yardApart 39 = .ok (.iaload, 1) := by decide +kernel
theorem dX6_yardApart_40 : decode cX6_yardApart 40 = .ok (.iload_n 3, 1) := by decide +kernel
theorem dX6_yardApart_41 : decode cX6_yardApart 41 = .ok (.iadd, 1) := by decide +kernel
theorem dX6_yardApart_42 : decode cX6_yardApart 42 = .ok (.invokevirtual 45, 3) := by decide +kernel
theorem dX6_yardApart_45 : decode cX6_yardApart 45 = .ok (.iconst (-1), 1) := by decide +kernel
theorem dX6_yardApart_46 : decode cX6_yardApart 46 = .ok (.if_icmp .eq 9, 3) := by decide +kernel
theorem dX6_yardApart_49 : decode cX6_yardApart 49 = .ok (.iinc 3 1, 3) := by decide +kernel
theorem dX6_yardApart_52 : decode cX6_yardApart 52 = .ok (.goto (-31), 3) := by decide +kernel
theorem dX6_yardApart_55 : decode cX6_yardApart 55 = .ok (.iload_n 1, 1) := by decide +kernel
theorem dX6_yardApart_56 : decode cX6_yardApart 56 = .ok (.iload_n 3, 1) := by decide +kernel
theorem dX6_yardApart_57 : decode cX6_yardApart 57 = .ok (.invokestatic 31, 3) := by decide +kernel
theorem dX6_yardApart_60 : decode cX6_yardApart 60 = .ok (.istore_n 1, 1) := by decide +kernel
theorem dX6_yardApart_61 : decode cX6_yardApart 61 = .ok (.iinc 2 1, 3) := by decide +kernel
theorem dX6_yardApart_64 : decode cX6_yardApart 64 = .ok (.goto (-60), 3) := by decide +kernel
theorem dX6_yardApart_67 : decode cX6_yardApart 67 = .ok (.iload_n 1, 1) := by decide +kernel
theorem dX6_yardApart_68 : decode cX6_yardApart 68 = .ok (.ireturn, 1) := by decide +kernel
theorem dX6_nearest_0 : decode cX6_nearest 0 = .ok (.iconst (-1), 1) := by decide +kernel
theorem dX6_nearest_1 : decode cX6_nearest 1 = .ok (.istore_n 2, 1) := by decide +kernel
theorem dX6_nearest_2 : decode cX6_nearest 2 = .ok (.iconst 0, 1) := by decide +kernel
theorem dX6_nearest_3 : decode cX6_nearest 3 = .ok (.istore_n 3, 1) := by decide +kernel
theorem dX6_nearest_4 : decode cX6_nearest 4 = .ok (.iload_n 3, 1) := by decide +kernel
theorem dX6_nearest_5 : decode cX6_nearest 5 = .ok (.bipush 40, 2) := by decide +kernel
theorem dX6_nearest_7 : decode cX6_nearest 7 = .ok (.if_icmp .ge 53, 3) := by decide +kernel
theorem dX6_nearest_10 : decode cX6_nearest 10 = .ok (.aload_n 0, 1) := by decide +kernel
theorem dX6_nearest_11 : decode cX6_nearest 11 = .ok (.iload_n 1, 1) := by decide +kernel
theorem dX6_nearest_12 : decode cX6_nearest 12 = .ok (.invokevirtual 34, 3) := by decide +kernel
theorem dX6_nearest_15 : decode cX6_nearest 15 = .ok (.ifCond .eq 45, 3) := by decide +kernel
theorem dX6_nearest_18 : decode cX6_nearest 18 = .ok (.iload_n 3, 1) := by decide +kernel
theorem dX6_nearest_19 : decode cX6_nearest 19 = .ok (.iload_n 1, 1) := by decide +kernel
theorem dX6_nearest_20 : decode cX6_nearest 20 = .ok (.if_icmp .eq 34, 3) := by decide +kernel
theorem dX6_nearest_23 : decode cX6_nearest 23 = .ok (.aload_n 0, 1) := by decide +kernel
theorem dX6_nearest_24 : decode cX6_nearest 24 = .ok (.getfield 21, 3) := by decide +kernel
theorem dX6_nearest_27 : decode cX6_nearest 27 = .ok (.iload_n 3, 1) := by decide +kernel
theorem dX6_nearest_28 : decode cX6_nearest 28 = .ok (.baload, 1) := by decide +kernel
theorem dX6_nearest_29 : decode cX6_nearest 29 = .ok (.ifCond .eq 25, 3) := by decide +kernel
theorem dX6_nearest_32 : decode cX6_nearest 32 = .ok (.iload_n 2, 1) := by decide +kernel
theorem dX6_nearest_33 : decode cX6_nearest 33 = .ok (.iconst (-1), 1) := by decide +kernel
theorem dX6_nearest_34 : decode cX6_nearest 34 = .ok (.if_icmp .eq 18, 3) := by decide +kernel
theorem dX6_nearest_37 : decode cX6_nearest 37 = .ok (.aload_n 0, 1) := by decide +kernel
theorem dX6_nearest_38 : decode cX6_nearest 38 = .ok (.iload_n 1, 1) := by decide +kernel
theorem dX6_nearest_39 : decode cX6_nearest 39 = .ok (.iload_n 3, 1) := by decide +kernel
theorem dX6_nearest_40 : decode cX6_nearest 40 = .ok (.invokevirtual 52, 3) := by decide +kernel
theorem dX6_nearest_43 : decode cX6_nearest 43 = .ok (.aload_n 0, 1) := by decide +kernel
theorem dX6_nearest_44 : decode cX6_nearest 44 = .ok (.iload_n 1, 1) := by decide +kernel
theorem dX6_nearest_45 : decode cX6_nearest 45 = .ok (.iload_n 2, 1) := by decide +kernel
theorem dX6_nearest_46 : decode cX6_nearest 46 = .ok (.invokevirtual 52, 3) := by decide +kernel
theorem dX6_nearest_49 : decode cX6_nearest 49 = .ok (.if_icmp .ge 5, 3) := by decide +kernel
theorem dX6_nearest_52 : decode cX6_nearest 52 = .ok (.iload_n 3, 1) := by decide +kernel
theorem dX6_nearest_53 : decode cX6_nearest 53 = .ok (.istore_n 2, 1) := by decide +kernel
theorem dX6_nearest_54 : decode cX6_nearest 54 = .ok (.iinc 3 1, 3) := by decide +kernel
theorem dX6_nearest_57 : decode cX6_nearest 57 = .ok (.goto (-53), 3) := by decide +kernel
theorem dX6_nearest_60 : decode cX6_nearest 60 = .ok (.iload_n 2, 1) := by decide +kernel
theorem dX6_nearest_61 : decode cX6_nearest 61 = .ok (.ireturn, 1) := by decide +kernel
theorem dX6_pairs_0 : decode cX6_pairs 0 = .ok (.iconst 0, 1) := by decide +kernel
theorem dX6_pairs_1 : decode cX6_pairs 1 = .ok (.istore_n 1, 1) := by decide +kernel
theorem dX6_pairs_2 : decode cX6_pairs 2 = .ok (.iconst 0, 1) := by decide +kernel
theorem dX6_pairs_3 : decode cX6_pairs 3 = .ok (.istore_n 2, 1) := by decide +kernel
theorem dX6_pairs_4 : decode cX6_pairs 4 = .ok (.iload_n 2, 1) := by decide +kernel
theorem dX6_pairs_5 : decode cX6_pairs 5 = .ok (.bipush 40, 2) := by decide +kernel
theorem dX6_pairs_7 : decode cX6_pairs 7 = .ok (.if_icmp .ge 32, 3) := by decide +kernel
theorem dX6_pairs_10 : decode cX6_pairs 10 = .ok (.aload_n 0, 1) := by decide +kernel
theorem dX6_pairs_11 : decode cX6_pairs 11 = .ok (.iload_n 2, 1) := by decide +kernel
theorem dX6_pairs_12 : decode cX6_pairs 12 = .ok (.invokestatic 48, 3) := by decide +kernel
theorem dX6_pairs_15 : decode cX6_pairs 15 = .ok (.istore_n 3, 1) := by decide +kernel
theorem dX6_pairs_16 : decode cX6_pairs 16 = .ok (.iload_n 3, 1) := by decide +kernel
theorem dX6_pairs_17 : decode cX6_pairs 17 = .ok (.iload_n 2, 1) := by decide +kernel
theorem dX6_pairs_18 : decode cX6_pairs 18 = .ok (.if_icmp .le 15, 3) := by decide +kernel
theorem dX6_pairs_21 : decode cX6_pairs 21 = .ok (.aload_n 0, 1) := by decide +kernel
theorem dX6_pairs_22 : decode cX6_pairs 22 = .ok (.iload_n 3, 1) := by decide +kernel
theorem dX6_pairs_23 : decode cX6_pairs 23 = .ok (.invokestatic 48, 3) := by decide +kernel
theorem dX6_pairs_26 : decode cX6_pairs 26 = .ok (.iload_n 2, 1) := by decide +kernel
theorem dX6_pairs_27 : decode cX6_pairs 27 = .ok (.if_icmp .ne 6, 3) := by decide +kernel
theorem dX6_pairs_30 : decode cX6_pairs 30 = .ok (.iinc 1 1, 3) := by decide +kernel
theorem dX6_pairs_33 : decode cX6_pairs 33 = .ok (.iinc 2 1, 3) := by decide +kernel
theorem dX6_pairs_36 : decode cX6_pairs 36 = .ok (.goto (-32), 3) := by decide +kernel
theorem dX6_pairs_39 : decode cX6_pairs 39 = .ok (.iload_n 1, 1) := by decide +kernel
theorem dX6_pairs_40 : decode cX6_pairs 40 = .ok (.ireturn, 1) := by decide +kernel
theorem dX6_closest_0 : decode cX6_closest 0 = .ok (.bipush (-2), 2) := by decide +kernel
theorem dX6_closest_2 : decode cX6_closest 2 = .ok (.istore_n 1, 1) := by decide +kernel
theorem dX6_closest_3 : decode cX6_closest 3 = .ok (.iconst 0, 1) := by decide +kernel
theorem dX6_closest_4 : decode cX6_closest 4 = .ok (.istore_n 2, 1) := by decide +kernel
theorem dX6_closest_5 : decode cX6_closest 5 = .ok (.iload_n 2, 1) := by decide +kernel
theorem dX6_closest_6 : decode cX6_closest 6 = .ok (.bipush 40, 2) := by decide +kernel
theorem dX6_closest_8 : decode cX6_closest 8 = .ok (.if_icmp .ge 43, 3) := by decide +kernel
theorem dX6_closest_11 : decode cX6_closest 11 = .ok (.aload_n 0, 1) := by decide +kernel
theorem dX6_closest_12 : decode cX6_closest 12 = .ok (.iload_n 2, 1) := by decide +kernel
theorem dX6_closest_13 : decode cX6_closest 13 = .ok (.invokestatic 48, 3) := by decide +kernel
theorem dX6_closest_16 : decode cX6_closest 16 = .ok (.istore_n 3, 1) := by decide +kernel
theorem dX6_closest_17 : decode cX6_closest 17 = .ok (.iload_n 3, 1) := by decide +kernel
theorem dX6_closest_18 : decode cX6_closest 18 = .ok (.iconst (-1), 1) := by decide +kernel
theorem dX6_closest_19 : decode cX6_closest 19 = .ok (.if_icmp .eq 26, 3) := by decide +kernel
theorem dX6_closest_22 : decode cX6_closest 22 = .ok (.iload_n 1, 1) := by decide +kernel
theorem dX6_closest_23 : decode cX6_closest 23 = .ok (.bipush (-2), 2) := by decide +kernel
theorem dX6_closest_25 : decode cX6_closest 25 = .ok (.if_icmp .eq 13, 3) := by decide +kernel
theorem dX6_closest_28 : decode cX6_closest 28 = .ok (.aload_n 0, 1) := by decide +kernel
theorem dX6_closest_29 : decode cX6_closest 29 = .ok (.iload_n 2, 1) := by decide +kernel
theorem dX6_closest_30 : decode cX6_closest 30 = .ok (.iload_n 3, 1) := by decide +kernel
theorem dX6_closest_31 : decode cX6_closest 31 = .ok (.invokevirtual 52, 3) := by decide +kernel
theorem dX6_closest_34 : decode cX6_closest 34 = .ok (.iload_n 1, 1) := by decide +kernel
theorem dX6_closest_35 : decode cX6_closest 35 = .ok (.if_icmp .ge 10, 3) := by decide +kernel
theorem dX6_closest_38 : decode cX6_closest 38 = .ok (.aload_n 0, 1) := by decide +kernel
theorem dX6_closest_39 : decode cX6_closest 39 = .ok (.iload_n 2, 1) := by decide +kernel
theorem dX6_closest_40 : decode cX6_closest 40 = .ok (.iload_n 3, 1) := by decide +kernel
theorem dX6_closest_41 : decode cX6_closest 41 = .ok (.invokevirtual 52, 3) := by decide +kernel
theorem dX6_closest_44 : decode cX6_closest 44 = .ok (.istore_n 1, 1) := by decide +kernel
theorem dX6_closest_45 : decode cX6_closest 45 = .ok (.iinc 2 1, 3) := by decide +kernel
theorem dX6_closest_48 : decode cX6_closest 48 = .ok (.goto (-43), 3) := by decide +kernel
theorem dX6_closest_51 : decode cX6_closest 51 = .ok (.iload_n 1, 1) := by decide +kernel
theorem dX6_closest_52 : decode cX6_closest 52 = .ok (.ireturn, 1) := by decide +kernel
set_option maxHeartbeats 4000000 in
theorem s_X8_spread (b : Nat) (hb : isF b) (k len_k : Nat) (hk : ∀ {ad : Nat → Nat} {cI cZ cB : ClassId}, IA (glC ad cI cZ cB) 60 k cI len_k) (hlk : len_k < 2 ^ 31) (v2 : Int32) (v3 : Int32) (v5 : Int32) (M : Mem) : AM yX8_spread cX8_spread 6 (some .int) 4 60 glC (fun ad => [.ref (ad 23), .ref (ad b), .int v2, .int v3, .ref (ad k), .int v5]) M (PI (fun _ M' => ∀ a, a ≠ k → a ≠ 26 → M' a = M a)) := by
  refine AM.of (by decide) (fun _ => Nat.le_of_ble_eq_true rfl) (fun X ad cI cZ cB hX hR => ?_)
  show V X M [(0, .ref (ad 23)), (1, .ref (ad b)), (2, .int v2), (3, .int v3), (4, .ref (ad k)), (5, .int v5)] [] 0
  have hb0 : b = 1 ∨ b = 7 ∨ b = 13 := hb
  have hf_0 : ∀ a, a ≠ k → a ≠ 26 → M a = M a := fun _ _ _ => rfl
  refine s_aload (k := 4) hX dX8_spread_0 rfl ?_
  refine s_iconst (v := (-1)) hX dX8_spread_2 (by decide) ?_
  refine s_callSv hX (s_J7_fill_53178 k len_k hk hlk _ M) mJ7_fill_53178 lX8_31 (by decide) (by decide) rfl rfl (Nat.le_of_ble_eq_true rfl) dX8_spread_3 (fun M_1 hp3 => ?_)
  have hfM_1 : ∀ a, a ≠ k → a ≠ 26 → M_1 a = M a := fun a q0 q1 => (hp3 a (by omega)).trans (hf_0 a q0 q1)
  refine s_aload_n (k := 0) hX dX8_spread_6 rfl rfl ?_
  refine s_aload_n (k := 1) hX dX8_spread_7 rfl rfl ?_
  refine s_iload_n (k := 2) hX dX8_spread_8 rfl rfl ?_
  refine s_iload_n (k := 3) hX dX8_spread_9 rfl rfl ?_
  refine s_aload (k := 4) hX dX8_spread_10 rfl ?_
  refine s_iload (k := 5) hX dX8_spread_12 rfl ?_
  refine s_callVi hX (s_X8_spreadOn b hb k len_k hk hlk _ _ _ M_1) mX8_spreadOn lX8_37 (by decide) (by decide) oC23 rfl rfl rfl rfl rfl (Nat.le_of_ble_eq_true rfl) dX8_spread_14 (fun r14 M_2 hp14 => ?_)
  have hfM_2 : ∀ a, a ≠ k → a ≠ 26 → M_2 a = M a := fun a q0 q1 => (hp14 a (by omega) (by omega)).trans (hfM_1 a q0 q1)
  exact s_iret hX hR dX8_spread_17 hfM_2
set_option maxHeartbeats 4000000 in
theorem s_X8_canCross (b : Nat) (hb : isF b) (v2 : Int32) (M : Mem) : AM yX8_canCross cX8_canCross 3 (some .boolean) 5 60 glC (fun ad => [.ref (ad 23), .ref (ad b), .int v2]) M (PI (fun r M' => (r = 0 ∨ r = 1) ∧ (∀ a, a ≠ 24 → a ≠ 26 → M' a = M a))) := by
  refine AM.of (by decide) (fun _ => Nat.le_of_ble_eq_true rfl) (fun X ad cI cZ cB hX hR => ?_)
  show V X M [(0, .ref (ad 23)), (1, .ref (ad b)), (2, .int v2)] [] 0
  have hb0 : b = 1 ∨ b = 7 ∨ b = 13 := hb
  have hf_0 : ∀ a, a ≠ 24 → a ≠ 26 → M a = M a := fun _ _ _ => rfl
  refine s_aload_n (k := 0) hX dX8_canCross_0 rfl rfl ?_
  refine s_aload_n (k := 1) hX dX8_canCross_1 rfl rfl ?_
  refine s_iload_n (k := 2) hX dX8_canCross_2 rfl rfl ?_
  refine s_bipush (v := (nI 40)) hX dX8_canCross_3 (by decide) ?_
  refine s_aload_n (k := 0) hX dX8_canCross_5 rfl rfl ?_
  refine s_get hX fX8_9 oC23 rfl dX8_canCross_6 ?_
  refine s_bipush (v := (nI 42)) hX dX8_canCross_9 (by decide) ?_
  refine s_callVi hX (s_X8_spread b hb 24 42 aC24 (by decide) _ _ _ M) mX8_spread lX8_47 (by decide) (by decide) oC23 rfl rfl rfl rfl rfl (Nat.le_of_ble_eq_true rfl) dX8_canCross_11 (fun r11 M_1 hp11 => ?_)
  have hfM_1 : ∀ a, a ≠ 24 → a ≠ 26 → M_1 a = M a := fun a q0 q1 => (hp11 a (by omega) (by omega)).trans (hf_0 a q0 q1)
  refine s_pop hX dX8_canCross_14 rfl ?_
  refine s_aload_n (k := 0) hX dX8_canCross_15 rfl rfl ?_
  refine s_get hX fX8_9 oC23 rfl dX8_canCross_16 ?_
  refine s_bipush (v := (nI 41)) hX dX8_canCross_19 (by decide) ?_
  refine s_ialdN hX aC24 (by omega) dX8_canCross_21 ?_
  refine s_iconst (v := (-1)) hX dX8_canCross_22 (by decide) ?_
  refine s_icmp_eq (tgt := 30) hX dX8_canCross_23 (by decide) (fun c23 => ?_) (fun c23 => ?_)
  · refine s_iconst (v := (nI 0)) hX dX8_canCross_30 (by decide) ?_
    exact s_zret hX hR dX8_canCross_31 (by decide) ⟨(by decide), hfM_1⟩
  · refine s_iconst (v := (nI 1)) hX dX8_canCross_26 (by decide) ?_
    refine s_goto (tgt := 31) hX dX8_canCross_27 (by decide) ?_
    exact s_zret hX hR dX8_canCross_31 (by decide) ⟨(by decide), hfM_1⟩
set_option maxHeartbeats 4000000 in
theorem s_X8_leadOn (b : Nat) (hb : isF b) (v2 : Int32) (v3 : Int32) (M : Mem) : AM yX8_leadOn cX8_leadOn 5 none 3 60 glC (fun ad => [.ref (ad 23), .ref (ad b), .int v2, .int v3]) M (PV (fun M' => ∀ a, a ≠ 27 → M' a = M a)) := by
  refine AM.of (by decide) (fun _ => Nat.le_of_ble_eq_true rfl) (fun X ad cI cZ cB hX hR => ?_)
  show V X M [(0, .ref (ad 23)), (1, .ref (ad b)), (2, .int v2), (3, .int v3)] [] 0
  have hb0 : b = 1 ∨ b = 7 ∨ b = 13 := hb
  have hf_0 : ∀ a, a ≠ 27 → M a = M a := fun _ _ => rfl
  refine s_iload_n (k := 3) hX dX8_leadOn_0 rfl rfl ?_
  refine s_if_lt (tgt := 10) hX dX8_leadOn_1 (by decide) (fun c1 => ?_) (fun c1 => ?_)
  · replace c1 := z_lt.mp c1
    exact s_vret hX hR dX8_leadOn_10 hf_0
  · replace c1 := mt z_lt.mpr c1
    refine s_iload_n (k := 3) hX dX8_leadOn_4 rfl rfl ?_
    refine s_bipush (v := (nI 42)) hX dX8_leadOn_5 (by decide) ?_
    refine s_icmp_lt (tgt := 11) hX dX8_leadOn_7 (by decide) (fun c7 => ?_) (fun c7 => ?_)
    · replace c7 := (q_lt (by omega)).mp c7
      refine s_iconst (v := (nI 0)) hX dX8_leadOn_11 (by decide) ?_
      refine s_istore (lv' := [(0, .ref (ad 23)), (1, .ref (ad b)), (2, .int v2), (3, .int v3), (4, .int (nI 0))]) hX dX8_leadOn_12 (by decide) rfl ?_
      have lp14 : ∀ (N14 : Nat) (i14 : Nat) (M14 : Mem), (i14 ≤ 42) → (42 < i14 + N14) → (∀ a, a ≠ 27 → M14 a = M a) → V X M14 [(0, .ref (ad 23)), (1, .ref (ad b)), (2, .int v2), (3, .int v3), (4, .int (nI i14))] [] 14 := by
        intro N14
        induction N14 with
        | zero => intro i14 M14 hi14 hN14 hf_14; exact absurd hN14 (by omega)
        | succ N14 ih14 =>
          intro i14 M14 hi14 hN14 hf_14
          refine s_iload (k := 4) hX dX8_leadOn_14 rfl ?_
          refine s_bipush (v := (nI 42)) hX dX8_leadOn_16 (by decide) ?_
          refine s_icmp_ge (tgt := 82) hX dX8_leadOn_18 (by decide) (fun c18 => ?_) (fun c18 => ?_)
          · replace c18 := (nI_leI (by omega) (by omega)).mp c18
            exact s_vret hX hR dX8_leadOn_82 hf_14
          · replace c18 := mt (nI_leI (by omega) (by omega)).mpr c18
            refine s_aload_n (k := 0) hX dX8_leadOn_21 rfl rfl ?_
            refine s_get hX fX8_9 oC23 rfl dX8_leadOn_22 ?_
            refine s_iload (k := 4) hX dX8_leadOn_25 rfl ?_
            refine s_ialdN hX aC24 (by omega) dX8_leadOn_27 ?_
            refine s_aload_n (k := 0) hX dX8_leadOn_28 rfl rfl ?_
            refine s_get hX fX8_9 oC23 rfl dX8_leadOn_29 ?_
            refine s_iload_n (k := 3) hX dX8_leadOn_32 rfl rfl ?_
            refine s_iald hX aC24 (vp_in_iff.mpr (by omega)) dX8_leadOn_33 ?_
            refine s_iconst (v := (nI 1)) hX dX8_leadOn_34 (by decide) ?_
            refine s_iadd hX dX8_leadOn_35 ?_
            refine s_icmp_ne (tgt := 76) hX dX8_leadOn_36 (by decide) (fun c36 => ?_) (fun c36 => ?_)
            · refine s_iinc (k := 4) (v := nI (i14 + 1)) (lv' := [(0, .ref (ad 23)), (1, .ref (ad b)), (2, .int v2), (3, .int v3), (4, .int (nI (i14 + 1)))]) hX dX8_leadOn_76 (nI_1 _) (by decide) rfl rfl ?_
              refine s_goto (tgt := 14) hX dX8_leadOn_79 (by decide) ?_
              exact ih14 _ _ (by omega) (by omega) hf_14
            · refine s_aload_n (k := 1) hX dX8_leadOn_39 rfl rfl ?_
              refine s_iload_n (k := 3) hX dX8_leadOn_40 rfl rfl ?_
              refine s_iload (k := 4) hX dX8_leadOn_41 rfl ?_
              refine s_iload_n (k := 2) hX dX8_leadOn_43 rfl rfl ?_
              refine s_callVi hX (s_X2_isStep b hb _ _ _ M14) mX2_isStep lX8_41 (by decide) (by decide) (oF hb) rfl rfl rfl rfl rfl (Nat.le_of_ble_eq_true rfl) dX8_leadOn_44 (fun r44 M_2 hp44 => ?_)
              obtain ⟨hz44, hq44⟩ := hp44
              subst hq44
              refine s_if_eq (tgt := 76) hX dX8_leadOn_47 (by decide) (fun c47 => ?_) (fun c47 => ?_)
              · replace c47 := z_eq.mp c47
                refine s_iinc (k := 4) (v := nI (i14 + 1)) (lv' := [(0, .ref (ad 23)), (1, .ref (ad b)), (2, .int v2), (3, .int v3), (4, .int (nI (i14 + 1)))]) hX dX8_leadOn_76 (nI_1 _) (by decide) rfl rfl ?_
                refine s_goto (tgt := 14) hX dX8_leadOn_79 (by decide) ?_
                exact ih14 _ _ (by omega) (by omega) hf_14
              · replace c47 := mt z_eq.mpr c47
                refine s_aload_n (k := 0) hX dX8_leadOn_50 rfl rfl ?_
                refine s_get hX fX8_21 oC23 rfl dX8_leadOn_51 ?_
                refine s_iload (k := 4) hX dX8_leadOn_54 rfl ?_
                refine s_ldc (v := (nI 1000000000)) hX kX8_62 dX8_leadOn_56 ?_
                refine s_aload_n (k := 0) hX dX8_leadOn_58 rfl rfl ?_
                refine s_get hX fX8_21 oC23 rfl dX8_leadOn_59 ?_
                refine s_iload (k := 4) hX dX8_leadOn_62 rfl ?_
                refine s_ialdN hX aC27 (by omega) dX8_leadOn_64 ?_
                refine s_aload_n (k := 0) hX dX8_leadOn_65 rfl rfl ?_
                refine s_get hX fX8_21 oC23 rfl dX8_leadOn_66 ?_
                refine s_iload_n (k := 3) hX dX8_leadOn_69 rfl rfl ?_
                refine s_iald hX aC27 (vp_in_iff.mpr (by omega)) dX8_leadOn_70 ?_
                refine s_iadd hX dX8_leadOn_71 ?_
                refine s_mmin hX lX8_63 mJ9_min (by decide) (Nat.le_of_ble_eq_true rfl) dX8_leadOn_72 ?_
                refine s_iastN hX aC27 (by omega) dX8_leadOn_75 ?_
                refine s_mem (fun M_3 eM_3 => ?_)
                have hfM_3 : ∀ a, a ≠ 27 → M_3 a = M a := fun a q0 => (congrFun eM_3 a).trans ((mset_n (by omega)).trans (hf_14 a q0))
                refine s_iinc (k := 4) (v := nI (i14 + 1)) (lv' := [(0, .ref (ad 23)), (1, .ref (ad b)), (2, .int v2), (3, .int v3), (4, .int (nI (i14 + 1)))]) hX dX8_leadOn_76 (nI_1 _) (by decide) rfl rfl ?_
                refine s_goto (tgt := 14) hX dX8_leadOn_79 (by decide) ?_
                exact ih14 _ _ (by omega) (by omega) hfM_3
      exact lp14 (42 + 1) _ _ (by omega) (by omega) hf_0
    · replace c7 := mt (q_lt (by omega)).mpr c7
      exact s_vret hX hR dX8_leadOn_10 hf_0
set_option maxHeartbeats 4000000 in
theorem s_X8_countRows (b : Nat) (hb : isF b) (v2 : Int32) (v3 : Int32) (M : Mem) : AM yX8_countRows cX8_countRows 5 (some .int) 4 60 glC (fun ad => [.ref (ad 23), .ref (ad b), .int v2, .int v3]) M (PI (fun _ M' => ∀ a, a ≠ 27 → M' a = M a)) := by
  refine AM.of (by decide) (fun _ => Nat.le_of_ble_eq_true rfl) (fun X ad cI cZ cB hX hR => ?_)
  show V X M [(0, .ref (ad 23)), (1, .ref (ad b)), (2, .int v2), (3, .int v3)] [] 0
  have hb0 : b = 1 ∨ b = 7 ∨ b = 13 := hb
  have hf_0 : ∀ a, a ≠ 27 → M a = M a := fun _ _ => rfl
  refine s_aload_n (k := 0) hX dX8_countRows_0 rfl rfl ?_
  refine s_get hX fX8_21 oC23 rfl dX8_countRows_1 ?_
  refine s_iconst (v := (nI 0)) hX dX8_countRows_4 (by decide) ?_
  refine s_callSv hX (s_J7_fill_53178 27 42 aC27 (by decide) _ M) mJ7_fill_53178 lX8_31 (by decide) (by decide) rfl rfl (Nat.le_of_ble_eq_true rfl) dX8_countRows_5 (fun M_1 hp5 => ?_)
  have hfM_1 : ∀ a, a ≠ 27 → M_1 a = M a := fun a q0 => (hp5 a (by omega)).trans (hf_0 a q0)
  refine s_aload_n (k := 0) hX dX8_countRows_8 rfl rfl ?_
  refine s_get hX fX8_21 oC23 rfl dX8_countRows_9 ?_
  refine s_bipush (v := (nI 40)) hX dX8_countRows_12 (by decide) ?_
  refine s_iconst (v := (nI 1)) hX dX8_countRows_14 (by decide) ?_
  refine s_iastN hX aC27 (by omega) dX8_countRows_15 ?_
  refine s_mem (fun M_2 eM_2 => ?_)
  have hfM_2 : ∀ a, a ≠ 27 → M_2 a = M a := fun a q0 => (congrFun eM_2 a).trans ((mset_n (by omega)).trans (hfM_1 a q0))
  refine s_iconst (v := (nI 0)) hX dX8_countRows_16 (by decide) ?_
  refine s_istore (lv' := [(0, .ref (ad 23)), (1, .ref (ad b)), (2, .int v2), (3, .int v3), (4, .int (nI 0))]) hX dX8_countRows_17 (by decide) rfl ?_
  have lp19 : ∀ (N19 : Nat) (i19 : Nat) (M19 : Mem), (i19 ≤ 42) → (42 < i19 + N19) → (∀ a, a ≠ 27 → M19 a = M a) → V X M19 [(0, .ref (ad 23)), (1, .ref (ad b)), (2, .int v2), (3, .int v3), (4, .int (nI i19))] [] 19 := by
    intro N19
    induction N19 with
    | zero => intro i19 M19 hi19 hN19 hf_19; exact absurd hN19 (by omega)
    | succ N19 ih19 =>
      intro i19 M19 hi19 hN19 hf_19
      refine s_iload (k := 4) hX dX8_countRows_19 rfl ?_
      refine s_iload_n (k := 3) hX dX8_countRows_21 rfl rfl ?_
      refine s_icmp_ge (tgt := 51) hX dX8_countRows_22 (by decide) (fun c22 => ?_) (fun c22 => ?_)
      · replace c22 := (q_le (by omega)).mp c22
        refine s_aload_n (k := 0) hX dX8_countRows_51 rfl rfl ?_
        refine s_get hX fX8_21 oC23 rfl dX8_countRows_52 ?_
        refine s_bipush (v := (nI 41)) hX dX8_countRows_55 (by decide) ?_
        refine s_ialdN hX aC27 (by omega) dX8_countRows_57 ?_
        exact s_iret hX hR dX8_countRows_58 hf_19
      · replace c22 := mt (q_le (by omega)).mpr c22
        refine s_iload (k := 4) hX dX8_countRows_25 rfl ?_
        refine s_bipush (v := (nI 42)) hX dX8_countRows_27 (by decide) ?_
        refine s_icmp_ge (tgt := 51) hX dX8_countRows_29 (by decide) (fun c29 => ?_) (fun c29 => ?_)
        · replace c29 := (nI_leI (by omega) (by omega)).mp c29
          refine s_aload_n (k := 0) hX dX8_countRows_51 rfl rfl ?_
          refine s_get hX fX8_21 oC23 rfl dX8_countRows_52 ?_
          refine s_bipush (v := (nI 41)) hX dX8_countRows_55 (by decide) ?_
          refine s_ialdN hX aC27 (by omega) dX8_countRows_57 ?_
          exact s_iret hX hR dX8_countRows_58 hf_19
        · replace c29 := mt (nI_leI (by omega) (by omega)).mpr c29
          refine s_aload_n (k := 0) hX dX8_countRows_32 rfl rfl ?_
          refine s_aload_n (k := 1) hX dX8_countRows_33 rfl rfl ?_
          refine s_iload_n (k := 2) hX dX8_countRows_34 rfl rfl ?_
          refine s_aload_n (k := 0) hX dX8_countRows_35 rfl rfl ?_
          refine s_get hX fX8_18 oC23 rfl dX8_countRows_36 ?_
          refine s_iload (k := 4) hX dX8_countRows_39 rfl ?_
          refine s_ialdN hX aC26 (by omega) dX8_countRows_41 ?_
          refine s_callVv hX (s_X8_leadOn b hb _ _ M19) mX8_leadOn lX8_58 (by decide) (by decide) oC23 rfl rfl rfl rfl rfl (Nat.le_of_ble_eq_true rfl) dX8_countRows_42 (fun M_4 hp42 => ?_)
          have hfM_4 : ∀ a, a ≠ 27 → M_4 a = M a := fun a q0 => (hp42 a (by omega)).trans (hf_19 a q0)
          refine s_iinc (k := 4) (v := nI (i19 + 1)) (lv' := [(0, .ref (ad 23)), (1, .ref (ad b)), (2, .int v2), (3, .int v3), (4, .int (nI (i19 + 1)))]) hX dX8_countRows_45 (nI_1 _) (by decide) rfl rfl ?_
          refine s_goto (tgt := 19) hX dX8_countRows_48 (by decide) ?_
          exact ih19 _ _ (by omega) (by omega) hfM_4
  exact lp19 (42 + 1) _ _ (by omega) (by omega) hfM_2
set_option maxHeartbeats 4000000 in
theorem s_X8_lowestOnward (b : Nat) (hb : isF b) (v2 : Int32) (v3 : Int32) (v4 : Int32) (M : Mem) : AM yX8_lowestOnward cX8_lowestOnward 6 (some .int) 3 60 glC (fun ad => [.ref (ad 23), .ref (ad b), .int v2, .int v3, .int v4]) M (PI (fun _ M' => M = M')) := by
  refine AM.of (by decide) (fun _ => Nat.le_of_ble_eq_true rfl) (fun X ad cI cZ cB hX hR => ?_)
  show V X M [(0, .ref (ad 23)), (1, .ref (ad b)), (2, .int v2), (3, .int v3), (4, .int v4)] [] 0
  have hb0 : b = 1 ∨ b = 7 ∨ b = 13 := hb
  refine s_iconst (v := (nI 0)) hX dX8_lowestOnward_0 (by decide) ?_
  refine s_istore (lv' := [(0, .ref (ad 23)), (1, .ref (ad b)), (2, .int v2), (3, .int v3), (4, .int v4), (5, .int (nI 0))]) hX dX8_lowestOnward_1 (by decide) rfl ?_
  have lp3 : ∀ (N3 : Nat) (i3 : Nat), (i3 ≤ 40) → (40 < i3 + N3) → V X M [(0, .ref (ad 23)), (1, .ref (ad b)), (2, .int v2), (3, .int v3), (4, .int v4), (5, .int (nI i3))] [] 3 := by
    intro N3
    induction N3 with
    | zero => intro i3 hi3 hN3; exact absurd hN3 (by omega)
    | succ N3 ih3 =>
      intro i3 hi3 hN3
      refine s_iload (k := 5) hX dX8_lowestOnward_3 rfl ?_
      refine s_bipush (v := (nI 40)) hX dX8_lowestOnward_5 (by decide) ?_
      refine s_icmp_ge (tgt := 42) hX dX8_lowestOnward_7 (by decide) (fun c7 => ?_) (fun c7 => ?_)
      · replace c7 := (nI_leI (by omega) (by omega)).mp c7
        refine s_bipush (v := (-2)) hX dX8_lowestOnward_42 (by decide) ?_
        exact s_iret hX hR dX8_lowestOnward_44 rfl
      · replace c7 := mt (nI_leI (by omega) (by omega)).mpr c7
        refine s_aload_n (k := 0) hX dX8_lowestOnward_10 rfl rfl ?_
        refine s_get hX fX8_15 oC23 rfl dX8_lowestOnward_11 ?_
        refine s_iload (k := 5) hX dX8_lowestOnward_14 rfl ?_
        refine s_ialdN hX aC25 (by omega) dX8_lowestOnward_16 ?_
        refine s_iload (k := 4) hX dX8_lowestOnward_17 rfl ?_
        refine s_icmp_ne (tgt := 36) hX dX8_lowestOnward_19 (by decide) (fun c19 => ?_) (fun c19 => ?_)
        · replace c19 := mt Int32.toInt_inj.symm.mpr c19
          refine s_iinc (k := 5) (v := nI (i3 + 1)) (lv' := [(0, .ref (ad 23)), (1, .ref (ad b)), (2, .int v2), (3, .int v3), (4, .int v4), (5, .int (nI (i3 + 1)))]) hX dX8_lowestOnward_36 (nI_1 _) (by decide) rfl rfl ?_
          refine s_goto (tgt := 3) hX dX8_lowestOnward_39 (by decide) ?_
          exact ih3 _ (by omega) (by omega)
        · replace c19 := Int32.toInt_inj.symm.mp c19
          refine s_aload_n (k := 1) hX dX8_lowestOnward_22 rfl rfl ?_
          refine s_iload_n (k := 3) hX dX8_lowestOnward_23 rfl rfl ?_
          refine s_iload (k := 5) hX dX8_lowestOnward_24 rfl ?_
          refine s_iload_n (k := 2) hX dX8_lowestOnward_26 rfl rfl ?_
          refine s_callVi hX (s_X2_isStep b hb _ _ _ M) mX2_isStep lX8_41 (by decide) (by decide) (oF hb) rfl rfl rfl rfl rfl (Nat.le_of_ble_eq_true rfl) dX8_lowestOnward_27 (fun r27 M_2 hp27 => ?_)
          obtain ⟨hz27, hq27⟩ := hp27
          subst hq27
          refine s_if_eq (tgt := 36) hX dX8_lowestOnward_30 (by decide) (fun c30 => ?_) (fun c30 => ?_)
          · replace c30 := z_eq.mp c30
            refine s_iinc (k := 5) (v := nI (i3 + 1)) (lv' := [(0, .ref (ad 23)), (1, .ref (ad b)), (2, .int v2), (3, .int v3), (4, .int v4), (5, .int (nI (i3 + 1)))]) hX dX8_lowestOnward_36 (nI_1 _) (by decide) rfl rfl ?_
            refine s_goto (tgt := 3) hX dX8_lowestOnward_39 (by decide) ?_
            exact ih3 _ (by omega) (by omega)
          · replace c30 := mt z_eq.mpr c30
            refine s_iload (k := 5) hX dX8_lowestOnward_33 rfl ?_
            exact s_iret hX hR dX8_lowestOnward_35 rfl
  exact lp3 (40 + 1) _ (by omega) (by omega)
set_option maxHeartbeats 4000000 in
theorem s_X8_stoneOfLeastRow (b : Nat) (hb : isF b) (v2 : Int32) (v3 : Int32) (v4 : Int32) (M : Mem) : AM yX8_stoneOfLeastRow cX8_stoneOfLeastRow 7 (some .int) 5 60 glC (fun ad => [.ref (ad 23), .ref (ad b), .int v2, .int v3, .int v4]) M (PI (fun _ M' => ∀ a, a ≠ 25 → a ≠ 26 → M' a = M a)) := by
  refine AM.of (by decide) (fun _ => Nat.le_of_ble_eq_true rfl) (fun X ad cI cZ cB hX hR => ?_)
  show V X M [(0, .ref (ad 23)), (1, .ref (ad b)), (2, .int v2), (3, .int v3), (4, .int v4)] [] 0
  have hb0 : b = 1 ∨ b = 7 ∨ b = 13 := hb
  have hf_0 : ∀ a, a ≠ 25 → a ≠ 26 → M a = M a := fun _ _ _ => rfl
  refine s_aload_n (k := 0) hX dX8_stoneOfLeastRow_0 rfl rfl ?_
  refine s_aload_n (k := 1) hX dX8_stoneOfLeastRow_1 rfl rfl ?_
  refine s_iload_n (k := 2) hX dX8_stoneOfLeastRow_2 rfl rfl ?_
  refine s_bipush (v := (nI 41)) hX dX8_stoneOfLeastRow_3 (by decide) ?_
  refine s_aload_n (k := 0) hX dX8_stoneOfLeastRow_5 rfl rfl ?_
  refine s_get hX fX8_15 oC23 rfl dX8_stoneOfLeastRow_6 ?_
  refine s_bipush (v := (nI 42)) hX dX8_stoneOfLeastRow_9 (by decide) ?_
  refine s_callVi hX (s_X8_spread b hb 25 42 aC25 (by decide) _ _ _ M) mX8_spread lX8_47 (by decide) (by decide) oC23 rfl rfl rfl rfl rfl (Nat.le_of_ble_eq_true rfl) dX8_stoneOfLeastRow_11 (fun r11 M_1 hp11 => ?_)
  have hfM_1 : ∀ a, a ≠ 25 → a ≠ 26 → M_1 a = M a := fun a q0 q1 => (hp11 a (by omega) (by omega)).trans (hf_0 a q0 q1)
  refine s_pop hX dX8_stoneOfLeastRow_14 rfl ?_
  refine s_bipush (v := (nI 40)) hX dX8_stoneOfLeastRow_15 (by decide) ?_
  refine s_istore (lv' := [(0, .ref (ad 23)), (1, .ref (ad b)), (2, .int v2), (3, .int v3), (4, .int v4), (5, .int (nI 40))]) hX dX8_stoneOfLeastRow_17 (by decide) rfl ?_
  refine s_iconst (v := (nI 0)) hX dX8_stoneOfLeastRow_19 (by decide) ?_
  refine s_istore (lv' := [(0, .ref (ad 23)), (1, .ref (ad b)), (2, .int v2), (3, .int v3), (4, .int v4), (5, .int (nI 40)), (6, .int (nI 0))]) hX dX8_stoneOfLeastRow_20 (by decide) rfl ?_
  have lp22 : ∀ (N22 : Nat) (i22 : Nat) (y5_22 : Int32), (i22 ≤ 40) → (40 < i22 + N22) → V X M_1 [(0, .ref (ad 23)), (1, .ref (ad b)), (2, .int v2), (3, .int v3), (4, .int v4), (5, .int y5_22), (6, .int (nI i22))] [] 22 := by
    intro N22
    induction N22 with
    | zero => intro i22 y5_22 hi22 hN22; exact absurd hN22 (by omega)
    | succ N22 ih22 =>
      intro i22 y5_22 hi22 hN22
      refine s_iload (k := 6) hX dX8_stoneOfLeastRow_22 rfl ?_
      refine s_iload (k := 4) hX dX8_stoneOfLeastRow_24 rfl ?_
      refine s_icmp_gt (tgt := 58) hX dX8_stoneOfLeastRow_26 (by decide) (fun c26 => ?_) (fun c26 => ?_)
      · replace c26 := (q_lt (by omega)).mp c26
        refine s_iload (k := 5) hX dX8_stoneOfLeastRow_58 rfl ?_
        exact s_iret hX hR dX8_stoneOfLeastRow_60 hfM_1
      · replace c26 := mt (q_lt (by omega)).mpr c26
        refine s_iload (k := 6) hX dX8_stoneOfLeastRow_29 rfl ?_
        refine s_bipush (v := (nI 40)) hX dX8_stoneOfLeastRow_31 (by decide) ?_
        refine s_icmp_ge (tgt := 58) hX dX8_stoneOfLeastRow_33 (by decide) (fun c33 => ?_) (fun c33 => ?_)
        · replace c33 := (nI_leI (by omega) (by omega)).mp c33
          refine s_iload (k := 5) hX dX8_stoneOfLeastRow_58 rfl ?_
          exact s_iret hX hR dX8_stoneOfLeastRow_60 hfM_1
        · replace c33 := mt (nI_leI (by omega) (by omega)).mpr c33
          refine s_aload_n (k := 0) hX dX8_stoneOfLeastRow_36 rfl rfl ?_
          refine s_aload_n (k := 1) hX dX8_stoneOfLeastRow_37 rfl rfl ?_
          refine s_iload_n (k := 2) hX dX8_stoneOfLeastRow_38 rfl rfl ?_
          refine s_iload (k := 5) hX dX8_stoneOfLeastRow_39 rfl ?_
          refine s_iload_n (k := 3) hX dX8_stoneOfLeastRow_41 rfl rfl ?_
          refine s_iconst (v := (nI 1)) hX dX8_stoneOfLeastRow_42 (by decide) ?_
          refine s_isub hX dX8_stoneOfLeastRow_43 ?_
          refine s_iload (k := 6) hX dX8_stoneOfLeastRow_44 rfl ?_
          refine s_isub hX dX8_stoneOfLeastRow_46 ?_
          refine s_callVi hX (s_X8_lowestOnward b hb _ _ _ M_1) mX8_lowestOnward lX8_69 (by decide) (by decide) oC23 rfl rfl rfl rfl rfl (Nat.le_of_ble_eq_true rfl) dX8_stoneOfLeastRow_47 (fun r47 M_4 hp47 => ?_)
          subst hp47
          refine s_istore (lv' := [(0, .ref (ad 23)), (1, .ref (ad b)), (2, .int v2), (3, .int v3), (4, .int v4), (6, .int (nI i22)), (5, .int r47)]) hX dX8_stoneOfLeastRow_50 (by decide) rfl ?_
          refine s_iinc (k := 5) (v := nI (i22 + 1)) (lv' := [(0, .ref (ad 23)), (1, .ref (ad b)), (2, .int v2), (3, .int v3), (4, .int v4), (5, .int r47), (6, .int (nI (i22 + 1)))]) hX dX8_stoneOfLeastRow_52 (nI_1 _) (by decide) rfl rfl ?_
          refine s_goto (tgt := 22) hX dX8_stoneOfLeastRow_55 (by decide) ?_
          exact ih22 _ _ (by omega) (by omega)
  exact lp22 (40 + 1) _ _ (by omega) (by omega)
set_option maxHeartbeats 4000000 in
theorem s_X8_crossing (b : Nat) (hb : isF b) (v2 : Int32) (v3 : Int32) (M : Mem) : AM yX8_crossing cX8_crossing 6 (some .int) 6 60 glC (fun ad => [.ref (ad 23), .ref (ad b), .int v2, .int v3]) M (PI (fun _ M' => ∀ a, a ≠ 24 → a ≠ 25 → a ≠ 26 → a ≠ 27 → M' a = M a)) := by
  refine AM.of (by decide) (fun _ => Nat.le_of_ble_eq_true rfl) (fun X ad cI cZ cB hX hR => ?_)
  show V X M [(0, .ref (ad 23)), (1, .ref (ad b)), (2, .int v2), (3, .int v3)] [] 0
  have hb0 : b = 1 ∨ b = 7 ∨ b = 13 := hb
  have hf_0 : ∀ a, a ≠ 24 → a ≠ 25 → a ≠ 26 → a ≠ 27 → M a = M a := fun _ _ _ _ _ => rfl
  refine s_aload_n (k := 0) hX dX8_crossing_0 rfl rfl ?_
  refine s_aload_n (k := 1) hX dX8_crossing_1 rfl rfl ?_
  refine s_iload_n (k := 2) hX dX8_crossing_2 rfl rfl ?_
  refine s_bipush (v := (nI 40)) hX dX8_crossing_3 (by decide) ?_
  refine s_aload_n (k := 0) hX dX8_crossing_5 rfl rfl ?_
  refine s_get hX fX8_9 oC23 rfl dX8_crossing_6 ?_
  refine s_bipush (v := (nI 42)) hX dX8_crossing_9 (by decide) ?_
  refine s_callVi hX (s_X8_spread b hb 24 42 aC24 (by decide) _ _ _ M) mX8_spread lX8_47 (by decide) (by decide) oC23 rfl rfl rfl rfl rfl (Nat.le_of_ble_eq_true rfl) dX8_crossing_11 (fun r11 M_1 hp11 => ?_)
  have hfM_1 : ∀ a, a ≠ 24 → a ≠ 25 → a ≠ 26 → a ≠ 27 → M_1 a = M a := fun a q0 q1 q2 q3 => (hp11 a (by omega) (by omega)).trans (hf_0 a q0 q1 q2 q3)
  refine s_istore (lv' := [(0, .ref (ad 23)), (1, .ref (ad b)), (2, .int v2), (3, .int v3), (4, .int r11)]) hX dX8_crossing_14 (by decide) rfl ?_
  refine s_aload_n (k := 0) hX dX8_crossing_16 rfl rfl ?_
  refine s_get hX fX8_9 oC23 rfl dX8_crossing_17 ?_
  refine s_bipush (v := (nI 41)) hX dX8_crossing_20 (by decide) ?_
  refine s_ialdN hX aC24 (by omega) dX8_crossing_22 ?_
  refine s_topi (fun x5_3 ex5_3 => ?_)
  refine s_istore (lv' := [(0, .ref (ad 23)), (1, .ref (ad b)), (2, .int v2), (3, .int v3), (4, .int r11), (5, .int x5_3)]) hX dX8_crossing_23 (by decide) rfl ?_
  refine s_iload (k := 5) hX dX8_crossing_25 rfl ?_
  refine s_iconst (v := (-1)) hX dX8_crossing_27 (by decide) ?_
  refine s_icmp_ne (tgt := 34) hX dX8_crossing_28 (by decide) (fun c28 => ?_) (fun c28 => ?_)
  · refine s_iload_n (k := 3) hX dX8_crossing_34 rfl rfl ?_
    refine s_bipush (v := (nI 100)) hX dX8_crossing_35 (by decide) ?_
    refine s_icmp_ne (tgt := 43) hX dX8_crossing_37 (by decide) (fun c37 => ?_) (fun c37 => ?_)
    · replace c37 := mt (q_eq (by omega)).mpr c37
      refine s_iload_n (k := 3) hX dX8_crossing_43 rfl rfl ?_
      refine s_bipush (v := (nI 101)) hX dX8_crossing_44 (by decide) ?_
      refine s_icmp_ne (tgt := 58) hX dX8_crossing_46 (by decide) (fun c46 => ?_) (fun c46 => ?_)
      · replace c46 := mt (q_eq (by omega)).mpr c46
        refine s_iload_n (k := 3) hX dX8_crossing_58 rfl rfl ?_
        refine s_iload (k := 5) hX dX8_crossing_59 rfl ?_
        refine s_iconst (v := (nI 1)) hX dX8_crossing_61 (by decide) ?_
        refine s_isub hX dX8_crossing_62 ?_
        refine s_icmp_lt (tgt := 71) hX dX8_crossing_63 (by decide) (fun c63 => ?_) (fun c63 => ?_)
        · refine s_aload_n (k := 0) hX dX8_crossing_71 rfl rfl ?_
          refine s_aload_n (k := 1) hX dX8_crossing_72 rfl rfl ?_
          refine s_iload_n (k := 2) hX dX8_crossing_73 rfl rfl ?_
          refine s_iload (k := 5) hX dX8_crossing_74 rfl ?_
          refine s_iload_n (k := 3) hX dX8_crossing_76 rfl rfl ?_
          refine s_callVi hX (s_X8_stoneOfLeastRow b hb _ _ _ M_1) mX8_stoneOfLeastRow lX8_54 (by decide) (by decide) oC23 rfl rfl rfl rfl rfl (Nat.le_of_ble_eq_true rfl) dX8_crossing_77 (fun r77 M_4 hp77 => ?_)
          have hfM_4 : ∀ a, a ≠ 24 → a ≠ 25 → a ≠ 26 → a ≠ 27 → M_4 a = M a := fun a q0 q1 q2 q3 => (hp77 a (by omega) (by omega)).trans (hfM_1 a q0 q1 q2 q3)
          exact s_iret hX hR dX8_crossing_80 hfM_4
        · refine s_bipush (v := (-4)) hX dX8_crossing_66 (by decide) ?_
          refine s_goto (tgt := 80) hX dX8_crossing_68 (by decide) ?_
          exact s_iret hX hR dX8_crossing_80 hfM_1
      · replace c46 := (q_eq (by omega)).mp c46
        refine s_aload_n (k := 0) hX dX8_crossing_49 rfl rfl ?_
        refine s_aload_n (k := 1) hX dX8_crossing_50 rfl rfl ?_
        refine s_iload_n (k := 2) hX dX8_crossing_51 rfl rfl ?_
        refine s_iload (k := 4) hX dX8_crossing_52 rfl ?_
        refine s_callVi hX (s_X8_countRows b hb _ _ M_1) mX8_countRows lX8_50 (by decide) (by decide) oC23 rfl rfl rfl rfl rfl (Nat.le_of_ble_eq_true rfl) dX8_crossing_54 (fun r54 M_5 hp54 => ?_)
        have hfM_5 : ∀ a, a ≠ 24 → a ≠ 25 → a ≠ 26 → a ≠ 27 → M_5 a = M a := fun a q0 q1 q2 q3 => (hp54 a (by omega)).trans (hfM_1 a q0 q1 q2 q3)
        exact s_iret hX hR dX8_crossing_57 hfM_5
    · replace c37 := (q_eq (by omega)).mp c37
      refine s_iload (k := 5) hX dX8_crossing_40 rfl ?_
      exact s_iret hX hR dX8_crossing_42 hfM_1
  · refine s_bipush (v := (-2)) hX dX8_crossing_31 (by decide) ?_
    exact s_iret hX hR dX8_crossing_33 hfM_1
set_option maxHeartbeats 4000000 in
theorem s_X8_cheapest (M : Mem) : AM yX8_cheapest cX8_cheapest 3 (some .int) 0 60 glC (fun ad => [.ref (ad 23)]) M (PI (fun _ M' => M = M')) := by
  refine AM.of (by decide) (fun _ => Nat.le_of_ble_eq_true rfl) (fun X ad cI cZ cB hX hR => ?_)
  show V X M [(0, .ref (ad 23))] [] 0
  refine s_iconst (v := (-1)) hX dX8_cheapest_0 (by decide) ?_
  refine s_istore_n (lv' := [(0, .ref (ad 23)), (1, .int (-1))]) hX dX8_cheapest_1 rfl (by decide) rfl ?_
  refine s_iconst (v := (nI 0)) hX dX8_cheapest_2 (by decide) ?_
  refine s_istore_n (lv' := [(0, .ref (ad 23)), (1, .int (-1)), (2, .int (nI 0))]) hX dX8_cheapest_3 rfl (by decide) rfl ?_
  have lp4 : ∀ (N4 : Nat) (i4 : Nat) (y1_4 : Int32), (i4 ≤ 42) → (42 < i4 + N4) → (y1_4 = -1 ∨ (0 ≤ y1_4.toInt ∧ y1_4.toInt < 42)) → V X M [(0, .ref (ad 23)), (1, .int y1_4), (2, .int (nI i4))] [] 4 := by
    intro N4
    induction N4 with
    | zero => intro i4 y1_4 hi4 hN4 hb4; exact absurd hN4 (by omega)
    | succ N4 ih4 =>
      intro i4 y1_4 hi4 hN4 hb4
      refine s_iload_n (k := 2) hX dX8_cheapest_4 rfl rfl ?_
      refine s_bipush (v := (nI 42)) hX dX8_cheapest_5 (by decide) ?_
      refine s_icmp_ge (tgt := 57) hX dX8_cheapest_7 (by decide) (fun c7 => ?_) (fun c7 => ?_)
      · replace c7 := (nI_leI (by omega) (by omega)).mp c7
        refine s_iload_n (k := 1) hX dX8_cheapest_57 rfl rfl ?_
        exact s_iret hX hR dX8_cheapest_58 rfl
      · replace c7 := mt (nI_leI (by omega) (by omega)).mpr c7
        refine s_aload_n (k := 0) hX dX8_cheapest_10 rfl rfl ?_
        refine s_get hX fX8_27 oC23 rfl dX8_cheapest_11 ?_
        refine s_iload_n (k := 2) hX dX8_cheapest_14 rfl rfl ?_
        refine s_zaldN hX aC29 (by omega) dX8_cheapest_15 ?_
        refine s_if_ne (tgt := 51) hX dX8_cheapest_16 (by decide) (fun c16 => ?_) (fun c16 => ?_)
        · replace c16 := mt z_eq.mpr c16
          refine s_iinc (k := 2) (v := nI (i4 + 1)) (lv' := [(0, .ref (ad 23)), (1, .int y1_4), (2, .int (nI (i4 + 1)))]) hX dX8_cheapest_51 (nI_1 _) (by decide) rfl rfl ?_
          refine s_goto (tgt := 4) hX dX8_cheapest_54 (by decide) ?_
          exact ih4 _ _ (by omega) (by omega) hb4
        · replace c16 := z_eq.mp c16
          refine s_aload_n (k := 0) hX dX8_cheapest_19 rfl rfl ?_
          refine s_get hX fX8_24 oC23 rfl dX8_cheapest_20 ?_
          refine s_iload_n (k := 2) hX dX8_cheapest_23 rfl rfl ?_
          refine s_ialdN hX aC28 (by omega) dX8_cheapest_24 ?_
          refine s_iconst (v := (-1)) hX dX8_cheapest_25 (by decide) ?_
          refine s_icmp_eq (tgt := 51) hX dX8_cheapest_26 (by decide) (fun c26 => ?_) (fun c26 => ?_)
          · refine s_iinc (k := 2) (v := nI (i4 + 1)) (lv' := [(0, .ref (ad 23)), (1, .int y1_4), (2, .int (nI (i4 + 1)))]) hX dX8_cheapest_51 (nI_1 _) (by decide) rfl rfl ?_
            refine s_goto (tgt := 4) hX dX8_cheapest_54 (by decide) ?_
            exact ih4 _ _ (by omega) (by omega) hb4
          · refine s_iload_n (k := 1) hX dX8_cheapest_29 rfl rfl ?_
            refine s_iconst (v := (-1)) hX dX8_cheapest_30 (by decide) ?_
            refine s_icmp_eq (tgt := 49) hX dX8_cheapest_31 (by decide) (fun c31 => ?_) (fun c31 => ?_)
            · refine s_iload_n (k := 2) hX dX8_cheapest_49 rfl rfl ?_
              refine s_istore_n (lv' := [(0, .ref (ad 23)), (2, .int (nI i4)), (1, .int (nI i4))]) hX dX8_cheapest_50 rfl (by decide) rfl ?_
              refine s_iinc (k := 1) (v := nI (i4 + 1)) (lv' := [(0, .ref (ad 23)), (1, .int (nI i4)), (2, .int (nI (i4 + 1)))]) hX dX8_cheapest_51 (nI_1 _) (by decide) rfl rfl ?_
              refine s_goto (tgt := 4) hX dX8_cheapest_54 (by decide) ?_
              exact ih4 _ _ (by omega) (by omega) (Or.inr (by rw [nI_toInt (by omega)]; omega))
            · refine s_aload_n (k := 0) hX dX8_cheapest_34 rfl rfl ?_
              refine s_get hX fX8_24 oC23 rfl dX8_cheapest_35 ?_
              refine s_iload_n (k := 2) hX dX8_cheapest_38 rfl rfl ?_
              refine s_ialdN hX aC28 (by omega) dX8_cheapest_39 ?_
              refine s_aload_n (k := 0) hX dX8_cheapest_40 rfl rfl ?_
              refine s_get hX fX8_24 oC23 rfl dX8_cheapest_41 ?_
              refine s_iload_n (k := 1) hX dX8_cheapest_44 rfl rfl ?_
              refine s_iald hX aC28 (ch1 hb4 c31) dX8_cheapest_45 ?_
              refine s_icmp_ge (tgt := 51) hX dX8_cheapest_46 (by decide) (fun c46 => ?_) (fun c46 => ?_)
              · refine s_iinc (k := 2) (v := nI (i4 + 1)) (lv' := [(0, .ref (ad 23)), (1, .int y1_4), (2, .int (nI (i4 + 1)))]) hX dX8_cheapest_51 (nI_1 _) (by decide) rfl rfl ?_
                refine s_goto (tgt := 4) hX dX8_cheapest_54 (by decide) ?_
                exact ih4 _ _ (by omega) (by omega) hb4
              · refine s_iload_n (k := 2) hX dX8_cheapest_49 rfl rfl ?_
                refine s_istore_n (lv' := [(0, .ref (ad 23)), (2, .int (nI i4)), (1, .int (nI i4))]) hX dX8_cheapest_50 rfl (by decide) rfl ?_
                refine s_iinc (k := 1) (v := nI (i4 + 1)) (lv' := [(0, .ref (ad 23)), (1, .int (nI i4)), (2, .int (nI (i4 + 1)))]) hX dX8_cheapest_51 (nI_1 _) (by decide) rfl rfl ?_
                refine s_goto (tgt := 4) hX dX8_cheapest_54 (by decide) ?_
                exact ih4 _ _ (by omega) (by omega) (Or.inr (by rw [nI_toInt (by omega)]; omega))
  exact lp4 (42 + 1) _ _ (by omega) (by omega) (Or.inl rfl)
set_option maxHeartbeats 4000000 in
theorem s_X8_settle (b : Nat) (hb : isF b) (v2 : Int32) (v3 : Int32) (M : Mem) : AM yX8_settle cX8_settle 6 none 3 60 glC (fun ad => [.ref (ad 23), .ref (ad b), .int v2, .int v3]) M (PV (fun M' => ∀ a, a ≠ 28 → a ≠ 29 → M' a = M a)) := by
  refine AM.of (by decide) (fun _ => Nat.le_of_ble_eq_true rfl) (fun X ad cI cZ cB hX hR => ?_)
  show V X M [(0, .ref (ad 23)), (1, .ref (ad b)), (2, .int v2), (3, .int v3)] [] 0
  have hb0 : b = 1 ∨ b = 7 ∨ b = 13 := hb
  have hf_0 : ∀ a, a ≠ 28 → a ≠ 29 → M a = M a := fun _ _ _ => rfl
  refine s_iload_n (k := 3) hX dX8_settle_0 rfl rfl ?_
  refine s_if_lt (tgt := 10) hX dX8_settle_1 (by decide) (fun c1 => ?_) (fun c1 => ?_)
  · replace c1 := z_lt.mp c1
    exact s_vret hX hR dX8_settle_10 hf_0
  · replace c1 := mt z_lt.mpr c1
    refine s_iload_n (k := 3) hX dX8_settle_4 rfl rfl ?_
    refine s_bipush (v := (nI 42)) hX dX8_settle_5 (by decide) ?_
    refine s_icmp_lt (tgt := 11) hX dX8_settle_7 (by decide) (fun c7 => ?_) (fun c7 => ?_)
    · replace c7 := (q_lt (by omega)).mp c7
      refine s_aload_n (k := 0) hX dX8_settle_11 rfl rfl ?_
      refine s_get hX fX8_27 oC23 rfl dX8_settle_12 ?_
      refine s_iload_n (k := 3) hX dX8_settle_15 rfl rfl ?_
      refine s_iconst (v := (nI 1)) hX dX8_settle_16 (by decide) ?_
      refine s_zast hX aC29 (vp_in_iff.mpr (by omega)) dX8_settle_17 ?_
      refine s_mem (fun M_1 eM_1 => ?_)
      have hfM_1 : ∀ a, a ≠ 28 → a ≠ 29 → M_1 a = M a := fun a q0 q1 => (congrFun eM_1 a).trans ((mset_n (by omega)).trans (hf_0 a q0 q1))
      refine s_iconst (v := (nI 0)) hX dX8_settle_18 (by decide) ?_
      refine s_istore (lv' := [(0, .ref (ad 23)), (1, .ref (ad b)), (2, .int v2), (3, .int v3), (4, .int (nI 0))]) hX dX8_settle_19 (by decide) rfl ?_
      have lp21 : ∀ (N21 : Nat) (i21 : Nat) (M21 : Mem), (i21 ≤ 42) → (42 < i21 + N21) → (∀ a, a ≠ 28 → a ≠ 29 → M21 a = M a) → V X M21 [(0, .ref (ad 23)), (1, .ref (ad b)), (2, .int v2), (3, .int v3), (4, .int (nI i21))] [] 21 := by
        intro N21
        induction N21 with
        | zero => intro i21 M21 hi21 hN21 hf_21; exact absurd hN21 (by omega)
        | succ N21 ih21 =>
          intro i21 M21 hi21 hN21 hf_21
          refine s_iload (k := 4) hX dX8_settle_21 rfl ?_
          refine s_bipush (v := (nI 42)) hX dX8_settle_23 (by decide) ?_
          refine s_icmp_ge (tgt := 119) hX dX8_settle_25 (by decide) (fun c25 => ?_) (fun c25 => ?_)
          · replace c25 := (nI_leI (by omega) (by omega)).mp c25
            exact s_vret hX hR dX8_settle_119 hf_21
          · replace c25 := mt (nI_leI (by omega) (by omega)).mpr c25
            refine s_aload_n (k := 0) hX dX8_settle_28 rfl rfl ?_
            refine s_get hX fX8_27 oC23 rfl dX8_settle_29 ?_
            refine s_iload (k := 4) hX dX8_settle_32 rfl ?_
            refine s_zaldN hX aC29 (by omega) dX8_settle_34 ?_
            refine s_if_ne (tgt := 113) hX dX8_settle_35 (by decide) (fun c35 => ?_) (fun c35 => ?_)
            · replace c35 := mt z_eq.mpr c35
              refine s_iinc (k := 4) (v := nI (i21 + 1)) (lv' := [(0, .ref (ad 23)), (1, .ref (ad b)), (2, .int v2), (3, .int v3), (4, .int (nI (i21 + 1)))]) hX dX8_settle_113 (nI_1 _) (by decide) rfl rfl ?_
              refine s_goto (tgt := 21) hX dX8_settle_116 (by decide) ?_
              exact ih21 _ _ (by omega) (by omega) hf_21
            · replace c35 := z_eq.mp c35
              refine s_aload_n (k := 1) hX dX8_settle_38 rfl rfl ?_
              refine s_iload_n (k := 3) hX dX8_settle_39 rfl rfl ?_
              refine s_iload (k := 4) hX dX8_settle_40 rfl ?_
              refine s_iload_n (k := 2) hX dX8_settle_42 rfl rfl ?_
              refine s_callVi hX (s_X2_isStep b hb _ _ _ M21) mX2_isStep lX8_41 (by decide) (by decide) (oF hb) rfl rfl rfl rfl rfl (Nat.le_of_ble_eq_true rfl) dX8_settle_43 (fun r43 M_3 hp43 => ?_)
              obtain ⟨hz43, hq43⟩ := hp43
              subst hq43
              refine s_if_eq (tgt := 113) hX dX8_settle_46 (by decide) (fun c46 => ?_) (fun c46 => ?_)
              · replace c46 := z_eq.mp c46
                refine s_iinc (k := 4) (v := nI (i21 + 1)) (lv' := [(0, .ref (ad 23)), (1, .ref (ad b)), (2, .int v2), (3, .int v3), (4, .int (nI (i21 + 1)))]) hX dX8_settle_113 (nI_1 _) (by decide) rfl rfl ?_
                refine s_goto (tgt := 21) hX dX8_settle_116 (by decide) ?_
                exact ih21 _ _ (by omega) (by omega) hf_21
              · replace c46 := mt z_eq.mpr c46
                refine s_aload_n (k := 0) hX dX8_settle_49 rfl rfl ?_
                refine s_get hX fX8_24 oC23 rfl dX8_settle_50 ?_
                refine s_iload_n (k := 3) hX dX8_settle_53 rfl rfl ?_
                refine s_iald hX aC28 (vp_in_iff.mpr (by omega)) dX8_settle_54 ?_
                refine s_iconst (v := (nI 1)) hX dX8_settle_55 (by decide) ?_
                refine s_iadd hX dX8_settle_56 ?_
                refine s_iload (k := 4) hX dX8_settle_57 rfl ?_
                refine s_bipush (v := (nI 40)) hX dX8_settle_59 (by decide) ?_
                refine s_icmp_ge (tgt := 77) hX dX8_settle_61 (by decide) (fun c61 => ?_) (fun c61 => ?_)
                · replace c61 := (nI_leI (by omega) (by omega)).mp c61
                  refine s_iconst (v := (nI 0)) hX dX8_settle_77 (by decide) ?_
                  refine s_iadd hX dX8_settle_78 ?_
                  refine s_topi (fun x5_4 ex5_4 => ?_)
                  refine s_istore (lv' := [(0, .ref (ad 23)), (1, .ref (ad b)), (2, .int v2), (3, .int v3), (4, .int (nI i21)), (5, .int x5_4)]) hX dX8_settle_79 (by decide) rfl ?_
                  refine s_aload_n (k := 0) hX dX8_settle_81 rfl rfl ?_
                  refine s_get hX fX8_24 oC23 rfl dX8_settle_82 ?_
                  refine s_iload (k := 4) hX dX8_settle_85 rfl ?_
                  refine s_ialdN hX aC28 (by omega) dX8_settle_87 ?_
                  refine s_iconst (v := (-1)) hX dX8_settle_88 (by decide) ?_
                  refine s_icmp_eq (tgt := 104) hX dX8_settle_89 (by decide) (fun c89 => ?_) (fun c89 => ?_)
                  · refine s_aload_n (k := 0) hX dX8_settle_104 rfl rfl ?_
                    refine s_get hX fX8_24 oC23 rfl dX8_settle_105 ?_
                    refine s_iload (k := 4) hX dX8_settle_108 rfl ?_
                    refine s_iload (k := 5) hX dX8_settle_110 rfl ?_
                    refine s_iastN hX aC28 (by omega) dX8_settle_112 ?_
                    refine s_mem (fun M_5 eM_5 => ?_)
                    have hfM_5 : ∀ a, a ≠ 28 → a ≠ 29 → M_5 a = M a := fun a q0 q1 => (congrFun eM_5 a).trans ((mset_n (by omega)).trans (hf_21 a q0 q1))
                    refine s_iinc (k := 4) (v := nI (i21 + 1)) (lv' := [(0, .ref (ad 23)), (1, .ref (ad b)), (2, .int v2), (3, .int v3), (5, .int x5_4), (4, .int (nI (i21 + 1)))]) hX dX8_settle_113 (nI_1 _) (by decide) rfl rfl ?_
                    refine s_goto (tgt := 21) hX dX8_settle_116 (by decide) ?_
                    refine s_loc [0, 1, 2, 3, 5] rfl ?_
                    exact ih21 _ _ (by omega) (by omega) hfM_5
                  · refine s_iload (k := 5) hX dX8_settle_92 rfl ?_
                    refine s_aload_n (k := 0) hX dX8_settle_94 rfl rfl ?_
                    refine s_get hX fX8_24 oC23 rfl dX8_settle_95 ?_
                    refine s_iload (k := 4) hX dX8_settle_98 rfl ?_
                    refine s_ialdN hX aC28 (by omega) dX8_settle_100 ?_
                    refine s_icmp_ge (tgt := 113) hX dX8_settle_101 (by decide) (fun c101 => ?_) (fun c101 => ?_)
                    · replace c101 := Int32.le_iff_toInt_le.mp c101
                      refine s_iinc (k := 4) (v := nI (i21 + 1)) (lv' := [(0, .ref (ad 23)), (1, .ref (ad b)), (2, .int v2), (3, .int v3), (5, .int x5_4), (4, .int (nI (i21 + 1)))]) hX dX8_settle_113 (nI_1 _) (by decide) rfl rfl ?_
                      refine s_goto (tgt := 21) hX dX8_settle_116 (by decide) ?_
                      refine s_loc [0, 1, 2, 3, 5] rfl ?_
                      exact ih21 _ _ (by omega) (by omega) hf_21
                    · replace c101 := mt Int32.le_iff_toInt_le.mpr c101
                      refine s_aload_n (k := 0) hX dX8_settle_104 rfl rfl ?_
                      refine s_get hX fX8_24 oC23 rfl dX8_settle_105 ?_
                      refine s_iload (k := 4) hX dX8_settle_108 rfl ?_
                      refine s_iload (k := 5) hX dX8_settle_110 rfl ?_
                      refine s_iastN hX aC28 (by omega) dX8_settle_112 ?_
                      refine s_mem (fun M_6 eM_6 => ?_)
                      have hfM_6 : ∀ a, a ≠ 28 → a ≠ 29 → M_6 a = M a := fun a q0 q1 => (congrFun eM_6 a).trans ((mset_n (by omega)).trans (hf_21 a q0 q1))
                      refine s_iinc (k := 4) (v := nI (i21 + 1)) (lv' := [(0, .ref (ad 23)), (1, .ref (ad b)), (2, .int v2), (3, .int v3), (5, .int x5_4), (4, .int (nI (i21 + 1)))]) hX dX8_settle_113 (nI_1 _) (by decide) rfl rfl ?_
                      refine s_goto (tgt := 21) hX dX8_settle_116 (by decide) ?_
                      refine s_loc [0, 1, 2, 3, 5] rfl ?_
                      exact ih21 _ _ (by omega) (by omega) hfM_6
                · replace c61 := mt (nI_leI (by omega) (by omega)).mpr c61
                  refine s_bipush (v := (nI 100)) hX dX8_settle_64 (by decide) ?_
                  refine s_aload_n (k := 1) hX dX8_settle_66 rfl rfl ?_
                  refine s_get hX fX8_79 (oF hb) rfl dX8_settle_67 ?_
                  refine s_iload (k := 4) hX dX8_settle_70 rfl ?_
                  refine s_ialdN hX (aF3 hb) (by omega) dX8_settle_72 ?_
                  refine s_imul hX dX8_settle_73 ?_
                  refine s_goto (tgt := 78) hX dX8_settle_74 (by decide) ?_
                  refine s_iadd hX dX8_settle_78 ?_
                  refine s_topi (fun x5_7 ex5_7 => ?_)
                  refine s_istore (lv' := [(0, .ref (ad 23)), (1, .ref (ad b)), (2, .int v2), (3, .int v3), (4, .int (nI i21)), (5, .int x5_7)]) hX dX8_settle_79 (by decide) rfl ?_
                  refine s_aload_n (k := 0) hX dX8_settle_81 rfl rfl ?_
                  refine s_get hX fX8_24 oC23 rfl dX8_settle_82 ?_
                  refine s_iload (k := 4) hX dX8_settle_85 rfl ?_
                  refine s_ialdN hX aC28 (by omega) dX8_settle_87 ?_
                  refine s_iconst (v := (-1)) hX dX8_settle_88 (by decide) ?_
                  refine s_icmp_eq (tgt := 104) hX dX8_settle_89 (by decide) (fun c89 => ?_) (fun c89 => ?_)
                  · refine s_aload_n (k := 0) hX dX8_settle_104 rfl rfl ?_
                    refine s_get hX fX8_24 oC23 rfl dX8_settle_105 ?_
                    refine s_iload (k := 4) hX dX8_settle_108 rfl ?_
                    refine s_iload (k := 5) hX dX8_settle_110 rfl ?_
                    refine s_iastN hX aC28 (by omega) dX8_settle_112 ?_
                    refine s_mem (fun M_8 eM_8 => ?_)
                    have hfM_8 : ∀ a, a ≠ 28 → a ≠ 29 → M_8 a = M a := fun a q0 q1 => (congrFun eM_8 a).trans ((mset_n (by omega)).trans (hf_21 a q0 q1))
                    refine s_iinc (k := 4) (v := nI (i21 + 1)) (lv' := [(0, .ref (ad 23)), (1, .ref (ad b)), (2, .int v2), (3, .int v3), (5, .int x5_7), (4, .int (nI (i21 + 1)))]) hX dX8_settle_113 (nI_1 _) (by decide) rfl rfl ?_
                    refine s_goto (tgt := 21) hX dX8_settle_116 (by decide) ?_
                    refine s_loc [0, 1, 2, 3, 5] rfl ?_
                    exact ih21 _ _ (by omega) (by omega) hfM_8
                  · refine s_iload (k := 5) hX dX8_settle_92 rfl ?_
                    refine s_aload_n (k := 0) hX dX8_settle_94 rfl rfl ?_
                    refine s_get hX fX8_24 oC23 rfl dX8_settle_95 ?_
                    refine s_iload (k := 4) hX dX8_settle_98 rfl ?_
                    refine s_ialdN hX aC28 (by omega) dX8_settle_100 ?_
                    refine s_icmp_ge (tgt := 113) hX dX8_settle_101 (by decide) (fun c101 => ?_) (fun c101 => ?_)
                    · replace c101 := Int32.le_iff_toInt_le.mp c101
                      refine s_iinc (k := 4) (v := nI (i21 + 1)) (lv' := [(0, .ref (ad 23)), (1, .ref (ad b)), (2, .int v2), (3, .int v3), (5, .int x5_7), (4, .int (nI (i21 + 1)))]) hX dX8_settle_113 (nI_1 _) (by decide) rfl rfl ?_
                      refine s_goto (tgt := 21) hX dX8_settle_116 (by decide) ?_
                      refine s_loc [0, 1, 2, 3, 5] rfl ?_
                      exact ih21 _ _ (by omega) (by omega) hf_21
                    · replace c101 := mt Int32.le_iff_toInt_le.mpr c101
                      refine s_aload_n (k := 0) hX dX8_settle_104 rfl rfl ?_
                      refine s_get hX fX8_24 oC23 rfl dX8_settle_105 ?_
                      refine s_iload (k := 4) hX dX8_settle_108 rfl ?_
                      refine s_iload (k := 5) hX dX8_settle_110 rfl ?_
                      refine s_iastN hX aC28 (by omega) dX8_settle_112 ?_
                      refine s_mem (fun M_9 eM_9 => ?_)
                      have hfM_9 : ∀ a, a ≠ 28 → a ≠ 29 → M_9 a = M a := fun a q0 q1 => (congrFun eM_9 a).trans ((mset_n (by omega)).trans (hf_21 a q0 q1))
                      refine s_iinc (k := 4) (v := nI (i21 + 1)) (lv' := [(0, .ref (ad 23)), (1, .ref (ad b)), (2, .int v2), (3, .int v3), (5, .int x5_7), (4, .int (nI (i21 + 1)))]) hX dX8_settle_113 (nI_1 _) (by decide) rfl rfl ?_
                      refine s_goto (tgt := 21) hX dX8_settle_116 (by decide) ?_
                      refine s_loc [0, 1, 2, 3, 5] rfl ?_
                      exact ih21 _ _ (by omega) (by omega) hfM_9
      exact lp21 (42 + 1) _ _ (by omega) (by omega) hfM_1
    · replace c7 := mt (q_lt (by omega)).mpr c7
      exact s_vret hX hR dX8_settle_10 hf_0
set_option maxHeartbeats 4000000 in
theorem s_X8_driestWay (b : Nat) (hb : isF b) (v2 : Int32) (v3 : Int32) (M : Mem) : AM yX8_driestWay cX8_driestWay 6 (some .int) 4 60 glC (fun ad => [.ref (ad 23), .ref (ad b), .int v2, .int v3]) M (PI (fun _ M' => ∀ a, a ≠ 28 → a ≠ 29 → M' a = M a)) := by
  refine AM.of (by decide) (fun _ => Nat.le_of_ble_eq_true rfl) (fun X ad cI cZ cB hX hR => ?_)
  show V X M [(0, .ref (ad 23)), (1, .ref (ad b)), (2, .int v2), (3, .int v3)] [] 0
  have hb0 : b = 1 ∨ b = 7 ∨ b = 13 := hb
  have hf_0 : ∀ a, a ≠ 28 → a ≠ 29 → M a = M a := fun _ _ _ => rfl
  refine s_iconst (v := (nI 0)) hX dX8_driestWay_0 (by decide) ?_
  refine s_istore (lv' := [(0, .ref (ad 23)), (1, .ref (ad b)), (2, .int v2), (3, .int v3), (4, .int (nI 0))]) hX dX8_driestWay_1 (by decide) rfl ?_
  have lp3 : ∀ (N3 : Nat) (i3 : Nat) (M3 : Mem), (i3 ≤ 42) → (42 < i3 + N3) → (∀ a, a ≠ 28 → a ≠ 29 → M3 a = M a) → V X M3 [(0, .ref (ad 23)), (1, .ref (ad b)), (2, .int v2), (3, .int v3), (4, .int (nI i3))] [] 3 := by
    intro N3
    induction N3 with
    | zero => intro i3 M3 hi3 hN3 hf_3; exact absurd hN3 (by omega)
    | succ N3 ih3 =>
      intro i3 M3 hi3 hN3 hf_3
      refine s_iload (k := 4) hX dX8_driestWay_3 rfl ?_
      refine s_bipush (v := (nI 42)) hX dX8_driestWay_5 (by decide) ?_
      refine s_icmp_ge (tgt := 32) hX dX8_driestWay_7 (by decide) (fun c7 => ?_) (fun c7 => ?_)
      · replace c7 := (nI_leI (by omega) (by omega)).mp c7
        refine s_aload_n (k := 0) hX dX8_driestWay_32 rfl rfl ?_
        refine s_get hX fX8_24 oC23 rfl dX8_driestWay_33 ?_
        refine s_bipush (v := (nI 40)) hX dX8_driestWay_36 (by decide) ?_
        refine s_iconst (v := (nI 0)) hX dX8_driestWay_38 (by decide) ?_
        refine s_iastN hX aC28 (by omega) dX8_driestWay_39 ?_
        refine s_mem (fun M_2 eM_2 => ?_)
        have hfM_2 : ∀ a, a ≠ 28 → a ≠ 29 → M_2 a = M a := fun a q0 q1 => (congrFun eM_2 a).trans ((mset_n (by omega)).trans (hf_3 a q0 q1))
        refine s_iconst (v := (nI 0)) hX dX8_driestWay_40 (by decide) ?_
        refine s_istore (lv' := [(0, .ref (ad 23)), (1, .ref (ad b)), (2, .int v2), (3, .int v3), (4, .int (nI 0))]) hX dX8_driestWay_41 (by decide) rfl ?_
        have lp43 : ∀ (N43 : Nat) (i43 : Nat) (M43 : Mem), (i43 ≤ 42) → (42 < i43 + N43) → (∀ a, a ≠ 28 → a ≠ 29 → M43 a = M a) → V X M43 [(0, .ref (ad 23)), (1, .ref (ad b)), (2, .int v2), (3, .int v3), (4, .int (nI i43))] [] 43 := by
          intro N43
          induction N43 with
          | zero => intro i43 M43 hi43 hN43 hf_43; exact absurd hN43 (by omega)
          | succ N43 ih43 =>
            intro i43 M43 hi43 hN43 hf_43
            refine s_iload (k := 4) hX dX8_driestWay_43 rfl ?_
            refine s_bipush (v := (nI 42)) hX dX8_driestWay_45 (by decide) ?_
            refine s_icmp_ge (tgt := 79) hX dX8_driestWay_47 (by decide) (fun c47 => ?_) (fun c47 => ?_)
            · replace c47 := (nI_leI (by omega) (by omega)).mp c47
              refine s_aload_n (k := 0) hX dX8_driestWay_79 rfl rfl ?_
              refine s_get hX fX8_24 oC23 rfl dX8_driestWay_80 ?_
              refine s_bipush (v := (nI 41)) hX dX8_driestWay_83 (by decide) ?_
              refine s_ialdN hX aC28 (by omega) dX8_driestWay_85 ?_
              refine s_iconst (v := (-1)) hX dX8_driestWay_86 (by decide) ?_
              refine s_icmp_ne (tgt := 93) hX dX8_driestWay_87 (by decide) (fun c87 => ?_) (fun c87 => ?_)
              · refine s_iload_n (k := 3) hX dX8_driestWay_93 rfl rfl ?_
                refine s_if_ne (tgt := 110) hX dX8_driestWay_94 (by decide) (fun c94 => ?_) (fun c94 => ?_)
                · replace c94 := mt z_eq.mpr c94
                  refine s_aload_n (k := 0) hX dX8_driestWay_110 rfl rfl ?_
                  refine s_get hX fX8_24 oC23 rfl dX8_driestWay_111 ?_
                  refine s_bipush (v := (nI 41)) hX dX8_driestWay_114 (by decide) ?_
                  refine s_ialdN hX aC28 (by omega) dX8_driestWay_116 ?_
                  refine s_bipush (v := (nI 100)) hX dX8_driestWay_117 (by decide) ?_
                  refine s_irem hX dX8_driestWay_119 (by decide) ?_
                  exact s_iret hX hR dX8_driestWay_120 hf_43
                · replace c94 := z_eq.mp c94
                  refine s_aload_n (k := 0) hX dX8_driestWay_97 rfl rfl ?_
                  refine s_get hX fX8_24 oC23 rfl dX8_driestWay_98 ?_
                  refine s_bipush (v := (nI 41)) hX dX8_driestWay_101 (by decide) ?_
                  refine s_ialdN hX aC28 (by omega) dX8_driestWay_103 ?_
                  refine s_bipush (v := (nI 100)) hX dX8_driestWay_104 (by decide) ?_
                  refine s_idiv hX dX8_driestWay_106 (by decide) ?_
                  refine s_goto (tgt := 120) hX dX8_driestWay_107 (by decide) ?_
                  exact s_iret hX hR dX8_driestWay_120 hf_43
              · refine s_bipush (v := (-2)) hX dX8_driestWay_90 (by decide) ?_
                exact s_iret hX hR dX8_driestWay_92 hf_43
            · replace c47 := mt (nI_leI (by omega) (by omega)).mpr c47
              refine s_aload_n (k := 0) hX dX8_driestWay_50 rfl rfl ?_
              refine s_callVi hX (s_X8_cheapest  M43) mX8_cheapest lX8_72 (by decide) (by decide) oC23 rfl rfl rfl rfl rfl (Nat.le_of_ble_eq_true rfl) dX8_driestWay_51 (fun r51 M_4 hp51 => ?_)
              subst hp51
              refine s_istore (lv' := [(0, .ref (ad 23)), (1, .ref (ad b)), (2, .int v2), (3, .int v3), (4, .int (nI i43)), (5, .int r51)]) hX dX8_driestWay_54 (by decide) rfl ?_
              refine s_iload (k := 5) hX dX8_driestWay_56 rfl ?_
              refine s_iconst (v := (-1)) hX dX8_driestWay_58 (by decide) ?_
              refine s_icmp_ne (tgt := 65) hX dX8_driestWay_59 (by decide) (fun c59 => ?_) (fun c59 => ?_)
              · refine s_aload_n (k := 0) hX dX8_driestWay_65 rfl rfl ?_
                refine s_aload_n (k := 1) hX dX8_driestWay_66 rfl rfl ?_
                refine s_iload_n (k := 2) hX dX8_driestWay_67 rfl rfl ?_
                refine s_iload (k := 5) hX dX8_driestWay_68 rfl ?_
                refine s_callVv hX (s_X8_settle b hb _ _ M43) mX8_settle lX8_76 (by decide) (by decide) oC23 rfl rfl rfl rfl rfl (Nat.le_of_ble_eq_true rfl) dX8_driestWay_70 (fun M_6 hp70 => ?_)
                have hfM_6 : ∀ a, a ≠ 28 → a ≠ 29 → M_6 a = M a := fun a q0 q1 => (hp70 a (by omega) (by omega)).trans (hf_43 a q0 q1)
                refine s_iinc (k := 4) (v := nI (i43 + 1)) (lv' := [(0, .ref (ad 23)), (1, .ref (ad b)), (2, .int v2), (3, .int v3), (5, .int r51), (4, .int (nI (i43 + 1)))]) hX dX8_driestWay_73 (nI_1 _) (by decide) rfl rfl ?_
                refine s_goto (tgt := 43) hX dX8_driestWay_76 (by decide) ?_
                refine s_loc [0, 1, 2, 3, 5] rfl ?_
                exact ih43 _ _ (by omega) (by omega) hfM_6
              · refine s_goto (tgt := 79) hX dX8_driestWay_62 (by decide) ?_
                refine s_aload_n (k := 0) hX dX8_driestWay_79 rfl rfl ?_
                refine s_get hX fX8_24 oC23 rfl dX8_driestWay_80 ?_
                refine s_bipush (v := (nI 41)) hX dX8_driestWay_83 (by decide) ?_
                refine s_ialdN hX aC28 (by omega) dX8_driestWay_85 ?_
                refine s_iconst (v := (-1)) hX dX8_driestWay_86 (by decide) ?_
                refine s_icmp_ne (tgt := 93) hX dX8_driestWay_87 (by decide) (fun c87 => ?_) (fun c87 => ?_)
                · refine s_iload_n (k := 3) hX dX8_driestWay_93 rfl rfl ?_
                  refine s_if_ne (tgt := 110) hX dX8_driestWay_94 (by decide) (fun c94 => ?_) (fun c94 => ?_)
                  · replace c94 := mt z_eq.mpr c94
                    refine s_aload_n (k := 0) hX dX8_driestWay_110 rfl rfl ?_
                    refine s_get hX fX8_24 oC23 rfl dX8_driestWay_111 ?_
                    refine s_bipush (v := (nI 41)) hX dX8_driestWay_114 (by decide) ?_
                    refine s_ialdN hX aC28 (by omega) dX8_driestWay_116 ?_
                    refine s_bipush (v := (nI 100)) hX dX8_driestWay_117 (by decide) ?_
                    refine s_irem hX dX8_driestWay_119 (by decide) ?_
                    exact s_iret hX hR dX8_driestWay_120 hf_43
                  · replace c94 := z_eq.mp c94
                    refine s_aload_n (k := 0) hX dX8_driestWay_97 rfl rfl ?_
                    refine s_get hX fX8_24 oC23 rfl dX8_driestWay_98 ?_
                    refine s_bipush (v := (nI 41)) hX dX8_driestWay_101 (by decide) ?_
                    refine s_ialdN hX aC28 (by omega) dX8_driestWay_103 ?_
                    refine s_bipush (v := (nI 100)) hX dX8_driestWay_104 (by decide) ?_
                    refine s_idiv hX dX8_driestWay_106 (by decide) ?_
                    refine s_goto (tgt := 120) hX dX8_driestWay_107 (by decide) ?_
                    exact s_iret hX hR dX8_driestWay_120 hf_43
                · refine s_bipush (v := (-2)) hX dX8_driestWay_90 (by decide) ?_
                  exact s_iret hX hR dX8_driestWay_92 hf_43
        exact lp43 (42 + 1) _ _ (by omega) (by omega) hfM_2
      · replace c7 := mt (nI_leI (by omega) (by omega)).mpr c7
        refine s_aload_n (k := 0) hX dX8_driestWay_10 rfl rfl ?_
        refine s_get hX fX8_24 oC23 rfl dX8_driestWay_11 ?_
        refine s_iload (k := 4) hX dX8_driestWay_14 rfl ?_
        refine s_iconst (v := (-1)) hX dX8_driestWay_16 (by decide) ?_
        refine s_iastN hX aC28 (by omega) dX8_driestWay_17 ?_
        refine s_mem (fun M_7 eM_7 => ?_)
        have hfM_7 : ∀ a, a ≠ 28 → a ≠ 29 → M_7 a = M a := fun a q0 q1 => (congrFun eM_7 a).trans ((mset_n (by omega)).trans (hf_3 a q0 q1))
        refine s_aload_n (k := 0) hX dX8_driestWay_18 rfl rfl ?_
        refine s_get hX fX8_27 oC23 rfl dX8_driestWay_19 ?_
        refine s_iload (k := 4) hX dX8_driestWay_22 rfl ?_
        refine s_iconst (v := (nI 0)) hX dX8_driestWay_24 (by decide) ?_
        refine s_zastN hX aC29 (by omega) dX8_driestWay_25 ?_
        refine s_mem (fun M_8 eM_8 => ?_)
        have hfM_8 : ∀ a, a ≠ 28 → a ≠ 29 → M_8 a = M a := fun a q0 q1 => (congrFun eM_8 a).trans ((mset_n (by omega)).trans (hfM_7 a q0 q1))
        refine s_iinc (k := 4) (v := nI (i3 + 1)) (lv' := [(0, .ref (ad 23)), (1, .ref (ad b)), (2, .int v2), (3, .int v3), (4, .int (nI (i3 + 1)))]) hX dX8_driestWay_26 (nI_1 _) (by decide) rfl rfl ?_
        refine s_goto (tgt := 3) hX dX8_driestWay_29 (by decide) ?_
        exact ih3 _ _ (by omega) (by omega) hfM_8
  exact lp3 (42 + 1) _ _ (by omega) (by omega) hf_0
set_option maxHeartbeats 4000000 in
theorem s_X8_farthest (b : Nat) (hb : isF b) (v2 : Int32) (M : Mem) : AM yX8_farthest cX8_farthest 5 (some .int) 5 60 glC (fun ad => [.ref (ad 23), .ref (ad b), .int v2]) M (PI (fun _ M' => ∀ a, a ≠ 24 → a ≠ 26 → M' a = M a)) := by
  refine AM.of (by decide) (fun _ => Nat.le_of_ble_eq_true rfl) (fun X ad cI cZ cB hX hR => ?_)
  show V X M [(0, .ref (ad 23)), (1, .ref (ad b)), (2, .int v2)] [] 0
  have hb0 : b = 1 ∨ b = 7 ∨ b = 13 := hb
  have hf_0 : ∀ a, a ≠ 24 → a ≠ 26 → M a = M a := fun _ _ _ => rfl
  refine s_aload_n (k := 0) hX dX8_farthest_0 rfl rfl ?_
  refine s_aload_n (k := 1) hX dX8_farthest_1 rfl rfl ?_
  refine s_iload_n (k := 2) hX dX8_farthest_2 rfl rfl ?_
  refine s_bipush (v := (nI 40)) hX dX8_farthest_3 (by decide) ?_
  refine s_aload_n (k := 0) hX dX8_farthest_5 rfl rfl ?_
  refine s_get hX fX8_9 oC23 rfl dX8_farthest_6 ?_
  refine s_bipush (v := (nI 42)) hX dX8_farthest_9 (by decide) ?_
  refine s_callVi hX (s_X8_spread b hb 24 42 aC24 (by decide) _ _ _ M) mX8_spread lX8_47 (by decide) (by decide) oC23 rfl rfl rfl rfl rfl (Nat.le_of_ble_eq_true rfl) dX8_farthest_11 (fun r11 M_1 hp11 => ?_)
  have hfM_1 : ∀ a, a ≠ 24 → a ≠ 26 → M_1 a = M a := fun a q0 q1 => (hp11 a (by omega) (by omega)).trans (hf_0 a q0 q1)
  refine s_pop hX dX8_farthest_14 rfl ?_
  refine s_iconst (v := (nI 0)) hX dX8_farthest_15 (by decide) ?_
  refine s_istore_n (lv' := [(0, .ref (ad 23)), (1, .ref (ad b)), (2, .int v2), (3, .int (nI 0))]) hX dX8_farthest_16 rfl (by decide) rfl ?_
  refine s_iconst (v := (nI 0)) hX dX8_farthest_17 (by decide) ?_
  refine s_istore (lv' := [(0, .ref (ad 23)), (1, .ref (ad b)), (2, .int v2), (3, .int (nI 0)), (4, .int (nI 0))]) hX dX8_farthest_18 (by decide) rfl ?_
  have lp20 : ∀ (N20 : Nat) (i20 : Nat) (y3_20 : Int32), (i20 ≤ 42) → (42 < i20 + N20) → V X M_1 [(0, .ref (ad 23)), (1, .ref (ad b)), (2, .int v2), (3, .int y3_20), (4, .int (nI i20))] [] 20 := by
    intro N20
    induction N20 with
    | zero => intro i20 y3_20 hi20 hN20; exact absurd hN20 (by omega)
    | succ N20 ih20 =>
      intro i20 y3_20 hi20 hN20
      refine s_iload (k := 4) hX dX8_farthest_20 rfl ?_
      refine s_bipush (v := (nI 42)) hX dX8_farthest_22 (by decide) ?_
      refine s_icmp_ge (tgt := 55) hX dX8_farthest_24 (by decide) (fun c24 => ?_) (fun c24 => ?_)
      · replace c24 := (nI_leI (by omega) (by omega)).mp c24
        refine s_iload_n (k := 3) hX dX8_farthest_55 rfl rfl ?_
        exact s_iret hX hR dX8_farthest_56 hfM_1
      · replace c24 := mt (nI_leI (by omega) (by omega)).mpr c24
        refine s_aload_n (k := 0) hX dX8_farthest_27 rfl rfl ?_
        refine s_get hX fX8_9 oC23 rfl dX8_farthest_28 ?_
        refine s_iload (k := 4) hX dX8_farthest_31 rfl ?_
        refine s_ialdN hX aC24 (by omega) dX8_farthest_33 ?_
        refine s_iconst (v := (-1)) hX dX8_farthest_34 (by decide) ?_
        refine s_icmp_eq (tgt := 49) hX dX8_farthest_35 (by decide) (fun c35 => ?_) (fun c35 => ?_)
        · refine s_iinc (k := 4) (v := nI (i20 + 1)) (lv' := [(0, .ref (ad 23)), (1, .ref (ad b)), (2, .int v2), (3, .int y3_20), (4, .int (nI (i20 + 1)))]) hX dX8_farthest_49 (nI_1 _) (by decide) rfl rfl ?_
          refine s_goto (tgt := 20) hX dX8_farthest_52 (by decide) ?_
          exact ih20 _ _ (by omega) (by omega)
        · refine s_iload_n (k := 3) hX dX8_farthest_38 rfl rfl ?_
          refine s_aload_n (k := 1) hX dX8_farthest_39 rfl rfl ?_
          refine s_iload (k := 4) hX dX8_farthest_40 rfl ?_
          refine s_callVi hX (s_X2_heightOf b hb _ M_1) mX2_heightOf lX8_82 (by decide) (by decide) (oF hb) rfl rfl rfl rfl rfl (Nat.le_of_ble_eq_true rfl) dX8_farthest_42 (fun r42 M_4 hp42 => ?_)
          subst hp42
          refine s_mmax hX lX8_86 mJ9_max (by decide) (Nat.le_of_ble_eq_true rfl) dX8_farthest_45 ?_
          refine s_topi (fun x3_5 ex3_5 => ?_)
          refine s_istore_n (lv' := [(0, .ref (ad 23)), (1, .ref (ad b)), (2, .int v2), (4, .int (nI i20)), (3, .int x3_5)]) hX dX8_farthest_48 rfl (by decide) rfl ?_
          refine s_iinc (k := 3) (v := nI (i20 + 1)) (lv' := [(0, .ref (ad 23)), (1, .ref (ad b)), (2, .int v2), (3, .int x3_5), (4, .int (nI (i20 + 1)))]) hX dX8_farthest_49 (nI_1 _) (by decide) rfl rfl ?_
          refine s_goto (tgt := 20) hX dX8_farthest_52 (by decide) ?_
          exact ih20 _ _ (by omega) (by omega)
  exact lp20 (42 + 1) _ _ (by omega) (by omega)
set_option maxHeartbeats 4000000 in
theorem s_X8_wouldJoin (b : Nat) (hb : isF b) (v2 : Int32) (v3 : Int32) (v4 : Int32) (M : Mem) : AM yX8_wouldJoin cX8_wouldJoin 9 (some .boolean) 2 60 glC (fun ad => [.ref (ad 23), .ref (ad b), .int v2, .int v3, .int v4]) M (PI (fun r M' => (r = 0 ∨ r = 1) ∧ M = M')) := by
  refine AM.of (by decide) (fun _ => Nat.le_of_ble_eq_true rfl) (fun X ad cI cZ cB hX hR => ?_)
  show V X M [(0, .ref (ad 23)), (1, .ref (ad b)), (2, .int v2), (3, .int v3), (4, .int v4)] [] 0
  have hb0 : b = 1 ∨ b = 7 ∨ b = 13 := hb
  refine s_iconst (v := (nI 0)) hX dX8_wouldJoin_0 (by decide) ?_
  refine s_istore (lv' := [(0, .ref (ad 23)), (1, .ref (ad b)), (2, .int v2), (3, .int v3), (4, .int v4), (5, .int (nI 0))]) hX dX8_wouldJoin_1 (by decide) rfl ?_
  refine s_iconst (v := (nI 0)) hX dX8_wouldJoin_3 (by decide) ?_
  refine s_istore (lv' := [(0, .ref (ad 23)), (1, .ref (ad b)), (2, .int v2), (3, .int v3), (4, .int v4), (5, .int (nI 0)), (6, .int (nI 0))]) hX dX8_wouldJoin_4 (by decide) rfl ?_
  refine s_iconst (v := (nI 0)) hX dX8_wouldJoin_6 (by decide) ?_
  refine s_istore (lv' := [(0, .ref (ad 23)), (1, .ref (ad b)), (2, .int v2), (3, .int v3), (4, .int v4), (5, .int (nI 0)), (6, .int (nI 0)), (7, .int (nI 0))]) hX dX8_wouldJoin_7 (by decide) rfl ?_
  have lp9 : ∀ (N9 : Nat) (i9 : Nat) (y5_9 y6_9 : Int32), (i9 ≤ 42) → (42 < i9 + N9) → V X M [(0, .ref (ad 23)), (1, .ref (ad b)), (2, .int v2), (3, .int v3), (4, .int v4), (5, .int y5_9), (6, .int y6_9), (7, .int (nI i9))] [] 9 := by
    intro N9
    induction N9 with
    | zero => intro i9 y5_9 y6_9 hi9 hN9; exact absurd hN9 (by omega)
    | succ N9 ih9 =>
      intro i9 y5_9 y6_9 hi9 hN9
      refine s_iload (k := 7) hX dX8_wouldJoin_9 rfl ?_
      refine s_bipush (v := (nI 42)) hX dX8_wouldJoin_11 (by decide) ?_
      refine s_icmp_ge (tgt := 111) hX dX8_wouldJoin_13 (by decide) (fun c13 => ?_) (fun c13 => ?_)
      · replace c13 := (nI_leI (by omega) (by omega)).mp c13
        refine s_iload (k := 5) hX dX8_wouldJoin_111 rfl ?_
        refine s_if_eq (tgt := 136) hX dX8_wouldJoin_113 (by decide) (fun c113 => ?_) (fun c113 => ?_)
        · replace c113 := z_eq.mp c113
          refine s_iconst (v := (nI 0)) hX dX8_wouldJoin_136 (by decide) ?_
          exact s_zret hX hR dX8_wouldJoin_137 (by decide) ⟨(by decide), rfl⟩
        · replace c113 := mt z_eq.mpr c113
          refine s_iload (k := 6) hX dX8_wouldJoin_116 rfl ?_
          refine s_if_eq (tgt := 136) hX dX8_wouldJoin_118 (by decide) (fun c118 => ?_) (fun c118 => ?_)
          · replace c118 := z_eq.mp c118
            refine s_iconst (v := (nI 0)) hX dX8_wouldJoin_136 (by decide) ?_
            exact s_zret hX hR dX8_wouldJoin_137 (by decide) ⟨(by decide), rfl⟩
          · replace c118 := mt z_eq.mpr c118
            refine s_aload_n (k := 1) hX dX8_wouldJoin_121 rfl rfl ?_
            refine s_iload_n (k := 3) hX dX8_wouldJoin_122 rfl rfl ?_
            refine s_iload (k := 4) hX dX8_wouldJoin_123 rfl ?_
            refine s_callVi hX (s_X2_stoneAt b hb _ _ M) mX2_stoneAt lX8_101 (by decide) (by decide) (oF hb) rfl rfl rfl rfl rfl (Nat.le_of_ble_eq_true rfl) dX8_wouldJoin_125 (fun r125 M_4 hp125 => ?_)
            subst hp125
            refine s_iconst (v := (-1)) hX dX8_wouldJoin_128 (by decide) ?_
            refine s_icmp_ne (tgt := 136) hX dX8_wouldJoin_129 (by decide) (fun c129 => ?_) (fun c129 => ?_)
            · refine s_iconst (v := (nI 0)) hX dX8_wouldJoin_136 (by decide) ?_
              exact s_zret hX hR dX8_wouldJoin_137 (by decide) ⟨(by decide), rfl⟩
            · refine s_iconst (v := (nI 1)) hX dX8_wouldJoin_132 (by decide) ?_
              refine s_goto (tgt := 137) hX dX8_wouldJoin_133 (by decide) ?_
              exact s_zret hX hR dX8_wouldJoin_137 (by decide) ⟨(by decide), rfl⟩
      · replace c13 := mt (nI_leI (by omega) (by omega)).mpr c13
        refine s_aload_n (k := 0) hX dX8_wouldJoin_16 rfl rfl ?_
        refine s_get hX fX8_9 oC23 rfl dX8_wouldJoin_17 ?_
        refine s_iload (k := 7) hX dX8_wouldJoin_20 rfl ?_
        refine s_ialdN hX aC24 (by omega) dX8_wouldJoin_22 ?_
        refine s_iconst (v := (-1)) hX dX8_wouldJoin_23 (by decide) ?_
        refine s_icmp_ne (tgt := 38) hX dX8_wouldJoin_24 (by decide) (fun c24 => ?_) (fun c24 => ?_)
        · refine s_iconst (v := (nI 1)) hX dX8_wouldJoin_38 (by decide) ?_
          refine s_goto (tgt := 43) hX dX8_wouldJoin_39 (by decide) ?_
          refine s_istore (lv' := [(0, .ref (ad 23)), (1, .ref (ad b)), (2, .int v2), (3, .int v3), (4, .int v4), (5, .int y5_9), (6, .int y6_9), (7, .int (nI i9)), (8, .int (nI 1))]) hX dX8_wouldJoin_43 (by decide) rfl ?_
          refine s_iload (k := 8) hX dX8_wouldJoin_45 rfl ?_
          refine s_if_eq (tgt := 105) hX dX8_wouldJoin_47 (by decide) (fun c47 => ?_) (fun c47 => ?_)
          · first | exact absurd (by decide) c47 | exact absurd c47 (by decide)
          · refine s_aload_n (k := 1) hX dX8_wouldJoin_50 rfl rfl ?_
            refine s_iload (k := 7) hX dX8_wouldJoin_51 rfl ?_
            refine s_iload_n (k := 3) hX dX8_wouldJoin_53 rfl rfl ?_
            refine s_iload (k := 4) hX dX8_wouldJoin_54 rfl ?_
            refine s_iload_n (k := 2) hX dX8_wouldJoin_56 rfl rfl ?_
            refine s_callVi hX (s_X2_isStepFrom b hb _ _ _ _ M) mX2_isStepFrom lX8_97 (by decide) (by decide) (oF hb) rfl rfl rfl rfl rfl (Nat.le_of_ble_eq_true rfl) dX8_wouldJoin_57 (fun r57 M_6 hp57 => ?_)
            obtain ⟨hz57, hq57⟩ := hp57
            subst hq57
            refine s_if_eq (tgt := 105) hX dX8_wouldJoin_60 (by decide) (fun c60 => ?_) (fun c60 => ?_)
            · replace c60 := z_eq.mp c60
              refine s_iinc (k := 7) (v := nI (i9 + 1)) (lv' := [(0, .ref (ad 23)), (1, .ref (ad b)), (2, .int v2), (3, .int v3), (4, .int v4), (5, .int y5_9), (6, .int y6_9), (8, .int (nI 1)), (7, .int (nI (i9 + 1)))]) hX dX8_wouldJoin_105 (nI_1 _) (by decide) rfl rfl ?_
              refine s_goto (tgt := 9) hX dX8_wouldJoin_108 (by decide) ?_
              refine s_loc [0, 1, 2, 3, 4, 5, 6, 8] rfl ?_
              exact ih9 _ _ _ (by omega) (by omega)
            · replace c60 := mt z_eq.mpr c60
              refine s_iload (k := 5) hX dX8_wouldJoin_63 rfl ?_
              refine s_aload_n (k := 0) hX dX8_wouldJoin_65 rfl rfl ?_
              refine s_get hX fX8_9 oC23 rfl dX8_wouldJoin_66 ?_
              refine s_iload (k := 7) hX dX8_wouldJoin_69 rfl ?_
              refine s_ialdN hX aC24 (by omega) dX8_wouldJoin_71 ?_
              refine s_iconst (v := (-1)) hX dX8_wouldJoin_72 (by decide) ?_
              refine s_icmp_eq (tgt := 80) hX dX8_wouldJoin_73 (by decide) (fun c73 => ?_) (fun c73 => ?_)
              · refine s_iconst (v := (nI 0)) hX dX8_wouldJoin_80 (by decide) ?_
                refine s_ior hX dX8_wouldJoin_81 ?_
                refine s_topi (fun x5_7 ex5_7 => ?_)
                refine s_istore (lv' := [(0, .ref (ad 23)), (1, .ref (ad b)), (2, .int v2), (3, .int v3), (4, .int v4), (6, .int y6_9), (7, .int (nI i9)), (8, .int (nI 1)), (5, .int x5_7)]) hX dX8_wouldJoin_82 (by decide) rfl ?_
                refine s_iload (k := 5) hX dX8_wouldJoin_84 rfl ?_
                refine s_aload_n (k := 0) hX dX8_wouldJoin_86 rfl rfl ?_
                refine s_get hX fX8_15 oC23 rfl dX8_wouldJoin_87 ?_
                refine s_iload (k := 6) hX dX8_wouldJoin_90 rfl ?_
                refine s_ialdN hX aC25 (by omega) dX8_wouldJoin_92 ?_
                refine s_iconst (v := (-1)) hX dX8_wouldJoin_93 (by decide) ?_
                refine s_icmp_eq (tgt := 101) hX dX8_wouldJoin_94 (by decide) (fun c94 => ?_) (fun c94 => ?_)
                · refine s_iconst (v := (nI 0)) hX dX8_wouldJoin_101 (by decide) ?_
                  refine s_ior hX dX8_wouldJoin_102 ?_
                  refine s_topi (fun x6_8 ex6_8 => ?_)
                  refine s_istore (lv' := [(0, .ref (ad 23)), (1, .ref (ad b)), (2, .int v2), (3, .int v3), (4, .int v4), (7, .int (nI i9)), (8, .int (nI 1)), (5, .int x5_7), (6, .int x6_8)]) hX dX8_wouldJoin_103 (by decide) rfl ?_
                  refine s_iinc (k := 5) (v := nI (i9 + 1)) (lv' := [(0, .ref (ad 23)), (1, .ref (ad b)), (2, .int v2), (3, .int v3), (4, .int v4), (8, .int (nI 1)), (5, .int x5_7), (6, .int x6_8), (7, .int (nI (i9 + 1)))]) hX dX8_wouldJoin_105 (nI_1 _) (by decide) rfl rfl ?_
                  refine s_goto (tgt := 9) hX dX8_wouldJoin_108 (by decide) ?_
                  refine s_loc [0, 1, 2, 3, 4, 6, 7, 8] rfl ?_
                  exact ih9 _ _ _ (by omega) (by omega)
                · refine s_iconst (v := (nI 1)) hX dX8_wouldJoin_97 (by decide) ?_
                  refine s_goto (tgt := 102) hX dX8_wouldJoin_98 (by decide) ?_
                  refine s_ior hX dX8_wouldJoin_102 ?_
                  refine s_topi (fun x6_9 ex6_9 => ?_)
                  refine s_istore (lv' := [(0, .ref (ad 23)), (1, .ref (ad b)), (2, .int v2), (3, .int v3), (4, .int v4), (7, .int (nI i9)), (8, .int (nI 1)), (5, .int x5_7), (6, .int x6_9)]) hX dX8_wouldJoin_103 (by decide) rfl ?_
                  refine s_iinc (k := 5) (v := nI (i9 + 1)) (lv' := [(0, .ref (ad 23)), (1, .ref (ad b)), (2, .int v2), (3, .int v3), (4, .int v4), (8, .int (nI 1)), (5, .int x5_7), (6, .int x6_9), (7, .int (nI (i9 + 1)))]) hX dX8_wouldJoin_105 (nI_1 _) (by decide) rfl rfl ?_
                  refine s_goto (tgt := 9) hX dX8_wouldJoin_108 (by decide) ?_
                  refine s_loc [0, 1, 2, 3, 4, 6, 7, 8] rfl ?_
                  exact ih9 _ _ _ (by omega) (by omega)
              · refine s_iconst (v := (nI 1)) hX dX8_wouldJoin_76 (by decide) ?_
                refine s_goto (tgt := 81) hX dX8_wouldJoin_77 (by decide) ?_
                refine s_ior hX dX8_wouldJoin_81 ?_
                refine s_topi (fun x5_10 ex5_10 => ?_)
                refine s_istore (lv' := [(0, .ref (ad 23)), (1, .ref (ad b)), (2, .int v2), (3, .int v3), (4, .int v4), (6, .int y6_9), (7, .int (nI i9)), (8, .int (nI 1)), (5, .int x5_10)]) hX dX8_wouldJoin_82 (by decide) rfl ?_
                refine s_iload (k := 5) hX dX8_wouldJoin_84 rfl ?_
                refine s_aload_n (k := 0) hX dX8_wouldJoin_86 rfl rfl ?_
                refine s_get hX fX8_15 oC23 rfl dX8_wouldJoin_87 ?_
                refine s_iload (k := 6) hX dX8_wouldJoin_90 rfl ?_
                refine s_ialdN hX aC25 (by omega) dX8_wouldJoin_92 ?_
                refine s_iconst (v := (-1)) hX dX8_wouldJoin_93 (by decide) ?_
                refine s_icmp_eq (tgt := 101) hX dX8_wouldJoin_94 (by decide) (fun c94 => ?_) (fun c94 => ?_)
                · refine s_iconst (v := (nI 0)) hX dX8_wouldJoin_101 (by decide) ?_
                  refine s_ior hX dX8_wouldJoin_102 ?_
                  refine s_topi (fun x6_11 ex6_11 => ?_)
                  refine s_istore (lv' := [(0, .ref (ad 23)), (1, .ref (ad b)), (2, .int v2), (3, .int v3), (4, .int v4), (7, .int (nI i9)), (8, .int (nI 1)), (5, .int x5_10), (6, .int x6_11)]) hX dX8_wouldJoin_103 (by decide) rfl ?_
                  refine s_iinc (k := 5) (v := nI (i9 + 1)) (lv' := [(0, .ref (ad 23)), (1, .ref (ad b)), (2, .int v2), (3, .int v3), (4, .int v4), (8, .int (nI 1)), (5, .int x5_10), (6, .int x6_11), (7, .int (nI (i9 + 1)))]) hX dX8_wouldJoin_105 (nI_1 _) (by decide) rfl rfl ?_
                  refine s_goto (tgt := 9) hX dX8_wouldJoin_108 (by decide) ?_
                  refine s_loc [0, 1, 2, 3, 4, 6, 7, 8] rfl ?_
                  exact ih9 _ _ _ (by omega) (by omega)
                · refine s_iconst (v := (nI 1)) hX dX8_wouldJoin_97 (by decide) ?_
                  refine s_goto (tgt := 102) hX dX8_wouldJoin_98 (by decide) ?_
                  refine s_ior hX dX8_wouldJoin_102 ?_
                  refine s_topi (fun x6_12 ex6_12 => ?_)
                  refine s_istore (lv' := [(0, .ref (ad 23)), (1, .ref (ad b)), (2, .int v2), (3, .int v3), (4, .int v4), (7, .int (nI i9)), (8, .int (nI 1)), (5, .int x5_10), (6, .int x6_12)]) hX dX8_wouldJoin_103 (by decide) rfl ?_
                  refine s_iinc (k := 5) (v := nI (i9 + 1)) (lv' := [(0, .ref (ad 23)), (1, .ref (ad b)), (2, .int v2), (3, .int v3), (4, .int v4), (8, .int (nI 1)), (5, .int x5_10), (6, .int x6_12), (7, .int (nI (i9 + 1)))]) hX dX8_wouldJoin_105 (nI_1 _) (by decide) rfl rfl ?_
                  refine s_goto (tgt := 9) hX dX8_wouldJoin_108 (by decide) ?_
                  refine s_loc [0, 1, 2, 3, 4, 6, 7, 8] rfl ?_
                  exact ih9 _ _ _ (by omega) (by omega)
        · refine s_aload_n (k := 0) hX dX8_wouldJoin_27 rfl rfl ?_
          refine s_get hX fX8_15 oC23 rfl dX8_wouldJoin_28 ?_
          refine s_iload (k := 7) hX dX8_wouldJoin_31 rfl ?_
          refine s_ialdN hX aC25 (by omega) dX8_wouldJoin_33 ?_
          refine s_iconst (v := (-1)) hX dX8_wouldJoin_34 (by decide) ?_
          refine s_icmp_eq (tgt := 42) hX dX8_wouldJoin_35 (by decide) (fun c35 => ?_) (fun c35 => ?_)
          · refine s_iconst (v := (nI 0)) hX dX8_wouldJoin_42 (by decide) ?_
            refine s_istore (lv' := [(0, .ref (ad 23)), (1, .ref (ad b)), (2, .int v2), (3, .int v3), (4, .int v4), (5, .int y5_9), (6, .int y6_9), (7, .int (nI i9)), (8, .int (nI 0))]) hX dX8_wouldJoin_43 (by decide) rfl ?_
            refine s_iload (k := 8) hX dX8_wouldJoin_45 rfl ?_
            refine s_if_eq (tgt := 105) hX dX8_wouldJoin_47 (by decide) (fun c47 => ?_) (fun c47 => ?_)
            · refine s_iinc (k := 7) (v := nI (i9 + 1)) (lv' := [(0, .ref (ad 23)), (1, .ref (ad b)), (2, .int v2), (3, .int v3), (4, .int v4), (5, .int y5_9), (6, .int y6_9), (8, .int (nI 0)), (7, .int (nI (i9 + 1)))]) hX dX8_wouldJoin_105 (nI_1 _) (by decide) rfl rfl ?_
              refine s_goto (tgt := 9) hX dX8_wouldJoin_108 (by decide) ?_
              refine s_loc [0, 1, 2, 3, 4, 5, 6, 8] rfl ?_
              exact ih9 _ _ _ (by omega) (by omega)
            · first | exact absurd (by decide) c47 | exact absurd c47 (by decide)
          · refine s_iconst (v := (nI 1)) hX dX8_wouldJoin_38 (by decide) ?_
            refine s_goto (tgt := 43) hX dX8_wouldJoin_39 (by decide) ?_
            refine s_istore (lv' := [(0, .ref (ad 23)), (1, .ref (ad b)), (2, .int v2), (3, .int v3), (4, .int v4), (5, .int y5_9), (6, .int y6_9), (7, .int (nI i9)), (8, .int (nI 1))]) hX dX8_wouldJoin_43 (by decide) rfl ?_
            refine s_iload (k := 8) hX dX8_wouldJoin_45 rfl ?_
            refine s_if_eq (tgt := 105) hX dX8_wouldJoin_47 (by decide) (fun c47 => ?_) (fun c47 => ?_)
            · first | exact absurd (by decide) c47 | exact absurd c47 (by decide)
            · refine s_aload_n (k := 1) hX dX8_wouldJoin_50 rfl rfl ?_
              refine s_iload (k := 7) hX dX8_wouldJoin_51 rfl ?_
              refine s_iload_n (k := 3) hX dX8_wouldJoin_53 rfl rfl ?_
              refine s_iload (k := 4) hX dX8_wouldJoin_54 rfl ?_
              refine s_iload_n (k := 2) hX dX8_wouldJoin_56 rfl rfl ?_
              refine s_callVi hX (s_X2_isStepFrom b hb _ _ _ _ M) mX2_isStepFrom lX8_97 (by decide) (by decide) (oF hb) rfl rfl rfl rfl rfl (Nat.le_of_ble_eq_true rfl) dX8_wouldJoin_57 (fun r57 M_15 hp57 => ?_)
              obtain ⟨hz57, hq57⟩ := hp57
              subst hq57
              refine s_if_eq (tgt := 105) hX dX8_wouldJoin_60 (by decide) (fun c60 => ?_) (fun c60 => ?_)
              · replace c60 := z_eq.mp c60
                refine s_iinc (k := 7) (v := nI (i9 + 1)) (lv' := [(0, .ref (ad 23)), (1, .ref (ad b)), (2, .int v2), (3, .int v3), (4, .int v4), (5, .int y5_9), (6, .int y6_9), (8, .int (nI 1)), (7, .int (nI (i9 + 1)))]) hX dX8_wouldJoin_105 (nI_1 _) (by decide) rfl rfl ?_
                refine s_goto (tgt := 9) hX dX8_wouldJoin_108 (by decide) ?_
                refine s_loc [0, 1, 2, 3, 4, 5, 6, 8] rfl ?_
                exact ih9 _ _ _ (by omega) (by omega)
              · replace c60 := mt z_eq.mpr c60
                refine s_iload (k := 5) hX dX8_wouldJoin_63 rfl ?_
                refine s_aload_n (k := 0) hX dX8_wouldJoin_65 rfl rfl ?_
                refine s_get hX fX8_9 oC23 rfl dX8_wouldJoin_66 ?_
                refine s_iload (k := 7) hX dX8_wouldJoin_69 rfl ?_
                refine s_ialdN hX aC24 (by omega) dX8_wouldJoin_71 ?_
                refine s_iconst (v := (-1)) hX dX8_wouldJoin_72 (by decide) ?_
                refine s_icmp_eq (tgt := 80) hX dX8_wouldJoin_73 (by decide) (fun c73 => ?_) (fun c73 => ?_)
                · refine s_iconst (v := (nI 0)) hX dX8_wouldJoin_80 (by decide) ?_
                  refine s_ior hX dX8_wouldJoin_81 ?_
                  refine s_topi (fun x5_16 ex5_16 => ?_)
                  refine s_istore (lv' := [(0, .ref (ad 23)), (1, .ref (ad b)), (2, .int v2), (3, .int v3), (4, .int v4), (6, .int y6_9), (7, .int (nI i9)), (8, .int (nI 1)), (5, .int x5_16)]) hX dX8_wouldJoin_82 (by decide) rfl ?_
                  refine s_iload (k := 5) hX dX8_wouldJoin_84 rfl ?_
                  refine s_aload_n (k := 0) hX dX8_wouldJoin_86 rfl rfl ?_
                  refine s_get hX fX8_15 oC23 rfl dX8_wouldJoin_87 ?_
                  refine s_iload (k := 6) hX dX8_wouldJoin_90 rfl ?_
                  refine s_ialdN hX aC25 (by omega) dX8_wouldJoin_92 ?_
                  refine s_iconst (v := (-1)) hX dX8_wouldJoin_93 (by decide) ?_
                  refine s_icmp_eq (tgt := 101) hX dX8_wouldJoin_94 (by decide) (fun c94 => ?_) (fun c94 => ?_)
                  · refine s_iconst (v := (nI 0)) hX dX8_wouldJoin_101 (by decide) ?_
                    refine s_ior hX dX8_wouldJoin_102 ?_
                    refine s_topi (fun x6_17 ex6_17 => ?_)
                    refine s_istore (lv' := [(0, .ref (ad 23)), (1, .ref (ad b)), (2, .int v2), (3, .int v3), (4, .int v4), (7, .int (nI i9)), (8, .int (nI 1)), (5, .int x5_16), (6, .int x6_17)]) hX dX8_wouldJoin_103 (by decide) rfl ?_
                    refine s_iinc (k := 5) (v := nI (i9 + 1)) (lv' := [(0, .ref (ad 23)), (1, .ref (ad b)), (2, .int v2), (3, .int v3), (4, .int v4), (8, .int (nI 1)), (5, .int x5_16), (6, .int x6_17), (7, .int (nI (i9 + 1)))]) hX dX8_wouldJoin_105 (nI_1 _) (by decide) rfl rfl ?_
                    refine s_goto (tgt := 9) hX dX8_wouldJoin_108 (by decide) ?_
                    refine s_loc [0, 1, 2, 3, 4, 6, 7, 8] rfl ?_
                    exact ih9 _ _ _ (by omega) (by omega)
                  · refine s_iconst (v := (nI 1)) hX dX8_wouldJoin_97 (by decide) ?_
                    refine s_goto (tgt := 102) hX dX8_wouldJoin_98 (by decide) ?_
                    refine s_ior hX dX8_wouldJoin_102 ?_
                    refine s_topi (fun x6_18 ex6_18 => ?_)
                    refine s_istore (lv' := [(0, .ref (ad 23)), (1, .ref (ad b)), (2, .int v2), (3, .int v3), (4, .int v4), (7, .int (nI i9)), (8, .int (nI 1)), (5, .int x5_16), (6, .int x6_18)]) hX dX8_wouldJoin_103 (by decide) rfl ?_
                    refine s_iinc (k := 5) (v := nI (i9 + 1)) (lv' := [(0, .ref (ad 23)), (1, .ref (ad b)), (2, .int v2), (3, .int v3), (4, .int v4), (8, .int (nI 1)), (5, .int x5_16), (6, .int x6_18), (7, .int (nI (i9 + 1)))]) hX dX8_wouldJoin_105 (nI_1 _) (by decide) rfl rfl ?_
                    refine s_goto (tgt := 9) hX dX8_wouldJoin_108 (by decide) ?_
                    refine s_loc [0, 1, 2, 3, 4, 6, 7, 8] rfl ?_
                    exact ih9 _ _ _ (by omega) (by omega)
                · refine s_iconst (v := (nI 1)) hX dX8_wouldJoin_76 (by decide) ?_
                  refine s_goto (tgt := 81) hX dX8_wouldJoin_77 (by decide) ?_
                  refine s_ior hX dX8_wouldJoin_81 ?_
                  refine s_topi (fun x5_19 ex5_19 => ?_)
                  refine s_istore (lv' := [(0, .ref (ad 23)), (1, .ref (ad b)), (2, .int v2), (3, .int v3), (4, .int v4), (6, .int y6_9), (7, .int (nI i9)), (8, .int (nI 1)), (5, .int x5_19)]) hX dX8_wouldJoin_82 (by decide) rfl ?_
                  refine s_iload (k := 5) hX dX8_wouldJoin_84 rfl ?_
                  refine s_aload_n (k := 0) hX dX8_wouldJoin_86 rfl rfl ?_
                  refine s_get hX fX8_15 oC23 rfl dX8_wouldJoin_87 ?_
                  refine s_iload (k := 6) hX dX8_wouldJoin_90 rfl ?_
                  refine s_ialdN hX aC25 (by omega) dX8_wouldJoin_92 ?_
                  refine s_iconst (v := (-1)) hX dX8_wouldJoin_93 (by decide) ?_
                  refine s_icmp_eq (tgt := 101) hX dX8_wouldJoin_94 (by decide) (fun c94 => ?_) (fun c94 => ?_)
                  · refine s_iconst (v := (nI 0)) hX dX8_wouldJoin_101 (by decide) ?_
                    refine s_ior hX dX8_wouldJoin_102 ?_
                    refine s_topi (fun x6_20 ex6_20 => ?_)
                    refine s_istore (lv' := [(0, .ref (ad 23)), (1, .ref (ad b)), (2, .int v2), (3, .int v3), (4, .int v4), (7, .int (nI i9)), (8, .int (nI 1)), (5, .int x5_19), (6, .int x6_20)]) hX dX8_wouldJoin_103 (by decide) rfl ?_
                    refine s_iinc (k := 5) (v := nI (i9 + 1)) (lv' := [(0, .ref (ad 23)), (1, .ref (ad b)), (2, .int v2), (3, .int v3), (4, .int v4), (8, .int (nI 1)), (5, .int x5_19), (6, .int x6_20), (7, .int (nI (i9 + 1)))]) hX dX8_wouldJoin_105 (nI_1 _) (by decide) rfl rfl ?_
                    refine s_goto (tgt := 9) hX dX8_wouldJoin_108 (by decide) ?_
                    refine s_loc [0, 1, 2, 3, 4, 6, 7, 8] rfl ?_
                    exact ih9 _ _ _ (by omega) (by omega)
                  · refine s_iconst (v := (nI 1)) hX dX8_wouldJoin_97 (by decide) ?_
                    refine s_goto (tgt := 102) hX dX8_wouldJoin_98 (by decide) ?_
                    refine s_ior hX dX8_wouldJoin_102 ?_
                    refine s_topi (fun x6_21 ex6_21 => ?_)
                    refine s_istore (lv' := [(0, .ref (ad 23)), (1, .ref (ad b)), (2, .int v2), (3, .int v3), (4, .int v4), (7, .int (nI i9)), (8, .int (nI 1)), (5, .int x5_19), (6, .int x6_21)]) hX dX8_wouldJoin_103 (by decide) rfl ?_
                    refine s_iinc (k := 5) (v := nI (i9 + 1)) (lv' := [(0, .ref (ad 23)), (1, .ref (ad b)), (2, .int v2), (3, .int v3), (4, .int v4), (8, .int (nI 1)), (5, .int x5_19), (6, .int x6_21), (7, .int (nI (i9 + 1)))]) hX dX8_wouldJoin_105 (nI_1 _) (by decide) rfl rfl ?_
                    refine s_goto (tgt := 9) hX dX8_wouldJoin_108 (by decide) ?_
                    refine s_loc [0, 1, 2, 3, 4, 6, 7, 8] rfl ?_
                    exact ih9 _ _ _ (by omega) (by omega)
  exact lp9 (42 + 1) _ _ _ (by omega) (by omega)
set_option maxHeartbeats 4000000 in
theorem s_X8_helpfulPlace (b : Nat) (hb : isF b) (v2 : Int32) (v3 : Int32) (M : Mem) : AM yX8_helpfulPlace cX8_helpfulPlace 6 (some .int) 6 60 glC (fun ad => [.ref (ad 23), .ref (ad b), .int v2, .int v3]) M (PI (fun _ M' => ∀ a, a ≠ 24 → a ≠ 25 → a ≠ 26 → M' a = M a)) := by
  refine AM.of (by decide) (fun _ => Nat.le_of_ble_eq_true rfl) (fun X ad cI cZ cB hX hR => ?_)
  show V X M [(0, .ref (ad 23)), (1, .ref (ad b)), (2, .int v2), (3, .int v3)] [] 0
  have hb0 : b = 1 ∨ b = 7 ∨ b = 13 := hb
  have hf_0 : ∀ a, a ≠ 24 → a ≠ 25 → a ≠ 26 → M a = M a := fun _ _ _ _ => rfl
  refine s_aload_n (k := 0) hX dX8_helpfulPlace_0 rfl rfl ?_
  refine s_aload_n (k := 1) hX dX8_helpfulPlace_1 rfl rfl ?_
  refine s_iload_n (k := 2) hX dX8_helpfulPlace_2 rfl rfl ?_
  refine s_callVi hX (s_X8_canCross b hb _ M) mX8_canCross lX8_89 (by decide) (by decide) oC23 rfl rfl rfl rfl rfl (Nat.le_of_ble_eq_true rfl) dX8_helpfulPlace_3 (fun r3 M_1 hp3 => ?_)
  obtain ⟨hz3, hq3⟩ := hp3
  have hfM_1 : ∀ a, a ≠ 24 → a ≠ 25 → a ≠ 26 → M_1 a = M a := fun a q0 q1 q2 => (hq3 a (by omega) (by omega)).trans (hf_0 a q0 q1 q2)
  refine s_if_eq (tgt := 12) hX dX8_helpfulPlace_6 (by decide) (fun c6 => ?_) (fun c6 => ?_)
  · replace c6 := z_eq.mp c6
    refine s_aload_n (k := 0) hX dX8_helpfulPlace_12 rfl rfl ?_
    refine s_aload_n (k := 1) hX dX8_helpfulPlace_13 rfl rfl ?_
    refine s_iload_n (k := 2) hX dX8_helpfulPlace_14 rfl rfl ?_
    refine s_bipush (v := (nI 41)) hX dX8_helpfulPlace_15 (by decide) ?_
    refine s_aload_n (k := 0) hX dX8_helpfulPlace_17 rfl rfl ?_
    refine s_get hX fX8_15 oC23 rfl dX8_helpfulPlace_18 ?_
    refine s_bipush (v := (nI 42)) hX dX8_helpfulPlace_21 (by decide) ?_
    refine s_callVi hX (s_X8_spread b hb 25 42 aC25 (by decide) _ _ _ M_1) mX8_spread lX8_47 (by decide) (by decide) oC23 rfl rfl rfl rfl rfl (Nat.le_of_ble_eq_true rfl) dX8_helpfulPlace_23 (fun r23 M_2 hp23 => ?_)
    have hfM_2 : ∀ a, a ≠ 24 → a ≠ 25 → a ≠ 26 → M_2 a = M a := fun a q0 q1 q2 => (hp23 a (by omega) (by omega)).trans (hfM_1 a q0 q1 q2)
    refine s_pop hX dX8_helpfulPlace_26 rfl ?_
    refine s_iconst (v := (nI 1)) hX dX8_helpfulPlace_27 (by decide) ?_
    refine s_istore (lv' := [(0, .ref (ad 23)), (1, .ref (ad b)), (2, .int v2), (3, .int v3), (4, .int (nI 1))]) hX dX8_helpfulPlace_28 (by decide) rfl ?_
    have lp30 : ∀ (N30 : Nat) (i30 : Nat), (i30 ≤ 21) → (21 < i30 + N30) → V X M_2 [(0, .ref (ad 23)), (1, .ref (ad b)), (2, .int v2), (3, .int v3), (4, .int (nI i30))] [] 30 := by
      intro N30
      induction N30 with
      | zero => intro i30 hi30 hN30; exact absurd hN30 (by omega)
      | succ N30 ih30 =>
        intro i30 hi30 hN30
        refine s_iload (k := 4) hX dX8_helpfulPlace_30 rfl ?_
        refine s_bipush (v := (nI 20)) hX dX8_helpfulPlace_32 (by decide) ?_
        refine s_icmp_gt (tgt := 84) hX dX8_helpfulPlace_34 (by decide) (fun c34 => ?_) (fun c34 => ?_)
        · replace c34 := (nI_ltI (by omega) (by omega)).mp c34
          refine s_bipush (v := (-2)) hX dX8_helpfulPlace_84 (by decide) ?_
          exact s_iret hX hR dX8_helpfulPlace_86 hfM_2
        · replace c34 := mt (nI_ltI (by omega) (by omega)).mpr c34
          refine s_iconst (v := (nI 0)) hX dX8_helpfulPlace_37 (by decide) ?_
          refine s_istore (lv' := [(0, .ref (ad 23)), (1, .ref (ad b)), (2, .int v2), (3, .int v3), (4, .int (nI i30)), (5, .int (nI 0))]) hX dX8_helpfulPlace_38 (by decide) rfl ?_
          have lp40 : ∀ (N40 : Nat) (i40 : Nat), (i40 ≤ 40) → (40 < i40 + N40) → V X M_2 [(0, .ref (ad 23)), (1, .ref (ad b)), (2, .int v2), (3, .int v3), (4, .int (nI i30)), (5, .int (nI i40))] [] 40 := by
            intro N40
            induction N40 with
            | zero => intro i40 hi40 hN40; exact absurd hN40 (by omega)
            | succ N40 ih40 =>
              intro i40 hi40 hN40
              refine s_iload (k := 5) hX dX8_helpfulPlace_40 rfl ?_
              refine s_bipush (v := (nI 39)) hX dX8_helpfulPlace_42 (by decide) ?_
              refine s_icmp_gt (tgt := 78) hX dX8_helpfulPlace_44 (by decide) (fun c44 => ?_) (fun c44 => ?_)
              · replace c44 := (nI_ltI (by omega) (by omega)).mp c44
                refine s_iinc (k := 4) (v := nI (i30 + 1)) (lv' := [(0, .ref (ad 23)), (1, .ref (ad b)), (2, .int v2), (3, .int v3), (5, .int (nI i40)), (4, .int (nI (i30 + 1)))]) hX dX8_helpfulPlace_78 (nI_1 _) (by decide) rfl rfl ?_
                refine s_goto (tgt := 30) hX dX8_helpfulPlace_81 (by decide) ?_
                refine s_loc [0, 1, 2, 3, 5] rfl ?_
                exact ih30 _ (by omega) (by omega)
              · replace c44 := mt (nI_ltI (by omega) (by omega)).mpr c44
                refine s_aload_n (k := 0) hX dX8_helpfulPlace_47 rfl rfl ?_
                refine s_aload_n (k := 1) hX dX8_helpfulPlace_48 rfl rfl ?_
                refine s_iload_n (k := 2) hX dX8_helpfulPlace_49 rfl rfl ?_
                refine s_iload (k := 5) hX dX8_helpfulPlace_50 rfl ?_
                refine s_iload (k := 4) hX dX8_helpfulPlace_52 rfl ?_
                refine s_callVi hX (s_X8_wouldJoin b hb _ _ _ M_2) mX8_wouldJoin lX8_93 (by decide) (by decide) oC23 rfl rfl rfl rfl rfl (Nat.le_of_ble_eq_true rfl) dX8_helpfulPlace_54 (fun r54 M_5 hp54 => ?_)
                obtain ⟨hz54, hq54⟩ := hp54
                subst hq54
                refine s_if_eq (tgt := 72) hX dX8_helpfulPlace_57 (by decide) (fun c57 => ?_) (fun c57 => ?_)
                · replace c57 := z_eq.mp c57
                  refine s_iinc (k := 5) (v := nI (i40 + 1)) (lv' := [(0, .ref (ad 23)), (1, .ref (ad b)), (2, .int v2), (3, .int v3), (4, .int (nI i30)), (5, .int (nI (i40 + 1)))]) hX dX8_helpfulPlace_72 (nI_1 _) (by decide) rfl rfl ?_
                  refine s_goto (tgt := 40) hX dX8_helpfulPlace_75 (by decide) ?_
                  exact ih40 _ (by omega) (by omega)
                · replace c57 := mt z_eq.mpr c57
                  refine s_iload_n (k := 3) hX dX8_helpfulPlace_60 rfl rfl ?_
                  refine s_if_ne (tgt := 69) hX dX8_helpfulPlace_61 (by decide) (fun c61 => ?_) (fun c61 => ?_)
                  · replace c61 := mt z_eq.mpr c61
                    refine s_iload (k := 4) hX dX8_helpfulPlace_69 rfl ?_
                    exact s_iret hX hR dX8_helpfulPlace_71 hfM_2
                  · replace c61 := z_eq.mp c61
                    refine s_iload (k := 5) hX dX8_helpfulPlace_64 rfl ?_
                    refine s_goto (tgt := 71) hX dX8_helpfulPlace_66 (by decide) ?_
                    exact s_iret hX hR dX8_helpfulPlace_71 hfM_2
          exact lp40 (40 + 1) _ (by omega) (by omega)
    exact lp30 (21 + 1) _ (by omega) (by omega)
  · replace c6 := mt z_eq.mpr c6
    refine s_bipush (v := (-3)) hX dX8_helpfulPlace_9 (by decide) ?_
    exact s_iret hX hR dX8_helpfulPlace_11 hfM_1
set_option maxHeartbeats 4000000 in
theorem s_X8_islandSize (b : Nat) (hb : isF b) (v2 : Int32) (v3 : Int32) (M : Mem) : AM yX8_islandSize cX8_islandSize 4 (some .int) 5 60 glC (fun ad => [.ref (ad 23), .ref (ad b), .int v2, .int v3]) M (PI (fun _ M' => ∀ a, a ≠ 24 → a ≠ 26 → M' a = M a)) := by
  refine AM.of (by decide) (fun _ => Nat.le_of_ble_eq_true rfl) (fun X ad cI cZ cB hX hR => ?_)
  show V X M [(0, .ref (ad 23)), (1, .ref (ad b)), (2, .int v2), (3, .int v3)] [] 0
  have hb0 : b = 1 ∨ b = 7 ∨ b = 13 := hb
  have hf_0 : ∀ a, a ≠ 24 → a ≠ 26 → M a = M a := fun _ _ _ => rfl
  refine s_aload_n (k := 1) hX dX8_islandSize_0 rfl rfl ?_
  refine s_iload_n (k := 3) hX dX8_islandSize_1 rfl rfl ?_
  refine s_callVi hX (s_X2_isDry b hb _ M) mX2_isDry lX8_104 (by decide) (by decide) (oF hb) rfl rfl rfl rfl rfl (Nat.le_of_ble_eq_true rfl) dX8_islandSize_2 (fun r2 M_1 hp2 => ?_)
  obtain ⟨rfl, h2⟩ := hp2
  subst h2
  refine s_if_eq (tgt := 24) hX dX8_islandSize_5 (by decide) (fun c5 => ?_) (fun c5 => ?_)
  · replace c5 := bI_eq c5
    refine s_iconst (v := (nI 0)) hX dX8_islandSize_24 (by decide) ?_
    exact s_iret hX hR dX8_islandSize_25 hf_0
  · replace c5 := bI_ne c5
    refine s_aload_n (k := 0) hX dX8_islandSize_8 rfl rfl ?_
    refine s_aload_n (k := 1) hX dX8_islandSize_9 rfl rfl ?_
    refine s_iload_n (k := 2) hX dX8_islandSize_10 rfl rfl ?_
    refine s_iload_n (k := 3) hX dX8_islandSize_11 rfl rfl ?_
    refine s_aload_n (k := 0) hX dX8_islandSize_12 rfl rfl ?_
    refine s_get hX fX8_9 oC23 rfl dX8_islandSize_13 ?_
    refine s_bipush (v := (nI 40)) hX dX8_islandSize_16 (by decide) ?_
    refine s_callVi hX (s_X8_spread b hb 24 42 aC24 (by decide) _ _ _ M) mX8_spread lX8_47 (by decide) (by decide) oC23 rfl rfl rfl rfl rfl (Nat.le_of_ble_eq_true rfl) dX8_islandSize_18 (fun r18 M_2 hp18 => ?_)
    have hfM_2 : ∀ a, a ≠ 24 → a ≠ 26 → M_2 a = M a := fun a q0 q1 => (hp18 a (by omega) (by omega)).trans (hf_0 a q0 q1)
    refine s_goto (tgt := 25) hX dX8_islandSize_21 (by decide) ?_
    exact s_iret hX hR dX8_islandSize_25 hfM_2
set_option maxHeartbeats 4000000 in
theorem s_X8_countIslands (b : Nat) (hb : isF b) (v2 : Int32) (M : Mem) : AM yX8_countIslands cX8_countIslands 5 (some .int) 4 60 glC (fun ad => [.ref (ad 23), .ref (ad b), .int v2]) M (PI (fun _ M' => ∀ a, a ≠ 24 → a ≠ 26 → M' a = M a)) := by
  refine AM.of (by decide) (fun _ => Nat.le_of_ble_eq_true rfl) (fun X ad cI cZ cB hX hR => ?_)
  show V X M [(0, .ref (ad 23)), (1, .ref (ad b)), (2, .int v2)] [] 0
  have hb0 : b = 1 ∨ b = 7 ∨ b = 13 := hb
  have hf_0 : ∀ a, a ≠ 24 → a ≠ 26 → M a = M a := fun _ _ _ => rfl
  refine s_aload_n (k := 0) hX dX8_countIslands_0 rfl rfl ?_
  refine s_get hX fX8_9 oC23 rfl dX8_countIslands_1 ?_
  refine s_iconst (v := (-1)) hX dX8_countIslands_4 (by decide) ?_
  refine s_callSv hX (s_J7_fill_53178 24 42 aC24 (by decide) _ M) mJ7_fill_53178 lX8_31 (by decide) (by decide) rfl rfl (Nat.le_of_ble_eq_true rfl) dX8_countIslands_5 (fun M_1 hp5 => ?_)
  have hfM_1 : ∀ a, a ≠ 24 → a ≠ 26 → M_1 a = M a := fun a q0 q1 => (hp5 a (by omega)).trans (hf_0 a q0 q1)
  refine s_iconst (v := (nI 0)) hX dX8_countIslands_8 (by decide) ?_
  refine s_istore_n (lv' := [(0, .ref (ad 23)), (1, .ref (ad b)), (2, .int v2), (3, .int (nI 0))]) hX dX8_countIslands_9 rfl (by decide) rfl ?_
  refine s_iconst (v := (nI 0)) hX dX8_countIslands_10 (by decide) ?_
  refine s_istore (lv' := [(0, .ref (ad 23)), (1, .ref (ad b)), (2, .int v2), (3, .int (nI 0)), (4, .int (nI 0))]) hX dX8_countIslands_11 (by decide) rfl ?_
  have lp13 : ∀ (N13 : Nat) (i13 : Nat) (y3_13 : Int32) (M13 : Mem), (i13 ≤ 40) → (40 < i13 + N13) → (∀ a, a ≠ 24 → a ≠ 26 → M13 a = M a) → V X M13 [(0, .ref (ad 23)), (1, .ref (ad b)), (2, .int v2), (3, .int y3_13), (4, .int (nI i13))] [] 13 := by
    intro N13
    induction N13 with
    | zero => intro i13 y3_13 M13 hi13 hN13 hf_13; exact absurd hN13 (by omega)
    | succ N13 ih13 =>
      intro i13 y3_13 M13 hi13 hN13 hf_13
      refine s_iload (k := 4) hX dX8_countIslands_13 rfl ?_
      refine s_bipush (v := (nI 40)) hX dX8_countIslands_15 (by decide) ?_
      refine s_icmp_ge (tgt := 64) hX dX8_countIslands_17 (by decide) (fun c17 => ?_) (fun c17 => ?_)
      · replace c17 := (nI_leI (by omega) (by omega)).mp c17
        refine s_iload_n (k := 3) hX dX8_countIslands_64 rfl rfl ?_
        exact s_iret hX hR dX8_countIslands_65 hf_13
      · replace c17 := mt (nI_leI (by omega) (by omega)).mpr c17
        refine s_aload_n (k := 1) hX dX8_countIslands_20 rfl rfl ?_
        refine s_iload (k := 4) hX dX8_countIslands_21 rfl ?_
        refine s_callVi hX (s_X2_isDry b hb _ M13) mX2_isDry lX8_104 (by decide) (by decide) (oF hb) rfl rfl rfl rfl rfl (Nat.le_of_ble_eq_true rfl) dX8_countIslands_23 (fun r23 M_4 hp23 => ?_)
        obtain ⟨rfl, h2⟩ := hp23
        subst h2
        refine s_if_eq (tgt := 58) hX dX8_countIslands_26 (by decide) (fun c26 => ?_) (fun c26 => ?_)
        · replace c26 := bI_eq c26
          refine s_iinc (k := 4) (v := nI (i13 + 1)) (lv' := [(0, .ref (ad 23)), (1, .ref (ad b)), (2, .int v2), (3, .int y3_13), (4, .int (nI (i13 + 1)))]) hX dX8_countIslands_58 (nI_1 _) (by decide) rfl rfl ?_
          refine s_goto (tgt := 13) hX dX8_countIslands_61 (by decide) ?_
          exact ih13 _ _ _ (by omega) (by omega) hf_13
        · replace c26 := bI_ne c26
          refine s_aload_n (k := 0) hX dX8_countIslands_29 rfl rfl ?_
          refine s_get hX fX8_9 oC23 rfl dX8_countIslands_30 ?_
          refine s_iload (k := 4) hX dX8_countIslands_33 rfl ?_
          refine s_ialdN hX aC24 (by omega) dX8_countIslands_35 ?_
          refine s_iconst (v := (-1)) hX dX8_countIslands_36 (by decide) ?_
          refine s_icmp_ne (tgt := 58) hX dX8_countIslands_37 (by decide) (fun c37 => ?_) (fun c37 => ?_)
          · refine s_iinc (k := 4) (v := nI (i13 + 1)) (lv' := [(0, .ref (ad 23)), (1, .ref (ad b)), (2, .int v2), (3, .int y3_13), (4, .int (nI (i13 + 1)))]) hX dX8_countIslands_58 (nI_1 _) (by decide) rfl rfl ?_
            refine s_goto (tgt := 13) hX dX8_countIslands_61 (by decide) ?_
            exact ih13 _ _ _ (by omega) (by omega) hf_13
          · obtain ⟨x3_5, ex3_5⟩ : ∃ z : Int32, z = y3_13 + Int32.ofInt (1) := ⟨_, rfl⟩
            refine s_iinc (k := 3) (v := x3_5) (lv' := [(0, .ref (ad 23)), (1, .ref (ad b)), (2, .int v2), (4, .int (nI i13)), (3, .int x3_5)]) hX dX8_countIslands_40 ex3_5.symm (by decide) rfl rfl ?_
            refine s_aload_n (k := 0) hX dX8_countIslands_43 rfl rfl ?_
            refine s_aload_n (k := 1) hX dX8_countIslands_44 rfl rfl ?_
            refine s_iload_n (k := 2) hX dX8_countIslands_45 rfl rfl ?_
            refine s_iload (k := 3) hX dX8_countIslands_46 rfl ?_
            refine s_aload_n (k := 0) hX dX8_countIslands_48 rfl rfl ?_
            refine s_get hX fX8_9 oC23 rfl dX8_countIslands_49 ?_
            refine s_bipush (v := (nI 40)) hX dX8_countIslands_52 (by decide) ?_
            refine s_callVi hX (s_X8_spreadOn b hb 24 42 aC24 (by decide) _ _ _ M13) mX8_spreadOn lX8_37 (by decide) (by decide) oC23 rfl rfl rfl rfl rfl (Nat.le_of_ble_eq_true rfl) dX8_countIslands_54 (fun r54 M_6 hp54 => ?_)
            have hfM_6 : ∀ a, a ≠ 24 → a ≠ 26 → M_6 a = M a := fun a q0 q1 => (hp54 a (by omega) (by omega)).trans (hf_13 a q0 q1)
            refine s_pop hX dX8_countIslands_57 rfl ?_
            refine s_iinc (k := 3) (v := nI (i13 + 1)) (lv' := [(0, .ref (ad 23)), (1, .ref (ad b)), (2, .int v2), (3, .int x3_5), (4, .int (nI (i13 + 1)))]) hX dX8_countIslands_58 (nI_1 _) (by decide) rfl rfl ?_
            refine s_goto (tgt := 13) hX dX8_countIslands_61 (by decide) ?_
            exact ih13 _ _ _ (by omega) (by omega) hfM_6
  exact lp13 (40 + 1) _ _ _ (by omega) (by omega) hfM_1
set_option maxHeartbeats 4000000 in
theorem s_X8_needs (b : Nat) (hb : isF b) (v2 : Int32) (v3 : Int32) (M : Mem) : AM yX8_needs cX8_needs 5 (some .boolean) 6 60 glC (fun ad => [.ref (ad 23), .ref (ad b), .int v2, .int v3]) M (PI (fun r M' => (r = 0 ∨ r = 1) ∧ (∀ a, a ≠ 24 → a ≠ 26 → a ≠ (b + 5) → M' a = M a))) := by
  refine AM.of (by decide) (fun _ => Nat.le_of_ble_eq_true rfl) (fun X ad cI cZ cB hX hR => ?_)
  show V X M [(0, .ref (ad 23)), (1, .ref (ad b)), (2, .int v2), (3, .int v3)] [] 0
  have hb0 : b = 1 ∨ b = 7 ∨ b = 13 := hb
  have hf_0 : ∀ a, a ≠ 24 → a ≠ 26 → a ≠ (b + 5) → M a = M a := fun _ _ _ _ => rfl
  refine s_aload_n (k := 1) hX dX8_needs_0 rfl rfl ?_
  refine s_iload_n (k := 3) hX dX8_needs_1 rfl rfl ?_
  refine s_callVi hX (s_X2_isDry b hb _ M) mX2_isDry lX8_104 (by decide) (by decide) (oF hb) rfl rfl rfl rfl rfl (Nat.le_of_ble_eq_true rfl) dX8_needs_2 (fun r2 M_1 hp2 => ?_)
  obtain ⟨rfl, h2⟩ := hp2
  subst h2
  refine s_if_ne (tgt := 10) hX dX8_needs_5 (by decide) (fun c5 => ?_) (fun c5 => ?_)
  · replace c5 := bI_ne c5
    refine s_aload_n (k := 1) hX dX8_needs_10 rfl rfl ?_
    refine s_get hX fX8_108 (oF hb) rfl dX8_needs_11 ?_
    refine s_iload_n (k := 3) hX dX8_needs_14 rfl rfl ?_
    refine s_iconst (v := (nI 1)) hX dX8_needs_15 (by decide) ?_
    refine s_zast hX (aF5 hb) (vp_in_iff.mpr (by omega)) dX8_needs_16 ?_
    refine s_mem (fun M_2 eM_2 => ?_)
    have hfM_2 : ∀ a, a ≠ 24 → a ≠ 26 → a ≠ (b + 5) → M_2 a = M a := fun a q0 q1 q2 => (congrFun eM_2 a).trans ((mset_n (by omega)).trans (hf_0 a q0 q1 q2))
    refine s_aload_n (k := 0) hX dX8_needs_17 rfl rfl ?_
    refine s_aload_n (k := 1) hX dX8_needs_18 rfl rfl ?_
    refine s_iload_n (k := 2) hX dX8_needs_19 rfl rfl ?_
    refine s_callVi hX (s_X8_canCross b hb _ M_2) mX8_canCross lX8_89 (by decide) (by decide) oC23 rfl rfl rfl rfl rfl (Nat.le_of_ble_eq_true rfl) dX8_needs_20 (fun r20 M_3 hp20 => ?_)
    obtain ⟨hz20, hq20⟩ := hp20
    have hfM_3 : ∀ a, a ≠ 24 → a ≠ 26 → a ≠ (b + 5) → M_3 a = M a := fun a q0 q1 q2 => (hq20 a (by omega) (by omega)).trans (hfM_2 a q0 q1 q2)
    refine s_if_ne (tgt := 30) hX dX8_needs_23 (by decide) (fun c23 => ?_) (fun c23 => ?_)
    · replace c23 := mt z_eq.mpr c23
      refine s_iconst (v := (nI 0)) hX dX8_needs_30 (by decide) ?_
      refine s_istore (lv' := [(0, .ref (ad 23)), (1, .ref (ad b)), (2, .int v2), (3, .int v3), (4, .int (nI 0))]) hX dX8_needs_31 (by decide) rfl ?_
      refine s_aload_n (k := 1) hX dX8_needs_33 rfl rfl ?_
      refine s_get hX fX8_108 (oF hb) rfl dX8_needs_34 ?_
      refine s_iload_n (k := 3) hX dX8_needs_37 rfl rfl ?_
      refine s_iconst (v := (nI 0)) hX dX8_needs_38 (by decide) ?_
      refine s_zast hX (aF5 hb) (vp_in_iff.mpr (by omega)) dX8_needs_39 ?_
      refine s_mem (fun M_5 eM_5 => ?_)
      have hfM_5 : ∀ a, a ≠ 24 → a ≠ 26 → a ≠ (b + 5) → M_5 a = M a := fun a q0 q1 q2 => (congrFun eM_5 a).trans ((mset_n (by omega)).trans (hfM_3 a q0 q1 q2))
      refine s_iload (k := 4) hX dX8_needs_40 rfl ?_
      exact s_zret hX hR dX8_needs_42 (by decide) ⟨(by decide), hfM_5⟩
    · replace c23 := z_eq.mp c23
      refine s_iconst (v := (nI 1)) hX dX8_needs_26 (by decide) ?_
      refine s_goto (tgt := 31) hX dX8_needs_27 (by decide) ?_
      refine s_istore (lv' := [(0, .ref (ad 23)), (1, .ref (ad b)), (2, .int v2), (3, .int v3), (4, .int (nI 1))]) hX dX8_needs_31 (by decide) rfl ?_
      refine s_aload_n (k := 1) hX dX8_needs_33 rfl rfl ?_
      refine s_get hX fX8_108 (oF hb) rfl dX8_needs_34 ?_
      refine s_iload_n (k := 3) hX dX8_needs_37 rfl rfl ?_
      refine s_iconst (v := (nI 0)) hX dX8_needs_38 (by decide) ?_
      refine s_zast hX (aF5 hb) (vp_in_iff.mpr (by omega)) dX8_needs_39 ?_
      refine s_mem (fun M_7 eM_7 => ?_)
      have hfM_7 : ∀ a, a ≠ 24 → a ≠ 26 → a ≠ (b + 5) → M_7 a = M a := fun a q0 q1 q2 => (congrFun eM_7 a).trans ((mset_n (by omega)).trans (hfM_3 a q0 q1 q2))
      refine s_iload (k := 4) hX dX8_needs_40 rfl ?_
      exact s_zret hX hR dX8_needs_42 (by decide) ⟨(by decide), hfM_7⟩
  · replace c5 := bI_eq c5
    refine s_iconst (v := (nI 0)) hX dX8_needs_8 (by decide) ?_
    exact s_zret hX hR dX8_needs_9 (by decide) ⟨(by decide), hf_0⟩
set_option maxHeartbeats 4000000 in
theorem s_X8_meeting (b : Nat) (hb : isF b) (v2 : Int32) (v3 : Int32) (v4 : Int32) (M : Mem) : AM yX8_meeting cX8_meeting 9 (some .int) 5 60 glC (fun ad => [.ref (ad 23), .ref (ad b), .int v2, .int v3, .int v4]) M (PI (fun _ M' => ∀ a, a ≠ 24 → a ≠ 25 → a ≠ 26 → M' a = M a)) := by
  refine AM.of (by decide) (fun _ => Nat.le_of_ble_eq_true rfl) (fun X ad cI cZ cB hX hR => ?_)
  show V X M [(0, .ref (ad 23)), (1, .ref (ad b)), (2, .int v2), (3, .int v3), (4, .int v4)] [] 0
  have hb0 : b = 1 ∨ b = 7 ∨ b = 13 := hb
  have hf_0 : ∀ a, a ≠ 24 → a ≠ 25 → a ≠ 26 → M a = M a := fun _ _ _ _ => rfl
  refine s_aload_n (k := 0) hX dX8_meeting_0 rfl rfl ?_
  refine s_aload_n (k := 1) hX dX8_meeting_1 rfl rfl ?_
  refine s_iload_n (k := 2) hX dX8_meeting_2 rfl rfl ?_
  refine s_bipush (v := (nI 40)) hX dX8_meeting_3 (by decide) ?_
  refine s_aload_n (k := 0) hX dX8_meeting_5 rfl rfl ?_
  refine s_get hX fX8_9 oC23 rfl dX8_meeting_6 ?_
  refine s_bipush (v := (nI 42)) hX dX8_meeting_9 (by decide) ?_
  refine s_callVi hX (s_X8_spread b hb 24 42 aC24 (by decide) _ _ _ M) mX8_spread lX8_47 (by decide) (by decide) oC23 rfl rfl rfl rfl rfl (Nat.le_of_ble_eq_true rfl) dX8_meeting_11 (fun r11 M_1 hp11 => ?_)
  have hfM_1 : ∀ a, a ≠ 24 → a ≠ 25 → a ≠ 26 → M_1 a = M a := fun a q0 q1 q2 => (hp11 a (by omega) (by omega)).trans (hf_0 a q0 q1 q2)
  refine s_pop hX dX8_meeting_14 rfl ?_
  refine s_aload_n (k := 0) hX dX8_meeting_15 rfl rfl ?_
  refine s_aload_n (k := 1) hX dX8_meeting_16 rfl rfl ?_
  refine s_iload_n (k := 3) hX dX8_meeting_17 rfl rfl ?_
  refine s_bipush (v := (nI 41)) hX dX8_meeting_18 (by decide) ?_
  refine s_aload_n (k := 0) hX dX8_meeting_20 rfl rfl ?_
  refine s_get hX fX8_15 oC23 rfl dX8_meeting_21 ?_
  refine s_bipush (v := (nI 42)) hX dX8_meeting_24 (by decide) ?_
  refine s_callVi hX (s_X8_spread b hb 25 42 aC25 (by decide) _ _ _ M_1) mX8_spread lX8_47 (by decide) (by decide) oC23 rfl rfl rfl rfl rfl (Nat.le_of_ble_eq_true rfl) dX8_meeting_26 (fun r26 M_2 hp26 => ?_)
  have hfM_2 : ∀ a, a ≠ 24 → a ≠ 25 → a ≠ 26 → M_2 a = M a := fun a q0 q1 q2 => (hp26 a (by omega) (by omega)).trans (hfM_1 a q0 q1 q2)
  refine s_pop hX dX8_meeting_29 rfl ?_
  refine s_bipush (v := (-2)) hX dX8_meeting_30 (by decide) ?_
  refine s_istore (lv' := [(0, .ref (ad 23)), (1, .ref (ad b)), (2, .int v2), (3, .int v3), (4, .int v4), (5, .int (-2))]) hX dX8_meeting_32 (by decide) rfl ?_
  refine s_bipush (v := (-2)) hX dX8_meeting_34 (by decide) ?_
  refine s_istore (lv' := [(0, .ref (ad 23)), (1, .ref (ad b)), (2, .int v2), (3, .int v3), (4, .int v4), (5, .int (-2)), (6, .int (-2))]) hX dX8_meeting_36 (by decide) rfl ?_
  refine s_iconst (v := (nI 0)) hX dX8_meeting_38 (by decide) ?_
  refine s_istore (lv' := [(0, .ref (ad 23)), (1, .ref (ad b)), (2, .int v2), (3, .int v3), (4, .int v4), (5, .int (-2)), (6, .int (-2)), (7, .int (nI 0))]) hX dX8_meeting_39 (by decide) rfl ?_
  have lp41 : ∀ (N41 : Nat) (i41 : Nat) (y5_41 y6_41 : Int32), (i41 ≤ 40) → (40 < i41 + N41) → V X M_2 [(0, .ref (ad 23)), (1, .ref (ad b)), (2, .int v2), (3, .int v3), (4, .int v4), (5, .int y5_41), (6, .int y6_41), (7, .int (nI i41))] [] 41 := by
    intro N41
    induction N41 with
    | zero => intro i41 y5_41 y6_41 hi41 hN41; exact absurd hN41 (by omega)
    | succ N41 ih41 =>
      intro i41 y5_41 y6_41 hi41 hN41
      refine s_iload (k := 7) hX dX8_meeting_41 rfl ?_
      refine s_bipush (v := (nI 40)) hX dX8_meeting_43 (by decide) ?_
      refine s_icmp_ge (tgt := 117) hX dX8_meeting_45 (by decide) (fun c45 => ?_) (fun c45 => ?_)
      · replace c45 := (nI_leI (by omega) (by omega)).mp c45
        refine s_iload (k := 4) hX dX8_meeting_117 rfl ?_
        refine s_if_ne (tgt := 127) hX dX8_meeting_119 (by decide) (fun c119 => ?_) (fun c119 => ?_)
        · replace c119 := mt z_eq.mpr c119
          refine s_iload (k := 6) hX dX8_meeting_127 rfl ?_
          exact s_iret hX hR dX8_meeting_129 hfM_2
        · replace c119 := z_eq.mp c119
          refine s_iload (k := 5) hX dX8_meeting_122 rfl ?_
          refine s_goto (tgt := 129) hX dX8_meeting_124 (by decide) ?_
          exact s_iret hX hR dX8_meeting_129 hfM_2
      · replace c45 := mt (nI_leI (by omega) (by omega)).mpr c45
        refine s_aload_n (k := 0) hX dX8_meeting_48 rfl rfl ?_
        refine s_get hX fX8_9 oC23 rfl dX8_meeting_49 ?_
        refine s_iload (k := 7) hX dX8_meeting_52 rfl ?_
        refine s_ialdN hX aC24 (by omega) dX8_meeting_54 ?_
        refine s_iconst (v := (-1)) hX dX8_meeting_55 (by decide) ?_
        refine s_icmp_eq (tgt := 111) hX dX8_meeting_56 (by decide) (fun c56 => ?_) (fun c56 => ?_)
        · refine s_iinc (k := 7) (v := nI (i41 + 1)) (lv' := [(0, .ref (ad 23)), (1, .ref (ad b)), (2, .int v2), (3, .int v3), (4, .int v4), (5, .int y5_41), (6, .int y6_41), (7, .int (nI (i41 + 1)))]) hX dX8_meeting_111 (nI_1 _) (by decide) rfl rfl ?_
          refine s_goto (tgt := 41) hX dX8_meeting_114 (by decide) ?_
          exact ih41 _ _ _ (by omega) (by omega)
        · refine s_aload_n (k := 0) hX dX8_meeting_59 rfl rfl ?_
          refine s_get hX fX8_15 oC23 rfl dX8_meeting_60 ?_
          refine s_iload (k := 7) hX dX8_meeting_63 rfl ?_
          refine s_ialdN hX aC25 (by omega) dX8_meeting_65 ?_
          refine s_iconst (v := (-1)) hX dX8_meeting_66 (by decide) ?_
          refine s_icmp_eq (tgt := 111) hX dX8_meeting_67 (by decide) (fun c67 => ?_) (fun c67 => ?_)
          · refine s_iinc (k := 7) (v := nI (i41 + 1)) (lv' := [(0, .ref (ad 23)), (1, .ref (ad b)), (2, .int v2), (3, .int v3), (4, .int v4), (5, .int y5_41), (6, .int y6_41), (7, .int (nI (i41 + 1)))]) hX dX8_meeting_111 (nI_1 _) (by decide) rfl rfl ?_
            refine s_goto (tgt := 41) hX dX8_meeting_114 (by decide) ?_
            exact ih41 _ _ _ (by omega) (by omega)
          · refine s_aload_n (k := 0) hX dX8_meeting_70 rfl rfl ?_
            refine s_get hX fX8_9 oC23 rfl dX8_meeting_71 ?_
            refine s_iload (k := 7) hX dX8_meeting_74 rfl ?_
            refine s_ialdN hX aC24 (by omega) dX8_meeting_76 ?_
            refine s_aload_n (k := 0) hX dX8_meeting_77 rfl rfl ?_
            refine s_get hX fX8_15 oC23 rfl dX8_meeting_78 ?_
            refine s_iload (k := 7) hX dX8_meeting_81 rfl ?_
            refine s_ialdN hX aC25 (by omega) dX8_meeting_83 ?_
            refine s_mmax hX lX8_86 mJ9_max (by decide) (Nat.le_of_ble_eq_true rfl) dX8_meeting_84 ?_
            refine s_topi (fun x8_6 ex8_6 => ?_)
            refine s_istore (lv' := [(0, .ref (ad 23)), (1, .ref (ad b)), (2, .int v2), (3, .int v3), (4, .int v4), (5, .int y5_41), (6, .int y6_41), (7, .int (nI i41)), (8, .int x8_6)]) hX dX8_meeting_87 (by decide) rfl ?_
            refine s_iload (k := 6) hX dX8_meeting_89 rfl ?_
            refine s_bipush (v := (-2)) hX dX8_meeting_91 (by decide) ?_
            refine s_icmp_eq (tgt := 103) hX dX8_meeting_93 (by decide) (fun c93 => ?_) (fun c93 => ?_)
            · refine s_iload (k := 8) hX dX8_meeting_103 rfl ?_
              refine s_istore (lv' := [(0, .ref (ad 23)), (1, .ref (ad b)), (2, .int v2), (3, .int v3), (4, .int v4), (6, .int y6_41), (7, .int (nI i41)), (8, .int x8_6), (5, .int x8_6)]) hX dX8_meeting_105 (by decide) rfl ?_
              refine s_iload (k := 6) hX dX8_meeting_107 rfl ?_
              refine s_istore (lv' := [(0, .ref (ad 23)), (1, .ref (ad b)), (2, .int v2), (3, .int v3), (4, .int v4), (7, .int (nI i41)), (8, .int x8_6), (5, .int x8_6), (6, .int (nI i41))]) hX dX8_meeting_109 (by decide) rfl ?_
              refine s_iinc (k := 5) (v := nI (i41 + 1)) (lv' := [(0, .ref (ad 23)), (1, .ref (ad b)), (2, .int v2), (3, .int v3), (4, .int v4), (8, .int x8_6), (5, .int x8_6), (6, .int (nI i41)), (7, .int (nI (i41 + 1)))]) hX dX8_meeting_111 (nI_1 _) (by decide) rfl rfl ?_
              refine s_goto (tgt := 41) hX dX8_meeting_114 (by decide) ?_
              refine s_loc [0, 1, 2, 3, 4, 6, 7, 8] rfl ?_
              exact ih41 _ _ _ (by omega) (by omega)
            · refine s_iload (k := 8) hX dX8_meeting_96 rfl ?_
              refine s_iload (k := 5) hX dX8_meeting_98 rfl ?_
              refine s_icmp_ge (tgt := 111) hX dX8_meeting_100 (by decide) (fun c100 => ?_) (fun c100 => ?_)
              · replace c100 := Int32.le_iff_toInt_le.mp c100
                refine s_iinc (k := 7) (v := nI (i41 + 1)) (lv' := [(0, .ref (ad 23)), (1, .ref (ad b)), (2, .int v2), (3, .int v3), (4, .int v4), (5, .int y5_41), (6, .int y6_41), (8, .int x8_6), (7, .int (nI (i41 + 1)))]) hX dX8_meeting_111 (nI_1 _) (by decide) rfl rfl ?_
                refine s_goto (tgt := 41) hX dX8_meeting_114 (by decide) ?_
                refine s_loc [0, 1, 2, 3, 4, 5, 6, 8] rfl ?_
                exact ih41 _ _ _ (by omega) (by omega)
              · replace c100 := mt Int32.le_iff_toInt_le.mpr c100
                refine s_iload (k := 8) hX dX8_meeting_103 rfl ?_
                refine s_istore (lv' := [(0, .ref (ad 23)), (1, .ref (ad b)), (2, .int v2), (3, .int v3), (4, .int v4), (6, .int y6_41), (7, .int (nI i41)), (8, .int x8_6), (5, .int x8_6)]) hX dX8_meeting_105 (by decide) rfl ?_
                refine s_iload (k := 6) hX dX8_meeting_107 rfl ?_
                refine s_istore (lv' := [(0, .ref (ad 23)), (1, .ref (ad b)), (2, .int v2), (3, .int v3), (4, .int v4), (7, .int (nI i41)), (8, .int x8_6), (5, .int x8_6), (6, .int (nI i41))]) hX dX8_meeting_109 (by decide) rfl ?_
                refine s_iinc (k := 5) (v := nI (i41 + 1)) (lv' := [(0, .ref (ad 23)), (1, .ref (ad b)), (2, .int v2), (3, .int v3), (4, .int v4), (8, .int x8_6), (5, .int x8_6), (6, .int (nI i41)), (7, .int (nI (i41 + 1)))]) hX dX8_meeting_111 (nI_1 _) (by decide) rfl rfl ?_
                refine s_goto (tgt := 41) hX dX8_meeting_114 (by decide) ?_
                refine s_loc [0, 1, 2, 3, 4, 6, 7, 8] rfl ?_
                exact ih41 _ _ _ (by omega) (by omega)
  exact lp41 (40 + 1) _ _ _ (by omega) (by omega)
set_option maxHeartbeats 4000000 in
theorem s_X1_reach (v1 : Int32) (v2 : Int32) (M : Mem) : AM yX1_reach cX1_reach 3 none 0 60 glC (fun ad => [.ref (ad 30), .int v1, .int v2]) M (PV (fun M' => ∀ a, a ≠ 30 → a ≠ 32 → a ≠ 33 → M' a = M a)) := by
  refine AM.of (by decide) (fun _ => Nat.le_of_ble_eq_true rfl) (fun X ad cI cZ cB hX hR => ?_)
  show V X M [(0, .ref (ad 30)), (1, .int v1), (2, .int v2)] [] 0
  have hf_0 : ∀ a, a ≠ 30 → a ≠ 32 → a ≠ 33 → M a = M a := fun _ _ _ _ => rfl
  refine s_iload_n (k := 1) hX dX1_reach_0 rfl rfl ?_
  refine s_if_lt (tgt := 63) hX dX1_reach_1 (by decide) (fun c1 => ?_) (fun c1 => ?_)
  · replace c1 := z_lt.mp c1
    exact s_vret hX hR dX1_reach_63 hf_0
  · replace c1 := mt z_lt.mpr c1
    refine s_iload_n (k := 1) hX dX1_reach_4 rfl rfl ?_
    refine s_bipush (v := (nI 80)) hX dX1_reach_5 (by decide) ?_
    refine s_icmp_ge (tgt := 63) hX dX1_reach_7 (by decide) (fun c7 => ?_) (fun c7 => ?_)
    · replace c7 := (q_ge (by omega)).mp c7
      exact s_vret hX hR dX1_reach_63 hf_0
    · replace c7 := mt (q_ge (by omega)).mpr c7
      refine s_aload_n (k := 0) hX dX1_reach_10 rfl rfl ?_
      refine s_get hX fX1_21 oC30 rfl dX1_reach_11 ?_
      refine s_if_lt (tgt := 63) hX dX1_reach_14 (by decide) (fun c14 => ?_) (fun c14 => ?_)
      · replace c14 := z_lt.mp c14
        exact s_vret hX hR dX1_reach_63 hf_0
      · replace c14 := mt z_lt.mpr c14
        refine s_aload_n (k := 0) hX dX1_reach_17 rfl rfl ?_
        refine s_get hX fX1_21 oC30 rfl dX1_reach_18 ?_
        refine s_bipush (v := (nI 80)) hX dX1_reach_21 (by decide) ?_
        refine s_icmp_ge (tgt := 63) hX dX1_reach_23 (by decide) (fun c23 => ?_) (fun c23 => ?_)
        · replace c23 := (q_ge (by omega)).mp c23
          exact s_vret hX hR dX1_reach_63 hf_0
        · replace c23 := mt (q_ge (by omega)).mpr c23
          refine s_aload_n (k := 0) hX dX1_reach_26 rfl rfl ?_
          refine s_get hX fX1_15 oC30 rfl dX1_reach_27 ?_
          refine s_iload_n (k := 1) hX dX1_reach_30 rfl rfl ?_
          refine s_iald hX aC32 (vp_in_iff.mpr (by omega)) dX1_reach_31 ?_
          refine s_iconst (v := (-1)) hX dX1_reach_32 (by decide) ?_
          refine s_icmp_ne (tgt := 63) hX dX1_reach_33 (by decide) (fun c33 => ?_) (fun c33 => ?_)
          · exact s_vret hX hR dX1_reach_63 hf_0
          · refine s_aload_n (k := 0) hX dX1_reach_36 rfl rfl ?_
            refine s_get hX fX1_15 oC30 rfl dX1_reach_37 ?_
            refine s_iload_n (k := 1) hX dX1_reach_40 rfl rfl ?_
            refine s_iload_n (k := 2) hX dX1_reach_41 rfl rfl ?_
            refine s_iast hX aC32 (vp_in_iff.mpr (by omega)) dX1_reach_42 ?_
            refine s_mem (fun M_1 eM_1 => ?_)
            have hfM_1 : ∀ a, a ≠ 30 → a ≠ 32 → a ≠ 33 → M_1 a = M a := fun a q0 q1 q2 => (congrFun eM_1 a).trans ((mset_n (by omega)).trans (hf_0 a q0 q1 q2))
            refine s_aload_n (k := 0) hX dX1_reach_43 rfl rfl ?_
            refine s_get hX fX1_18 oC30 rfl dX1_reach_44 ?_
            refine s_aload_n (k := 0) hX dX1_reach_47 rfl rfl ?_
            refine s_get hX fX1_21 oC30 rfl dX1_reach_48 ?_
            refine s_top (y := M 30 3) (by rw [eM_1, mset_n (by omega)]) ?_
            refine s_iload_n (k := 1) hX dX1_reach_51 rfl rfl ?_
            refine s_iast hX aC33 (vp_in_iff.mpr (by omega)) dX1_reach_52 ?_
            refine s_mem (fun M_2 eM_2 => ?_)
            have hfM_2 : ∀ a, a ≠ 30 → a ≠ 32 → a ≠ 33 → M_2 a = M a := fun a q0 q1 q2 => (congrFun eM_2 a).trans ((mset_n (by omega)).trans (hfM_1 a q0 q1 q2))
            refine s_aload_n (k := 0) hX dX1_reach_53 rfl rfl ?_
            refine s_dup hX dX1_reach_54 rfl ?_
            refine s_get hX fX1_21 oC30 rfl dX1_reach_55 ?_
            refine s_top (y := M 30 3) (by rw [eM_2, mset_n (by omega), eM_1, mset_n (by omega)]) ?_
            refine s_iconst (v := (nI 1)) hX dX1_reach_58 (by decide) ?_
            refine s_iadd hX dX1_reach_59 ?_
            refine s_puti (ty := .int) hX fX1_21 oC30 rfl (Nat.le_of_ble_eq_true rfl) ty_1_3 rfl rfl dX1_reach_60 ?_
            refine s_mem (fun M_3 eM_3 => ?_)
            have hfM_3 : ∀ a, a ≠ 30 → a ≠ 32 → a ≠ 33 → M_3 a = M a := fun a q0 q1 q2 => (congrFun eM_3 a).trans ((mset_n (by omega)).trans (hfM_2 a q0 q1 q2))
            exact s_vret hX hR dX1_reach_63 hfM_3
set_option maxHeartbeats 4000000 in
theorem s_X1_comeOn (v1 : Int32) (M : Mem) : AM yX1_comeOn cX1_comeOn 2 none 1 60 glC (fun ad => [.ref (ad 30), .int v1]) M (PV (fun M' => ∀ a, a ≠ 30 → a ≠ 32 → a ≠ 33 → M' a = M a)) := by
  refine AM.of (by decide) (fun _ => Nat.le_of_ble_eq_true rfl) (fun X ad cI cZ cB hX hR => ?_)
  show V X M [(0, .ref (ad 30)), (1, .int v1)] [] 0
  have hf_0 : ∀ a, a ≠ 30 → a ≠ 32 → a ≠ 33 → M a = M a := fun _ _ _ _ => rfl
  refine s_iload_n (k := 1) hX dX1_comeOn_0 rfl rfl ?_
  refine s_if_lt (tgt := 10) hX dX1_comeOn_1 (by decide) (fun c1 => ?_) (fun c1 => ?_)
  · replace c1 := z_lt.mp c1
    exact s_vret hX hR dX1_comeOn_10 hf_0
  · replace c1 := mt z_lt.mpr c1
    refine s_iload_n (k := 1) hX dX1_comeOn_4 rfl rfl ?_
    refine s_bipush (v := (nI 40)) hX dX1_comeOn_5 (by decide) ?_
    refine s_icmp_lt (tgt := 11) hX dX1_comeOn_7 (by decide) (fun c7 => ?_) (fun c7 => ?_)
    · replace c7 := (q_lt (by omega)).mp c7
      refine s_aload_n (k := 0) hX dX1_comeOn_11 rfl rfl ?_
      refine s_get hX fX1_9 oC30 rfl dX1_comeOn_12 ?_
      refine s_iload_n (k := 1) hX dX1_comeOn_15 rfl rfl ?_
      refine s_iald hX aC31 (vp_in_iff.mpr (by omega)) dX1_comeOn_16 ?_
      refine s_iconst (v := (-1)) hX dX1_comeOn_17 (by decide) ?_
      refine s_icmp_ne (tgt := 33) hX dX1_comeOn_18 (by decide) (fun c18 => ?_) (fun c18 => ?_)
      · refine s_aload_n (k := 0) hX dX1_comeOn_33 rfl rfl ?_
        refine s_get hX fX1_9 oC30 rfl dX1_comeOn_34 ?_
        refine s_iload_n (k := 1) hX dX1_comeOn_37 rfl rfl ?_
        refine s_iald hX aC31 (vp_in_iff.mpr (by omega)) dX1_comeOn_38 ?_
        refine s_bipush (v := (nI 40)) hX dX1_comeOn_39 (by decide) ?_
        refine s_icmp_ge (tgt := 58) hX dX1_comeOn_41 (by decide) (fun c41 => ?_) (fun c41 => ?_)
        · exact s_vret hX hR dX1_comeOn_58 hf_0
        · refine s_aload_n (k := 0) hX dX1_comeOn_44 rfl rfl ?_
          refine s_aload_n (k := 0) hX dX1_comeOn_45 rfl rfl ?_
          refine s_get hX fX1_9 oC30 rfl dX1_comeOn_46 ?_
          refine s_iload_n (k := 1) hX dX1_comeOn_49 rfl rfl ?_
          refine s_iald hX aC31 (vp_in_iff.mpr (by omega)) dX1_comeOn_50 ?_
          refine s_bipush (v := (nI 40)) hX dX1_comeOn_51 (by decide) ?_
          refine s_iadd hX dX1_comeOn_53 ?_
          refine s_iload_n (k := 1) hX dX1_comeOn_54 rfl rfl ?_
          refine s_callVv hX (s_X1_reach _ _ M) mX1_reach lX1_45 (by decide) (by decide) oC30 rfl rfl rfl rfl rfl (Nat.le_of_ble_eq_true rfl) dX1_comeOn_55 (fun M_1 hp55 => ?_)
          have hfM_1 : ∀ a, a ≠ 30 → a ≠ 32 → a ≠ 33 → M_1 a = M a := fun a q0 q1 q2 => (hp55 a (by omega) (by omega) (by omega)).trans (hf_0 a q0 q1 q2)
          exact s_vret hX hR dX1_comeOn_58 hfM_1
      · refine s_aload_n (k := 0) hX dX1_comeOn_21 rfl rfl ?_
        refine s_iload_n (k := 1) hX dX1_comeOn_22 rfl rfl ?_
        refine s_bipush (v := (nI 40)) hX dX1_comeOn_23 (by decide) ?_
        refine s_iadd hX dX1_comeOn_25 ?_
        refine s_iload_n (k := 1) hX dX1_comeOn_26 rfl rfl ?_
        refine s_callVv hX (s_X1_reach _ _ M) mX1_reach lX1_45 (by decide) (by decide) oC30 rfl rfl rfl rfl rfl (Nat.le_of_ble_eq_true rfl) dX1_comeOn_27 (fun M_2 hp27 => ?_)
        have hfM_2 : ∀ a, a ≠ 30 → a ≠ 32 → a ≠ 33 → M_2 a = M a := fun a q0 q1 q2 => (hp27 a (by omega) (by omega) (by omega)).trans (hf_0 a q0 q1 q2)
        refine s_goto (tgt := 58) hX dX1_comeOn_30 (by decide) ?_
        exact s_vret hX hR dX1_comeOn_58 hfM_2
    · replace c7 := mt (q_lt (by omega)).mpr c7
      exact s_vret hX hR dX1_comeOn_10 hf_0
set_option maxHeartbeats 4000000 in
theorem s_X1_leave (b : Nat) (hb : isF b) (v2 : Int32) (v3 : Int32) (M : Mem) : AM yX1_leave cX1_leave 5 (some .boolean) 3 60 glC (fun ad => [.ref (ad 30), .ref (ad b), .int v2, .int v3]) M (PI (fun r M' => (r = 0 ∨ r = 1) ∧ (∀ a, a ≠ 30 → a ≠ 32 → a ≠ 33 → M' a = M a))) := by
  refine AM.of (by decide) (fun _ => Nat.le_of_ble_eq_true rfl) (fun X ad cI cZ cB hX hR => ?_)
  show V X M [(0, .ref (ad 30)), (1, .ref (ad b)), (2, .int v2), (3, .int v3)] [] 0
  have hb0 : b = 1 ∨ b = 7 ∨ b = 13 := hb
  have hf_0 : ∀ a, a ≠ 30 → a ≠ 32 → a ≠ 33 → M a = M a := fun _ _ _ _ => rfl
  refine s_iload_n (k := 3) hX dX1_leave_0 rfl rfl ?_
  refine s_if_lt (tgt := 10) hX dX1_leave_1 (by decide) (fun c1 => ?_) (fun c1 => ?_)
  · replace c1 := z_lt.mp c1
    refine s_iconst (v := (nI 0)) hX dX1_leave_10 (by decide) ?_
    exact s_zret hX hR dX1_leave_11 (by decide) ⟨(by decide), hf_0⟩
  · replace c1 := mt z_lt.mpr c1
    refine s_iload_n (k := 3) hX dX1_leave_4 rfl rfl ?_
    refine s_bipush (v := (nI 40)) hX dX1_leave_5 (by decide) ?_
    refine s_icmp_lt (tgt := 12) hX dX1_leave_7 (by decide) (fun c7 => ?_) (fun c7 => ?_)
    · replace c7 := (q_lt (by omega)).mp c7
      refine s_aload_n (k := 1) hX dX1_leave_12 rfl rfl ?_
      refine s_iload_n (k := 3) hX dX1_leave_13 rfl rfl ?_
      refine s_bipush (v := (nI 41)) hX dX1_leave_14 (by decide) ?_
      refine s_iload_n (k := 2) hX dX1_leave_16 rfl rfl ?_
      refine s_callVi hX (s_X2_isStep b hb _ _ _ M) mX2_isStep lX1_39 (by decide) (by decide) (oF hb) rfl rfl rfl rfl rfl (Nat.le_of_ble_eq_true rfl) dX1_leave_17 (fun r17 M_1 hp17 => ?_)
      obtain ⟨hz17, hq17⟩ := hp17
      subst hq17
      refine s_if_eq (tgt := 25) hX dX1_leave_20 (by decide) (fun c20 => ?_) (fun c20 => ?_)
      · replace c20 := z_eq.mp c20
        refine s_iconst (v := (nI 0)) hX dX1_leave_25 (by decide) ?_
        refine s_istore (lv' := [(0, .ref (ad 30)), (1, .ref (ad b)), (2, .int v2), (3, .int v3), (4, .int (nI 0))]) hX dX1_leave_26 (by decide) rfl ?_
        have lp28 : ∀ (N28 : Nat) (i28 : Nat) (M28 : Mem), (i28 ≤ 40) → (40 < i28 + N28) → (∀ a, a ≠ 30 → a ≠ 32 → a ≠ 33 → M28 a = M a) → V X M28 [(0, .ref (ad 30)), (1, .ref (ad b)), (2, .int v2), (3, .int v3), (4, .int (nI i28))] [] 28 := by
          intro N28
          induction N28 with
          | zero => intro i28 M28 hi28 hN28 hf_28; exact absurd hN28 (by omega)
          | succ N28 ih28 =>
            intro i28 M28 hi28 hN28 hf_28
            refine s_iload (k := 4) hX dX1_leave_28 rfl ?_
            refine s_bipush (v := (nI 40)) hX dX1_leave_30 (by decide) ?_
            refine s_icmp_ge (tgt := 62) hX dX1_leave_32 (by decide) (fun c32 => ?_) (fun c32 => ?_)
            · replace c32 := (nI_leI (by omega) (by omega)).mp c32
              refine s_aload_n (k := 0) hX dX1_leave_62 rfl rfl ?_
              refine s_iload_n (k := 3) hX dX1_leave_63 rfl rfl ?_
              refine s_iload_n (k := 3) hX dX1_leave_64 rfl rfl ?_
              refine s_bipush (v := (nI 40)) hX dX1_leave_65 (by decide) ?_
              refine s_iadd hX dX1_leave_67 ?_
              refine s_callVv hX (s_X1_reach _ _ M28) mX1_reach lX1_45 (by decide) (by decide) oC30 rfl rfl rfl rfl rfl (Nat.le_of_ble_eq_true rfl) dX1_leave_68 (fun M_3 hp68 => ?_)
              have hfM_3 : ∀ a, a ≠ 30 → a ≠ 32 → a ≠ 33 → M_3 a = M a := fun a q0 q1 q2 => (hp68 a (by omega) (by omega) (by omega)).trans (hf_28 a q0 q1 q2)
              refine s_iconst (v := (nI 0)) hX dX1_leave_71 (by decide) ?_
              exact s_zret hX hR dX1_leave_72 (by decide) ⟨(by decide), hfM_3⟩
            · replace c32 := mt (nI_leI (by omega) (by omega)).mpr c32
              refine s_aload_n (k := 1) hX dX1_leave_35 rfl rfl ?_
              refine s_iload_n (k := 3) hX dX1_leave_36 rfl rfl ?_
              refine s_iload (k := 4) hX dX1_leave_37 rfl ?_
              refine s_iload_n (k := 2) hX dX1_leave_39 rfl rfl ?_
              refine s_callVi hX (s_X2_isStep b hb _ _ _ M28) mX2_isStep lX1_39 (by decide) (by decide) (oF hb) rfl rfl rfl rfl rfl (Nat.le_of_ble_eq_true rfl) dX1_leave_40 (fun r40 M_4 hp40 => ?_)
              obtain ⟨hz40, hq40⟩ := hp40
              subst hq40
              refine s_if_eq (tgt := 56) hX dX1_leave_43 (by decide) (fun c43 => ?_) (fun c43 => ?_)
              · replace c43 := z_eq.mp c43
                refine s_iinc (k := 4) (v := nI (i28 + 1)) (lv' := [(0, .ref (ad 30)), (1, .ref (ad b)), (2, .int v2), (3, .int v3), (4, .int (nI (i28 + 1)))]) hX dX1_leave_56 (nI_1 _) (by decide) rfl rfl ?_
                refine s_goto (tgt := 28) hX dX1_leave_59 (by decide) ?_
                exact ih28 _ _ (by omega) (by omega) hf_28
              · replace c43 := mt z_eq.mpr c43
                refine s_aload_n (k := 0) hX dX1_leave_46 rfl rfl ?_
                refine s_iload (k := 4) hX dX1_leave_47 rfl ?_
                refine s_iload_n (k := 3) hX dX1_leave_49 rfl rfl ?_
                refine s_bipush (v := (nI 40)) hX dX1_leave_50 (by decide) ?_
                refine s_iadd hX dX1_leave_52 ?_
                refine s_callVv hX (s_X1_reach _ _ M28) mX1_reach lX1_45 (by decide) (by decide) oC30 rfl rfl rfl rfl rfl (Nat.le_of_ble_eq_true rfl) dX1_leave_53 (fun M_5 hp53 => ?_)
                have hfM_5 : ∀ a, a ≠ 30 → a ≠ 32 → a ≠ 33 → M_5 a = M a := fun a q0 q1 q2 => (hp53 a (by omega) (by omega) (by omega)).trans (hf_28 a q0 q1 q2)
                refine s_iinc (k := 4) (v := nI (i28 + 1)) (lv' := [(0, .ref (ad 30)), (1, .ref (ad b)), (2, .int v2), (3, .int v3), (4, .int (nI (i28 + 1)))]) hX dX1_leave_56 (nI_1 _) (by decide) rfl rfl ?_
                refine s_goto (tgt := 28) hX dX1_leave_59 (by decide) ?_
                exact ih28 _ _ (by omega) (by omega) hfM_5
        exact lp28 (40 + 1) _ _ (by omega) (by omega) hf_0
      · replace c20 := mt z_eq.mpr c20
        refine s_iconst (v := (nI 1)) hX dX1_leave_23 (by decide) ?_
        exact s_zret hX hR dX1_leave_24 (by decide) ⟨(by decide), hf_0⟩
    · replace c7 := mt (q_lt (by omega)).mpr c7
      refine s_iconst (v := (nI 0)) hX dX1_leave_10 (by decide) ?_
      exact s_zret hX hR dX1_leave_11 (by decide) ⟨(by decide), hf_0⟩
set_option maxHeartbeats 4000000 in
theorem s_X1_join (v1 : Int32) (v2 : Int32) (M : Mem) : AM yX1_join cX1_join 3 none 0 60 glC (fun ad => [.ref (ad 30), .int v1, .int v2]) M (PV (fun M' => ∀ a, a ≠ 31 → M' a = M a)) := by
  refine AM.of (by decide) (fun _ => Nat.le_of_ble_eq_true rfl) (fun X ad cI cZ cB hX hR => ?_)
  show V X M [(0, .ref (ad 30)), (1, .int v1), (2, .int v2)] [] 0
  have hf_0 : ∀ a, a ≠ 31 → M a = M a := fun _ _ => rfl
  refine s_iload_n (k := 2) hX dX1_join_0 rfl rfl ?_
  refine s_if_lt (tgt := 26) hX dX1_join_1 (by decide) (fun c1 => ?_) (fun c1 => ?_)
  · replace c1 := z_lt.mp c1
    exact s_vret hX hR dX1_join_26 hf_0
  · replace c1 := mt z_lt.mpr c1
    refine s_iload_n (k := 2) hX dX1_join_4 rfl rfl ?_
    refine s_bipush (v := (nI 40)) hX dX1_join_5 (by decide) ?_
    refine s_icmp_ge (tgt := 26) hX dX1_join_7 (by decide) (fun c7 => ?_) (fun c7 => ?_)
    · replace c7 := (q_ge (by omega)).mp c7
      exact s_vret hX hR dX1_join_26 hf_0
    · replace c7 := mt (q_ge (by omega)).mpr c7
      refine s_aload_n (k := 0) hX dX1_join_10 rfl rfl ?_
      refine s_get hX fX1_9 oC30 rfl dX1_join_11 ?_
      refine s_iload_n (k := 2) hX dX1_join_14 rfl rfl ?_
      refine s_iload_n (k := 2) hX dX1_join_15 rfl rfl ?_
      refine s_iload_n (k := 1) hX dX1_join_16 rfl rfl ?_
      refine s_icmp_ne (tgt := 24) hX dX1_join_17 (by decide) (fun c17 => ?_) (fun c17 => ?_)
      · replace c17 := mt Int32.toInt_inj.symm.mpr c17
        refine s_iload_n (k := 1) hX dX1_join_24 rfl rfl ?_
        refine s_iast hX aC31 (vp_in_iff.mpr (by omega)) dX1_join_25 ?_
        refine s_mem (fun M_1 eM_1 => ?_)
        have hfM_1 : ∀ a, a ≠ 31 → M_1 a = M a := fun a q0 => (congrFun eM_1 a).trans ((mset_n (by omega)).trans (hf_0 a q0))
        exact s_vret hX hR dX1_join_26 hfM_1
      · replace c17 := Int32.toInt_inj.symm.mp c17
        refine s_iconst (v := (-1)) hX dX1_join_20 (by decide) ?_
        refine s_goto (tgt := 25) hX dX1_join_21 (by decide) ?_
        refine s_iast hX aC31 (vp_in_iff.mpr (by omega)) dX1_join_25 ?_
        refine s_mem (fun M_2 eM_2 => ?_)
        have hfM_2 : ∀ a, a ≠ 31 → M_2 a = M a := fun a q0 => (congrFun eM_2 a).trans ((mset_n (by omega)).trans (hf_0 a q0))
        exact s_vret hX hR dX1_join_26 hfM_2
set_option maxHeartbeats 4000000 in
theorem s_X1_weave (v1 : Int32) (M : Mem) : AM yX1_weave cX1_weave 5 none 1 60 glC (fun ad => [.ref (ad 30), .int v1]) M (PV (fun M' => ∀ a, a ≠ 31 → M' a = M a)) := by
  refine AM.of (by decide) (fun _ => Nat.le_of_ble_eq_true rfl) (fun X ad cI cZ cB hX hR => ?_)
  show V X M [(0, .ref (ad 30)), (1, .int v1)] [] 0
  have hf_0 : ∀ a, a ≠ 31 → M a = M a := fun _ _ => rfl
  refine s_iload_n (k := 1) hX dX1_weave_0 rfl rfl ?_
  refine s_istore_n (lv' := [(0, .ref (ad 30)), (1, .int v1), (2, .int v1)]) hX dX1_weave_1 rfl (by decide) rfl ?_
  refine s_bipush (v := (nI 41)) hX dX1_weave_2 (by decide) ?_
  refine s_istore_n (lv' := [(0, .ref (ad 30)), (1, .int v1), (2, .int v1), (3, .int (nI 41))]) hX dX1_weave_4 rfl (by decide) rfl ?_
  refine s_iconst (v := (nI 0)) hX dX1_weave_5 (by decide) ?_
  refine s_istore (lv' := [(0, .ref (ad 30)), (1, .int v1), (2, .int v1), (3, .int (nI 41)), (4, .int (nI 0))]) hX dX1_weave_6 (by decide) rfl ?_
  have lp8 : ∀ (N8 : Nat) (i8 : Nat) (y2_8 y3_8 : Int32) (M8 : Mem), (i8 ≤ 81) → (81 < i8 + N8) → (∀ a, a ≠ 31 → M8 a = M a) → V X M8 [(0, .ref (ad 30)), (1, .int v1), (2, .int y2_8), (3, .int y3_8), (4, .int (nI i8))] [] 8 := by
    intro N8
    induction N8 with
    | zero => intro i8 y2_8 y3_8 M8 hi8 hN8 hf_8; exact absurd hN8 (by omega)
    | succ N8 ih8 =>
      intro i8 y2_8 y3_8 M8 hi8 hN8 hf_8
      refine s_iload (k := 4) hX dX1_weave_8 rfl ?_
      refine s_bipush (v := (nI 80)) hX dX1_weave_10 (by decide) ?_
      refine s_icmp_gt (tgt := 77) hX dX1_weave_12 (by decide) (fun c12 => ?_) (fun c12 => ?_)
      · replace c12 := (nI_ltI (by omega) (by omega)).mp c12
        exact s_vret hX hR dX1_weave_77 hf_8
      · replace c12 := mt (nI_ltI (by omega) (by omega)).mpr c12
        refine s_iload_n (k := 2) hX dX1_weave_15 rfl rfl ?_
        refine s_if_lt (tgt := 77) hX dX1_weave_16 (by decide) (fun c16 => ?_) (fun c16 => ?_)
        · replace c16 := z_lt.mp c16
          exact s_vret hX hR dX1_weave_77 hf_8
        · replace c16 := mt z_lt.mpr c16
          refine s_iload_n (k := 2) hX dX1_weave_19 rfl rfl ?_
          refine s_bipush (v := (nI 80)) hX dX1_weave_20 (by decide) ?_
          refine s_icmp_ge (tgt := 77) hX dX1_weave_22 (by decide) (fun c22 => ?_) (fun c22 => ?_)
          · replace c22 := (q_ge (by omega)).mp c22
            exact s_vret hX hR dX1_weave_77 hf_8
          · replace c22 := mt (q_ge (by omega)).mpr c22
            refine s_iload_n (k := 2) hX dX1_weave_25 rfl rfl ?_
            refine s_bipush (v := (nI 40)) hX dX1_weave_26 (by decide) ?_
            refine s_icmp_lt (tgt := 43) hX dX1_weave_28 (by decide) (fun c28 => ?_) (fun c28 => ?_)
            · replace c28 := (q_lt (by omega)).mp c28
              refine s_aload_n (k := 0) hX dX1_weave_43 rfl rfl ?_
              refine s_get hX fX1_15 oC30 rfl dX1_weave_44 ?_
              refine s_iload_n (k := 2) hX dX1_weave_47 rfl rfl ?_
              refine s_iald hX aC32 (vp_in_iff.mpr (by omega)) dX1_weave_48 ?_
              refine s_bipush (v := (-2)) hX dX1_weave_49 (by decide) ?_
              refine s_icmp_ne (tgt := 62) hX dX1_weave_51 (by decide) (fun c51 => ?_) (fun c51 => ?_)
              · refine s_iload_n (k := 2) hX dX1_weave_62 rfl rfl ?_
                refine s_istore_n (lv' := [(0, .ref (ad 30)), (1, .int v1), (2, .int y2_8), (4, .int (nI i8)), (3, .int y2_8)]) hX dX1_weave_63 rfl (by decide) rfl ?_
                refine s_aload_n (k := 0) hX dX1_weave_64 rfl rfl ?_
                refine s_get hX fX1_15 oC30 rfl dX1_weave_65 ?_
                refine s_iload_n (k := 2) hX dX1_weave_68 rfl rfl ?_
                refine s_iald hX aC32 (vp_in_iff.mpr (by omega)) dX1_weave_69 ?_
                refine s_topi (fun x2_5 ex2_5 => ?_)
                refine s_istore_n (lv' := [(0, .ref (ad 30)), (1, .int v1), (4, .int (nI i8)), (3, .int y2_8), (2, .int x2_5)]) hX dX1_weave_70 rfl (by decide) rfl ?_
                refine s_iinc (k := 2) (v := nI (i8 + 1)) (lv' := [(0, .ref (ad 30)), (1, .int v1), (3, .int y2_8), (2, .int x2_5), (4, .int (nI (i8 + 1)))]) hX dX1_weave_71 (nI_1 _) (by decide) rfl rfl ?_
                refine s_goto (tgt := 8) hX dX1_weave_74 (by decide) ?_
                refine s_loc [0, 1, 3, 2, 4] rfl ?_
                exact ih8 _ _ _ _ (by omega) (by omega) hf_8
              · refine s_aload_n (k := 0) hX dX1_weave_54 rfl rfl ?_
                refine s_get hX fX1_9 oC30 rfl dX1_weave_55 ?_
                refine s_iload_n (k := 2) hX dX1_weave_58 rfl rfl ?_
                refine s_bipush (v := (nI 40)) hX dX1_weave_59 (by decide) ?_
                refine s_iast hX aC31 (vp_in_iff.mpr (by omega)) dX1_weave_61 ?_
                refine s_mem (fun M_6 eM_6 => ?_)
                have hfM_6 : ∀ a, a ≠ 31 → M_6 a = M a := fun a q0 => (congrFun eM_6 a).trans ((mset_n (by omega)).trans (hf_8 a q0))
                refine s_iload_n (k := 2) hX dX1_weave_62 rfl rfl ?_
                refine s_istore_n (lv' := [(0, .ref (ad 30)), (1, .int v1), (2, .int y2_8), (4, .int (nI i8)), (3, .int y2_8)]) hX dX1_weave_63 rfl (by decide) rfl ?_
                refine s_aload_n (k := 0) hX dX1_weave_64 rfl rfl ?_
                refine s_get hX fX1_15 oC30 rfl dX1_weave_65 ?_
                refine s_iload_n (k := 2) hX dX1_weave_68 rfl rfl ?_
                refine s_iald hX aC32 (vp_in_iff.mpr (by omega)) dX1_weave_69 ?_
                refine s_topi (fun x2_8 ex2_8 => ?_)
                refine s_istore_n (lv' := [(0, .ref (ad 30)), (1, .int v1), (4, .int (nI i8)), (3, .int y2_8), (2, .int x2_8)]) hX dX1_weave_70 rfl (by decide) rfl ?_
                refine s_iinc (k := 2) (v := nI (i8 + 1)) (lv' := [(0, .ref (ad 30)), (1, .int v1), (3, .int y2_8), (2, .int x2_8), (4, .int (nI (i8 + 1)))]) hX dX1_weave_71 (nI_1 _) (by decide) rfl rfl ?_
                refine s_goto (tgt := 8) hX dX1_weave_74 (by decide) ?_
                refine s_loc [0, 1, 3, 2, 4] rfl ?_
                exact ih8 _ _ _ _ (by omega) (by omega) hfM_6
            · replace c28 := mt (q_lt (by omega)).mpr c28
              refine s_aload_n (k := 0) hX dX1_weave_31 rfl rfl ?_
              refine s_iload_n (k := 2) hX dX1_weave_32 rfl rfl ?_
              refine s_bipush (v := (nI 40)) hX dX1_weave_33 (by decide) ?_
              refine s_isub hX dX1_weave_35 ?_
              refine s_iload_n (k := 3) hX dX1_weave_36 rfl rfl ?_
              refine s_callVv hX (s_X1_join _ _ M8) mX1_join lX1_56 (by decide) (by decide) oC30 rfl rfl rfl rfl rfl (Nat.le_of_ble_eq_true rfl) dX1_weave_37 (fun M_9 hp37 => ?_)
              have hfM_9 : ∀ a, a ≠ 31 → M_9 a = M a := fun a q0 => (hp37 a (by omega)).trans (hf_8 a q0)
              refine s_goto (tgt := 62) hX dX1_weave_40 (by decide) ?_
              refine s_iload_n (k := 2) hX dX1_weave_62 rfl rfl ?_
              refine s_istore_n (lv' := [(0, .ref (ad 30)), (1, .int v1), (2, .int y2_8), (4, .int (nI i8)), (3, .int y2_8)]) hX dX1_weave_63 rfl (by decide) rfl ?_
              refine s_aload_n (k := 0) hX dX1_weave_64 rfl rfl ?_
              refine s_get hX fX1_15 oC30 rfl dX1_weave_65 ?_
              refine s_iload_n (k := 2) hX dX1_weave_68 rfl rfl ?_
              refine s_iald hX aC32 (vp_in_iff.mpr (by omega)) dX1_weave_69 ?_
              refine s_topi (fun x2_11 ex2_11 => ?_)
              refine s_istore_n (lv' := [(0, .ref (ad 30)), (1, .int v1), (4, .int (nI i8)), (3, .int y2_8), (2, .int x2_11)]) hX dX1_weave_70 rfl (by decide) rfl ?_
              refine s_iinc (k := 2) (v := nI (i8 + 1)) (lv' := [(0, .ref (ad 30)), (1, .int v1), (3, .int y2_8), (2, .int x2_11), (4, .int (nI (i8 + 1)))]) hX dX1_weave_71 (nI_1 _) (by decide) rfl rfl ?_
              refine s_goto (tgt := 8) hX dX1_weave_74 (by decide) ?_
              refine s_loc [0, 1, 3, 2, 4] rfl ?_
              exact ih8 _ _ _ _ (by omega) (by omega) hfM_9
  exact lp8 (81 + 1) _ _ _ _ (by omega) (by omega) hf_0
set_option maxHeartbeats 4000000 in
theorem s_X1_search (b : Nat) (hb : isF b) (v2 : Int32) (M : Mem) : AM yX1_search cX1_search 5 (some .int) 4 60 glC (fun ad => [.ref (ad 30), .ref (ad b), .int v2]) M (PI (fun _ M' => ∀ a, a ≠ 30 → a ≠ 32 → a ≠ 33 → M' a = M a)) := by
  refine AM.of (by decide) (fun _ => Nat.le_of_ble_eq_true rfl) (fun X ad cI cZ cB hX hR => ?_)
  show V X M [(0, .ref (ad 30)), (1, .ref (ad b)), (2, .int v2)] [] 0
  have hb0 : b = 1 ∨ b = 7 ∨ b = 13 := hb
  have hf_0 : ∀ a, a ≠ 30 → a ≠ 32 → a ≠ 33 → M a = M a := fun _ _ _ _ => rfl
  refine s_aload_n (k := 0) hX dX1_search_0 rfl rfl ?_
  refine s_get hX fX1_15 oC30 rfl dX1_search_1 ?_
  refine s_iconst (v := (-1)) hX dX1_search_4 (by decide) ?_
  refine s_callSv hX (s_J7_fill_53178 32 80 aC32 (by decide) _ M) mJ7_fill_53178 lX1_25 (by decide) (by decide) rfl rfl (Nat.le_of_ble_eq_true rfl) dX1_search_5 (fun M_1 hp5 => ?_)
  have hfM_1 : ∀ a, a ≠ 30 → a ≠ 32 → a ≠ 33 → M_1 a = M a := fun a q0 q1 q2 => (hp5 a (by omega)).trans (hf_0 a q0 q1 q2)
  refine s_aload_n (k := 0) hX dX1_search_8 rfl rfl ?_
  refine s_iconst (v := (nI 0)) hX dX1_search_9 (by decide) ?_
  refine s_puti (ty := .int) hX fX1_21 oC30 rfl (Nat.le_of_ble_eq_true rfl) ty_1_3 rfl rfl dX1_search_10 ?_
  refine s_mem (fun M_2 eM_2 => ?_)
  have hfM_2 : ∀ a, a ≠ 30 → a ≠ 32 → a ≠ 33 → M_2 a = M a := fun a q0 q1 q2 => (congrFun eM_2 a).trans ((mset_n (by omega)).trans (hfM_1 a q0 q1 q2))
  refine s_iconst (v := (nI 0)) hX dX1_search_13 (by decide) ?_
  refine s_istore_n (lv' := [(0, .ref (ad 30)), (1, .ref (ad b)), (2, .int v2), (3, .int (nI 0))]) hX dX1_search_14 rfl (by decide) rfl ?_
  have lp15 : ∀ (N15 : Nat) (i15 : Nat) (M15 : Mem), (i15 ≤ 40) → (40 < i15 + N15) → (∀ a, a ≠ 30 → a ≠ 32 → a ≠ 33 → M15 a = M a) → V X M15 [(0, .ref (ad 30)), (1, .ref (ad b)), (2, .int v2), (3, .int (nI i15))] [] 15 := by
    intro N15
    induction N15 with
    | zero => intro i15 M15 hi15 hN15 hf_15; exact absurd hN15 (by omega)
    | succ N15 ih15 =>
      intro i15 M15 hi15 hN15 hf_15
      refine s_iload_n (k := 3) hX dX1_search_15 rfl rfl ?_
      refine s_bipush (v := (nI 40)) hX dX1_search_16 (by decide) ?_
      refine s_icmp_ge (tgt := 45) hX dX1_search_18 (by decide) (fun c18 => ?_) (fun c18 => ?_)
      · replace c18 := (nI_leI (by omega) (by omega)).mp c18
        refine s_iconst (v := (nI 0)) hX dX1_search_45 (by decide) ?_
        refine s_istore_n (lv' := [(0, .ref (ad 30)), (1, .ref (ad b)), (2, .int v2), (3, .int (nI 0))]) hX dX1_search_46 rfl (by decide) rfl ?_
        have lp47 : ∀ (N47 : Nat) (i47 : Nat) (M47 : Mem), (i47 ≤ 80) → (80 < i47 + N47) → (∀ a, a ≠ 30 → a ≠ 32 → a ≠ 33 → M47 a = M a) → V X M47 [(0, .ref (ad 30)), (1, .ref (ad b)), (2, .int v2), (3, .int (nI i47))] [] 47 := by
          intro N47
          induction N47 with
          | zero => intro i47 M47 hi47 hN47 hf_47; exact absurd hN47 (by omega)
          | succ N47 ih47 =>
            intro i47 M47 hi47 hN47 hf_47
            refine s_iload_n (k := 3) hX dX1_search_47 rfl rfl ?_
            refine s_aload_n (k := 0) hX dX1_search_48 rfl rfl ?_
            refine s_get hX fX1_21 oC30 rfl dX1_search_49 ?_
            refine s_icmp_ge (tgt := 108) hX dX1_search_52 (by decide) (fun c52 => ?_) (fun c52 => ?_)
            · replace c52 := (q_le (by omega)).mp c52
              refine s_iconst (v := (-1)) hX dX1_search_108 (by decide) ?_
              exact s_iret hX hR dX1_search_109 hf_47
            · replace c52 := mt (q_le (by omega)).mpr c52
              refine s_iload_n (k := 3) hX dX1_search_55 rfl rfl ?_
              refine s_bipush (v := (nI 80)) hX dX1_search_56 (by decide) ?_
              refine s_icmp_ge (tgt := 108) hX dX1_search_58 (by decide) (fun c58 => ?_) (fun c58 => ?_)
              · replace c58 := (nI_leI (by omega) (by omega)).mp c58
                refine s_iconst (v := (-1)) hX dX1_search_108 (by decide) ?_
                exact s_iret hX hR dX1_search_109 hf_47
              · replace c58 := mt (nI_leI (by omega) (by omega)).mpr c58
                refine s_aload_n (k := 0) hX dX1_search_61 rfl rfl ?_
                refine s_get hX fX1_18 oC30 rfl dX1_search_62 ?_
                refine s_iload_n (k := 3) hX dX1_search_65 rfl rfl ?_
                refine s_ialdN hX aC33 (by omega) dX1_search_66 ?_
                refine s_topi (fun x4_5 ex4_5 => ?_)
                refine s_istore (lv' := [(0, .ref (ad 30)), (1, .ref (ad b)), (2, .int v2), (3, .int (nI i47)), (4, .int x4_5)]) hX dX1_search_67 (by decide) rfl ?_
                refine s_iload (k := 4) hX dX1_search_69 rfl ?_
                refine s_bipush (v := (nI 40)) hX dX1_search_71 (by decide) ?_
                refine s_icmp_ge (tgt := 85) hX dX1_search_73 (by decide) (fun c73 => ?_) (fun c73 => ?_)
                · replace c73 := (q_ge (by omega)).mp c73
                  refine s_aload_n (k := 0) hX dX1_search_85 rfl rfl ?_
                  refine s_aload_n (k := 1) hX dX1_search_86 rfl rfl ?_
                  refine s_iload_n (k := 2) hX dX1_search_87 rfl rfl ?_
                  refine s_iload (k := 4) hX dX1_search_88 rfl ?_
                  refine s_bipush (v := (nI 40)) hX dX1_search_90 (by decide) ?_
                  refine s_isub hX dX1_search_92 ?_
                  refine s_callVi hX (s_X1_leave b hb _ _ M47) mX1_leave lX1_52 (by decide) (by decide) oC30 rfl rfl rfl rfl rfl (Nat.le_of_ble_eq_true rfl) dX1_search_93 (fun r93 M_6 hp93 => ?_)
                  obtain ⟨hz93, hq93⟩ := hp93
                  have hfM_6 : ∀ a, a ≠ 30 → a ≠ 32 → a ≠ 33 → M_6 a = M a := fun a q0 q1 q2 => (hq93 a (by omega) (by omega) (by omega)).trans (hf_47 a q0 q1 q2)
                  refine s_if_eq (tgt := 102) hX dX1_search_96 (by decide) (fun c96 => ?_) (fun c96 => ?_)
                  · replace c96 := z_eq.mp c96
                    refine s_iinc (k := 3) (v := nI (i47 + 1)) (lv' := [(0, .ref (ad 30)), (1, .ref (ad b)), (2, .int v2), (4, .int x4_5), (3, .int (nI (i47 + 1)))]) hX dX1_search_102 (nI_1 _) (by decide) rfl rfl ?_
                    refine s_goto (tgt := 47) hX dX1_search_105 (by decide) ?_
                    refine s_loc [0, 1, 2, 4] rfl ?_
                    exact ih47 _ _ (by omega) (by omega) hfM_6
                  · replace c96 := mt z_eq.mpr c96
                    refine s_iload (k := 4) hX dX1_search_99 rfl ?_
                    exact s_iret hX hR dX1_search_101 hfM_6
                · replace c73 := mt (q_ge (by omega)).mpr c73
                  refine s_aload_n (k := 0) hX dX1_search_76 rfl rfl ?_
                  refine s_iload (k := 4) hX dX1_search_77 rfl ?_
                  refine s_callVv hX (s_X1_comeOn _ M47) mX1_comeOn lX1_49 (by decide) (by decide) oC30 rfl rfl rfl rfl rfl (Nat.le_of_ble_eq_true rfl) dX1_search_79 (fun M_7 hp79 => ?_)
                  have hfM_7 : ∀ a, a ≠ 30 → a ≠ 32 → a ≠ 33 → M_7 a = M a := fun a q0 q1 q2 => (hp79 a (by omega) (by omega) (by omega)).trans (hf_47 a q0 q1 q2)
                  refine s_goto (tgt := 102) hX dX1_search_82 (by decide) ?_
                  refine s_iinc (k := 3) (v := nI (i47 + 1)) (lv' := [(0, .ref (ad 30)), (1, .ref (ad b)), (2, .int v2), (4, .int x4_5), (3, .int (nI (i47 + 1)))]) hX dX1_search_102 (nI_1 _) (by decide) rfl rfl ?_
                  refine s_goto (tgt := 47) hX dX1_search_105 (by decide) ?_
                  refine s_loc [0, 1, 2, 4] rfl ?_
                  exact ih47 _ _ (by omega) (by omega) hfM_7
        exact lp47 (80 + 1) _ _ (by omega) (by omega) hf_15
      · replace c18 := mt (nI_leI (by omega) (by omega)).mpr c18
        refine s_aload_n (k := 1) hX dX1_search_21 rfl rfl ?_
        refine s_bipush (v := (nI 40)) hX dX1_search_22 (by decide) ?_
        refine s_iload_n (k := 3) hX dX1_search_24 rfl rfl ?_
        refine s_iload_n (k := 2) hX dX1_search_25 rfl rfl ?_
        refine s_callVi hX (s_X2_isStep b hb _ _ _ M15) mX2_isStep lX1_39 (by decide) (by decide) (oF hb) rfl rfl rfl rfl rfl (Nat.le_of_ble_eq_true rfl) dX1_search_26 (fun r26 M_8 hp26 => ?_)
        obtain ⟨hz26, hq26⟩ := hp26
        subst hq26
        refine s_if_eq (tgt := 39) hX dX1_search_29 (by decide) (fun c29 => ?_) (fun c29 => ?_)
        · replace c29 := z_eq.mp c29
          refine s_iinc (k := 3) (v := nI (i15 + 1)) (lv' := [(0, .ref (ad 30)), (1, .ref (ad b)), (2, .int v2), (3, .int (nI (i15 + 1)))]) hX dX1_search_39 (nI_1 _) (by decide) rfl rfl ?_
          refine s_goto (tgt := 15) hX dX1_search_42 (by decide) ?_
          exact ih15 _ _ (by omega) (by omega) hf_15
        · replace c29 := mt z_eq.mpr c29
          refine s_aload_n (k := 0) hX dX1_search_32 rfl rfl ?_
          refine s_iload_n (k := 3) hX dX1_search_33 rfl rfl ?_
          refine s_bipush (v := (-2)) hX dX1_search_34 (by decide) ?_
          refine s_callVv hX (s_X1_reach _ _ M15) mX1_reach lX1_45 (by decide) (by decide) oC30 rfl rfl rfl rfl rfl (Nat.le_of_ble_eq_true rfl) dX1_search_36 (fun M_9 hp36 => ?_)
          have hfM_9 : ∀ a, a ≠ 30 → a ≠ 32 → a ≠ 33 → M_9 a = M a := fun a q0 q1 q2 => (hp36 a (by omega) (by omega) (by omega)).trans (hf_15 a q0 q1 q2)
          refine s_iinc (k := 3) (v := nI (i15 + 1)) (lv' := [(0, .ref (ad 30)), (1, .ref (ad b)), (2, .int v2), (3, .int (nI (i15 + 1)))]) hX dX1_search_39 (nI_1 _) (by decide) rfl rfl ?_
          refine s_goto (tgt := 15) hX dX1_search_42 (by decide) ?_
          exact ih15 _ _ (by omega) (by omega) hfM_9
  exact lp15 (40 + 1) _ _ (by omega) (by omega) hfM_2
set_option maxHeartbeats 4000000 in
theorem s_X1_fewest (b : Nat) (hb : isF b) (v2 : Int32) (M : Mem) : AM yX1_fewest cX1_fewest 5 (some .int) 5 60 glC (fun ad => [.ref (ad 30), .ref (ad b), .int v2]) M (PI (fun _ M' => ∀ a, a ≠ 30 → a ≠ 31 → a ≠ 32 → a ≠ 33 → M' a = M a)) := by
  refine AM.of (by decide) (fun _ => Nat.le_of_ble_eq_true rfl) (fun X ad cI cZ cB hX hR => ?_)
  show V X M [(0, .ref (ad 30)), (1, .ref (ad b)), (2, .int v2)] [] 0
  have hb0 : b = 1 ∨ b = 7 ∨ b = 13 := hb
  have hf_0 : ∀ a, a ≠ 30 → a ≠ 31 → a ≠ 32 → a ≠ 33 → M a = M a := fun _ _ _ _ _ => rfl
  refine s_aload_n (k := 0) hX dX1_fewest_0 rfl rfl ?_
  refine s_get hX fX1_9 oC30 rfl dX1_fewest_1 ?_
  refine s_iconst (v := (-1)) hX dX1_fewest_4 (by decide) ?_
  refine s_callSv hX (s_J7_fill_53178 31 40 aC31 (by decide) _ M) mJ7_fill_53178 lX1_25 (by decide) (by decide) rfl rfl (Nat.le_of_ble_eq_true rfl) dX1_fewest_5 (fun M_1 hp5 => ?_)
  have hfM_1 : ∀ a, a ≠ 30 → a ≠ 31 → a ≠ 32 → a ≠ 33 → M_1 a = M a := fun a q0 q1 q2 q3 => (hp5 a (by omega)).trans (hf_0 a q0 q1 q2 q3)
  refine s_iconst (v := (nI 0)) hX dX1_fewest_8 (by decide) ?_
  refine s_istore_n (lv' := [(0, .ref (ad 30)), (1, .ref (ad b)), (2, .int v2), (3, .int (nI 0))]) hX dX1_fewest_9 rfl (by decide) rfl ?_
  have lp10 : ∀ (N10 : Nat) (i10 : Nat) (M10 : Mem), (i10 ≤ 40) → (40 < i10 + N10) → (∀ a, a ≠ 30 → a ≠ 31 → a ≠ 32 → a ≠ 33 → M10 a = M a) → V X M10 [(0, .ref (ad 30)), (1, .ref (ad b)), (2, .int v2), (3, .int (nI i10))] [] 10 := by
    intro N10
    induction N10 with
    | zero => intro i10 M10 hi10 hN10 hf_10; exact absurd hN10 (by omega)
    | succ N10 ih10 =>
      intro i10 M10 hi10 hN10 hf_10
      refine s_iload_n (k := 3) hX dX1_fewest_10 rfl rfl ?_
      refine s_bipush (v := (nI 40)) hX dX1_fewest_11 (by decide) ?_
      refine s_icmp_ge (tgt := 44) hX dX1_fewest_13 (by decide) (fun c13 => ?_) (fun c13 => ?_)
      · replace c13 := (nI_leI (by omega) (by omega)).mp c13
        refine s_bipush (v := (nI 40)) hX dX1_fewest_44 (by decide) ?_
        exact s_iret hX hR dX1_fewest_46 hf_10
      · replace c13 := mt (nI_leI (by omega) (by omega)).mpr c13
        refine s_aload_n (k := 0) hX dX1_fewest_16 rfl rfl ?_
        refine s_aload_n (k := 1) hX dX1_fewest_17 rfl rfl ?_
        refine s_iload_n (k := 2) hX dX1_fewest_18 rfl rfl ?_
        refine s_callVi hX (s_X1_search b hb _ M10) mX1_search lX1_31 (by decide) (by decide) oC30 rfl rfl rfl rfl rfl (Nat.le_of_ble_eq_true rfl) dX1_fewest_19 (fun r19 M_3 hp19 => ?_)
        have hfM_3 : ∀ a, a ≠ 30 → a ≠ 31 → a ≠ 32 → a ≠ 33 → M_3 a = M a := fun a q0 q1 q2 q3 => (hp19 a (by omega) (by omega) (by omega)).trans (hf_10 a q0 q1 q2 q3)
        refine s_istore (lv' := [(0, .ref (ad 30)), (1, .ref (ad b)), (2, .int v2), (3, .int (nI i10)), (4, .int r19)]) hX dX1_fewest_22 (by decide) rfl ?_
        refine s_iload (k := 4) hX dX1_fewest_24 rfl ?_
        refine s_iconst (v := (-1)) hX dX1_fewest_26 (by decide) ?_
        refine s_icmp_ne (tgt := 32) hX dX1_fewest_27 (by decide) (fun c27 => ?_) (fun c27 => ?_)
        · refine s_aload_n (k := 0) hX dX1_fewest_32 rfl rfl ?_
          refine s_iload (k := 4) hX dX1_fewest_33 rfl ?_
          refine s_callVv hX (s_X1_weave _ M_3) mX1_weave lX1_35 (by decide) (by decide) oC30 rfl rfl rfl rfl rfl (Nat.le_of_ble_eq_true rfl) dX1_fewest_35 (fun M_5 hp35 => ?_)
          have hfM_5 : ∀ a, a ≠ 30 → a ≠ 31 → a ≠ 32 → a ≠ 33 → M_5 a = M a := fun a q0 q1 q2 q3 => (hp35 a (by omega)).trans (hfM_3 a q0 q1 q2 q3)
          refine s_iinc (k := 3) (v := nI (i10 + 1)) (lv' := [(0, .ref (ad 30)), (1, .ref (ad b)), (2, .int v2), (4, .int r19), (3, .int (nI (i10 + 1)))]) hX dX1_fewest_38 (nI_1 _) (by decide) rfl rfl ?_
          refine s_goto (tgt := 10) hX dX1_fewest_41 (by decide) ?_
          refine s_loc [0, 1, 2, 4] rfl ?_
          exact ih10 _ _ (by omega) (by omega) hfM_5
        · refine s_iload_n (k := 3) hX dX1_fewest_30 rfl rfl ?_
          exact s_iret hX hR dX1_fewest_31 hfM_3
  exact lp10 (40 + 1) _ _ (by omega) (by omega) hfM_1
set_option maxHeartbeats 4000000 in
theorem s_X6_countOnLine (b : Nat) (hb : isF b) (v1 : Int32) (v2 : Int32) (M : Mem) : AM yX6_countOnLine cX6_countOnLine 7 (some .int) 1 60 glC (fun ad => [.ref (ad b), .int v1, .int v2]) M (PI (fun _ M' => M = M')) := by
  refine AM.of (by decide) (fun _ => Nat.le_of_ble_eq_true rfl) (fun X ad cI cZ cB hX hR => ?_)
  show V X M [(0, .ref (ad b)), (1, .int v1), (2, .int v2)] [] 0
  have hb0 : b = 1 ∨ b = 7 ∨ b = 13 := hb
  refine s_aload_n (k := 0) hX dX6_countOnLine_0 rfl rfl ?_
  refine s_iload_n (k := 1) hX dX6_countOnLine_1 rfl rfl ?_
  refine s_callVi hX (s_X2_isTold b hb _ M) mX2_isTold lX6_34 (by decide) (by decide) (oF hb) rfl rfl rfl rfl rfl (Nat.le_of_ble_eq_true rfl) dX6_countOnLine_2 (fun r2 M_1 hp2 => ?_)
  obtain ⟨rfl, h2⟩ := hp2
  subst h2
  refine s_if_eq (tgt := 16) hX dX6_countOnLine_5 (by decide) (fun c5 => ?_) (fun c5 => ?_)
  · replace c5 := bI_eq c5
    refine s_iconst (v := (nI 0)) hX dX6_countOnLine_16 (by decide) ?_
    exact s_iret hX hR dX6_countOnLine_17 rfl
  · replace c5 := bI_ne c5
    refine s_aload_n (k := 0) hX dX6_countOnLine_8 rfl rfl ?_
    refine s_iload_n (k := 2) hX dX6_countOnLine_9 rfl rfl ?_
    refine s_callVi hX (s_X2_isTold b hb _ M) mX2_isTold lX6_34 (by decide) (by decide) (oF hb) rfl rfl rfl rfl rfl (Nat.le_of_ble_eq_true rfl) dX6_countOnLine_10 (fun r10 M_2 hp10 => ?_)
    obtain ⟨rfl, h2⟩ := hp10
    subst h2
    refine s_if_ne (tgt := 18) hX dX6_countOnLine_13 (by decide) (fun c13 => ?_) (fun c13 => ?_)
    · replace c13 := bI_ne c13
      refine s_aload_n (k := 0) hX dX6_countOnLine_18 rfl rfl ?_
      refine s_get hX fX6_38 (oF hb) rfl dX6_countOnLine_19 ?_
      refine s_iload_n (k := 2) hX dX6_countOnLine_22 rfl rfl ?_
      refine s_iald hX (aF1 hb) (vp_in_iff.mpr (by omega)) dX6_countOnLine_23 ?_
      refine s_aload_n (k := 0) hX dX6_countOnLine_24 rfl rfl ?_
      refine s_get hX fX6_38 (oF hb) rfl dX6_countOnLine_25 ?_
      refine s_iload_n (k := 1) hX dX6_countOnLine_28 rfl rfl ?_
      refine s_iald hX (aF1 hb) (vp_in_iff.mpr (by omega)) dX6_countOnLine_29 ?_
      refine s_isub hX dX6_countOnLine_30 ?_
      refine s_topi (fun x3_3 ex3_3 => ?_)
      refine s_istore_n (lv' := [(0, .ref (ad b)), (1, .int v1), (2, .int v2), (3, .int x3_3)]) hX dX6_countOnLine_31 rfl (by decide) rfl ?_
      refine s_aload_n (k := 0) hX dX6_countOnLine_32 rfl rfl ?_
      refine s_get hX fX6_42 (oF hb) rfl dX6_countOnLine_33 ?_
      refine s_iload_n (k := 2) hX dX6_countOnLine_36 rfl rfl ?_
      refine s_iald hX (aF2 hb) (vp_in_iff.mpr (by omega)) dX6_countOnLine_37 ?_
      refine s_aload_n (k := 0) hX dX6_countOnLine_38 rfl rfl ?_
      refine s_get hX fX6_42 (oF hb) rfl dX6_countOnLine_39 ?_
      refine s_iload_n (k := 1) hX dX6_countOnLine_42 rfl rfl ?_
      refine s_iald hX (aF2 hb) (vp_in_iff.mpr (by omega)) dX6_countOnLine_43 ?_
      refine s_isub hX dX6_countOnLine_44 ?_
      refine s_topi (fun x4_4 ex4_4 => ?_)
      refine s_istore (lv' := [(0, .ref (ad b)), (1, .int v1), (2, .int v2), (3, .int x3_3), (4, .int x4_4)]) hX dX6_countOnLine_45 (by decide) rfl ?_
      refine s_iconst (v := (nI 0)) hX dX6_countOnLine_47 (by decide) ?_
      refine s_istore (lv' := [(0, .ref (ad b)), (1, .int v1), (2, .int v2), (3, .int x3_3), (4, .int x4_4), (5, .int (nI 0))]) hX dX6_countOnLine_48 (by decide) rfl ?_
      refine s_iconst (v := (nI 0)) hX dX6_countOnLine_50 (by decide) ?_
      refine s_istore (lv' := [(0, .ref (ad b)), (1, .int v1), (2, .int v2), (3, .int x3_3), (4, .int x4_4), (5, .int (nI 0)), (6, .int (nI 0))]) hX dX6_countOnLine_51 (by decide) rfl ?_
      have lp53 : ∀ (N53 : Nat) (i53 : Nat) (y5_53 : Int32), (i53 ≤ 40) → (40 < i53 + N53) → V X M [(0, .ref (ad b)), (1, .int v1), (2, .int v2), (3, .int x3_3), (4, .int x4_4), (5, .int y5_53), (6, .int (nI i53))] [] 53 := by
        intro N53
        induction N53 with
        | zero => intro i53 y5_53 hi53 hN53; exact absurd hN53 (by omega)
        | succ N53 ih53 =>
          intro i53 y5_53 hi53 hN53
          refine s_iload (k := 6) hX dX6_countOnLine_53 rfl ?_
          refine s_bipush (v := (nI 40)) hX dX6_countOnLine_55 (by decide) ?_
          refine s_icmp_ge (tgt := 115) hX dX6_countOnLine_57 (by decide) (fun c57 => ?_) (fun c57 => ?_)
          · replace c57 := (nI_leI (by omega) (by omega)).mp c57
            refine s_iload (k := 5) hX dX6_countOnLine_115 rfl ?_
            exact s_iret hX hR dX6_countOnLine_117 rfl
          · replace c57 := mt (nI_leI (by omega) (by omega)).mpr c57
            refine s_aload_n (k := 0) hX dX6_countOnLine_60 rfl rfl ?_
            refine s_get hX fX6_21 (oF hb) rfl dX6_countOnLine_61 ?_
            refine s_iload (k := 6) hX dX6_countOnLine_64 rfl ?_
            refine s_zaldN hX (aF4 hb) (by omega) dX6_countOnLine_66 ?_
            refine s_if_eq (tgt := 109) hX dX6_countOnLine_67 (by decide) (fun c67 => ?_) (fun c67 => ?_)
            · replace c67 := z_eq.mp c67
              refine s_iinc (k := 6) (v := nI (i53 + 1)) (lv' := [(0, .ref (ad b)), (1, .int v1), (2, .int v2), (3, .int x3_3), (4, .int x4_4), (5, .int y5_53), (6, .int (nI (i53 + 1)))]) hX dX6_countOnLine_109 (nI_1 _) (by decide) rfl rfl ?_
              refine s_goto (tgt := 53) hX dX6_countOnLine_112 (by decide) ?_
              exact ih53 _ _ (by omega) (by omega)
            · replace c67 := mt z_eq.mpr c67
              refine s_iload_n (k := 3) hX dX6_countOnLine_70 rfl rfl ?_
              refine s_aload_n (k := 0) hX dX6_countOnLine_71 rfl rfl ?_
              refine s_get hX fX6_42 (oF hb) rfl dX6_countOnLine_72 ?_
              refine s_iload (k := 6) hX dX6_countOnLine_75 rfl ?_
              refine s_ialdN hX (aF2 hb) (by omega) dX6_countOnLine_77 ?_
              refine s_aload_n (k := 0) hX dX6_countOnLine_78 rfl rfl ?_
              refine s_get hX fX6_42 (oF hb) rfl dX6_countOnLine_79 ?_
              refine s_iload_n (k := 1) hX dX6_countOnLine_82 rfl rfl ?_
              refine s_iald hX (aF2 hb) (vp_in_iff.mpr (by omega)) dX6_countOnLine_83 ?_
              refine s_isub hX dX6_countOnLine_84 ?_
              refine s_imul hX dX6_countOnLine_85 ?_
              refine s_iload (k := 4) hX dX6_countOnLine_86 rfl ?_
              refine s_aload_n (k := 0) hX dX6_countOnLine_88 rfl rfl ?_
              refine s_get hX fX6_38 (oF hb) rfl dX6_countOnLine_89 ?_
              refine s_iload (k := 6) hX dX6_countOnLine_92 rfl ?_
              refine s_ialdN hX (aF1 hb) (by omega) dX6_countOnLine_94 ?_
              refine s_aload_n (k := 0) hX dX6_countOnLine_95 rfl rfl ?_
              refine s_get hX fX6_38 (oF hb) rfl dX6_countOnLine_96 ?_
              refine s_iload_n (k := 1) hX dX6_countOnLine_99 rfl rfl ?_
              refine s_iald hX (aF1 hb) (vp_in_iff.mpr (by omega)) dX6_countOnLine_100 ?_
              refine s_isub hX dX6_countOnLine_101 ?_
              refine s_imul hX dX6_countOnLine_102 ?_
              refine s_icmp_ne (tgt := 109) hX dX6_countOnLine_103 (by decide) (fun c103 => ?_) (fun c103 => ?_)
              · refine s_iinc (k := 6) (v := nI (i53 + 1)) (lv' := [(0, .ref (ad b)), (1, .int v1), (2, .int v2), (3, .int x3_3), (4, .int x4_4), (5, .int y5_53), (6, .int (nI (i53 + 1)))]) hX dX6_countOnLine_109 (nI_1 _) (by decide) rfl rfl ?_
                refine s_goto (tgt := 53) hX dX6_countOnLine_112 (by decide) ?_
                exact ih53 _ _ (by omega) (by omega)
              · obtain ⟨x5_7, ex5_7⟩ : ∃ z : Int32, z = y5_53 + Int32.ofInt (1) := ⟨_, rfl⟩
                refine s_iinc (k := 5) (v := x5_7) (lv' := [(0, .ref (ad b)), (1, .int v1), (2, .int v2), (3, .int x3_3), (4, .int x4_4), (6, .int (nI i53)), (5, .int x5_7)]) hX dX6_countOnLine_106 ex5_7.symm (by decide) rfl rfl ?_
                refine s_iinc (k := 5) (v := nI (i53 + 1)) (lv' := [(0, .ref (ad b)), (1, .int v1), (2, .int v2), (3, .int x3_3), (4, .int x4_4), (5, .int x5_7), (6, .int (nI (i53 + 1)))]) hX dX6_countOnLine_109 (nI_1 _) (by decide) rfl rfl ?_
                refine s_goto (tgt := 53) hX dX6_countOnLine_112 (by decide) ?_
                exact ih53 _ _ (by omega) (by omega)
      exact lp53 (40 + 1) _ _ (by omega) (by omega)
    · replace c13 := bI_eq c13
      refine s_iconst (v := (nI 0)) hX dX6_countOnLine_16 (by decide) ?_
      exact s_iret hX hR dX6_countOnLine_17 rfl
set_option maxHeartbeats 4000000 in
theorem s_X6_line (b : Nat) (hb : isF b) (M : Mem) : AM yX6_line cX6_line 4 (some .int) 2 60 glC (fun ad => [.ref (ad b)]) M (PI (fun _ M' => M = M')) := by
  refine AM.of (by decide) (fun _ => Nat.le_of_ble_eq_true rfl) (fun X ad cI cZ cB hX hR => ?_)
  show V X M [(0, .ref (ad b))] [] 0
  have hb0 : b = 1 ∨ b = 7 ∨ b = 13 := hb
  refine s_iconst (v := (nI 2)) hX dX6_line_0 (by decide) ?_
  refine s_aload_n (k := 0) hX dX6_line_1 rfl rfl ?_
  refine s_callVi hX (s_X2_countTold b hb M) mX2_countTold lX6_9 (by decide) (by decide) (oF hb) rfl rfl rfl rfl rfl (Nat.le_of_ble_eq_true rfl) dX6_line_2 (fun r2 M_1 hp2 => ?_)
  subst hp2
  refine s_mmin hX lX6_15 mJ9_min (by decide) (Nat.le_of_ble_eq_true rfl) dX6_line_5 ?_
  refine s_topi (fun x1_2 ex1_2 => ?_)
  refine s_istore_n (lv' := [(0, .ref (ad b)), (1, .int x1_2)]) hX dX6_line_8 rfl (by decide) rfl ?_
  refine s_iconst (v := (nI 0)) hX dX6_line_9 (by decide) ?_
  refine s_istore_n (lv' := [(0, .ref (ad b)), (1, .int x1_2), (2, .int (nI 0))]) hX dX6_line_10 rfl (by decide) rfl ?_
  have lp11 : ∀ (N11 : Nat) (i11 : Nat) (y1_11 : Int32), (i11 ≤ 40) → (40 < i11 + N11) → V X M [(0, .ref (ad b)), (1, .int y1_11), (2, .int (nI i11))] [] 11 := by
    intro N11
    induction N11 with
    | zero => intro i11 y1_11 hi11 hN11; exact absurd hN11 (by omega)
    | succ N11 ih11 =>
      intro i11 y1_11 hi11 hN11
      refine s_iload_n (k := 2) hX dX6_line_11 rfl rfl ?_
      refine s_bipush (v := (nI 40)) hX dX6_line_12 (by decide) ?_
      refine s_icmp_ge (tgt := 68) hX dX6_line_14 (by decide) (fun c14 => ?_) (fun c14 => ?_)
      · replace c14 := (nI_leI (by omega) (by omega)).mp c14
        refine s_iload_n (k := 1) hX dX6_line_68 rfl rfl ?_
        exact s_iret hX hR dX6_line_69 rfl
      · replace c14 := mt (nI_leI (by omega) (by omega)).mpr c14
        refine s_iload_n (k := 2) hX dX6_line_17 rfl rfl ?_
        refine s_iconst (v := (nI 1)) hX dX6_line_18 (by decide) ?_
        refine s_iadd hX dX6_line_19 ?_
        refine s_top (y := nI (i11 + 1)) (nI_add _ _) ?_
        refine s_istore_n (lv' := [(0, .ref (ad b)), (1, .int y1_11), (2, .int (nI i11)), (3, .int (nI (i11 + 1)))]) hX dX6_line_20 rfl (by decide) rfl ?_
        have lp21 : ∀ (N21 : Nat) (i21 : Nat) (y1_21 : Int32), (i21 ≤ 40) → (40 < i21 + N21) → V X M [(0, .ref (ad b)), (1, .int y1_21), (2, .int (nI i11)), (3, .int (nI i21))] [] 21 := by
          intro N21
          induction N21 with
          | zero => intro i21 y1_21 hi21 hN21; exact absurd hN21 (by omega)
          | succ N21 ih21 =>
            intro i21 y1_21 hi21 hN21
            refine s_iload_n (k := 3) hX dX6_line_21 rfl rfl ?_
            refine s_bipush (v := (nI 40)) hX dX6_line_22 (by decide) ?_
            refine s_icmp_ge (tgt := 62) hX dX6_line_24 (by decide) (fun c24 => ?_) (fun c24 => ?_)
            · replace c24 := (nI_leI (by omega) (by omega)).mp c24
              refine s_iinc (k := 2) (v := nI (i11 + 1)) (lv' := [(0, .ref (ad b)), (1, .int y1_21), (3, .int (nI i21)), (2, .int (nI (i11 + 1)))]) hX dX6_line_62 (nI_1 _) (by decide) rfl rfl ?_
              refine s_goto (tgt := 11) hX dX6_line_65 (by decide) ?_
              refine s_loc [0, 1, 3] rfl ?_
              exact ih11 _ _ (by omega) (by omega)
            · replace c24 := mt (nI_leI (by omega) (by omega)).mpr c24
              refine s_aload_n (k := 0) hX dX6_line_27 rfl rfl ?_
              refine s_get hX fX6_21 (oF hb) rfl dX6_line_28 ?_
              refine s_iload_n (k := 2) hX dX6_line_31 rfl rfl ?_
              refine s_zaldN hX (aF4 hb) (by omega) dX6_line_32 ?_
              refine s_if_eq (tgt := 56) hX dX6_line_33 (by decide) (fun c33 => ?_) (fun c33 => ?_)
              · replace c33 := z_eq.mp c33
                refine s_iinc (k := 3) (v := nI (i21 + 1)) (lv' := [(0, .ref (ad b)), (1, .int y1_21), (2, .int (nI i11)), (3, .int (nI (i21 + 1)))]) hX dX6_line_56 (nI_1 _) (by decide) rfl rfl ?_
                refine s_goto (tgt := 21) hX dX6_line_59 (by decide) ?_
                exact ih21 _ _ (by omega) (by omega)
              · replace c33 := mt z_eq.mpr c33
                refine s_aload_n (k := 0) hX dX6_line_36 rfl rfl ?_
                refine s_get hX fX6_21 (oF hb) rfl dX6_line_37 ?_
                refine s_iload_n (k := 3) hX dX6_line_40 rfl rfl ?_
                refine s_zaldN hX (aF4 hb) (by omega) dX6_line_41 ?_
                refine s_if_eq (tgt := 56) hX dX6_line_42 (by decide) (fun c42 => ?_) (fun c42 => ?_)
                · replace c42 := z_eq.mp c42
                  refine s_iinc (k := 3) (v := nI (i21 + 1)) (lv' := [(0, .ref (ad b)), (1, .int y1_21), (2, .int (nI i11)), (3, .int (nI (i21 + 1)))]) hX dX6_line_56 (nI_1 _) (by decide) rfl rfl ?_
                  refine s_goto (tgt := 21) hX dX6_line_59 (by decide) ?_
                  exact ih21 _ _ (by omega) (by omega)
                · replace c42 := mt z_eq.mpr c42
                  refine s_iload_n (k := 1) hX dX6_line_45 rfl rfl ?_
                  refine s_aload_n (k := 0) hX dX6_line_46 rfl rfl ?_
                  refine s_iload_n (k := 2) hX dX6_line_47 rfl rfl ?_
                  refine s_iload_n (k := 3) hX dX6_line_48 rfl rfl ?_
                  refine s_callSi hX (s_X6_countOnLine b hb _ _ M) mX6_countOnLine lX6_25 (by decide) (by decide) rfl rfl (Nat.le_of_ble_eq_true rfl) dX6_line_49 (fun r49 M_5 hp49 => ?_)
                  subst hp49
                  refine s_mmax hX lX6_31 mJ9_max (by decide) (Nat.le_of_ble_eq_true rfl) dX6_line_52 ?_
                  refine s_topi (fun x1_6 ex1_6 => ?_)
                  refine s_istore_n (lv' := [(0, .ref (ad b)), (2, .int (nI i11)), (3, .int (nI i21)), (1, .int x1_6)]) hX dX6_line_55 rfl (by decide) rfl ?_
                  refine s_iinc (k := 2) (v := nI (i21 + 1)) (lv' := [(0, .ref (ad b)), (2, .int (nI i11)), (1, .int x1_6), (3, .int (nI (i21 + 1)))]) hX dX6_line_56 (nI_1 _) (by decide) rfl rfl ?_
                  refine s_goto (tgt := 21) hX dX6_line_59 (by decide) ?_
                  refine s_loc [0, 2, 1, 3] rfl ?_
                  exact ih21 _ _ (by omega) (by omega)
        exact lp21 (40 + 1) _ _ (by omega) (by omega)
  exact lp11 (40 + 1) _ _ (by omega) (by omega)
set_option maxHeartbeats 4000000 in
theorem s_X6_yardApart (b : Nat) (hb : isF b) (M : Mem) : AM yX6_yardApart cX6_yardApart 4 (some .int) 1 60 glC (fun ad => [.ref (ad b)]) M (PI (fun _ M' => M = M')) := by
  refine AM.of (by decide) (fun _ => Nat.le_of_ble_eq_true rfl) (fun X ad cI cZ cB hX hR => ?_)
  show V X M [(0, .ref (ad b))] [] 0
  have hb0 : b = 1 ∨ b = 7 ∨ b = 13 := hb
  refine s_iconst (v := (nI 0)) hX dX6_yardApart_0 (by decide) ?_
  refine s_istore_n (lv' := [(0, .ref (ad b)), (1, .int (nI 0))]) hX dX6_yardApart_1 rfl (by decide) rfl ?_
  refine s_iconst (v := (nI 0)) hX dX6_yardApart_2 (by decide) ?_
  refine s_istore_n (lv' := [(0, .ref (ad b)), (1, .int (nI 0)), (2, .int (nI 0))]) hX dX6_yardApart_3 rfl (by decide) rfl ?_
  have lp4 : ∀ (N4 : Nat) (i4 : Nat) (y1_4 : Int32), (i4 ≤ 40) → (40 < i4 + N4) → V X M [(0, .ref (ad b)), (1, .int y1_4), (2, .int (nI i4))] [] 4 := by
    intro N4
    induction N4 with
    | zero => intro i4 y1_4 hi4 hN4; exact absurd hN4 (by omega)
    | succ N4 ih4 =>
      intro i4 y1_4 hi4 hN4
      refine s_iload_n (k := 2) hX dX6_yardApart_4 rfl rfl ?_
      refine s_bipush (v := (nI 40)) hX dX6_yardApart_5 (by decide) ?_
      refine s_icmp_ge (tgt := 67) hX dX6_yardApart_7 (by decide) (fun c7 => ?_) (fun c7 => ?_)
      · replace c7 := (nI_leI (by omega) (by omega)).mp c7
        refine s_iload_n (k := 1) hX dX6_yardApart_67 rfl rfl ?_
        exact s_iret hX hR dX6_yardApart_68 rfl
      · replace c7 := mt (nI_leI (by omega) (by omega)).mpr c7
        refine s_aload_n (k := 0) hX dX6_yardApart_10 rfl rfl ?_
        refine s_get hX fX6_21 (oF hb) rfl dX6_yardApart_11 ?_
        refine s_iload_n (k := 2) hX dX6_yardApart_14 rfl rfl ?_
        refine s_zaldN hX (aF4 hb) (by omega) dX6_yardApart_15 ?_
        refine s_if_eq (tgt := 61) hX dX6_yardApart_16 (by decide) (fun c16 => ?_) (fun c16 => ?_)
        · replace c16 := z_eq.mp c16
          refine s_iinc (k := 2) (v := nI (i4 + 1)) (lv' := [(0, .ref (ad b)), (1, .int y1_4), (2, .int (nI (i4 + 1)))]) hX dX6_yardApart_61 (nI_1 _) (by decide) rfl rfl ?_
          refine s_goto (tgt := 4) hX dX6_yardApart_64 (by decide) ?_
          exact ih4 _ _ (by omega) (by omega)
        · replace c16 := mt z_eq.mpr c16
          refine s_iconst (v := (nI 1)) hX dX6_yardApart_19 (by decide) ?_
          refine s_istore_n (lv' := [(0, .ref (ad b)), (1, .int y1_4), (2, .int (nI i4)), (3, .int (nI 1))]) hX dX6_yardApart_20 rfl (by decide) rfl ?_
          have lp21 : ∀ (N21 : Nat) (i21 : Nat), (i21 ≤ 20) → (20 < i21 + N21) → V X M [(0, .ref (ad b)), (1, .int y1_4), (2, .int (nI i4)), (3, .int (nI i21))] [] 21 := by
            intro N21
            induction N21 with
            | zero => intro i21 hi21 hN21; exact absurd hN21 (by omega)
            | succ N21 ih21 =>
              intro i21 hi21 hN21
              refine s_iload_n (k := 3) hX dX6_yardApart_21 rfl rfl ?_
              refine s_bipush (v := (nI 20)) hX dX6_yardApart_22 (by decide) ?_
              refine s_icmp_ge (tgt := 55) hX dX6_yardApart_24 (by decide) (fun c24 => ?_) (fun c24 => ?_)
              · replace c24 := (nI_leI (by omega) (by omega)).mp c24
                refine s_iload_n (k := 1) hX dX6_yardApart_55 rfl rfl ?_
                refine s_iload_n (k := 3) hX dX6_yardApart_56 rfl rfl ?_
                refine s_mmax hX lX6_31 mJ9_max (by decide) (Nat.le_of_ble_eq_true rfl) dX6_yardApart_57 ?_
                refine s_topi (fun x1_4 ex1_4 => ?_)
                refine s_istore_n (lv' := [(0, .ref (ad b)), (2, .int (nI i4)), (3, .int (nI i21)), (1, .int x1_4)]) hX dX6_yardApart_60 rfl (by decide) rfl ?_
                refine s_iinc (k := 1) (v := nI (i4 + 1)) (lv' := [(0, .ref (ad b)), (3, .int (nI i21)), (1, .int x1_4), (2, .int (nI (i4 + 1)))]) hX dX6_yardApart_61 (nI_1 _) (by decide) rfl rfl ?_
                refine s_goto (tgt := 4) hX dX6_yardApart_64 (by decide) ?_
                refine s_loc [0, 2, 3] rfl ?_
                exact ih4 _ _ (by omega) (by omega)
              · replace c24 := mt (nI_leI (by omega) (by omega)).mpr c24
                refine s_aload_n (k := 0) hX dX6_yardApart_27 rfl rfl ?_
                refine s_aload_n (k := 0) hX dX6_yardApart_28 rfl rfl ?_
                refine s_get hX fX6_38 (oF hb) rfl dX6_yardApart_29 ?_
                refine s_iload_n (k := 2) hX dX6_yardApart_32 rfl rfl ?_
                refine s_ialdN hX (aF1 hb) (by omega) dX6_yardApart_33 ?_
                refine s_aload_n (k := 0) hX dX6_yardApart_34 rfl rfl ?_
                refine s_get hX fX6_42 (oF hb) rfl dX6_yardApart_35 ?_
                refine s_iload_n (k := 2) hX dX6_yardApart_38 rfl rfl ?_
                refine s_ialdN hX (aF2 hb) (by omega) dX6_yardApart_39 ?_
                refine s_iload_n (k := 3) hX dX6_yardApart_40 rfl rfl ?_
                refine s_iadd hX dX6_yardApart_41 ?_
                refine s_callVi hX (s_X2_stoneAt b hb _ _ M) mX2_stoneAt lX6_45 (by decide) (by decide) (oF hb) rfl rfl rfl rfl rfl (Nat.le_of_ble_eq_true rfl) dX6_yardApart_42 (fun r42 M_5 hp42 => ?_)
                subst hp42
                refine s_iconst (v := (-1)) hX dX6_yardApart_45 (by decide) ?_
                refine s_icmp_eq (tgt := 55) hX dX6_yardApart_46 (by decide) (fun c46 => ?_) (fun c46 => ?_)
                · refine s_iload_n (k := 1) hX dX6_yardApart_55 rfl rfl ?_
                  refine s_iload_n (k := 3) hX dX6_yardApart_56 rfl rfl ?_
                  refine s_mmax hX lX6_31 mJ9_max (by decide) (Nat.le_of_ble_eq_true rfl) dX6_yardApart_57 ?_
                  refine s_topi (fun x1_6 ex1_6 => ?_)
                  refine s_istore_n (lv' := [(0, .ref (ad b)), (2, .int (nI i4)), (3, .int (nI i21)), (1, .int x1_6)]) hX dX6_yardApart_60 rfl (by decide) rfl ?_
                  refine s_iinc (k := 1) (v := nI (i4 + 1)) (lv' := [(0, .ref (ad b)), (3, .int (nI i21)), (1, .int x1_6), (2, .int (nI (i4 + 1)))]) hX dX6_yardApart_61 (nI_1 _) (by decide) rfl rfl ?_
                  refine s_goto (tgt := 4) hX dX6_yardApart_64 (by decide) ?_
                  refine s_loc [0, 2, 3] rfl ?_
                  exact ih4 _ _ (by omega) (by omega)
                · refine s_iinc (k := 3) (v := nI (i21 + 1)) (lv' := [(0, .ref (ad b)), (1, .int y1_4), (2, .int (nI i4)), (3, .int (nI (i21 + 1)))]) hX dX6_yardApart_49 (nI_1 _) (by decide) rfl rfl ?_
                  refine s_goto (tgt := 21) hX dX6_yardApart_52 (by decide) ?_
                  exact ih21 _ (by omega) (by omega)
          exact lp21 (20 + 1) _ (by omega) (by omega)
  exact lp4 (40 + 1) _ _ (by omega) (by omega)
set_option maxHeartbeats 4000000 in
theorem s_X6_nearest (b : Nat) (hb : isF b) (v1 : Int32) (M : Mem) : AM yX6_nearest cX6_nearest 4 (some .int) 2 60 glC (fun ad => [.ref (ad b), .int v1]) M (PI (fun _ M' => M = M')) := by
  refine AM.of (by decide) (fun _ => Nat.le_of_ble_eq_true rfl) (fun X ad cI cZ cB hX hR => ?_)
  show V X M [(0, .ref (ad b)), (1, .int v1)] [] 0
  have hb0 : b = 1 ∨ b = 7 ∨ b = 13 := hb
  refine s_iconst (v := (-1)) hX dX6_nearest_0 (by decide) ?_
  refine s_istore_n (lv' := [(0, .ref (ad b)), (1, .int v1), (2, .int (-1))]) hX dX6_nearest_1 rfl (by decide) rfl ?_
  refine s_iconst (v := (nI 0)) hX dX6_nearest_2 (by decide) ?_
  refine s_istore_n (lv' := [(0, .ref (ad b)), (1, .int v1), (2, .int (-1)), (3, .int (nI 0))]) hX dX6_nearest_3 rfl (by decide) rfl ?_
  have lp4 : ∀ (N4 : Nat) (i4 : Nat) (y2_4 : Int32), (i4 ≤ 40) → (40 < i4 + N4) → V X M [(0, .ref (ad b)), (1, .int v1), (2, .int y2_4), (3, .int (nI i4))] [] 4 := by
    intro N4
    induction N4 with
    | zero => intro i4 y2_4 hi4 hN4; exact absurd hN4 (by omega)
    | succ N4 ih4 =>
      intro i4 y2_4 hi4 hN4
      refine s_iload_n (k := 3) hX dX6_nearest_4 rfl rfl ?_
      refine s_bipush (v := (nI 40)) hX dX6_nearest_5 (by decide) ?_
      refine s_icmp_ge (tgt := 60) hX dX6_nearest_7 (by decide) (fun c7 => ?_) (fun c7 => ?_)
      · replace c7 := (nI_leI (by omega) (by omega)).mp c7
        refine s_iload_n (k := 2) hX dX6_nearest_60 rfl rfl ?_
        exact s_iret hX hR dX6_nearest_61 rfl
      · replace c7 := mt (nI_leI (by omega) (by omega)).mpr c7
        refine s_aload_n (k := 0) hX dX6_nearest_10 rfl rfl ?_
        refine s_iload_n (k := 1) hX dX6_nearest_11 rfl rfl ?_
        refine s_callVi hX (s_X2_isTold b hb _ M) mX2_isTold lX6_34 (by decide) (by decide) (oF hb) rfl rfl rfl rfl rfl (Nat.le_of_ble_eq_true rfl) dX6_nearest_12 (fun r12 M_3 hp12 => ?_)
        obtain ⟨rfl, h2⟩ := hp12
        subst h2
        refine s_if_eq (tgt := 60) hX dX6_nearest_15 (by decide) (fun c15 => ?_) (fun c15 => ?_)
        · replace c15 := bI_eq c15
          refine s_iload_n (k := 2) hX dX6_nearest_60 rfl rfl ?_
          exact s_iret hX hR dX6_nearest_61 rfl
        · replace c15 := bI_ne c15
          refine s_iload_n (k := 3) hX dX6_nearest_18 rfl rfl ?_
          refine s_iload_n (k := 1) hX dX6_nearest_19 rfl rfl ?_
          refine s_icmp_eq (tgt := 54) hX dX6_nearest_20 (by decide) (fun c20 => ?_) (fun c20 => ?_)
          · replace c20 := (q_eq2 (by omega)).mp c20
            refine s_iinc (k := 3) (v := nI (i4 + 1)) (lv' := [(0, .ref (ad b)), (1, .int v1), (2, .int y2_4), (3, .int (nI (i4 + 1)))]) hX dX6_nearest_54 (nI_1 _) (by decide) rfl rfl ?_
            refine s_goto (tgt := 4) hX dX6_nearest_57 (by decide) ?_
            exact ih4 _ _ (by omega) (by omega)
          · replace c20 := mt (q_eq2 (by omega)).mpr c20
            refine s_aload_n (k := 0) hX dX6_nearest_23 rfl rfl ?_
            refine s_get hX fX6_21 (oF hb) rfl dX6_nearest_24 ?_
            refine s_iload_n (k := 3) hX dX6_nearest_27 rfl rfl ?_
            refine s_zaldN hX (aF4 hb) (by omega) dX6_nearest_28 ?_
            refine s_if_eq (tgt := 54) hX dX6_nearest_29 (by decide) (fun c29 => ?_) (fun c29 => ?_)
            · replace c29 := z_eq.mp c29
              refine s_iinc (k := 3) (v := nI (i4 + 1)) (lv' := [(0, .ref (ad b)), (1, .int v1), (2, .int y2_4), (3, .int (nI (i4 + 1)))]) hX dX6_nearest_54 (nI_1 _) (by decide) rfl rfl ?_
              refine s_goto (tgt := 4) hX dX6_nearest_57 (by decide) ?_
              exact ih4 _ _ (by omega) (by omega)
            · replace c29 := mt z_eq.mpr c29
              refine s_iload_n (k := 2) hX dX6_nearest_32 rfl rfl ?_
              refine s_iconst (v := (-1)) hX dX6_nearest_33 (by decide) ?_
              refine s_icmp_eq (tgt := 52) hX dX6_nearest_34 (by decide) (fun c34 => ?_) (fun c34 => ?_)
              · refine s_iload_n (k := 3) hX dX6_nearest_52 rfl rfl ?_
                refine s_istore_n (lv' := [(0, .ref (ad b)), (1, .int v1), (3, .int (nI i4)), (2, .int (nI i4))]) hX dX6_nearest_53 rfl (by decide) rfl ?_
                refine s_iinc (k := 2) (v := nI (i4 + 1)) (lv' := [(0, .ref (ad b)), (1, .int v1), (2, .int (nI i4)), (3, .int (nI (i4 + 1)))]) hX dX6_nearest_54 (nI_1 _) (by decide) rfl rfl ?_
                refine s_goto (tgt := 4) hX dX6_nearest_57 (by decide) ?_
                exact ih4 _ _ (by omega) (by omega)
              · refine s_aload_n (k := 0) hX dX6_nearest_37 rfl rfl ?_
                refine s_iload_n (k := 1) hX dX6_nearest_38 rfl rfl ?_
                refine s_iload_n (k := 3) hX dX6_nearest_39 rfl rfl ?_
                refine s_callVi hX (s_X2_squares b hb _ _ M) mX2_squares lX6_52 (by decide) (by decide) (oF hb) rfl rfl rfl rfl rfl (Nat.le_of_ble_eq_true rfl) dX6_nearest_40 (fun r40 M_5 hp40 => ?_)
                subst hp40
                refine s_aload_n (k := 0) hX dX6_nearest_43 rfl rfl ?_
                refine s_iload_n (k := 1) hX dX6_nearest_44 rfl rfl ?_
                refine s_iload_n (k := 2) hX dX6_nearest_45 rfl rfl ?_
                refine s_callVi hX (s_X2_squares b hb _ _ M) mX2_squares lX6_52 (by decide) (by decide) (oF hb) rfl rfl rfl rfl rfl (Nat.le_of_ble_eq_true rfl) dX6_nearest_46 (fun r46 M_6 hp46 => ?_)
                subst hp46
                refine s_icmp_ge (tgt := 54) hX dX6_nearest_49 (by decide) (fun c49 => ?_) (fun c49 => ?_)
                · replace c49 := Int32.le_iff_toInt_le.mp c49
                  refine s_iinc (k := 3) (v := nI (i4 + 1)) (lv' := [(0, .ref (ad b)), (1, .int v1), (2, .int y2_4), (3, .int (nI (i4 + 1)))]) hX dX6_nearest_54 (nI_1 _) (by decide) rfl rfl ?_
                  refine s_goto (tgt := 4) hX dX6_nearest_57 (by decide) ?_
                  exact ih4 _ _ (by omega) (by omega)
                · replace c49 := mt Int32.le_iff_toInt_le.mpr c49
                  refine s_iload_n (k := 3) hX dX6_nearest_52 rfl rfl ?_
                  refine s_istore_n (lv' := [(0, .ref (ad b)), (1, .int v1), (3, .int (nI i4)), (2, .int (nI i4))]) hX dX6_nearest_53 rfl (by decide) rfl ?_
                  refine s_iinc (k := 2) (v := nI (i4 + 1)) (lv' := [(0, .ref (ad b)), (1, .int v1), (2, .int (nI i4)), (3, .int (nI (i4 + 1)))]) hX dX6_nearest_54 (nI_1 _) (by decide) rfl rfl ?_
                  refine s_goto (tgt := 4) hX dX6_nearest_57 (by decide) ?_
                  exact ih4 _ _ (by omega) (by omega)
  exact lp4 (40 + 1) _ _ (by omega) (by omega)
set_option maxHeartbeats 4000000 in
theorem s_X6_pairs (b : Nat) (hb : isF b) (M : Mem) : AM yX6_pairs cX6_pairs 4 (some .int) 3 60 glC (fun ad => [.ref (ad b)]) M (PI (fun _ M' => M = M')) := by
  refine AM.of (by decide) (fun _ => Nat.le_of_ble_eq_true rfl) (fun X ad cI cZ cB hX hR => ?_)
  show V X M [(0, .ref (ad b))] [] 0
  have hb0 : b = 1 ∨ b = 7 ∨ b = 13 := hb
  refine s_iconst (v := (nI 0)) hX dX6_pairs_0 (by decide) ?_
  refine s_istore_n (lv' := [(0, .ref (ad b)), (1, .int (nI 0))]) hX dX6_pairs_1 rfl (by decide) rfl ?_
  refine s_iconst (v := (nI 0)) hX dX6_pairs_2 (by decide) ?_
  refine s_istore_n (lv' := [(0, .ref (ad b)), (1, .int (nI 0)), (2, .int (nI 0))]) hX dX6_pairs_3 rfl (by decide) rfl ?_
  have lp4 : ∀ (N4 : Nat) (i4 : Nat) (y1_4 : Int32), (i4 ≤ 40) → (40 < i4 + N4) → V X M [(0, .ref (ad b)), (1, .int y1_4), (2, .int (nI i4))] [] 4 := by
    intro N4
    induction N4 with
    | zero => intro i4 y1_4 hi4 hN4; exact absurd hN4 (by omega)
    | succ N4 ih4 =>
      intro i4 y1_4 hi4 hN4
      refine s_iload_n (k := 2) hX dX6_pairs_4 rfl rfl ?_
      refine s_bipush (v := (nI 40)) hX dX6_pairs_5 (by decide) ?_
      refine s_icmp_ge (tgt := 39) hX dX6_pairs_7 (by decide) (fun c7 => ?_) (fun c7 => ?_)
      · replace c7 := (nI_leI (by omega) (by omega)).mp c7
        refine s_iload_n (k := 1) hX dX6_pairs_39 rfl rfl ?_
        exact s_iret hX hR dX6_pairs_40 rfl
      · replace c7 := mt (nI_leI (by omega) (by omega)).mpr c7
        refine s_aload_n (k := 0) hX dX6_pairs_10 rfl rfl ?_
        refine s_iload_n (k := 2) hX dX6_pairs_11 rfl rfl ?_
        refine s_callSi hX (s_X6_nearest b hb _ M) mX6_nearest lX6_48 (by decide) (by decide) rfl rfl (Nat.le_of_ble_eq_true rfl) dX6_pairs_12 (fun r12 M_3 hp12 => ?_)
        subst hp12
        refine s_istore_n (lv' := [(0, .ref (ad b)), (1, .int y1_4), (2, .int (nI i4)), (3, .int r12)]) hX dX6_pairs_15 rfl (by decide) rfl ?_
        refine s_iload_n (k := 3) hX dX6_pairs_16 rfl rfl ?_
        refine s_iload_n (k := 2) hX dX6_pairs_17 rfl rfl ?_
        refine s_icmp_le (tgt := 33) hX dX6_pairs_18 (by decide) (fun c18 => ?_) (fun c18 => ?_)
        · replace c18 := (q_le (by omega)).mp c18
          refine s_iinc (k := 2) (v := nI (i4 + 1)) (lv' := [(0, .ref (ad b)), (1, .int y1_4), (3, .int r12), (2, .int (nI (i4 + 1)))]) hX dX6_pairs_33 (nI_1 _) (by decide) rfl rfl ?_
          refine s_goto (tgt := 4) hX dX6_pairs_36 (by decide) ?_
          refine s_loc [0, 1, 3] rfl ?_
          exact ih4 _ _ (by omega) (by omega)
        · replace c18 := mt (q_le (by omega)).mpr c18
          refine s_aload_n (k := 0) hX dX6_pairs_21 rfl rfl ?_
          refine s_iload_n (k := 3) hX dX6_pairs_22 rfl rfl ?_
          refine s_callSi hX (s_X6_nearest b hb _ M) mX6_nearest lX6_48 (by decide) (by decide) rfl rfl (Nat.le_of_ble_eq_true rfl) dX6_pairs_23 (fun r23 M_5 hp23 => ?_)
          subst hp23
          refine s_iload_n (k := 2) hX dX6_pairs_26 rfl rfl ?_
          refine s_icmp_ne (tgt := 33) hX dX6_pairs_27 (by decide) (fun c27 => ?_) (fun c27 => ?_)
          · replace c27 := mt (q_eq (by omega)).mpr c27
            refine s_iinc (k := 2) (v := nI (i4 + 1)) (lv' := [(0, .ref (ad b)), (1, .int y1_4), (3, .int r12), (2, .int (nI (i4 + 1)))]) hX dX6_pairs_33 (nI_1 _) (by decide) rfl rfl ?_
            refine s_goto (tgt := 4) hX dX6_pairs_36 (by decide) ?_
            refine s_loc [0, 1, 3] rfl ?_
            exact ih4 _ _ (by omega) (by omega)
          · replace c27 := (q_eq (by omega)).mp c27
            obtain ⟨x1_6, ex1_6⟩ : ∃ z : Int32, z = y1_4 + Int32.ofInt (1) := ⟨_, rfl⟩
            refine s_iinc (k := 1) (v := x1_6) (lv' := [(0, .ref (ad b)), (2, .int (nI i4)), (3, .int r12), (1, .int x1_6)]) hX dX6_pairs_30 ex1_6.symm (by decide) rfl rfl ?_
            refine s_iinc (k := 1) (v := nI (i4 + 1)) (lv' := [(0, .ref (ad b)), (3, .int r12), (1, .int x1_6), (2, .int (nI (i4 + 1)))]) hX dX6_pairs_33 (nI_1 _) (by decide) rfl rfl ?_
            refine s_goto (tgt := 4) hX dX6_pairs_36 (by decide) ?_
            refine s_loc [0, 2, 3] rfl ?_
            exact ih4 _ _ (by omega) (by omega)
  exact lp4 (40 + 1) _ _ (by omega) (by omega)
set_option maxHeartbeats 4000000 in
theorem s_X6_closest (b : Nat) (hb : isF b) (M : Mem) : AM yX6_closest cX6_closest 4 (some .int) 3 60 glC (fun ad => [.ref (ad b)]) M (PI (fun _ M' => M = M')) := by
  refine AM.of (by decide) (fun _ => Nat.le_of_ble_eq_true rfl) (fun X ad cI cZ cB hX hR => ?_)
  show V X M [(0, .ref (ad b))] [] 0
  have hb0 : b = 1 ∨ b = 7 ∨ b = 13 := hb
  refine s_bipush (v := (-2)) hX dX6_closest_0 (by decide) ?_
  refine s_istore_n (lv' := [(0, .ref (ad b)), (1, .int (-2))]) hX dX6_closest_2 rfl (by decide) rfl ?_
  refine s_iconst (v := (nI 0)) hX dX6_closest_3 (by decide) ?_
  refine s_istore_n (lv' := [(0, .ref (ad b)), (1, .int (-2)), (2, .int (nI 0))]) hX dX6_closest_4 rfl (by decide) rfl ?_
  have lp5 : ∀ (N5 : Nat) (i5 : Nat) (y1_5 : Int32), (i5 ≤ 40) → (40 < i5 + N5) → V X M [(0, .ref (ad b)), (1, .int y1_5), (2, .int (nI i5))] [] 5 := by
    intro N5
    induction N5 with
    | zero => intro i5 y1_5 hi5 hN5; exact absurd hN5 (by omega)
    | succ N5 ih5 =>
      intro i5 y1_5 hi5 hN5
      refine s_iload_n (k := 2) hX dX6_closest_5 rfl rfl ?_
      refine s_bipush (v := (nI 40)) hX dX6_closest_6 (by decide) ?_
      refine s_icmp_ge (tgt := 51) hX dX6_closest_8 (by decide) (fun c8 => ?_) (fun c8 => ?_)
      · replace c8 := (nI_leI (by omega) (by omega)).mp c8
        refine s_iload_n (k := 1) hX dX6_closest_51 rfl rfl ?_
        exact s_iret hX hR dX6_closest_52 rfl
      · replace c8 := mt (nI_leI (by omega) (by omega)).mpr c8
        refine s_aload_n (k := 0) hX dX6_closest_11 rfl rfl ?_
        refine s_iload_n (k := 2) hX dX6_closest_12 rfl rfl ?_
        refine s_callSi hX (s_X6_nearest b hb _ M) mX6_nearest lX6_48 (by decide) (by decide) rfl rfl (Nat.le_of_ble_eq_true rfl) dX6_closest_13 (fun r13 M_3 hp13 => ?_)
        subst hp13
        refine s_istore_n (lv' := [(0, .ref (ad b)), (1, .int y1_5), (2, .int (nI i5)), (3, .int r13)]) hX dX6_closest_16 rfl (by decide) rfl ?_
        refine s_iload_n (k := 3) hX dX6_closest_17 rfl rfl ?_
        refine s_iconst (v := (-1)) hX dX6_closest_18 (by decide) ?_
        refine s_icmp_eq (tgt := 45) hX dX6_closest_19 (by decide) (fun c19 => ?_) (fun c19 => ?_)
        · refine s_iinc (k := 2) (v := nI (i5 + 1)) (lv' := [(0, .ref (ad b)), (1, .int y1_5), (3, .int r13), (2, .int (nI (i5 + 1)))]) hX dX6_closest_45 (nI_1 _) (by decide) rfl rfl ?_
          refine s_goto (tgt := 5) hX dX6_closest_48 (by decide) ?_
          refine s_loc [0, 1, 3] rfl ?_
          exact ih5 _ _ (by omega) (by omega)
        · refine s_iload_n (k := 1) hX dX6_closest_22 rfl rfl ?_
          refine s_bipush (v := (-2)) hX dX6_closest_23 (by decide) ?_
          refine s_icmp_eq (tgt := 38) hX dX6_closest_25 (by decide) (fun c25 => ?_) (fun c25 => ?_)
          · refine s_aload_n (k := 0) hX dX6_closest_38 rfl rfl ?_
            refine s_iload_n (k := 2) hX dX6_closest_39 rfl rfl ?_
            refine s_iload_n (k := 3) hX dX6_closest_40 rfl rfl ?_
            refine s_callVi hX (s_X2_squares b hb _ _ M) mX2_squares lX6_52 (by decide) (by decide) (oF hb) rfl rfl rfl rfl rfl (Nat.le_of_ble_eq_true rfl) dX6_closest_41 (fun r41 M_5 hp41 => ?_)
            subst hp41
            refine s_istore_n (lv' := [(0, .ref (ad b)), (2, .int (nI i5)), (3, .int r13), (1, .int r41)]) hX dX6_closest_44 rfl (by decide) rfl ?_
            refine s_iinc (k := 1) (v := nI (i5 + 1)) (lv' := [(0, .ref (ad b)), (3, .int r13), (1, .int r41), (2, .int (nI (i5 + 1)))]) hX dX6_closest_45 (nI_1 _) (by decide) rfl rfl ?_
            refine s_goto (tgt := 5) hX dX6_closest_48 (by decide) ?_
            refine s_loc [0, 2, 3] rfl ?_
            exact ih5 _ _ (by omega) (by omega)
          · refine s_aload_n (k := 0) hX dX6_closest_28 rfl rfl ?_
            refine s_iload_n (k := 2) hX dX6_closest_29 rfl rfl ?_
            refine s_iload_n (k := 3) hX dX6_closest_30 rfl rfl ?_
            refine s_callVi hX (s_X2_squares b hb _ _ M) mX2_squares lX6_52 (by decide) (by decide) (oF hb) rfl rfl rfl rfl rfl (Nat.le_of_ble_eq_true rfl) dX6_closest_31 (fun r31 M_7 hp31 => ?_)
            subst hp31
            refine s_iload_n (k := 1) hX dX6_closest_34 rfl rfl ?_
            refine s_icmp_ge (tgt := 45) hX dX6_closest_35 (by decide) (fun c35 => ?_) (fun c35 => ?_)
            · replace c35 := Int32.le_iff_toInt_le.mp c35
              refine s_iinc (k := 2) (v := nI (i5 + 1)) (lv' := [(0, .ref (ad b)), (1, .int y1_5), (3, .int r13), (2, .int (nI (i5 + 1)))]) hX dX6_closest_45 (nI_1 _) (by decide) rfl rfl ?_
              refine s_goto (tgt := 5) hX dX6_closest_48 (by decide) ?_
              refine s_loc [0, 1, 3] rfl ?_
              exact ih5 _ _ (by omega) (by omega)
            · replace c35 := mt Int32.le_iff_toInt_le.mpr c35
              refine s_aload_n (k := 0) hX dX6_closest_38 rfl rfl ?_
              refine s_iload_n (k := 2) hX dX6_closest_39 rfl rfl ?_
              refine s_iload_n (k := 3) hX dX6_closest_40 rfl rfl ?_
              refine s_callVi hX (s_X2_squares b hb _ _ M) mX2_squares lX6_52 (by decide) (by decide) (oF hb) rfl rfl rfl rfl rfl (Nat.le_of_ble_eq_true rfl) dX6_closest_41 (fun r41 M_8 hp41 => ?_)
              subst hp41
              refine s_istore_n (lv' := [(0, .ref (ad b)), (2, .int (nI i5)), (3, .int r13), (1, .int r41)]) hX dX6_closest_44 rfl (by decide) rfl ?_
              refine s_iinc (k := 1) (v := nI (i5 + 1)) (lv' := [(0, .ref (ad b)), (3, .int r13), (1, .int r41), (2, .int (nI (i5 + 1)))]) hX dX6_closest_45 (nI_1 _) (by decide) rfl rfl ?_
              refine s_goto (tgt := 5) hX dX6_closest_48 (by decide) ?_
              refine s_loc [0, 2, 3] rfl ?_
              exact ih5 _ _ (by omega) (by omega)
  exact lp5 (40 + 1) _ _ (by omega) (by omega)
