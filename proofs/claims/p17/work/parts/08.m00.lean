theorem dX10_apart_0 : decode cX10_apart 0 = .ok (.aload_n 0, 1) := by decide +kernel
theorem dX10_apart_1 : decode cX10_apart 1 = .ok (.getfield 7, 3) := by decide +kernel
theorem dX10_apart_4 : decode cX10_apart 4 = .ok (.bipush 40, 2) := by decide +kernel
theorem dX10_apart_6 : decode cX10_apart 6 = .ok (.iload_n 1, 1) := by decide +kernel
theorem dX10_apart_7 : decode cX10_apart 7 = .ok (.iadd, 1) := by decide +kernel
theorem dX10_apart_8 : decode cX10_apart 8 = .ok (.iaload, 1) := by decide +kernel
theorem dX10_apart_9 : decode cX10_apart 9 = .ok (.aload_n 0, 1) := by decide +kernel
theorem dX10_apart_10 : decode cX10_apart 10 = .ok (.getfield 7, 3) := by decide +kernel
theorem dX10_apart_13 : decode cX10_apart 13 = .ok (.bipush 40, 2) := by decide +kernel
theorem dX10_apart_15 : decode cX10_apart 15 = .ok (.iload_n 2, 1) := by decide +kernel
theorem dX10_apart_16 : decode cX10_apart 16 = .ok (.iadd, 1) := by decide +kernel
theorem dX10_apart_17 : decode cX10_apart 17 = .ok (.iaload, 1) := by decide +kernel
theorem dX10_apart_18 : decode cX10_apart 18 = .ok (.isub, 1) := by decide +kernel
theorem dX10_apart_19 : decode cX10_apart 19 = .ok (.istore_n 3, 1) := by decide +kernel
theorem dX10_apart_20 : decode cX10_apart 20 = .ok (.aload_n 0, 1) := by decide +kernel
theorem dX10_apart_21 : decode cX10_apart 21 = .ok (.getfield 7, 3) := by decide +kernel
theorem dX10_apart_24 : decode cX10_apart 24 = .ok (.bipush 80, 2) := by decide +kernel
theorem dX10_apart_26 : decode cX10_apart 26 = .ok (.iload_n 1, 1) := by decide +kernel
theorem dX10_apart_27 : decode cX10_apart 27 = .ok (.iadd, 1) := by decide +kernel
theorem dX10_apart_28 : decode cX10_apart 28 = .ok (.iaload, 1) := by decide +kernel
theorem dX10_apart_29 : decode cX10_apart 29 = .ok (.aload_n 0, 1) := by decide +kernel
theorem dX10_apart_30 : decode cX10_apart 30 = .ok (.getfield 7, 3) := by decide +kernel
theorem dX10_apart_33 : decode cX10_apart 33 = .ok (.bipush 80, 2) := by decide +kernel
theorem dX10_apart_35 : decode cX10_apart 35 = .ok (.iload_n 2, 1) := by decide +kernel
theorem dX10_apart_36 : decode cX10_apart 36 = .ok (.iadd, 1) := by decide +kernel
theorem dX10_apart_37 : decode cX10_apart 37 = .ok (.iaload, 1) := by decide +kernel
theorem dX10_apart_38 : decode cX10_apart 38 = .ok (.isub, 1) := by decide +kernel
theorem dX10_apart_39 : decode cX10_apart 39 = .ok (.istore 4, 2) := by decide +kernel
theorem dX10_apart_41 : decode cX10_apart 41 = .ok (.iload_n 3, 1) := by decide +kernel
theorem dX10_apart_42 : decode cX10_apart 42 = .ok (.iload_n 3, 1) := by decide +kernel
theorem dX10_apart_43 : decode cX10_apart 43 = .ok (.imul, 1) := by decide +kernel
theorem dX10_apart_44 : decode cX10_apart 44 = .ok (.iload 4, 2) := by decide +kernel
theorem dX10_apart_46 : decode cX10_apart 46 = .ok (.iload 4, 2) := by decide +kernel
theorem dX10_apart_48 : decode cX10_apart 48 = .ok (.imul, 1) := by decide +kernel
theorem dX10_apart_49 : decode cX10_apart 49 = .ok (.iadd, 1) := by decide +kernel
theorem dX10_apart_50 : decode cX10_apart 50 = .ok (.ireturn, 1) := by decide +kernel
theorem dX10_areInLine_0 : decode cX10_areInLine 0 = .ok (.aload_n 0, 1) := by decide +kernel
theorem dX10_areInLine_1 : decode cX10_areInLine 1 = .ok (.getfield 7, 3) := by decide +kernel
theorem dX10_areInLine_4 : decode cX10_areInLine 4 = .ok (.bipush 40, 2) := by decide +kernel
theorem dX10_areInLine_6 : decode cX10_areInLine 6 = .ok (.iload_n 2, 1) := by decide +kernel
theorem dX10_areInLine_7 : decode cX10_areInLine 7 = .ok (.iadd, 1) := by decide +kernel
theorem dX10_areInLine_8 : decode cX10_areInLine 8 = .ok (.iaload, 1) := by decide +kernel
theorem dX10_areInLine_9 : decode cX10_areInLine 9 = .ok (.aload_n 0, 1) := by decide +kernel
theorem dX10_areInLine_10 : decode cX10_areInLine 10 = .ok (.getfield 7, 3) := by decide +kernel
theorem dX10_areInLine_13 : decode cX10_areInLine 13 = .ok (.bipush 40, 2) := by decide +kernel
theorem dX10_areInLine_15 : decode cX10_areInLine 15 = .ok (.iload_n 1, 1) := by decide +kernel
theorem dX10_areInLine_16 : decode cX10_areInLine 16 = .ok (.iadd, 1) := by decide +kernel
theorem dX10_areInLine_17 : decode cX10_areInLine 17 = .ok (.iaload, 1) := by decide +kernel
theorem dX10_areInLine_18 : decode cX10_areInLine 18 = .ok (.isub, 1) := by decide +kernel
theorem dX10_areInLine_19 : decode cX10_areInLine 19 = .ok (.istore 4, 2) := by decide +kernel
theorem dX10_areInLine_21 : decode cX10_areInLine 21 = .ok (.aload_n 0, 1) := by decide +kernel
theorem dX10_areInLine_22 : decode cX10_areInLine 22 = .ok (.getfield 7, 3) := by decide +kernel
theorem dX10_areInLine_25 : decode cX10_areInLine 25 = .ok (.bipush 80, 2) := by decide +kernel
theorem dX10_areInLine_27 : decode cX10_areInLine 27 = .ok (.iload_n 2, 1) := by decide +kernel
theorem dX10_areInLine_28 : decode cX10_areInLine 28 = .ok (.iadd, 1) := by decide +kernel
theorem dX10_areInLine_29 : decode cX10_areInLine 29 = .ok (.iaload, 1) := by decide +kernel
theorem dX10_areInLine_30 : decode cX10_areInLine 30 = .ok (.aload_n 0, 1) := by decide +kernel
theorem dX10_areInLine_31 : decode cX10_areInLine 31 = .ok (.getfield 7, 3) := by decide +kernel
theorem dX10_areInLine_34 : decode cX10_areInLine 34 = .ok (.bipush 80, 2) := by decide +kernel
theorem dX10_areInLine_36 : decode cX10_areInLine 36 = .ok (.iload_n 1, 1) := by decide +kernel
theorem dX10_areInLine_37 : decode cX10_areInLine 37 = .ok (.iadd, 1) := by decide +kernel
theorem dX10_areInLine_38 : decode cX10_areInLine 38 = .ok (.iaload, 1) := by decide +kernel
theorem dX10_areInLine_39 : decode cX10_areInLine 39 = .ok (.isub, 1) := by decide +kernel
theorem dX10_areInLine_40 : decode cX10_areInLine 40 = .ok (.istore 5, 2) := by decide +kernel
theorem dX10_areInLine_42 : decode cX10_areInLine 42 = .ok (.iload 4, 2) := by decide +kernel
theorem dX10_areInLine_44 : decode cX10_areInLine 44 = .ok (.aload_n 0, 1) := by decide +kernel
theorem dX10_areInLine_45 : decode cX10_areInLine 45 = .ok (.getfield 7, 3) := by decide +kernel
theorem dX10_areInLine_48 : decode cX10_areInLine 48 = .ok (.bipush 80, 2) := by decide +kernel
theorem dX10_areInLine_50 : decode cX10_areInLine 50 = .ok (.iload_n 3, 1) := by decide +kernel
theorem dX10_areInLine_51 : decode cX10_areInLine 51 = .ok (.iadd, 1) := by decide +kernel
theorem dX10_areInLine_52 : decode cX10_areInLine 52 = .ok (.iaload, 1) := by decide +kernel
theorem dX10_areInLine_53 : decode cX10_areInLine 53 = .ok (.aload_n 0, 1) := by decide +kernel
theorem dX10_areInLine_54 : decode cX10_areInLine 54 = .ok (.getfield 7, 3) := by decide +kernel
theorem dX10_areInLine_57 : decode cX10_areInLine 57 = .ok (.bipush 80, 2) := by decide +kernel
theorem dX10_areInLine_59 : decode cX10_areInLine 59 = .ok (.iload_n 1, 1) := by decide +kernel
theorem dX10_areInLine_60 : decode cX10_areInLine 60 = .ok (.iadd, 1) := by decide +kernel
theorem dX10_areInLine_61 : decode cX10_areInLine 61 = .ok (.iaload, 1) := by decide +kernel
theorem dX10_areInLine_62 : decode cX10_areInLine 62 = .ok (.isub, 1) := by decide +kernel
theorem dX10_areInLine_63 : decode cX10_areInLine 63 = .ok (.imul, 1) := by decide +kernel
theorem dX10_areInLine_64 : decode cX10_areInLine 64 = .ok (.iload 5, 2) := by decide +kernel
theorem dX10_areInLine_66 : decode cX10_areInLine 66 = .ok (.aload_n 0, 1) := by decide +kernel
theorem dX10_areInLine_67 : decode cX10_areInLine 67 = .ok (.getfield 7, 3) := by decide +kernel
theorem dX10_areInLine_70 : decode cX10_areInLine 70 = .ok (.bipush 40, 2) := by decide +kernel
theorem dX10_areInLine_72 : decode cX10_areInLine 72 = .ok (.iload_n 3, 1) := by decide +kernel
theorem dX10_areInLine_73 : decode cX10_areInLine 73 = .ok (.iadd, 1) := by decide +kernel
theorem dX10_areInLine_74 : decode cX10_areInLine 74 = .ok (.iaload, 1) := by decide +kernel
theorem dX10_areInLine_75 : decode cX10_areInLine 75 = .ok (.aload_n 0, 1) := by decide +kernel
theorem dX10_areInLine_76 : decode cX10_areInLine 76 = .ok (.getfield 7, 3) := by decide +kernel
theorem dX10_areInLine_79 : decode cX10_areInLine 79 = .ok (.bipush 40, 2) := by decide +kernel
theorem dX10_areInLine_81 : decode cX10_areInLine 81 = .ok (.iload_n 1, 1) := by decide +kernel
theorem dX10_areInLine_82 : decode cX10_areInLine 82 = .ok (.iadd, 1) := by decide +kernel
theorem dX10_areInLine_83 : decode cX10_areInLine 83 = .ok (.iaload, 1) := by decide +kernel
theorem dX10_areInLine_84 : decode cX10_areInLine 84 = .ok (.isub, 1) := by decide +kernel
theorem dX10_areInLine_85 : decode cX10_areInLine 85 = .ok (.imul, 1) := by decide +kernel
theorem dX10_areInLine_86 : decode cX10_areInLine 86 = .ok (.if_icmp .ne 7, 3) := by decide +kernel
theorem dX10_areInLine_89 : decode cX10_areInLine 89 = .ok (.iconst 1, 1) := by decide +kernel
theorem dX10_areInLine_90 : decode cX10_areInLine 90 = .ok (.goto 4, 3) := by decide +kernel
theorem dX10_areInLine_93 : decode cX10_areInLine 93 = .ok (.iconst 0, 1) := by decide +kernel
theorem dX10_areInLine_94 : decode cX10_areInLine 94 = .ok (.ireturn, 1) := by decide +kernel
theorem dX10_in_0 : decode cX10_in 0 = .ok (.iload_n 0, 1) := by decide +kernel
theorem dX10_in_1 : decode cX10_in 1 = .ok (.iload_n 1, 1) := by decide +kernel
theorem dX10_in_2 : decode cX10_in 2 = .ok (.if_icmp .lt 12, 3) := by decide +kernel
theorem dX10_in_5 : decode cX10_in 5 = .ok (.iload_n 0, 1) := by decide +kernel
theorem dX10_in_6 : decode cX10_in 6 = .ok (.iload_n 2, 1) := by decide +kernel
theorem dX10_in_7 : decode cX10_in 7 = .ok (.if_icmp .gt 7, 3) := by decide +kernel
theorem dX10_in_10 : decode cX10_in 10 = .ok (.iconst 1, 1) := by decide +kernel
theorem dX10_in_11 : decode cX10_in 11 = .ok (.goto 4, 3) := by decide +kernel
theorem dX10_in_14 : decode cX10_in 14 = .ok (.iconst 0, 1) := by decide +kernel
theorem dX10_in_15 : decode cX10_in 15 = .ok (.ireturn, 1) := by decide +kernel
theorem dX10_stoneAt_0 : decode cX10_stoneAt 0 = .ok (.iconst 0, 1) := by decide +kernel
theorem dX10_stoneAt_1 : decode cX10_stoneAt 1 = .ok (.istore_n 3, 1) := by decide +kernel
theorem dX10_stoneAt_2 : decode cX10_stoneAt 2 = .ok (.iload_n 3, 1) := by decide +kernel
theorem dX10_stoneAt_3 : decode cX10_stoneAt 3 = .ok (.bipush 40, 2) := by decide +kernel
theorem dX10_stoneAt_5 : decode cX10_stoneAt 5 = .ok (.if_icmp .ge 49, 3) := by decide +kernel
theorem dX10_stoneAt_8 : decode cX10_stoneAt 8 = .ok (.aload_n 0, 1) := by decide +kernel
theorem dX10_stoneAt_9 : decode cX10_stoneAt 9 = .ok (.getfield 7, 3) := by decide +kernel
theorem dX10_stoneAt_12 : decode cX10_stoneAt 12 = .ok (.iconst 0, 1) := by decide +kernel
theorem dX10_stoneAt_13 : decode cX10_stoneAt 13 = .ok (.iload_n 3, 1) := by decide +kernel
theorem dX10_stoneAt_14 : decode cX10_stoneAt 14 = .ok (.iadd, 1) := by decide +kernel
theorem dX10_stoneAt_15 : decode cX10_stoneAt 15 = .ok (.iaload, 1) := by decide +kernel
theorem dX10_stoneAt_16 : decode cX10_stoneAt 16 = .ok (.iconst 1, 1) := by decide +kernel
theorem dX10_stoneAt_17 : decode cX10_stoneAt 17 = .ok (.if_icmp .ne 31, 3) := by decide +kernel
theorem dX10_stoneAt_20 : decode cX10_stoneAt 20 = .ok (.aload_n 0, 1) := by decide +kernel
theorem dX10_stoneAt_21 : decode cX10_stoneAt 21 = .ok (.getfield 7, 3) := by decide +kernel
theorem dX10_stoneAt_24 : decode cX10_stoneAt 24 = .ok (.bipush 40, 2) := by decide +kernel
theorem dX10_stoneAt_26 : decode cX10_stoneAt 26 = .ok (.iload_n 3, 1) := by decide +kernel
theorem dX10_stoneAt_27 : decode cX10_stoneAt 27 = .ok (.iadd, 1) := by decide +kernel
theorem dX10_stoneAt_28 : decode cX10_stoneAt 28 = .ok (.iaload, 1) := by decide +kernel
theorem dX10_stoneAt_29 : decode cX10_stoneAt 29 = .ok (.iload_n 1, 1) := by decide +kernel
theorem dX10_stoneAt_30 : decode cX10_stoneAt 30 = .ok (.if_icmp .ne 18, 3) := by decide +kernel
theorem dX10_stoneAt_33 : decode cX10_stoneAt 33 = .ok (.aload_n 0, 1) := by decide +kernel
theorem dX10_stoneAt_34 : decode cX10_stoneAt 34 = .ok (.getfield 7, 3) := by decide +kernel
theorem dX10_stoneAt_37 : decode cX10_stoneAt 37 = .ok (.bipush 80, 2) := by decide +kernel
theorem dX10_stoneAt_39 : decode cX10_stoneAt 39 = .ok (.iload_n 3, 1) := by decide +kernel
theorem dX10_stoneAt_40 : decode cX10_stoneAt 40 = .ok (.iadd, 1) := by decide +kernel
theorem dX10_stoneAt_41 : decode cX10_stoneAt 41 = .ok (.iaload, 1) := by decide +kernel
theorem dX10_stoneAt_42 : decode cX10_stoneAt 42 = .ok (.iload_n 2, 1) := by decide +kernel
theorem dX10_stoneAt_43 : decode cX10_stoneAt 43 = .ok (.if_icmp .ne 5, 3) := by decide +kernel
theorem dX10_stoneAt_46 : decode cX10_stoneAt 46 = .ok (.iload_n 3, 1) := by decide +kernel
theorem dX10_stoneAt_47 : decode cX10_stoneAt 47 = .ok (.ireturn, 1) := by decide +kernel
theorem dX10_stoneAt_48 : decode cX10_stoneAt 48 = .ok (.iinc 3 1, 3) := by decide +kernel
theorem dX10_stoneAt_51 : decode cX10_stoneAt 51 = .ok (.goto (-49), 3) := by decide +kernel
theorem dX10_stoneAt_54 : decode cX10_stoneAt 54 = .ok (.iconst (-1), 1) := by decide +kernel
theorem dX10_stoneAt_55 : decode cX10_stoneAt 55 = .ok (.ireturn, 1) := by decide +kernel
theorem dX10_at_0 : decode cX10_at 0 = .ok (.iload_n 1, 1) := by decide +kernel
theorem dX10_at_1 : decode cX10_at 1 = .ok (.iconst 0, 1) := by decide +kernel
theorem dX10_at_2 : decode cX10_at 2 = .ok (.bipush 39, 2) := by decide +kernel
theorem dX10_at_4 : decode cX10_at 4 = .ok (.invokestatic 132, 3) := by decide +kernel
theorem dX10_at_7 : decode cX10_at 7 = .ok (.ifCond .eq 13, 3) := by decide +kernel
theorem dX10_at_10 : decode cX10_at 10 = .ok (.iload_n 2, 1) := by decide +kernel
theorem dX10_at_11 : decode cX10_at 11 = .ok (.iconst 1, 1) := by decide +kernel
theorem dX10_at_12 : decode cX10_at 12 = .ok (.bipush 20, 2) := by decide +kernel
theorem dX10_at_14 : decode cX10_at 14 = .ok (.invokestatic 132, 3) := by decide +kernel
theorem dX10_at_17 : decode cX10_at 17 = .ok (.ifCond .ne 5, 3) := by decide +kernel
theorem dX10_at_20 : decode cX10_at 20 = .ok (.iconst (-1), 1) := by decide +kernel
theorem dX10_at_21 : decode cX10_at 21 = .ok (.ireturn, 1) := by decide +kernel
theorem dX10_at_22 : decode cX10_at 22 = .ok (.aload_n 0, 1) := by decide +kernel
theorem dX10_at_23 : decode cX10_at 23 = .ok (.iload_n 1, 1) := by decide +kernel
theorem dX10_at_24 : decode cX10_at 24 = .ok (.iload_n 2, 1) := by decide +kernel
theorem dX10_at_25 : decode cX10_at 25 = .ok (.invokevirtual 147, 3) := by decide +kernel
theorem dX10_at_28 : decode cX10_at 28 = .ok (.istore_n 3, 1) := by decide +kernel
theorem dX10_at_29 : decode cX10_at 29 = .ok (.iload_n 3, 1) := by decide +kernel
theorem dX10_at_30 : decode cX10_at 30 = .ok (.iconst (-1), 1) := by decide +kernel
theorem dX10_at_31 : decode cX10_at 31 = .ok (.if_icmp .ne 8, 3) := by decide +kernel
theorem dX10_at_34 : decode cX10_at 34 = .ok (.bipush (-2), 2) := by decide +kernel
theorem dX10_at_36 : decode cX10_at 36 = .ok (.goto 4, 3) := by decide +kernel
theorem dX10_at_39 : decode cX10_at 39 = .ok (.iload_n 3, 1) := by decide +kernel
theorem dX10_at_40 : decode cX10_at 40 = .ok (.ireturn, 1) := by decide +kernel
theorem dX10_beginsRows_0 : decode cX10_beginsRows 0 = .ok (.iconst 0, 1) := by decide +kernel
theorem dX10_beginsRows_1 : decode cX10_beginsRows 1 = .ok (.istore_n 2, 1) := by decide +kernel
theorem dX10_beginsRows_2 : decode cX10_beginsRows 2 = .ok (.iload_n 2, 1) := by decide +kernel
theorem dX10_beginsRows_3 : decode cX10_beginsRows 3 = .ok (.iload_n 1, 1) := by decide +kernel
theorem dX10_beginsRows_4 : decode cX10_beginsRows 4 = .ok (.if_icmp .ge 16, 3) := by decide +kernel
theorem dX10_beginsRows_7 : decode cX10_beginsRows 7 = .ok (.aload_n 0, 1) := by decide +kernel
theorem dX10_beginsRows_8 : decode cX10_beginsRows 8 = .ok (.getfield 119, 3) := by decide +kernel
theorem dX10_beginsRows_11 : decode cX10_beginsRows 11 = .ok (.iload_n 2, 1) := by decide +kernel
theorem dX10_beginsRows_12 : decode cX10_beginsRows 12 = .ok (.iload_n 2, 1) := by decide +kernel
theorem dX10_beginsRows_13 : decode cX10_beginsRows 13 = .ok (.iastore, 1) := by decide +kernel
theorem dX10_beginsRows_14 : decode cX10_beginsRows 14 = .ok (.iinc 2 1, 3) := by decide +kernel
theorem dX10_beginsRows_17 : decode cX10_beginsRows 17 = .ok (.goto (-15), 3) := by decide +kernel
theorem dX10_beginsRows_20 : decode cX10_beginsRows 20 = .ok (.return_, 1) := by decide +kernel
theorem dX10_beginsText_0 : decode cX10_beginsText 0 = .ok (.aload_n 0, 1) := by decide +kernel
theorem dX10_beginsText_1 : decode cX10_beginsText 1 = .ok (.iconst 0, 1) := by decide +kernel
theorem dX10_beginsText_2 : decode cX10_beginsText 2 = .ok (.putfield 165, 3) := by decide +kernel
theorem dX10_beginsText_5 : decode cX10_beginsText 5 = .ok (.aload_n 0, 1) := by decide +kernel
theorem dX10_beginsText_6 : decode cX10_beginsText 6 = .ok (.iload_n 1, 1) := by decide +kernel
theorem dX10_beginsText_7 : decode cX10_beginsText 7 = .ok (.putfield 168, 3) := by decide +kernel
theorem dX10_beginsText_10 : decode cX10_beginsText 10 = .ok (.aload_n 0, 1) := by decide +kernel
theorem dX10_beginsText_11 : decode cX10_beginsText 11 = .ok (.iconst 0, 1) := by decide +kernel
theorem dX10_beginsText_12 : decode cX10_beginsText 12 = .ok (.putfield 188, 3) := by decide +kernel
theorem dX10_beginsText_15 : decode cX10_beginsText 15 = .ok (.aload_n 0, 1) := by decide +kernel
theorem dX10_beginsText_16 : decode cX10_beginsText 16 = .ok (.iconst 0, 1) := by decide +kernel
theorem dX10_beginsText_17 : decode cX10_beginsText 17 = .ok (.putfield 243, 3) := by decide +kernel
theorem dX10_beginsText_20 : decode cX10_beginsText 20 = .ok (.return_, 1) := by decide +kernel
theorem dX10_min_0 : decode cX10_min 0 = .ok (.iload_n 0, 1) := by decide +kernel
theorem dX10_min_1 : decode cX10_min 1 = .ok (.iload_n 1, 1) := by decide +kernel
theorem dX10_min_2 : decode cX10_min 2 = .ok (.if_icmp .ge 7, 3) := by decide +kernel
theorem dX10_min_5 : decode cX10_min 5 = .ok (.iload_n 0, 1) := by decide +kernel
theorem dX10_min_6 : decode cX10_min 6 = .ok (.goto 4, 3) := by decide +kernel
theorem dX10_min_9 : decode cX10_min 9 = .ok (.iload_n 1, 1) := by decide +kernel
theorem dX10_min_10 : decode cX10_min 10 = .ok (.ireturn, 1) := by decide +kernel
theorem dX10_max_0 : decode cX10_max 0 = .ok (.iload_n 0, 1) := by decide +kernel
theorem dX10_max_1 : decode cX10_max 1 = .ok (.iload_n 1, 1) := by decide +kernel
theorem dX10_max_2 : decode cX10_max 2 = .ok (.if_icmp .le 7, 3) := by decide +kernel
theorem dX10_max_5 : decode cX10_max 5 = .ok (.iload_n 0, 1) := by decide +kernel
theorem dX10_max_6 : decode cX10_max 6 = .ok (.goto 4, 3) := by decide +kernel
theorem dX10_max_9 : decode cX10_max 9 = .ok (.iload_n 1, 1) := by decide +kernel
theorem dX10_max_10 : decode cX10_max 10 = .ok (.ireturn, 1) := by decide +kernel
theorem dX10_bounded_0 : decode cX10_bounded 0 = .ok (.iload_n 1, 1) := by decide +kernel
theorem dX10_bounded_1 : decode cX10_bounded 1 = .ok (.iload_n 2, 1) := by decide +kernel
theorem dX10_bounded_2 : decode cX10_bounded 2 = .ok (.iload_n 0, 1) := by decide +kernel
theorem dX10_bounded_3 : decode cX10_bounded 3 = .ok (.invokestatic 125, 3) := by decide +kernel
theorem dX10_bounded_6 : decode cX10_bounded 6 = .ok (.invokestatic 129, 3) := by decide +kernel
theorem dX10_bounded_9 : decode cX10_bounded 9 = .ok (.ireturn, 1) := by decide +kernel
theorem dX10_reckon_0 : decode cX10_reckon 0 = .ok (.iload_n 0, 1) := by decide +kernel
theorem dX10_reckon_1 : decode cX10_reckon 1 = .ok (.tableswitch 85 2 8 #[43, 47, 51, 55, 59, 63, 74], 43) := by decide +kernel
theorem dX10_reckon_44 : decode cX10_reckon 44 = .ok (.iload_n 1, 1) := by decide +kernel
theorem dX10_reckon_45 : decode cX10_reckon 45 = .ok (.iload_n 2, 1) := by decide +kernel
theorem dX10_reckon_46 : decode cX10_reckon 46 = .ok (.iadd, 1) := by decide +kernel
theorem dX10_reckon_47 : decode cX10_reckon 47 = .ok (.ireturn, 1) := by decide +kernel
theorem dX10_reckon_48 : decode cX10_reckon 48 = .ok (.iload_n 1, 1) := by decide +kernel
theorem dX10_reckon_49 : decode cX10_reckon 49 = .ok (.iload_n 2, 1) := by decide +kernel
theorem dX10_reckon_50 : decode cX10_reckon 50 = .ok (.isub, 1) := by decide +kernel
theorem dX10_reckon_51 : decode cX10_reckon 51 = .ok (.ireturn, 1) := by decide +kernel
theorem dX10_reckon_52 : decode cX10_reckon 52 = .ok (.iload_n 1, 1) := by decide +kernel
theorem dX10_reckon_53 : decode cX10_reckon 53 = .ok (.iload_n 2, 1) := by decide +kernel
theorem dX10_reckon_54 : decode cX10_reckon 54 = .ok (.imul, 1) := by decide +kernel
theorem dX10_reckon_55 : decode cX10_reckon 55 = .ok (.ireturn, 1) := by decide +kernel
theorem dX10_reckon_56 : decode cX10_reckon 56 = .ok (.iload_n 1, 1) := by decide +kernel
theorem dX10_reckon_57 : decode cX10_reckon 57 = .ok (.iload_n 2, 1) := by decide +kernel
theorem dX10_reckon_58 : decode cX10_reckon 58 = .ok (.idiv, 1) := by decide +kernel
theorem dX10_reckon_59 : decode cX10_reckon 59 = .ok (.ireturn, 1) := by decide +kernel
theorem dX10_reckon_60 : decode cX10_reckon 60 = .ok (.iload_n 1, 1) := by decide +kernel
theorem dX10_reckon_61 : decode cX10_reckon 61 = .ok (.iload_n 2, 1) := by decide +kernel
theorem dX10_reckon_62 : decode cX10_reckon 62 = .ok (.irem, 1) := by decide +kernel
theorem dX10_reckon_63 : decode cX10_reckon 63 = .ok (.ireturn, 1) := by decide +kernel
theorem dX10_reckon_64 : decode cX10_reckon 64 = .ok (.iload_n 1, 1) := by decide +kernel
theorem dX10_reckon_65 : decode cX10_reckon 65 = .ok (.iload_n 2, 1) := by decide +kernel
theorem dX10_reckon_66 : decode cX10_reckon 66 = .ok (.if_icmp .ge 7, 3) := by decide +kernel
theorem dX10_reckon_69 : decode cX10_reckon 69 = .ok (.iconst 1, 1) := by decide +kernel
theorem dX10_reckon_70 : decode cX10_reckon 70 = .ok (.goto 4, 3) := by decide +kernel
theorem dX10_reckon_73 : decode cX10_reckon 73 = .ok (.iconst 0, 1) := by decide +kernel
theorem dX10_reckon_74 : decode cX10_reckon 74 = .ok (.ireturn, 1) := by decide +kernel
theorem dX10_reckon_75 : decode cX10_reckon 75 = .ok (.iload_n 1, 1) := by decide +kernel
theorem dX10_reckon_76 : decode cX10_reckon 76 = .ok (.iload_n 2, 1) := by decide +kernel
theorem dX10_reckon_77 : decode cX10_reckon 77 = .ok (.if_icmp .le 7, 3) := by decide +kernel
theorem dX10_reckon_80 : decode cX10_reckon 80 = .ok (.iconst 1, 1) := by decide +kernel
theorem dX10_reckon_81 : decode cX10_reckon 81 = .ok (.goto 4, 3) := by decide +kernel
theorem dX10_reckon_84 : decode cX10_reckon 84 = .ok (.iconst 0, 1) := by decide +kernel
theorem dX10_reckon_85 : decode cX10_reckon 85 = .ok (.ireturn, 1) := by decide +kernel
theorem dX10_reckon_86 : decode cX10_reckon 86 = .ok (.iload_n 1, 1) := by decide +kernel
theorem dX10_reckon_87 : decode cX10_reckon 87 = .ok (.iload_n 2, 1) := by decide +kernel
theorem dX10_reckon_88 : decode cX10_reckon 88 = .ok (.if_icmp .ne 7, 3) := by decide +kernel
theorem dX10_reckon_91 : decode cX10_reckon 91 = .ok (.iconst 1, 1) := by decide +kernel
theorem dX10_reckon_92 : decode cX10_reckon 92 = .ok (.goto 4, 3) := by decide +kernel
theorem dX10_reckon_95 : decode cX10_reckon 95 = .ok (.iconst 0, 1) := by decide +kernel
theorem dX10_reckon_96 : decode cX10_reckon 96 = .ok (.ireturn, 1) := by decide +kernel
theorem dX10_comesTo_0 : decode cX10_comesTo 0 = .ok (.iconst 0, 1) := by decide +kernel
theorem dX10_comesTo_1 : decode cX10_comesTo 1 = .ok (.istore_n 3, 1) := by decide +kernel
theorem dX10_comesTo_2 : decode cX10_comesTo 2 = .ok (.sipush 260, 3) := by decide +kernel
theorem dX10_comesTo_5 : decode cX10_comesTo 5 = .ok (.iload_n 1, 1) := by decide +kernel
theorem dX10_comesTo_6 : decode cX10_comesTo 6 = .ok (.sipush 260, 3) := by decide +kernel
theorem dX10_comesTo_9 : decode cX10_comesTo 9 = .ok (.idiv, 1) := by decide +kernel
theorem dX10_comesTo_10 : decode cX10_comesTo 10 = .ok (.imul, 1) := by decide +kernel
theorem dX10_comesTo_11 : decode cX10_comesTo 11 = .ok (.istore 4, 2) := by decide +kernel
theorem dX10_comesTo_13 : decode cX10_comesTo 13 = .ok (.iload_n 1, 1) := by decide +kernel
theorem dX10_comesTo_14 : decode cX10_comesTo 14 = .ok (.istore 5, 2) := by decide +kernel
theorem dX10_comesTo_16 : decode cX10_comesTo 16 = .ok (.iload 5, 2) := by decide +kernel
theorem dX10_comesTo_18 : decode cX10_comesTo 18 = .ok (.iload_n 2, 1) := by decide +kernel
theorem dX10_comesTo_19 : decode cX10_comesTo 19 = .ok (.if_icmp .ge 214, 3) := by decide +kernel
theorem dX10_comesTo_22 : decode cX10_comesTo 22 = .ok (.aload_n 0, 1) := by decide +kernel
theorem dX10_comesTo_23 : decode cX10_comesTo 23 = .ok (.getfield 44, 3) := by decide +kernel
theorem dX10_comesTo_26 : decode cX10_comesTo 26 = .ok (.iload 5, 2) := by decide +kernel
theorem dX10_comesTo_28 : decode cX10_comesTo 28 = .ok (.iaload, 1) := by decide +kernel
theorem dX10_comesTo_29 : decode cX10_comesTo 29 = .ok (.ldc 191, 2) := by decide +kernel
theorem dX10_comesTo_31 : decode cX10_comesTo 31 = .ok (.idiv, 1) := by decide +kernel
theorem dX10_comesTo_32 : decode cX10_comesTo 32 = .ok (.istore 6, 2) := by decide +kernel
theorem dX10_comesTo_34 : decode cX10_comesTo 34 = .ok (.aload_n 0, 1) := by decide +kernel
theorem dX10_comesTo_35 : decode cX10_comesTo 35 = .ok (.getfield 44, 3) := by decide +kernel
theorem dX10_comesTo_38 : decode cX10_comesTo 38 = .ok (.iload 5, 2) := by decide +kernel
theorem dX10_comesTo_40 : decode cX10_comesTo 40 = .ok (.iaload, 1) := by decide +kernel
theorem dX10_comesTo_41 : decode cX10_comesTo 41 = .ok (.ldc 191, 2) := by decide +kernel
theorem dX10_comesTo_43 : decode cX10_comesTo 43 = .ok (.irem, 1) := by decide +kernel
theorem dX10_comesTo_44 : decode cX10_comesTo 44 = .ok (.istore 7, 2) := by decide +kernel
theorem dX10_comesTo_46 : decode cX10_comesTo 46 = .ok (.iload 5, 2) := by decide +kernel
theorem dX10_comesTo_48 : decode cX10_comesTo 48 = .ok (.iconst 1, 1) := by decide +kernel
theorem dX10_comesTo_49 : decode cX10_comesTo 49 = .ok (.iadd, 1) := by decide +kernel
theorem dX10_comesTo_50 : decode cX10_comesTo 50 = .ok (.istore 5, 2) := by decide +kernel
theorem dX10_comesTo_52 : decode cX10_comesTo 52 = .ok (.iload 6, 2) := by decide +kernel
theorem dX10_comesTo_54 : decode cX10_comesTo 54 = .ok (.ifCond .eq 9, 3) := by decide +kernel
theorem dX10_comesTo_57 : decode cX10_comesTo 57 = .ok (.iload 6, 2) := by decide +kernel
theorem dX10_comesTo_59 : decode cX10_comesTo 59 = .ok (.iconst 1, 1) := by decide +kernel
theorem dX10_comesTo_60 : decode cX10_comesTo 60 = .ok (.if_icmp .ne 33, 3) := by decide +kernel
theorem dX10_comesTo_63 : decode cX10_comesTo 63 = .ok (.aload_n 0, 1) := by decide +kernel
theorem dX10_comesTo_64 : decode cX10_comesTo 64 = .ok (.getfield 59, 3) := by decide +kernel
theorem dX10_comesTo_67 : decode cX10_comesTo 67 = .ok (.iload_n 3, 1) := by decide +kernel
theorem dX10_comesTo_68 : decode cX10_comesTo 68 = .ok (.iload 6, 2) := by decide +kernel
theorem dX10_comesTo_70 : decode cX10_comesTo 70 = .ok (.ifCond .ne 8, 3) := by decide +kernel
theorem dX10_comesTo_73 : decode cX10_comesTo 73 = .ok (.iload 7, 2) := by decide +kernel
theorem dX10_comesTo_75 : decode cX10_comesTo 75 = .ok (.goto 10, 3) := by decide +kernel
theorem dX10_comesTo_78 : decode cX10_comesTo 78 = .ok (.aload_n 0, 1) := by decide +kernel
theorem dX10_comesTo_79 : decode cX10_comesTo 79 = .ok (.getfield 62, 3) := by decide +kernel
theorem dX10_comesTo_82 : decode cX10_comesTo 82 = .ok (.iload 7, 2) := by decide +kernel
theorem dX10_comesTo_84 : decode cX10_comesTo 84 = .ok (.iaload, 1) := by decide +kernel
theorem dX10_comesTo_85 : decode cX10_comesTo 85 = .ok (.iastore, 1) := by decide +kernel
theorem dX10_comesTo_86 : decode cX10_comesTo 86 = .ok (.iload_n 3, 1) := by decide +kernel
theorem dX10_comesTo_87 : decode cX10_comesTo 87 = .ok (.iconst 1, 1) := by decide +kernel
theorem dX10_comesTo_88 : decode cX10_comesTo 88 = .ok (.iadd, 1) := by decide +kernel
theorem dX10_comesTo_89 : decode cX10_comesTo 89 = .ok (.istore_n 3, 1) := by decide +kernel
theorem dX10_comesTo_90 : decode cX10_comesTo 90 = .ok (.goto 140, 3) := by decide +kernel
theorem dX10_comesTo_93 : decode cX10_comesTo 93 = .ok (.iload 6, 2) := by decide +kernel
theorem dX10_comesTo_95 : decode cX10_comesTo 95 = .ok (.bipush 10, 2) := by decide +kernel
theorem dX10_comesTo_97 : decode cX10_comesTo 97 = .ok (.if_icmp .ne 24, 3) := by decide +kernel
theorem dX10_comesTo_100 : decode cX10_comesTo 100 = .ok (.aload_n 0, 1) := by decide +kernel
theorem dX10_comesTo_101 : decode cX10_comesTo 101 = .ok (.getfield 59, 3) := by decide +kernel
theorem dX10_comesTo_104 : decode cX10_comesTo 104 = .ok (.iload_n 3, 1) := by decide +kernel
theorem dX10_comesTo_105 : decode cX10_comesTo 105 = .ok (.iconst 1, 1) := by decide +kernel
theorem dX10_comesTo_106 : decode cX10_comesTo 106 = .ok (.isub, 1) := by decide +kernel
theorem dX10_comesTo_107 : decode cX10_comesTo 107 = .ok (.iconst 1, 1) := by decide +kernel
theorem dX10_comesTo_108 : decode cX10_comesTo 108 = .ok (.aload_n 0, 1) := by decide +kernel
theorem dX10_comesTo_109 : decode cX10_comesTo 109 = .ok (.getfield 59, 3) := by decide +kernel
theorem dX10_comesTo_112 : decode cX10_comesTo 112 = .ok (.iload_n 3, 1) := by decide +kernel
theorem dX10_comesTo_113 : decode cX10_comesTo 113 = .ok (.iconst 1, 1) := by decide +kernel
theorem dX10_comesTo_114 : decode cX10_comesTo 114 = .ok (.isub, 1) := by decide +kernel
theorem dX10_comesTo_115 : decode cX10_comesTo 115 = .ok (.iaload, 1) := by decide +kernel
theorem dX10_comesTo_116 : decode cX10_comesTo 116 = .ok (.isub, 1) := by decide +kernel
theorem dX10_comesTo_117 : decode cX10_comesTo 117 = .ok (.iastore, 1) := by decide +kernel
theorem dX10_comesTo_118 : decode cX10_comesTo 118 = .ok (.goto 112, 3) := by decide +kernel
theorem dX10_comesTo_121 : decode cX10_comesTo 121 = .ok (.iload 6, 2) := by decide +kernel
theorem dX10_comesTo_123 : decode cX10_comesTo 123 = .ok (.bipush 11, 2) := by decide +kernel
theorem dX10_comesTo_125 : decode cX10_comesTo 125 = .ok (.if_icmp .eq 10, 3) := by decide +kernel
theorem dX10_comesTo_128 : decode cX10_comesTo 128 = .ok (.iload 6, 2) := by decide +kernel
theorem dX10_comesTo_130 : decode cX10_comesTo 130 = .ok (.bipush 12, 2) := by decide +kernel
theorem dX10_comesTo_132 : decode cX10_comesTo 132 = .ok (.if_icmp .ne 43, 3) := by decide +kernel
theorem dX10_comesTo_135 : decode cX10_comesTo 135 = .ok (.aload_n 0, 1) := by decide +kernel
theorem dX10_comesTo_136 : decode cX10_comesTo 136 = .ok (.getfield 59, 3) := by decide +kernel
theorem dX10_comesTo_139 : decode cX10_comesTo 139 = .ok (.iload_n 3, 1) := by decide +kernel
theorem dX10_comesTo_140 : decode cX10_comesTo 140 = .ok (.iconst 1, 1) := by decide +kernel
theorem dX10_comesTo_141 : decode cX10_comesTo 141 = .ok (.isub, 1) := by decide +kernel
theorem dX10_comesTo_142 : decode cX10_comesTo 142 = .ok (.iaload, 1) := by decide +kernel
theorem dX10_comesTo_143 : decode cX10_comesTo 143 = .ok (.iload 6, 2) := by decide +kernel
theorem dX10_comesTo_145 : decode cX10_comesTo 145 = .ok (.bipush 12, 2) := by decide +kernel
theorem dX10_comesTo_147 : decode cX10_comesTo 147 = .ok (.if_icmp .ne 7, 3) := by decide +kernel
theorem dX10_comesTo_150 : decode cX10_comesTo 150 = .ok (.iconst 1, 1) := by decide +kernel
theorem dX10_comesTo_151 : decode cX10_comesTo 151 = .ok (.goto 4, 3) := by decide +kernel
theorem dX10_comesTo_154 : decode cX10_comesTo 154 = .ok (.iconst 0, 1) := by decide +kernel
theorem dX10_comesTo_155 : decode cX10_comesTo 155 = .ok (.if_icmp .ne 13, 3) := by decide +kernel
theorem dX10_comesTo_158 : decode cX10_comesTo 158 = .ok (.iload 4, 2) := by decide +kernel
theorem dX10_comesTo_160 : decode cX10_comesTo 160 = .ok (.iload 7, 2) := by decide +kernel
theorem dX10_comesTo_162 : decode cX10_comesTo 162 = .ok (.iadd, 1) := by decide +kernel
theorem dX10_comesTo_163 : decode cX10_comesTo 163 = .ok (.istore 5, 2) := by decide +kernel
theorem dX10_comesTo_165 : decode cX10_comesTo 165 = .ok (.goto 65, 3) := by decide +kernel
theorem dX10_comesTo_168 : decode cX10_comesTo 168 = .ok (.iload_n 3, 1) := by decide +kernel
theorem dX10_comesTo_169 : decode cX10_comesTo 169 = .ok (.iconst 1, 1) := by decide +kernel
theorem dX10_comesTo_170 : decode cX10_comesTo 170 = .ok (.isub, 1) := by decide +kernel
theorem dX10_comesTo_171 : decode cX10_comesTo 171 = .ok (.istore_n 3, 1) := by decide +kernel
theorem dX10_comesTo_172 : decode cX10_comesTo 172 = .ok (.goto 58, 3) := by decide +kernel
theorem dX10_comesTo_175 : decode cX10_comesTo 175 = .ok (.iload_n 3, 1) := by decide +kernel
theorem dX10_comesTo_176 : decode cX10_comesTo 176 = .ok (.iconst 1, 1) := by decide +kernel
theorem dX10_comesTo_177 : decode cX10_comesTo 177 = .ok (.isub, 1) := by decide +kernel
theorem dX10_comesTo_178 : decode cX10_comesTo 178 = .ok (.istore_n 3, 1) := by decide +kernel
theorem dX10_comesTo_179 : decode cX10_comesTo 179 = .ok (.iload 6, 2) := by decide +kernel
theorem dX10_comesTo_181 : decode cX10_comesTo 181 = .ok (.iconst 5, 1) := by decide +kernel
theorem dX10_comesTo_182 : decode cX10_comesTo 182 = .ok (.if_icmp .eq 10, 3) := by decide +kernel
theorem dX10_comesTo_185 : decode cX10_comesTo 185 = .ok (.iload 6, 2) := by decide +kernel
theorem dX10_comesTo_187 : decode cX10_comesTo 187 = .ok (.bipush 6, 2) := by decide +kernel
theorem dX10_comesTo_189 : decode cX10_comesTo 189 = .ok (.if_icmp .ne 14, 3) := by decide +kernel
theorem dX10_comesTo_192 : decode cX10_comesTo 192 = .ok (.aload_n 0, 1) := by decide +kernel
theorem dX10_comesTo_193 : decode cX10_comesTo 193 = .ok (.getfield 59, 3) := by decide +kernel
theorem dX10_comesTo_196 : decode cX10_comesTo 196 = .ok (.iload_n 3, 1) := by decide +kernel
theorem dX10_comesTo_197 : decode cX10_comesTo 197 = .ok (.iaload, 1) := by decide +kernel
theorem dX10_comesTo_198 : decode cX10_comesTo 198 = .ok (.ifCond .ne 5, 3) := by decide +kernel
theorem dX10_comesTo_201 : decode cX10_comesTo 201 = .ok (.iconst 0, 1) := by decide +kernel
theorem dX10_comesTo_202 : decode cX10_comesTo 202 = .ok (.ireturn, 1) := by decide +kernel
theorem dX10_comesTo_203 : decode cX10_comesTo 203 = .ok (.aload_n 0, 1) := by decide +kernel
theorem dX10_comesTo_204 : decode cX10_comesTo 204 = .ok (.getfield 59, 3) := by decide +kernel
theorem dX10_comesTo_207 : decode cX10_comesTo 207 = .ok (.iload_n 3, 1) := by decide +kernel
theorem dX10_comesTo_208 : decode cX10_comesTo 208 = .ok (.iconst 1, 1) := by decide +kernel
theorem dX10_comesTo_209 : decode cX10_comesTo 209 = .ok (.isub, 1) := by decide +kernel
theorem dX10_comesTo_210 : decode cX10_comesTo 210 = .ok (.iload 6, 2) := by decide +kernel
theorem dX10_comesTo_212 : decode cX10_comesTo 212 = .ok (.aload_n 0, 1) := by decide +kernel
theorem dX10_comesTo_213 : decode cX10_comesTo 213 = .ok (.getfield 59, 3) := by decide +kernel
theorem dX10_comesTo_216 : decode cX10_comesTo 216 = .ok (.iload_n 3, 1) := by decide +kernel
theorem dX10_comesTo_217 : decode cX10_comesTo 217 = .ok (.iconst 1, 1) := by decide +kernel
theorem dX10_comesTo_218 : decode cX10_comesTo 218 = .ok (.isub, 1) := by decide +kernel
theorem dX10_comesTo_219 : decode cX10_comesTo 219 = .ok (.iaload, 1) := by decide +kernel
theorem dX10_comesTo_220 : decode cX10_comesTo 220 = .ok (.aload_n 0, 1) := by decide +kernel
theorem dX10_comesTo_221 : decode cX10_comesTo 221 = .ok (.getfield 59, 3) := by decide +kernel
theorem dX10_comesTo_224 : decode cX10_comesTo 224 = .ok (.iload_n 3, 1) := by decide +kernel
theorem dX10_comesTo_225 : decode cX10_comesTo 225 = .ok (.iaload, 1) := by decide +kernel
theorem dX10_comesTo_226 : decode cX10_comesTo 226 = .ok (.invokestatic 261, 3) := by decide +kernel
theorem dX10_comesTo_229 : decode cX10_comesTo 229 = .ok (.iastore, 1) := by decide +kernel
theorem dX10_comesTo_230 : decode cX10_comesTo 230 = .ok (.goto (-214), 3) := by decide +kernel
theorem dX10_comesTo_233 : decode cX10_comesTo 233 = .ok (.aload_n 0, 1) := by decide +kernel
theorem dX10_comesTo_234 : decode cX10_comesTo 234 = .ok (.getfield 59, 3) := by decide +kernel
theorem dX10_comesTo_237 : decode cX10_comesTo 237 = .ok (.iconst 0, 1) := by decide +kernel
theorem dX10_comesTo_238 : decode cX10_comesTo 238 = .ok (.iaload, 1) := by decide +kernel
theorem dX10_comesTo_239 : decode cX10_comesTo 239 = .ok (.ireturn, 1) := by decide +kernel
theorem dX10_byLaw_0 : decode cX10_byLaw 0 = .ok (.iconst 0, 1) := by decide +kernel
theorem dX10_byLaw_1 : decode cX10_byLaw 1 = .ok (.istore_n 3, 1) := by decide +kernel
theorem dX10_byLaw_2 : decode cX10_byLaw 2 = .ok (.iload_n 3, 1) := by decide +kernel
theorem dX10_byLaw_3 : decode cX10_byLaw 3 = .ok (.aload_n 0, 1) := by decide +kernel
theorem dX10_byLaw_4 : decode cX10_byLaw 4 = .ok (.getfield 258, 3) := by decide +kernel
theorem dX10_byLaw_7 : decode cX10_byLaw 7 = .ok (.if_icmp .ge 82, 3) := by decide +kernel
theorem dX10_byLaw_10 : decode cX10_byLaw 10 = .ok (.aload_n 0, 1) := by decide +kernel
theorem dX10_byLaw_11 : decode cX10_byLaw 11 = .ok (.getfield 47, 3) := by decide +kernel
theorem dX10_byLaw_14 : decode cX10_byLaw 14 = .ok (.iload_n 3, 1) := by decide +kernel
theorem dX10_byLaw_15 : decode cX10_byLaw 15 = .ok (.iaload, 1) := by decide +kernel
theorem dX10_byLaw_16 : decode cX10_byLaw 16 = .ok (.iload_n 1, 1) := by decide +kernel
theorem dX10_byLaw_17 : decode cX10_byLaw 17 = .ok (.if_icmp .ne 66, 3) := by decide +kernel
theorem dX10_byLaw_20 : decode cX10_byLaw 20 = .ok (.aload_n 0, 1) := by decide +kernel
theorem dX10_byLaw_21 : decode cX10_byLaw 21 = .ok (.aload_n 0, 1) := by decide +kernel
theorem dX10_byLaw_22 : decode cX10_byLaw 22 = .ok (.getfield 53, 3) := by decide +kernel
theorem dX10_byLaw_25 : decode cX10_byLaw 25 = .ok (.iload_n 3, 1) := by decide +kernel
theorem dX10_byLaw_26 : decode cX10_byLaw 26 = .ok (.iaload, 1) := by decide +kernel
theorem dX10_byLaw_27 : decode cX10_byLaw 27 = .ok (.aload_n 0, 1) := by decide +kernel
theorem dX10_byLaw_28 : decode cX10_byLaw 28 = .ok (.getfield 56, 3) := by decide +kernel
theorem dX10_byLaw_31 : decode cX10_byLaw 31 = .ok (.iload_n 3, 1) := by decide +kernel
theorem dX10_byLaw_32 : decode cX10_byLaw 32 = .ok (.iaload, 1) := by decide +kernel
theorem dX10_byLaw_33 : decode cX10_byLaw 33 = .ok (.invokevirtual 265, 3) := by decide +kernel
theorem dX10_byLaw_36 : decode cX10_byLaw 36 = .ok (.iconst 1, 1) := by decide +kernel
theorem dX10_byLaw_37 : decode cX10_byLaw 37 = .ok (.if_icmp .eq 6, 3) := by decide +kernel
theorem dX10_byLaw_40 : decode cX10_byLaw 40 = .ok (.goto 43, 3) := by decide +kernel
theorem dX10_byLaw_43 : decode cX10_byLaw 43 = .ok (.aload_n 0, 1) := by decide +kernel
theorem dX10_byLaw_44 : decode cX10_byLaw 44 = .ok (.aload_n 0, 1) := by decide +kernel
theorem dX10_byLaw_45 : decode cX10_byLaw 45 = .ok (.getfield 50, 3) := by decide +kernel
theorem dX10_byLaw_48 : decode cX10_byLaw 48 = .ok (.iload_n 3, 1) := by decide +kernel
theorem dX10_byLaw_49 : decode cX10_byLaw 49 = .ok (.iaload, 1) := by decide +kernel
theorem dX10_byLaw_50 : decode cX10_byLaw 50 = .ok (.aload_n 0, 1) := by decide +kernel
theorem dX10_byLaw_51 : decode cX10_byLaw 51 = .ok (.getfield 53, 3) := by decide +kernel
theorem dX10_byLaw_54 : decode cX10_byLaw 54 = .ok (.iload_n 3, 1) := by decide +kernel
theorem dX10_byLaw_55 : decode cX10_byLaw 55 = .ok (.iaload, 1) := by decide +kernel
theorem dX10_byLaw_56 : decode cX10_byLaw 56 = .ok (.invokevirtual 265, 3) := by decide +kernel
theorem dX10_byLaw_59 : decode cX10_byLaw 59 = .ok (.istore 4, 2) := by decide +kernel
theorem dX10_byLaw_61 : decode cX10_byLaw 61 = .ok (.iload 4, 2) := by decide +kernel
theorem dX10_byLaw_63 : decode cX10_byLaw 63 = .ok (.ifCond .ge 7, 3) := by decide +kernel
theorem dX10_byLaw_66 : decode cX10_byLaw 66 = .ok (.iconst 0, 1) := by decide +kernel
theorem dX10_byLaw_67 : decode cX10_byLaw 67 = .ok (.goto 15, 3) := by decide +kernel
theorem dX10_byLaw_70 : decode cX10_byLaw 70 = .ok (.iload 4, 2) := by decide +kernel
theorem dX10_byLaw_72 : decode cX10_byLaw 72 = .ok (.iload_n 2, 1) := by decide +kernel
theorem dX10_byLaw_73 : decode cX10_byLaw 73 = .ok (.if_icmp .le 7, 3) := by decide +kernel
theorem dX10_byLaw_76 : decode cX10_byLaw 76 = .ok (.iload_n 2, 1) := by decide +kernel
theorem dX10_byLaw_77 : decode cX10_byLaw 77 = .ok (.goto 5, 3) := by decide +kernel
theorem dX10_byLaw_80 : decode cX10_byLaw 80 = .ok (.iload 4, 2) := by decide +kernel
theorem dX10_byLaw_82 : decode cX10_byLaw 82 = .ok (.ireturn, 1) := by decide +kernel
theorem dX10_byLaw_83 : decode cX10_byLaw 83 = .ok (.iinc 3 1, 3) := by decide +kernel
theorem dX10_byLaw_86 : decode cX10_byLaw 86 = .ok (.goto (-84), 3) := by decide +kernel
theorem dX10_byLaw_89 : decode cX10_byLaw 89 = .ok (.iconst 0, 1) := by decide +kernel
theorem dX10_byLaw_90 : decode cX10_byLaw 90 = .ok (.ireturn, 1) := by decide +kernel
theorem dX10_isDry_0 : decode cX10_isDry 0 = .ok (.aload_n 0, 1) := by decide +kernel
theorem dX10_isDry_1 : decode cX10_isDry 1 = .ok (.getfield 7, 3) := by decide +kernel
theorem dX10_isDry_4 : decode cX10_isDry 4 = .ok (.iconst 0, 1) := by decide +kernel
theorem dX10_isDry_5 : decode cX10_isDry 5 = .ok (.iload_n 1, 1) := by decide +kernel
theorem dX10_isDry_6 : decode cX10_isDry 6 = .ok (.iadd, 1) := by decide +kernel
theorem dX10_isDry_7 : decode cX10_isDry 7 = .ok (.iaload, 1) := by decide +kernel
theorem dX10_isDry_8 : decode cX10_isDry 8 = .ok (.iconst 1, 1) := by decide +kernel
theorem dX10_isDry_9 : decode cX10_isDry 9 = .ok (.if_icmp .ne 20, 3) := by decide +kernel
theorem dX10_isDry_12 : decode cX10_isDry 12 = .ok (.aload_n 0, 1) := by decide +kernel
theorem dX10_isDry_13 : decode cX10_isDry 13 = .ok (.getfield 7, 3) := by decide +kernel
theorem dX10_isDry_16 : decode cX10_isDry 16 = .ok (.sipush 160, 3) := by decide +kernel
theorem dX10_isDry_19 : decode cX10_isDry 19 = .ok (.iload_n 1, 1) := by decide +kernel
theorem dX10_isDry_20 : decode cX10_isDry 20 = .ok (.iadd, 1) := by decide +kernel
theorem dX10_isDry_21 : decode cX10_isDry 21 = .ok (.iaload, 1) := by decide +kernel
theorem dX10_isDry_22 : decode cX10_isDry 22 = .ok (.ifCond .ne 7, 3) := by decide +kernel
theorem dX10_isDry_25 : decode cX10_isDry 25 = .ok (.iconst 1, 1) := by decide +kernel
theorem dX10_isDry_26 : decode cX10_isDry 26 = .ok (.goto 4, 3) := by decide +kernel
theorem dX10_isDry_29 : decode cX10_isDry 29 = .ok (.iconst 0, 1) := by decide +kernel
theorem dX10_isDry_30 : decode cX10_isDry 30 = .ok (.ireturn, 1) := by decide +kernel
theorem dX10_canStep_0 : decode cX10_canStep 0 = .ok (.aload_n 0, 1) := by decide +kernel
theorem dX10_canStep_1 : decode cX10_canStep 1 = .ok (.iload_n 1, 1) := by decide +kernel
theorem dX10_canStep_2 : decode cX10_canStep 2 = .ok (.invokevirtual 319, 3) := by decide +kernel
theorem dX10_canStep_5 : decode cX10_canStep 5 = .ok (.ifCond .eq 27, 3) := by decide +kernel
theorem dX10_canStep_8 : decode cX10_canStep 8 = .ok (.aload_n 0, 1) := by decide +kernel
theorem dX10_canStep_9 : decode cX10_canStep 9 = .ok (.iload_n 2, 1) := by decide +kernel
theorem dX10_canStep_10 : decode cX10_canStep 10 = .ok (.invokevirtual 319, 3) := by decide +kernel
theorem dX10_canStep_13 : decode cX10_canStep 13 = .ok (.ifCond .eq 19, 3) := by decide +kernel
theorem dX10_canStep_16 : decode cX10_canStep 16 = .ok (.aload_n 0, 1) := by decide +kernel
theorem dX10_canStep_17 : decode cX10_canStep 17 = .ok (.iload_n 1, 1) := by decide +kernel
theorem dX10_canStep_18 : decode cX10_canStep 18 = .ok (.iload_n 2, 1) := by decide +kernel
theorem dX10_canStep_19 : decode cX10_canStep 19 = .ok (.invokevirtual 144, 3) := by decide +kernel
theorem dX10_canStep_22 : decode cX10_canStep 22 = .ok (.iload_n 3, 1) := by decide +kernel
theorem dX10_canStep_23 : decode cX10_canStep 23 = .ok (.iload_n 3, 1) := by decide +kernel
theorem dX10_canStep_24 : decode cX10_canStep 24 = .ok (.imul, 1) := by decide +kernel
theorem dX10_canStep_25 : decode cX10_canStep 25 = .ok (.if_icmp .gt 7, 3) := by decide +kernel
theorem dX10_canStep_28 : decode cX10_canStep 28 = .ok (.iconst 1, 1) := by decide +kernel
theorem dX10_canStep_29 : decode cX10_canStep 29 = .ok (.goto 4, 3) := by decide +kernel
theorem dX10_canStep_32 : decode cX10_canStep 32 = .ok (.iconst 0, 1) := by decide +kernel
theorem dX10_canStep_33 : decode cX10_canStep 33 = .ok (.ireturn, 1) := by decide +kernel
theorem dX10_isStone_0 : decode cX10_isStone 0 = .ok (.iload_n 1, 1) := by decide +kernel
theorem dX10_isStone_1 : decode cX10_isStone 1 = .ok (.iconst 0, 1) := by decide +kernel
theorem dX10_isStone_2 : decode cX10_isStone 2 = .ok (.bipush 39, 2) := by decide +kernel
theorem dX10_isStone_4 : decode cX10_isStone 4 = .ok (.invokestatic 132, 3) := by decide +kernel
theorem dX10_isStone_7 : decode cX10_isStone 7 = .ok (.ifCond .eq 19, 3) := by decide +kernel
theorem dX10_isStone_10 : decode cX10_isStone 10 = .ok (.aload_n 0, 1) := by decide +kernel
theorem dX10_isStone_11 : decode cX10_isStone 11 = .ok (.getfield 7, 3) := by decide +kernel
theorem dX10_isStone_14 : decode cX10_isStone 14 = .ok (.iconst 0, 1) := by decide +kernel
theorem dX10_isStone_15 : decode cX10_isStone 15 = .ok (.iload_n 1, 1) := by decide +kernel
theorem dX10_isStone_16 : decode cX10_isStone 16 = .ok (.iadd, 1) := by decide +kernel
theorem dX10_isStone_17 : decode cX10_isStone 17 = .ok (.iaload, 1) := by decide +kernel
theorem dX10_isStone_18 : decode cX10_isStone 18 = .ok (.iconst 1, 1) := by decide +kernel
theorem dX10_isStone_19 : decode cX10_isStone 19 = .ok (.if_icmp .ne 7, 3) := by decide +kernel
theorem dX10_isStone_22 : decode cX10_isStone 22 = .ok (.iconst 1, 1) := by decide +kernel
theorem dX10_isStone_23 : decode cX10_isStone 23 = .ok (.goto 4, 3) := by decide +kernel
theorem dX10_isStone_26 : decode cX10_isStone 26 = .ok (.iconst 0, 1) := by decide +kernel
theorem dX10_isStone_27 : decode cX10_isStone 27 = .ok (.ireturn, 1) := by decide +kernel
set_option maxHeartbeats 4000000 in
theorem t_X10_apart (v1 : Int32) (v2 : Int32) (M : Mem) : AXp yX10_apart cX10_apart 5 (some .int) 0 39 glM (fun ad => [.ref (ad 0), .int v1, .int v2]) M (f_X10_apart M v1 v2) := by
  intro r0 h
  refine AM.of (by decide) (fun _ => Nat.le_of_ble_eq_true rfl) (fun X ad cI cZ cB hX hR => ?_)
  show V X M [(0, .ref (ad 0)), (1, .int v1), (2, .int v2)] [] 0
  refine s_aload_n (k := 0) hX dX10_apart_0 rfl rfl ?_
  refine s_get hX fX10_7 oM0 rfl dX10_apart_1 ?_
  refine s_bipush (v := (nI 40)) hX dX10_apart_4 (by decide) ?_
  refine s_iload_n (k := 1) hX dX10_apart_6 rfl rfl ?_
  refine s_iadd hX dX10_apart_7 ?_
  refine e_iald hX aM1 dX10_apart_8 h (fun h => ?_)
  refine s_aload_n (k := 0) hX dX10_apart_9 rfl rfl ?_
  refine s_get hX fX10_7 oM0 rfl dX10_apart_10 ?_
  refine s_bipush (v := (nI 40)) hX dX10_apart_13 (by decide) ?_
  refine s_iload_n (k := 2) hX dX10_apart_15 rfl rfl ?_
  refine s_iadd hX dX10_apart_16 ?_
  refine e_iald hX aM1 dX10_apart_17 h (fun h => ?_)
  refine s_isub hX dX10_apart_18 ?_
  refine e_bnd h (fun x_1 h => ?_)
  refine s_istore_n (lv' := [(0, .ref (ad 0)), (1, .int v1), (2, .int v2), (3, .int x_1)]) hX dX10_apart_19 rfl (by decide) rfl ?_
  refine s_aload_n (k := 0) hX dX10_apart_20 rfl rfl ?_
  refine s_get hX fX10_7 oM0 rfl dX10_apart_21 ?_
  refine s_bipush (v := (nI 80)) hX dX10_apart_24 (by decide) ?_
  refine s_iload_n (k := 1) hX dX10_apart_26 rfl rfl ?_
  refine s_iadd hX dX10_apart_27 ?_
  refine e_iald hX aM1 dX10_apart_28 h (fun h => ?_)
  refine s_aload_n (k := 0) hX dX10_apart_29 rfl rfl ?_
  refine s_get hX fX10_7 oM0 rfl dX10_apart_30 ?_
  refine s_bipush (v := (nI 80)) hX dX10_apart_33 (by decide) ?_
  refine s_iload_n (k := 2) hX dX10_apart_35 rfl rfl ?_
  refine s_iadd hX dX10_apart_36 ?_
  refine e_iald hX aM1 dX10_apart_37 h (fun h => ?_)
  refine s_isub hX dX10_apart_38 ?_
  refine e_bnd h (fun x_2 h => ?_)
  refine s_istore (lv' := [(0, .ref (ad 0)), (1, .int v1), (2, .int v2), (3, .int x_1), (4, .int x_2)]) hX dX10_apart_39 (by decide) rfl ?_
  refine s_iload_n (k := 3) hX dX10_apart_41 rfl rfl ?_
  refine s_iload_n (k := 3) hX dX10_apart_42 rfl rfl ?_
  refine s_imul hX dX10_apart_43 ?_
  refine s_iload (k := 4) hX dX10_apart_44 rfl ?_
  refine s_iload (k := 4) hX dX10_apart_46 rfl ?_
  refine s_imul hX dX10_apart_48 ?_
  refine s_iadd hX dX10_apart_49 ?_
  exact e_iretp hX hR dX10_apart_50 h
set_option maxHeartbeats 4000000 in
theorem t_X10_areInLine (v1 : Int32) (v2 : Int32) (v3 : Int32) (M : Mem) : AXp yX10_areInLine cX10_areInLine 6 (some .boolean) 0 39 glM (fun ad => [.ref (ad 0), .int v1, .int v2, .int v3]) M (f_X10_areInLine M v1 v2 v3) := by
  intro r0 h
  refine AM.of (by decide) (fun _ => Nat.le_of_ble_eq_true rfl) (fun X ad cI cZ cB hX hR => ?_)
  show V X M [(0, .ref (ad 0)), (1, .int v1), (2, .int v2), (3, .int v3)] [] 0
  refine s_aload_n (k := 0) hX dX10_areInLine_0 rfl rfl ?_
  refine s_get hX fX10_7 oM0 rfl dX10_areInLine_1 ?_
  refine s_bipush (v := (nI 40)) hX dX10_areInLine_4 (by decide) ?_
  refine s_iload_n (k := 2) hX dX10_areInLine_6 rfl rfl ?_
  refine s_iadd hX dX10_areInLine_7 ?_
  refine e_iald hX aM1 dX10_areInLine_8 h (fun h => ?_)
  refine s_aload_n (k := 0) hX dX10_areInLine_9 rfl rfl ?_
  refine s_get hX fX10_7 oM0 rfl dX10_areInLine_10 ?_
  refine s_bipush (v := (nI 40)) hX dX10_areInLine_13 (by decide) ?_
  refine s_iload_n (k := 1) hX dX10_areInLine_15 rfl rfl ?_
  refine s_iadd hX dX10_areInLine_16 ?_
  refine e_iald hX aM1 dX10_areInLine_17 h (fun h => ?_)
  refine s_isub hX dX10_areInLine_18 ?_
  refine e_bnd h (fun x_1 h => ?_)
  refine s_istore (lv' := [(0, .ref (ad 0)), (1, .int v1), (2, .int v2), (3, .int v3), (4, .int x_1)]) hX dX10_areInLine_19 (by decide) rfl ?_
  refine s_aload_n (k := 0) hX dX10_areInLine_21 rfl rfl ?_
  refine s_get hX fX10_7 oM0 rfl dX10_areInLine_22 ?_
  refine s_bipush (v := (nI 80)) hX dX10_areInLine_25 (by decide) ?_
  refine s_iload_n (k := 2) hX dX10_areInLine_27 rfl rfl ?_
  refine s_iadd hX dX10_areInLine_28 ?_
  refine e_iald hX aM1 dX10_areInLine_29 h (fun h => ?_)
  refine s_aload_n (k := 0) hX dX10_areInLine_30 rfl rfl ?_
  refine s_get hX fX10_7 oM0 rfl dX10_areInLine_31 ?_
  refine s_bipush (v := (nI 80)) hX dX10_areInLine_34 (by decide) ?_
  refine s_iload_n (k := 1) hX dX10_areInLine_36 rfl rfl ?_
  refine s_iadd hX dX10_areInLine_37 ?_
  refine e_iald hX aM1 dX10_areInLine_38 h (fun h => ?_)
  refine s_isub hX dX10_areInLine_39 ?_
  refine e_bnd h (fun x_2 h => ?_)
  refine s_istore (lv' := [(0, .ref (ad 0)), (1, .int v1), (2, .int v2), (3, .int v3), (4, .int x_1), (5, .int x_2)]) hX dX10_areInLine_40 (by decide) rfl ?_
  refine s_iload (k := 4) hX dX10_areInLine_42 rfl ?_
  refine s_aload_n (k := 0) hX dX10_areInLine_44 rfl rfl ?_
  refine s_get hX fX10_7 oM0 rfl dX10_areInLine_45 ?_
  refine s_bipush (v := (nI 80)) hX dX10_areInLine_48 (by decide) ?_
  refine s_iload_n (k := 3) hX dX10_areInLine_50 rfl rfl ?_
  refine s_iadd hX dX10_areInLine_51 ?_
  refine e_iald hX aM1 dX10_areInLine_52 h (fun h => ?_)
  refine s_aload_n (k := 0) hX dX10_areInLine_53 rfl rfl ?_
  refine s_get hX fX10_7 oM0 rfl dX10_areInLine_54 ?_
  refine s_bipush (v := (nI 80)) hX dX10_areInLine_57 (by decide) ?_
  refine s_iload_n (k := 1) hX dX10_areInLine_59 rfl rfl ?_
  refine s_iadd hX dX10_areInLine_60 ?_
  refine e_iald hX aM1 dX10_areInLine_61 h (fun h => ?_)
  refine s_isub hX dX10_areInLine_62 ?_
  refine s_imul hX dX10_areInLine_63 ?_
  refine s_iload (k := 5) hX dX10_areInLine_64 rfl ?_
  refine s_aload_n (k := 0) hX dX10_areInLine_66 rfl rfl ?_
  refine s_get hX fX10_7 oM0 rfl dX10_areInLine_67 ?_
  refine s_bipush (v := (nI 40)) hX dX10_areInLine_70 (by decide) ?_
  refine s_iload_n (k := 3) hX dX10_areInLine_72 rfl rfl ?_
  refine s_iadd hX dX10_areInLine_73 ?_
  refine e_iald hX aM1 dX10_areInLine_74 h (fun h => ?_)
  refine s_aload_n (k := 0) hX dX10_areInLine_75 rfl rfl ?_
  refine s_get hX fX10_7 oM0 rfl dX10_areInLine_76 ?_
  refine s_bipush (v := (nI 40)) hX dX10_areInLine_79 (by decide) ?_
  refine s_iload_n (k := 1) hX dX10_areInLine_81 rfl rfl ?_
  refine s_iadd hX dX10_areInLine_82 ?_
  refine e_iald hX aM1 dX10_areInLine_83 h (fun h => ?_)
  refine s_isub hX dX10_areInLine_84 ?_
  refine s_imul hX dX10_areInLine_85 ?_
  refine e_icmp_ne (tgt := 93) hX dX10_areInLine_86 (by decide) r_eq h (fun h => ?_) (fun h => ?_)
  · refine s_iconst (v := (nI 0)) hX dX10_areInLine_93 (by decide) ?_
    exact e_zretpL hX hR dX10_areInLine_94 (by decide) h
  · refine s_iconst (v := (nI 1)) hX dX10_areInLine_89 (by decide) ?_
    refine s_goto (tgt := 94) hX dX10_areInLine_90 (by decide) ?_
    exact e_zretpL hX hR dX10_areInLine_94 (by decide) h
set_option maxHeartbeats 4000000 in
theorem t_X10_in (v0 : Int32) (v1 : Int32) (v2 : Int32) (M : Mem) : AXp yX10_in cX10_in 3 (some .boolean) 0 39 glM (fun ad => [.int v0, .int v1, .int v2]) M (f_X10_in v0 v1 v2) := by
  intro r0 h
  refine AM.of (by decide) (fun _ => Nat.le_of_ble_eq_true rfl) (fun X ad cI cZ cB hX hR => ?_)
  show V X M [(0, .int v0), (1, .int v1), (2, .int v2)] [] 0
  refine s_iload_n (k := 0) hX dX10_in_0 rfl rfl ?_
  refine s_iload_n (k := 1) hX dX10_in_1 rfl rfl ?_
  refine e_icmp_lt (tgt := 14) hX dX10_in_2 (by decide) r_lt h (fun h => ?_) (fun h => ?_)
  · refine s_iconst (v := (nI 0)) hX dX10_in_14 (by decide) ?_
    exact e_zretpL hX hR dX10_in_15 (by decide) h
  · refine s_iload_n (k := 0) hX dX10_in_5 rfl rfl ?_
    refine s_iload_n (k := 2) hX dX10_in_6 rfl rfl ?_
    refine e_icmp_gt (tgt := 14) hX dX10_in_7 (by decide) r_lt h (fun h => ?_) (fun h => ?_)
    · refine s_iconst (v := (nI 0)) hX dX10_in_14 (by decide) ?_
      exact e_zretpL hX hR dX10_in_15 (by decide) h
    · refine s_iconst (v := (nI 1)) hX dX10_in_10 (by decide) ?_
      refine s_goto (tgt := 15) hX dX10_in_11 (by decide) ?_
      exact e_zretpL hX hR dX10_in_15 (by decide) h
set_option maxHeartbeats 4000000 in
theorem t_X10_stoneAt (v1 : Int32) (v2 : Int32) (M : Mem) : AXp yX10_stoneAt cX10_stoneAt 4 (some .int) 0 39 glM (fun ad => [.ref (ad 0), .int v1, .int v2]) M (f_X10_stoneAt M v1 v2) := by
  intro r0 h
  refine AM.of (by decide) (fun _ => Nat.le_of_ble_eq_true rfl) (fun X ad cI cZ cB hX hR => ?_)
  show V X M [(0, .ref (ad 0)), (1, .int v1), (2, .int v2)] [] 0
  refine s_iconst (v := (nI 0)) hX dX10_stoneAt_0 (by decide) ?_
  refine s_istore_n (lv' := [(0, .ref (ad 0)), (1, .int v1), (2, .int v2), (3, .int (nI 0))]) hX dX10_stoneAt_1 rfl (by decide) rfl ?_
  have lp2 : ∀ (N2 : Nat) (y3_2 : Int32), wlp1 (f_X10_stoneAt_B2 M v1 v2) N2 y3_2 = some r0 → V X M [(0, .ref (ad 0)), (1, .int v1), (2, .int v2), (3, .int y3_2)] [] 2 := by
    intro N2
    induction N2 with
    | zero => exact fun _ h => e_none h
    | succ N2 ih2 =>
      intro y3_2 h
      replace h : f_X10_stoneAt_B2 M v1 v2 (wlp1 (f_X10_stoneAt_B2 M v1 v2) N2) y3_2 = some r0 := h
      generalize wlp1 (f_X10_stoneAt_B2 M v1 v2) N2 = ag2 at ih2 h
      refine s_iload_n (k := 3) hX dX10_stoneAt_2 rfl rfl ?_
      refine s_bipush (v := (nI 40)) hX dX10_stoneAt_3 (by decide) ?_
      refine e_icmp_ge (tgt := 54) hX dX10_stoneAt_5 (by decide) (m_ge (by decide +kernel)) h (fun h => ?_) (fun h => ?_)
      · refine s_iconst (v := (-1)) hX dX10_stoneAt_54 (by decide) ?_
        exact e_iretp hX hR dX10_stoneAt_55 h
      · refine s_aload_n (k := 0) hX dX10_stoneAt_8 rfl rfl ?_
        refine s_get hX fX10_7 oM0 rfl dX10_stoneAt_9 ?_
        refine s_iconst (v := (nI 0)) hX dX10_stoneAt_12 (by decide) ?_
        refine s_iload_n (k := 3) hX dX10_stoneAt_13 rfl rfl ?_
        refine s_iadd hX dX10_stoneAt_14 ?_
        refine s_top (zadd _) ?_
        refine e_iald hX aM1 dX10_stoneAt_15 h (fun h => ?_)
        refine s_iconst (v := (nI 1)) hX dX10_stoneAt_16 (by decide) ?_
        refine e_icmp_ne (tgt := 48) hX dX10_stoneAt_17 (by decide) (m_eq (by decide +kernel)) h (fun h => ?_) (fun h => ?_)
        · refine s_iinc (k := 3) (v := (y3_2 + (nI 1))) (lv' := [(0, .ref (ad 0)), (1, .int v1), (2, .int v2), (3, .int (y3_2 + (nI 1)))]) hX dX10_stoneAt_48 (congrArg (fun z => y3_2 + z) (by decide)) (by decide) rfl rfl ?_
          refine s_goto (tgt := 2) hX dX10_stoneAt_51 (by decide) ?_
          exact ih2 (y3_2 + (nI 1)) h
        · refine s_aload_n (k := 0) hX dX10_stoneAt_20 rfl rfl ?_
          refine s_get hX fX10_7 oM0 rfl dX10_stoneAt_21 ?_
          refine s_bipush (v := (nI 40)) hX dX10_stoneAt_24 (by decide) ?_
          refine s_iload_n (k := 3) hX dX10_stoneAt_26 rfl rfl ?_
          refine s_iadd hX dX10_stoneAt_27 ?_
          refine e_iald hX aM1 dX10_stoneAt_28 h (fun h => ?_)
          refine s_iload_n (k := 1) hX dX10_stoneAt_29 rfl rfl ?_
          refine e_icmp_ne (tgt := 48) hX dX10_stoneAt_30 (by decide) r_eq h (fun h => ?_) (fun h => ?_)
          · refine s_iinc (k := 3) (v := (y3_2 + (nI 1))) (lv' := [(0, .ref (ad 0)), (1, .int v1), (2, .int v2), (3, .int (y3_2 + (nI 1)))]) hX dX10_stoneAt_48 (congrArg (fun z => y3_2 + z) (by decide)) (by decide) rfl rfl ?_
            refine s_goto (tgt := 2) hX dX10_stoneAt_51 (by decide) ?_
            exact ih2 (y3_2 + (nI 1)) h
          · refine s_aload_n (k := 0) hX dX10_stoneAt_33 rfl rfl ?_
            refine s_get hX fX10_7 oM0 rfl dX10_stoneAt_34 ?_
            refine s_bipush (v := (nI 80)) hX dX10_stoneAt_37 (by decide) ?_
            refine s_iload_n (k := 3) hX dX10_stoneAt_39 rfl rfl ?_
            refine s_iadd hX dX10_stoneAt_40 ?_
            refine e_iald hX aM1 dX10_stoneAt_41 h (fun h => ?_)
            refine s_iload_n (k := 2) hX dX10_stoneAt_42 rfl rfl ?_
            refine e_icmp_ne (tgt := 48) hX dX10_stoneAt_43 (by decide) r_eq h (fun h => ?_) (fun h => ?_)
            · refine s_iinc (k := 3) (v := (y3_2 + (nI 1))) (lv' := [(0, .ref (ad 0)), (1, .int v1), (2, .int v2), (3, .int (y3_2 + (nI 1)))]) hX dX10_stoneAt_48 (congrArg (fun z => y3_2 + z) (by decide)) (by decide) rfl rfl ?_
              refine s_goto (tgt := 2) hX dX10_stoneAt_51 (by decide) ?_
              exact ih2 (y3_2 + (nI 1)) h
            · refine s_iload_n (k := 3) hX dX10_stoneAt_46 rfl rfl ?_
              exact e_iretp hX hR dX10_stoneAt_47 h
  exact lp2 FU (nI 0) h
set_option maxHeartbeats 4000000 in
theorem t_X10_at (v1 : Int32) (v2 : Int32) (M : Mem) : AXp yX10_at cX10_at 4 (some .int) 1 39 glM (fun ad => [.ref (ad 0), .int v1, .int v2]) M (f_X10_at M v1 v2) := by
  intro r0 h
  refine AM.of (by decide) (fun _ => Nat.le_of_ble_eq_true rfl) (fun X ad cI cZ cB hX hR => ?_)
  show V X M [(0, .ref (ad 0)), (1, .int v1), (2, .int v2)] [] 0
  refine s_iload_n (k := 1) hX dX10_at_0 rfl rfl ?_
  refine s_iconst (v := (nI 0)) hX dX10_at_1 (by decide) ?_
  refine s_bipush (v := (nI 39)) hX dX10_at_2 (by decide) ?_
  refine e_callSp hX (t_X10_in v1 (nI 0) (nI 39) M) mX10_in lX10_132 (by decide) (by decide) rfl rfl (Nat.le_of_ble_eq_true rfl) dX10_at_4 h (fun r_1 h => ?_)
  refine e_if_eq (tgt := 20) hX dX10_at_7 (by decide) z_eq h (fun h => ?_) (fun h => ?_)
  · refine s_iconst (v := (-1)) hX dX10_at_20 (by decide) ?_
    exact e_iretp hX hR dX10_at_21 h
  · refine s_iload_n (k := 2) hX dX10_at_10 rfl rfl ?_
    refine s_iconst (v := (nI 1)) hX dX10_at_11 (by decide) ?_
    refine s_bipush (v := (nI 20)) hX dX10_at_12 (by decide) ?_
    refine e_callSp hX (t_X10_in v2 (nI 1) (nI 20) M) mX10_in lX10_132 (by decide) (by decide) rfl rfl (Nat.le_of_ble_eq_true rfl) dX10_at_14 h (fun r_2 h => ?_)
    refine e_if_ne (tgt := 22) hX dX10_at_17 (by decide) z_eq h (fun h => ?_) (fun h => ?_)
    · refine s_aload_n (k := 0) hX dX10_at_22 rfl rfl ?_
      refine s_iload_n (k := 1) hX dX10_at_23 rfl rfl ?_
      refine s_iload_n (k := 2) hX dX10_at_24 rfl rfl ?_
      refine e_callVp hX (t_X10_stoneAt v1 v2 M) mX10_stoneAt lX10_147 (by decide) (by decide) oM0 rfl rfl rfl rfl rfl (Nat.le_of_ble_eq_true rfl) dX10_at_25 h (fun r_3 h => ?_)
      refine s_istore_n (lv' := [(0, .ref (ad 0)), (1, .int v1), (2, .int v2), (3, .int r_3)]) hX dX10_at_28 rfl (by decide) rfl ?_
      refine s_iload_n (k := 3) hX dX10_at_29 rfl rfl ?_
      refine s_iconst (v := (-1)) hX dX10_at_30 (by decide) ?_
      refine e_icmp_ne (tgt := 39) hX dX10_at_31 (by decide) (m_eq (by decide +kernel)) h (fun h => ?_) (fun h => ?_)
      · refine s_iload_n (k := 3) hX dX10_at_39 rfl rfl ?_
        exact e_iretp hX hR dX10_at_40 h
      · refine s_bipush (v := (-2)) hX dX10_at_34 (by decide) ?_
        refine s_goto (tgt := 40) hX dX10_at_36 (by decide) ?_
        exact e_iretp hX hR dX10_at_40 h
    · refine s_iconst (v := (-1)) hX dX10_at_20 (by decide) ?_
      exact e_iretp hX hR dX10_at_21 h
set_option maxHeartbeats 4000000 in
theorem t_X10_beginsRows (v1 : Int32) (M : Mem) : AXv yX10_beginsRows cX10_beginsRows 3 none 0 39 glM (fun ad => [.ref (ad 0), .int v1]) M (f_X10_beginsRows M v1) := by
  intro r0 h
  refine AM.of (by decide) (fun _ => Nat.le_of_ble_eq_true rfl) (fun X ad cI cZ cB hX hR => ?_)
  show V X M [(0, .ref (ad 0)), (1, .int v1)] [] 0
  refine s_iconst (v := (nI 0)) hX dX10_beginsRows_0 (by decide) ?_
  refine s_istore_n (lv' := [(0, .ref (ad 0)), (1, .int v1), (2, .int (nI 0))]) hX dX10_beginsRows_1 rfl (by decide) rfl ?_
  have lp2 : ∀ (N2 : Nat) (M2 : Mem) (y2_2 : Int32), wlp2 (f_X10_beginsRows_B2 v1) N2 M2 y2_2 = some r0 → V X M2 [(0, .ref (ad 0)), (1, .int v1), (2, .int y2_2)] [] 2 := by
    intro N2
    induction N2 with
    | zero => exact fun _ _ h => e_none h
    | succ N2 ih2 =>
      intro M2 y2_2 h
      replace h : f_X10_beginsRows_B2 v1 (wlp2 (f_X10_beginsRows_B2 v1) N2) M2 y2_2 = some r0 := h
      generalize wlp2 (f_X10_beginsRows_B2 v1) N2 = ag2 at ih2 h
      refine s_iload_n (k := 2) hX dX10_beginsRows_2 rfl rfl ?_
      refine s_iload_n (k := 1) hX dX10_beginsRows_3 rfl rfl ?_
      refine e_icmp_ge (tgt := 20) hX dX10_beginsRows_4 (by decide) r_le h (fun h => ?_) (fun h => ?_)
      · exact e_vret hX hR dX10_beginsRows_20 h
      · refine s_aload_n (k := 0) hX dX10_beginsRows_7 rfl rfl ?_
        refine s_get hX fX10_119 oM0 rfl dX10_beginsRows_8 ?_
        refine s_iload_n (k := 2) hX dX10_beginsRows_11 rfl rfl ?_
        refine s_iload_n (k := 2) hX dX10_beginsRows_12 rfl rfl ?_
        refine e_iast hX aM37 dX10_beginsRows_13 h (fun h => ?_)
        refine e_bndM h (fun M_1 h => ?_)
        refine s_iinc (k := 2) (v := (y2_2 + (nI 1))) (lv' := [(0, .ref (ad 0)), (1, .int v1), (2, .int (y2_2 + (nI 1)))]) hX dX10_beginsRows_14 (congrArg (fun z => y2_2 + z) (by decide)) (by decide) rfl rfl ?_
        refine s_goto (tgt := 2) hX dX10_beginsRows_17 (by decide) ?_
        exact ih2 M_1 (y2_2 + (nI 1)) h
  exact lp2 FU M (nI 0) h
set_option maxHeartbeats 4000000 in
theorem t_X10_beginsText (v1 : Int32) (M : Mem) : AXv yX10_beginsText cX10_beginsText 2 none 0 39 glM (fun ad => [.ref (ad 0), .int v1]) M (f_X10_beginsText M v1) := by
  intro r0 h
  refine AM.of (by decide) (fun _ => Nat.le_of_ble_eq_true rfl) (fun X ad cI cZ cB hX hR => ?_)
  show V X M [(0, .ref (ad 0)), (1, .int v1)] [] 0
  refine s_aload_n (k := 0) hX dX10_beginsText_0 rfl rfl ?_
  refine s_iconst (v := (nI 0)) hX dX10_beginsText_1 (by decide) ?_
  refine s_puti (ty := .int) hX fX10_165 oM0 rfl (Nat.le_of_ble_eq_true rfl) ty_10_7 rfl rfl dX10_beginsText_2 ?_
  refine e_bndM h (fun M_1 h => ?_)
  refine s_aload_n (k := 0) hX dX10_beginsText_5 rfl rfl ?_
  refine s_iload_n (k := 1) hX dX10_beginsText_6 rfl rfl ?_
  refine s_puti (ty := .int) hX fX10_168 oM0 rfl (Nat.le_of_ble_eq_true rfl) ty_10_8 rfl rfl dX10_beginsText_7 ?_
  refine e_bndM h (fun M_2 h => ?_)
  refine s_aload_n (k := 0) hX dX10_beginsText_10 rfl rfl ?_
  refine s_iconst (v := (nI 0)) hX dX10_beginsText_11 (by decide) ?_
  refine s_puti (ty := .int) hX fX10_188 oM0 rfl (Nat.le_of_ble_eq_true rfl) ty_10_12 rfl rfl dX10_beginsText_12 ?_
  refine e_bndM h (fun M_3 h => ?_)
  refine s_aload_n (k := 0) hX dX10_beginsText_15 rfl rfl ?_
  refine s_iconst (v := (nI 0)) hX dX10_beginsText_16 (by decide) ?_
  refine s_puti (ty := .int) hX fX10_243 oM0 rfl (Nat.le_of_ble_eq_true rfl) ty_10_14 rfl rfl dX10_beginsText_17 ?_
  refine e_bndM h (fun M_4 h => ?_)
  exact e_vret hX hR dX10_beginsText_20 h
set_option maxHeartbeats 4000000 in
theorem t_X10_min (v0 : Int32) (v1 : Int32) (M : Mem) : AXp yX10_min cX10_min 2 (some .int) 0 39 glM (fun ad => [.int v0, .int v1]) M (f_X10_min v0 v1) := by
  intro r0 h
  refine AM.of (by decide) (fun _ => Nat.le_of_ble_eq_true rfl) (fun X ad cI cZ cB hX hR => ?_)
  show V X M [(0, .int v0), (1, .int v1)] [] 0
  refine s_iload_n (k := 0) hX dX10_min_0 rfl rfl ?_
  refine s_iload_n (k := 1) hX dX10_min_1 rfl rfl ?_
  refine e_icmp_ge (tgt := 9) hX dX10_min_2 (by decide) r_le h (fun h => ?_) (fun h => ?_)
  · refine s_iload_n (k := 1) hX dX10_min_9 rfl rfl ?_
    exact e_iretp hX hR dX10_min_10 h
  · refine s_iload_n (k := 0) hX dX10_min_5 rfl rfl ?_
    refine s_goto (tgt := 10) hX dX10_min_6 (by decide) ?_
    exact e_iretp hX hR dX10_min_10 h
set_option maxHeartbeats 4000000 in
theorem t_X10_max (v0 : Int32) (v1 : Int32) (M : Mem) : AXp yX10_max cX10_max 2 (some .int) 0 39 glM (fun ad => [.int v0, .int v1]) M (f_X10_max v0 v1) := by
  intro r0 h
  refine AM.of (by decide) (fun _ => Nat.le_of_ble_eq_true rfl) (fun X ad cI cZ cB hX hR => ?_)
  show V X M [(0, .int v0), (1, .int v1)] [] 0
  refine s_iload_n (k := 0) hX dX10_max_0 rfl rfl ?_
  refine s_iload_n (k := 1) hX dX10_max_1 rfl rfl ?_
  refine e_icmp_le (tgt := 9) hX dX10_max_2 (by decide) r_le h (fun h => ?_) (fun h => ?_)
  · refine s_iload_n (k := 1) hX dX10_max_9 rfl rfl ?_
    exact e_iretp hX hR dX10_max_10 h
  · refine s_iload_n (k := 0) hX dX10_max_5 rfl rfl ?_
    refine s_goto (tgt := 10) hX dX10_max_6 (by decide) ?_
    exact e_iretp hX hR dX10_max_10 h
set_option maxHeartbeats 4000000 in
theorem t_X10_bounded (v0 : Int32) (v1 : Int32) (v2 : Int32) (M : Mem) : AXp yX10_bounded cX10_bounded 3 (some .int) 1 39 glM (fun ad => [.int v0, .int v1, .int v2]) M (f_X10_bounded v0 v1 v2) := by
  intro r0 h
  refine AM.of (by decide) (fun _ => Nat.le_of_ble_eq_true rfl) (fun X ad cI cZ cB hX hR => ?_)
  show V X M [(0, .int v0), (1, .int v1), (2, .int v2)] [] 0
  refine s_iload_n (k := 1) hX dX10_bounded_0 rfl rfl ?_
  refine s_iload_n (k := 2) hX dX10_bounded_1 rfl rfl ?_
  refine s_iload_n (k := 0) hX dX10_bounded_2 rfl rfl ?_
  refine e_callSp hX (t_X10_min v2 v0 M) mX10_min lX10_125 (by decide) (by decide) rfl rfl (Nat.le_of_ble_eq_true rfl) dX10_bounded_3 h (fun r_1 h => ?_)
  refine e_callSp hX (t_X10_max v1 r_1 M) mX10_max lX10_129 (by decide) (by decide) rfl rfl (Nat.le_of_ble_eq_true rfl) dX10_bounded_6 h (fun r_2 h => ?_)
  exact e_iretp hX hR dX10_bounded_9 h
set_option maxHeartbeats 4000000 in
theorem t_X10_reckon (v0 : Int32) (v1 : Int32) (v2 : Int32) (M : Mem) : AXp yX10_reckon cX10_reckon 3 (some .int) 0 39 glM (fun ad => [.int v0, .int v1, .int v2]) M (f_X10_reckon v0 v1 v2) := by
  intro r0 h
  refine AM.of (by decide) (fun _ => Nat.le_of_ble_eq_true rfl) (fun X ad cI cZ cB hX hR => ?_)
  show V X M [(0, .int v0), (1, .int v1), (2, .int v2)] [] 0
  refine s_iload_n (k := 0) hX dX10_reckon_0 rfl rfl ?_
  refine e_if h (fun c2 h => ?_) (fun c2 h => ?_)
  · refine s_tabIn (tgt := 44) (off := 43) hX dX10_reckon_1 (by omega) (by omega) (by rw [c2]; rfl) (by decide) ?_
    refine s_iload_n (k := 1) hX dX10_reckon_44 rfl rfl ?_
    refine s_iload_n (k := 2) hX dX10_reckon_45 rfl rfl ?_
    refine s_iadd hX dX10_reckon_46 ?_
    exact e_iretp hX hR dX10_reckon_47 h
  refine e_if h (fun c3 h => ?_) (fun c3 h => ?_)
  · refine s_tabIn (tgt := 48) (off := 47) hX dX10_reckon_1 (by omega) (by omega) (by rw [c3]; rfl) (by decide) ?_
    refine s_iload_n (k := 1) hX dX10_reckon_48 rfl rfl ?_
    refine s_iload_n (k := 2) hX dX10_reckon_49 rfl rfl ?_
    refine s_isub hX dX10_reckon_50 ?_
    exact e_iretp hX hR dX10_reckon_51 h
  refine e_if h (fun c4 h => ?_) (fun c4 h => ?_)
  · refine s_tabIn (tgt := 52) (off := 51) hX dX10_reckon_1 (by omega) (by omega) (by rw [c4]; rfl) (by decide) ?_
    refine s_iload_n (k := 1) hX dX10_reckon_52 rfl rfl ?_
    refine s_iload_n (k := 2) hX dX10_reckon_53 rfl rfl ?_
    refine s_imul hX dX10_reckon_54 ?_
    exact e_iretp hX hR dX10_reckon_55 h
  refine e_if h (fun c5 h => ?_) (fun c5 h => ?_)
  · refine s_tabIn (tgt := 56) (off := 55) hX dX10_reckon_1 (by omega) (by omega) (by rw [c5]; rfl) (by decide) ?_
    refine s_iload_n (k := 1) hX dX10_reckon_56 rfl rfl ?_
    refine s_iload_n (k := 2) hX dX10_reckon_57 rfl rfl ?_
    refine e_idiv hX dX10_reckon_58 h (fun h => ?_)
    exact e_iretp hX hR dX10_reckon_59 h
  refine e_if h (fun c6 h => ?_) (fun c6 h => ?_)
  · refine s_tabIn (tgt := 60) (off := 59) hX dX10_reckon_1 (by omega) (by omega) (by rw [c6]; rfl) (by decide) ?_
    refine s_iload_n (k := 1) hX dX10_reckon_60 rfl rfl ?_
    refine s_iload_n (k := 2) hX dX10_reckon_61 rfl rfl ?_
    refine e_irem hX dX10_reckon_62 h (fun h => ?_)
    exact e_iretp hX hR dX10_reckon_63 h
  refine e_if h (fun c7 h => ?_) (fun c7 h => ?_)
  · refine s_tabIn (tgt := 64) (off := 63) hX dX10_reckon_1 (by omega) (by omega) (by rw [c7]; rfl) (by decide) ?_
    refine s_iload_n (k := 1) hX dX10_reckon_64 rfl rfl ?_
    refine s_iload_n (k := 2) hX dX10_reckon_65 rfl rfl ?_
    refine e_icmp_ge (tgt := 73) hX dX10_reckon_66 (by decide) r_le h (fun h => ?_) (fun h => ?_)
    · refine s_iconst (v := (nI 0)) hX dX10_reckon_73 (by decide) ?_
      exact e_iretp hX hR dX10_reckon_74 h
    · refine s_iconst (v := (nI 1)) hX dX10_reckon_69 (by decide) ?_
      refine s_goto (tgt := 74) hX dX10_reckon_70 (by decide) ?_
      exact e_iretp hX hR dX10_reckon_74 h
  refine e_if h (fun c8 h => ?_) (fun c8 h => ?_)
  · refine s_tabIn (tgt := 75) (off := 74) hX dX10_reckon_1 (by omega) (by omega) (by rw [c8]; rfl) (by decide) ?_
    refine s_iload_n (k := 1) hX dX10_reckon_75 rfl rfl ?_
    refine s_iload_n (k := 2) hX dX10_reckon_76 rfl rfl ?_
    refine e_icmp_le (tgt := 84) hX dX10_reckon_77 (by decide) r_le h (fun h => ?_) (fun h => ?_)
    · refine s_iconst (v := (nI 0)) hX dX10_reckon_84 (by decide) ?_
      exact e_iretp hX hR dX10_reckon_85 h
    · refine s_iconst (v := (nI 1)) hX dX10_reckon_80 (by decide) ?_
      refine s_goto (tgt := 85) hX dX10_reckon_81 (by decide) ?_
      exact e_iretp hX hR dX10_reckon_85 h
  refine s_tabOut (tgt := 86) hX dX10_reckon_1 (by omega) (by decide) ?_
  refine s_iload_n (k := 1) hX dX10_reckon_86 rfl rfl ?_
  refine s_iload_n (k := 2) hX dX10_reckon_87 rfl rfl ?_
  refine e_icmp_ne (tgt := 95) hX dX10_reckon_88 (by decide) r_eq h (fun h => ?_) (fun h => ?_)
  · refine s_iconst (v := (nI 0)) hX dX10_reckon_95 (by decide) ?_
    exact e_iretp hX hR dX10_reckon_96 h
  · refine s_iconst (v := (nI 1)) hX dX10_reckon_91 (by decide) ?_
    refine s_goto (tgt := 96) hX dX10_reckon_92 (by decide) ?_
    exact e_iretp hX hR dX10_reckon_96 h
set_option maxHeartbeats 4000000 in
theorem t_X10_comesTo (v1 : Int32) (v2 : Int32) (M : Mem) : AXi yX10_comesTo cX10_comesTo 8 (some .int) 1 39 glM (fun ad => [.ref (ad 0), .int v1, .int v2]) M (f_X10_comesTo M v1 v2) := by
  intro r0 h
  refine AM.of (by decide) (fun _ => Nat.le_of_ble_eq_true rfl) (fun X ad cI cZ cB hX hR => ?_)
  show V X M [(0, .ref (ad 0)), (1, .int v1), (2, .int v2)] [] 0
  refine s_iconst (v := (nI 0)) hX dX10_comesTo_0 (by decide) ?_
  refine s_istore_n (lv' := [(0, .ref (ad 0)), (1, .int v1), (2, .int v2), (3, .int (nI 0))]) hX dX10_comesTo_1 rfl (by decide) rfl ?_
  refine s_sipush (v := (nI 260)) hX dX10_comesTo_2 (by decide) ?_
  refine s_iload_n (k := 1) hX dX10_comesTo_5 rfl rfl ?_
  refine s_sipush (v := (nI 260)) hX dX10_comesTo_6 (by decide) ?_
  refine s_idiv hX dX10_comesTo_9 (by decide) ?_
  refine s_imul hX dX10_comesTo_10 ?_
  refine e_bnd h (fun x_1 h => ?_)
  refine s_istore (lv' := [(0, .ref (ad 0)), (1, .int v1), (2, .int v2), (3, .int (nI 0)), (4, .int x_1)]) hX dX10_comesTo_11 (by decide) rfl ?_
  refine s_iload_n (k := 1) hX dX10_comesTo_13 rfl rfl ?_
  refine s_istore (lv' := [(0, .ref (ad 0)), (1, .int v1), (2, .int v2), (3, .int (nI 0)), (4, .int x_1), (5, .int v1)]) hX dX10_comesTo_14 (by decide) rfl ?_
  have lp16 : ∀ (N16 : Nat) (M16 : Mem) (y3_16 : Int32) (y5_16 : Int32), wlp3 (f_X10_comesTo_B16 v2 x_1) N16 M16 y3_16 y5_16 = some r0 → V X M16 [(0, .ref (ad 0)), (2, .int v2), (3, .int y3_16), (4, .int x_1), (5, .int y5_16)] [] 16 := by
    intro N16
    induction N16 with
    | zero => exact fun _ _ _ h => e_none h
    | succ N16 ih16 =>
      intro M16 y3_16 y5_16 h
      replace h : f_X10_comesTo_B16 v2 x_1 (wlp3 (f_X10_comesTo_B16 v2 x_1) N16) M16 y3_16 y5_16 = some r0 := h
      generalize wlp3 (f_X10_comesTo_B16 v2 x_1) N16 = ag16 at ih16 h
      refine s_iload (k := 4) hX dX10_comesTo_16 rfl ?_
      refine s_iload_n (k := 1) hX dX10_comesTo_18 rfl rfl ?_
      refine e_icmp_ge (tgt := 233) hX dX10_comesTo_19 (by decide) r_le h (fun h => ?_) (fun h => ?_)
      · refine s_aload_n (k := 0) hX dX10_comesTo_233 rfl rfl ?_
        refine s_get hX fX10_59 oM0 rfl dX10_comesTo_234 ?_
        refine s_iconst (v := (nI 0)) hX dX10_comesTo_237 (by decide) ?_
        refine s_ialdN hX aM17 (by decide) dX10_comesTo_238 ?_
        exact e_ireti hX hR dX10_comesTo_239 h
      · refine s_aload_n (k := 0) hX dX10_comesTo_22 rfl rfl ?_
        refine s_get hX fX10_44 oM0 rfl dX10_comesTo_23 ?_
        refine s_iload (k := 4) hX dX10_comesTo_26 rfl ?_
        refine e_iald hX aM12 dX10_comesTo_28 h (fun h => ?_)
        refine s_ldc (v := (nI 1048576)) hX kX10_191 dX10_comesTo_29 ?_
        refine s_idiv hX dX10_comesTo_31 (by decide) ?_
        refine e_bnd h (fun x_2 h => ?_)
        refine s_istore (lv' := [(0, .ref (ad 0)), (2, .int v2), (3, .int y3_16), (4, .int x_1), (5, .int y5_16), (6, .int x_2)]) hX dX10_comesTo_32 (by decide) rfl ?_
        refine s_aload_n (k := 0) hX dX10_comesTo_34 rfl rfl ?_
        refine s_get hX fX10_44 oM0 rfl dX10_comesTo_35 ?_
        refine s_iload (k := 4) hX dX10_comesTo_38 rfl ?_
        refine e_iald hX aM12 dX10_comesTo_40 h (fun h => ?_)
        refine s_ldc (v := (nI 1048576)) hX kX10_191 dX10_comesTo_41 ?_
        refine s_iremL hX dX10_comesTo_43 (by decide) ?_
        refine e_bnd h (fun x_3 h => ?_)
        refine s_istore (lv' := [(0, .ref (ad 0)), (2, .int v2), (3, .int y3_16), (4, .int x_1), (5, .int y5_16), (6, .int x_2), (7, .int x_3)]) hX dX10_comesTo_44 (by decide) rfl ?_
        refine s_iload (k := 4) hX dX10_comesTo_46 rfl ?_
        refine s_iconst (v := (nI 1)) hX dX10_comesTo_48 (by decide) ?_
        refine s_iadd hX dX10_comesTo_49 ?_
        refine s_istore (lv' := [(0, .ref (ad 0)), (2, .int v2), (3, .int y3_16), (4, .int x_1), (6, .int x_2), (7, .int x_3), (5, .int (y5_16 + (nI 1)))]) hX dX10_comesTo_50 (by decide) rfl ?_
        refine s_iload (k := 4) hX dX10_comesTo_52 rfl ?_
        have j63 : f_X10_comesTo_L63 ag16 M16 y3_16 y5_16 x_2 x_3 = some r0 → V X M16 [(0, .ref (ad 0)), (2, .int v2), (3, .int y3_16), (4, .int x_1), (5, .int (y5_16 + (nI 1))), (6, .int x_2), (7, .int x_3)] [] 63 := by
          intro  h
          refine s_aload_n (k := 0) hX dX10_comesTo_63 rfl rfl ?_
          refine s_get hX fX10_59 oM0 rfl dX10_comesTo_64 ?_
          refine s_iload_n (k := 2) hX dX10_comesTo_67 rfl rfl ?_
          refine s_iload (k := 5) hX dX10_comesTo_68 rfl ?_
          have j85 : ∀ (t0_85 : Int32), f_X10_comesTo_L85 ag16 M16 y3_16 y5_16 t0_85 = some r0 → V X M16 [(0, .ref (ad 0)), (2, .int v2), (3, .int y3_16), (4, .int x_1), (5, .int (y5_16 + (nI 1)))] [.int t0_85, .int y3_16, .ref (ad 17)] 85 := by
            intro t0_85 h
            refine e_iast hX aM17 dX10_comesTo_85 h (fun h => ?_)
            refine e_bndM h (fun M_4 h => ?_)
            refine s_iload_n (k := 2) hX dX10_comesTo_86 rfl rfl ?_
            refine s_iconst (v := (nI 1)) hX dX10_comesTo_87 (by decide) ?_
            refine s_iadd hX dX10_comesTo_88 ?_
            refine s_istore_n (lv' := [(0, .ref (ad 0)), (2, .int v2), (4, .int x_1), (5, .int (y5_16 + (nI 1))), (3, .int (y3_16 + (nI 1)))]) hX dX10_comesTo_89 rfl (by decide) rfl ?_
            refine s_goto (tgt := 230) hX dX10_comesTo_90 (by decide) ?_
            refine s_goto (tgt := 16) hX dX10_comesTo_230 (by decide) ?_
            refine s_loc [0, 1, 4, 2, 3] rfl ?_
            exact ih16 M_4 (y3_16 + (nI 1)) (y5_16 + (nI 1)) h
          refine e_if_ne (tgt := 78) hX dX10_comesTo_70 (by decide) z_eq h (fun h => ?_) (fun h => ?_)
          · refine s_aload_n (k := 0) hX dX10_comesTo_78 rfl rfl ?_
            refine s_get hX fX10_62 oM0 rfl dX10_comesTo_79 ?_
            refine s_iload (k := 6) hX dX10_comesTo_82 rfl ?_
            refine e_iald hX aM18 dX10_comesTo_84 h (fun h => ?_)
            refine s_loc [0, 1, 2, 3, 4] rfl ?_
            exact j85 (M16 18 (ix x_3)) h
          · refine s_iload (k := 6) hX dX10_comesTo_73 rfl ?_
            refine s_goto (tgt := 85) hX dX10_comesTo_75 (by decide) ?_
            refine s_loc [0, 1, 2, 3, 4] rfl ?_
            exact j85 x_3 h
        refine e_if_eq (tgt := 63) hX dX10_comesTo_54 (by decide) z_eq h (fun h => ?_) (fun h => ?_)
        · refine s_loc [0, 1, 2, 3, 6, 4, 5] rfl ?_
          exact j63 h
        · refine s_iload (k := 4) hX dX10_comesTo_57 rfl ?_
          refine s_iconst (v := (nI 1)) hX dX10_comesTo_59 (by decide) ?_
          refine e_icmp_ne (tgt := 93) hX dX10_comesTo_60 (by decide) (m_eq (by decide +kernel)) h (fun h => ?_) (fun h => ?_)
          · refine s_iload (k := 4) hX dX10_comesTo_93 rfl ?_
            refine s_bipush (v := (nI 10)) hX dX10_comesTo_95 (by decide) ?_
            refine e_icmp_ne (tgt := 121) hX dX10_comesTo_97 (by decide) (m_eq (by decide +kernel)) h (fun h => ?_) (fun h => ?_)
            · refine s_iload (k := 4) hX dX10_comesTo_121 rfl ?_
              refine s_bipush (v := (nI 11)) hX dX10_comesTo_123 (by decide) ?_
              have j135 : f_X10_comesTo_L135 x_1 ag16 M16 y3_16 y5_16 x_2 x_3 = some r0 → V X M16 [(0, .ref (ad 0)), (2, .int v2), (3, .int y3_16), (4, .int x_1), (5, .int (y5_16 + (nI 1))), (6, .int x_2), (7, .int x_3)] [] 135 := by
                intro  h
                refine s_aload_n (k := 0) hX dX10_comesTo_135 rfl rfl ?_
                refine s_get hX fX10_59 oM0 rfl dX10_comesTo_136 ?_
                refine s_iload_n (k := 2) hX dX10_comesTo_139 rfl rfl ?_
                refine s_iconst (v := (nI 1)) hX dX10_comesTo_140 (by decide) ?_
                refine s_isub hX dX10_comesTo_141 ?_
                refine e_iald hX aM17 dX10_comesTo_142 h (fun h => ?_)
                refine s_iload (k := 5) hX dX10_comesTo_143 rfl ?_
                refine s_bipush (v := (nI 12)) hX dX10_comesTo_145 (by decide) ?_
                have j155 : ∀ (t0_155 : Int32), f_X10_comesTo_L155 x_1 ag16 M16 y3_16 y5_16 x_3 t0_155 = some r0 → V X M16 [(0, .ref (ad 0)), (2, .int v2), (3, .int y3_16), (4, .int x_1), (5, .int (y5_16 + (nI 1))), (7, .int x_3)] [.int t0_155, .int (M16 17 (ix (y3_16 - (nI 1))))] 155 := by
                  intro t0_155 h
                  refine e_icmp_ne (tgt := 168) hX dX10_comesTo_155 (by decide) r_eq h (fun h => ?_) (fun h => ?_)
                  · refine s_iload_n (k := 2) hX dX10_comesTo_168 rfl rfl ?_
                    refine s_iconst (v := (nI 1)) hX dX10_comesTo_169 (by decide) ?_
                    refine s_isub hX dX10_comesTo_170 ?_
                    refine s_istore_n (lv' := [(0, .ref (ad 0)), (2, .int v2), (4, .int x_1), (5, .int (y5_16 + (nI 1))), (7, .int x_3), (3, .int (y3_16 - (nI 1)))]) hX dX10_comesTo_171 rfl (by decide) rfl ?_
                    refine s_goto (tgt := 230) hX dX10_comesTo_172 (by decide) ?_
                    refine s_goto (tgt := 16) hX dX10_comesTo_230 (by decide) ?_
                    refine s_loc [0, 1, 5, 2, 3] rfl ?_
                    exact ih16 M16 (y3_16 - (nI 1)) (y5_16 + (nI 1)) h
                  · refine s_iload (k := 3) hX dX10_comesTo_158 rfl ?_
                    refine s_iload (k := 5) hX dX10_comesTo_160 rfl ?_
                    refine s_iadd hX dX10_comesTo_162 ?_
                    refine e_bnd h (fun x_5 h => ?_)
                    refine s_istore (lv' := [(0, .ref (ad 0)), (2, .int v2), (3, .int y3_16), (4, .int x_1), (7, .int x_3), (5, .int x_5)]) hX dX10_comesTo_163 (by decide) rfl ?_
                    refine s_goto (tgt := 230) hX dX10_comesTo_165 (by decide) ?_
                    refine s_goto (tgt := 16) hX dX10_comesTo_230 (by decide) ?_
                    refine s_loc [0, 1, 2, 3, 5] rfl ?_
                    exact ih16 M16 y3_16 x_5 h
                refine e_icmp_ne (tgt := 154) hX dX10_comesTo_147 (by decide) (m_eq (by decide +kernel)) h (fun h => ?_) (fun h => ?_)
                · refine s_iconst (v := (nI 0)) hX dX10_comesTo_154 (by decide) ?_
                  refine s_loc [0, 1, 2, 3, 4, 6] rfl ?_
                  exact j155 (nI 0) h
                · refine s_iconst (v := (nI 1)) hX dX10_comesTo_150 (by decide) ?_
                  refine s_goto (tgt := 155) hX dX10_comesTo_151 (by decide) ?_
                  refine s_loc [0, 1, 2, 3, 4, 6] rfl ?_
                  exact j155 (nI 1) h
              refine e_icmp_eq (tgt := 135) hX dX10_comesTo_125 (by decide) (m_eq (by decide +kernel)) h (fun h => ?_) (fun h => ?_)
              · refine s_loc [0, 1, 2, 3, 6, 4, 5] rfl ?_
                exact j135 h
              · refine s_iload (k := 4) hX dX10_comesTo_128 rfl ?_
                refine s_bipush (v := (nI 12)) hX dX10_comesTo_130 (by decide) ?_
                refine e_icmp_ne (tgt := 175) hX dX10_comesTo_132 (by decide) (m_eq (by decide +kernel)) h (fun h => ?_) (fun h => ?_)
                · refine s_iload_n (k := 2) hX dX10_comesTo_175 rfl rfl ?_
                  refine s_iconst (v := (nI 1)) hX dX10_comesTo_176 (by decide) ?_
                  refine s_isub hX dX10_comesTo_177 ?_
                  refine s_istore_n (lv' := [(0, .ref (ad 0)), (2, .int v2), (4, .int x_1), (6, .int x_2), (7, .int x_3), (5, .int (y5_16 + (nI 1))), (3, .int (y3_16 - (nI 1)))]) hX dX10_comesTo_178 rfl (by decide) rfl ?_
                  refine s_iload (k := 3) hX dX10_comesTo_179 rfl ?_
                  refine s_iconst (v := (nI 5)) hX dX10_comesTo_181 (by decide) ?_
                  have j203 : f_X10_comesTo_L203 ag16 M16 y3_16 y5_16 x_2 = some r0 → V X M16 [(0, .ref (ad 0)), (2, .int v2), (3, .int (y3_16 - (nI 1))), (4, .int x_1), (5, .int (y5_16 + (nI 1))), (6, .int x_2)] [] 203 := by
                    intro  h
                    refine s_aload_n (k := 0) hX dX10_comesTo_203 rfl rfl ?_
                    refine s_get hX fX10_59 oM0 rfl dX10_comesTo_204 ?_
                    refine s_iload_n (k := 2) hX dX10_comesTo_207 rfl rfl ?_
                    refine s_iconst (v := (nI 1)) hX dX10_comesTo_208 (by decide) ?_
                    refine s_isub hX dX10_comesTo_209 ?_
                    refine s_iload (k := 5) hX dX10_comesTo_210 rfl ?_
                    refine s_aload_n (k := 0) hX dX10_comesTo_212 rfl rfl ?_
                    refine s_get hX fX10_59 oM0 rfl dX10_comesTo_213 ?_
                    refine s_iload_n (k := 2) hX dX10_comesTo_216 rfl rfl ?_
                    refine s_iconst (v := (nI 1)) hX dX10_comesTo_217 (by decide) ?_
                    refine s_isub hX dX10_comesTo_218 ?_
                    refine e_iald hX aM17 dX10_comesTo_219 h (fun h => ?_)
                    refine s_aload_n (k := 0) hX dX10_comesTo_220 rfl rfl ?_
                    refine s_get hX fX10_59 oM0 rfl dX10_comesTo_221 ?_
                    refine s_iload_n (k := 2) hX dX10_comesTo_224 rfl rfl ?_
                    refine e_iald hX aM17 dX10_comesTo_225 h (fun h => ?_)
                    refine e_callSp hX (t_X10_reckon x_2 (M16 17 (ix ((y3_16 - (nI 1)) - (nI 1)))) (M16 17 (ix (y3_16 - (nI 1)))) M16) mX10_reckon lX10_261 (by decide) (by decide) rfl rfl (Nat.le_of_ble_eq_true rfl) dX10_comesTo_226 h (fun r_6 h => ?_)
                    refine e_iast hX aM17 dX10_comesTo_229 h (fun h => ?_)
                    refine e_bndM h (fun M_7 h => ?_)
                    refine s_goto (tgt := 16) hX dX10_comesTo_230 (by decide) ?_
                    refine s_loc [0, 1, 2, 3, 4] rfl ?_
                    exact ih16 M_7 (y3_16 - (nI 1)) (y5_16 + (nI 1)) h
                  have j192 : f_X10_comesTo_L192 ag16 M16 y3_16 y5_16 x_2 = some r0 → V X M16 [(0, .ref (ad 0)), (2, .int v2), (3, .int (y3_16 - (nI 1))), (4, .int x_1), (5, .int (y5_16 + (nI 1))), (6, .int x_2)] [] 192 := by
                    intro  h
                    refine s_aload_n (k := 0) hX dX10_comesTo_192 rfl rfl ?_
                    refine s_get hX fX10_59 oM0 rfl dX10_comesTo_193 ?_
                    refine s_iload_n (k := 2) hX dX10_comesTo_196 rfl rfl ?_
                    refine e_iald hX aM17 dX10_comesTo_197 h (fun h => ?_)
                    refine e_if_ne (tgt := 203) hX dX10_comesTo_198 (by decide) z_eq h (fun h => ?_) (fun h => ?_)
                    · exact j203 h
                    · refine s_iconst (v := (nI 0)) hX dX10_comesTo_201 (by decide) ?_
                      exact e_ireti hX hR dX10_comesTo_202 h
                  refine e_icmp_eq (tgt := 192) hX dX10_comesTo_182 (by decide) (m_eq (by decide +kernel)) h (fun h => ?_) (fun h => ?_)
                  · refine s_loc [0, 1, 6, 2, 5, 3] rfl ?_
                    exact j192 h
                  · refine s_iload (k := 3) hX dX10_comesTo_185 rfl ?_
                    refine s_bipush (v := (nI 6)) hX dX10_comesTo_187 (by decide) ?_
                    refine e_icmp_ne (tgt := 203) hX dX10_comesTo_189 (by decide) (m_eq (by decide +kernel)) h (fun h => ?_) (fun h => ?_)
                    · refine s_loc [0, 1, 6, 2, 5, 3] rfl ?_
                      exact j203 h
                    · refine s_loc [0, 1, 6, 2, 5, 3] rfl ?_
                      exact j192 h
                · refine s_loc [0, 1, 2, 3, 6, 4, 5] rfl ?_
                  exact j135 h
            · refine s_aload_n (k := 0) hX dX10_comesTo_100 rfl rfl ?_
              refine s_get hX fX10_59 oM0 rfl dX10_comesTo_101 ?_
              refine s_iload_n (k := 2) hX dX10_comesTo_104 rfl rfl ?_
              refine s_iconst (v := (nI 1)) hX dX10_comesTo_105 (by decide) ?_
              refine s_isub hX dX10_comesTo_106 ?_
              refine s_iconst (v := (nI 1)) hX dX10_comesTo_107 (by decide) ?_
              refine s_aload_n (k := 0) hX dX10_comesTo_108 rfl rfl ?_
              refine s_get hX fX10_59 oM0 rfl dX10_comesTo_109 ?_
              refine s_iload_n (k := 2) hX dX10_comesTo_112 rfl rfl ?_
              refine s_iconst (v := (nI 1)) hX dX10_comesTo_113 (by decide) ?_
              refine s_isub hX dX10_comesTo_114 ?_
              refine e_iald hX aM17 dX10_comesTo_115 h (fun h => ?_)
              refine s_isub hX dX10_comesTo_116 ?_
              refine e_iast hX aM17 dX10_comesTo_117 h (fun h => ?_)
              refine e_bndM h (fun M_8 h => ?_)
              refine s_goto (tgt := 230) hX dX10_comesTo_118 (by decide) ?_
              refine s_goto (tgt := 16) hX dX10_comesTo_230 (by decide) ?_
              refine s_loc [0, 1, 2, 3, 6] rfl ?_
              exact ih16 M_8 y3_16 (y5_16 + (nI 1)) h
          · refine s_loc [0, 1, 2, 3, 6, 4, 5] rfl ?_
            exact j63 h
  refine s_loc [0, 2, 3, 4, 5] rfl ?_
  exact lp16 FU M (nI 0) v1 h
set_option maxHeartbeats 4000000 in
theorem t_X10_byLaw (v1 : Int32) (v2 : Int32) (M : Mem) : AXi yX10_byLaw cX10_byLaw 5 (some .int) 2 39 glM (fun ad => [.ref (ad 0), .int v1, .int v2]) M (f_X10_byLaw M v1 v2) := by
  intro r0 h
  refine AM.of (by decide) (fun _ => Nat.le_of_ble_eq_true rfl) (fun X ad cI cZ cB hX hR => ?_)
  show V X M [(0, .ref (ad 0)), (1, .int v1), (2, .int v2)] [] 0
  refine s_iconst (v := (nI 0)) hX dX10_byLaw_0 (by decide) ?_
  refine s_istore_n (lv' := [(0, .ref (ad 0)), (1, .int v1), (2, .int v2), (3, .int (nI 0))]) hX dX10_byLaw_1 rfl (by decide) rfl ?_
  have lp2 : ∀ (N2 : Nat) (M2 : Mem) (y3_2 : Int32), wlp2 (f_X10_byLaw_B2 v1 v2) N2 M2 y3_2 = some r0 → V X M2 [(0, .ref (ad 0)), (1, .int v1), (2, .int v2), (3, .int y3_2)] [] 2 := by
    intro N2
    induction N2 with
    | zero => exact fun _ _ h => e_none h
    | succ N2 ih2 =>
      intro M2 y3_2 h
      replace h : f_X10_byLaw_B2 v1 v2 (wlp2 (f_X10_byLaw_B2 v1 v2) N2) M2 y3_2 = some r0 := h
      generalize wlp2 (f_X10_byLaw_B2 v1 v2) N2 = ag2 at ih2 h
      refine s_iload_n (k := 3) hX dX10_byLaw_2 rfl rfl ?_
      refine s_aload_n (k := 0) hX dX10_byLaw_3 rfl rfl ?_
      refine s_get hX fX10_258 oM0 rfl dX10_byLaw_4 ?_
      refine e_icmp_ge (tgt := 89) hX dX10_byLaw_7 (by decide) r_le h (fun h => ?_) (fun h => ?_)
      · refine s_iconst (v := (nI 0)) hX dX10_byLaw_89 (by decide) ?_
        exact e_ireti hX hR dX10_byLaw_90 h
      · refine s_aload_n (k := 0) hX dX10_byLaw_10 rfl rfl ?_
        refine s_get hX fX10_47 oM0 rfl dX10_byLaw_11 ?_
        refine s_iload_n (k := 3) hX dX10_byLaw_14 rfl rfl ?_
        refine e_iald hX aM13 dX10_byLaw_15 h (fun h => ?_)
        refine s_iload_n (k := 1) hX dX10_byLaw_16 rfl rfl ?_
        refine e_icmp_ne (tgt := 83) hX dX10_byLaw_17 (by decide) r_eq h (fun h => ?_) (fun h => ?_)
        · refine s_iinc (k := 3) (v := (y3_2 + (nI 1))) (lv' := [(0, .ref (ad 0)), (1, .int v1), (2, .int v2), (3, .int (y3_2 + (nI 1)))]) hX dX10_byLaw_83 (congrArg (fun z => y3_2 + z) (by decide)) (by decide) rfl rfl ?_
          refine s_goto (tgt := 2) hX dX10_byLaw_86 (by decide) ?_
          exact ih2 M2 (y3_2 + (nI 1)) h
        · refine s_aload_n (k := 0) hX dX10_byLaw_20 rfl rfl ?_
          refine s_aload_n (k := 0) hX dX10_byLaw_21 rfl rfl ?_
          refine s_get hX fX10_53 oM0 rfl dX10_byLaw_22 ?_
          refine s_iload_n (k := 3) hX dX10_byLaw_25 rfl rfl ?_
          refine e_iald hX aM15 dX10_byLaw_26 h (fun h => ?_)
          refine s_aload_n (k := 0) hX dX10_byLaw_27 rfl rfl ?_
          refine s_get hX fX10_56 oM0 rfl dX10_byLaw_28 ?_
          refine s_iload_n (k := 3) hX dX10_byLaw_31 rfl rfl ?_
          refine e_iald hX aM16 dX10_byLaw_32 h (fun h => ?_)
          refine e_callVi hX (t_X10_comesTo (M2 15 (ix y3_2)) (M2 16 (ix y3_2)) M2) mX10_comesTo lX10_265 (by decide) (by decide) oM0 rfl rfl rfl rfl rfl (Nat.le_of_ble_eq_true rfl) dX10_byLaw_33 h (fun r_1 M_2 h => ?_)
          refine s_iconst (v := (nI 1)) hX dX10_byLaw_36 (by decide) ?_
          have j43 : f_X10_byLaw_L43 v2 y3_2 M_2 = some r0 → V X M_2 [(0, .ref (ad 0)), (2, .int v2), (3, .int y3_2)] [] 43 := by
            intro  h
            refine s_aload_n (k := 0) hX dX10_byLaw_43 rfl rfl ?_
            refine s_aload_n (k := 0) hX dX10_byLaw_44 rfl rfl ?_
            refine s_get hX fX10_50 oM0 rfl dX10_byLaw_45 ?_
            refine s_iload_n (k := 2) hX dX10_byLaw_48 rfl rfl ?_
            refine e_iald hX aM14 dX10_byLaw_49 h (fun h => ?_)
            refine s_aload_n (k := 0) hX dX10_byLaw_50 rfl rfl ?_
            refine s_get hX fX10_53 oM0 rfl dX10_byLaw_51 ?_
            refine s_iload_n (k := 2) hX dX10_byLaw_54 rfl rfl ?_
            refine e_iald hX aM15 dX10_byLaw_55 h (fun h => ?_)
            refine e_callVi hX (t_X10_comesTo (M_2 14 (ix y3_2)) (M_2 15 (ix y3_2)) M_2) mX10_comesTo lX10_265 (by decide) (by decide) oM0 rfl rfl rfl rfl rfl (Nat.le_of_ble_eq_true rfl) dX10_byLaw_56 h (fun r_3 M_4 h => ?_)
            refine s_istore (lv' := [(0, .ref (ad 0)), (2, .int v2), (3, .int y3_2), (4, .int r_3)]) hX dX10_byLaw_59 (by decide) rfl ?_
            refine s_iload (k := 3) hX dX10_byLaw_61 rfl ?_
            refine e_if_ge (tgt := 70) hX dX10_byLaw_63 (by decide) z_ge h (fun h => ?_) (fun h => ?_)
            · refine s_iload (k := 3) hX dX10_byLaw_70 rfl ?_
              refine s_iload_n (k := 1) hX dX10_byLaw_72 rfl rfl ?_
              refine e_icmp_le (tgt := 80) hX dX10_byLaw_73 (by decide) r_le h (fun h => ?_) (fun h => ?_)
              · refine s_iload (k := 3) hX dX10_byLaw_80 rfl ?_
                exact e_ireti hX hR dX10_byLaw_82 h
              · refine s_iload_n (k := 1) hX dX10_byLaw_76 rfl rfl ?_
                refine s_goto (tgt := 82) hX dX10_byLaw_77 (by decide) ?_
                exact e_ireti hX hR dX10_byLaw_82 h
            · refine s_iconst (v := (nI 0)) hX dX10_byLaw_66 (by decide) ?_
              refine s_goto (tgt := 82) hX dX10_byLaw_67 (by decide) ?_
              exact e_ireti hX hR dX10_byLaw_82 h
          refine e_icmp_eq (tgt := 43) hX dX10_byLaw_37 (by decide) (m_eq (by decide +kernel)) h (fun h => ?_) (fun h => ?_)
          · refine s_loc [0, 2, 3] rfl ?_
            exact j43 h
          · refine s_goto (tgt := 83) hX dX10_byLaw_40 (by decide) ?_
            refine s_iinc (k := 3) (v := (y3_2 + (nI 1))) (lv' := [(0, .ref (ad 0)), (1, .int v1), (2, .int v2), (3, .int (y3_2 + (nI 1)))]) hX dX10_byLaw_83 (congrArg (fun z => y3_2 + z) (by decide)) (by decide) rfl rfl ?_
            refine s_goto (tgt := 2) hX dX10_byLaw_86 (by decide) ?_
            exact ih2 M_2 (y3_2 + (nI 1)) h
  exact lp2 FU M (nI 0) h
set_option maxHeartbeats 4000000 in
theorem t_X10_isDry (v1 : Int32) (M : Mem) : AXp yX10_isDry cX10_isDry 2 (some .boolean) 0 39 glM (fun ad => [.ref (ad 0), .int v1]) M (f_X10_isDry M v1) := by
  intro r0 h
  refine AM.of (by decide) (fun _ => Nat.le_of_ble_eq_true rfl) (fun X ad cI cZ cB hX hR => ?_)
  show V X M [(0, .ref (ad 0)), (1, .int v1)] [] 0
  refine s_aload_n (k := 0) hX dX10_isDry_0 rfl rfl ?_
  refine s_get hX fX10_7 oM0 rfl dX10_isDry_1 ?_
  refine s_iconst (v := (nI 0)) hX dX10_isDry_4 (by decide) ?_
  refine s_iload_n (k := 1) hX dX10_isDry_5 rfl rfl ?_
  refine s_iadd hX dX10_isDry_6 ?_
  refine s_top (zadd _) ?_
  refine e_iald hX aM1 dX10_isDry_7 h (fun h => ?_)
  refine s_iconst (v := (nI 1)) hX dX10_isDry_8 (by decide) ?_
  refine e_icmp_ne (tgt := 29) hX dX10_isDry_9 (by decide) (m_eq (by decide +kernel)) h (fun h => ?_) (fun h => ?_)
  · refine s_iconst (v := (nI 0)) hX dX10_isDry_29 (by decide) ?_
    exact e_zretpL hX hR dX10_isDry_30 (by decide) h
  · refine s_aload_n (k := 0) hX dX10_isDry_12 rfl rfl ?_
    refine s_get hX fX10_7 oM0 rfl dX10_isDry_13 ?_
    refine s_sipush (v := (nI 160)) hX dX10_isDry_16 (by decide) ?_
    refine s_iload_n (k := 1) hX dX10_isDry_19 rfl rfl ?_
    refine s_iadd hX dX10_isDry_20 ?_
    refine e_iald hX aM1 dX10_isDry_21 h (fun h => ?_)
    refine e_if_ne (tgt := 29) hX dX10_isDry_22 (by decide) z_eq h (fun h => ?_) (fun h => ?_)
    · refine s_iconst (v := (nI 0)) hX dX10_isDry_29 (by decide) ?_
      exact e_zretpL hX hR dX10_isDry_30 (by decide) h
    · refine s_iconst (v := (nI 1)) hX dX10_isDry_25 (by decide) ?_
      refine s_goto (tgt := 30) hX dX10_isDry_26 (by decide) ?_
      exact e_zretpL hX hR dX10_isDry_30 (by decide) h
set_option maxHeartbeats 4000000 in
theorem t_X10_canStep (v1 : Int32) (v2 : Int32) (v3 : Int32) (M : Mem) : AXp yX10_canStep cX10_canStep 4 (some .boolean) 1 39 glM (fun ad => [.ref (ad 0), .int v1, .int v2, .int v3]) M (f_X10_canStep M v1 v2 v3) := by
  intro r0 h
  refine AM.of (by decide) (fun _ => Nat.le_of_ble_eq_true rfl) (fun X ad cI cZ cB hX hR => ?_)
  show V X M [(0, .ref (ad 0)), (1, .int v1), (2, .int v2), (3, .int v3)] [] 0
  refine s_aload_n (k := 0) hX dX10_canStep_0 rfl rfl ?_
  refine s_iload_n (k := 1) hX dX10_canStep_1 rfl rfl ?_
  refine e_callVp hX (t_X10_isDry v1 M) mX10_isDry lX10_319 (by decide) (by decide) oM0 rfl rfl rfl rfl rfl (Nat.le_of_ble_eq_true rfl) dX10_canStep_2 h (fun r_1 h => ?_)
  refine e_if_eq (tgt := 32) hX dX10_canStep_5 (by decide) z_eq h (fun h => ?_) (fun h => ?_)
  · refine s_iconst (v := (nI 0)) hX dX10_canStep_32 (by decide) ?_
    exact e_zretpL hX hR dX10_canStep_33 (by decide) h
  · refine s_aload_n (k := 0) hX dX10_canStep_8 rfl rfl ?_
    refine s_iload_n (k := 2) hX dX10_canStep_9 rfl rfl ?_
    refine e_callVp hX (t_X10_isDry v2 M) mX10_isDry lX10_319 (by decide) (by decide) oM0 rfl rfl rfl rfl rfl (Nat.le_of_ble_eq_true rfl) dX10_canStep_10 h (fun r_2 h => ?_)
    refine e_if_eq (tgt := 32) hX dX10_canStep_13 (by decide) z_eq h (fun h => ?_) (fun h => ?_)
    · refine s_iconst (v := (nI 0)) hX dX10_canStep_32 (by decide) ?_
      exact e_zretpL hX hR dX10_canStep_33 (by decide) h
    · refine s_aload_n (k := 0) hX dX10_canStep_16 rfl rfl ?_
      refine s_iload_n (k := 1) hX dX10_canStep_17 rfl rfl ?_
      refine s_iload_n (k := 2) hX dX10_canStep_18 rfl rfl ?_
      refine e_callVp hX (t_X10_apart v1 v2 M) mX10_apart lX10_144 (by decide) (by decide) oM0 rfl rfl rfl rfl rfl (Nat.le_of_ble_eq_true rfl) dX10_canStep_19 h (fun r_3 h => ?_)
      refine s_iload_n (k := 3) hX dX10_canStep_22 rfl rfl ?_
      refine s_iload_n (k := 3) hX dX10_canStep_23 rfl rfl ?_
      refine s_imul hX dX10_canStep_24 ?_
      refine e_icmp_gt (tgt := 32) hX dX10_canStep_25 (by decide) r_lt h (fun h => ?_) (fun h => ?_)
      · refine s_iconst (v := (nI 0)) hX dX10_canStep_32 (by decide) ?_
        exact e_zretpL hX hR dX10_canStep_33 (by decide) h
      · refine s_iconst (v := (nI 1)) hX dX10_canStep_28 (by decide) ?_
        refine s_goto (tgt := 33) hX dX10_canStep_29 (by decide) ?_
        exact e_zretpL hX hR dX10_canStep_33 (by decide) h
set_option maxHeartbeats 4000000 in
theorem t_X10_isStone (v1 : Int32) (M : Mem) : AXp yX10_isStone cX10_isStone 2 (some .boolean) 1 39 glM (fun ad => [.ref (ad 0), .int v1]) M (f_X10_isStone M v1) := by
  intro r0 h
  refine AM.of (by decide) (fun _ => Nat.le_of_ble_eq_true rfl) (fun X ad cI cZ cB hX hR => ?_)
  show V X M [(0, .ref (ad 0)), (1, .int v1)] [] 0
  refine s_iload_n (k := 1) hX dX10_isStone_0 rfl rfl ?_
  refine s_iconst (v := (nI 0)) hX dX10_isStone_1 (by decide) ?_
  refine s_bipush (v := (nI 39)) hX dX10_isStone_2 (by decide) ?_
  refine e_callSp hX (t_X10_in v1 (nI 0) (nI 39) M) mX10_in lX10_132 (by decide) (by decide) rfl rfl (Nat.le_of_ble_eq_true rfl) dX10_isStone_4 h (fun r_1 h => ?_)
  refine e_if_eq (tgt := 26) hX dX10_isStone_7 (by decide) z_eq h (fun h => ?_) (fun h => ?_)
  · refine s_iconst (v := (nI 0)) hX dX10_isStone_26 (by decide) ?_
    exact e_zretpL hX hR dX10_isStone_27 (by decide) h
  · refine s_aload_n (k := 0) hX dX10_isStone_10 rfl rfl ?_
    refine s_get hX fX10_7 oM0 rfl dX10_isStone_11 ?_
    refine s_iconst (v := (nI 0)) hX dX10_isStone_14 (by decide) ?_
    refine s_iload_n (k := 1) hX dX10_isStone_15 rfl rfl ?_
    refine s_iadd hX dX10_isStone_16 ?_
    refine s_top (zadd _) ?_
    refine e_iald hX aM1 dX10_isStone_17 h (fun h => ?_)
    refine s_iconst (v := (nI 1)) hX dX10_isStone_18 (by decide) ?_
    refine e_icmp_ne (tgt := 26) hX dX10_isStone_19 (by decide) (m_eq (by decide +kernel)) h (fun h => ?_) (fun h => ?_)
    · refine s_iconst (v := (nI 0)) hX dX10_isStone_26 (by decide) ?_
      exact e_zretpL hX hR dX10_isStone_27 (by decide) h
    · refine s_iconst (v := (nI 1)) hX dX10_isStone_22 (by decide) ?_
      refine s_goto (tgt := 27) hX dX10_isStone_23 (by decide) ?_
      exact e_zretpL hX hR dX10_isStone_27 (by decide) h
