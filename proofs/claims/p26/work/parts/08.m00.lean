theorem zcdX10_apart_0 : decode cX10_apart 0 = .ok (.aload_n 0, 1) ∧ decode cX10_apart 1 = .ok (.getfield 7, 3) ∧ decode cX10_apart 4 = .ok (.bipush 40, 2) ∧ decode cX10_apart 6 = .ok (.iload_n 1, 1) ∧ decode cX10_apart 7 = .ok (.iadd, 1) ∧ decode cX10_apart 8 = .ok (.iaload, 1) ∧ decode cX10_apart 9 = .ok (.aload_n 0, 1) ∧ decode cX10_apart 10 = .ok (.getfield 7, 3) := by decide +kernel
theorem zcdX10_apart_13 : decode cX10_apart 13 = .ok (.bipush 40, 2) ∧ decode cX10_apart 15 = .ok (.iload_n 2, 1) ∧ decode cX10_apart 16 = .ok (.iadd, 1) ∧ decode cX10_apart 17 = .ok (.iaload, 1) ∧ decode cX10_apart 18 = .ok (.isub, 1) ∧ decode cX10_apart 19 = .ok (.istore_n 3, 1) ∧ decode cX10_apart 20 = .ok (.aload_n 0, 1) ∧ decode cX10_apart 21 = .ok (.getfield 7, 3) := by decide +kernel
theorem zcdX10_apart_24 : decode cX10_apart 24 = .ok (.bipush 80, 2) ∧ decode cX10_apart 26 = .ok (.iload_n 1, 1) ∧ decode cX10_apart 27 = .ok (.iadd, 1) ∧ decode cX10_apart 28 = .ok (.iaload, 1) ∧ decode cX10_apart 29 = .ok (.aload_n 0, 1) ∧ decode cX10_apart 30 = .ok (.getfield 7, 3) ∧ decode cX10_apart 33 = .ok (.bipush 80, 2) ∧ decode cX10_apart 35 = .ok (.iload_n 2, 1) := by decide +kernel
theorem zcdX10_apart_36 : decode cX10_apart 36 = .ok (.iadd, 1) ∧ decode cX10_apart 37 = .ok (.iaload, 1) ∧ decode cX10_apart 38 = .ok (.isub, 1) ∧ decode cX10_apart 39 = .ok (.istore 4, 2) ∧ decode cX10_apart 41 = .ok (.iload_n 3, 1) ∧ decode cX10_apart 42 = .ok (.iload_n 3, 1) ∧ decode cX10_apart 43 = .ok (.imul, 1) ∧ decode cX10_apart 44 = .ok (.iload 4, 2) := by decide +kernel
theorem zcdX10_apart_46 : decode cX10_apart 46 = .ok (.iload 4, 2) ∧ decode cX10_apart 48 = .ok (.imul, 1) ∧ decode cX10_apart 49 = .ok (.iadd, 1) ∧ decode cX10_apart 50 = .ok (.ireturn, 1) ∧ decode cX10_areInLine 0 = .ok (.aload_n 0, 1) ∧ decode cX10_areInLine 1 = .ok (.getfield 7, 3) ∧ decode cX10_areInLine 4 = .ok (.bipush 40, 2) ∧ decode cX10_areInLine 6 = .ok (.iload_n 2, 1) := by decide +kernel
theorem zcdX10_areInLine_7 : decode cX10_areInLine 7 = .ok (.iadd, 1) ∧ decode cX10_areInLine 8 = .ok (.iaload, 1) ∧ decode cX10_areInLine 9 = .ok (.aload_n 0, 1) ∧ decode cX10_areInLine 10 = .ok (.getfield 7, 3) ∧ decode cX10_areInLine 13 = .ok (.bipush 40, 2) ∧ decode cX10_areInLine 15 = .ok (.iload_n 1, 1) ∧ decode cX10_areInLine 16 = .ok (.iadd, 1) ∧ decode cX10_areInLine 17 = .ok (.iaload, 1) := by decide +kernel
theorem zcdX10_areInLine_18 : decode cX10_areInLine 18 = .ok (.isub, 1) ∧ decode cX10_areInLine 19 = .ok (.istore 4, 2) ∧ decode cX10_areInLine 21 = .ok (.aload_n 0, 1) ∧ decode cX10_areInLine 22 = .ok (.getfield 7, 3) ∧ decode cX10_areInLine 25 = .ok (.bipush 80, 2) ∧ decode cX10_areInLine 27 = .ok (.iload_n 2, 1) ∧ decode cX10_areInLine 28 = .ok (.iadd, 1) ∧ decode cX10_areInLine 29 = .ok (.iaload, 1) := by decide +kernel
theorem zcdX10_areInLine_30 : decode cX10_areInLine 30 = .ok (.aload_n 0, 1) ∧ decode cX10_areInLine 31 = .ok (.getfield 7, 3) ∧ decode cX10_areInLine 34 = .ok (.bipush 80, 2) ∧ decode cX10_areInLine 36 = .ok (.iload_n 1, 1) ∧ decode cX10_areInLine 37 = .ok (.iadd, 1) ∧ decode cX10_areInLine 38 = .ok (.iaload, 1) ∧ decode cX10_areInLine 39 = .ok (.isub, 1) ∧ decode cX10_areInLine 40 = .ok (.istore 5, 2) := by decide +kernel
theorem zcdX10_areInLine_42 : decode cX10_areInLine 42 = .ok (.iload 4, 2) ∧ decode cX10_areInLine 44 = .ok (.aload_n 0, 1) ∧ decode cX10_areInLine 45 = .ok (.getfield 7, 3) ∧ decode cX10_areInLine 48 = .ok (.bipush 80, 2) ∧ decode cX10_areInLine 50 = .ok (.iload_n 3, 1) ∧ decode cX10_areInLine 51 = .ok (.iadd, 1) ∧ decode cX10_areInLine 52 = .ok (.iaload, 1) ∧ decode cX10_areInLine 53 = .ok (.aload_n 0, 1) := by decide +kernel
theorem zcdX10_areInLine_54 : decode cX10_areInLine 54 = .ok (.getfield 7, 3) ∧ decode cX10_areInLine 57 = .ok (.bipush 80, 2) ∧ decode cX10_areInLine 59 = .ok (.iload_n 1, 1) ∧ decode cX10_areInLine 60 = .ok (.iadd, 1) ∧ decode cX10_areInLine 61 = .ok (.iaload, 1) ∧ decode cX10_areInLine 62 = .ok (.isub, 1) ∧ decode cX10_areInLine 63 = .ok (.imul, 1) ∧ decode cX10_areInLine 64 = .ok (.iload 5, 2) := by decide +kernel
theorem zcdX10_areInLine_66 : decode cX10_areInLine 66 = .ok (.aload_n 0, 1) ∧ decode cX10_areInLine 67 = .ok (.getfield 7, 3) ∧ decode cX10_areInLine 70 = .ok (.bipush 40, 2) ∧ decode cX10_areInLine 72 = .ok (.iload_n 3, 1) ∧ decode cX10_areInLine 73 = .ok (.iadd, 1) ∧ decode cX10_areInLine 74 = .ok (.iaload, 1) ∧ decode cX10_areInLine 75 = .ok (.aload_n 0, 1) ∧ decode cX10_areInLine 76 = .ok (.getfield 7, 3) := by decide +kernel
theorem zcdX10_areInLine_79 : decode cX10_areInLine 79 = .ok (.bipush 40, 2) ∧ decode cX10_areInLine 81 = .ok (.iload_n 1, 1) ∧ decode cX10_areInLine 82 = .ok (.iadd, 1) ∧ decode cX10_areInLine 83 = .ok (.iaload, 1) ∧ decode cX10_areInLine 84 = .ok (.isub, 1) ∧ decode cX10_areInLine 85 = .ok (.imul, 1) ∧ decode cX10_areInLine 86 = .ok (.if_icmp .ne 7, 3) ∧ decode cX10_areInLine 89 = .ok (.iconst 1, 1) := by decide +kernel
theorem zcdX10_areInLine_90 : decode cX10_areInLine 90 = .ok (.goto 4, 3) ∧ decode cX10_areInLine 93 = .ok (.iconst 0, 1) ∧ decode cX10_areInLine 94 = .ok (.ireturn, 1) ∧ decode cX10_in 0 = .ok (.iload_n 0, 1) ∧ decode cX10_in 1 = .ok (.iload_n 1, 1) ∧ decode cX10_in 2 = .ok (.if_icmp .lt 12, 3) ∧ decode cX10_in 5 = .ok (.iload_n 0, 1) ∧ decode cX10_in 6 = .ok (.iload_n 2, 1) := by decide +kernel
theorem zcdX10_in_7 : decode cX10_in 7 = .ok (.if_icmp .gt 7, 3) ∧ decode cX10_in 10 = .ok (.iconst 1, 1) ∧ decode cX10_in 11 = .ok (.goto 4, 3) ∧ decode cX10_in 14 = .ok (.iconst 0, 1) ∧ decode cX10_in 15 = .ok (.ireturn, 1) ∧ decode cX10_stoneAt 0 = .ok (.iconst 0, 1) ∧ decode cX10_stoneAt 1 = .ok (.istore_n 3, 1) ∧ decode cX10_stoneAt 2 = .ok (.iload_n 3, 1) := by decide +kernel
theorem zcdX10_stoneAt_3 : decode cX10_stoneAt 3 = .ok (.bipush 40, 2) ∧ decode cX10_stoneAt 5 = .ok (.if_icmp .ge 49, 3) ∧ decode cX10_stoneAt 8 = .ok (.aload_n 0, 1) ∧ decode cX10_stoneAt 9 = .ok (.getfield 7, 3) ∧ decode cX10_stoneAt 12 = .ok (.iconst 0, 1) ∧ decode cX10_stoneAt 13 = .ok (.iload_n 3, 1) ∧ decode cX10_stoneAt 14 = .ok (.iadd, 1) ∧ decode cX10_stoneAt 15 = .ok (.iaload, 1) := by decide +kernel
theorem zcdX10_stoneAt_16 : decode cX10_stoneAt 16 = .ok (.iconst 1, 1) ∧ decode cX10_stoneAt 17 = .ok (.if_icmp .ne 31, 3) ∧ decode cX10_stoneAt 20 = .ok (.aload_n 0, 1) ∧ decode cX10_stoneAt 21 = .ok (.getfield 7, 3) ∧ decode cX10_stoneAt 24 = .ok (.bipush 40, 2) ∧ decode cX10_stoneAt 26 = .ok (.iload_n 3, 1) ∧ decode cX10_stoneAt 27 = .ok (.iadd, 1) ∧ decode cX10_stoneAt 28 = .ok (.iaload, 1) := by decide +kernel
theorem zcdX10_stoneAt_29 : decode cX10_stoneAt 29 = .ok (.iload_n 1, 1) ∧ decode cX10_stoneAt 30 = .ok (.if_icmp .ne 18, 3) ∧ decode cX10_stoneAt 33 = .ok (.aload_n 0, 1) ∧ decode cX10_stoneAt 34 = .ok (.getfield 7, 3) ∧ decode cX10_stoneAt 37 = .ok (.bipush 80, 2) ∧ decode cX10_stoneAt 39 = .ok (.iload_n 3, 1) ∧ decode cX10_stoneAt 40 = .ok (.iadd, 1) ∧ decode cX10_stoneAt 41 = .ok (.iaload, 1) := by decide +kernel
theorem zcdX10_stoneAt_42 : decode cX10_stoneAt 42 = .ok (.iload_n 2, 1) ∧ decode cX10_stoneAt 43 = .ok (.if_icmp .ne 5, 3) ∧ decode cX10_stoneAt 46 = .ok (.iload_n 3, 1) ∧ decode cX10_stoneAt 47 = .ok (.ireturn, 1) ∧ decode cX10_stoneAt 48 = .ok (.iinc 3 1, 3) ∧ decode cX10_stoneAt 51 = .ok (.goto (-49), 3) ∧ decode cX10_stoneAt 54 = .ok (.iconst (-1), 1) ∧ decode cX10_stoneAt 55 = .ok (.ireturn, 1) := by decide +kernel
theorem zcdX10_at_0 : decode cX10_at 0 = .ok (.iload_n 1, 1) ∧ decode cX10_at 1 = .ok (.iconst 0, 1) ∧ decode cX10_at 2 = .ok (.bipush 39, 2) ∧ decode cX10_at 4 = .ok (.invokestatic 132, 3) ∧ decode cX10_at 7 = .ok (.ifCond .eq 13, 3) ∧ decode cX10_at 10 = .ok (.iload_n 2, 1) ∧ decode cX10_at 11 = .ok (.iconst 1, 1) ∧ decode cX10_at 12 = .ok (.bipush 20, 2) := by decide +kernel
theorem zcdX10_at_14 : decode cX10_at 14 = .ok (.invokestatic 132, 3) ∧ decode cX10_at 17 = .ok (.ifCond .ne 5, 3) ∧ decode cX10_at 20 = .ok (.iconst (-1), 1) ∧ decode cX10_at 21 = .ok (.ireturn, 1) ∧ decode cX10_at 22 = .ok (.aload_n 0, 1) ∧ decode cX10_at 23 = .ok (.iload_n 1, 1) ∧ decode cX10_at 24 = .ok (.iload_n 2, 1) ∧ decode cX10_at 25 = .ok (.invokevirtual 147, 3) := by decide +kernel
theorem zcdX10_at_28 : decode cX10_at 28 = .ok (.istore_n 3, 1) ∧ decode cX10_at 29 = .ok (.iload_n 3, 1) ∧ decode cX10_at 30 = .ok (.iconst (-1), 1) ∧ decode cX10_at 31 = .ok (.if_icmp .ne 8, 3) ∧ decode cX10_at 34 = .ok (.bipush (-2), 2) ∧ decode cX10_at 36 = .ok (.goto 4, 3) ∧ decode cX10_at 39 = .ok (.iload_n 3, 1) ∧ decode cX10_at 40 = .ok (.ireturn, 1) := by decide +kernel
theorem zcdX10_beginsRows_0 : decode cX10_beginsRows 0 = .ok (.iconst 0, 1) ∧ decode cX10_beginsRows 1 = .ok (.istore_n 2, 1) ∧ decode cX10_beginsRows 2 = .ok (.iload_n 2, 1) ∧ decode cX10_beginsRows 3 = .ok (.iload_n 1, 1) ∧ decode cX10_beginsRows 4 = .ok (.if_icmp .ge 16, 3) ∧ decode cX10_beginsRows 7 = .ok (.aload_n 0, 1) ∧ decode cX10_beginsRows 8 = .ok (.getfield 119, 3) ∧ decode cX10_beginsRows 11 = .ok (.iload_n 2, 1) := by decide +kernel
theorem zcdX10_beginsRows_12 : decode cX10_beginsRows 12 = .ok (.iload_n 2, 1) ∧ decode cX10_beginsRows 13 = .ok (.iastore, 1) ∧ decode cX10_beginsRows 14 = .ok (.iinc 2 1, 3) ∧ decode cX10_beginsRows 17 = .ok (.goto (-15), 3) ∧ decode cX10_beginsRows 20 = .ok (.return_, 1) ∧ decode cX10_beginsText 0 = .ok (.aload_n 0, 1) ∧ decode cX10_beginsText 1 = .ok (.iconst 0, 1) ∧ decode cX10_beginsText 2 = .ok (.putfield 165, 3) := by decide +kernel
theorem zcdX10_beginsText_5 : decode cX10_beginsText 5 = .ok (.aload_n 0, 1) ∧ decode cX10_beginsText 6 = .ok (.iload_n 1, 1) ∧ decode cX10_beginsText 7 = .ok (.putfield 168, 3) ∧ decode cX10_beginsText 10 = .ok (.aload_n 0, 1) ∧ decode cX10_beginsText 11 = .ok (.iconst 0, 1) ∧ decode cX10_beginsText 12 = .ok (.putfield 188, 3) ∧ decode cX10_beginsText 15 = .ok (.aload_n 0, 1) ∧ decode cX10_beginsText 16 = .ok (.iconst 0, 1) := by decide +kernel
theorem zcdX10_beginsText_17 : decode cX10_beginsText 17 = .ok (.putfield 243, 3) ∧ decode cX10_beginsText 20 = .ok (.return_, 1) ∧ decode cX10_min 0 = .ok (.iload_n 0, 1) ∧ decode cX10_min 1 = .ok (.iload_n 1, 1) ∧ decode cX10_min 2 = .ok (.if_icmp .ge 7, 3) ∧ decode cX10_min 5 = .ok (.iload_n 0, 1) ∧ decode cX10_min 6 = .ok (.goto 4, 3) ∧ decode cX10_min 9 = .ok (.iload_n 1, 1) := by decide +kernel
theorem zcdX10_min_10 : decode cX10_min 10 = .ok (.ireturn, 1) ∧ decode cX10_max 0 = .ok (.iload_n 0, 1) ∧ decode cX10_max 1 = .ok (.iload_n 1, 1) ∧ decode cX10_max 2 = .ok (.if_icmp .le 7, 3) ∧ decode cX10_max 5 = .ok (.iload_n 0, 1) ∧ decode cX10_max 6 = .ok (.goto 4, 3) ∧ decode cX10_max 9 = .ok (.iload_n 1, 1) ∧ decode cX10_max 10 = .ok (.ireturn, 1) := by decide +kernel
theorem zcdX10_bounded_0 : decode cX10_bounded 0 = .ok (.iload_n 1, 1) ∧ decode cX10_bounded 1 = .ok (.iload_n 2, 1) ∧ decode cX10_bounded 2 = .ok (.iload_n 0, 1) ∧ decode cX10_bounded 3 = .ok (.invokestatic 125, 3) ∧ decode cX10_bounded 6 = .ok (.invokestatic 129, 3) ∧ decode cX10_bounded 9 = .ok (.ireturn, 1) ∧ decode cX10_reckon 0 = .ok (.iload_n 0, 1) ∧ decode cX10_reckon 1 = .ok (.tableswitch 85 2 8 #[43, 47, 51, 55, 59, 63, 74], 43) := by decide +kernel
theorem zcdX10_reckon_44 : decode cX10_reckon 44 = .ok (.iload_n 1, 1) ∧ decode cX10_reckon 45 = .ok (.iload_n 2, 1) ∧ decode cX10_reckon 46 = .ok (.iadd, 1) ∧ decode cX10_reckon 47 = .ok (.ireturn, 1) ∧ decode cX10_reckon 48 = .ok (.iload_n 1, 1) ∧ decode cX10_reckon 49 = .ok (.iload_n 2, 1) ∧ decode cX10_reckon 50 = .ok (.isub, 1) ∧ decode cX10_reckon 51 = .ok (.ireturn, 1) := by decide +kernel
theorem zcdX10_reckon_52 : decode cX10_reckon 52 = .ok (.iload_n 1, 1) ∧ decode cX10_reckon 53 = .ok (.iload_n 2, 1) ∧ decode cX10_reckon 54 = .ok (.imul, 1) ∧ decode cX10_reckon 55 = .ok (.ireturn, 1) ∧ decode cX10_reckon 56 = .ok (.iload_n 1, 1) ∧ decode cX10_reckon 57 = .ok (.iload_n 2, 1) ∧ decode cX10_reckon 58 = .ok (.idiv, 1) ∧ decode cX10_reckon 59 = .ok (.ireturn, 1) := by decide +kernel
theorem zcdX10_reckon_60 : decode cX10_reckon 60 = .ok (.iload_n 1, 1) ∧ decode cX10_reckon 61 = .ok (.iload_n 2, 1) ∧ decode cX10_reckon 62 = .ok (.irem, 1) ∧ decode cX10_reckon 63 = .ok (.ireturn, 1) ∧ decode cX10_reckon 64 = .ok (.iload_n 1, 1) ∧ decode cX10_reckon 65 = .ok (.iload_n 2, 1) ∧ decode cX10_reckon 66 = .ok (.if_icmp .ge 7, 3) ∧ decode cX10_reckon 69 = .ok (.iconst 1, 1) := by decide +kernel
theorem zcdX10_reckon_70 : decode cX10_reckon 70 = .ok (.goto 4, 3) ∧ decode cX10_reckon 73 = .ok (.iconst 0, 1) ∧ decode cX10_reckon 74 = .ok (.ireturn, 1) ∧ decode cX10_reckon 75 = .ok (.iload_n 1, 1) ∧ decode cX10_reckon 76 = .ok (.iload_n 2, 1) ∧ decode cX10_reckon 77 = .ok (.if_icmp .le 7, 3) ∧ decode cX10_reckon 80 = .ok (.iconst 1, 1) ∧ decode cX10_reckon 81 = .ok (.goto 4, 3) := by decide +kernel
theorem zcdX10_reckon_84 : decode cX10_reckon 84 = .ok (.iconst 0, 1) ∧ decode cX10_reckon 85 = .ok (.ireturn, 1) ∧ decode cX10_reckon 86 = .ok (.iload_n 1, 1) ∧ decode cX10_reckon 87 = .ok (.iload_n 2, 1) ∧ decode cX10_reckon 88 = .ok (.if_icmp .ne 7, 3) ∧ decode cX10_reckon 91 = .ok (.iconst 1, 1) ∧ decode cX10_reckon 92 = .ok (.goto 4, 3) ∧ decode cX10_reckon 95 = .ok (.iconst 0, 1) := by decide +kernel
theorem zcdX10_reckon_96 : decode cX10_reckon 96 = .ok (.ireturn, 1) ∧ decode cX10_comesTo 0 = .ok (.iconst 0, 1) ∧ decode cX10_comesTo 1 = .ok (.istore_n 3, 1) ∧ decode cX10_comesTo 2 = .ok (.sipush 260, 3) ∧ decode cX10_comesTo 5 = .ok (.iload_n 1, 1) ∧ decode cX10_comesTo 6 = .ok (.sipush 260, 3) ∧ decode cX10_comesTo 9 = .ok (.idiv, 1) ∧ decode cX10_comesTo 10 = .ok (.imul, 1) := by decide +kernel
theorem zcdX10_comesTo_11 : decode cX10_comesTo 11 = .ok (.istore 4, 2) ∧ decode cX10_comesTo 13 = .ok (.iload_n 1, 1) ∧ decode cX10_comesTo 14 = .ok (.istore 5, 2) ∧ decode cX10_comesTo 16 = .ok (.iload 5, 2) ∧ decode cX10_comesTo 18 = .ok (.iload_n 2, 1) ∧ decode cX10_comesTo 19 = .ok (.if_icmp .ge 214, 3) ∧ decode cX10_comesTo 22 = .ok (.aload_n 0, 1) ∧ decode cX10_comesTo 23 = .ok (.getfield 44, 3) := by decide +kernel
theorem zcdX10_comesTo_26 : decode cX10_comesTo 26 = .ok (.iload 5, 2) ∧ decode cX10_comesTo 28 = .ok (.iaload, 1) ∧ decode cX10_comesTo 29 = .ok (.ldc 191, 2) ∧ decode cX10_comesTo 31 = .ok (.idiv, 1) ∧ decode cX10_comesTo 32 = .ok (.istore 6, 2) ∧ decode cX10_comesTo 34 = .ok (.aload_n 0, 1) ∧ decode cX10_comesTo 35 = .ok (.getfield 44, 3) ∧ decode cX10_comesTo 38 = .ok (.iload 5, 2) := by decide +kernel
theorem zcdX10_comesTo_40 : decode cX10_comesTo 40 = .ok (.iaload, 1) ∧ decode cX10_comesTo 41 = .ok (.ldc 191, 2) ∧ decode cX10_comesTo 43 = .ok (.irem, 1) ∧ decode cX10_comesTo 44 = .ok (.istore 7, 2) ∧ decode cX10_comesTo 46 = .ok (.iload 5, 2) ∧ decode cX10_comesTo 48 = .ok (.iconst 1, 1) ∧ decode cX10_comesTo 49 = .ok (.iadd, 1) ∧ decode cX10_comesTo 50 = .ok (.istore 5, 2) := by decide +kernel
theorem zcdX10_comesTo_52 : decode cX10_comesTo 52 = .ok (.iload 6, 2) ∧ decode cX10_comesTo 54 = .ok (.ifCond .eq 9, 3) ∧ decode cX10_comesTo 57 = .ok (.iload 6, 2) ∧ decode cX10_comesTo 59 = .ok (.iconst 1, 1) ∧ decode cX10_comesTo 60 = .ok (.if_icmp .ne 33, 3) ∧ decode cX10_comesTo 63 = .ok (.aload_n 0, 1) ∧ decode cX10_comesTo 64 = .ok (.getfield 59, 3) ∧ decode cX10_comesTo 67 = .ok (.iload_n 3, 1) := by decide +kernel
theorem zcdX10_comesTo_68 : decode cX10_comesTo 68 = .ok (.iload 6, 2) ∧ decode cX10_comesTo 70 = .ok (.ifCond .ne 8, 3) ∧ decode cX10_comesTo 73 = .ok (.iload 7, 2) ∧ decode cX10_comesTo 75 = .ok (.goto 10, 3) ∧ decode cX10_comesTo 78 = .ok (.aload_n 0, 1) ∧ decode cX10_comesTo 79 = .ok (.getfield 62, 3) ∧ decode cX10_comesTo 82 = .ok (.iload 7, 2) ∧ decode cX10_comesTo 84 = .ok (.iaload, 1) := by decide +kernel
theorem zcdX10_comesTo_85 : decode cX10_comesTo 85 = .ok (.iastore, 1) ∧ decode cX10_comesTo 86 = .ok (.iload_n 3, 1) ∧ decode cX10_comesTo 87 = .ok (.iconst 1, 1) ∧ decode cX10_comesTo 88 = .ok (.iadd, 1) ∧ decode cX10_comesTo 89 = .ok (.istore_n 3, 1) ∧ decode cX10_comesTo 90 = .ok (.goto 140, 3) ∧ decode cX10_comesTo 93 = .ok (.iload 6, 2) ∧ decode cX10_comesTo 95 = .ok (.bipush 10, 2) := by decide +kernel
theorem zcdX10_comesTo_97 : decode cX10_comesTo 97 = .ok (.if_icmp .ne 24, 3) ∧ decode cX10_comesTo 100 = .ok (.aload_n 0, 1) ∧ decode cX10_comesTo 101 = .ok (.getfield 59, 3) ∧ decode cX10_comesTo 104 = .ok (.iload_n 3, 1) ∧ decode cX10_comesTo 105 = .ok (.iconst 1, 1) ∧ decode cX10_comesTo 106 = .ok (.isub, 1) ∧ decode cX10_comesTo 107 = .ok (.iconst 1, 1) ∧ decode cX10_comesTo 108 = .ok (.aload_n 0, 1) := by decide +kernel
theorem zcdX10_comesTo_109 : decode cX10_comesTo 109 = .ok (.getfield 59, 3) ∧ decode cX10_comesTo 112 = .ok (.iload_n 3, 1) ∧ decode cX10_comesTo 113 = .ok (.iconst 1, 1) ∧ decode cX10_comesTo 114 = .ok (.isub, 1) ∧ decode cX10_comesTo 115 = .ok (.iaload, 1) ∧ decode cX10_comesTo 116 = .ok (.isub, 1) ∧ decode cX10_comesTo 117 = .ok (.iastore, 1) ∧ decode cX10_comesTo 118 = .ok (.goto 112, 3) := by decide +kernel
theorem zcdX10_comesTo_121 : decode cX10_comesTo 121 = .ok (.iload 6, 2) ∧ decode cX10_comesTo 123 = .ok (.bipush 11, 2) ∧ decode cX10_comesTo 125 = .ok (.if_icmp .eq 10, 3) ∧ decode cX10_comesTo 128 = .ok (.iload 6, 2) ∧ decode cX10_comesTo 130 = .ok (.bipush 12, 2) ∧ decode cX10_comesTo 132 = .ok (.if_icmp .ne 43, 3) ∧ decode cX10_comesTo 135 = .ok (.aload_n 0, 1) ∧ decode cX10_comesTo 136 = .ok (.getfield 59, 3) := by decide +kernel
theorem zcdX10_comesTo_139 : decode cX10_comesTo 139 = .ok (.iload_n 3, 1) ∧ decode cX10_comesTo 140 = .ok (.iconst 1, 1) ∧ decode cX10_comesTo 141 = .ok (.isub, 1) ∧ decode cX10_comesTo 142 = .ok (.iaload, 1) ∧ decode cX10_comesTo 143 = .ok (.iload 6, 2) ∧ decode cX10_comesTo 145 = .ok (.bipush 12, 2) ∧ decode cX10_comesTo 147 = .ok (.if_icmp .ne 7, 3) ∧ decode cX10_comesTo 150 = .ok (.iconst 1, 1) := by decide +kernel
theorem zcdX10_comesTo_151 : decode cX10_comesTo 151 = .ok (.goto 4, 3) ∧ decode cX10_comesTo 154 = .ok (.iconst 0, 1) ∧ decode cX10_comesTo 155 = .ok (.if_icmp .ne 13, 3) ∧ decode cX10_comesTo 158 = .ok (.iload 4, 2) ∧ decode cX10_comesTo 160 = .ok (.iload 7, 2) ∧ decode cX10_comesTo 162 = .ok (.iadd, 1) ∧ decode cX10_comesTo 163 = .ok (.istore 5, 2) ∧ decode cX10_comesTo 165 = .ok (.goto 65, 3) := by decide +kernel
theorem zcdX10_comesTo_168 : decode cX10_comesTo 168 = .ok (.iload_n 3, 1) ∧ decode cX10_comesTo 169 = .ok (.iconst 1, 1) ∧ decode cX10_comesTo 170 = .ok (.isub, 1) ∧ decode cX10_comesTo 171 = .ok (.istore_n 3, 1) ∧ decode cX10_comesTo 172 = .ok (.goto 58, 3) ∧ decode cX10_comesTo 175 = .ok (.iload_n 3, 1) ∧ decode cX10_comesTo 176 = .ok (.iconst 1, 1) ∧ decode cX10_comesTo 177 = .ok (.isub, 1) := by decide +kernel
theorem zcdX10_comesTo_178 : decode cX10_comesTo 178 = .ok (.istore_n 3, 1) ∧ decode cX10_comesTo 179 = .ok (.iload 6, 2) ∧ decode cX10_comesTo 181 = .ok (.iconst 5, 1) ∧ decode cX10_comesTo 182 = .ok (.if_icmp .eq 10, 3) ∧ decode cX10_comesTo 185 = .ok (.iload 6, 2) ∧ decode cX10_comesTo 187 = .ok (.bipush 6, 2) ∧ decode cX10_comesTo 189 = .ok (.if_icmp .ne 14, 3) ∧ decode cX10_comesTo 192 = .ok (.aload_n 0, 1) := by decide +kernel
theorem zcdX10_comesTo_193 : decode cX10_comesTo 193 = .ok (.getfield 59, 3) ∧ decode cX10_comesTo 196 = .ok (.iload_n 3, 1) ∧ decode cX10_comesTo 197 = .ok (.iaload, 1) ∧ decode cX10_comesTo 198 = .ok (.ifCond .ne 5, 3) ∧ decode cX10_comesTo 201 = .ok (.iconst 0, 1) ∧ decode cX10_comesTo 202 = .ok (.ireturn, 1) ∧ decode cX10_comesTo 203 = .ok (.aload_n 0, 1) ∧ decode cX10_comesTo 204 = .ok (.getfield 59, 3) := by decide +kernel
theorem zcdX10_comesTo_207 : decode cX10_comesTo 207 = .ok (.iload_n 3, 1) ∧ decode cX10_comesTo 208 = .ok (.iconst 1, 1) ∧ decode cX10_comesTo 209 = .ok (.isub, 1) ∧ decode cX10_comesTo 210 = .ok (.iload 6, 2) ∧ decode cX10_comesTo 212 = .ok (.aload_n 0, 1) ∧ decode cX10_comesTo 213 = .ok (.getfield 59, 3) ∧ decode cX10_comesTo 216 = .ok (.iload_n 3, 1) ∧ decode cX10_comesTo 217 = .ok (.iconst 1, 1) := by decide +kernel
theorem zcdX10_comesTo_218 : decode cX10_comesTo 218 = .ok (.isub, 1) ∧ decode cX10_comesTo 219 = .ok (.iaload, 1) ∧ decode cX10_comesTo 220 = .ok (.aload_n 0, 1) ∧ decode cX10_comesTo 221 = .ok (.getfield 59, 3) ∧ decode cX10_comesTo 224 = .ok (.iload_n 3, 1) ∧ decode cX10_comesTo 225 = .ok (.iaload, 1) ∧ decode cX10_comesTo 226 = .ok (.invokestatic 261, 3) ∧ decode cX10_comesTo 229 = .ok (.iastore, 1) := by decide +kernel
theorem zcdX10_comesTo_230 : decode cX10_comesTo 230 = .ok (.goto (-214), 3) ∧ decode cX10_comesTo 233 = .ok (.aload_n 0, 1) ∧ decode cX10_comesTo 234 = .ok (.getfield 59, 3) ∧ decode cX10_comesTo 237 = .ok (.iconst 0, 1) ∧ decode cX10_comesTo 238 = .ok (.iaload, 1) ∧ decode cX10_comesTo 239 = .ok (.ireturn, 1) ∧ decode cX10_byLaw 0 = .ok (.iconst 0, 1) ∧ decode cX10_byLaw 1 = .ok (.istore_n 3, 1) := by decide +kernel
theorem zcdX10_byLaw_2 : decode cX10_byLaw 2 = .ok (.iload_n 3, 1) ∧ decode cX10_byLaw 3 = .ok (.aload_n 0, 1) ∧ decode cX10_byLaw 4 = .ok (.getfield 258, 3) ∧ decode cX10_byLaw 7 = .ok (.if_icmp .ge 82, 3) ∧ decode cX10_byLaw 10 = .ok (.aload_n 0, 1) ∧ decode cX10_byLaw 11 = .ok (.getfield 47, 3) ∧ decode cX10_byLaw 14 = .ok (.iload_n 3, 1) ∧ decode cX10_byLaw 15 = .ok (.iaload, 1) := by decide +kernel
theorem zcdX10_byLaw_16 : decode cX10_byLaw 16 = .ok (.iload_n 1, 1) ∧ decode cX10_byLaw 17 = .ok (.if_icmp .ne 66, 3) ∧ decode cX10_byLaw 20 = .ok (.aload_n 0, 1) ∧ decode cX10_byLaw 21 = .ok (.aload_n 0, 1) ∧ decode cX10_byLaw 22 = .ok (.getfield 53, 3) ∧ decode cX10_byLaw 25 = .ok (.iload_n 3, 1) ∧ decode cX10_byLaw 26 = .ok (.iaload, 1) ∧ decode cX10_byLaw 27 = .ok (.aload_n 0, 1) := by decide +kernel
theorem zcdX10_byLaw_28 : decode cX10_byLaw 28 = .ok (.getfield 56, 3) ∧ decode cX10_byLaw 31 = .ok (.iload_n 3, 1) ∧ decode cX10_byLaw 32 = .ok (.iaload, 1) ∧ decode cX10_byLaw 33 = .ok (.invokevirtual 265, 3) ∧ decode cX10_byLaw 36 = .ok (.iconst 1, 1) ∧ decode cX10_byLaw 37 = .ok (.if_icmp .eq 6, 3) ∧ decode cX10_byLaw 40 = .ok (.goto 43, 3) ∧ decode cX10_byLaw 43 = .ok (.aload_n 0, 1) := by decide +kernel
theorem zcdX10_byLaw_44 : decode cX10_byLaw 44 = .ok (.aload_n 0, 1) ∧ decode cX10_byLaw 45 = .ok (.getfield 50, 3) ∧ decode cX10_byLaw 48 = .ok (.iload_n 3, 1) ∧ decode cX10_byLaw 49 = .ok (.iaload, 1) ∧ decode cX10_byLaw 50 = .ok (.aload_n 0, 1) ∧ decode cX10_byLaw 51 = .ok (.getfield 53, 3) ∧ decode cX10_byLaw 54 = .ok (.iload_n 3, 1) ∧ decode cX10_byLaw 55 = .ok (.iaload, 1) := by decide +kernel
theorem zcdX10_byLaw_56 : decode cX10_byLaw 56 = .ok (.invokevirtual 265, 3) ∧ decode cX10_byLaw 59 = .ok (.istore 4, 2) ∧ decode cX10_byLaw 61 = .ok (.iload 4, 2) ∧ decode cX10_byLaw 63 = .ok (.ifCond .ge 7, 3) ∧ decode cX10_byLaw 66 = .ok (.iconst 0, 1) ∧ decode cX10_byLaw 67 = .ok (.goto 15, 3) ∧ decode cX10_byLaw 70 = .ok (.iload 4, 2) ∧ decode cX10_byLaw 72 = .ok (.iload_n 2, 1) := by decide +kernel
theorem zcdX10_byLaw_73 : decode cX10_byLaw 73 = .ok (.if_icmp .le 7, 3) ∧ decode cX10_byLaw 76 = .ok (.iload_n 2, 1) ∧ decode cX10_byLaw 77 = .ok (.goto 5, 3) ∧ decode cX10_byLaw 80 = .ok (.iload 4, 2) ∧ decode cX10_byLaw 82 = .ok (.ireturn, 1) ∧ decode cX10_byLaw 83 = .ok (.iinc 3 1, 3) ∧ decode cX10_byLaw 86 = .ok (.goto (-84), 3) ∧ decode cX10_byLaw 89 = .ok (.iconst 0, 1) := by decide +kernel
theorem zcdX10_byLaw_90 : decode cX10_byLaw 90 = .ok (.ireturn, 1) ∧ decode cX10_isDry 0 = .ok (.aload_n 0, 1) ∧ decode cX10_isDry 1 = .ok (.getfield 7, 3) ∧ decode cX10_isDry 4 = .ok (.iconst 0, 1) ∧ decode cX10_isDry 5 = .ok (.iload_n 1, 1) ∧ decode cX10_isDry 6 = .ok (.iadd, 1) ∧ decode cX10_isDry 7 = .ok (.iaload, 1) ∧ decode cX10_isDry 8 = .ok (.iconst 1, 1) := by decide +kernel
theorem zcdX10_isDry_9 : decode cX10_isDry 9 = .ok (.if_icmp .ne 20, 3) ∧ decode cX10_isDry 12 = .ok (.aload_n 0, 1) ∧ decode cX10_isDry 13 = .ok (.getfield 7, 3) ∧ decode cX10_isDry 16 = .ok (.sipush 160, 3) ∧ decode cX10_isDry 19 = .ok (.iload_n 1, 1) ∧ decode cX10_isDry 20 = .ok (.iadd, 1) ∧ decode cX10_isDry 21 = .ok (.iaload, 1) ∧ decode cX10_isDry 22 = .ok (.ifCond .ne 7, 3) := by decide +kernel
theorem zcdX10_isDry_25 : decode cX10_isDry 25 = .ok (.iconst 1, 1) ∧ decode cX10_isDry 26 = .ok (.goto 4, 3) ∧ decode cX10_isDry 29 = .ok (.iconst 0, 1) ∧ decode cX10_isDry 30 = .ok (.ireturn, 1) ∧ decode cX10_canStep 0 = .ok (.aload_n 0, 1) ∧ decode cX10_canStep 1 = .ok (.iload_n 1, 1) ∧ decode cX10_canStep 2 = .ok (.invokevirtual 319, 3) ∧ decode cX10_canStep 5 = .ok (.ifCond .eq 27, 3) := by decide +kernel
theorem zcdX10_canStep_8 : decode cX10_canStep 8 = .ok (.aload_n 0, 1) ∧ decode cX10_canStep 9 = .ok (.iload_n 2, 1) ∧ decode cX10_canStep 10 = .ok (.invokevirtual 319, 3) ∧ decode cX10_canStep 13 = .ok (.ifCond .eq 19, 3) ∧ decode cX10_canStep 16 = .ok (.aload_n 0, 1) ∧ decode cX10_canStep 17 = .ok (.iload_n 1, 1) ∧ decode cX10_canStep 18 = .ok (.iload_n 2, 1) ∧ decode cX10_canStep 19 = .ok (.invokevirtual 144, 3) := by decide +kernel
theorem zcdX10_canStep_22 : decode cX10_canStep 22 = .ok (.iload_n 3, 1) ∧ decode cX10_canStep 23 = .ok (.iload_n 3, 1) ∧ decode cX10_canStep 24 = .ok (.imul, 1) ∧ decode cX10_canStep 25 = .ok (.if_icmp .gt 7, 3) ∧ decode cX10_canStep 28 = .ok (.iconst 1, 1) ∧ decode cX10_canStep 29 = .ok (.goto 4, 3) ∧ decode cX10_canStep 32 = .ok (.iconst 0, 1) ∧ decode cX10_canStep 33 = .ok (.ireturn, 1) := by decide +kernel
theorem zcdX10_isStone_0 : decode cX10_isStone 0 = .ok (.iload_n 1, 1) ∧ decode cX10_isStone 1 = .ok (.iconst 0, 1) ∧ decode cX10_isStone 2 = .ok (.bipush 39, 2) ∧ decode cX10_isStone 4 = .ok (.invokestatic 132, 3) ∧ decode cX10_isStone 7 = .ok (.ifCond .eq 19, 3) ∧ decode cX10_isStone 10 = .ok (.aload_n 0, 1) ∧ decode cX10_isStone 11 = .ok (.getfield 7, 3) ∧ decode cX10_isStone 14 = .ok (.iconst 0, 1) := by decide +kernel
theorem zcdX10_isStone_15 : decode cX10_isStone 15 = .ok (.iload_n 1, 1) ∧ decode cX10_isStone 16 = .ok (.iadd, 1) ∧ decode cX10_isStone 17 = .ok (.iaload, 1) ∧ decode cX10_isStone 18 = .ok (.iconst 1, 1) ∧ decode cX10_isStone 19 = .ok (.if_icmp .ne 7, 3) ∧ decode cX10_isStone 22 = .ok (.iconst 1, 1) ∧ decode cX10_isStone 23 = .ok (.goto 4, 3) ∧ decode cX10_isStone 26 = .ok (.iconst 0, 1) := by decide +kernel
theorem zcdX10_isStone_27 : decode cX10_isStone 27 = .ok (.ireturn, 1) := by decide +kernel
set_option maxHeartbeats 4000000 in
theorem t_X10_apart (v1 : Int32) (v2 : Int32) (M : Mem) : AXp yX10_apart cX10_apart 5 (some .int) 0 39 glM (fun ad => [.ref (ad 0), .int v1, .int v2]) M (f_X10_apart M v1 v2) := by
  intro r0 h
  refine AM.of (by decide) (fun _ => Nat.le_of_ble_eq_true rfl) (fun X ad cI cZ cB hX hR => ?_)
  show V X M [(0, .ref (ad 0)), (1, .int v1), (2, .int v2)] [] 0
  refine s_aload_n (k := 0) hX zcdX10_apart_0.1 rfl rfl ?_
  refine s_get hX fX10_7 oM0 rfl zcdX10_apart_0.2.1 ?_
  refine s_bipush (v := (nI 40)) hX zcdX10_apart_0.2.2.1 (by decide) ?_
  refine s_iload_n (k := 1) hX zcdX10_apart_0.2.2.2.1 rfl rfl ?_
  refine s_iadd hX zcdX10_apart_0.2.2.2.2.1 ?_
  refine e_iald hX aM1 zcdX10_apart_0.2.2.2.2.2.1 h (fun h => ?_)
  refine s_aload_n (k := 0) hX zcdX10_apart_0.2.2.2.2.2.2.1 rfl rfl ?_
  refine s_get hX fX10_7 oM0 rfl zcdX10_apart_0.2.2.2.2.2.2.2 ?_
  refine s_bipush (v := (nI 40)) hX zcdX10_apart_13.1 (by decide) ?_
  refine s_iload_n (k := 2) hX zcdX10_apart_13.2.1 rfl rfl ?_
  refine s_iadd hX zcdX10_apart_13.2.2.1 ?_
  refine e_iald hX aM1 zcdX10_apart_13.2.2.2.1 h (fun h => ?_)
  refine s_isub hX zcdX10_apart_13.2.2.2.2.1 ?_
  refine e_bnd h (fun x_1 h => ?_)
  refine s_istore_n (lv' := [(0, .ref (ad 0)), (1, .int v1), (2, .int v2), (3, .int x_1)]) hX zcdX10_apart_13.2.2.2.2.2.1 rfl (by decide) rfl ?_
  refine s_aload_n (k := 0) hX zcdX10_apart_13.2.2.2.2.2.2.1 rfl rfl ?_
  refine s_get hX fX10_7 oM0 rfl zcdX10_apart_13.2.2.2.2.2.2.2 ?_
  refine s_bipush (v := (nI 80)) hX zcdX10_apart_24.1 (by decide) ?_
  refine s_iload_n (k := 1) hX zcdX10_apart_24.2.1 rfl rfl ?_
  refine s_iadd hX zcdX10_apart_24.2.2.1 ?_
  refine e_iald hX aM1 zcdX10_apart_24.2.2.2.1 h (fun h => ?_)
  refine s_aload_n (k := 0) hX zcdX10_apart_24.2.2.2.2.1 rfl rfl ?_
  refine s_get hX fX10_7 oM0 rfl zcdX10_apart_24.2.2.2.2.2.1 ?_
  refine s_bipush (v := (nI 80)) hX zcdX10_apart_24.2.2.2.2.2.2.1 (by decide) ?_
  refine s_iload_n (k := 2) hX zcdX10_apart_24.2.2.2.2.2.2.2 rfl rfl ?_
  refine s_iadd hX zcdX10_apart_36.1 ?_
  refine e_iald hX aM1 zcdX10_apart_36.2.1 h (fun h => ?_)
  refine s_isub hX zcdX10_apart_36.2.2.1 ?_
  refine e_bnd h (fun x_2 h => ?_)
  refine s_istore (lv' := [(0, .ref (ad 0)), (1, .int v1), (2, .int v2), (3, .int x_1), (4, .int x_2)]) hX zcdX10_apart_36.2.2.2.1 (by decide) rfl ?_
  refine s_iload_n (k := 3) hX zcdX10_apart_36.2.2.2.2.1 rfl rfl ?_
  refine s_iload_n (k := 3) hX zcdX10_apart_36.2.2.2.2.2.1 rfl rfl ?_
  refine s_imul hX zcdX10_apart_36.2.2.2.2.2.2.1 ?_
  refine s_iload (k := 4) hX zcdX10_apart_36.2.2.2.2.2.2.2 rfl ?_
  refine s_iload (k := 4) hX zcdX10_apart_46.1 rfl ?_
  refine s_imul hX zcdX10_apart_46.2.1 ?_
  refine s_iadd hX zcdX10_apart_46.2.2.1 ?_
  exact e_iretp hX hR zcdX10_apart_46.2.2.2.1 h
set_option maxHeartbeats 4000000 in
theorem t_X10_areInLine (v1 : Int32) (v2 : Int32) (v3 : Int32) (M : Mem) : AXp yX10_areInLine cX10_areInLine 6 (some .boolean) 0 39 glM (fun ad => [.ref (ad 0), .int v1, .int v2, .int v3]) M (f_X10_areInLine M v1 v2 v3) := by
  intro r0 h
  refine AM.of (by decide) (fun _ => Nat.le_of_ble_eq_true rfl) (fun X ad cI cZ cB hX hR => ?_)
  show V X M [(0, .ref (ad 0)), (1, .int v1), (2, .int v2), (3, .int v3)] [] 0
  refine s_aload_n (k := 0) hX zcdX10_apart_46.2.2.2.2.1 rfl rfl ?_
  refine s_get hX fX10_7 oM0 rfl zcdX10_apart_46.2.2.2.2.2.1 ?_
  refine s_bipush (v := (nI 40)) hX zcdX10_apart_46.2.2.2.2.2.2.1 (by decide) ?_
  refine s_iload_n (k := 2) hX zcdX10_apart_46.2.2.2.2.2.2.2 rfl rfl ?_
  refine s_iadd hX zcdX10_areInLine_7.1 ?_
  refine e_iald hX aM1 zcdX10_areInLine_7.2.1 h (fun h => ?_)
  refine s_aload_n (k := 0) hX zcdX10_areInLine_7.2.2.1 rfl rfl ?_
  refine s_get hX fX10_7 oM0 rfl zcdX10_areInLine_7.2.2.2.1 ?_
  refine s_bipush (v := (nI 40)) hX zcdX10_areInLine_7.2.2.2.2.1 (by decide) ?_
  refine s_iload_n (k := 1) hX zcdX10_areInLine_7.2.2.2.2.2.1 rfl rfl ?_
  refine s_iadd hX zcdX10_areInLine_7.2.2.2.2.2.2.1 ?_
  refine e_iald hX aM1 zcdX10_areInLine_7.2.2.2.2.2.2.2 h (fun h => ?_)
  refine s_isub hX zcdX10_areInLine_18.1 ?_
  refine e_bnd h (fun x_1 h => ?_)
  refine s_istore (lv' := [(0, .ref (ad 0)), (1, .int v1), (2, .int v2), (3, .int v3), (4, .int x_1)]) hX zcdX10_areInLine_18.2.1 (by decide) rfl ?_
  refine s_aload_n (k := 0) hX zcdX10_areInLine_18.2.2.1 rfl rfl ?_
  refine s_get hX fX10_7 oM0 rfl zcdX10_areInLine_18.2.2.2.1 ?_
  refine s_bipush (v := (nI 80)) hX zcdX10_areInLine_18.2.2.2.2.1 (by decide) ?_
  refine s_iload_n (k := 2) hX zcdX10_areInLine_18.2.2.2.2.2.1 rfl rfl ?_
  refine s_iadd hX zcdX10_areInLine_18.2.2.2.2.2.2.1 ?_
  refine e_iald hX aM1 zcdX10_areInLine_18.2.2.2.2.2.2.2 h (fun h => ?_)
  refine s_aload_n (k := 0) hX zcdX10_areInLine_30.1 rfl rfl ?_
  refine s_get hX fX10_7 oM0 rfl zcdX10_areInLine_30.2.1 ?_
  refine s_bipush (v := (nI 80)) hX zcdX10_areInLine_30.2.2.1 (by decide) ?_
  refine s_iload_n (k := 1) hX zcdX10_areInLine_30.2.2.2.1 rfl rfl ?_
  refine s_iadd hX zcdX10_areInLine_30.2.2.2.2.1 ?_
  refine e_iald hX aM1 zcdX10_areInLine_30.2.2.2.2.2.1 h (fun h => ?_)
  refine s_isub hX zcdX10_areInLine_30.2.2.2.2.2.2.1 ?_
  refine e_bnd h (fun x_2 h => ?_)
  refine s_istore (lv' := [(0, .ref (ad 0)), (1, .int v1), (2, .int v2), (3, .int v3), (4, .int x_1), (5, .int x_2)]) hX zcdX10_areInLine_30.2.2.2.2.2.2.2 (by decide) rfl ?_
  refine s_iload (k := 4) hX zcdX10_areInLine_42.1 rfl ?_
  refine s_aload_n (k := 0) hX zcdX10_areInLine_42.2.1 rfl rfl ?_
  refine s_get hX fX10_7 oM0 rfl zcdX10_areInLine_42.2.2.1 ?_
  refine s_bipush (v := (nI 80)) hX zcdX10_areInLine_42.2.2.2.1 (by decide) ?_
  refine s_iload_n (k := 3) hX zcdX10_areInLine_42.2.2.2.2.1 rfl rfl ?_
  refine s_iadd hX zcdX10_areInLine_42.2.2.2.2.2.1 ?_
  refine e_iald hX aM1 zcdX10_areInLine_42.2.2.2.2.2.2.1 h (fun h => ?_)
  refine s_aload_n (k := 0) hX zcdX10_areInLine_42.2.2.2.2.2.2.2 rfl rfl ?_
  refine s_get hX fX10_7 oM0 rfl zcdX10_areInLine_54.1 ?_
  refine s_bipush (v := (nI 80)) hX zcdX10_areInLine_54.2.1 (by decide) ?_
  refine s_iload_n (k := 1) hX zcdX10_areInLine_54.2.2.1 rfl rfl ?_
  refine s_iadd hX zcdX10_areInLine_54.2.2.2.1 ?_
  refine e_iald hX aM1 zcdX10_areInLine_54.2.2.2.2.1 h (fun h => ?_)
  refine s_isub hX zcdX10_areInLine_54.2.2.2.2.2.1 ?_
  refine s_imul hX zcdX10_areInLine_54.2.2.2.2.2.2.1 ?_
  refine s_iload (k := 5) hX zcdX10_areInLine_54.2.2.2.2.2.2.2 rfl ?_
  refine s_aload_n (k := 0) hX zcdX10_areInLine_66.1 rfl rfl ?_
  refine s_get hX fX10_7 oM0 rfl zcdX10_areInLine_66.2.1 ?_
  refine s_bipush (v := (nI 40)) hX zcdX10_areInLine_66.2.2.1 (by decide) ?_
  refine s_iload_n (k := 3) hX zcdX10_areInLine_66.2.2.2.1 rfl rfl ?_
  refine s_iadd hX zcdX10_areInLine_66.2.2.2.2.1 ?_
  refine e_iald hX aM1 zcdX10_areInLine_66.2.2.2.2.2.1 h (fun h => ?_)
  refine s_aload_n (k := 0) hX zcdX10_areInLine_66.2.2.2.2.2.2.1 rfl rfl ?_
  refine s_get hX fX10_7 oM0 rfl zcdX10_areInLine_66.2.2.2.2.2.2.2 ?_
  refine s_bipush (v := (nI 40)) hX zcdX10_areInLine_79.1 (by decide) ?_
  refine s_iload_n (k := 1) hX zcdX10_areInLine_79.2.1 rfl rfl ?_
  refine s_iadd hX zcdX10_areInLine_79.2.2.1 ?_
  refine e_iald hX aM1 zcdX10_areInLine_79.2.2.2.1 h (fun h => ?_)
  refine s_isub hX zcdX10_areInLine_79.2.2.2.2.1 ?_
  refine s_imul hX zcdX10_areInLine_79.2.2.2.2.2.1 ?_
  refine e_icmp_ne (tgt := 93) hX zcdX10_areInLine_79.2.2.2.2.2.2.1 (by decide) r_eq h (fun h => ?_) (fun h => ?_)
  · refine s_iconst (v := (nI 0)) hX zcdX10_areInLine_90.2.1 (by decide) ?_
    exact e_zretpL hX hR zcdX10_areInLine_90.2.2.1 (by decide) h
  · refine s_iconst (v := (nI 1)) hX zcdX10_areInLine_79.2.2.2.2.2.2.2 (by decide) ?_
    refine s_goto (tgt := 94) hX zcdX10_areInLine_90.1 (by decide) ?_
    exact e_zretpL hX hR zcdX10_areInLine_90.2.2.1 (by decide) h
set_option maxHeartbeats 4000000 in
theorem t_X10_in (v0 : Int32) (v1 : Int32) (v2 : Int32) (M : Mem) : AXp yX10_in cX10_in 3 (some .boolean) 0 39 glM (fun ad => [.int v0, .int v1, .int v2]) M (f_X10_in v0 v1 v2) := by
  intro r0 h
  refine AM.of (by decide) (fun _ => Nat.le_of_ble_eq_true rfl) (fun X ad cI cZ cB hX hR => ?_)
  show V X M [(0, .int v0), (1, .int v1), (2, .int v2)] [] 0
  refine s_iload_n (k := 0) hX zcdX10_areInLine_90.2.2.2.1 rfl rfl ?_
  refine s_iload_n (k := 1) hX zcdX10_areInLine_90.2.2.2.2.1 rfl rfl ?_
  refine e_icmp_lt (tgt := 14) hX zcdX10_areInLine_90.2.2.2.2.2.1 (by decide) r_lt h (fun h => ?_) (fun h => ?_)
  · refine s_iconst (v := (nI 0)) hX zcdX10_in_7.2.2.2.1 (by decide) ?_
    exact e_zretpL hX hR zcdX10_in_7.2.2.2.2.1 (by decide) h
  · refine s_iload_n (k := 0) hX zcdX10_areInLine_90.2.2.2.2.2.2.1 rfl rfl ?_
    refine s_iload_n (k := 2) hX zcdX10_areInLine_90.2.2.2.2.2.2.2 rfl rfl ?_
    refine e_icmp_gt (tgt := 14) hX zcdX10_in_7.1 (by decide) r_lt h (fun h => ?_) (fun h => ?_)
    · refine s_iconst (v := (nI 0)) hX zcdX10_in_7.2.2.2.1 (by decide) ?_
      exact e_zretpL hX hR zcdX10_in_7.2.2.2.2.1 (by decide) h
    · refine s_iconst (v := (nI 1)) hX zcdX10_in_7.2.1 (by decide) ?_
      refine s_goto (tgt := 15) hX zcdX10_in_7.2.2.1 (by decide) ?_
      exact e_zretpL hX hR zcdX10_in_7.2.2.2.2.1 (by decide) h
set_option maxHeartbeats 4000000 in
theorem t_X10_stoneAt (v1 : Int32) (v2 : Int32) (M : Mem) : AXp yX10_stoneAt cX10_stoneAt 4 (some .int) 0 39 glM (fun ad => [.ref (ad 0), .int v1, .int v2]) M (f_X10_stoneAt M v1 v2) := by
  intro r0 h
  refine AM.of (by decide) (fun _ => Nat.le_of_ble_eq_true rfl) (fun X ad cI cZ cB hX hR => ?_)
  show V X M [(0, .ref (ad 0)), (1, .int v1), (2, .int v2)] [] 0
  refine s_iconst (v := (nI 0)) hX zcdX10_in_7.2.2.2.2.2.1 (by decide) ?_
  refine s_istore_n (lv' := [(0, .ref (ad 0)), (1, .int v1), (2, .int v2), (3, .int (nI 0))]) hX zcdX10_in_7.2.2.2.2.2.2.1 rfl (by decide) rfl ?_
  have lp2 : ∀ (N2 : Nat) (y3_2 : Int32), wlp1 (f_X10_stoneAt_B2 M v1 v2) N2 y3_2 = some r0 → V X M [(0, .ref (ad 0)), (1, .int v1), (2, .int v2), (3, .int y3_2)] [] 2 := by
    intro N2
    induction N2 with
    | zero => exact fun _ h => e_none h
    | succ N2 ih2 =>
      intro y3_2 h
      replace h : f_X10_stoneAt_B2 M v1 v2 (wlp1 (f_X10_stoneAt_B2 M v1 v2) N2) y3_2 = some r0 := h
      generalize wlp1 (f_X10_stoneAt_B2 M v1 v2) N2 = ag2 at ih2 h
      refine s_iload_n (k := 3) hX zcdX10_in_7.2.2.2.2.2.2.2 rfl rfl ?_
      refine s_bipush (v := (nI 40)) hX zcdX10_stoneAt_3.1 (by decide) ?_
      refine e_icmp_ge (tgt := 54) hX zcdX10_stoneAt_3.2.1 (by decide) (m_ge (by decide +kernel)) h (fun h => ?_) (fun h => ?_)
      · refine s_iconst (v := (-1)) hX zcdX10_stoneAt_42.2.2.2.2.2.2.1 (by decide) ?_
        exact e_iretp hX hR zcdX10_stoneAt_42.2.2.2.2.2.2.2 h
      · refine s_aload_n (k := 0) hX zcdX10_stoneAt_3.2.2.1 rfl rfl ?_
        refine s_get hX fX10_7 oM0 rfl zcdX10_stoneAt_3.2.2.2.1 ?_
        refine s_iconst (v := (nI 0)) hX zcdX10_stoneAt_3.2.2.2.2.1 (by decide) ?_
        refine s_iload_n (k := 3) hX zcdX10_stoneAt_3.2.2.2.2.2.1 rfl rfl ?_
        refine s_iadd hX zcdX10_stoneAt_3.2.2.2.2.2.2.1 ?_
        refine s_top (zadd _) ?_
        refine e_iald hX aM1 zcdX10_stoneAt_3.2.2.2.2.2.2.2 h (fun h => ?_)
        refine s_iconst (v := (nI 1)) hX zcdX10_stoneAt_16.1 (by decide) ?_
        refine e_icmp_ne (tgt := 48) hX zcdX10_stoneAt_16.2.1 (by decide) (m_eq (by decide +kernel)) h (fun h => ?_) (fun h => ?_)
        · refine s_iinc (k := 3) (v := (y3_2 + (nI 1))) (lv' := [(0, .ref (ad 0)), (1, .int v1), (2, .int v2), (3, .int (y3_2 + (nI 1)))]) hX zcdX10_stoneAt_42.2.2.2.2.1 (congrArg (fun z => y3_2 + z) (by decide)) (by decide) rfl rfl ?_
          refine s_goto (tgt := 2) hX zcdX10_stoneAt_42.2.2.2.2.2.1 (by decide) ?_
          exact ih2 (y3_2 + (nI 1)) h
        · refine s_aload_n (k := 0) hX zcdX10_stoneAt_16.2.2.1 rfl rfl ?_
          refine s_get hX fX10_7 oM0 rfl zcdX10_stoneAt_16.2.2.2.1 ?_
          refine s_bipush (v := (nI 40)) hX zcdX10_stoneAt_16.2.2.2.2.1 (by decide) ?_
          refine s_iload_n (k := 3) hX zcdX10_stoneAt_16.2.2.2.2.2.1 rfl rfl ?_
          refine s_iadd hX zcdX10_stoneAt_16.2.2.2.2.2.2.1 ?_
          refine e_iald hX aM1 zcdX10_stoneAt_16.2.2.2.2.2.2.2 h (fun h => ?_)
          refine s_iload_n (k := 1) hX zcdX10_stoneAt_29.1 rfl rfl ?_
          refine e_icmp_ne (tgt := 48) hX zcdX10_stoneAt_29.2.1 (by decide) r_eq h (fun h => ?_) (fun h => ?_)
          · refine s_iinc (k := 3) (v := (y3_2 + (nI 1))) (lv' := [(0, .ref (ad 0)), (1, .int v1), (2, .int v2), (3, .int (y3_2 + (nI 1)))]) hX zcdX10_stoneAt_42.2.2.2.2.1 (congrArg (fun z => y3_2 + z) (by decide)) (by decide) rfl rfl ?_
            refine s_goto (tgt := 2) hX zcdX10_stoneAt_42.2.2.2.2.2.1 (by decide) ?_
            exact ih2 (y3_2 + (nI 1)) h
          · refine s_aload_n (k := 0) hX zcdX10_stoneAt_29.2.2.1 rfl rfl ?_
            refine s_get hX fX10_7 oM0 rfl zcdX10_stoneAt_29.2.2.2.1 ?_
            refine s_bipush (v := (nI 80)) hX zcdX10_stoneAt_29.2.2.2.2.1 (by decide) ?_
            refine s_iload_n (k := 3) hX zcdX10_stoneAt_29.2.2.2.2.2.1 rfl rfl ?_
            refine s_iadd hX zcdX10_stoneAt_29.2.2.2.2.2.2.1 ?_
            refine e_iald hX aM1 zcdX10_stoneAt_29.2.2.2.2.2.2.2 h (fun h => ?_)
            refine s_iload_n (k := 2) hX zcdX10_stoneAt_42.1 rfl rfl ?_
            refine e_icmp_ne (tgt := 48) hX zcdX10_stoneAt_42.2.1 (by decide) r_eq h (fun h => ?_) (fun h => ?_)
            · refine s_iinc (k := 3) (v := (y3_2 + (nI 1))) (lv' := [(0, .ref (ad 0)), (1, .int v1), (2, .int v2), (3, .int (y3_2 + (nI 1)))]) hX zcdX10_stoneAt_42.2.2.2.2.1 (congrArg (fun z => y3_2 + z) (by decide)) (by decide) rfl rfl ?_
              refine s_goto (tgt := 2) hX zcdX10_stoneAt_42.2.2.2.2.2.1 (by decide) ?_
              exact ih2 (y3_2 + (nI 1)) h
            · refine s_iload_n (k := 3) hX zcdX10_stoneAt_42.2.2.1 rfl rfl ?_
              exact e_iretp hX hR zcdX10_stoneAt_42.2.2.2.1 h
  exact lp2 FU (nI 0) h
set_option maxHeartbeats 4000000 in
theorem t_X10_at (v1 : Int32) (v2 : Int32) (M : Mem) : AXp yX10_at cX10_at 4 (some .int) 1 39 glM (fun ad => [.ref (ad 0), .int v1, .int v2]) M (f_X10_at M v1 v2) := by
  intro r0 h
  refine AM.of (by decide) (fun _ => Nat.le_of_ble_eq_true rfl) (fun X ad cI cZ cB hX hR => ?_)
  show V X M [(0, .ref (ad 0)), (1, .int v1), (2, .int v2)] [] 0
  refine s_iload_n (k := 1) hX zcdX10_at_0.1 rfl rfl ?_
  refine s_iconst (v := (nI 0)) hX zcdX10_at_0.2.1 (by decide) ?_
  refine s_bipush (v := (nI 39)) hX zcdX10_at_0.2.2.1 (by decide) ?_
  refine e_callSp hX (t_X10_in v1 (nI 0) (nI 39) M) mX10_in lX10_132 (by decide) (by decide) rfl rfl (Nat.le_of_ble_eq_true rfl) zcdX10_at_0.2.2.2.1 h (fun r_1 h => ?_)
  refine e_if_eq (tgt := 20) hX zcdX10_at_0.2.2.2.2.1 (by decide) z_eq h (fun h => ?_) (fun h => ?_)
  · refine s_iconst (v := (-1)) hX zcdX10_at_14.2.2.1 (by decide) ?_
    exact e_iretp hX hR zcdX10_at_14.2.2.2.1 h
  · refine s_iload_n (k := 2) hX zcdX10_at_0.2.2.2.2.2.1 rfl rfl ?_
    refine s_iconst (v := (nI 1)) hX zcdX10_at_0.2.2.2.2.2.2.1 (by decide) ?_
    refine s_bipush (v := (nI 20)) hX zcdX10_at_0.2.2.2.2.2.2.2 (by decide) ?_
    refine e_callSp hX (t_X10_in v2 (nI 1) (nI 20) M) mX10_in lX10_132 (by decide) (by decide) rfl rfl (Nat.le_of_ble_eq_true rfl) zcdX10_at_14.1 h (fun r_2 h => ?_)
    refine e_if_ne (tgt := 22) hX zcdX10_at_14.2.1 (by decide) z_eq h (fun h => ?_) (fun h => ?_)
    · refine s_aload_n (k := 0) hX zcdX10_at_14.2.2.2.2.1 rfl rfl ?_
      refine s_iload_n (k := 1) hX zcdX10_at_14.2.2.2.2.2.1 rfl rfl ?_
      refine s_iload_n (k := 2) hX zcdX10_at_14.2.2.2.2.2.2.1 rfl rfl ?_
      refine e_callVp hX (t_X10_stoneAt v1 v2 M) mX10_stoneAt lX10_147 (by decide) (by decide) oM0 rfl rfl rfl rfl rfl (Nat.le_of_ble_eq_true rfl) zcdX10_at_14.2.2.2.2.2.2.2 h (fun r_3 h => ?_)
      refine s_istore_n (lv' := [(0, .ref (ad 0)), (1, .int v1), (2, .int v2), (3, .int r_3)]) hX zcdX10_at_28.1 rfl (by decide) rfl ?_
      refine s_iload_n (k := 3) hX zcdX10_at_28.2.1 rfl rfl ?_
      refine s_iconst (v := (-1)) hX zcdX10_at_28.2.2.1 (by decide) ?_
      refine e_icmp_ne (tgt := 39) hX zcdX10_at_28.2.2.2.1 (by decide) (m_eq (by decide +kernel)) h (fun h => ?_) (fun h => ?_)
      · refine s_iload_n (k := 3) hX zcdX10_at_28.2.2.2.2.2.2.1 rfl rfl ?_
        exact e_iretp hX hR zcdX10_at_28.2.2.2.2.2.2.2 h
      · refine s_bipush (v := (-2)) hX zcdX10_at_28.2.2.2.2.1 (by decide) ?_
        refine s_goto (tgt := 40) hX zcdX10_at_28.2.2.2.2.2.1 (by decide) ?_
        exact e_iretp hX hR zcdX10_at_28.2.2.2.2.2.2.2 h
    · refine s_iconst (v := (-1)) hX zcdX10_at_14.2.2.1 (by decide) ?_
      exact e_iretp hX hR zcdX10_at_14.2.2.2.1 h
set_option maxHeartbeats 4000000 in
theorem t_X10_beginsRows (v1 : Int32) (M : Mem) : AXv yX10_beginsRows cX10_beginsRows 3 none 0 39 glM (fun ad => [.ref (ad 0), .int v1]) M (f_X10_beginsRows M v1) := by
  intro r0 h
  refine AM.of (by decide) (fun _ => Nat.le_of_ble_eq_true rfl) (fun X ad cI cZ cB hX hR => ?_)
  show V X M [(0, .ref (ad 0)), (1, .int v1)] [] 0
  refine s_iconst (v := (nI 0)) hX zcdX10_beginsRows_0.1 (by decide) ?_
  refine s_istore_n (lv' := [(0, .ref (ad 0)), (1, .int v1), (2, .int (nI 0))]) hX zcdX10_beginsRows_0.2.1 rfl (by decide) rfl ?_
  have lp2 : ∀ (N2 : Nat) (M2 : Mem) (y2_2 : Int32), wlp2 (f_X10_beginsRows_B2 v1) N2 M2 y2_2 = some r0 → V X M2 [(0, .ref (ad 0)), (1, .int v1), (2, .int y2_2)] [] 2 := by
    intro N2
    induction N2 with
    | zero => exact fun _ _ h => e_none h
    | succ N2 ih2 =>
      intro M2 y2_2 h
      replace h : f_X10_beginsRows_B2 v1 (wlp2 (f_X10_beginsRows_B2 v1) N2) M2 y2_2 = some r0 := h
      generalize wlp2 (f_X10_beginsRows_B2 v1) N2 = ag2 at ih2 h
      refine s_iload_n (k := 2) hX zcdX10_beginsRows_0.2.2.1 rfl rfl ?_
      refine s_iload_n (k := 1) hX zcdX10_beginsRows_0.2.2.2.1 rfl rfl ?_
      refine e_icmp_ge (tgt := 20) hX zcdX10_beginsRows_0.2.2.2.2.1 (by decide) r_le h (fun h => ?_) (fun h => ?_)
      · exact e_vret hX hR zcdX10_beginsRows_12.2.2.2.2.1 h
      · refine s_aload_n (k := 0) hX zcdX10_beginsRows_0.2.2.2.2.2.1 rfl rfl ?_
        refine s_get hX fX10_119 oM0 rfl zcdX10_beginsRows_0.2.2.2.2.2.2.1 ?_
        refine s_iload_n (k := 2) hX zcdX10_beginsRows_0.2.2.2.2.2.2.2 rfl rfl ?_
        refine s_iload_n (k := 2) hX zcdX10_beginsRows_12.1 rfl rfl ?_
        refine e_iast hX aM37 zcdX10_beginsRows_12.2.1 h (fun h => ?_)
        refine e_bndM h (fun M_1 h => ?_)
        refine s_iinc (k := 2) (v := (y2_2 + (nI 1))) (lv' := [(0, .ref (ad 0)), (1, .int v1), (2, .int (y2_2 + (nI 1)))]) hX zcdX10_beginsRows_12.2.2.1 (congrArg (fun z => y2_2 + z) (by decide)) (by decide) rfl rfl ?_
        refine s_goto (tgt := 2) hX zcdX10_beginsRows_12.2.2.2.1 (by decide) ?_
        exact ih2 M_1 (y2_2 + (nI 1)) h
  exact lp2 FU M (nI 0) h
set_option maxHeartbeats 4000000 in
theorem t_X10_beginsText (v1 : Int32) (M : Mem) : AXv yX10_beginsText cX10_beginsText 2 none 0 39 glM (fun ad => [.ref (ad 0), .int v1]) M (f_X10_beginsText M v1) := by
  intro r0 h
  refine AM.of (by decide) (fun _ => Nat.le_of_ble_eq_true rfl) (fun X ad cI cZ cB hX hR => ?_)
  show V X M [(0, .ref (ad 0)), (1, .int v1)] [] 0
  refine s_aload_n (k := 0) hX zcdX10_beginsRows_12.2.2.2.2.2.1 rfl rfl ?_
  refine s_iconst (v := (nI 0)) hX zcdX10_beginsRows_12.2.2.2.2.2.2.1 (by decide) ?_
  refine s_puti (ty := .int) hX fX10_165 oM0 rfl (Nat.le_of_ble_eq_true rfl) ty_10_7 rfl rfl zcdX10_beginsRows_12.2.2.2.2.2.2.2 ?_
  refine e_bndM h (fun M_1 h => ?_)
  refine s_aload_n (k := 0) hX zcdX10_beginsText_5.1 rfl rfl ?_
  refine s_iload_n (k := 1) hX zcdX10_beginsText_5.2.1 rfl rfl ?_
  refine s_puti (ty := .int) hX fX10_168 oM0 rfl (Nat.le_of_ble_eq_true rfl) ty_10_8 rfl rfl zcdX10_beginsText_5.2.2.1 ?_
  refine e_bndM h (fun M_2 h => ?_)
  refine s_aload_n (k := 0) hX zcdX10_beginsText_5.2.2.2.1 rfl rfl ?_
  refine s_iconst (v := (nI 0)) hX zcdX10_beginsText_5.2.2.2.2.1 (by decide) ?_
  refine s_puti (ty := .int) hX fX10_188 oM0 rfl (Nat.le_of_ble_eq_true rfl) ty_10_12 rfl rfl zcdX10_beginsText_5.2.2.2.2.2.1 ?_
  refine e_bndM h (fun M_3 h => ?_)
  refine s_aload_n (k := 0) hX zcdX10_beginsText_5.2.2.2.2.2.2.1 rfl rfl ?_
  refine s_iconst (v := (nI 0)) hX zcdX10_beginsText_5.2.2.2.2.2.2.2 (by decide) ?_
  refine s_puti (ty := .int) hX fX10_243 oM0 rfl (Nat.le_of_ble_eq_true rfl) ty_10_14 rfl rfl zcdX10_beginsText_17.1 ?_
  refine e_bndM h (fun M_4 h => ?_)
  exact e_vret hX hR zcdX10_beginsText_17.2.1 h
set_option maxHeartbeats 4000000 in
theorem t_X10_min (v0 : Int32) (v1 : Int32) (M : Mem) : AXp yX10_min cX10_min 2 (some .int) 0 39 glM (fun ad => [.int v0, .int v1]) M (f_X10_min v0 v1) := by
  intro r0 h
  refine AM.of (by decide) (fun _ => Nat.le_of_ble_eq_true rfl) (fun X ad cI cZ cB hX hR => ?_)
  show V X M [(0, .int v0), (1, .int v1)] [] 0
  refine s_iload_n (k := 0) hX zcdX10_beginsText_17.2.2.1 rfl rfl ?_
  refine s_iload_n (k := 1) hX zcdX10_beginsText_17.2.2.2.1 rfl rfl ?_
  refine e_icmp_ge (tgt := 9) hX zcdX10_beginsText_17.2.2.2.2.1 (by decide) r_le h (fun h => ?_) (fun h => ?_)
  · refine s_iload_n (k := 1) hX zcdX10_beginsText_17.2.2.2.2.2.2.2 rfl rfl ?_
    exact e_iretp hX hR zcdX10_min_10.1 h
  · refine s_iload_n (k := 0) hX zcdX10_beginsText_17.2.2.2.2.2.1 rfl rfl ?_
    refine s_goto (tgt := 10) hX zcdX10_beginsText_17.2.2.2.2.2.2.1 (by decide) ?_
    exact e_iretp hX hR zcdX10_min_10.1 h
set_option maxHeartbeats 4000000 in
theorem t_X10_max (v0 : Int32) (v1 : Int32) (M : Mem) : AXp yX10_max cX10_max 2 (some .int) 0 39 glM (fun ad => [.int v0, .int v1]) M (f_X10_max v0 v1) := by
  intro r0 h
  refine AM.of (by decide) (fun _ => Nat.le_of_ble_eq_true rfl) (fun X ad cI cZ cB hX hR => ?_)
  show V X M [(0, .int v0), (1, .int v1)] [] 0
  refine s_iload_n (k := 0) hX zcdX10_min_10.2.1 rfl rfl ?_
  refine s_iload_n (k := 1) hX zcdX10_min_10.2.2.1 rfl rfl ?_
  refine e_icmp_le (tgt := 9) hX zcdX10_min_10.2.2.2.1 (by decide) r_le h (fun h => ?_) (fun h => ?_)
  · refine s_iload_n (k := 1) hX zcdX10_min_10.2.2.2.2.2.2.1 rfl rfl ?_
    exact e_iretp hX hR zcdX10_min_10.2.2.2.2.2.2.2 h
  · refine s_iload_n (k := 0) hX zcdX10_min_10.2.2.2.2.1 rfl rfl ?_
    refine s_goto (tgt := 10) hX zcdX10_min_10.2.2.2.2.2.1 (by decide) ?_
    exact e_iretp hX hR zcdX10_min_10.2.2.2.2.2.2.2 h
set_option maxHeartbeats 4000000 in
theorem t_X10_bounded (v0 : Int32) (v1 : Int32) (v2 : Int32) (M : Mem) : AXp yX10_bounded cX10_bounded 3 (some .int) 1 39 glM (fun ad => [.int v0, .int v1, .int v2]) M (f_X10_bounded v0 v1 v2) := by
  intro r0 h
  refine AM.of (by decide) (fun _ => Nat.le_of_ble_eq_true rfl) (fun X ad cI cZ cB hX hR => ?_)
  show V X M [(0, .int v0), (1, .int v1), (2, .int v2)] [] 0
  refine s_iload_n (k := 1) hX zcdX10_bounded_0.1 rfl rfl ?_
  refine s_iload_n (k := 2) hX zcdX10_bounded_0.2.1 rfl rfl ?_
  refine s_iload_n (k := 0) hX zcdX10_bounded_0.2.2.1 rfl rfl ?_
  refine e_callSp hX (t_X10_min v2 v0 M) mX10_min lX10_125 (by decide) (by decide) rfl rfl (Nat.le_of_ble_eq_true rfl) zcdX10_bounded_0.2.2.2.1 h (fun r_1 h => ?_)
  refine e_callSp hX (t_X10_max v1 r_1 M) mX10_max lX10_129 (by decide) (by decide) rfl rfl (Nat.le_of_ble_eq_true rfl) zcdX10_bounded_0.2.2.2.2.1 h (fun r_2 h => ?_)
  exact e_iretp hX hR zcdX10_bounded_0.2.2.2.2.2.1 h
set_option maxHeartbeats 4000000 in
theorem t_X10_reckon (v0 : Int32) (v1 : Int32) (v2 : Int32) (M : Mem) : AXp yX10_reckon cX10_reckon 3 (some .int) 0 39 glM (fun ad => [.int v0, .int v1, .int v2]) M (f_X10_reckon v0 v1 v2) := by
  intro r0 h
  refine AM.of (by decide) (fun _ => Nat.le_of_ble_eq_true rfl) (fun X ad cI cZ cB hX hR => ?_)
  show V X M [(0, .int v0), (1, .int v1), (2, .int v2)] [] 0
  refine s_iload_n (k := 0) hX zcdX10_bounded_0.2.2.2.2.2.2.1 rfl rfl ?_
  refine e_if h (fun c2 h => ?_) (fun c2 h => ?_)
  · refine s_tabIn (tgt := 44) (off := 43) hX zcdX10_bounded_0.2.2.2.2.2.2.2 (by omega) (by omega) (by rw [c2]; rfl) (by decide) ?_
    refine s_iload_n (k := 1) hX zcdX10_reckon_44.1 rfl rfl ?_
    refine s_iload_n (k := 2) hX zcdX10_reckon_44.2.1 rfl rfl ?_
    refine s_iadd hX zcdX10_reckon_44.2.2.1 ?_
    exact e_iretp hX hR zcdX10_reckon_44.2.2.2.1 h
  refine e_if h (fun c3 h => ?_) (fun c3 h => ?_)
  · refine s_tabIn (tgt := 48) (off := 47) hX zcdX10_bounded_0.2.2.2.2.2.2.2 (by omega) (by omega) (by rw [c3]; rfl) (by decide) ?_
    refine s_iload_n (k := 1) hX zcdX10_reckon_44.2.2.2.2.1 rfl rfl ?_
    refine s_iload_n (k := 2) hX zcdX10_reckon_44.2.2.2.2.2.1 rfl rfl ?_
    refine s_isub hX zcdX10_reckon_44.2.2.2.2.2.2.1 ?_
    exact e_iretp hX hR zcdX10_reckon_44.2.2.2.2.2.2.2 h
  refine e_if h (fun c4 h => ?_) (fun c4 h => ?_)
  · refine s_tabIn (tgt := 52) (off := 51) hX zcdX10_bounded_0.2.2.2.2.2.2.2 (by omega) (by omega) (by rw [c4]; rfl) (by decide) ?_
    refine s_iload_n (k := 1) hX zcdX10_reckon_52.1 rfl rfl ?_
    refine s_iload_n (k := 2) hX zcdX10_reckon_52.2.1 rfl rfl ?_
    refine s_imul hX zcdX10_reckon_52.2.2.1 ?_
    exact e_iretp hX hR zcdX10_reckon_52.2.2.2.1 h
  refine e_if h (fun c5 h => ?_) (fun c5 h => ?_)
  · refine s_tabIn (tgt := 56) (off := 55) hX zcdX10_bounded_0.2.2.2.2.2.2.2 (by omega) (by omega) (by rw [c5]; rfl) (by decide) ?_
    refine s_iload_n (k := 1) hX zcdX10_reckon_52.2.2.2.2.1 rfl rfl ?_
    refine s_iload_n (k := 2) hX zcdX10_reckon_52.2.2.2.2.2.1 rfl rfl ?_
    refine e_idiv hX zcdX10_reckon_52.2.2.2.2.2.2.1 h (fun h => ?_)
    exact e_iretp hX hR zcdX10_reckon_52.2.2.2.2.2.2.2 h
  refine e_if h (fun c6 h => ?_) (fun c6 h => ?_)
  · refine s_tabIn (tgt := 60) (off := 59) hX zcdX10_bounded_0.2.2.2.2.2.2.2 (by omega) (by omega) (by rw [c6]; rfl) (by decide) ?_
    refine s_iload_n (k := 1) hX zcdX10_reckon_60.1 rfl rfl ?_
    refine s_iload_n (k := 2) hX zcdX10_reckon_60.2.1 rfl rfl ?_
    refine e_irem hX zcdX10_reckon_60.2.2.1 h (fun h => ?_)
    exact e_iretp hX hR zcdX10_reckon_60.2.2.2.1 h
  refine e_if h (fun c7 h => ?_) (fun c7 h => ?_)
  · refine s_tabIn (tgt := 64) (off := 63) hX zcdX10_bounded_0.2.2.2.2.2.2.2 (by omega) (by omega) (by rw [c7]; rfl) (by decide) ?_
    refine s_iload_n (k := 1) hX zcdX10_reckon_60.2.2.2.2.1 rfl rfl ?_
    refine s_iload_n (k := 2) hX zcdX10_reckon_60.2.2.2.2.2.1 rfl rfl ?_
    refine e_icmp_ge (tgt := 73) hX zcdX10_reckon_60.2.2.2.2.2.2.1 (by decide) r_le h (fun h => ?_) (fun h => ?_)
    · refine s_iconst (v := (nI 0)) hX zcdX10_reckon_70.2.1 (by decide) ?_
      exact e_iretp hX hR zcdX10_reckon_70.2.2.1 h
    · refine s_iconst (v := (nI 1)) hX zcdX10_reckon_60.2.2.2.2.2.2.2 (by decide) ?_
      refine s_goto (tgt := 74) hX zcdX10_reckon_70.1 (by decide) ?_
      exact e_iretp hX hR zcdX10_reckon_70.2.2.1 h
  refine e_if h (fun c8 h => ?_) (fun c8 h => ?_)
  · refine s_tabIn (tgt := 75) (off := 74) hX zcdX10_bounded_0.2.2.2.2.2.2.2 (by omega) (by omega) (by rw [c8]; rfl) (by decide) ?_
    refine s_iload_n (k := 1) hX zcdX10_reckon_70.2.2.2.1 rfl rfl ?_
    refine s_iload_n (k := 2) hX zcdX10_reckon_70.2.2.2.2.1 rfl rfl ?_
    refine e_icmp_le (tgt := 84) hX zcdX10_reckon_70.2.2.2.2.2.1 (by decide) r_le h (fun h => ?_) (fun h => ?_)
    · refine s_iconst (v := (nI 0)) hX zcdX10_reckon_84.1 (by decide) ?_
      exact e_iretp hX hR zcdX10_reckon_84.2.1 h
    · refine s_iconst (v := (nI 1)) hX zcdX10_reckon_70.2.2.2.2.2.2.1 (by decide) ?_
      refine s_goto (tgt := 85) hX zcdX10_reckon_70.2.2.2.2.2.2.2 (by decide) ?_
      exact e_iretp hX hR zcdX10_reckon_84.2.1 h
  refine s_tabOut (tgt := 86) hX zcdX10_bounded_0.2.2.2.2.2.2.2 (by omega) (by decide) ?_
  refine s_iload_n (k := 1) hX zcdX10_reckon_84.2.2.1 rfl rfl ?_
  refine s_iload_n (k := 2) hX zcdX10_reckon_84.2.2.2.1 rfl rfl ?_
  refine e_icmp_ne (tgt := 95) hX zcdX10_reckon_84.2.2.2.2.1 (by decide) r_eq h (fun h => ?_) (fun h => ?_)
  · refine s_iconst (v := (nI 0)) hX zcdX10_reckon_84.2.2.2.2.2.2.2 (by decide) ?_
    exact e_iretp hX hR zcdX10_reckon_96.1 h
  · refine s_iconst (v := (nI 1)) hX zcdX10_reckon_84.2.2.2.2.2.1 (by decide) ?_
    refine s_goto (tgt := 96) hX zcdX10_reckon_84.2.2.2.2.2.2.1 (by decide) ?_
    exact e_iretp hX hR zcdX10_reckon_96.1 h
set_option maxHeartbeats 4000000 in
theorem t_X10_comesTo (v1 : Int32) (v2 : Int32) (M : Mem) : AXi yX10_comesTo cX10_comesTo 8 (some .int) 1 39 glM (fun ad => [.ref (ad 0), .int v1, .int v2]) M (f_X10_comesTo M v1 v2) := by
  intro r0 h
  refine AM.of (by decide) (fun _ => Nat.le_of_ble_eq_true rfl) (fun X ad cI cZ cB hX hR => ?_)
  show V X M [(0, .ref (ad 0)), (1, .int v1), (2, .int v2)] [] 0
  refine s_iconst (v := (nI 0)) hX zcdX10_reckon_96.2.1 (by decide) ?_
  refine s_istore_n (lv' := [(0, .ref (ad 0)), (1, .int v1), (2, .int v2), (3, .int (nI 0))]) hX zcdX10_reckon_96.2.2.1 rfl (by decide) rfl ?_
  refine s_sipush (v := (nI 260)) hX zcdX10_reckon_96.2.2.2.1 (by decide) ?_
  refine s_iload_n (k := 1) hX zcdX10_reckon_96.2.2.2.2.1 rfl rfl ?_
  refine s_sipush (v := (nI 260)) hX zcdX10_reckon_96.2.2.2.2.2.1 (by decide) ?_
  refine s_idiv hX zcdX10_reckon_96.2.2.2.2.2.2.1 (by decide) ?_
  refine s_imul hX zcdX10_reckon_96.2.2.2.2.2.2.2 ?_
  refine e_bnd h (fun x_1 h => ?_)
  refine s_istore (lv' := [(0, .ref (ad 0)), (1, .int v1), (2, .int v2), (3, .int (nI 0)), (4, .int x_1)]) hX zcdX10_comesTo_11.1 (by decide) rfl ?_
  refine s_iload_n (k := 1) hX zcdX10_comesTo_11.2.1 rfl rfl ?_
  refine s_istore (lv' := [(0, .ref (ad 0)), (1, .int v1), (2, .int v2), (3, .int (nI 0)), (4, .int x_1), (5, .int v1)]) hX zcdX10_comesTo_11.2.2.1 (by decide) rfl ?_
  have lp16 : ∀ (N16 : Nat) (M16 : Mem) (y3_16 : Int32) (y5_16 : Int32), wlp3 (f_X10_comesTo_B16 v2 x_1) N16 M16 y3_16 y5_16 = some r0 → V X M16 [(0, .ref (ad 0)), (2, .int v2), (3, .int y3_16), (4, .int x_1), (5, .int y5_16)] [] 16 := by
    intro N16
    induction N16 with
    | zero => exact fun _ _ _ h => e_none h
    | succ N16 ih16 =>
      intro M16 y3_16 y5_16 h
      replace h : f_X10_comesTo_B16 v2 x_1 (wlp3 (f_X10_comesTo_B16 v2 x_1) N16) M16 y3_16 y5_16 = some r0 := h
      generalize wlp3 (f_X10_comesTo_B16 v2 x_1) N16 = ag16 at ih16 h
      refine s_iload (k := 4) hX zcdX10_comesTo_11.2.2.2.1 rfl ?_
      refine s_iload_n (k := 1) hX zcdX10_comesTo_11.2.2.2.2.1 rfl rfl ?_
      refine e_icmp_ge (tgt := 233) hX zcdX10_comesTo_11.2.2.2.2.2.1 (by decide) r_le h (fun h => ?_) (fun h => ?_)
      · refine s_aload_n (k := 0) hX zcdX10_comesTo_230.2.1 rfl rfl ?_
        refine s_get hX fX10_59 oM0 rfl zcdX10_comesTo_230.2.2.1 ?_
        refine s_iconst (v := (nI 0)) hX zcdX10_comesTo_230.2.2.2.1 (by decide) ?_
        refine s_ialdN hX aM17 (by decide) zcdX10_comesTo_230.2.2.2.2.1 ?_
        exact e_ireti hX hR zcdX10_comesTo_230.2.2.2.2.2.1 h
      · refine s_aload_n (k := 0) hX zcdX10_comesTo_11.2.2.2.2.2.2.1 rfl rfl ?_
        refine s_get hX fX10_44 oM0 rfl zcdX10_comesTo_11.2.2.2.2.2.2.2 ?_
        refine s_iload (k := 4) hX zcdX10_comesTo_26.1 rfl ?_
        refine e_iald hX aM12 zcdX10_comesTo_26.2.1 h (fun h => ?_)
        refine s_ldc (v := (nI 1048576)) hX kX10_191 zcdX10_comesTo_26.2.2.1 ?_
        refine s_idiv hX zcdX10_comesTo_26.2.2.2.1 (by decide) ?_
        refine e_bnd h (fun x_2 h => ?_)
        refine s_istore (lv' := [(0, .ref (ad 0)), (2, .int v2), (3, .int y3_16), (4, .int x_1), (5, .int y5_16), (6, .int x_2)]) hX zcdX10_comesTo_26.2.2.2.2.1 (by decide) rfl ?_
        refine s_aload_n (k := 0) hX zcdX10_comesTo_26.2.2.2.2.2.1 rfl rfl ?_
        refine s_get hX fX10_44 oM0 rfl zcdX10_comesTo_26.2.2.2.2.2.2.1 ?_
        refine s_iload (k := 4) hX zcdX10_comesTo_26.2.2.2.2.2.2.2 rfl ?_
        refine e_iald hX aM12 zcdX10_comesTo_40.1 h (fun h => ?_)
        refine s_ldc (v := (nI 1048576)) hX kX10_191 zcdX10_comesTo_40.2.1 ?_
        refine s_iremL hX zcdX10_comesTo_40.2.2.1 (by decide) ?_
        refine e_bnd h (fun x_3 h => ?_)
        refine s_istore (lv' := [(0, .ref (ad 0)), (2, .int v2), (3, .int y3_16), (4, .int x_1), (5, .int y5_16), (6, .int x_2), (7, .int x_3)]) hX zcdX10_comesTo_40.2.2.2.1 (by decide) rfl ?_
        refine s_iload (k := 4) hX zcdX10_comesTo_40.2.2.2.2.1 rfl ?_
        refine s_iconst (v := (nI 1)) hX zcdX10_comesTo_40.2.2.2.2.2.1 (by decide) ?_
        refine s_iadd hX zcdX10_comesTo_40.2.2.2.2.2.2.1 ?_
        refine s_istore (lv' := [(0, .ref (ad 0)), (2, .int v2), (3, .int y3_16), (4, .int x_1), (6, .int x_2), (7, .int x_3), (5, .int (y5_16 + (nI 1)))]) hX zcdX10_comesTo_40.2.2.2.2.2.2.2 (by decide) rfl ?_
        refine s_iload (k := 4) hX zcdX10_comesTo_52.1 rfl ?_
        have j63 : f_X10_comesTo_L63 ag16 M16 y3_16 y5_16 x_2 x_3 = some r0 → V X M16 [(0, .ref (ad 0)), (2, .int v2), (3, .int y3_16), (4, .int x_1), (5, .int (y5_16 + (nI 1))), (6, .int x_2), (7, .int x_3)] [] 63 := by
          intro  h
          refine s_aload_n (k := 0) hX zcdX10_comesTo_52.2.2.2.2.2.1 rfl rfl ?_
          refine s_get hX fX10_59 oM0 rfl zcdX10_comesTo_52.2.2.2.2.2.2.1 ?_
          refine s_iload_n (k := 2) hX zcdX10_comesTo_52.2.2.2.2.2.2.2 rfl rfl ?_
          refine s_iload (k := 5) hX zcdX10_comesTo_68.1 rfl ?_
          have j85 : ∀ (t0_85 : Int32), f_X10_comesTo_L85 ag16 M16 y3_16 y5_16 t0_85 = some r0 → V X M16 [(0, .ref (ad 0)), (2, .int v2), (3, .int y3_16), (4, .int x_1), (5, .int (y5_16 + (nI 1)))] [.int t0_85, .int y3_16, .ref (ad 17)] 85 := by
            intro t0_85 h
            refine e_iast hX aM17 zcdX10_comesTo_85.1 h (fun h => ?_)
            refine e_bndM h (fun M_4 h => ?_)
            refine s_iload_n (k := 2) hX zcdX10_comesTo_85.2.1 rfl rfl ?_
            refine s_iconst (v := (nI 1)) hX zcdX10_comesTo_85.2.2.1 (by decide) ?_
            refine s_iadd hX zcdX10_comesTo_85.2.2.2.1 ?_
            refine s_istore_n (lv' := [(0, .ref (ad 0)), (2, .int v2), (4, .int x_1), (5, .int (y5_16 + (nI 1))), (3, .int (y3_16 + (nI 1)))]) hX zcdX10_comesTo_85.2.2.2.2.1 rfl (by decide) rfl ?_
            refine s_goto (tgt := 230) hX zcdX10_comesTo_85.2.2.2.2.2.1 (by decide) ?_
            refine s_goto (tgt := 16) hX zcdX10_comesTo_230.1 (by decide) ?_
            refine s_loc [0, 1, 4, 2, 3] rfl ?_
            exact ih16 M_4 (y3_16 + (nI 1)) (y5_16 + (nI 1)) h
          refine e_if_ne (tgt := 78) hX zcdX10_comesTo_68.2.1 (by decide) z_eq h (fun h => ?_) (fun h => ?_)
          · refine s_aload_n (k := 0) hX zcdX10_comesTo_68.2.2.2.2.1 rfl rfl ?_
            refine s_get hX fX10_62 oM0 rfl zcdX10_comesTo_68.2.2.2.2.2.1 ?_
            refine s_iload (k := 6) hX zcdX10_comesTo_68.2.2.2.2.2.2.1 rfl ?_
            refine e_iald hX aM18 zcdX10_comesTo_68.2.2.2.2.2.2.2 h (fun h => ?_)
            refine s_loc [0, 1, 2, 3, 4] rfl ?_
            exact j85 (M16 18 (ix x_3)) h
          · refine s_iload (k := 6) hX zcdX10_comesTo_68.2.2.1 rfl ?_
            refine s_goto (tgt := 85) hX zcdX10_comesTo_68.2.2.2.1 (by decide) ?_
            refine s_loc [0, 1, 2, 3, 4] rfl ?_
            exact j85 x_3 h
        refine e_if_eq (tgt := 63) hX zcdX10_comesTo_52.2.1 (by decide) z_eq h (fun h => ?_) (fun h => ?_)
        · refine s_loc [0, 1, 2, 3, 6, 4, 5] rfl ?_
          exact j63 h
        · refine s_iload (k := 4) hX zcdX10_comesTo_52.2.2.1 rfl ?_
          refine s_iconst (v := (nI 1)) hX zcdX10_comesTo_52.2.2.2.1 (by decide) ?_
          refine e_icmp_ne (tgt := 93) hX zcdX10_comesTo_52.2.2.2.2.1 (by decide) (m_eq (by decide +kernel)) h (fun h => ?_) (fun h => ?_)
          · refine s_iload (k := 4) hX zcdX10_comesTo_85.2.2.2.2.2.2.1 rfl ?_
            refine s_bipush (v := (nI 10)) hX zcdX10_comesTo_85.2.2.2.2.2.2.2 (by decide) ?_
            refine e_icmp_ne (tgt := 121) hX zcdX10_comesTo_97.1 (by decide) (m_eq (by decide +kernel)) h (fun h => ?_) (fun h => ?_)
            · refine s_iload (k := 4) hX zcdX10_comesTo_121.1 rfl ?_
              refine s_bipush (v := (nI 11)) hX zcdX10_comesTo_121.2.1 (by decide) ?_
              have j135 : f_X10_comesTo_L135 x_1 ag16 M16 y3_16 y5_16 x_2 x_3 = some r0 → V X M16 [(0, .ref (ad 0)), (2, .int v2), (3, .int y3_16), (4, .int x_1), (5, .int (y5_16 + (nI 1))), (6, .int x_2), (7, .int x_3)] [] 135 := by
                intro  h
                refine s_aload_n (k := 0) hX zcdX10_comesTo_121.2.2.2.2.2.2.1 rfl rfl ?_
                refine s_get hX fX10_59 oM0 rfl zcdX10_comesTo_121.2.2.2.2.2.2.2 ?_
                refine s_iload_n (k := 2) hX zcdX10_comesTo_139.1 rfl rfl ?_
                refine s_iconst (v := (nI 1)) hX zcdX10_comesTo_139.2.1 (by decide) ?_
                refine s_isub hX zcdX10_comesTo_139.2.2.1 ?_
                refine e_iald hX aM17 zcdX10_comesTo_139.2.2.2.1 h (fun h => ?_)
                refine s_iload (k := 5) hX zcdX10_comesTo_139.2.2.2.2.1 rfl ?_
                refine s_bipush (v := (nI 12)) hX zcdX10_comesTo_139.2.2.2.2.2.1 (by decide) ?_
                have j155 : ∀ (t0_155 : Int32), f_X10_comesTo_L155 x_1 ag16 M16 y3_16 y5_16 x_3 t0_155 = some r0 → V X M16 [(0, .ref (ad 0)), (2, .int v2), (3, .int y3_16), (4, .int x_1), (5, .int (y5_16 + (nI 1))), (7, .int x_3)] [.int t0_155, .int (M16 17 (ix (y3_16 - (nI 1))))] 155 := by
                  intro t0_155 h
                  refine e_icmp_ne (tgt := 168) hX zcdX10_comesTo_151.2.2.1 (by decide) r_eq h (fun h => ?_) (fun h => ?_)
                  · refine s_iload_n (k := 2) hX zcdX10_comesTo_168.1 rfl rfl ?_
                    refine s_iconst (v := (nI 1)) hX zcdX10_comesTo_168.2.1 (by decide) ?_
                    refine s_isub hX zcdX10_comesTo_168.2.2.1 ?_
                    refine s_istore_n (lv' := [(0, .ref (ad 0)), (2, .int v2), (4, .int x_1), (5, .int (y5_16 + (nI 1))), (7, .int x_3), (3, .int (y3_16 - (nI 1)))]) hX zcdX10_comesTo_168.2.2.2.1 rfl (by decide) rfl ?_
                    refine s_goto (tgt := 230) hX zcdX10_comesTo_168.2.2.2.2.1 (by decide) ?_
                    refine s_goto (tgt := 16) hX zcdX10_comesTo_230.1 (by decide) ?_
                    refine s_loc [0, 1, 5, 2, 3] rfl ?_
                    exact ih16 M16 (y3_16 - (nI 1)) (y5_16 + (nI 1)) h
                  · refine s_iload (k := 3) hX zcdX10_comesTo_151.2.2.2.1 rfl ?_
                    refine s_iload (k := 5) hX zcdX10_comesTo_151.2.2.2.2.1 rfl ?_
                    refine s_iadd hX zcdX10_comesTo_151.2.2.2.2.2.1 ?_
                    refine e_bnd h (fun x_5 h => ?_)
                    refine s_istore (lv' := [(0, .ref (ad 0)), (2, .int v2), (3, .int y3_16), (4, .int x_1), (7, .int x_3), (5, .int x_5)]) hX zcdX10_comesTo_151.2.2.2.2.2.2.1 (by decide) rfl ?_
                    refine s_goto (tgt := 230) hX zcdX10_comesTo_151.2.2.2.2.2.2.2 (by decide) ?_
                    refine s_goto (tgt := 16) hX zcdX10_comesTo_230.1 (by decide) ?_
                    refine s_loc [0, 1, 2, 3, 5] rfl ?_
                    exact ih16 M16 y3_16 x_5 h
                refine e_icmp_ne (tgt := 154) hX zcdX10_comesTo_139.2.2.2.2.2.2.1 (by decide) (m_eq (by decide +kernel)) h (fun h => ?_) (fun h => ?_)
                · refine s_iconst (v := (nI 0)) hX zcdX10_comesTo_151.2.1 (by decide) ?_
                  refine s_loc [0, 1, 2, 3, 4, 6] rfl ?_
                  exact j155 (nI 0) h
                · refine s_iconst (v := (nI 1)) hX zcdX10_comesTo_139.2.2.2.2.2.2.2 (by decide) ?_
                  refine s_goto (tgt := 155) hX zcdX10_comesTo_151.1 (by decide) ?_
                  refine s_loc [0, 1, 2, 3, 4, 6] rfl ?_
                  exact j155 (nI 1) h
              refine e_icmp_eq (tgt := 135) hX zcdX10_comesTo_121.2.2.1 (by decide) (m_eq (by decide +kernel)) h (fun h => ?_) (fun h => ?_)
              · refine s_loc [0, 1, 2, 3, 6, 4, 5] rfl ?_
                exact j135 h
              · refine s_iload (k := 4) hX zcdX10_comesTo_121.2.2.2.1 rfl ?_
                refine s_bipush (v := (nI 12)) hX zcdX10_comesTo_121.2.2.2.2.1 (by decide) ?_
                refine e_icmp_ne (tgt := 175) hX zcdX10_comesTo_121.2.2.2.2.2.1 (by decide) (m_eq (by decide +kernel)) h (fun h => ?_) (fun h => ?_)
                · refine s_iload_n (k := 2) hX zcdX10_comesTo_168.2.2.2.2.2.1 rfl rfl ?_
                  refine s_iconst (v := (nI 1)) hX zcdX10_comesTo_168.2.2.2.2.2.2.1 (by decide) ?_
                  refine s_isub hX zcdX10_comesTo_168.2.2.2.2.2.2.2 ?_
                  refine s_istore_n (lv' := [(0, .ref (ad 0)), (2, .int v2), (4, .int x_1), (6, .int x_2), (7, .int x_3), (5, .int (y5_16 + (nI 1))), (3, .int (y3_16 - (nI 1)))]) hX zcdX10_comesTo_178.1 rfl (by decide) rfl ?_
                  refine s_iload (k := 3) hX zcdX10_comesTo_178.2.1 rfl ?_
                  refine s_iconst (v := (nI 5)) hX zcdX10_comesTo_178.2.2.1 (by decide) ?_
                  have j203 : f_X10_comesTo_L203 ag16 M16 y3_16 y5_16 x_2 = some r0 → V X M16 [(0, .ref (ad 0)), (2, .int v2), (3, .int (y3_16 - (nI 1))), (4, .int x_1), (5, .int (y5_16 + (nI 1))), (6, .int x_2)] [] 203 := by
                    intro  h
                    refine s_aload_n (k := 0) hX zcdX10_comesTo_193.2.2.2.2.2.2.1 rfl rfl ?_
                    refine s_get hX fX10_59 oM0 rfl zcdX10_comesTo_193.2.2.2.2.2.2.2 ?_
                    refine s_iload_n (k := 2) hX zcdX10_comesTo_207.1 rfl rfl ?_
                    refine s_iconst (v := (nI 1)) hX zcdX10_comesTo_207.2.1 (by decide) ?_
                    refine s_isub hX zcdX10_comesTo_207.2.2.1 ?_
                    refine s_iload (k := 5) hX zcdX10_comesTo_207.2.2.2.1 rfl ?_
                    refine s_aload_n (k := 0) hX zcdX10_comesTo_207.2.2.2.2.1 rfl rfl ?_
                    refine s_get hX fX10_59 oM0 rfl zcdX10_comesTo_207.2.2.2.2.2.1 ?_
                    refine s_iload_n (k := 2) hX zcdX10_comesTo_207.2.2.2.2.2.2.1 rfl rfl ?_
                    refine s_iconst (v := (nI 1)) hX zcdX10_comesTo_207.2.2.2.2.2.2.2 (by decide) ?_
                    refine s_isub hX zcdX10_comesTo_218.1 ?_
                    refine e_iald hX aM17 zcdX10_comesTo_218.2.1 h (fun h => ?_)
                    refine s_aload_n (k := 0) hX zcdX10_comesTo_218.2.2.1 rfl rfl ?_
                    refine s_get hX fX10_59 oM0 rfl zcdX10_comesTo_218.2.2.2.1 ?_
                    refine s_iload_n (k := 2) hX zcdX10_comesTo_218.2.2.2.2.1 rfl rfl ?_
                    refine e_iald hX aM17 zcdX10_comesTo_218.2.2.2.2.2.1 h (fun h => ?_)
                    refine e_callSp hX (t_X10_reckon x_2 (M16 17 (ix ((y3_16 - (nI 1)) - (nI 1)))) (M16 17 (ix (y3_16 - (nI 1)))) M16) mX10_reckon lX10_261 (by decide) (by decide) rfl rfl (Nat.le_of_ble_eq_true rfl) zcdX10_comesTo_218.2.2.2.2.2.2.1 h (fun r_6 h => ?_)
                    refine e_iast hX aM17 zcdX10_comesTo_218.2.2.2.2.2.2.2 h (fun h => ?_)
                    refine e_bndM h (fun M_7 h => ?_)
                    refine s_goto (tgt := 16) hX zcdX10_comesTo_230.1 (by decide) ?_
                    refine s_loc [0, 1, 2, 3, 4] rfl ?_
                    exact ih16 M_7 (y3_16 - (nI 1)) (y5_16 + (nI 1)) h
                  have j192 : f_X10_comesTo_L192 ag16 M16 y3_16 y5_16 x_2 = some r0 → V X M16 [(0, .ref (ad 0)), (2, .int v2), (3, .int (y3_16 - (nI 1))), (4, .int x_1), (5, .int (y5_16 + (nI 1))), (6, .int x_2)] [] 192 := by
                    intro  h
                    refine s_aload_n (k := 0) hX zcdX10_comesTo_178.2.2.2.2.2.2.2 rfl rfl ?_
                    refine s_get hX fX10_59 oM0 rfl zcdX10_comesTo_193.1 ?_
                    refine s_iload_n (k := 2) hX zcdX10_comesTo_193.2.1 rfl rfl ?_
                    refine e_iald hX aM17 zcdX10_comesTo_193.2.2.1 h (fun h => ?_)
                    refine e_if_ne (tgt := 203) hX zcdX10_comesTo_193.2.2.2.1 (by decide) z_eq h (fun h => ?_) (fun h => ?_)
                    · exact j203 h
                    · refine s_iconst (v := (nI 0)) hX zcdX10_comesTo_193.2.2.2.2.1 (by decide) ?_
                      exact e_ireti hX hR zcdX10_comesTo_193.2.2.2.2.2.1 h
                  refine e_icmp_eq (tgt := 192) hX zcdX10_comesTo_178.2.2.2.1 (by decide) (m_eq (by decide +kernel)) h (fun h => ?_) (fun h => ?_)
                  · refine s_loc [0, 1, 6, 2, 5, 3] rfl ?_
                    exact j192 h
                  · refine s_iload (k := 3) hX zcdX10_comesTo_178.2.2.2.2.1 rfl ?_
                    refine s_bipush (v := (nI 6)) hX zcdX10_comesTo_178.2.2.2.2.2.1 (by decide) ?_
                    refine e_icmp_ne (tgt := 203) hX zcdX10_comesTo_178.2.2.2.2.2.2.1 (by decide) (m_eq (by decide +kernel)) h (fun h => ?_) (fun h => ?_)
                    · refine s_loc [0, 1, 6, 2, 5, 3] rfl ?_
                      exact j203 h
                    · refine s_loc [0, 1, 6, 2, 5, 3] rfl ?_
                      exact j192 h
                · refine s_loc [0, 1, 2, 3, 6, 4, 5] rfl ?_
                  exact j135 h
            · refine s_aload_n (k := 0) hX zcdX10_comesTo_97.2.1 rfl rfl ?_
              refine s_get hX fX10_59 oM0 rfl zcdX10_comesTo_97.2.2.1 ?_
              refine s_iload_n (k := 2) hX zcdX10_comesTo_97.2.2.2.1 rfl rfl ?_
              refine s_iconst (v := (nI 1)) hX zcdX10_comesTo_97.2.2.2.2.1 (by decide) ?_
              refine s_isub hX zcdX10_comesTo_97.2.2.2.2.2.1 ?_
              refine s_iconst (v := (nI 1)) hX zcdX10_comesTo_97.2.2.2.2.2.2.1 (by decide) ?_
              refine s_aload_n (k := 0) hX zcdX10_comesTo_97.2.2.2.2.2.2.2 rfl rfl ?_
              refine s_get hX fX10_59 oM0 rfl zcdX10_comesTo_109.1 ?_
              refine s_iload_n (k := 2) hX zcdX10_comesTo_109.2.1 rfl rfl ?_
              refine s_iconst (v := (nI 1)) hX zcdX10_comesTo_109.2.2.1 (by decide) ?_
              refine s_isub hX zcdX10_comesTo_109.2.2.2.1 ?_
              refine e_iald hX aM17 zcdX10_comesTo_109.2.2.2.2.1 h (fun h => ?_)
              refine s_isub hX zcdX10_comesTo_109.2.2.2.2.2.1 ?_
              refine e_iast hX aM17 zcdX10_comesTo_109.2.2.2.2.2.2.1 h (fun h => ?_)
              refine e_bndM h (fun M_8 h => ?_)
              refine s_goto (tgt := 230) hX zcdX10_comesTo_109.2.2.2.2.2.2.2 (by decide) ?_
              refine s_goto (tgt := 16) hX zcdX10_comesTo_230.1 (by decide) ?_
              refine s_loc [0, 1, 2, 3, 6] rfl ?_
              exact ih16 M_8 y3_16 (y5_16 + (nI 1)) h
          · refine s_loc [0, 1, 2, 3, 6, 4, 5] rfl ?_
            exact j63 h
  refine s_loc [0, 2, 3, 4, 5] rfl ?_
  exact lp16 FU M (nI 0) v1 h
set_option maxHeartbeats 4000000 in
theorem t_X10_byLaw (v1 : Int32) (v2 : Int32) (M : Mem) : AXi yX10_byLaw cX10_byLaw 5 (some .int) 2 39 glM (fun ad => [.ref (ad 0), .int v1, .int v2]) M (f_X10_byLaw M v1 v2) := by
  intro r0 h
  refine AM.of (by decide) (fun _ => Nat.le_of_ble_eq_true rfl) (fun X ad cI cZ cB hX hR => ?_)
  show V X M [(0, .ref (ad 0)), (1, .int v1), (2, .int v2)] [] 0
  refine s_iconst (v := (nI 0)) hX zcdX10_comesTo_230.2.2.2.2.2.2.1 (by decide) ?_
  refine s_istore_n (lv' := [(0, .ref (ad 0)), (1, .int v1), (2, .int v2), (3, .int (nI 0))]) hX zcdX10_comesTo_230.2.2.2.2.2.2.2 rfl (by decide) rfl ?_
  have lp2 : ∀ (N2 : Nat) (M2 : Mem) (y3_2 : Int32), wlp2 (f_X10_byLaw_B2 v1 v2) N2 M2 y3_2 = some r0 → V X M2 [(0, .ref (ad 0)), (1, .int v1), (2, .int v2), (3, .int y3_2)] [] 2 := by
    intro N2
    induction N2 with
    | zero => exact fun _ _ h => e_none h
    | succ N2 ih2 =>
      intro M2 y3_2 h
      replace h : f_X10_byLaw_B2 v1 v2 (wlp2 (f_X10_byLaw_B2 v1 v2) N2) M2 y3_2 = some r0 := h
      generalize wlp2 (f_X10_byLaw_B2 v1 v2) N2 = ag2 at ih2 h
      refine s_iload_n (k := 3) hX zcdX10_byLaw_2.1 rfl rfl ?_
      refine s_aload_n (k := 0) hX zcdX10_byLaw_2.2.1 rfl rfl ?_
      refine s_get hX fX10_258 oM0 rfl zcdX10_byLaw_2.2.2.1 ?_
      refine e_icmp_ge (tgt := 89) hX zcdX10_byLaw_2.2.2.2.1 (by decide) r_le h (fun h => ?_) (fun h => ?_)
      · refine s_iconst (v := (nI 0)) hX zcdX10_byLaw_73.2.2.2.2.2.2.2 (by decide) ?_
        exact e_ireti hX hR zcdX10_byLaw_90.1 h
      · refine s_aload_n (k := 0) hX zcdX10_byLaw_2.2.2.2.2.1 rfl rfl ?_
        refine s_get hX fX10_47 oM0 rfl zcdX10_byLaw_2.2.2.2.2.2.1 ?_
        refine s_iload_n (k := 3) hX zcdX10_byLaw_2.2.2.2.2.2.2.1 rfl rfl ?_
        refine e_iald hX aM13 zcdX10_byLaw_2.2.2.2.2.2.2.2 h (fun h => ?_)
        refine s_iload_n (k := 1) hX zcdX10_byLaw_16.1 rfl rfl ?_
        refine e_icmp_ne (tgt := 83) hX zcdX10_byLaw_16.2.1 (by decide) r_eq h (fun h => ?_) (fun h => ?_)
        · refine s_iinc (k := 3) (v := (y3_2 + (nI 1))) (lv' := [(0, .ref (ad 0)), (1, .int v1), (2, .int v2), (3, .int (y3_2 + (nI 1)))]) hX zcdX10_byLaw_73.2.2.2.2.2.1 (congrArg (fun z => y3_2 + z) (by decide)) (by decide) rfl rfl ?_
          refine s_goto (tgt := 2) hX zcdX10_byLaw_73.2.2.2.2.2.2.1 (by decide) ?_
          exact ih2 M2 (y3_2 + (nI 1)) h
        · refine s_aload_n (k := 0) hX zcdX10_byLaw_16.2.2.1 rfl rfl ?_
          refine s_aload_n (k := 0) hX zcdX10_byLaw_16.2.2.2.1 rfl rfl ?_
          refine s_get hX fX10_53 oM0 rfl zcdX10_byLaw_16.2.2.2.2.1 ?_
          refine s_iload_n (k := 3) hX zcdX10_byLaw_16.2.2.2.2.2.1 rfl rfl ?_
          refine e_iald hX aM15 zcdX10_byLaw_16.2.2.2.2.2.2.1 h (fun h => ?_)
          refine s_aload_n (k := 0) hX zcdX10_byLaw_16.2.2.2.2.2.2.2 rfl rfl ?_
          refine s_get hX fX10_56 oM0 rfl zcdX10_byLaw_28.1 ?_
          refine s_iload_n (k := 3) hX zcdX10_byLaw_28.2.1 rfl rfl ?_
          refine e_iald hX aM16 zcdX10_byLaw_28.2.2.1 h (fun h => ?_)
          refine e_callVi hX (t_X10_comesTo (M2 15 (ix y3_2)) (M2 16 (ix y3_2)) M2) mX10_comesTo lX10_265 (by decide) (by decide) oM0 rfl rfl rfl rfl rfl (Nat.le_of_ble_eq_true rfl) zcdX10_byLaw_28.2.2.2.1 h (fun r_1 M_2 h => ?_)
          refine s_iconst (v := (nI 1)) hX zcdX10_byLaw_28.2.2.2.2.1 (by decide) ?_
          have j43 : f_X10_byLaw_L43 v2 y3_2 M_2 = some r0 → V X M_2 [(0, .ref (ad 0)), (2, .int v2), (3, .int y3_2)] [] 43 := by
            intro  h
            refine s_aload_n (k := 0) hX zcdX10_byLaw_28.2.2.2.2.2.2.2 rfl rfl ?_
            refine s_aload_n (k := 0) hX zcdX10_byLaw_44.1 rfl rfl ?_
            refine s_get hX fX10_50 oM0 rfl zcdX10_byLaw_44.2.1 ?_
            refine s_iload_n (k := 2) hX zcdX10_byLaw_44.2.2.1 rfl rfl ?_
            refine e_iald hX aM14 zcdX10_byLaw_44.2.2.2.1 h (fun h => ?_)
            refine s_aload_n (k := 0) hX zcdX10_byLaw_44.2.2.2.2.1 rfl rfl ?_
            refine s_get hX fX10_53 oM0 rfl zcdX10_byLaw_44.2.2.2.2.2.1 ?_
            refine s_iload_n (k := 2) hX zcdX10_byLaw_44.2.2.2.2.2.2.1 rfl rfl ?_
            refine e_iald hX aM15 zcdX10_byLaw_44.2.2.2.2.2.2.2 h (fun h => ?_)
            refine e_callVi hX (t_X10_comesTo (M_2 14 (ix y3_2)) (M_2 15 (ix y3_2)) M_2) mX10_comesTo lX10_265 (by decide) (by decide) oM0 rfl rfl rfl rfl rfl (Nat.le_of_ble_eq_true rfl) zcdX10_byLaw_56.1 h (fun r_3 M_4 h => ?_)
            refine s_istore (lv' := [(0, .ref (ad 0)), (2, .int v2), (3, .int y3_2), (4, .int r_3)]) hX zcdX10_byLaw_56.2.1 (by decide) rfl ?_
            refine s_iload (k := 3) hX zcdX10_byLaw_56.2.2.1 rfl ?_
            refine e_if_ge (tgt := 70) hX zcdX10_byLaw_56.2.2.2.1 (by decide) z_ge h (fun h => ?_) (fun h => ?_)
            · refine s_iload (k := 3) hX zcdX10_byLaw_56.2.2.2.2.2.2.1 rfl ?_
              refine s_iload_n (k := 1) hX zcdX10_byLaw_56.2.2.2.2.2.2.2 rfl rfl ?_
              refine e_icmp_le (tgt := 80) hX zcdX10_byLaw_73.1 (by decide) r_le h (fun h => ?_) (fun h => ?_)
              · refine s_iload (k := 3) hX zcdX10_byLaw_73.2.2.2.1 rfl ?_
                exact e_ireti hX hR zcdX10_byLaw_73.2.2.2.2.1 h
              · refine s_iload_n (k := 1) hX zcdX10_byLaw_73.2.1 rfl rfl ?_
                refine s_goto (tgt := 82) hX zcdX10_byLaw_73.2.2.1 (by decide) ?_
                exact e_ireti hX hR zcdX10_byLaw_73.2.2.2.2.1 h
            · refine s_iconst (v := (nI 0)) hX zcdX10_byLaw_56.2.2.2.2.1 (by decide) ?_
              refine s_goto (tgt := 82) hX zcdX10_byLaw_56.2.2.2.2.2.1 (by decide) ?_
              exact e_ireti hX hR zcdX10_byLaw_73.2.2.2.2.1 h
          refine e_icmp_eq (tgt := 43) hX zcdX10_byLaw_28.2.2.2.2.2.1 (by decide) (m_eq (by decide +kernel)) h (fun h => ?_) (fun h => ?_)
          · refine s_loc [0, 2, 3] rfl ?_
            exact j43 h
          · refine s_goto (tgt := 83) hX zcdX10_byLaw_28.2.2.2.2.2.2.1 (by decide) ?_
            refine s_iinc (k := 3) (v := (y3_2 + (nI 1))) (lv' := [(0, .ref (ad 0)), (1, .int v1), (2, .int v2), (3, .int (y3_2 + (nI 1)))]) hX zcdX10_byLaw_73.2.2.2.2.2.1 (congrArg (fun z => y3_2 + z) (by decide)) (by decide) rfl rfl ?_
            refine s_goto (tgt := 2) hX zcdX10_byLaw_73.2.2.2.2.2.2.1 (by decide) ?_
            exact ih2 M_2 (y3_2 + (nI 1)) h
  exact lp2 FU M (nI 0) h
set_option maxHeartbeats 4000000 in
theorem t_X10_isDry (v1 : Int32) (M : Mem) : AXp yX10_isDry cX10_isDry 2 (some .boolean) 0 39 glM (fun ad => [.ref (ad 0), .int v1]) M (f_X10_isDry M v1) := by
  intro r0 h
  refine AM.of (by decide) (fun _ => Nat.le_of_ble_eq_true rfl) (fun X ad cI cZ cB hX hR => ?_)
  show V X M [(0, .ref (ad 0)), (1, .int v1)] [] 0
  refine s_aload_n (k := 0) hX zcdX10_byLaw_90.2.1 rfl rfl ?_
  refine s_get hX fX10_7 oM0 rfl zcdX10_byLaw_90.2.2.1 ?_
  refine s_iconst (v := (nI 0)) hX zcdX10_byLaw_90.2.2.2.1 (by decide) ?_
  refine s_iload_n (k := 1) hX zcdX10_byLaw_90.2.2.2.2.1 rfl rfl ?_
  refine s_iadd hX zcdX10_byLaw_90.2.2.2.2.2.1 ?_
  refine s_top (zadd _) ?_
  refine e_iald hX aM1 zcdX10_byLaw_90.2.2.2.2.2.2.1 h (fun h => ?_)
  refine s_iconst (v := (nI 1)) hX zcdX10_byLaw_90.2.2.2.2.2.2.2 (by decide) ?_
  refine e_icmp_ne (tgt := 29) hX zcdX10_isDry_9.1 (by decide) (m_eq (by decide +kernel)) h (fun h => ?_) (fun h => ?_)
  · refine s_iconst (v := (nI 0)) hX zcdX10_isDry_25.2.2.1 (by decide) ?_
    exact e_zretpL hX hR zcdX10_isDry_25.2.2.2.1 (by decide) h
  · refine s_aload_n (k := 0) hX zcdX10_isDry_9.2.1 rfl rfl ?_
    refine s_get hX fX10_7 oM0 rfl zcdX10_isDry_9.2.2.1 ?_
    refine s_sipush (v := (nI 160)) hX zcdX10_isDry_9.2.2.2.1 (by decide) ?_
    refine s_iload_n (k := 1) hX zcdX10_isDry_9.2.2.2.2.1 rfl rfl ?_
    refine s_iadd hX zcdX10_isDry_9.2.2.2.2.2.1 ?_
    refine e_iald hX aM1 zcdX10_isDry_9.2.2.2.2.2.2.1 h (fun h => ?_)
    refine e_if_ne (tgt := 29) hX zcdX10_isDry_9.2.2.2.2.2.2.2 (by decide) z_eq h (fun h => ?_) (fun h => ?_)
    · refine s_iconst (v := (nI 0)) hX zcdX10_isDry_25.2.2.1 (by decide) ?_
      exact e_zretpL hX hR zcdX10_isDry_25.2.2.2.1 (by decide) h
    · refine s_iconst (v := (nI 1)) hX zcdX10_isDry_25.1 (by decide) ?_
      refine s_goto (tgt := 30) hX zcdX10_isDry_25.2.1 (by decide) ?_
      exact e_zretpL hX hR zcdX10_isDry_25.2.2.2.1 (by decide) h
set_option maxHeartbeats 4000000 in
theorem t_X10_canStep (v1 : Int32) (v2 : Int32) (v3 : Int32) (M : Mem) : AXp yX10_canStep cX10_canStep 4 (some .boolean) 1 39 glM (fun ad => [.ref (ad 0), .int v1, .int v2, .int v3]) M (f_X10_canStep M v1 v2 v3) := by
  intro r0 h
  refine AM.of (by decide) (fun _ => Nat.le_of_ble_eq_true rfl) (fun X ad cI cZ cB hX hR => ?_)
  show V X M [(0, .ref (ad 0)), (1, .int v1), (2, .int v2), (3, .int v3)] [] 0
  refine s_aload_n (k := 0) hX zcdX10_isDry_25.2.2.2.2.1 rfl rfl ?_
  refine s_iload_n (k := 1) hX zcdX10_isDry_25.2.2.2.2.2.1 rfl rfl ?_
  refine e_callVp hX (t_X10_isDry v1 M) mX10_isDry lX10_319 (by decide) (by decide) oM0 rfl rfl rfl rfl rfl (Nat.le_of_ble_eq_true rfl) zcdX10_isDry_25.2.2.2.2.2.2.1 h (fun r_1 h => ?_)
  refine e_if_eq (tgt := 32) hX zcdX10_isDry_25.2.2.2.2.2.2.2 (by decide) z_eq h (fun h => ?_) (fun h => ?_)
  · refine s_iconst (v := (nI 0)) hX zcdX10_canStep_22.2.2.2.2.2.2.1 (by decide) ?_
    exact e_zretpL hX hR zcdX10_canStep_22.2.2.2.2.2.2.2 (by decide) h
  · refine s_aload_n (k := 0) hX zcdX10_canStep_8.1 rfl rfl ?_
    refine s_iload_n (k := 2) hX zcdX10_canStep_8.2.1 rfl rfl ?_
    refine e_callVp hX (t_X10_isDry v2 M) mX10_isDry lX10_319 (by decide) (by decide) oM0 rfl rfl rfl rfl rfl (Nat.le_of_ble_eq_true rfl) zcdX10_canStep_8.2.2.1 h (fun r_2 h => ?_)
    refine e_if_eq (tgt := 32) hX zcdX10_canStep_8.2.2.2.1 (by decide) z_eq h (fun h => ?_) (fun h => ?_)
    · refine s_iconst (v := (nI 0)) hX zcdX10_canStep_22.2.2.2.2.2.2.1 (by decide) ?_
      exact e_zretpL hX hR zcdX10_canStep_22.2.2.2.2.2.2.2 (by decide) h
    · refine s_aload_n (k := 0) hX zcdX10_canStep_8.2.2.2.2.1 rfl rfl ?_
      refine s_iload_n (k := 1) hX zcdX10_canStep_8.2.2.2.2.2.1 rfl rfl ?_
      refine s_iload_n (k := 2) hX zcdX10_canStep_8.2.2.2.2.2.2.1 rfl rfl ?_
      refine e_callVp hX (t_X10_apart v1 v2 M) mX10_apart lX10_144 (by decide) (by decide) oM0 rfl rfl rfl rfl rfl (Nat.le_of_ble_eq_true rfl) zcdX10_canStep_8.2.2.2.2.2.2.2 h (fun r_3 h => ?_)
      refine s_iload_n (k := 3) hX zcdX10_canStep_22.1 rfl rfl ?_
      refine s_iload_n (k := 3) hX zcdX10_canStep_22.2.1 rfl rfl ?_
      refine s_imul hX zcdX10_canStep_22.2.2.1 ?_
      refine e_icmp_gt (tgt := 32) hX zcdX10_canStep_22.2.2.2.1 (by decide) r_lt h (fun h => ?_) (fun h => ?_)
      · refine s_iconst (v := (nI 0)) hX zcdX10_canStep_22.2.2.2.2.2.2.1 (by decide) ?_
        exact e_zretpL hX hR zcdX10_canStep_22.2.2.2.2.2.2.2 (by decide) h
      · refine s_iconst (v := (nI 1)) hX zcdX10_canStep_22.2.2.2.2.1 (by decide) ?_
        refine s_goto (tgt := 33) hX zcdX10_canStep_22.2.2.2.2.2.1 (by decide) ?_
        exact e_zretpL hX hR zcdX10_canStep_22.2.2.2.2.2.2.2 (by decide) h
set_option maxHeartbeats 4000000 in
theorem t_X10_isStone (v1 : Int32) (M : Mem) : AXp yX10_isStone cX10_isStone 2 (some .boolean) 1 39 glM (fun ad => [.ref (ad 0), .int v1]) M (f_X10_isStone M v1) := by
  intro r0 h
  refine AM.of (by decide) (fun _ => Nat.le_of_ble_eq_true rfl) (fun X ad cI cZ cB hX hR => ?_)
  show V X M [(0, .ref (ad 0)), (1, .int v1)] [] 0
  refine s_iload_n (k := 1) hX zcdX10_isStone_0.1 rfl rfl ?_
  refine s_iconst (v := (nI 0)) hX zcdX10_isStone_0.2.1 (by decide) ?_
  refine s_bipush (v := (nI 39)) hX zcdX10_isStone_0.2.2.1 (by decide) ?_
  refine e_callSp hX (t_X10_in v1 (nI 0) (nI 39) M) mX10_in lX10_132 (by decide) (by decide) rfl rfl (Nat.le_of_ble_eq_true rfl) zcdX10_isStone_0.2.2.2.1 h (fun r_1 h => ?_)
  refine e_if_eq (tgt := 26) hX zcdX10_isStone_0.2.2.2.2.1 (by decide) z_eq h (fun h => ?_) (fun h => ?_)
  · refine s_iconst (v := (nI 0)) hX zcdX10_isStone_15.2.2.2.2.2.2.2 (by decide) ?_
    exact e_zretpL hX hR zcdX10_isStone_27 (by decide) h
  · refine s_aload_n (k := 0) hX zcdX10_isStone_0.2.2.2.2.2.1 rfl rfl ?_
    refine s_get hX fX10_7 oM0 rfl zcdX10_isStone_0.2.2.2.2.2.2.1 ?_
    refine s_iconst (v := (nI 0)) hX zcdX10_isStone_0.2.2.2.2.2.2.2 (by decide) ?_
    refine s_iload_n (k := 1) hX zcdX10_isStone_15.1 rfl rfl ?_
    refine s_iadd hX zcdX10_isStone_15.2.1 ?_
    refine s_top (zadd _) ?_
    refine e_iald hX aM1 zcdX10_isStone_15.2.2.1 h (fun h => ?_)
    refine s_iconst (v := (nI 1)) hX zcdX10_isStone_15.2.2.2.1 (by decide) ?_
    refine e_icmp_ne (tgt := 26) hX zcdX10_isStone_15.2.2.2.2.1 (by decide) (m_eq (by decide +kernel)) h (fun h => ?_) (fun h => ?_)
    · refine s_iconst (v := (nI 0)) hX zcdX10_isStone_15.2.2.2.2.2.2.2 (by decide) ?_
      exact e_zretpL hX hR zcdX10_isStone_27 (by decide) h
    · refine s_iconst (v := (nI 1)) hX zcdX10_isStone_15.2.2.2.2.2.1 (by decide) ?_
      refine s_goto (tgt := 27) hX zcdX10_isStone_15.2.2.2.2.2.2.1 (by decide) ?_
      exact e_zretpL hX hR zcdX10_isStone_27 (by decide) h
