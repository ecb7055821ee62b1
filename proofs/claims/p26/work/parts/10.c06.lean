theorem zcdX8_cheapest_0 : decode cX8_cheapest 0 = .ok (.iconst (-1), 1) ∧ decode cX8_cheapest 1 = .ok (.istore_n 1, 1) ∧ decode cX8_cheapest 2 = .ok (.iconst 0, 1) ∧ decode cX8_cheapest 3 = .ok (.istore_n 2, 1) ∧ decode cX8_cheapest 4 = .ok (.iload_n 2, 1) ∧ decode cX8_cheapest 5 = .ok (.bipush 42, 2) ∧ decode cX8_cheapest 7 = .ok (.if_icmp .ge 50, 3) ∧ decode cX8_cheapest 10 = .ok (.aload_n 0, 1) := by decide +kernel
theorem zcdX8_cheapest_11 : decode cX8_cheapest 11 = .ok (.getfield 27, 3) ∧ decode cX8_cheapest 14 = .ok (.iload_n 2, 1) ∧ decode cX8_cheapest 15 = .ok (.baload, 1) ∧ decode cX8_cheapest 16 = .ok (.ifCond .ne 35, 3) ∧ decode cX8_cheapest 19 = .ok (.aload_n 0, 1) ∧ decode cX8_cheapest 20 = .ok (.getfield 24, 3) ∧ decode cX8_cheapest 23 = .ok (.iload_n 2, 1) ∧ decode cX8_cheapest 24 = .ok (.iaload, 1) := by decide +kernel
theorem zcdX8_cheapest_25 : decode cX8_cheapest 25 = .ok (.iconst (-1), 1) ∧ decode cX8_cheapest 26 = .ok (.if_icmp .eq 25, 3) ∧ decode cX8_cheapest 29 = .ok (.iload_n 1, 1) ∧ decode cX8_cheapest 30 = .ok (.iconst (-1), 1) ∧ decode cX8_cheapest 31 = .ok (.if_icmp .eq 18, 3) ∧ decode cX8_cheapest 34 = .ok (.aload_n 0, 1) ∧ decode cX8_cheapest 35 = .ok (.getfield 24, 3) ∧ decode cX8_cheapest 38 = .ok (.iload_n 2, 1) := by decide +kernel
theorem zcdX8_cheapest_39 : decode cX8_cheapest 39 = .ok (.iaload, 1) ∧ decode cX8_cheapest 40 = .ok (.aload_n 0, 1) ∧ decode cX8_cheapest 41 = .ok (.getfield 24, 3) ∧ decode cX8_cheapest 44 = .ok (.iload_n 1, 1) ∧ decode cX8_cheapest 45 = .ok (.iaload, 1) ∧ decode cX8_cheapest 46 = .ok (.if_icmp .ge 5, 3) ∧ decode cX8_cheapest 49 = .ok (.iload_n 2, 1) ∧ decode cX8_cheapest 50 = .ok (.istore_n 1, 1) := by decide +kernel
theorem zcdX8_cheapest_51 : decode cX8_cheapest 51 = .ok (.iinc 2 1, 3) ∧ decode cX8_cheapest 54 = .ok (.goto (-50), 3) ∧ decode cX8_cheapest 57 = .ok (.iload_n 1, 1) ∧ decode cX8_cheapest 58 = .ok (.ireturn, 1) ∧ decode cX8_countIslands 0 = .ok (.aload_n 0, 1) ∧ decode cX8_countIslands 1 = .ok (.getfield 9, 3) ∧ decode cX8_countIslands 4 = .ok (.iconst (-1), 1) ∧ decode cX8_countIslands 5 = .ok (.invokestatic 31, 3) := by decide +kernel
theorem zcdX8_countIslands_8 : decode cX8_countIslands 8 = .ok (.iconst 0, 1) ∧ decode cX8_countIslands 9 = .ok (.istore_n 3, 1) ∧ decode cX8_countIslands 10 = .ok (.iconst 0, 1) ∧ decode cX8_countIslands 11 = .ok (.istore 4, 2) ∧ decode cX8_countIslands 13 = .ok (.iload 4, 2) ∧ decode cX8_countIslands 15 = .ok (.bipush 40, 2) ∧ decode cX8_countIslands 17 = .ok (.if_icmp .ge 47, 3) ∧ decode cX8_countIslands 20 = .ok (.aload_n 1, 1) := by decide +kernel
theorem zcdX8_countIslands_21 : decode cX8_countIslands 21 = .ok (.iload 4, 2) ∧ decode cX8_countIslands 23 = .ok (.invokevirtual 104, 3) ∧ decode cX8_countIslands 26 = .ok (.ifCond .eq 32, 3) ∧ decode cX8_countIslands 29 = .ok (.aload_n 0, 1) ∧ decode cX8_countIslands 30 = .ok (.getfield 9, 3) ∧ decode cX8_countIslands 33 = .ok (.iload 4, 2) ∧ decode cX8_countIslands 35 = .ok (.iaload, 1) ∧ decode cX8_countIslands 36 = .ok (.iconst (-1), 1) := by decide +kernel
theorem zcdX8_countIslands_37 : decode cX8_countIslands 37 = .ok (.if_icmp .ne 21, 3) ∧ decode cX8_countIslands 40 = .ok (.iinc 3 1, 3) ∧ decode cX8_countIslands 43 = .ok (.aload_n 0, 1) ∧ decode cX8_countIslands 44 = .ok (.aload_n 1, 1) ∧ decode cX8_countIslands 45 = .ok (.iload_n 2, 1) ∧ decode cX8_countIslands 46 = .ok (.iload 4, 2) ∧ decode cX8_countIslands 48 = .ok (.aload_n 0, 1) ∧ decode cX8_countIslands 49 = .ok (.getfield 9, 3) := by decide +kernel
theorem zcdX8_countIslands_52 : decode cX8_countIslands 52 = .ok (.bipush 40, 2) ∧ decode cX8_countIslands 54 = .ok (.invokevirtual 37, 3) ∧ decode cX8_countIslands 57 = .ok (.pop, 1) ∧ decode cX8_countIslands 58 = .ok (.iinc 4 1, 3) ∧ decode cX8_countIslands 61 = .ok (.goto (-48), 3) ∧ decode cX8_countIslands 64 = .ok (.iload_n 3, 1) ∧ decode cX8_countIslands 65 = .ok (.ireturn, 1) ∧ decode cX8_leadOn 0 = .ok (.iload_n 3, 1) := by decide +kernel
theorem zcdX8_leadOn_1 : decode cX8_leadOn 1 = .ok (.ifCond .lt 9, 3) ∧ decode cX8_leadOn 4 = .ok (.iload_n 3, 1) ∧ decode cX8_leadOn 5 = .ok (.bipush 42, 2) ∧ decode cX8_leadOn 7 = .ok (.if_icmp .lt 4, 3) ∧ decode cX8_leadOn 10 = .ok (.return_, 1) ∧ decode cX8_leadOn 11 = .ok (.iconst 0, 1) ∧ decode cX8_leadOn 12 = .ok (.istore 4, 2) ∧ decode cX8_leadOn 14 = .ok (.iload 4, 2) := by decide +kernel
theorem zcdX8_leadOn_16 : decode cX8_leadOn 16 = .ok (.bipush 42, 2) ∧ decode cX8_leadOn 18 = .ok (.if_icmp .ge 64, 3) ∧ decode cX8_leadOn 21 = .ok (.aload_n 0, 1) ∧ decode cX8_leadOn 22 = .ok (.getfield 9, 3) ∧ decode cX8_leadOn 25 = .ok (.iload 4, 2) ∧ decode cX8_leadOn 27 = .ok (.iaload, 1) ∧ decode cX8_leadOn 28 = .ok (.aload_n 0, 1) ∧ decode cX8_leadOn 29 = .ok (.getfield 9, 3) := by decide +kernel
theorem zcdX8_leadOn_32 : decode cX8_leadOn 32 = .ok (.iload_n 3, 1) ∧ decode cX8_leadOn 33 = .ok (.iaload, 1) ∧ decode cX8_leadOn 34 = .ok (.iconst 1, 1) ∧ decode cX8_leadOn 35 = .ok (.iadd, 1) ∧ decode cX8_leadOn 36 = .ok (.if_icmp .ne 40, 3) ∧ decode cX8_leadOn 39 = .ok (.aload_n 1, 1) ∧ decode cX8_leadOn 40 = .ok (.iload_n 3, 1) ∧ decode cX8_leadOn 41 = .ok (.iload 4, 2) := by decide +kernel
theorem zcdX8_leadOn_43 : decode cX8_leadOn 43 = .ok (.iload_n 2, 1) ∧ decode cX8_leadOn 44 = .ok (.invokevirtual 41, 3) ∧ decode cX8_leadOn 47 = .ok (.ifCond .eq 29, 3) ∧ decode cX8_leadOn 50 = .ok (.aload_n 0, 1) ∧ decode cX8_leadOn 51 = .ok (.getfield 21, 3) ∧ decode cX8_leadOn 54 = .ok (.iload 4, 2) ∧ decode cX8_leadOn 56 = .ok (.ldc 62, 2) ∧ decode cX8_leadOn 58 = .ok (.aload_n 0, 1) := by decide +kernel
theorem zcdX8_leadOn_59 : decode cX8_leadOn 59 = .ok (.getfield 21, 3) ∧ decode cX8_leadOn 62 = .ok (.iload 4, 2) ∧ decode cX8_leadOn 64 = .ok (.iaload, 1) ∧ decode cX8_leadOn 65 = .ok (.aload_n 0, 1) ∧ decode cX8_leadOn 66 = .ok (.getfield 21, 3) ∧ decode cX8_leadOn 69 = .ok (.iload_n 3, 1) ∧ decode cX8_leadOn 70 = .ok (.iaload, 1) ∧ decode cX8_leadOn 71 = .ok (.iadd, 1) := by decide +kernel
theorem zcdX8_leadOn_72 : decode cX8_leadOn 72 = .ok (.invokestatic 63, 3) ∧ decode cX8_leadOn 75 = .ok (.iastore, 1) ∧ decode cX8_leadOn 76 = .ok (.iinc 4 1, 3) ∧ decode cX8_leadOn 79 = .ok (.goto (-65), 3) ∧ decode cX8_leadOn 82 = .ok (.return_, 1) ∧ decode cX8_countRows 0 = .ok (.aload_n 0, 1) ∧ decode cX8_countRows 1 = .ok (.getfield 21, 3) ∧ decode cX8_countRows 4 = .ok (.iconst 0, 1) := by decide +kernel
theorem zcdX8_countRows_5 : decode cX8_countRows 5 = .ok (.invokestatic 31, 3) ∧ decode cX8_countRows 8 = .ok (.aload_n 0, 1) ∧ decode cX8_countRows 9 = .ok (.getfield 21, 3) ∧ decode cX8_countRows 12 = .ok (.bipush 40, 2) ∧ decode cX8_countRows 14 = .ok (.iconst 1, 1) ∧ decode cX8_countRows 15 = .ok (.iastore, 1) ∧ decode cX8_countRows 16 = .ok (.iconst 0, 1) ∧ decode cX8_countRows 17 = .ok (.istore 4, 2) := by decide +kernel
theorem zcdX8_countRows_19 : decode cX8_countRows 19 = .ok (.iload 4, 2) ∧ decode cX8_countRows 21 = .ok (.iload_n 3, 1) ∧ decode cX8_countRows 22 = .ok (.if_icmp .ge 29, 3) ∧ decode cX8_countRows 25 = .ok (.iload 4, 2) ∧ decode cX8_countRows 27 = .ok (.bipush 42, 2) ∧ decode cX8_countRows 29 = .ok (.if_icmp .ge 22, 3) ∧ decode cX8_countRows 32 = .ok (.aload_n 0, 1) ∧ decode cX8_countRows 33 = .ok (.aload_n 1, 1) := by decide +kernel
theorem zcdX8_countRows_34 : decode cX8_countRows 34 = .ok (.iload_n 2, 1) ∧ decode cX8_countRows 35 = .ok (.aload_n 0, 1) ∧ decode cX8_countRows 36 = .ok (.getfield 18, 3) ∧ decode cX8_countRows 39 = .ok (.iload 4, 2) ∧ decode cX8_countRows 41 = .ok (.iaload, 1) ∧ decode cX8_countRows 42 = .ok (.invokevirtual 58, 3) ∧ decode cX8_countRows 45 = .ok (.iinc 4 1, 3) ∧ decode cX8_countRows 48 = .ok (.goto (-29), 3) := by decide +kernel
theorem zcdX8_countRows_51 : decode cX8_countRows 51 = .ok (.aload_n 0, 1) ∧ decode cX8_countRows 52 = .ok (.getfield 21, 3) ∧ decode cX8_countRows 55 = .ok (.bipush 41, 2) ∧ decode cX8_countRows 57 = .ok (.iaload, 1) ∧ decode cX8_countRows 58 = .ok (.ireturn, 1) ∧ decode cX8_lowestOnward 0 = .ok (.iconst 0, 1) ∧ decode cX8_lowestOnward 1 = .ok (.istore 5, 2) ∧ decode cX8_lowestOnward 3 = .ok (.iload 5, 2) := by decide +kernel
theorem zcdX8_lowestOnward_5 : decode cX8_lowestOnward 5 = .ok (.bipush 40, 2) ∧ decode cX8_lowestOnward 7 = .ok (.if_icmp .ge 35, 3) ∧ decode cX8_lowestOnward 10 = .ok (.aload_n 0, 1) ∧ decode cX8_lowestOnward 11 = .ok (.getfield 15, 3) ∧ decode cX8_lowestOnward 14 = .ok (.iload 5, 2) ∧ decode cX8_lowestOnward 16 = .ok (.iaload, 1) ∧ decode cX8_lowestOnward 17 = .ok (.iload 4, 2) ∧ decode cX8_lowestOnward 19 = .ok (.if_icmp .ne 17, 3) := by decide +kernel
theorem zcdX8_lowestOnward_22 : decode cX8_lowestOnward 22 = .ok (.aload_n 1, 1) ∧ decode cX8_lowestOnward 23 = .ok (.iload_n 3, 1) ∧ decode cX8_lowestOnward 24 = .ok (.iload 5, 2) ∧ decode cX8_lowestOnward 26 = .ok (.iload_n 2, 1) ∧ decode cX8_lowestOnward 27 = .ok (.invokevirtual 41, 3) ∧ decode cX8_lowestOnward 30 = .ok (.ifCond .eq 6, 3) ∧ decode cX8_lowestOnward 33 = .ok (.iload 5, 2) ∧ decode cX8_lowestOnward 35 = .ok (.ireturn, 1) := by decide +kernel
theorem zcdX8_lowestOnward_36 : decode cX8_lowestOnward 36 = .ok (.iinc 5 1, 3) ∧ decode cX8_lowestOnward 39 = .ok (.goto (-36), 3) ∧ decode cX8_lowestOnward 42 = .ok (.bipush (-2), 2) ∧ decode cX8_lowestOnward 44 = .ok (.ireturn, 1) ∧ decode cX8_stoneOfLeastRow 0 = .ok (.aload_n 0, 1) ∧ decode cX8_stoneOfLeastRow 1 = .ok (.aload_n 1, 1) ∧ decode cX8_stoneOfLeastRow 2 = .ok (.iload_n 2, 1) ∧ decode cX8_stoneOfLeastRow 3 = .ok (.bipush 41, 2) := by decide +kernel
theorem zcdX8_stoneOfLeastRow_5 : decode cX8_stoneOfLeastRow 5 = .ok (.aload_n 0, 1) ∧ decode cX8_stoneOfLeastRow 6 = .ok (.getfield 15, 3) ∧ decode cX8_stoneOfLeastRow 9 = .ok (.bipush 42, 2) ∧ decode cX8_stoneOfLeastRow 11 = .ok (.invokevirtual 47, 3) ∧ decode cX8_stoneOfLeastRow 14 = .ok (.pop, 1) ∧ decode cX8_stoneOfLeastRow 15 = .ok (.bipush 40, 2) ∧ decode cX8_stoneOfLeastRow 17 = .ok (.istore 5, 2) ∧ decode cX8_stoneOfLeastRow 19 = .ok (.iconst 0, 1) := by decide +kernel
theorem zcdX8_stoneOfLeastRow_20 : decode cX8_stoneOfLeastRow 20 = .ok (.istore 6, 2) ∧ decode cX8_stoneOfLeastRow 22 = .ok (.iload 6, 2) ∧ decode cX8_stoneOfLeastRow 24 = .ok (.iload 4, 2) ∧ decode cX8_stoneOfLeastRow 26 = .ok (.if_icmp .gt 32, 3) ∧ decode cX8_stoneOfLeastRow 29 = .ok (.iload 6, 2) ∧ decode cX8_stoneOfLeastRow 31 = .ok (.bipush 40, 2) ∧ decode cX8_stoneOfLeastRow 33 = .ok (.if_icmp .ge 25, 3) ∧ decode cX8_stoneOfLeastRow 36 = .ok (.aload_n 0, 1) := by decide +kernel
theorem zcdX8_stoneOfLeastRow_37 : decode cX8_stoneOfLeastRow 37 = .ok (.aload_n 1, 1) ∧ decode cX8_stoneOfLeastRow 38 = .ok (.iload_n 2, 1) ∧ decode cX8_stoneOfLeastRow 39 = .ok (.iload 5, 2) ∧ decode cX8_stoneOfLeastRow 41 = .ok (.iload_n 3, 1) ∧ decode cX8_stoneOfLeastRow 42 = .ok (.iconst 1, 1) ∧ decode cX8_stoneOfLeastRow 43 = .ok (.isub, 1) ∧ decode cX8_stoneOfLeastRow 44 = .ok (.iload 6, 2) ∧ decode cX8_stoneOfLeastRow 46 = .ok (.isub, 1) := by decide +kernel
theorem zcdX8_stoneOfLeastRow_47 : decode cX8_stoneOfLeastRow 47 = .ok (.invokevirtual 69, 3) ∧ decode cX8_stoneOfLeastRow 50 = .ok (.istore 5, 2) ∧ decode cX8_stoneOfLeastRow 52 = .ok (.iinc 6 1, 3) ∧ decode cX8_stoneOfLeastRow 55 = .ok (.goto (-33), 3) ∧ decode cX8_stoneOfLeastRow 58 = .ok (.iload 5, 2) ∧ decode cX8_stoneOfLeastRow 60 = .ok (.ireturn, 1) ∧ decode cX8_crossing 0 = .ok (.aload_n 0, 1) ∧ decode cX8_crossing 1 = .ok (.aload_n 1, 1) := by decide +kernel
theorem zcdX8_crossing_2 : decode cX8_crossing 2 = .ok (.iload_n 2, 1) ∧ decode cX8_crossing 3 = .ok (.bipush 40, 2) ∧ decode cX8_crossing 5 = .ok (.aload_n 0, 1) ∧ decode cX8_crossing 6 = .ok (.getfield 9, 3) ∧ decode cX8_crossing 9 = .ok (.bipush 42, 2) ∧ decode cX8_crossing 11 = .ok (.invokevirtual 47, 3) ∧ decode cX8_crossing 14 = .ok (.istore 4, 2) ∧ decode cX8_crossing 16 = .ok (.aload_n 0, 1) := by decide +kernel
theorem zcdX8_crossing_17 : decode cX8_crossing 17 = .ok (.getfield 9, 3) ∧ decode cX8_crossing 20 = .ok (.bipush 41, 2) ∧ decode cX8_crossing 22 = .ok (.iaload, 1) ∧ decode cX8_crossing 23 = .ok (.istore 5, 2) ∧ decode cX8_crossing 25 = .ok (.iload 5, 2) ∧ decode cX8_crossing 27 = .ok (.iconst (-1), 1) ∧ decode cX8_crossing 28 = .ok (.if_icmp .ne 6, 3) ∧ decode cX8_crossing 31 = .ok (.bipush (-2), 2) := by decide +kernel
theorem zcdX8_crossing_33 : decode cX8_crossing 33 = .ok (.ireturn, 1) ∧ decode cX8_crossing 34 = .ok (.iload_n 3, 1) ∧ decode cX8_crossing 35 = .ok (.bipush 100, 2) ∧ decode cX8_crossing 37 = .ok (.if_icmp .ne 6, 3) ∧ decode cX8_crossing 40 = .ok (.iload 5, 2) ∧ decode cX8_crossing 42 = .ok (.ireturn, 1) ∧ decode cX8_crossing 43 = .ok (.iload_n 3, 1) ∧ decode cX8_crossing 44 = .ok (.bipush 101, 2) := by decide +kernel
theorem zcdX8_crossing_46 : decode cX8_crossing 46 = .ok (.if_icmp .ne 12, 3) ∧ decode cX8_crossing 49 = .ok (.aload_n 0, 1) ∧ decode cX8_crossing 50 = .ok (.aload_n 1, 1) ∧ decode cX8_crossing 51 = .ok (.iload_n 2, 1) ∧ decode cX8_crossing 52 = .ok (.iload 4, 2) ∧ decode cX8_crossing 54 = .ok (.invokevirtual 50, 3) ∧ decode cX8_crossing 57 = .ok (.ireturn, 1) ∧ decode cX8_crossing 58 = .ok (.iload_n 3, 1) := by decide +kernel
theorem zcdX8_crossing_59 : decode cX8_crossing 59 = .ok (.iload 5, 2) ∧ decode cX8_crossing 61 = .ok (.iconst 1, 1) ∧ decode cX8_crossing 62 = .ok (.isub, 1) ∧ decode cX8_crossing 63 = .ok (.if_icmp .lt 8, 3) ∧ decode cX8_crossing 66 = .ok (.bipush (-4), 2) ∧ decode cX8_crossing 68 = .ok (.goto 12, 3) ∧ decode cX8_crossing 71 = .ok (.aload_n 0, 1) ∧ decode cX8_crossing 72 = .ok (.aload_n 1, 1) := by decide +kernel
theorem zcdX8_crossing_73 : decode cX8_crossing 73 = .ok (.iload_n 2, 1) ∧ decode cX8_crossing 74 = .ok (.iload 5, 2) ∧ decode cX8_crossing 76 = .ok (.iload_n 3, 1) ∧ decode cX8_crossing 77 = .ok (.invokevirtual 54, 3) ∧ decode cX8_crossing 80 = .ok (.ireturn, 1) ∧ decode cX8_settle 0 = .ok (.iload_n 3, 1) ∧ decode cX8_settle 1 = .ok (.ifCond .lt 9, 3) ∧ decode cX8_settle 4 = .ok (.iload_n 3, 1) := by decide +kernel
theorem zcdX8_settle_5 : decode cX8_settle 5 = .ok (.bipush 42, 2) ∧ decode cX8_settle 7 = .ok (.if_icmp .lt 4, 3) ∧ decode cX8_settle 10 = .ok (.return_, 1) ∧ decode cX8_settle 11 = .ok (.aload_n 0, 1) ∧ decode cX8_settle 12 = .ok (.getfield 27, 3) ∧ decode cX8_settle 15 = .ok (.iload_n 3, 1) ∧ decode cX8_settle 16 = .ok (.iconst 1, 1) ∧ decode cX8_settle 17 = .ok (.bastore, 1) := by decide +kernel
theorem zcdX8_settle_18 : decode cX8_settle 18 = .ok (.iconst 0, 1) ∧ decode cX8_settle 19 = .ok (.istore 4, 2) ∧ decode cX8_settle 21 = .ok (.iload 4, 2) ∧ decode cX8_settle 23 = .ok (.bipush 42, 2) ∧ decode cX8_settle 25 = .ok (.if_icmp .ge 94, 3) ∧ decode cX8_settle 28 = .ok (.aload_n 0, 1) ∧ decode cX8_settle 29 = .ok (.getfield 27, 3) ∧ decode cX8_settle 32 = .ok (.iload 4, 2) := by decide +kernel
theorem zcdX8_settle_34 : decode cX8_settle 34 = .ok (.baload, 1) ∧ decode cX8_settle 35 = .ok (.ifCond .ne 78, 3) ∧ decode cX8_settle 38 = .ok (.aload_n 1, 1) ∧ decode cX8_settle 39 = .ok (.iload_n 3, 1) ∧ decode cX8_settle 40 = .ok (.iload 4, 2) ∧ decode cX8_settle 42 = .ok (.iload_n 2, 1) ∧ decode cX8_settle 43 = .ok (.invokevirtual 41, 3) ∧ decode cX8_settle 46 = .ok (.ifCond .eq 67, 3) := by decide +kernel
theorem zcdX8_settle_49 : decode cX8_settle 49 = .ok (.aload_n 0, 1) ∧ decode cX8_settle 50 = .ok (.getfield 24, 3) ∧ decode cX8_settle 53 = .ok (.iload_n 3, 1) ∧ decode cX8_settle 54 = .ok (.iaload, 1) ∧ decode cX8_settle 55 = .ok (.iconst 1, 1) ∧ decode cX8_settle 56 = .ok (.iadd, 1) ∧ decode cX8_settle 57 = .ok (.iload 4, 2) ∧ decode cX8_settle 59 = .ok (.bipush 40, 2) := by decide +kernel
theorem zcdX8_settle_61 : decode cX8_settle 61 = .ok (.if_icmp .ge 16, 3) ∧ decode cX8_settle 64 = .ok (.bipush 100, 2) ∧ decode cX8_settle 66 = .ok (.aload_n 1, 1) ∧ decode cX8_settle 67 = .ok (.getfield 79, 3) ∧ decode cX8_settle 70 = .ok (.iload 4, 2) ∧ decode cX8_settle 72 = .ok (.iaload, 1) ∧ decode cX8_settle 73 = .ok (.imul, 1) ∧ decode cX8_settle 74 = .ok (.goto 4, 3) := by decide +kernel
theorem zcdX8_settle_77 : decode cX8_settle 77 = .ok (.iconst 0, 1) ∧ decode cX8_settle 78 = .ok (.iadd, 1) ∧ decode cX8_settle 79 = .ok (.istore 5, 2) ∧ decode cX8_settle 81 = .ok (.aload_n 0, 1) ∧ decode cX8_settle 82 = .ok (.getfield 24, 3) ∧ decode cX8_settle 85 = .ok (.iload 4, 2) ∧ decode cX8_settle 87 = .ok (.iaload, 1) ∧ decode cX8_settle 88 = .ok (.iconst (-1), 1) := by decide +kernel
theorem zcdX8_settle_89 : decode cX8_settle 89 = .ok (.if_icmp .eq 15, 3) ∧ decode cX8_settle 92 = .ok (.iload 5, 2) ∧ decode cX8_settle 94 = .ok (.aload_n 0, 1) ∧ decode cX8_settle 95 = .ok (.getfield 24, 3) ∧ decode cX8_settle 98 = .ok (.iload 4, 2) ∧ decode cX8_settle 100 = .ok (.iaload, 1) ∧ decode cX8_settle 101 = .ok (.if_icmp .ge 12, 3) ∧ decode cX8_settle 104 = .ok (.aload_n 0, 1) := by decide +kernel
theorem zcdX8_settle_105 : decode cX8_settle 105 = .ok (.getfield 24, 3) ∧ decode cX8_settle 108 = .ok (.iload 4, 2) ∧ decode cX8_settle 110 = .ok (.iload 5, 2) ∧ decode cX8_settle 112 = .ok (.iastore, 1) ∧ decode cX8_settle 113 = .ok (.iinc 4 1, 3) ∧ decode cX8_settle 116 = .ok (.goto (-95), 3) ∧ decode cX8_settle 119 = .ok (.return_, 1) ∧ decode cX8_driestWay 0 = .ok (.iconst 0, 1) := by decide +kernel
theorem zcdX8_driestWay_1 : decode cX8_driestWay 1 = .ok (.istore 4, 2) ∧ decode cX8_driestWay 3 = .ok (.iload 4, 2) ∧ decode cX8_driestWay 5 = .ok (.bipush 42, 2) ∧ decode cX8_driestWay 7 = .ok (.if_icmp .ge 25, 3) ∧ decode cX8_driestWay 10 = .ok (.aload_n 0, 1) ∧ decode cX8_driestWay 11 = .ok (.getfield 24, 3) ∧ decode cX8_driestWay 14 = .ok (.iload 4, 2) ∧ decode cX8_driestWay 16 = .ok (.iconst (-1), 1) := by decide +kernel
theorem zcdX8_driestWay_17 : decode cX8_driestWay 17 = .ok (.iastore, 1) ∧ decode cX8_driestWay 18 = .ok (.aload_n 0, 1) ∧ decode cX8_driestWay 19 = .ok (.getfield 27, 3) ∧ decode cX8_driestWay 22 = .ok (.iload 4, 2) ∧ decode cX8_driestWay 24 = .ok (.iconst 0, 1) ∧ decode cX8_driestWay 25 = .ok (.bastore, 1) ∧ decode cX8_driestWay 26 = .ok (.iinc 4 1, 3) ∧ decode cX8_driestWay 29 = .ok (.goto (-26), 3) := by decide +kernel
theorem zcdX8_driestWay_32 : decode cX8_driestWay 32 = .ok (.aload_n 0, 1) ∧ decode cX8_driestWay 33 = .ok (.getfield 24, 3) ∧ decode cX8_driestWay 36 = .ok (.bipush 40, 2) ∧ decode cX8_driestWay 38 = .ok (.iconst 0, 1) ∧ decode cX8_driestWay 39 = .ok (.iastore, 1) ∧ decode cX8_driestWay 40 = .ok (.iconst 0, 1) ∧ decode cX8_driestWay 41 = .ok (.istore 4, 2) ∧ decode cX8_driestWay 43 = .ok (.iload 4, 2) := by decide +kernel
theorem zcdX8_driestWay_45 : decode cX8_driestWay 45 = .ok (.bipush 42, 2) ∧ decode cX8_driestWay 47 = .ok (.if_icmp .ge 32, 3) ∧ decode cX8_driestWay 50 = .ok (.aload_n 0, 1) ∧ decode cX8_driestWay 51 = .ok (.invokevirtual 72, 3) ∧ decode cX8_driestWay 54 = .ok (.istore 5, 2) ∧ decode cX8_driestWay 56 = .ok (.iload 5, 2) ∧ decode cX8_driestWay 58 = .ok (.iconst (-1), 1) ∧ decode cX8_driestWay 59 = .ok (.if_icmp .ne 6, 3) := by decide +kernel
theorem zcdX8_driestWay_62 : decode cX8_driestWay 62 = .ok (.goto 17, 3) ∧ decode cX8_driestWay 65 = .ok (.aload_n 0, 1) ∧ decode cX8_driestWay 66 = .ok (.aload_n 1, 1) ∧ decode cX8_driestWay 67 = .ok (.iload_n 2, 1) ∧ decode cX8_driestWay 68 = .ok (.iload 5, 2) ∧ decode cX8_driestWay 70 = .ok (.invokevirtual 76, 3) ∧ decode cX8_driestWay 73 = .ok (.iinc 4 1, 3) ∧ decode cX8_driestWay 76 = .ok (.goto (-33), 3) := by decide +kernel
theorem zcdX8_driestWay_79 : decode cX8_driestWay 79 = .ok (.aload_n 0, 1) ∧ decode cX8_driestWay 80 = .ok (.getfield 24, 3) ∧ decode cX8_driestWay 83 = .ok (.bipush 41, 2) ∧ decode cX8_driestWay 85 = .ok (.iaload, 1) ∧ decode cX8_driestWay 86 = .ok (.iconst (-1), 1) ∧ decode cX8_driestWay 87 = .ok (.if_icmp .ne 6, 3) ∧ decode cX8_driestWay 90 = .ok (.bipush (-2), 2) ∧ decode cX8_driestWay 92 = .ok (.ireturn, 1) := by decide +kernel
theorem zcdX8_driestWay_93 : decode cX8_driestWay 93 = .ok (.iload_n 3, 1) ∧ decode cX8_driestWay 94 = .ok (.ifCond .ne 16, 3) ∧ decode cX8_driestWay 97 = .ok (.aload_n 0, 1) ∧ decode cX8_driestWay 98 = .ok (.getfield 24, 3) ∧ decode cX8_driestWay 101 = .ok (.bipush 41, 2) ∧ decode cX8_driestWay 103 = .ok (.iaload, 1) ∧ decode cX8_driestWay 104 = .ok (.bipush 100, 2) ∧ decode cX8_driestWay 106 = .ok (.idiv, 1) := by decide +kernel
theorem zcdX8_driestWay_107 : decode cX8_driestWay 107 = .ok (.goto 13, 3) ∧ decode cX8_driestWay 110 = .ok (.aload_n 0, 1) ∧ decode cX8_driestWay 111 = .ok (.getfield 24, 3) ∧ decode cX8_driestWay 114 = .ok (.bipush 41, 2) ∧ decode cX8_driestWay 116 = .ok (.iaload, 1) ∧ decode cX8_driestWay 117 = .ok (.bipush 100, 2) ∧ decode cX8_driestWay 119 = .ok (.irem, 1) ∧ decode cX8_driestWay 120 = .ok (.ireturn, 1) := by decide +kernel
theorem zcdX8_farthest_0 : decode cX8_farthest 0 = .ok (.aload_n 0, 1) ∧ decode cX8_farthest 1 = .ok (.aload_n 1, 1) ∧ decode cX8_farthest 2 = .ok (.iload_n 2, 1) ∧ decode cX8_farthest 3 = .ok (.bipush 40, 2) ∧ decode cX8_farthest 5 = .ok (.aload_n 0, 1) ∧ decode cX8_farthest 6 = .ok (.getfield 9, 3) ∧ decode cX8_farthest 9 = .ok (.bipush 42, 2) ∧ decode cX8_farthest 11 = .ok (.invokevirtual 47, 3) := by decide +kernel
theorem zcdX8_farthest_14 : decode cX8_farthest 14 = .ok (.pop, 1) ∧ decode cX8_farthest 15 = .ok (.iconst 0, 1) ∧ decode cX8_farthest 16 = .ok (.istore_n 3, 1) ∧ decode cX8_farthest 17 = .ok (.iconst 0, 1) ∧ decode cX8_farthest 18 = .ok (.istore 4, 2) ∧ decode cX8_farthest 20 = .ok (.iload 4, 2) ∧ decode cX8_farthest 22 = .ok (.bipush 42, 2) ∧ decode cX8_farthest 24 = .ok (.if_icmp .ge 31, 3) := by decide +kernel
theorem zcdX8_farthest_27 : decode cX8_farthest 27 = .ok (.aload_n 0, 1) ∧ decode cX8_farthest 28 = .ok (.getfield 9, 3) ∧ decode cX8_farthest 31 = .ok (.iload 4, 2) ∧ decode cX8_farthest 33 = .ok (.iaload, 1) ∧ decode cX8_farthest 34 = .ok (.iconst (-1), 1) ∧ decode cX8_farthest 35 = .ok (.if_icmp .eq 14, 3) ∧ decode cX8_farthest 38 = .ok (.iload_n 3, 1) ∧ decode cX8_farthest 39 = .ok (.aload_n 1, 1) := by decide +kernel
theorem zcdX8_farthest_40 : decode cX8_farthest 40 = .ok (.iload 4, 2) ∧ decode cX8_farthest 42 = .ok (.invokevirtual 82, 3) ∧ decode cX8_farthest 45 = .ok (.invokestatic 86, 3) ∧ decode cX8_farthest 48 = .ok (.istore_n 3, 1) ∧ decode cX8_farthest 49 = .ok (.iinc 4 1, 3) ∧ decode cX8_farthest 52 = .ok (.goto (-32), 3) ∧ decode cX8_farthest 55 = .ok (.iload_n 3, 1) ∧ decode cX8_farthest 56 = .ok (.ireturn, 1) := by decide +kernel
theorem zcdX8_wouldJoin_0 : decode cX8_wouldJoin 0 = .ok (.iconst 0, 1) ∧ decode cX8_wouldJoin 1 = .ok (.istore 5, 2) ∧ decode cX8_wouldJoin 3 = .ok (.iconst 0, 1) ∧ decode cX8_wouldJoin 4 = .ok (.istore 6, 2) ∧ decode cX8_wouldJoin 6 = .ok (.iconst 0, 1) ∧ decode cX8_wouldJoin 7 = .ok (.istore 7, 2) ∧ decode cX8_wouldJoin 9 = .ok (.iload 7, 2) ∧ decode cX8_wouldJoin 11 = .ok (.bipush 42, 2) := by decide +kernel
theorem zcdX8_wouldJoin_13 : decode cX8_wouldJoin 13 = .ok (.if_icmp .ge 98, 3) ∧ decode cX8_wouldJoin 16 = .ok (.aload_n 0, 1) ∧ decode cX8_wouldJoin 17 = .ok (.getfield 9, 3) ∧ decode cX8_wouldJoin 20 = .ok (.iload 7, 2) ∧ decode cX8_wouldJoin 22 = .ok (.iaload, 1) ∧ decode cX8_wouldJoin 23 = .ok (.iconst (-1), 1) ∧ decode cX8_wouldJoin 24 = .ok (.if_icmp .ne 14, 3) ∧ decode cX8_wouldJoin 27 = .ok (.aload_n 0, 1) := by decide +kernel
theorem zcdX8_wouldJoin_28 : decode cX8_wouldJoin 28 = .ok (.getfield 15, 3) ∧ decode cX8_wouldJoin 31 = .ok (.iload 7, 2) ∧ decode cX8_wouldJoin 33 = .ok (.iaload, 1) ∧ decode cX8_wouldJoin 34 = .ok (.iconst (-1), 1) ∧ decode cX8_wouldJoin 35 = .ok (.if_icmp .eq 7, 3) ∧ decode cX8_wouldJoin 38 = .ok (.iconst 1, 1) ∧ decode cX8_wouldJoin 39 = .ok (.goto 4, 3) ∧ decode cX8_wouldJoin 42 = .ok (.iconst 0, 1) := by decide +kernel
theorem zcdX8_wouldJoin_43 : decode cX8_wouldJoin 43 = .ok (.istore 8, 2) ∧ decode cX8_wouldJoin 45 = .ok (.iload 8, 2) ∧ decode cX8_wouldJoin 47 = .ok (.ifCond .eq 58, 3) ∧ decode cX8_wouldJoin 50 = .ok (.aload_n 1, 1) ∧ decode cX8_wouldJoin 51 = .ok (.iload 7, 2) ∧ decode cX8_wouldJoin 53 = .ok (.iload_n 3, 1) ∧ decode cX8_wouldJoin 54 = .ok (.iload 4, 2) ∧ decode cX8_wouldJoin 56 = .ok (.iload_n 2, 1) := by decide +kernel
theorem zcdX8_wouldJoin_57 : decode cX8_wouldJoin 57 = .ok (.invokevirtual 97, 3) ∧ decode cX8_wouldJoin 60 = .ok (.ifCond .eq 45, 3) ∧ decode cX8_wouldJoin 63 = .ok (.iload 5, 2) ∧ decode cX8_wouldJoin 65 = .ok (.aload_n 0, 1) ∧ decode cX8_wouldJoin 66 = .ok (.getfield 9, 3) ∧ decode cX8_wouldJoin 69 = .ok (.iload 7, 2) ∧ decode cX8_wouldJoin 71 = .ok (.iaload, 1) ∧ decode cX8_wouldJoin 72 = .ok (.iconst (-1), 1) := by decide +kernel
theorem zcdX8_wouldJoin_73 : decode cX8_wouldJoin 73 = .ok (.if_icmp .eq 7, 3) ∧ decode cX8_wouldJoin 76 = .ok (.iconst 1, 1) ∧ decode cX8_wouldJoin 77 = .ok (.goto 4, 3) ∧ decode cX8_wouldJoin 80 = .ok (.iconst 0, 1) ∧ decode cX8_wouldJoin 81 = .ok (.ior, 1) ∧ decode cX8_wouldJoin 82 = .ok (.istore 5, 2) ∧ decode cX8_wouldJoin 84 = .ok (.iload 6, 2) ∧ decode cX8_wouldJoin 86 = .ok (.aload_n 0, 1) := by decide +kernel
theorem zcdX8_wouldJoin_87 : decode cX8_wouldJoin 87 = .ok (.getfield 15, 3) ∧ decode cX8_wouldJoin 90 = .ok (.iload 7, 2) ∧ decode cX8_wouldJoin 92 = .ok (.iaload, 1) ∧ decode cX8_wouldJoin 93 = .ok (.iconst (-1), 1) ∧ decode cX8_wouldJoin 94 = .ok (.if_icmp .eq 7, 3) ∧ decode cX8_wouldJoin 97 = .ok (.iconst 1, 1) ∧ decode cX8_wouldJoin 98 = .ok (.goto 4, 3) ∧ decode cX8_wouldJoin 101 = .ok (.iconst 0, 1) := by decide +kernel
theorem zcdX8_wouldJoin_102 : decode cX8_wouldJoin 102 = .ok (.ior, 1) ∧ decode cX8_wouldJoin 103 = .ok (.istore 6, 2) ∧ decode cX8_wouldJoin 105 = .ok (.iinc 7 1, 3) ∧ decode cX8_wouldJoin 108 = .ok (.goto (-99), 3) ∧ decode cX8_wouldJoin 111 = .ok (.iload 5, 2) ∧ decode cX8_wouldJoin 113 = .ok (.ifCond .eq 23, 3) ∧ decode cX8_wouldJoin 116 = .ok (.iload 6, 2) ∧ decode cX8_wouldJoin 118 = .ok (.ifCond .eq 18, 3) := by decide +kernel
theorem zcdX8_wouldJoin_121 : decode cX8_wouldJoin 121 = .ok (.aload_n 1, 1) ∧ decode cX8_wouldJoin 122 = .ok (.iload_n 3, 1) ∧ decode cX8_wouldJoin 123 = .ok (.iload 4, 2) ∧ decode cX8_wouldJoin 125 = .ok (.invokevirtual 101, 3) ∧ decode cX8_wouldJoin 128 = .ok (.iconst (-1), 1) ∧ decode cX8_wouldJoin 129 = .ok (.if_icmp .ne 7, 3) ∧ decode cX8_wouldJoin 132 = .ok (.iconst 1, 1) ∧ decode cX8_wouldJoin 133 = .ok (.goto 4, 3) := by decide +kernel
theorem zcdX8_wouldJoin_136 : decode cX8_wouldJoin 136 = .ok (.iconst 0, 1) ∧ decode cX8_wouldJoin 137 = .ok (.ireturn, 1) ∧ decode cX8_helpfulPlace 0 = .ok (.aload_n 0, 1) ∧ decode cX8_helpfulPlace 1 = .ok (.aload_n 1, 1) ∧ decode cX8_helpfulPlace 2 = .ok (.iload_n 2, 1) ∧ decode cX8_helpfulPlace 3 = .ok (.invokevirtual 89, 3) ∧ decode cX8_helpfulPlace 6 = .ok (.ifCond .eq 6, 3) ∧ decode cX8_helpfulPlace 9 = .ok (.bipush (-3), 2) := by decide +kernel
theorem zcdX8_helpfulPlace_11 : decode cX8_helpfulPlace 11 = .ok (.ireturn, 1) ∧ decode cX8_helpfulPlace 12 = .ok (.aload_n 0, 1) ∧ decode cX8_helpfulPlace 13 = .ok (.aload_n 1, 1) ∧ decode cX8_helpfulPlace 14 = .ok (.iload_n 2, 1) ∧ decode cX8_helpfulPlace 15 = .ok (.bipush 41, 2) ∧ decode cX8_helpfulPlace 17 = .ok (.aload_n 0, 1) ∧ decode cX8_helpfulPlace 18 = .ok (.getfield 15, 3) ∧ decode cX8_helpfulPlace 21 = .ok (.bipush 42, 2) := by decide +kernel
theorem zcdX8_helpfulPlace_23 : decode cX8_helpfulPlace 23 = .ok (.invokevirtual 47, 3) ∧ decode cX8_helpfulPlace 26 = .ok (.pop, 1) ∧ decode cX8_helpfulPlace 27 = .ok (.iconst 1, 1) ∧ decode cX8_helpfulPlace 28 = .ok (.istore 4, 2) ∧ decode cX8_helpfulPlace 30 = .ok (.iload 4, 2) ∧ decode cX8_helpfulPlace 32 = .ok (.bipush 20, 2) ∧ decode cX8_helpfulPlace 34 = .ok (.if_icmp .gt 50, 3) ∧ decode cX8_helpfulPlace 37 = .ok (.iconst 0, 1) := by decide +kernel
theorem zcdX8_helpfulPlace_38 : decode cX8_helpfulPlace 38 = .ok (.istore 5, 2) ∧ decode cX8_helpfulPlace 40 = .ok (.iload 5, 2) ∧ decode cX8_helpfulPlace 42 = .ok (.bipush 39, 2) ∧ decode cX8_helpfulPlace 44 = .ok (.if_icmp .gt 34, 3) ∧ decode cX8_helpfulPlace 47 = .ok (.aload_n 0, 1) ∧ decode cX8_helpfulPlace 48 = .ok (.aload_n 1, 1) ∧ decode cX8_helpfulPlace 49 = .ok (.iload_n 2, 1) ∧ decode cX8_helpfulPlace 50 = .ok (.iload 5, 2) := by decide +kernel
theorem zcdX8_helpfulPlace_52 : decode cX8_helpfulPlace 52 = .ok (.iload 4, 2) ∧ decode cX8_helpfulPlace 54 = .ok (.invokevirtual 93, 3) ∧ decode cX8_helpfulPlace 57 = .ok (.ifCond .eq 15, 3) ∧ decode cX8_helpfulPlace 60 = .ok (.iload_n 3, 1) ∧ decode cX8_helpfulPlace 61 = .ok (.ifCond .ne 8, 3) ∧ decode cX8_helpfulPlace 64 = .ok (.iload 5, 2) ∧ decode cX8_helpfulPlace 66 = .ok (.goto 5, 3) ∧ decode cX8_helpfulPlace 69 = .ok (.iload 4, 2) := by decide +kernel
theorem zcdX8_helpfulPlace_71 : decode cX8_helpfulPlace 71 = .ok (.ireturn, 1) ∧ decode cX8_helpfulPlace 72 = .ok (.iinc 5 1, 3) ∧ decode cX8_helpfulPlace 75 = .ok (.goto (-35), 3) ∧ decode cX8_helpfulPlace 78 = .ok (.iinc 4 1, 3) ∧ decode cX8_helpfulPlace 81 = .ok (.goto (-51), 3) ∧ decode cX8_helpfulPlace 84 = .ok (.bipush (-2), 2) ∧ decode cX8_helpfulPlace 86 = .ok (.ireturn, 1) := by decide +kernel
set_option maxHeartbeats 4000000 in
theorem t_X8_cheapest (M : Mem) : AXp yX8_cheapest cX8_cheapest 3 (some .int) 0 60 glC (fun ad => [.ref (ad 23)]) M (f_X8_cheapest M) := by
  intro r0 h
  refine AM.of (by decide) (fun _ => Nat.le_of_ble_eq_true rfl) (fun X ad cI cZ cB hX hR => ?_)
  show V X M [(0, .ref (ad 23))] [] 0
  refine s_iconst (v := (-1)) hX zcdX8_cheapest_0.1 (by decide) ?_
  refine s_istore_n (lv' := [(0, .ref (ad 23)), (1, .int (-1))]) hX zcdX8_cheapest_0.2.1 rfl (by decide) rfl ?_
  refine s_iconst (v := (nI 0)) hX zcdX8_cheapest_0.2.2.1 (by decide) ?_
  refine s_istore_n (lv' := [(0, .ref (ad 23)), (1, .int (-1)), (2, .int (nI 0))]) hX zcdX8_cheapest_0.2.2.2.1 rfl (by decide) rfl ?_
  have lp4 : ∀ (N4 : Nat) (y1_4 : Int32) (y2_4 : Int32), wlp2 (f_X8_cheapest_B4 M) N4 y1_4 y2_4 = some r0 → V X M [(0, .ref (ad 23)), (1, .int y1_4), (2, .int y2_4)] [] 4 := by
    intro N4
    induction N4 with
    | zero => exact fun _ _ h => e_none h
    | succ N4 ih4 =>
      intro y1_4 y2_4 h
      replace h : f_X8_cheapest_B4 M (wlp2 (f_X8_cheapest_B4 M) N4) y1_4 y2_4 = some r0 := h
      generalize wlp2 (f_X8_cheapest_B4 M) N4 = ag4 at ih4 h
      refine s_iload_n (k := 2) hX zcdX8_cheapest_0.2.2.2.2.1 rfl rfl ?_
      refine s_bipush (v := (nI 42)) hX zcdX8_cheapest_0.2.2.2.2.2.1 (by decide) ?_
      refine e_icmp_ge (tgt := 57) hX zcdX8_cheapest_0.2.2.2.2.2.2.1 (by decide) (m_ge (by decide +kernel)) h (fun h => ?_) (fun h => ?_)
      · refine s_iload_n (k := 1) hX zcdX8_cheapest_51.2.2.1 rfl rfl ?_
        exact e_iretp hX hR zcdX8_cheapest_51.2.2.2.1 h
      · refine s_aload_n (k := 0) hX zcdX8_cheapest_0.2.2.2.2.2.2.2 rfl rfl ?_
        refine s_get hX fX8_27 oC23 rfl zcdX8_cheapest_11.1 ?_
        refine s_iload_n (k := 2) hX zcdX8_cheapest_11.2.1 rfl rfl ?_
        refine e_zald hX aC29 zcdX8_cheapest_11.2.2.1 h (fun h => ?_)
        refine e_if_ne (tgt := 51) hX zcdX8_cheapest_11.2.2.2.1 (by decide) z_eq h (fun h => ?_) (fun h => ?_)
        · refine s_iinc (k := 2) (v := (y2_4 + (nI 1))) (lv' := [(0, .ref (ad 23)), (1, .int y1_4), (2, .int (y2_4 + (nI 1)))]) hX zcdX8_cheapest_51.1 (congrArg (fun z => y2_4 + z) (by decide)) (by decide) rfl rfl ?_
          refine s_goto (tgt := 4) hX zcdX8_cheapest_51.2.1 (by decide) ?_
          exact ih4 y1_4 (y2_4 + (nI 1)) h
        · refine s_aload_n (k := 0) hX zcdX8_cheapest_11.2.2.2.2.1 rfl rfl ?_
          refine s_get hX fX8_24 oC23 rfl zcdX8_cheapest_11.2.2.2.2.2.1 ?_
          refine s_iload_n (k := 2) hX zcdX8_cheapest_11.2.2.2.2.2.2.1 rfl rfl ?_
          refine e_iald hX aC28 zcdX8_cheapest_11.2.2.2.2.2.2.2 h (fun h => ?_)
          refine s_iconst (v := (-1)) hX zcdX8_cheapest_25.1 (by decide) ?_
          refine e_icmp_eq (tgt := 51) hX zcdX8_cheapest_25.2.1 (by decide) (m_eq (by decide +kernel)) h (fun h => ?_) (fun h => ?_)
          · refine s_iinc (k := 2) (v := (y2_4 + (nI 1))) (lv' := [(0, .ref (ad 23)), (1, .int y1_4), (2, .int (y2_4 + (nI 1)))]) hX zcdX8_cheapest_51.1 (congrArg (fun z => y2_4 + z) (by decide)) (by decide) rfl rfl ?_
            refine s_goto (tgt := 4) hX zcdX8_cheapest_51.2.1 (by decide) ?_
            exact ih4 y1_4 (y2_4 + (nI 1)) h
          · refine s_iload_n (k := 1) hX zcdX8_cheapest_25.2.2.1 rfl rfl ?_
            refine s_iconst (v := (-1)) hX zcdX8_cheapest_25.2.2.2.1 (by decide) ?_
            refine e_icmp_eq (tgt := 49) hX zcdX8_cheapest_25.2.2.2.2.1 (by decide) (m_eq (by decide +kernel)) h (fun h => ?_) (fun h => ?_)
            · refine s_iload_n (k := 2) hX zcdX8_cheapest_39.2.2.2.2.2.2.1 rfl rfl ?_
              refine s_istore_n (lv' := [(0, .ref (ad 23)), (2, .int y2_4), (1, .int y2_4)]) hX zcdX8_cheapest_39.2.2.2.2.2.2.2 rfl (by decide) rfl ?_
              refine s_iinc (k := 1) (v := (y2_4 + (nI 1))) (lv' := [(0, .ref (ad 23)), (1, .int y2_4), (2, .int (y2_4 + (nI 1)))]) hX zcdX8_cheapest_51.1 (congrArg (fun z => y2_4 + z) (by decide)) (by decide) rfl rfl ?_
              refine s_goto (tgt := 4) hX zcdX8_cheapest_51.2.1 (by decide) ?_
              exact ih4 y2_4 (y2_4 + (nI 1)) h
            · refine s_aload_n (k := 0) hX zcdX8_cheapest_25.2.2.2.2.2.1 rfl rfl ?_
              refine s_get hX fX8_24 oC23 rfl zcdX8_cheapest_25.2.2.2.2.2.2.1 ?_
              refine s_iload_n (k := 2) hX zcdX8_cheapest_25.2.2.2.2.2.2.2 rfl rfl ?_
              refine e_iald hX aC28 zcdX8_cheapest_39.1 h (fun h => ?_)
              refine s_aload_n (k := 0) hX zcdX8_cheapest_39.2.1 rfl rfl ?_
              refine s_get hX fX8_24 oC23 rfl zcdX8_cheapest_39.2.2.1 ?_
              refine s_iload_n (k := 1) hX zcdX8_cheapest_39.2.2.2.1 rfl rfl ?_
              refine e_iald hX aC28 zcdX8_cheapest_39.2.2.2.2.1 h (fun h => ?_)
              refine e_icmp_ge (tgt := 51) hX zcdX8_cheapest_39.2.2.2.2.2.1 (by decide) r_le h (fun h => ?_) (fun h => ?_)
              · refine s_iinc (k := 2) (v := (y2_4 + (nI 1))) (lv' := [(0, .ref (ad 23)), (1, .int y1_4), (2, .int (y2_4 + (nI 1)))]) hX zcdX8_cheapest_51.1 (congrArg (fun z => y2_4 + z) (by decide)) (by decide) rfl rfl ?_
                refine s_goto (tgt := 4) hX zcdX8_cheapest_51.2.1 (by decide) ?_
                exact ih4 y1_4 (y2_4 + (nI 1)) h
              · refine s_iload_n (k := 2) hX zcdX8_cheapest_39.2.2.2.2.2.2.1 rfl rfl ?_
                refine s_istore_n (lv' := [(0, .ref (ad 23)), (2, .int y2_4), (1, .int y2_4)]) hX zcdX8_cheapest_39.2.2.2.2.2.2.2 rfl (by decide) rfl ?_
                refine s_iinc (k := 1) (v := (y2_4 + (nI 1))) (lv' := [(0, .ref (ad 23)), (1, .int y2_4), (2, .int (y2_4 + (nI 1)))]) hX zcdX8_cheapest_51.1 (congrArg (fun z => y2_4 + z) (by decide)) (by decide) rfl rfl ?_
                refine s_goto (tgt := 4) hX zcdX8_cheapest_51.2.1 (by decide) ?_
                exact ih4 y2_4 (y2_4 + (nI 1)) h
  exact lp4 FU (-1) (nI 0) h
set_option maxHeartbeats 4000000 in
theorem t_X8_countIslands (b : Nat) (hb : isF b) (v2 : Int32) (M : Mem) : AXi yX8_countIslands cX8_countIslands 5 (some .int) 4 60 glC (fun ad => [.ref (ad 23), .ref (ad b), .int v2]) M (f_X8_countIslands b M v2) := by
  intro r0 h
  refine AM.of (by decide) (fun _ => Nat.le_of_ble_eq_true rfl) (fun X ad cI cZ cB hX hR => ?_)
  show V X M [(0, .ref (ad 23)), (1, .ref (ad b)), (2, .int v2)] [] 0
  refine s_aload_n (k := 0) hX zcdX8_cheapest_51.2.2.2.2.1 rfl rfl ?_
  refine s_get hX fX8_9 oC23 rfl zcdX8_cheapest_51.2.2.2.2.2.1 ?_
  refine s_iconst (v := (-1)) hX zcdX8_cheapest_51.2.2.2.2.2.2.1 (by decide) ?_
  refine e_callSv hX (t_J7_fill_53178 24 42 aC24 (by decide) (-1) M) mJ7_fill_53178 lX8_31 (by decide) (by decide) rfl rfl (Nat.le_of_ble_eq_true rfl) zcdX8_cheapest_51.2.2.2.2.2.2.2 h (fun M_1 h => ?_)
  refine s_iconst (v := (nI 0)) hX zcdX8_countIslands_8.1 (by decide) ?_
  refine s_istore_n (lv' := [(0, .ref (ad 23)), (1, .ref (ad b)), (2, .int v2), (3, .int (nI 0))]) hX zcdX8_countIslands_8.2.1 rfl (by decide) rfl ?_
  refine s_iconst (v := (nI 0)) hX zcdX8_countIslands_8.2.2.1 (by decide) ?_
  refine s_istore (lv' := [(0, .ref (ad 23)), (1, .ref (ad b)), (2, .int v2), (3, .int (nI 0)), (4, .int (nI 0))]) hX zcdX8_countIslands_8.2.2.2.1 (by decide) rfl ?_
  have lp13 : ∀ (N13 : Nat) (M13 : Mem) (y3_13 : Int32) (y4_13 : Int32), wlp3 (f_X8_countIslands_B13 b v2) N13 M13 y3_13 y4_13 = some r0 → V X M13 [(0, .ref (ad 23)), (1, .ref (ad b)), (2, .int v2), (3, .int y3_13), (4, .int y4_13)] [] 13 := by
    intro N13
    induction N13 with
    | zero => exact fun _ _ _ h => e_none h
    | succ N13 ih13 =>
      intro M13 y3_13 y4_13 h
      replace h : f_X8_countIslands_B13 b v2 (wlp3 (f_X8_countIslands_B13 b v2) N13) M13 y3_13 y4_13 = some r0 := h
      generalize wlp3 (f_X8_countIslands_B13 b v2) N13 = ag13 at ih13 h
      refine s_iload (k := 4) hX zcdX8_countIslands_8.2.2.2.2.1 rfl ?_
      refine s_bipush (v := (nI 40)) hX zcdX8_countIslands_8.2.2.2.2.2.1 (by decide) ?_
      refine e_icmp_ge (tgt := 64) hX zcdX8_countIslands_8.2.2.2.2.2.2.1 (by decide) (m_ge (by decide +kernel)) h (fun h => ?_) (fun h => ?_)
      · refine s_iload_n (k := 3) hX zcdX8_countIslands_52.2.2.2.2.2.1 rfl rfl ?_
        exact e_ireti hX hR zcdX8_countIslands_52.2.2.2.2.2.2.1 h
      · refine s_aload_n (k := 1) hX zcdX8_countIslands_8.2.2.2.2.2.2.2 rfl rfl ?_
        refine s_iload (k := 4) hX zcdX8_countIslands_21.1 rfl ?_
        refine e_callVp hX (t_X2_isDry b hb y4_13 M13) mX2_isDry lX8_104 (by decide) (by decide) (oF hb) rfl rfl rfl rfl rfl (Nat.le_of_ble_eq_true rfl) zcdX8_countIslands_21.2.1 h (fun r_2 h => ?_)
        refine e_if_eq (tgt := 58) hX zcdX8_countIslands_21.2.2.1 (by decide) z_eq h (fun h => ?_) (fun h => ?_)
        · refine s_iinc (k := 4) (v := (y4_13 + (nI 1))) (lv' := [(0, .ref (ad 23)), (1, .ref (ad b)), (2, .int v2), (3, .int y3_13), (4, .int (y4_13 + (nI 1)))]) hX zcdX8_countIslands_52.2.2.2.1 (congrArg (fun z => y4_13 + z) (by decide)) (by decide) rfl rfl ?_
          refine s_goto (tgt := 13) hX zcdX8_countIslands_52.2.2.2.2.1 (by decide) ?_
          exact ih13 M13 y3_13 (y4_13 + (nI 1)) h
        · refine s_aload_n (k := 0) hX zcdX8_countIslands_21.2.2.2.1 rfl rfl ?_
          refine s_get hX fX8_9 oC23 rfl zcdX8_countIslands_21.2.2.2.2.1 ?_
          refine s_iload (k := 4) hX zcdX8_countIslands_21.2.2.2.2.2.1 rfl ?_
          refine e_iald hX aC24 zcdX8_countIslands_21.2.2.2.2.2.2.1 h (fun h => ?_)
          refine s_iconst (v := (-1)) hX zcdX8_countIslands_21.2.2.2.2.2.2.2 (by decide) ?_
          refine e_icmp_ne (tgt := 58) hX zcdX8_countIslands_37.1 (by decide) (m_eq (by decide +kernel)) h (fun h => ?_) (fun h => ?_)
          · refine s_iinc (k := 4) (v := (y4_13 + (nI 1))) (lv' := [(0, .ref (ad 23)), (1, .ref (ad b)), (2, .int v2), (3, .int y3_13), (4, .int (y4_13 + (nI 1)))]) hX zcdX8_countIslands_52.2.2.2.1 (congrArg (fun z => y4_13 + z) (by decide)) (by decide) rfl rfl ?_
            refine s_goto (tgt := 13) hX zcdX8_countIslands_52.2.2.2.2.1 (by decide) ?_
            exact ih13 M13 y3_13 (y4_13 + (nI 1)) h
          · refine s_iinc (k := 3) (v := (y3_13 + (nI 1))) (lv' := [(0, .ref (ad 23)), (1, .ref (ad b)), (2, .int v2), (4, .int y4_13), (3, .int (y3_13 + (nI 1)))]) hX zcdX8_countIslands_37.2.1 (congrArg (fun z => y3_13 + z) (by decide)) (by decide) rfl rfl ?_
            refine s_aload_n (k := 0) hX zcdX8_countIslands_37.2.2.1 rfl rfl ?_
            refine s_aload_n (k := 1) hX zcdX8_countIslands_37.2.2.2.1 rfl rfl ?_
            refine s_iload_n (k := 2) hX zcdX8_countIslands_37.2.2.2.2.1 rfl rfl ?_
            refine s_iload (k := 3) hX zcdX8_countIslands_37.2.2.2.2.2.1 rfl ?_
            refine s_aload_n (k := 0) hX zcdX8_countIslands_37.2.2.2.2.2.2.1 rfl rfl ?_
            refine s_get hX fX8_9 oC23 rfl zcdX8_countIslands_37.2.2.2.2.2.2.2 ?_
            refine s_bipush (v := (nI 40)) hX zcdX8_countIslands_52.1 (by decide) ?_
            refine e_callVi hX (t_X8_spreadOn b hb 24 42 aC24 (by decide) v2 y4_13 (nI 40) M13) mX8_spreadOn lX8_37 (by decide) (by decide) oC23 rfl rfl rfl rfl rfl (Nat.le_of_ble_eq_true rfl) zcdX8_countIslands_52.2.1 h (fun r_3 M_4 h => ?_)
            refine s_pop hX zcdX8_countIslands_52.2.2.1 rfl ?_
            refine s_iinc (k := 3) (v := (y4_13 + (nI 1))) (lv' := [(0, .ref (ad 23)), (1, .ref (ad b)), (2, .int v2), (3, .int (y3_13 + (nI 1))), (4, .int (y4_13 + (nI 1)))]) hX zcdX8_countIslands_52.2.2.2.1 (congrArg (fun z => y4_13 + z) (by decide)) (by decide) rfl rfl ?_
            refine s_goto (tgt := 13) hX zcdX8_countIslands_52.2.2.2.2.1 (by decide) ?_
            exact ih13 M_4 (y3_13 + (nI 1)) (y4_13 + (nI 1)) h
  exact lp13 FU M_1 (nI 0) (nI 0) h
set_option maxHeartbeats 4000000 in
theorem t_X8_leadOn (b : Nat) (hb : isF b) (v2 : Int32) (v3 : Int32) (M : Mem) : AXv yX8_leadOn cX8_leadOn 5 none 3 60 glC (fun ad => [.ref (ad 23), .ref (ad b), .int v2, .int v3]) M (f_X8_leadOn b M v2 v3) := by
  intro r0 h
  refine AM.of (by decide) (fun _ => Nat.le_of_ble_eq_true rfl) (fun X ad cI cZ cB hX hR => ?_)
  show V X M [(0, .ref (ad 23)), (1, .ref (ad b)), (2, .int v2), (3, .int v3)] [] 0
  refine s_iload_n (k := 3) hX zcdX8_countIslands_52.2.2.2.2.2.2.2 rfl rfl ?_
  refine e_if_lt (tgt := 10) hX zcdX8_leadOn_1.1 (by decide) z_lt h (fun h => ?_) (fun h => ?_)
  · exact e_vret hX hR zcdX8_leadOn_1.2.2.2.2.1 h
  · refine s_iload_n (k := 3) hX zcdX8_leadOn_1.2.1 rfl rfl ?_
    refine s_bipush (v := (nI 42)) hX zcdX8_leadOn_1.2.2.1 (by decide) ?_
    refine e_icmp_lt (tgt := 11) hX zcdX8_leadOn_1.2.2.2.1 (by decide) (m_lt (by decide +kernel)) h (fun h => ?_) (fun h => ?_)
    · refine s_iconst (v := (nI 0)) hX zcdX8_leadOn_1.2.2.2.2.2.1 (by decide) ?_
      refine s_istore (lv' := [(0, .ref (ad 23)), (1, .ref (ad b)), (2, .int v2), (3, .int v3), (4, .int (nI 0))]) hX zcdX8_leadOn_1.2.2.2.2.2.2.1 (by decide) rfl ?_
      have lp14 : ∀ (N14 : Nat) (M14 : Mem) (y4_14 : Int32), wlp2 (f_X8_leadOn_B14 b v2 v3) N14 M14 y4_14 = some r0 → V X M14 [(0, .ref (ad 23)), (1, .ref (ad b)), (2, .int v2), (3, .int v3), (4, .int y4_14)] [] 14 := by
        intro N14
        induction N14 with
        | zero => exact fun _ _ h => e_none h
        | succ N14 ih14 =>
          intro M14 y4_14 h
          replace h : f_X8_leadOn_B14 b v2 v3 (wlp2 (f_X8_leadOn_B14 b v2 v3) N14) M14 y4_14 = some r0 := h
          generalize wlp2 (f_X8_leadOn_B14 b v2 v3) N14 = ag14 at ih14 h
          refine s_iload (k := 4) hX zcdX8_leadOn_1.2.2.2.2.2.2.2 rfl ?_
          refine s_bipush (v := (nI 42)) hX zcdX8_leadOn_16.1 (by decide) ?_
          refine e_icmp_ge (tgt := 82) hX zcdX8_leadOn_16.2.1 (by decide) (m_ge (by decide +kernel)) h (fun h => ?_) (fun h => ?_)
          · exact e_vret hX hR zcdX8_leadOn_72.2.2.2.2.1 h
          · refine s_aload_n (k := 0) hX zcdX8_leadOn_16.2.2.1 rfl rfl ?_
            refine s_get hX fX8_9 oC23 rfl zcdX8_leadOn_16.2.2.2.1 ?_
            refine s_iload (k := 4) hX zcdX8_leadOn_16.2.2.2.2.1 rfl ?_
            refine e_iald hX aC24 zcdX8_leadOn_16.2.2.2.2.2.1 h (fun h => ?_)
            refine s_aload_n (k := 0) hX zcdX8_leadOn_16.2.2.2.2.2.2.1 rfl rfl ?_
            refine s_get hX fX8_9 oC23 rfl zcdX8_leadOn_16.2.2.2.2.2.2.2 ?_
            refine s_iload_n (k := 3) hX zcdX8_leadOn_32.1 rfl rfl ?_
            refine e_iald hX aC24 zcdX8_leadOn_32.2.1 h (fun h => ?_)
            refine s_iconst (v := (nI 1)) hX zcdX8_leadOn_32.2.2.1 (by decide) ?_
            refine s_iadd hX zcdX8_leadOn_32.2.2.2.1 ?_
            refine e_icmp_ne (tgt := 76) hX zcdX8_leadOn_32.2.2.2.2.1 (by decide) r_eq h (fun h => ?_) (fun h => ?_)
            · refine s_iinc (k := 4) (v := (y4_14 + (nI 1))) (lv' := [(0, .ref (ad 23)), (1, .ref (ad b)), (2, .int v2), (3, .int v3), (4, .int (y4_14 + (nI 1)))]) hX zcdX8_leadOn_72.2.2.1 (congrArg (fun z => y4_14 + z) (by decide)) (by decide) rfl rfl ?_
              refine s_goto (tgt := 14) hX zcdX8_leadOn_72.2.2.2.1 (by decide) ?_
              exact ih14 M14 (y4_14 + (nI 1)) h
            · refine s_aload_n (k := 1) hX zcdX8_leadOn_32.2.2.2.2.2.1 rfl rfl ?_
              refine s_iload_n (k := 3) hX zcdX8_leadOn_32.2.2.2.2.2.2.1 rfl rfl ?_
              refine s_iload (k := 4) hX zcdX8_leadOn_32.2.2.2.2.2.2.2 rfl ?_
              refine s_iload_n (k := 2) hX zcdX8_leadOn_43.1 rfl rfl ?_
              refine e_callVp hX (t_X2_isStep b hb v3 y4_14 v2 M14) mX2_isStep lX8_41 (by decide) (by decide) (oF hb) rfl rfl rfl rfl rfl (Nat.le_of_ble_eq_true rfl) zcdX8_leadOn_43.2.1 h (fun r_1 h => ?_)
              refine e_if_eq (tgt := 76) hX zcdX8_leadOn_43.2.2.1 (by decide) z_eq h (fun h => ?_) (fun h => ?_)
              · refine s_iinc (k := 4) (v := (y4_14 + (nI 1))) (lv' := [(0, .ref (ad 23)), (1, .ref (ad b)), (2, .int v2), (3, .int v3), (4, .int (y4_14 + (nI 1)))]) hX zcdX8_leadOn_72.2.2.1 (congrArg (fun z => y4_14 + z) (by decide)) (by decide) rfl rfl ?_
                refine s_goto (tgt := 14) hX zcdX8_leadOn_72.2.2.2.1 (by decide) ?_
                exact ih14 M14 (y4_14 + (nI 1)) h
              · refine s_aload_n (k := 0) hX zcdX8_leadOn_43.2.2.2.1 rfl rfl ?_
                refine s_get hX fX8_21 oC23 rfl zcdX8_leadOn_43.2.2.2.2.1 ?_
                refine s_iload (k := 4) hX zcdX8_leadOn_43.2.2.2.2.2.1 rfl ?_
                refine s_ldc (v := (nI 1000000000)) hX kX8_62 zcdX8_leadOn_43.2.2.2.2.2.2.1 ?_
                refine s_aload_n (k := 0) hX zcdX8_leadOn_43.2.2.2.2.2.2.2 rfl rfl ?_
                refine s_get hX fX8_21 oC23 rfl zcdX8_leadOn_59.1 ?_
                refine s_iload (k := 4) hX zcdX8_leadOn_59.2.1 rfl ?_
                refine e_iald hX aC27 zcdX8_leadOn_59.2.2.1 h (fun h => ?_)
                refine s_aload_n (k := 0) hX zcdX8_leadOn_59.2.2.2.1 rfl rfl ?_
                refine s_get hX fX8_21 oC23 rfl zcdX8_leadOn_59.2.2.2.2.1 ?_
                refine s_iload_n (k := 3) hX zcdX8_leadOn_59.2.2.2.2.2.1 rfl rfl ?_
                refine e_iald hX aC27 zcdX8_leadOn_59.2.2.2.2.2.2.1 h (fun h => ?_)
                refine s_iadd hX zcdX8_leadOn_59.2.2.2.2.2.2.2 ?_
                refine e_mmin hX lX8_63 mJ9_min (by omega) (Nat.le_of_ble_eq_true rfl) zcdX8_leadOn_72.1 ?_
                refine e_iast hX aC27 zcdX8_leadOn_72.2.1 h (fun h => ?_)
                refine e_bndM h (fun M_2 h => ?_)
                refine s_iinc (k := 4) (v := (y4_14 + (nI 1))) (lv' := [(0, .ref (ad 23)), (1, .ref (ad b)), (2, .int v2), (3, .int v3), (4, .int (y4_14 + (nI 1)))]) hX zcdX8_leadOn_72.2.2.1 (congrArg (fun z => y4_14 + z) (by decide)) (by decide) rfl rfl ?_
                refine s_goto (tgt := 14) hX zcdX8_leadOn_72.2.2.2.1 (by decide) ?_
                exact ih14 M_2 (y4_14 + (nI 1)) h
      exact lp14 FU M (nI 0) h
    · exact e_vret hX hR zcdX8_leadOn_1.2.2.2.2.1 h
set_option maxHeartbeats 4000000 in
theorem t_X8_countRows (b : Nat) (hb : isF b) (v2 : Int32) (v3 : Int32) (M : Mem) : AXi yX8_countRows cX8_countRows 5 (some .int) 4 60 glC (fun ad => [.ref (ad 23), .ref (ad b), .int v2, .int v3]) M (f_X8_countRows b M v2 v3) := by
  intro r0 h
  refine AM.of (by decide) (fun _ => Nat.le_of_ble_eq_true rfl) (fun X ad cI cZ cB hX hR => ?_)
  show V X M [(0, .ref (ad 23)), (1, .ref (ad b)), (2, .int v2), (3, .int v3)] [] 0
  refine s_aload_n (k := 0) hX zcdX8_leadOn_72.2.2.2.2.2.1 rfl rfl ?_
  refine s_get hX fX8_21 oC23 rfl zcdX8_leadOn_72.2.2.2.2.2.2.1 ?_
  refine s_iconst (v := (nI 0)) hX zcdX8_leadOn_72.2.2.2.2.2.2.2 (by decide) ?_
  refine e_callSv hX (t_J7_fill_53178 27 42 aC27 (by decide) (nI 0) M) mJ7_fill_53178 lX8_31 (by decide) (by decide) rfl rfl (Nat.le_of_ble_eq_true rfl) zcdX8_countRows_5.1 h (fun M_1 h => ?_)
  refine s_aload_n (k := 0) hX zcdX8_countRows_5.2.1 rfl rfl ?_
  refine s_get hX fX8_21 oC23 rfl zcdX8_countRows_5.2.2.1 ?_
  refine s_bipush (v := (nI 40)) hX zcdX8_countRows_5.2.2.2.1 (by decide) ?_
  refine s_iconst (v := (nI 1)) hX zcdX8_countRows_5.2.2.2.2.1 (by decide) ?_
  refine s_iastN hX aC27 (by decide) zcdX8_countRows_5.2.2.2.2.2.1 ?_
  refine e_bndM h (fun M_2 h => ?_)
  refine s_iconst (v := (nI 0)) hX zcdX8_countRows_5.2.2.2.2.2.2.1 (by decide) ?_
  refine s_istore (lv' := [(0, .ref (ad 23)), (1, .ref (ad b)), (2, .int v2), (3, .int v3), (4, .int (nI 0))]) hX zcdX8_countRows_5.2.2.2.2.2.2.2 (by decide) rfl ?_
  have lp19 : ∀ (N19 : Nat) (M19 : Mem) (y4_19 : Int32), wlp2 (f_X8_countRows_B19 b v2 v3) N19 M19 y4_19 = some r0 → V X M19 [(0, .ref (ad 23)), (1, .ref (ad b)), (2, .int v2), (3, .int v3), (4, .int y4_19)] [] 19 := by
    intro N19
    induction N19 with
    | zero => exact fun _ _ h => e_none h
    | succ N19 ih19 =>
      intro M19 y4_19 h
      replace h : f_X8_countRows_B19 b v2 v3 (wlp2 (f_X8_countRows_B19 b v2 v3) N19) M19 y4_19 = some r0 := h
      generalize wlp2 (f_X8_countRows_B19 b v2 v3) N19 = ag19 at ih19 h
      refine s_iload (k := 4) hX zcdX8_countRows_19.1 rfl ?_
      refine s_iload_n (k := 3) hX zcdX8_countRows_19.2.1 rfl rfl ?_
      refine e_icmp_ge (tgt := 51) hX zcdX8_countRows_19.2.2.1 (by decide) r_le h (fun h => ?_) (fun h => ?_)
      · refine s_aload_n (k := 0) hX zcdX8_countRows_51.1 rfl rfl ?_
        refine s_get hX fX8_21 oC23 rfl zcdX8_countRows_51.2.1 ?_
        refine s_bipush (v := (nI 41)) hX zcdX8_countRows_51.2.2.1 (by decide) ?_
        refine s_ialdN hX aC27 (by decide) zcdX8_countRows_51.2.2.2.1 ?_
        exact e_ireti hX hR zcdX8_countRows_51.2.2.2.2.1 h
      · refine s_iload (k := 4) hX zcdX8_countRows_19.2.2.2.1 rfl ?_
        refine s_bipush (v := (nI 42)) hX zcdX8_countRows_19.2.2.2.2.1 (by decide) ?_
        refine e_icmp_ge (tgt := 51) hX zcdX8_countRows_19.2.2.2.2.2.1 (by decide) (m_ge (by decide +kernel)) h (fun h => ?_) (fun h => ?_)
        · refine s_aload_n (k := 0) hX zcdX8_countRows_51.1 rfl rfl ?_
          refine s_get hX fX8_21 oC23 rfl zcdX8_countRows_51.2.1 ?_
          refine s_bipush (v := (nI 41)) hX zcdX8_countRows_51.2.2.1 (by decide) ?_
          refine s_ialdN hX aC27 (by decide) zcdX8_countRows_51.2.2.2.1 ?_
          exact e_ireti hX hR zcdX8_countRows_51.2.2.2.2.1 h
        · refine s_aload_n (k := 0) hX zcdX8_countRows_19.2.2.2.2.2.2.1 rfl rfl ?_
          refine s_aload_n (k := 1) hX zcdX8_countRows_19.2.2.2.2.2.2.2 rfl rfl ?_
          refine s_iload_n (k := 2) hX zcdX8_countRows_34.1 rfl rfl ?_
          refine s_aload_n (k := 0) hX zcdX8_countRows_34.2.1 rfl rfl ?_
          refine s_get hX fX8_18 oC23 rfl zcdX8_countRows_34.2.2.1 ?_
          refine s_iload (k := 4) hX zcdX8_countRows_34.2.2.2.1 rfl ?_
          refine e_iald hX aC26 zcdX8_countRows_34.2.2.2.2.1 h (fun h => ?_)
          refine e_callVv hX (t_X8_leadOn b hb v2 (M19 26 (ix y4_19)) M19) mX8_leadOn lX8_58 (by decide) (by decide) oC23 rfl rfl rfl rfl rfl (Nat.le_of_ble_eq_true rfl) zcdX8_countRows_34.2.2.2.2.2.1 h (fun M_3 h => ?_)
          refine s_iinc (k := 4) (v := (y4_19 + (nI 1))) (lv' := [(0, .ref (ad 23)), (1, .ref (ad b)), (2, .int v2), (3, .int v3), (4, .int (y4_19 + (nI 1)))]) hX zcdX8_countRows_34.2.2.2.2.2.2.1 (congrArg (fun z => y4_19 + z) (by decide)) (by decide) rfl rfl ?_
          refine s_goto (tgt := 19) hX zcdX8_countRows_34.2.2.2.2.2.2.2 (by decide) ?_
          exact ih19 M_3 (y4_19 + (nI 1)) h
  exact lp19 FU M_2 (nI 0) h
set_option maxHeartbeats 4000000 in
theorem t_X8_lowestOnward (b : Nat) (hb : isF b) (v2 : Int32) (v3 : Int32) (v4 : Int32) (M : Mem) : AXp yX8_lowestOnward cX8_lowestOnward 6 (some .int) 3 60 glC (fun ad => [.ref (ad 23), .ref (ad b), .int v2, .int v3, .int v4]) M (f_X8_lowestOnward b M v2 v3 v4) := by
  intro r0 h
  refine AM.of (by decide) (fun _ => Nat.le_of_ble_eq_true rfl) (fun X ad cI cZ cB hX hR => ?_)
  show V X M [(0, .ref (ad 23)), (1, .ref (ad b)), (2, .int v2), (3, .int v3), (4, .int v4)] [] 0
  refine s_iconst (v := (nI 0)) hX zcdX8_countRows_51.2.2.2.2.2.1 (by decide) ?_
  refine s_istore (lv' := [(0, .ref (ad 23)), (1, .ref (ad b)), (2, .int v2), (3, .int v3), (4, .int v4), (5, .int (nI 0))]) hX zcdX8_countRows_51.2.2.2.2.2.2.1 (by decide) rfl ?_
  have lp3 : ∀ (N3 : Nat) (y5_3 : Int32), wlp1 (f_X8_lowestOnward_B3 b M v2 v3 v4) N3 y5_3 = some r0 → V X M [(0, .ref (ad 23)), (1, .ref (ad b)), (2, .int v2), (3, .int v3), (4, .int v4), (5, .int y5_3)] [] 3 := by
    intro N3
    induction N3 with
    | zero => exact fun _ h => e_none h
    | succ N3 ih3 =>
      intro y5_3 h
      replace h : f_X8_lowestOnward_B3 b M v2 v3 v4 (wlp1 (f_X8_lowestOnward_B3 b M v2 v3 v4) N3) y5_3 = some r0 := h
      generalize wlp1 (f_X8_lowestOnward_B3 b M v2 v3 v4) N3 = ag3 at ih3 h
      refine s_iload (k := 5) hX zcdX8_countRows_51.2.2.2.2.2.2.2 rfl ?_
      refine s_bipush (v := (nI 40)) hX zcdX8_lowestOnward_5.1 (by decide) ?_
      refine e_icmp_ge (tgt := 42) hX zcdX8_lowestOnward_5.2.1 (by decide) (m_ge (by decide +kernel)) h (fun h => ?_) (fun h => ?_)
      · refine s_bipush (v := (-2)) hX zcdX8_lowestOnward_36.2.2.1 (by decide) ?_
        exact e_iretp hX hR zcdX8_lowestOnward_36.2.2.2.1 h
      · refine s_aload_n (k := 0) hX zcdX8_lowestOnward_5.2.2.1 rfl rfl ?_
        refine s_get hX fX8_15 oC23 rfl zcdX8_lowestOnward_5.2.2.2.1 ?_
        refine s_iload (k := 5) hX zcdX8_lowestOnward_5.2.2.2.2.1 rfl ?_
        refine e_iald hX aC25 zcdX8_lowestOnward_5.2.2.2.2.2.1 h (fun h => ?_)
        refine s_iload (k := 4) hX zcdX8_lowestOnward_5.2.2.2.2.2.2.1 rfl ?_
        refine e_icmp_ne (tgt := 36) hX zcdX8_lowestOnward_5.2.2.2.2.2.2.2 (by decide) r_eq h (fun h => ?_) (fun h => ?_)
        · refine s_iinc (k := 5) (v := (y5_3 + (nI 1))) (lv' := [(0, .ref (ad 23)), (1, .ref (ad b)), (2, .int v2), (3, .int v3), (4, .int v4), (5, .int (y5_3 + (nI 1)))]) hX zcdX8_lowestOnward_36.1 (congrArg (fun z => y5_3 + z) (by decide)) (by decide) rfl rfl ?_
          refine s_goto (tgt := 3) hX zcdX8_lowestOnward_36.2.1 (by decide) ?_
          exact ih3 (y5_3 + (nI 1)) h
        · refine s_aload_n (k := 1) hX zcdX8_lowestOnward_22.1 rfl rfl ?_
          refine s_iload_n (k := 3) hX zcdX8_lowestOnward_22.2.1 rfl rfl ?_
          refine s_iload (k := 5) hX zcdX8_lowestOnward_22.2.2.1 rfl ?_
          refine s_iload_n (k := 2) hX zcdX8_lowestOnward_22.2.2.2.1 rfl rfl ?_
          refine e_callVp hX (t_X2_isStep b hb v3 y5_3 v2 M) mX2_isStep lX8_41 (by decide) (by decide) (oF hb) rfl rfl rfl rfl rfl (Nat.le_of_ble_eq_true rfl) zcdX8_lowestOnward_22.2.2.2.2.1 h (fun r_1 h => ?_)
          refine e_if_eq (tgt := 36) hX zcdX8_lowestOnward_22.2.2.2.2.2.1 (by decide) z_eq h (fun h => ?_) (fun h => ?_)
          · refine s_iinc (k := 5) (v := (y5_3 + (nI 1))) (lv' := [(0, .ref (ad 23)), (1, .ref (ad b)), (2, .int v2), (3, .int v3), (4, .int v4), (5, .int (y5_3 + (nI 1)))]) hX zcdX8_lowestOnward_36.1 (congrArg (fun z => y5_3 + z) (by decide)) (by decide) rfl rfl ?_
            refine s_goto (tgt := 3) hX zcdX8_lowestOnward_36.2.1 (by decide) ?_
            exact ih3 (y5_3 + (nI 1)) h
          · refine s_iload (k := 5) hX zcdX8_lowestOnward_22.2.2.2.2.2.2.1 rfl ?_
            exact e_iretp hX hR zcdX8_lowestOnward_22.2.2.2.2.2.2.2 h
  exact lp3 FU (nI 0) h
set_option maxHeartbeats 4000000 in
theorem t_X8_stoneOfLeastRow (b : Nat) (hb : isF b) (v2 : Int32) (v3 : Int32) (v4 : Int32) (M : Mem) : AXi yX8_stoneOfLeastRow cX8_stoneOfLeastRow 7 (some .int) 5 60 glC (fun ad => [.ref (ad 23), .ref (ad b), .int v2, .int v3, .int v4]) M (f_X8_stoneOfLeastRow b M v2 v3 v4) := by
  intro r0 h
  refine AM.of (by decide) (fun _ => Nat.le_of_ble_eq_true rfl) (fun X ad cI cZ cB hX hR => ?_)
  show V X M [(0, .ref (ad 23)), (1, .ref (ad b)), (2, .int v2), (3, .int v3), (4, .int v4)] [] 0
  refine s_aload_n (k := 0) hX zcdX8_lowestOnward_36.2.2.2.2.1 rfl rfl ?_
  refine s_aload_n (k := 1) hX zcdX8_lowestOnward_36.2.2.2.2.2.1 rfl rfl ?_
  refine s_iload_n (k := 2) hX zcdX8_lowestOnward_36.2.2.2.2.2.2.1 rfl rfl ?_
  refine s_bipush (v := (nI 41)) hX zcdX8_lowestOnward_36.2.2.2.2.2.2.2 (by decide) ?_
  refine s_aload_n (k := 0) hX zcdX8_stoneOfLeastRow_5.1 rfl rfl ?_
  refine s_get hX fX8_15 oC23 rfl zcdX8_stoneOfLeastRow_5.2.1 ?_
  refine s_bipush (v := (nI 42)) hX zcdX8_stoneOfLeastRow_5.2.2.1 (by decide) ?_
  refine e_callVi hX (t_X8_spread b hb 25 42 aC25 (by decide) v2 (nI 41) (nI 42) M) mX8_spread lX8_47 (by decide) (by decide) oC23 rfl rfl rfl rfl rfl (Nat.le_of_ble_eq_true rfl) zcdX8_stoneOfLeastRow_5.2.2.2.1 h (fun r_1 M_2 h => ?_)
  refine s_pop hX zcdX8_stoneOfLeastRow_5.2.2.2.2.1 rfl ?_
  refine s_bipush (v := (nI 40)) hX zcdX8_stoneOfLeastRow_5.2.2.2.2.2.1 (by decide) ?_
  refine s_istore (lv' := [(0, .ref (ad 23)), (1, .ref (ad b)), (2, .int v2), (3, .int v3), (4, .int v4), (5, .int (nI 40))]) hX zcdX8_stoneOfLeastRow_5.2.2.2.2.2.2.1 (by decide) rfl ?_
  refine s_iconst (v := (nI 0)) hX zcdX8_stoneOfLeastRow_5.2.2.2.2.2.2.2 (by decide) ?_
  refine s_istore (lv' := [(0, .ref (ad 23)), (1, .ref (ad b)), (2, .int v2), (3, .int v3), (4, .int v4), (5, .int (nI 40)), (6, .int (nI 0))]) hX zcdX8_stoneOfLeastRow_20.1 (by decide) rfl ?_
  have lp22 : ∀ (N22 : Nat) (y5_22 : Int32) (y6_22 : Int32), wlp2 (f_X8_stoneOfLeastRow_B22 b v2 v3 v4 M_2) N22 y5_22 y6_22 = some r0 → V X M_2 [(0, .ref (ad 23)), (1, .ref (ad b)), (2, .int v2), (3, .int v3), (4, .int v4), (5, .int y5_22), (6, .int y6_22)] [] 22 := by
    intro N22
    induction N22 with
    | zero => exact fun _ _ h => e_none h
    | succ N22 ih22 =>
      intro y5_22 y6_22 h
      replace h : f_X8_stoneOfLeastRow_B22 b v2 v3 v4 M_2 (wlp2 (f_X8_stoneOfLeastRow_B22 b v2 v3 v4 M_2) N22) y5_22 y6_22 = some r0 := h
      generalize wlp2 (f_X8_stoneOfLeastRow_B22 b v2 v3 v4 M_2) N22 = ag22 at ih22 h
      refine s_iload (k := 6) hX zcdX8_stoneOfLeastRow_20.2.1 rfl ?_
      refine s_iload (k := 4) hX zcdX8_stoneOfLeastRow_20.2.2.1 rfl ?_
      refine e_icmp_gt (tgt := 58) hX zcdX8_stoneOfLeastRow_20.2.2.2.1 (by decide) r_lt h (fun h => ?_) (fun h => ?_)
      · refine s_iload (k := 5) hX zcdX8_stoneOfLeastRow_47.2.2.2.2.1 rfl ?_
        exact e_ireti hX hR zcdX8_stoneOfLeastRow_47.2.2.2.2.2.1 h
      · refine s_iload (k := 6) hX zcdX8_stoneOfLeastRow_20.2.2.2.2.1 rfl ?_
        refine s_bipush (v := (nI 40)) hX zcdX8_stoneOfLeastRow_20.2.2.2.2.2.1 (by decide) ?_
        refine e_icmp_ge (tgt := 58) hX zcdX8_stoneOfLeastRow_20.2.2.2.2.2.2.1 (by decide) (m_ge (by decide +kernel)) h (fun h => ?_) (fun h => ?_)
        · refine s_iload (k := 5) hX zcdX8_stoneOfLeastRow_47.2.2.2.2.1 rfl ?_
          exact e_ireti hX hR zcdX8_stoneOfLeastRow_47.2.2.2.2.2.1 h
        · refine s_aload_n (k := 0) hX zcdX8_stoneOfLeastRow_20.2.2.2.2.2.2.2 rfl rfl ?_
          refine s_aload_n (k := 1) hX zcdX8_stoneOfLeastRow_37.1 rfl rfl ?_
          refine s_iload_n (k := 2) hX zcdX8_stoneOfLeastRow_37.2.1 rfl rfl ?_
          refine s_iload (k := 5) hX zcdX8_stoneOfLeastRow_37.2.2.1 rfl ?_
          refine s_iload_n (k := 3) hX zcdX8_stoneOfLeastRow_37.2.2.2.1 rfl rfl ?_
          refine s_iconst (v := (nI 1)) hX zcdX8_stoneOfLeastRow_37.2.2.2.2.1 (by decide) ?_
          refine s_isub hX zcdX8_stoneOfLeastRow_37.2.2.2.2.2.1 ?_
          refine s_iload (k := 6) hX zcdX8_stoneOfLeastRow_37.2.2.2.2.2.2.1 rfl ?_
          refine s_isub hX zcdX8_stoneOfLeastRow_37.2.2.2.2.2.2.2 ?_
          refine e_callVp hX (t_X8_lowestOnward b hb v2 y5_22 ((v3 - (nI 1)) - y6_22) M_2) mX8_lowestOnward lX8_69 (by decide) (by decide) oC23 rfl rfl rfl rfl rfl (Nat.le_of_ble_eq_true rfl) zcdX8_stoneOfLeastRow_47.1 h (fun r_3 h => ?_)
          refine s_istore (lv' := [(0, .ref (ad 23)), (1, .ref (ad b)), (2, .int v2), (3, .int v3), (4, .int v4), (6, .int y6_22), (5, .int r_3)]) hX zcdX8_stoneOfLeastRow_47.2.1 (by decide) rfl ?_
          refine s_iinc (k := 5) (v := (y6_22 + (nI 1))) (lv' := [(0, .ref (ad 23)), (1, .ref (ad b)), (2, .int v2), (3, .int v3), (4, .int v4), (5, .int r_3), (6, .int (y6_22 + (nI 1)))]) hX zcdX8_stoneOfLeastRow_47.2.2.1 (congrArg (fun z => y6_22 + z) (by decide)) (by decide) rfl rfl ?_
          refine s_goto (tgt := 22) hX zcdX8_stoneOfLeastRow_47.2.2.2.1 (by decide) ?_
          exact ih22 r_3 (y6_22 + (nI 1)) h
  exact lp22 FU (nI 40) (nI 0) h
set_option maxHeartbeats 4000000 in
theorem t_X8_crossing (b : Nat) (hb : isF b) (v2 : Int32) (v3 : Int32) (M : Mem) : AXi yX8_crossing cX8_crossing 6 (some .int) 6 60 glC (fun ad => [.ref (ad 23), .ref (ad b), .int v2, .int v3]) M (f_X8_crossing b M v2 v3) := by
  intro r0 h
  refine AM.of (by decide) (fun _ => Nat.le_of_ble_eq_true rfl) (fun X ad cI cZ cB hX hR => ?_)
  show V X M [(0, .ref (ad 23)), (1, .ref (ad b)), (2, .int v2), (3, .int v3)] [] 0
  refine s_aload_n (k := 0) hX zcdX8_stoneOfLeastRow_47.2.2.2.2.2.2.1 rfl rfl ?_
  refine s_aload_n (k := 1) hX zcdX8_stoneOfLeastRow_47.2.2.2.2.2.2.2 rfl rfl ?_
  refine s_iload_n (k := 2) hX zcdX8_crossing_2.1 rfl rfl ?_
  refine s_bipush (v := (nI 40)) hX zcdX8_crossing_2.2.1 (by decide) ?_
  refine s_aload_n (k := 0) hX zcdX8_crossing_2.2.2.1 rfl rfl ?_
  refine s_get hX fX8_9 oC23 rfl zcdX8_crossing_2.2.2.2.1 ?_
  refine s_bipush (v := (nI 42)) hX zcdX8_crossing_2.2.2.2.2.1 (by decide) ?_
  refine e_callVi hX (t_X8_spread b hb 24 42 aC24 (by decide) v2 (nI 40) (nI 42) M) mX8_spread lX8_47 (by decide) (by decide) oC23 rfl rfl rfl rfl rfl (Nat.le_of_ble_eq_true rfl) zcdX8_crossing_2.2.2.2.2.2.1 h (fun r_1 M_2 h => ?_)
  refine s_istore (lv' := [(0, .ref (ad 23)), (1, .ref (ad b)), (2, .int v2), (3, .int v3), (4, .int r_1)]) hX zcdX8_crossing_2.2.2.2.2.2.2.1 (by decide) rfl ?_
  refine s_aload_n (k := 0) hX zcdX8_crossing_2.2.2.2.2.2.2.2 rfl rfl ?_
  refine s_get hX fX8_9 oC23 rfl zcdX8_crossing_17.1 ?_
  refine s_bipush (v := (nI 41)) hX zcdX8_crossing_17.2.1 (by decide) ?_
  refine s_ialdN hX aC24 (by decide) zcdX8_crossing_17.2.2.1 ?_
  refine e_bnd h (fun x_3 h => ?_)
  refine s_istore (lv' := [(0, .ref (ad 23)), (1, .ref (ad b)), (2, .int v2), (3, .int v3), (4, .int r_1), (5, .int x_3)]) hX zcdX8_crossing_17.2.2.2.1 (by decide) rfl ?_
  refine s_iload (k := 5) hX zcdX8_crossing_17.2.2.2.2.1 rfl ?_
  refine s_iconst (v := (-1)) hX zcdX8_crossing_17.2.2.2.2.2.1 (by decide) ?_
  refine e_icmp_ne (tgt := 34) hX zcdX8_crossing_17.2.2.2.2.2.2.1 (by decide) (m_eq (by decide +kernel)) h (fun h => ?_) (fun h => ?_)
  · refine s_iload_n (k := 3) hX zcdX8_crossing_33.2.1 rfl rfl ?_
    refine s_bipush (v := (nI 100)) hX zcdX8_crossing_33.2.2.1 (by decide) ?_
    refine e_icmp_ne (tgt := 43) hX zcdX8_crossing_33.2.2.2.1 (by decide) (m_eq (by decide +kernel)) h (fun h => ?_) (fun h => ?_)
    · refine s_iload_n (k := 3) hX zcdX8_crossing_33.2.2.2.2.2.2.1 rfl rfl ?_
      refine s_bipush (v := (nI 101)) hX zcdX8_crossing_33.2.2.2.2.2.2.2 (by decide) ?_
      refine e_icmp_ne (tgt := 58) hX zcdX8_crossing_46.1 (by decide) (m_eq (by decide +kernel)) h (fun h => ?_) (fun h => ?_)
      · refine s_iload_n (k := 3) hX zcdX8_crossing_46.2.2.2.2.2.2.2 rfl rfl ?_
        refine s_iload (k := 5) hX zcdX8_crossing_59.1 rfl ?_
        refine s_iconst (v := (nI 1)) hX zcdX8_crossing_59.2.1 (by decide) ?_
        refine s_isub hX zcdX8_crossing_59.2.2.1 ?_
        refine e_icmp_lt (tgt := 71) hX zcdX8_crossing_59.2.2.2.1 (by decide) r_lt h (fun h => ?_) (fun h => ?_)
        · refine s_aload_n (k := 0) hX zcdX8_crossing_59.2.2.2.2.2.2.1 rfl rfl ?_
          refine s_aload_n (k := 1) hX zcdX8_crossing_59.2.2.2.2.2.2.2 rfl rfl ?_
          refine s_iload_n (k := 2) hX zcdX8_crossing_73.1 rfl rfl ?_
          refine s_iload (k := 5) hX zcdX8_crossing_73.2.1 rfl ?_
          refine s_iload_n (k := 3) hX zcdX8_crossing_73.2.2.1 rfl rfl ?_
          refine e_callVi hX (t_X8_stoneOfLeastRow b hb v2 x_3 v3 M_2) mX8_stoneOfLeastRow lX8_54 (by decide) (by decide) oC23 rfl rfl rfl rfl rfl (Nat.le_of_ble_eq_true rfl) zcdX8_crossing_73.2.2.2.1 h (fun r_4 M_5 h => ?_)
          exact e_ireti hX hR zcdX8_crossing_73.2.2.2.2.1 h
        · refine s_bipush (v := (-4)) hX zcdX8_crossing_59.2.2.2.2.1 (by decide) ?_
          refine s_goto (tgt := 80) hX zcdX8_crossing_59.2.2.2.2.2.1 (by decide) ?_
          exact e_ireti hX hR zcdX8_crossing_73.2.2.2.2.1 h
      · refine s_aload_n (k := 0) hX zcdX8_crossing_46.2.1 rfl rfl ?_
        refine s_aload_n (k := 1) hX zcdX8_crossing_46.2.2.1 rfl rfl ?_
        refine s_iload_n (k := 2) hX zcdX8_crossing_46.2.2.2.1 rfl rfl ?_
        refine s_iload (k := 4) hX zcdX8_crossing_46.2.2.2.2.1 rfl ?_
        refine e_callVi hX (t_X8_countRows b hb v2 r_1 M_2) mX8_countRows lX8_50 (by decide) (by decide) oC23 rfl rfl rfl rfl rfl (Nat.le_of_ble_eq_true rfl) zcdX8_crossing_46.2.2.2.2.2.1 h (fun r_6 M_7 h => ?_)
        exact e_ireti hX hR zcdX8_crossing_46.2.2.2.2.2.2.1 h
    · refine s_iload (k := 5) hX zcdX8_crossing_33.2.2.2.2.1 rfl ?_
      exact e_ireti hX hR zcdX8_crossing_33.2.2.2.2.2.1 h
  · refine s_bipush (v := (-2)) hX zcdX8_crossing_17.2.2.2.2.2.2.2 (by decide) ?_
    exact e_ireti hX hR zcdX8_crossing_33.1 h
set_option maxHeartbeats 4000000 in
theorem t_X8_settle (b : Nat) (hb : isF b) (v2 : Int32) (v3 : Int32) (M : Mem) : AXv yX8_settle cX8_settle 6 none 3 60 glC (fun ad => [.ref (ad 23), .ref (ad b), .int v2, .int v3]) M (f_X8_settle b M v2 v3) := by
  intro r0 h
  refine AM.of (by decide) (fun _ => Nat.le_of_ble_eq_true rfl) (fun X ad cI cZ cB hX hR => ?_)
  show V X M [(0, .ref (ad 23)), (1, .ref (ad b)), (2, .int v2), (3, .int v3)] [] 0
  refine s_iload_n (k := 3) hX zcdX8_crossing_73.2.2.2.2.2.1 rfl rfl ?_
  refine e_if_lt (tgt := 10) hX zcdX8_crossing_73.2.2.2.2.2.2.1 (by decide) z_lt h (fun h => ?_) (fun h => ?_)
  · exact e_vret hX hR zcdX8_settle_5.2.2.1 h
  · refine s_iload_n (k := 3) hX zcdX8_crossing_73.2.2.2.2.2.2.2 rfl rfl ?_
    refine s_bipush (v := (nI 42)) hX zcdX8_settle_5.1 (by decide) ?_
    refine e_icmp_lt (tgt := 11) hX zcdX8_settle_5.2.1 (by decide) (m_lt (by decide +kernel)) h (fun h => ?_) (fun h => ?_)
    · refine s_aload_n (k := 0) hX zcdX8_settle_5.2.2.2.1 rfl rfl ?_
      refine s_get hX fX8_27 oC23 rfl zcdX8_settle_5.2.2.2.2.1 ?_
      refine s_iload_n (k := 3) hX zcdX8_settle_5.2.2.2.2.2.1 rfl rfl ?_
      refine s_iconst (v := (nI 1)) hX zcdX8_settle_5.2.2.2.2.2.2.1 (by decide) ?_
      refine e_zast hX aC29 zcdX8_settle_5.2.2.2.2.2.2.2 h (fun h => ?_)
      refine e_bndM h (fun M_1 h => ?_)
      refine s_iconst (v := (nI 0)) hX zcdX8_settle_18.1 (by decide) ?_
      refine s_istore (lv' := [(0, .ref (ad 23)), (1, .ref (ad b)), (2, .int v2), (3, .int v3), (4, .int (nI 0))]) hX zcdX8_settle_18.2.1 (by decide) rfl ?_
      have lp21 : ∀ (N21 : Nat) (M21 : Mem) (y4_21 : Int32), wlp2 (f_X8_settle_B21 b v2 v3) N21 M21 y4_21 = some r0 → V X M21 [(0, .ref (ad 23)), (1, .ref (ad b)), (2, .int v2), (3, .int v3), (4, .int y4_21)] [] 21 := by
        intro N21
        induction N21 with
        | zero => exact fun _ _ h => e_none h
        | succ N21 ih21 =>
          intro M21 y4_21 h
          replace h : f_X8_settle_B21 b v2 v3 (wlp2 (f_X8_settle_B21 b v2 v3) N21) M21 y4_21 = some r0 := h
          generalize wlp2 (f_X8_settle_B21 b v2 v3) N21 = ag21 at ih21 h
          refine s_iload (k := 4) hX zcdX8_settle_18.2.2.1 rfl ?_
          refine s_bipush (v := (nI 42)) hX zcdX8_settle_18.2.2.2.1 (by decide) ?_
          refine e_icmp_ge (tgt := 119) hX zcdX8_settle_18.2.2.2.2.1 (by decide) (m_ge (by decide +kernel)) h (fun h => ?_) (fun h => ?_)
          · exact e_vret hX hR zcdX8_settle_105.2.2.2.2.2.2.1 h
          · refine s_aload_n (k := 0) hX zcdX8_settle_18.2.2.2.2.2.1 rfl rfl ?_
            refine s_get hX fX8_27 oC23 rfl zcdX8_settle_18.2.2.2.2.2.2.1 ?_
            refine s_iload (k := 4) hX zcdX8_settle_18.2.2.2.2.2.2.2 rfl ?_
            refine e_zald hX aC29 zcdX8_settle_34.1 h (fun h => ?_)
            refine e_if_ne (tgt := 113) hX zcdX8_settle_34.2.1 (by decide) z_eq h (fun h => ?_) (fun h => ?_)
            · refine s_iinc (k := 4) (v := (y4_21 + (nI 1))) (lv' := [(0, .ref (ad 23)), (1, .ref (ad b)), (2, .int v2), (3, .int v3), (4, .int (y4_21 + (nI 1)))]) hX zcdX8_settle_105.2.2.2.2.1 (congrArg (fun z => y4_21 + z) (by decide)) (by decide) rfl rfl ?_
              refine s_goto (tgt := 21) hX zcdX8_settle_105.2.2.2.2.2.1 (by decide) ?_
              exact ih21 M21 (y4_21 + (nI 1)) h
            · refine s_aload_n (k := 1) hX zcdX8_settle_34.2.2.1 rfl rfl ?_
              refine s_iload_n (k := 3) hX zcdX8_settle_34.2.2.2.1 rfl rfl ?_
              refine s_iload (k := 4) hX zcdX8_settle_34.2.2.2.2.1 rfl ?_
              refine s_iload_n (k := 2) hX zcdX8_settle_34.2.2.2.2.2.1 rfl rfl ?_
              refine e_callVp hX (t_X2_isStep b hb v3 y4_21 v2 M21) mX2_isStep lX8_41 (by decide) (by decide) (oF hb) rfl rfl rfl rfl rfl (Nat.le_of_ble_eq_true rfl) zcdX8_settle_34.2.2.2.2.2.2.1 h (fun r_2 h => ?_)
              refine e_if_eq (tgt := 113) hX zcdX8_settle_34.2.2.2.2.2.2.2 (by decide) z_eq h (fun h => ?_) (fun h => ?_)
              · refine s_iinc (k := 4) (v := (y4_21 + (nI 1))) (lv' := [(0, .ref (ad 23)), (1, .ref (ad b)), (2, .int v2), (3, .int v3), (4, .int (y4_21 + (nI 1)))]) hX zcdX8_settle_105.2.2.2.2.1 (congrArg (fun z => y4_21 + z) (by decide)) (by decide) rfl rfl ?_
                refine s_goto (tgt := 21) hX zcdX8_settle_105.2.2.2.2.2.1 (by decide) ?_
                exact ih21 M21 (y4_21 + (nI 1)) h
              · refine s_aload_n (k := 0) hX zcdX8_settle_49.1 rfl rfl ?_
                refine s_get hX fX8_24 oC23 rfl zcdX8_settle_49.2.1 ?_
                refine s_iload_n (k := 3) hX zcdX8_settle_49.2.2.1 rfl rfl ?_
                refine e_iald hX aC28 zcdX8_settle_49.2.2.2.1 h (fun h => ?_)
                refine s_iconst (v := (nI 1)) hX zcdX8_settle_49.2.2.2.2.1 (by decide) ?_
                refine s_iadd hX zcdX8_settle_49.2.2.2.2.2.1 ?_
                refine s_iload (k := 4) hX zcdX8_settle_49.2.2.2.2.2.2.1 rfl ?_
                refine s_bipush (v := (nI 40)) hX zcdX8_settle_49.2.2.2.2.2.2.2 (by decide) ?_
                have j78 : ∀ (t0_78 : Int32), f_X8_settle_L78 v3 ag21 M21 y4_21 t0_78 = some r0 → V X M21 [(0, .ref (ad 23)), (1, .ref (ad b)), (2, .int v2), (3, .int v3), (4, .int y4_21)] [.int t0_78, .int ((M21 28 (ix v3)) + (nI 1))] 78 := by
                  intro t0_78 h
                  refine s_iadd hX zcdX8_settle_77.2.1 ?_
                  refine e_bnd h (fun x_3 h => ?_)
                  refine s_istore (lv' := [(0, .ref (ad 23)), (1, .ref (ad b)), (2, .int v2), (3, .int v3), (4, .int y4_21), (5, .int x_3)]) hX zcdX8_settle_77.2.2.1 (by decide) rfl ?_
                  refine s_aload_n (k := 0) hX zcdX8_settle_77.2.2.2.1 rfl rfl ?_
                  refine s_get hX fX8_24 oC23 rfl zcdX8_settle_77.2.2.2.2.1 ?_
                  refine s_iload (k := 4) hX zcdX8_settle_77.2.2.2.2.2.1 rfl ?_
                  refine e_iald hX aC28 zcdX8_settle_77.2.2.2.2.2.2.1 h (fun h => ?_)
                  refine s_iconst (v := (-1)) hX zcdX8_settle_77.2.2.2.2.2.2.2 (by decide) ?_
                  have j104 : f_X8_settle_L104 ag21 M21 y4_21 x_3 = some r0 → V X M21 [(0, .ref (ad 23)), (1, .ref (ad b)), (2, .int v2), (3, .int v3), (4, .int y4_21), (5, .int x_3)] [] 104 := by
                    intro  h
                    refine s_aload_n (k := 0) hX zcdX8_settle_89.2.2.2.2.2.2.2 rfl rfl ?_
                    refine s_get hX fX8_24 oC23 rfl zcdX8_settle_105.1 ?_
                    refine s_iload (k := 4) hX zcdX8_settle_105.2.1 rfl ?_
                    refine s_iload (k := 5) hX zcdX8_settle_105.2.2.1 rfl ?_
                    refine e_iast hX aC28 zcdX8_settle_105.2.2.2.1 h (fun h => ?_)
                    refine e_bndM h (fun M_4 h => ?_)
                    refine s_iinc (k := 4) (v := (y4_21 + (nI 1))) (lv' := [(0, .ref (ad 23)), (1, .ref (ad b)), (2, .int v2), (3, .int v3), (5, .int x_3), (4, .int (y4_21 + (nI 1)))]) hX zcdX8_settle_105.2.2.2.2.1 (congrArg (fun z => y4_21 + z) (by decide)) (by decide) rfl rfl ?_
                    refine s_goto (tgt := 21) hX zcdX8_settle_105.2.2.2.2.2.1 (by decide) ?_
                    refine s_loc [0, 1, 2, 3, 5] rfl ?_
                    exact ih21 M_4 (y4_21 + (nI 1)) h
                  refine e_icmp_eq (tgt := 104) hX zcdX8_settle_89.1 (by decide) (m_eq (by decide +kernel)) h (fun h => ?_) (fun h => ?_)
                  · exact j104 h
                  · refine s_iload (k := 5) hX zcdX8_settle_89.2.1 rfl ?_
                    refine s_aload_n (k := 0) hX zcdX8_settle_89.2.2.1 rfl rfl ?_
                    refine s_get hX fX8_24 oC23 rfl zcdX8_settle_89.2.2.2.1 ?_
                    refine s_iload (k := 4) hX zcdX8_settle_89.2.2.2.2.1 rfl ?_
                    refine e_iald hX aC28 zcdX8_settle_89.2.2.2.2.2.1 h (fun h => ?_)
                    refine e_icmp_ge (tgt := 113) hX zcdX8_settle_89.2.2.2.2.2.2.1 (by decide) r_le h (fun h => ?_) (fun h => ?_)
                    · refine s_iinc (k := 4) (v := (y4_21 + (nI 1))) (lv' := [(0, .ref (ad 23)), (1, .ref (ad b)), (2, .int v2), (3, .int v3), (5, .int x_3), (4, .int (y4_21 + (nI 1)))]) hX zcdX8_settle_105.2.2.2.2.1 (congrArg (fun z => y4_21 + z) (by decide)) (by decide) rfl rfl ?_
                      refine s_goto (tgt := 21) hX zcdX8_settle_105.2.2.2.2.2.1 (by decide) ?_
                      refine s_loc [0, 1, 2, 3, 5] rfl ?_
                      exact ih21 M21 (y4_21 + (nI 1)) h
                    · exact j104 h
                refine e_icmp_ge (tgt := 77) hX zcdX8_settle_61.1 (by decide) (m_ge (by decide +kernel)) h (fun h => ?_) (fun h => ?_)
                · refine s_iconst (v := (nI 0)) hX zcdX8_settle_77.1 (by decide) ?_
                  exact j78 (nI 0) h
                · refine s_bipush (v := (nI 100)) hX zcdX8_settle_61.2.1 (by decide) ?_
                  refine s_aload_n (k := 1) hX zcdX8_settle_61.2.2.1 rfl rfl ?_
                  refine s_get hX fX8_79 (oF hb) rfl zcdX8_settle_61.2.2.2.1 ?_
                  refine s_iload (k := 4) hX zcdX8_settle_61.2.2.2.2.1 rfl ?_
                  refine e_iald hX (aF3 hb) zcdX8_settle_61.2.2.2.2.2.1 h (fun h => ?_)
                  refine s_imul hX zcdX8_settle_61.2.2.2.2.2.2.1 ?_
                  refine s_goto (tgt := 78) hX zcdX8_settle_61.2.2.2.2.2.2.2 (by decide) ?_
                  exact j78 ((nI 100) * (M21 (b + 3) (ix y4_21))) h
      exact lp21 FU M_1 (nI 0) h
    · exact e_vret hX hR zcdX8_settle_5.2.2.1 h
set_option maxHeartbeats 4000000 in
theorem t_X8_driestWay (b : Nat) (hb : isF b) (v2 : Int32) (v3 : Int32) (M : Mem) : AXi yX8_driestWay cX8_driestWay 6 (some .int) 4 60 glC (fun ad => [.ref (ad 23), .ref (ad b), .int v2, .int v3]) M (f_X8_driestWay b M v2 v3) := by
  intro r0 h
  refine AM.of (by decide) (fun _ => Nat.le_of_ble_eq_true rfl) (fun X ad cI cZ cB hX hR => ?_)
  show V X M [(0, .ref (ad 23)), (1, .ref (ad b)), (2, .int v2), (3, .int v3)] [] 0
  refine s_iconst (v := (nI 0)) hX zcdX8_settle_105.2.2.2.2.2.2.2 (by decide) ?_
  refine s_istore (lv' := [(0, .ref (ad 23)), (1, .ref (ad b)), (2, .int v2), (3, .int v3), (4, .int (nI 0))]) hX zcdX8_driestWay_1.1 (by decide) rfl ?_
  have lp3 : ∀ (N3 : Nat) (M3 : Mem) (y4_3 : Int32), wlp2 (f_X8_driestWay_B3 b v2 v3) N3 M3 y4_3 = some r0 → V X M3 [(0, .ref (ad 23)), (1, .ref (ad b)), (2, .int v2), (3, .int v3), (4, .int y4_3)] [] 3 := by
    intro N3
    induction N3 with
    | zero => exact fun _ _ h => e_none h
    | succ N3 ih3 =>
      intro M3 y4_3 h
      replace h : f_X8_driestWay_B3 b v2 v3 (wlp2 (f_X8_driestWay_B3 b v2 v3) N3) M3 y4_3 = some r0 := h
      generalize wlp2 (f_X8_driestWay_B3 b v2 v3) N3 = ag3 at ih3 h
      refine s_iload (k := 4) hX zcdX8_driestWay_1.2.1 rfl ?_
      refine s_bipush (v := (nI 42)) hX zcdX8_driestWay_1.2.2.1 (by decide) ?_
      have j32 : f_X8_driestWay_L32 b v2 v3 M3 = some r0 → V X M3 [(0, .ref (ad 23)), (1, .ref (ad b)), (2, .int v2), (3, .int v3)] [] 32 := by
        intro  h
        refine s_aload_n (k := 0) hX zcdX8_driestWay_32.1 rfl rfl ?_
        refine s_get hX fX8_24 oC23 rfl zcdX8_driestWay_32.2.1 ?_
        refine s_bipush (v := (nI 40)) hX zcdX8_driestWay_32.2.2.1 (by decide) ?_
        refine s_iconst (v := (nI 0)) hX zcdX8_driestWay_32.2.2.2.1 (by decide) ?_
        refine s_iastN hX aC28 (by decide) zcdX8_driestWay_32.2.2.2.2.1 ?_
        refine e_bndM h (fun M_1 h => ?_)
        refine s_iconst (v := (nI 0)) hX zcdX8_driestWay_32.2.2.2.2.2.1 (by decide) ?_
        refine s_istore (lv' := [(0, .ref (ad 23)), (1, .ref (ad b)), (2, .int v2), (3, .int v3), (4, .int (nI 0))]) hX zcdX8_driestWay_32.2.2.2.2.2.2.1 (by decide) rfl ?_
        have lp43 : ∀ (N43 : Nat) (M43 : Mem) (y4_43 : Int32), wlp2 (f_X8_driestWay_B43 b v2 v3) N43 M43 y4_43 = some r0 → V X M43 [(0, .ref (ad 23)), (1, .ref (ad b)), (2, .int v2), (3, .int v3), (4, .int y4_43)] [] 43 := by
          intro N43
          induction N43 with
          | zero => exact fun _ _ h => e_none h
          | succ N43 ih43 =>
            intro M43 y4_43 h
            replace h : f_X8_driestWay_B43 b v2 v3 (wlp2 (f_X8_driestWay_B43 b v2 v3) N43) M43 y4_43 = some r0 := h
            generalize wlp2 (f_X8_driestWay_B43 b v2 v3) N43 = ag43 at ih43 h
            refine s_iload (k := 4) hX zcdX8_driestWay_32.2.2.2.2.2.2.2 rfl ?_
            refine s_bipush (v := (nI 42)) hX zcdX8_driestWay_45.1 (by decide) ?_
            have j79 : f_X8_driestWay_L79 v3 M43 = some r0 → V X M43 [(0, .ref (ad 23)), (3, .int v3)] [] 79 := by
              intro  h
              refine s_aload_n (k := 0) hX zcdX8_driestWay_79.1 rfl rfl ?_
              refine s_get hX fX8_24 oC23 rfl zcdX8_driestWay_79.2.1 ?_
              refine s_bipush (v := (nI 41)) hX zcdX8_driestWay_79.2.2.1 (by decide) ?_
              refine s_ialdN hX aC28 (by decide) zcdX8_driestWay_79.2.2.2.1 ?_
              refine s_iconst (v := (-1)) hX zcdX8_driestWay_79.2.2.2.2.1 (by decide) ?_
              refine e_icmp_ne (tgt := 93) hX zcdX8_driestWay_79.2.2.2.2.2.1 (by decide) (m_eq (by decide +kernel)) h (fun h => ?_) (fun h => ?_)
              · refine s_iload_n (k := 1) hX zcdX8_driestWay_93.1 rfl rfl ?_
                refine e_if_ne (tgt := 110) hX zcdX8_driestWay_93.2.1 (by decide) z_eq h (fun h => ?_) (fun h => ?_)
                · refine s_aload_n (k := 0) hX zcdX8_driestWay_107.2.1 rfl rfl ?_
                  refine s_get hX fX8_24 oC23 rfl zcdX8_driestWay_107.2.2.1 ?_
                  refine s_bipush (v := (nI 41)) hX zcdX8_driestWay_107.2.2.2.1 (by decide) ?_
                  refine s_ialdN hX aC28 (by decide) zcdX8_driestWay_107.2.2.2.2.1 ?_
                  refine s_bipush (v := (nI 100)) hX zcdX8_driestWay_107.2.2.2.2.2.1 (by decide) ?_
                  refine s_iremL hX zcdX8_driestWay_107.2.2.2.2.2.2.1 (by decide) ?_
                  exact e_ireti hX hR zcdX8_driestWay_107.2.2.2.2.2.2.2 h
                · refine s_aload_n (k := 0) hX zcdX8_driestWay_93.2.2.1 rfl rfl ?_
                  refine s_get hX fX8_24 oC23 rfl zcdX8_driestWay_93.2.2.2.1 ?_
                  refine s_bipush (v := (nI 41)) hX zcdX8_driestWay_93.2.2.2.2.1 (by decide) ?_
                  refine s_ialdN hX aC28 (by decide) zcdX8_driestWay_93.2.2.2.2.2.1 ?_
                  refine s_bipush (v := (nI 100)) hX zcdX8_driestWay_93.2.2.2.2.2.2.1 (by decide) ?_
                  refine s_idiv hX zcdX8_driestWay_93.2.2.2.2.2.2.2 (by decide) ?_
                  refine s_goto (tgt := 120) hX zcdX8_driestWay_107.1 (by decide) ?_
                  exact e_ireti hX hR zcdX8_driestWay_107.2.2.2.2.2.2.2 h
              · refine s_bipush (v := (-2)) hX zcdX8_driestWay_79.2.2.2.2.2.2.1 (by decide) ?_
                exact e_ireti hX hR zcdX8_driestWay_79.2.2.2.2.2.2.2 h
            refine e_icmp_ge (tgt := 79) hX zcdX8_driestWay_45.2.1 (by decide) (m_ge (by decide +kernel)) h (fun h => ?_) (fun h => ?_)
            · refine s_loc [0, 3] rfl ?_
              exact j79 h
            · refine s_aload_n (k := 0) hX zcdX8_driestWay_45.2.2.1 rfl rfl ?_
              refine e_callVp hX (t_X8_cheapest M43) mX8_cheapest lX8_72 (by decide) (by decide) oC23 rfl rfl rfl rfl rfl (Nat.le_of_ble_eq_true rfl) zcdX8_driestWay_45.2.2.2.1 h (fun r_2 h => ?_)
              refine s_istore (lv' := [(0, .ref (ad 23)), (1, .ref (ad b)), (2, .int v2), (3, .int v3), (4, .int y4_43), (5, .int r_2)]) hX zcdX8_driestWay_45.2.2.2.2.1 (by decide) rfl ?_
              refine s_iload (k := 5) hX zcdX8_driestWay_45.2.2.2.2.2.1 rfl ?_
              refine s_iconst (v := (-1)) hX zcdX8_driestWay_45.2.2.2.2.2.2.1 (by decide) ?_
              have j62 : f_X8_driestWay_L62 v3 M43 = some r0 → V X M43 [(0, .ref (ad 23)), (3, .int v3)] [] 62 := by
                intro  h
                refine s_goto (tgt := 79) hX zcdX8_driestWay_62.1 (by decide) ?_
                exact j79 h
              refine e_icmp_ne (tgt := 65) hX zcdX8_driestWay_45.2.2.2.2.2.2.2 (by decide) (m_eq (by decide +kernel)) h (fun h => ?_) (fun h => ?_)
              · refine s_aload_n (k := 0) hX zcdX8_driestWay_62.2.1 rfl rfl ?_
                refine s_aload_n (k := 1) hX zcdX8_driestWay_62.2.2.1 rfl rfl ?_
                refine s_iload_n (k := 2) hX zcdX8_driestWay_62.2.2.2.1 rfl rfl ?_
                refine s_iload (k := 5) hX zcdX8_driestWay_62.2.2.2.2.1 rfl ?_
                refine e_callVv hX (t_X8_settle b hb v2 r_2 M43) mX8_settle lX8_76 (by decide) (by decide) oC23 rfl rfl rfl rfl rfl (Nat.le_of_ble_eq_true rfl) zcdX8_driestWay_62.2.2.2.2.2.1 h (fun M_3 h => ?_)
                refine s_iinc (k := 4) (v := (y4_43 + (nI 1))) (lv' := [(0, .ref (ad 23)), (1, .ref (ad b)), (2, .int v2), (3, .int v3), (5, .int r_2), (4, .int (y4_43 + (nI 1)))]) hX zcdX8_driestWay_62.2.2.2.2.2.2.1 (congrArg (fun z => y4_43 + z) (by decide)) (by decide) rfl rfl ?_
                refine s_goto (tgt := 43) hX zcdX8_driestWay_62.2.2.2.2.2.2.2 (by decide) ?_
                refine s_loc [0, 1, 2, 3, 5] rfl ?_
                exact ih43 M_3 (y4_43 + (nI 1)) h
              · refine s_loc [0, 3] rfl ?_
                exact j62 h
        exact lp43 FU M_1 (nI 0) h
      refine e_icmp_ge (tgt := 32) hX zcdX8_driestWay_1.2.2.2.1 (by decide) (m_ge (by decide +kernel)) h (fun h => ?_) (fun h => ?_)
      · refine s_loc [0, 1, 2, 3] rfl ?_
        exact j32 h
      · refine s_aload_n (k := 0) hX zcdX8_driestWay_1.2.2.2.2.1 rfl rfl ?_
        refine s_get hX fX8_24 oC23 rfl zcdX8_driestWay_1.2.2.2.2.2.1 ?_
        refine s_iload (k := 4) hX zcdX8_driestWay_1.2.2.2.2.2.2.1 rfl ?_
        refine s_iconst (v := (-1)) hX zcdX8_driestWay_1.2.2.2.2.2.2.2 (by decide) ?_
        refine e_iast hX aC28 zcdX8_driestWay_17.1 h (fun h => ?_)
        refine e_bndM h (fun M_4 h => ?_)
        refine s_aload_n (k := 0) hX zcdX8_driestWay_17.2.1 rfl rfl ?_
        refine s_get hX fX8_27 oC23 rfl zcdX8_driestWay_17.2.2.1 ?_
        refine s_iload (k := 4) hX zcdX8_driestWay_17.2.2.2.1 rfl ?_
        refine s_iconst (v := (nI 0)) hX zcdX8_driestWay_17.2.2.2.2.1 (by decide) ?_
        refine e_zast hX aC29 zcdX8_driestWay_17.2.2.2.2.2.1 h (fun h => ?_)
        refine e_bndM h (fun M_5 h => ?_)
        refine s_iinc (k := 4) (v := (y4_3 + (nI 1))) (lv' := [(0, .ref (ad 23)), (1, .ref (ad b)), (2, .int v2), (3, .int v3), (4, .int (y4_3 + (nI 1)))]) hX zcdX8_driestWay_17.2.2.2.2.2.2.1 (congrArg (fun z => y4_3 + z) (by decide)) (by decide) rfl rfl ?_
        refine s_goto (tgt := 3) hX zcdX8_driestWay_17.2.2.2.2.2.2.2 (by decide) ?_
        exact ih3 M_5 (y4_3 + (nI 1)) h
  exact lp3 FU M (nI 0) h
set_option maxHeartbeats 4000000 in
theorem t_X8_farthest (b : Nat) (hb : isF b) (v2 : Int32) (M : Mem) : AXi yX8_farthest cX8_farthest 5 (some .int) 5 60 glC (fun ad => [.ref (ad 23), .ref (ad b), .int v2]) M (f_X8_farthest b M v2) := by
  intro r0 h
  refine AM.of (by decide) (fun _ => Nat.le_of_ble_eq_true rfl) (fun X ad cI cZ cB hX hR => ?_)
  show V X M [(0, .ref (ad 23)), (1, .ref (ad b)), (2, .int v2)] [] 0
  refine s_aload_n (k := 0) hX zcdX8_farthest_0.1 rfl rfl ?_
  refine s_aload_n (k := 1) hX zcdX8_farthest_0.2.1 rfl rfl ?_
  refine s_iload_n (k := 2) hX zcdX8_farthest_0.2.2.1 rfl rfl ?_
  refine s_bipush (v := (nI 40)) hX zcdX8_farthest_0.2.2.2.1 (by decide) ?_
  refine s_aload_n (k := 0) hX zcdX8_farthest_0.2.2.2.2.1 rfl rfl ?_
  refine s_get hX fX8_9 oC23 rfl zcdX8_farthest_0.2.2.2.2.2.1 ?_
  refine s_bipush (v := (nI 42)) hX zcdX8_farthest_0.2.2.2.2.2.2.1 (by decide) ?_
  refine e_callVi hX (t_X8_spread b hb 24 42 aC24 (by decide) v2 (nI 40) (nI 42) M) mX8_spread lX8_47 (by decide) (by decide) oC23 rfl rfl rfl rfl rfl (Nat.le_of_ble_eq_true rfl) zcdX8_farthest_0.2.2.2.2.2.2.2 h (fun r_1 M_2 h => ?_)
  refine s_pop hX zcdX8_farthest_14.1 rfl ?_
  refine s_iconst (v := (nI 0)) hX zcdX8_farthest_14.2.1 (by decide) ?_
  refine s_istore_n (lv' := [(0, .ref (ad 23)), (1, .ref (ad b)), (2, .int v2), (3, .int (nI 0))]) hX zcdX8_farthest_14.2.2.1 rfl (by decide) rfl ?_
  refine s_iconst (v := (nI 0)) hX zcdX8_farthest_14.2.2.2.1 (by decide) ?_
  refine s_istore (lv' := [(0, .ref (ad 23)), (1, .ref (ad b)), (2, .int v2), (3, .int (nI 0)), (4, .int (nI 0))]) hX zcdX8_farthest_14.2.2.2.2.1 (by decide) rfl ?_
  have lp20 : ∀ (N20 : Nat) (y3_20 : Int32) (y4_20 : Int32), wlp2 (f_X8_farthest_B20 b M_2) N20 y3_20 y4_20 = some r0 → V X M_2 [(0, .ref (ad 23)), (1, .ref (ad b)), (3, .int y3_20), (4, .int y4_20)] [] 20 := by
    intro N20
    induction N20 with
    | zero => exact fun _ _ h => e_none h
    | succ N20 ih20 =>
      intro y3_20 y4_20 h
      replace h : f_X8_farthest_B20 b M_2 (wlp2 (f_X8_farthest_B20 b M_2) N20) y3_20 y4_20 = some r0 := h
      generalize wlp2 (f_X8_farthest_B20 b M_2) N20 = ag20 at ih20 h
      refine s_iload (k := 3) hX zcdX8_farthest_14.2.2.2.2.2.1 rfl ?_
      refine s_bipush (v := (nI 42)) hX zcdX8_farthest_14.2.2.2.2.2.2.1 (by decide) ?_
      refine e_icmp_ge (tgt := 55) hX zcdX8_farthest_14.2.2.2.2.2.2.2 (by decide) (m_ge (by decide +kernel)) h (fun h => ?_) (fun h => ?_)
      · refine s_iload_n (k := 2) hX zcdX8_farthest_40.2.2.2.2.2.2.1 rfl rfl ?_
        exact e_ireti hX hR zcdX8_farthest_40.2.2.2.2.2.2.2 h
      · refine s_aload_n (k := 0) hX zcdX8_farthest_27.1 rfl rfl ?_
        refine s_get hX fX8_9 oC23 rfl zcdX8_farthest_27.2.1 ?_
        refine s_iload (k := 3) hX zcdX8_farthest_27.2.2.1 rfl ?_
        refine e_iald hX aC24 zcdX8_farthest_27.2.2.2.1 h (fun h => ?_)
        refine s_iconst (v := (-1)) hX zcdX8_farthest_27.2.2.2.2.1 (by decide) ?_
        refine e_icmp_eq (tgt := 49) hX zcdX8_farthest_27.2.2.2.2.2.1 (by decide) (m_eq (by decide +kernel)) h (fun h => ?_) (fun h => ?_)
        · refine s_iinc (k := 3) (v := (y4_20 + (nI 1))) (lv' := [(0, .ref (ad 23)), (1, .ref (ad b)), (3, .int y3_20), (4, .int (y4_20 + (nI 1)))]) hX zcdX8_farthest_40.2.2.2.2.1 (congrArg (fun z => y4_20 + z) (by decide)) (by decide) rfl rfl ?_
          refine s_goto (tgt := 20) hX zcdX8_farthest_40.2.2.2.2.2.1 (by decide) ?_
          exact ih20 y3_20 (y4_20 + (nI 1)) h
        · refine s_iload_n (k := 2) hX zcdX8_farthest_27.2.2.2.2.2.2.1 rfl rfl ?_
          refine s_aload_n (k := 1) hX zcdX8_farthest_27.2.2.2.2.2.2.2 rfl rfl ?_
          refine s_iload (k := 3) hX zcdX8_farthest_40.1 rfl ?_
          refine e_callVp hX (t_X2_heightOf b hb y4_20 M_2) mX2_heightOf lX8_82 (by decide) (by decide) (oF hb) rfl rfl rfl rfl rfl (Nat.le_of_ble_eq_true rfl) zcdX8_farthest_40.2.1 h (fun r_3 h => ?_)
          refine e_mmax hX lX8_86 mJ9_max (by omega) (Nat.le_of_ble_eq_true rfl) zcdX8_farthest_40.2.2.1 ?_
          refine e_bnd h (fun x_4 h => ?_)
          refine s_istore_n (lv' := [(0, .ref (ad 23)), (1, .ref (ad b)), (4, .int y4_20), (3, .int x_4)]) hX zcdX8_farthest_40.2.2.2.1 rfl (by decide) rfl ?_
          refine s_iinc (k := 2) (v := (y4_20 + (nI 1))) (lv' := [(0, .ref (ad 23)), (1, .ref (ad b)), (3, .int x_4), (4, .int (y4_20 + (nI 1)))]) hX zcdX8_farthest_40.2.2.2.2.1 (congrArg (fun z => y4_20 + z) (by decide)) (by decide) rfl rfl ?_
          refine s_goto (tgt := 20) hX zcdX8_farthest_40.2.2.2.2.2.1 (by decide) ?_
          exact ih20 x_4 (y4_20 + (nI 1)) h
  refine s_loc [0, 1, 3, 4] rfl ?_
  exact lp20 FU (nI 0) (nI 0) h
set_option maxHeartbeats 4000000 in
theorem t_X8_wouldJoin (b : Nat) (hb : isF b) (v2 : Int32) (v3 : Int32) (v4 : Int32) (M : Mem) : AXp yX8_wouldJoin cX8_wouldJoin 9 (some .boolean) 2 60 glC (fun ad => [.ref (ad 23), .ref (ad b), .int v2, .int v3, .int v4]) M (f_X8_wouldJoin b M v2 v3 v4) := by
  intro r0 h
  refine AM.of (by decide) (fun _ => Nat.le_of_ble_eq_true rfl) (fun X ad cI cZ cB hX hR => ?_)
  show V X M [(0, .ref (ad 23)), (1, .ref (ad b)), (2, .int v2), (3, .int v3), (4, .int v4)] [] 0
  refine s_iconst (v := (nI 0)) hX zcdX8_wouldJoin_0.1 (by decide) ?_
  refine s_istore (lv' := [(0, .ref (ad 23)), (1, .ref (ad b)), (2, .int v2), (3, .int v3), (4, .int v4), (5, .int (nI 0))]) hX zcdX8_wouldJoin_0.2.1 (by decide) rfl ?_
  refine s_iconst (v := (nI 0)) hX zcdX8_wouldJoin_0.2.2.1 (by decide) ?_
  refine s_istore (lv' := [(0, .ref (ad 23)), (1, .ref (ad b)), (2, .int v2), (3, .int v3), (4, .int v4), (5, .int (nI 0)), (6, .int (nI 0))]) hX zcdX8_wouldJoin_0.2.2.2.1 (by decide) rfl ?_
  refine s_iconst (v := (nI 0)) hX zcdX8_wouldJoin_0.2.2.2.2.1 (by decide) ?_
  refine s_istore (lv' := [(0, .ref (ad 23)), (1, .ref (ad b)), (2, .int v2), (3, .int v3), (4, .int v4), (5, .int (nI 0)), (6, .int (nI 0)), (7, .int (nI 0))]) hX zcdX8_wouldJoin_0.2.2.2.2.2.1 (by decide) rfl ?_
  have lp9 : ∀ (N9 : Nat) (y5_9 : Int32) (y6_9 : Int32) (y7_9 : Int32), wlp3 (f_X8_wouldJoin_B9 b M v2 v3 v4) N9 y5_9 y6_9 y7_9 = some r0 → V X M [(0, .ref (ad 23)), (1, .ref (ad b)), (2, .int v2), (3, .int v3), (4, .int v4), (5, .int y5_9), (6, .int y6_9), (7, .int y7_9)] [] 9 := by
    intro N9
    induction N9 with
    | zero => exact fun _ _ _ h => e_none h
    | succ N9 ih9 =>
      intro y5_9 y6_9 y7_9 h
      replace h : f_X8_wouldJoin_B9 b M v2 v3 v4 (wlp3 (f_X8_wouldJoin_B9 b M v2 v3 v4) N9) y5_9 y6_9 y7_9 = some r0 := h
      generalize wlp3 (f_X8_wouldJoin_B9 b M v2 v3 v4) N9 = ag9 at ih9 h
      refine s_iload (k := 7) hX zcdX8_wouldJoin_0.2.2.2.2.2.2.1 rfl ?_
      refine s_bipush (v := (nI 42)) hX zcdX8_wouldJoin_0.2.2.2.2.2.2.2 (by decide) ?_
      have j111 : f_X8_wouldJoin_L111 b M v3 v4 y5_9 y6_9 = some r0 → V X M [(1, .ref (ad b)), (3, .int v3), (4, .int v4), (5, .int y5_9), (6, .int y6_9)] [] 111 := by
        intro  h
        refine s_iload (k := 3) hX zcdX8_wouldJoin_102.2.2.2.2.1 rfl ?_
        refine e_if_eq (tgt := 136) hX zcdX8_wouldJoin_102.2.2.2.2.2.1 (by decide) z_eq h (fun h => ?_) (fun h => ?_)
        · refine s_iconst (v := (nI 0)) hX zcdX8_wouldJoin_136.1 (by decide) ?_
          exact e_zretpL hX hR zcdX8_wouldJoin_136.2.1 (by decide) h
        · refine s_iload (k := 4) hX zcdX8_wouldJoin_102.2.2.2.2.2.2.1 rfl ?_
          refine e_if_eq (tgt := 136) hX zcdX8_wouldJoin_102.2.2.2.2.2.2.2 (by decide) z_eq h (fun h => ?_) (fun h => ?_)
          · refine s_iconst (v := (nI 0)) hX zcdX8_wouldJoin_136.1 (by decide) ?_
            exact e_zretpL hX hR zcdX8_wouldJoin_136.2.1 (by decide) h
          · refine s_aload_n (k := 0) hX zcdX8_wouldJoin_121.1 rfl rfl ?_
            refine s_iload_n (k := 1) hX zcdX8_wouldJoin_121.2.1 rfl rfl ?_
            refine s_iload (k := 2) hX zcdX8_wouldJoin_121.2.2.1 rfl ?_
            refine e_callVp hX (t_X2_stoneAt b hb v3 v4 M) mX2_stoneAt lX8_101 (by decide) (by decide) (oF hb) rfl rfl rfl rfl rfl (Nat.le_of_ble_eq_true rfl) zcdX8_wouldJoin_121.2.2.2.1 h (fun r_1 h => ?_)
            refine s_iconst (v := (-1)) hX zcdX8_wouldJoin_121.2.2.2.2.1 (by decide) ?_
            refine e_icmp_ne (tgt := 136) hX zcdX8_wouldJoin_121.2.2.2.2.2.1 (by decide) (m_eq (by decide +kernel)) h (fun h => ?_) (fun h => ?_)
            · refine s_iconst (v := (nI 0)) hX zcdX8_wouldJoin_136.1 (by decide) ?_
              exact e_zretpL hX hR zcdX8_wouldJoin_136.2.1 (by decide) h
            · refine s_iconst (v := (nI 1)) hX zcdX8_wouldJoin_121.2.2.2.2.2.2.1 (by decide) ?_
              refine s_goto (tgt := 137) hX zcdX8_wouldJoin_121.2.2.2.2.2.2.2 (by decide) ?_
              exact e_zretpL hX hR zcdX8_wouldJoin_136.2.1 (by decide) h
      refine e_icmp_ge (tgt := 111) hX zcdX8_wouldJoin_13.1 (by decide) (m_ge (by decide +kernel)) h (fun h => ?_) (fun h => ?_)
      · refine s_loc [1, 3, 4, 5, 6] rfl ?_
        exact j111 h
      · refine s_aload_n (k := 0) hX zcdX8_wouldJoin_13.2.1 rfl rfl ?_
        refine s_get hX fX8_9 oC23 rfl zcdX8_wouldJoin_13.2.2.1 ?_
        refine s_iload (k := 7) hX zcdX8_wouldJoin_13.2.2.2.1 rfl ?_
        refine e_iald hX aC24 zcdX8_wouldJoin_13.2.2.2.2.1 h (fun h => ?_)
        refine s_iconst (v := (-1)) hX zcdX8_wouldJoin_13.2.2.2.2.2.1 (by decide) ?_
        have j43 : ∀ (t0_43 : Int32), f_X8_wouldJoin_L43 b M v2 v3 v4 ag9 y5_9 y6_9 y7_9 t0_43 = some r0 → V X M [(0, .ref (ad 23)), (1, .ref (ad b)), (2, .int v2), (3, .int v3), (4, .int v4), (5, .int y5_9), (6, .int y6_9), (7, .int y7_9)] [.int t0_43] 43 := by
          intro t0_43 h
          refine s_istore (lv' := [(0, .ref (ad 23)), (1, .ref (ad b)), (2, .int v2), (3, .int v3), (4, .int v4), (5, .int y5_9), (6, .int y6_9), (7, .int y7_9), (8, .int t0_43)]) hX zcdX8_wouldJoin_43.1 (by decide) rfl ?_
          refine s_iload (k := 8) hX zcdX8_wouldJoin_43.2.1 rfl ?_
          refine e_if_eq (tgt := 105) hX zcdX8_wouldJoin_43.2.2.1 (by decide) z_eq h (fun h => ?_) (fun h => ?_)
          · refine s_iinc (k := 7) (v := (y7_9 + (nI 1))) (lv' := [(0, .ref (ad 23)), (1, .ref (ad b)), (2, .int v2), (3, .int v3), (4, .int v4), (5, .int y5_9), (6, .int y6_9), (8, .int t0_43), (7, .int (y7_9 + (nI 1)))]) hX zcdX8_wouldJoin_102.2.2.1 (congrArg (fun z => y7_9 + z) (by decide)) (by decide) rfl rfl ?_
            refine s_goto (tgt := 9) hX zcdX8_wouldJoin_102.2.2.2.1 (by decide) ?_
            refine s_loc [0, 1, 2, 3, 4, 5, 6, 8] rfl ?_
            exact ih9 y5_9 y6_9 (y7_9 + (nI 1)) h
          · refine s_aload_n (k := 1) hX zcdX8_wouldJoin_43.2.2.2.1 rfl rfl ?_
            refine s_iload (k := 7) hX zcdX8_wouldJoin_43.2.2.2.2.1 rfl ?_
            refine s_iload_n (k := 3) hX zcdX8_wouldJoin_43.2.2.2.2.2.1 rfl rfl ?_
            refine s_iload (k := 4) hX zcdX8_wouldJoin_43.2.2.2.2.2.2.1 rfl ?_
            refine s_iload_n (k := 2) hX zcdX8_wouldJoin_43.2.2.2.2.2.2.2 rfl rfl ?_
            refine e_callVp hX (t_X2_isStepFrom b hb y7_9 v3 v4 v2 M) mX2_isStepFrom lX8_97 (by decide) (by decide) (oF hb) rfl rfl rfl rfl rfl (Nat.le_of_ble_eq_true rfl) zcdX8_wouldJoin_57.1 h (fun r_2 h => ?_)
            refine e_if_eq (tgt := 105) hX zcdX8_wouldJoin_57.2.1 (by decide) z_eq h (fun h => ?_) (fun h => ?_)
            · refine s_iinc (k := 7) (v := (y7_9 + (nI 1))) (lv' := [(0, .ref (ad 23)), (1, .ref (ad b)), (2, .int v2), (3, .int v3), (4, .int v4), (5, .int y5_9), (6, .int y6_9), (8, .int t0_43), (7, .int (y7_9 + (nI 1)))]) hX zcdX8_wouldJoin_102.2.2.1 (congrArg (fun z => y7_9 + z) (by decide)) (by decide) rfl rfl ?_
              refine s_goto (tgt := 9) hX zcdX8_wouldJoin_102.2.2.2.1 (by decide) ?_
              refine s_loc [0, 1, 2, 3, 4, 5, 6, 8] rfl ?_
              exact ih9 y5_9 y6_9 (y7_9 + (nI 1)) h
            · refine s_iload (k := 5) hX zcdX8_wouldJoin_57.2.2.1 rfl ?_
              refine s_aload_n (k := 0) hX zcdX8_wouldJoin_57.2.2.2.1 rfl rfl ?_
              refine s_get hX fX8_9 oC23 rfl zcdX8_wouldJoin_57.2.2.2.2.1 ?_
              refine s_iload (k := 7) hX zcdX8_wouldJoin_57.2.2.2.2.2.1 rfl ?_
              refine e_iald hX aC24 zcdX8_wouldJoin_57.2.2.2.2.2.2.1 h (fun h => ?_)
              refine s_iconst (v := (-1)) hX zcdX8_wouldJoin_57.2.2.2.2.2.2.2 (by decide) ?_
              have j81 : ∀ (t0_81 : Int32), f_X8_wouldJoin_L81 M ag9 y5_9 y6_9 y7_9 t0_81 = some r0 → V X M [(0, .ref (ad 23)), (1, .ref (ad b)), (2, .int v2), (3, .int v3), (4, .int v4), (6, .int y6_9), (7, .int y7_9)] [.int t0_81, .int y5_9] 81 := by
                intro t0_81 h
                refine s_ior hX zcdX8_wouldJoin_73.2.2.2.2.1 ?_
                refine e_bnd h (fun x_3 h => ?_)
                refine s_istore (lv' := [(0, .ref (ad 23)), (1, .ref (ad b)), (2, .int v2), (3, .int v3), (4, .int v4), (6, .int y6_9), (7, .int y7_9), (5, .int x_3)]) hX zcdX8_wouldJoin_73.2.2.2.2.2.1 (by decide) rfl ?_
                refine s_iload (k := 5) hX zcdX8_wouldJoin_73.2.2.2.2.2.2.1 rfl ?_
                refine s_aload_n (k := 0) hX zcdX8_wouldJoin_73.2.2.2.2.2.2.2 rfl rfl ?_
                refine s_get hX fX8_15 oC23 rfl zcdX8_wouldJoin_87.1 ?_
                refine s_iload (k := 6) hX zcdX8_wouldJoin_87.2.1 rfl ?_
                refine e_iald hX aC25 zcdX8_wouldJoin_87.2.2.1 h (fun h => ?_)
                refine s_iconst (v := (-1)) hX zcdX8_wouldJoin_87.2.2.2.1 (by decide) ?_
                refine e_icmp_eq (tgt := 101) hX zcdX8_wouldJoin_87.2.2.2.2.1 (by decide) (m_eq (by decide +kernel)) h (fun h => ?_) (fun h => ?_)
                · refine s_iconst (v := (nI 0)) hX zcdX8_wouldJoin_87.2.2.2.2.2.2.2 (by decide) ?_
                  refine s_ior hX zcdX8_wouldJoin_102.1 ?_
                  refine e_bnd h (fun x_4 h => ?_)
                  refine s_istore (lv' := [(0, .ref (ad 23)), (1, .ref (ad b)), (2, .int v2), (3, .int v3), (4, .int v4), (7, .int y7_9), (5, .int x_3), (6, .int x_4)]) hX zcdX8_wouldJoin_102.2.1 (by decide) rfl ?_
                  refine s_iinc (k := 5) (v := (y7_9 + (nI 1))) (lv' := [(0, .ref (ad 23)), (1, .ref (ad b)), (2, .int v2), (3, .int v3), (4, .int v4), (5, .int x_3), (6, .int x_4), (7, .int (y7_9 + (nI 1)))]) hX zcdX8_wouldJoin_102.2.2.1 (congrArg (fun z => y7_9 + z) (by decide)) (by decide) rfl rfl ?_
                  refine s_goto (tgt := 9) hX zcdX8_wouldJoin_102.2.2.2.1 (by decide) ?_
                  exact ih9 x_3 x_4 (y7_9 + (nI 1)) h
                · refine s_iconst (v := (nI 1)) hX zcdX8_wouldJoin_87.2.2.2.2.2.1 (by decide) ?_
                  refine s_goto (tgt := 102) hX zcdX8_wouldJoin_87.2.2.2.2.2.2.1 (by decide) ?_
                  refine s_ior hX zcdX8_wouldJoin_102.1 ?_
                  refine e_bnd h (fun x_5 h => ?_)
                  refine s_istore (lv' := [(0, .ref (ad 23)), (1, .ref (ad b)), (2, .int v2), (3, .int v3), (4, .int v4), (7, .int y7_9), (5, .int x_3), (6, .int x_5)]) hX zcdX8_wouldJoin_102.2.1 (by decide) rfl ?_
                  refine s_iinc (k := 5) (v := (y7_9 + (nI 1))) (lv' := [(0, .ref (ad 23)), (1, .ref (ad b)), (2, .int v2), (3, .int v3), (4, .int v4), (5, .int x_3), (6, .int x_5), (7, .int (y7_9 + (nI 1)))]) hX zcdX8_wouldJoin_102.2.2.1 (congrArg (fun z => y7_9 + z) (by decide)) (by decide) rfl rfl ?_
                  refine s_goto (tgt := 9) hX zcdX8_wouldJoin_102.2.2.2.1 (by decide) ?_
                  exact ih9 x_3 x_5 (y7_9 + (nI 1)) h
              refine e_icmp_eq (tgt := 80) hX zcdX8_wouldJoin_73.1 (by decide) (m_eq (by decide +kernel)) h (fun h => ?_) (fun h => ?_)
              · refine s_iconst (v := (nI 0)) hX zcdX8_wouldJoin_73.2.2.2.1 (by decide) ?_
                refine s_loc [0, 1, 2, 3, 4, 6, 7] rfl ?_
                exact j81 (nI 0) h
              · refine s_iconst (v := (nI 1)) hX zcdX8_wouldJoin_73.2.1 (by decide) ?_
                refine s_goto (tgt := 81) hX zcdX8_wouldJoin_73.2.2.1 (by decide) ?_
                refine s_loc [0, 1, 2, 3, 4, 6, 7] rfl ?_
                exact j81 (nI 1) h
        have j38 : f_X8_wouldJoin_L38 b M v2 v3 v4 ag9 y5_9 y6_9 y7_9 = some r0 → V X M [(0, .ref (ad 23)), (1, .ref (ad b)), (2, .int v2), (3, .int v3), (4, .int v4), (5, .int y5_9), (6, .int y6_9), (7, .int y7_9)] [] 38 := by
          intro  h
          refine s_iconst (v := (nI 1)) hX zcdX8_wouldJoin_28.2.2.2.2.2.1 (by decide) ?_
          refine s_goto (tgt := 43) hX zcdX8_wouldJoin_28.2.2.2.2.2.2.1 (by decide) ?_
          exact j43 (nI 1) h
        refine e_icmp_ne (tgt := 38) hX zcdX8_wouldJoin_13.2.2.2.2.2.2.1 (by decide) (m_eq (by decide +kernel)) h (fun h => ?_) (fun h => ?_)
        · exact j38 h
        · refine s_aload_n (k := 0) hX zcdX8_wouldJoin_13.2.2.2.2.2.2.2 rfl rfl ?_
          refine s_get hX fX8_15 oC23 rfl zcdX8_wouldJoin_28.1 ?_
          refine s_iload (k := 7) hX zcdX8_wouldJoin_28.2.1 rfl ?_
          refine e_iald hX aC25 zcdX8_wouldJoin_28.2.2.1 h (fun h => ?_)
          refine s_iconst (v := (-1)) hX zcdX8_wouldJoin_28.2.2.2.1 (by decide) ?_
          refine e_icmp_eq (tgt := 42) hX zcdX8_wouldJoin_28.2.2.2.2.1 (by decide) (m_eq (by decide +kernel)) h (fun h => ?_) (fun h => ?_)
          · refine s_iconst (v := (nI 0)) hX zcdX8_wouldJoin_28.2.2.2.2.2.2.2 (by decide) ?_
            exact j43 (nI 0) h
          · exact j38 h
  exact lp9 FU (nI 0) (nI 0) (nI 0) h
set_option maxHeartbeats 4000000 in
theorem t_X8_helpfulPlace (b : Nat) (hb : isF b) (v2 : Int32) (v3 : Int32) (M : Mem) : AXi yX8_helpfulPlace cX8_helpfulPlace 6 (some .int) 6 60 glC (fun ad => [.ref (ad 23), .ref (ad b), .int v2, .int v3]) M (f_X8_helpfulPlace b M v2 v3) := by
  intro r0 h
  refine AM.of (by decide) (fun _ => Nat.le_of_ble_eq_true rfl) (fun X ad cI cZ cB hX hR => ?_)
  show V X M [(0, .ref (ad 23)), (1, .ref (ad b)), (2, .int v2), (3, .int v3)] [] 0
  refine s_aload_n (k := 0) hX zcdX8_wouldJoin_136.2.2.1 rfl rfl ?_
  refine s_aload_n (k := 1) hX zcdX8_wouldJoin_136.2.2.2.1 rfl rfl ?_
  refine s_iload_n (k := 2) hX zcdX8_wouldJoin_136.2.2.2.2.1 rfl rfl ?_
  refine e_callVi hX (t_X8_canCross b hb v2 M) mX8_canCross lX8_89 (by decide) (by decide) oC23 rfl rfl rfl rfl rfl (Nat.le_of_ble_eq_true rfl) zcdX8_wouldJoin_136.2.2.2.2.2.1 h (fun r_1 M_2 h => ?_)
  refine e_if_eq (tgt := 12) hX zcdX8_wouldJoin_136.2.2.2.2.2.2.1 (by decide) z_eq h (fun h => ?_) (fun h => ?_)
  · refine s_aload_n (k := 0) hX zcdX8_helpfulPlace_11.2.1 rfl rfl ?_
    refine s_aload_n (k := 1) hX zcdX8_helpfulPlace_11.2.2.1 rfl rfl ?_
    refine s_iload_n (k := 2) hX zcdX8_helpfulPlace_11.2.2.2.1 rfl rfl ?_
    refine s_bipush (v := (nI 41)) hX zcdX8_helpfulPlace_11.2.2.2.2.1 (by decide) ?_
    refine s_aload_n (k := 0) hX zcdX8_helpfulPlace_11.2.2.2.2.2.1 rfl rfl ?_
    refine s_get hX fX8_15 oC23 rfl zcdX8_helpfulPlace_11.2.2.2.2.2.2.1 ?_
    refine s_bipush (v := (nI 42)) hX zcdX8_helpfulPlace_11.2.2.2.2.2.2.2 (by decide) ?_
    refine e_callVi hX (t_X8_spread b hb 25 42 aC25 (by decide) v2 (nI 41) (nI 42) M_2) mX8_spread lX8_47 (by decide) (by decide) oC23 rfl rfl rfl rfl rfl (Nat.le_of_ble_eq_true rfl) zcdX8_helpfulPlace_23.1 h (fun r_3 M_4 h => ?_)
    refine s_pop hX zcdX8_helpfulPlace_23.2.1 rfl ?_
    refine s_iconst (v := (nI 1)) hX zcdX8_helpfulPlace_23.2.2.1 (by decide) ?_
    refine s_istore (lv' := [(0, .ref (ad 23)), (1, .ref (ad b)), (2, .int v2), (3, .int v3), (4, .int (nI 1))]) hX zcdX8_helpfulPlace_23.2.2.2.1 (by decide) rfl ?_
    have lp30 : ∀ (N30 : Nat) (y4_30 : Int32), wlp1 (f_X8_helpfulPlace_B30 b v2 v3 M_4) N30 y4_30 = some r0 → V X M_4 [(0, .ref (ad 23)), (1, .ref (ad b)), (2, .int v2), (3, .int v3), (4, .int y4_30)] [] 30 := by
      intro N30
      induction N30 with
      | zero => exact fun _ h => e_none h
      | succ N30 ih30 =>
        intro y4_30 h
        replace h : f_X8_helpfulPlace_B30 b v2 v3 M_4 (wlp1 (f_X8_helpfulPlace_B30 b v2 v3 M_4) N30) y4_30 = some r0 := h
        generalize wlp1 (f_X8_helpfulPlace_B30 b v2 v3 M_4) N30 = ag30 at ih30 h
        refine s_iload (k := 4) hX zcdX8_helpfulPlace_23.2.2.2.2.1 rfl ?_
        refine s_bipush (v := (nI 20)) hX zcdX8_helpfulPlace_23.2.2.2.2.2.1 (by decide) ?_
        refine e_icmp_gt (tgt := 84) hX zcdX8_helpfulPlace_23.2.2.2.2.2.2.1 (by decide) (m_gt (by decide +kernel)) h (fun h => ?_) (fun h => ?_)
        · refine s_bipush (v := (-2)) hX zcdX8_helpfulPlace_71.2.2.2.2.2.1 (by decide) ?_
          exact e_ireti hX hR zcdX8_helpfulPlace_71.2.2.2.2.2.2 h
        · refine s_iconst (v := (nI 0)) hX zcdX8_helpfulPlace_23.2.2.2.2.2.2.2 (by decide) ?_
          refine s_istore (lv' := [(0, .ref (ad 23)), (1, .ref (ad b)), (2, .int v2), (3, .int v3), (4, .int y4_30), (5, .int (nI 0))]) hX zcdX8_helpfulPlace_38.1 (by decide) rfl ?_
          have lp40 : ∀ (N40 : Nat) (y5_40 : Int32), wlp1 (f_X8_helpfulPlace_B40 b v2 v3 M_4 ag30 y4_30) N40 y5_40 = some r0 → V X M_4 [(0, .ref (ad 23)), (1, .ref (ad b)), (2, .int v2), (3, .int v3), (4, .int y4_30), (5, .int y5_40)] [] 40 := by
            intro N40
            induction N40 with
            | zero => exact fun _ h => e_none h
            | succ N40 ih40 =>
              intro y5_40 h
              replace h : f_X8_helpfulPlace_B40 b v2 v3 M_4 ag30 y4_30 (wlp1 (f_X8_helpfulPlace_B40 b v2 v3 M_4 ag30 y4_30) N40) y5_40 = some r0 := h
              generalize wlp1 (f_X8_helpfulPlace_B40 b v2 v3 M_4 ag30 y4_30) N40 = ag40 at ih40 h
              refine s_iload (k := 5) hX zcdX8_helpfulPlace_38.2.1 rfl ?_
              refine s_bipush (v := (nI 39)) hX zcdX8_helpfulPlace_38.2.2.1 (by decide) ?_
              refine e_icmp_gt (tgt := 78) hX zcdX8_helpfulPlace_38.2.2.2.1 (by decide) (m_gt (by decide +kernel)) h (fun h => ?_) (fun h => ?_)
              · refine s_iinc (k := 4) (v := (y4_30 + (nI 1))) (lv' := [(0, .ref (ad 23)), (1, .ref (ad b)), (2, .int v2), (3, .int v3), (5, .int y5_40), (4, .int (y4_30 + (nI 1)))]) hX zcdX8_helpfulPlace_71.2.2.2.1 (congrArg (fun z => y4_30 + z) (by decide)) (by decide) rfl rfl ?_
                refine s_goto (tgt := 30) hX zcdX8_helpfulPlace_71.2.2.2.2.1 (by decide) ?_
                refine s_loc [0, 1, 2, 3, 5] rfl ?_
                exact ih30 (y4_30 + (nI 1)) h
              · refine s_aload_n (k := 0) hX zcdX8_helpfulPlace_38.2.2.2.2.1 rfl rfl ?_
                refine s_aload_n (k := 1) hX zcdX8_helpfulPlace_38.2.2.2.2.2.1 rfl rfl ?_
                refine s_iload_n (k := 2) hX zcdX8_helpfulPlace_38.2.2.2.2.2.2.1 rfl rfl ?_
                refine s_iload (k := 5) hX zcdX8_helpfulPlace_38.2.2.2.2.2.2.2 rfl ?_
                refine s_iload (k := 4) hX zcdX8_helpfulPlace_52.1 rfl ?_
                refine e_callVp hX (t_X8_wouldJoin b hb v2 y5_40 y4_30 M_4) mX8_wouldJoin lX8_93 (by decide) (by decide) oC23 rfl rfl rfl rfl rfl (Nat.le_of_ble_eq_true rfl) zcdX8_helpfulPlace_52.2.1 h (fun r_5 h => ?_)
                have j60 : f_X8_helpfulPlace_L60 v3 M_4 y4_30 y5_40 = some r0 → V X M_4 [(3, .int v3), (4, .int y4_30), (5, .int y5_40)] [] 60 := by
                  intro  h
                  refine s_iload_n (k := 0) hX zcdX8_helpfulPlace_52.2.2.2.1 rfl rfl ?_
                  refine e_if_ne (tgt := 69) hX zcdX8_helpfulPlace_52.2.2.2.2.1 (by decide) z_eq h (fun h => ?_) (fun h => ?_)
                  · refine s_iload (k := 1) hX zcdX8_helpfulPlace_52.2.2.2.2.2.2.2 rfl ?_
                    exact e_ireti hX hR zcdX8_helpfulPlace_71.1 h
                  · refine s_iload (k := 2) hX zcdX8_helpfulPlace_52.2.2.2.2.2.1 rfl ?_
                    refine s_goto (tgt := 71) hX zcdX8_helpfulPlace_52.2.2.2.2.2.2.1 (by decide) ?_
                    exact e_ireti hX hR zcdX8_helpfulPlace_71.1 h
                refine e_if_eq (tgt := 72) hX zcdX8_helpfulPlace_52.2.2.1 (by decide) z_eq h (fun h => ?_) (fun h => ?_)
                · refine s_iinc (k := 5) (v := (y5_40 + (nI 1))) (lv' := [(0, .ref (ad 23)), (1, .ref (ad b)), (2, .int v2), (3, .int v3), (4, .int y4_30), (5, .int (y5_40 + (nI 1)))]) hX zcdX8_helpfulPlace_71.2.1 (congrArg (fun z => y5_40 + z) (by decide)) (by decide) rfl rfl ?_
                  refine s_goto (tgt := 40) hX zcdX8_helpfulPlace_71.2.2.1 (by decide) ?_
                  exact ih40 (y5_40 + (nI 1)) h
                · refine s_loc [3, 4, 5] rfl ?_
                  exact j60 h
          exact lp40 FU (nI 0) h
    exact lp30 FU (nI 1) h
  · refine s_bipush (v := (-3)) hX zcdX8_wouldJoin_136.2.2.2.2.2.2.2 (by decide) ?_
    exact e_ireti hX hR zcdX8_helpfulPlace_11.1 h
