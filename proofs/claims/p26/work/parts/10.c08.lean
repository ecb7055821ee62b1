theorem zcdX9_firstNight_0 : decode cX9_firstNight 0 = .ok (.aload_n 0, 1) ∧ decode cX9_firstNight 1 = .ok (.iload_n 1, 1) ∧ decode cX9_firstNight 2 = .ok (.invokevirtual 175, 3) ∧ decode cX9_firstNight 5 = .ok (.istore_n 2, 1) ∧ decode cX9_firstNight 6 = .ok (.iload_n 2, 1) ∧ decode cX9_firstNight 7 = .ok (.ifCond .ne 5, 3) ∧ decode cX9_firstNight 10 = .ok (.iconst (-1), 1) ∧ decode cX9_firstNight 11 = .ok (.ireturn, 1) := by decide +kernel
theorem zcdX9_firstNight_12 : decode cX9_firstNight 12 = .ok (.aload_n 0, 1) ∧ decode cX9_firstNight 13 = .ok (.getfield 19, 3) ∧ decode cX9_firstNight 16 = .ok (.aload_n 0, 1) ∧ decode cX9_firstNight 17 = .ok (.getfield 10, 3) ∧ decode cX9_firstNight 20 = .ok (.invokevirtual 149, 3) ∧ decode cX9_firstNight 23 = .ok (.iconst 0, 1) ∧ decode cX9_firstNight 24 = .ok (.istore_n 3, 1) ∧ decode cX9_firstNight 25 = .ok (.iload_n 3, 1) := by decide +kernel
theorem zcdX9_firstNight_26 : decode cX9_firstNight 26 = .ok (.bipush 60, 2) ∧ decode cX9_firstNight 28 = .ok (.if_icmp .gt 42, 3) ∧ decode cX9_firstNight 31 = .ok (.aload_n 0, 1) ∧ decode cX9_firstNight 32 = .ok (.getfield 39, 3) ∧ decode cX9_firstNight 35 = .ok (.aload_n 0, 1) ∧ decode cX9_firstNight 36 = .ok (.getfield 19, 3) ∧ decode cX9_firstNight 39 = .ok (.iload_n 2, 1) ∧ decode cX9_firstNight 40 = .ok (.invokevirtual 188, 3) := by decide +kernel
theorem zcdX9_firstNight_43 : decode cX9_firstNight 43 = .ok (.ifCond .eq 5, 3) ∧ decode cX9_firstNight 46 = .ok (.iload_n 3, 1) ∧ decode cX9_firstNight 47 = .ok (.ireturn, 1) ∧ decode cX9_firstNight 48 = .ok (.aload_n 0, 1) ∧ decode cX9_firstNight 49 = .ok (.getfield 32, 3) ∧ decode cX9_firstNight 52 = .ok (.aload_n 0, 1) ∧ decode cX9_firstNight 53 = .ok (.getfield 19, 3) ∧ decode cX9_firstNight 56 = .ok (.aload_n 0, 1) := by decide +kernel
theorem zcdX9_firstNight_57 : decode cX9_firstNight 57 = .ok (.getfield 71, 3) ∧ decode cX9_firstNight 60 = .ok (.iconst 1, 1) ∧ decode cX9_firstNight 61 = .ok (.invokevirtual 141, 3) ∧ decode cX9_firstNight 64 = .ok (.iinc 3 1, 3) ∧ decode cX9_firstNight 67 = .ok (.goto (-42), 3) ∧ decode cX9_firstNight 70 = .ok (.bipush (-2), 2) ∧ decode cX9_firstNight 72 = .ok (.ireturn, 1) ∧ decode cX9_hold 0 = .ok (.aload_n 0, 1) := by decide +kernel
theorem zcdX9_hold_1 : decode cX9_hold 1 = .ok (.iload_n 1, 1) ∧ decode cX9_hold 2 = .ok (.invokevirtual 175, 3) ∧ decode cX9_hold 5 = .ok (.istore_n 2, 1) ∧ decode cX9_hold 6 = .ok (.iload_n 2, 1) ∧ decode cX9_hold 7 = .ok (.ifCond .ne 5, 3) ∧ decode cX9_hold 10 = .ok (.iconst (-1), 1) ∧ decode cX9_hold 11 = .ok (.ireturn, 1) ∧ decode cX9_hold 12 = .ok (.iload_n 2, 1) := by decide +kernel
theorem zcdX9_hold_13 : decode cX9_hold 13 = .ok (.bipush 21, 2) ∧ decode cX9_hold 15 = .ok (.if_icmp .lt 8, 3) ∧ decode cX9_hold 18 = .ok (.bipush (-2), 2) ∧ decode cX9_hold 20 = .ok (.goto 15, 3) ∧ decode cX9_hold 23 = .ok (.aload_n 0, 1) ∧ decode cX9_hold 24 = .ok (.getfield 46, 3) ∧ decode cX9_hold 27 = .ok (.aload_n 0, 1) ∧ decode cX9_hold 28 = .ok (.getfield 10, 3) := by decide +kernel
theorem zcdX9_hold_31 : decode cX9_hold 31 = .ok (.iload_n 2, 1) ∧ decode cX9_hold 32 = .ok (.invokevirtual 196, 3) ∧ decode cX9_hold 35 = .ok (.ireturn, 1) ∧ decode cX9_howFar 0 = .ok (.aload_n 0, 1) ∧ decode cX9_howFar 1 = .ok (.iload_n 1, 1) ∧ decode cX9_howFar 2 = .ok (.invokevirtual 175, 3) ∧ decode cX9_howFar 5 = .ok (.istore_n 2, 1) ∧ decode cX9_howFar 6 = .ok (.iload_n 2, 1) := by decide +kernel
theorem zcdX9_howFar_7 : decode cX9_howFar 7 = .ok (.ifCond .ne 7, 3) ∧ decode cX9_howFar 10 = .ok (.iconst (-1), 1) ∧ decode cX9_howFar 11 = .ok (.goto 15, 3) ∧ decode cX9_howFar 14 = .ok (.aload_n 0, 1) ∧ decode cX9_howFar 15 = .ok (.getfield 39, 3) ∧ decode cX9_howFar 18 = .ok (.aload_n 0, 1) ∧ decode cX9_howFar 19 = .ok (.getfield 10, 3) ∧ decode cX9_howFar 22 = .ok (.iload_n 2, 1) := by decide +kernel
theorem zcdX9_howFar_23 : decode cX9_howFar 23 = .ok (.invokevirtual 192, 3) ∧ decode cX9_howFar 26 = .ok (.ireturn, 1) ∧ decode cX9_isNights 0 = .ok (.iload_n 0, 1) ∧ decode cX9_isNights 1 = .ok (.iconst 1, 1) ∧ decode cX9_isNights 2 = .ok (.if_icmp .lt 13, 3) ∧ decode cX9_isNights 5 = .ok (.iload_n 0, 1) ∧ decode cX9_isNights 6 = .ok (.bipush 60, 2) ∧ decode cX9_isNights 8 = .ok (.if_icmp .gt 7, 3) := by decide +kernel
theorem zcdX9_isNights_11 : decode cX9_isNights 11 = .ok (.iconst 1, 1) ∧ decode cX9_isNights 12 = .ok (.goto 4, 3) ∧ decode cX9_isNights 15 = .ok (.iconst 0, 1) ∧ decode cX9_isNights 16 = .ok (.ireturn, 1) ∧ decode cX9_isStride 0 = .ok (.iload_n 0, 1) ∧ decode cX9_isStride 1 = .ok (.iconst 1, 1) ∧ decode cX9_isStride 2 = .ok (.if_icmp .lt 13, 3) ∧ decode cX9_isStride 5 = .ok (.iload_n 0, 1) := by decide +kernel
theorem zcdX9_isStride_6 : decode cX9_isStride 6 = .ok (.bipush 30, 2) ∧ decode cX9_isStride 8 = .ok (.if_icmp .gt 7, 3) ∧ decode cX9_isStride 11 = .ok (.iconst 1, 1) ∧ decode cX9_isStride 12 = .ok (.goto 4, 3) ∧ decode cX9_isStride 15 = .ok (.iconst 0, 1) ∧ decode cX9_isStride 16 = .ok (.ireturn, 1) ∧ decode cX9_islands 0 = .ok (.iload_n 1, 1) ∧ decode cX9_islands 1 = .ok (.invokestatic 108, 3) := by decide +kernel
theorem zcdX9_islands_4 : decode cX9_islands 4 = .ok (.ifCond .ne 5, 3) ∧ decode cX9_islands 7 = .ok (.iconst (-1), 1) ∧ decode cX9_islands 8 = .ok (.ireturn, 1) ∧ decode cX9_islands 9 = .ok (.iload_n 2, 1) ∧ decode cX9_islands 10 = .ok (.bipush 100, 2) ∧ decode cX9_islands 12 = .ok (.if_icmp .ne 16, 3) ∧ decode cX9_islands 15 = .ok (.aload_n 0, 1) ∧ decode cX9_islands 16 = .ok (.getfield 39, 3) := by decide +kernel
theorem zcdX9_islands_19 : decode cX9_islands 19 = .ok (.aload_n 0, 1) ∧ decode cX9_islands 20 = .ok (.getfield 10, 3) ∧ decode cX9_islands 23 = .ok (.iload_n 1, 1) ∧ decode cX9_islands 24 = .ok (.invokevirtual 202, 3) ∧ decode cX9_islands 27 = .ok (.ireturn, 1) ∧ decode cX9_islands 28 = .ok (.aload_n 0, 1) ∧ decode cX9_islands 29 = .ok (.getfield 10, 3) ∧ decode cX9_islands 32 = .ok (.iload_n 2, 1) := by decide +kernel
theorem zcdX9_islands_33 : decode cX9_islands 33 = .ok (.invokevirtual 98, 3) ∧ decode cX9_islands 36 = .ok (.ifCond .eq 19, 3) ∧ decode cX9_islands 39 = .ok (.aload_n 0, 1) ∧ decode cX9_islands 40 = .ok (.getfield 39, 3) ∧ decode cX9_islands 43 = .ok (.aload_n 0, 1) ∧ decode cX9_islands 44 = .ok (.getfield 10, 3) ∧ decode cX9_islands 47 = .ok (.iload_n 1, 1) ∧ decode cX9_islands 48 = .ok (.iload_n 2, 1) := by decide +kernel
theorem zcdX9_islands_49 : decode cX9_islands 49 = .ok (.invokevirtual 205, 3) ∧ decode cX9_islands 52 = .ok (.goto 4, 3) ∧ decode cX9_islands 55 = .ok (.iconst (-1), 1) ∧ decode cX9_islands 56 = .ok (.ireturn, 1) ∧ decode cX9_keep 0 = .ok (.aload_n 0, 1) ∧ decode cX9_keep 1 = .ok (.getfield 16, 3) ∧ decode cX9_keep 4 = .ok (.aload_n 0, 1) ∧ decode cX9_keep 5 = .ok (.getfield 10, 3) := by decide +kernel
theorem zcdX9_keep_8 : decode cX9_keep 8 = .ok (.invokevirtual 149, 3) ∧ decode cX9_keep 11 = .ok (.aload_n 0, 1) ∧ decode cX9_keep 12 = .ok (.iconst 1, 1) ∧ decode cX9_keep 13 = .ok (.putfield 78, 3) ∧ decode cX9_keep 16 = .ok (.aload_n 0, 1) ∧ decode cX9_keep 17 = .ok (.getfield 10, 3) ∧ decode cX9_keep 20 = .ok (.getfield 285, 3) ∧ decode cX9_keep 23 = .ok (.ireturn, 1) := by decide +kernel
theorem zcdX9_key_0 : decode cX9_key 0 = .ok (.aload_n 0, 1) ∧ decode cX9_key 1 = .ok (.iload_n 1, 1) ∧ decode cX9_key 2 = .ok (.invokevirtual 175, 3) ∧ decode cX9_key 5 = .ok (.istore_n 3, 1) ∧ decode cX9_key 6 = .ok (.iload_n 3, 1) ∧ decode cX9_key 7 = .ok (.ifCond .eq 10, 3) ∧ decode cX9_key 10 = .ok (.iload_n 2, 1) ∧ decode cX9_key 11 = .ok (.invokestatic 182, 3) := by decide +kernel
theorem zcdX9_key_14 : decode cX9_key 14 = .ok (.ifCond .ne 5, 3) ∧ decode cX9_key 17 = .ok (.iconst (-1), 1) ∧ decode cX9_key 18 = .ok (.ireturn, 1) ∧ decode cX9_key 19 = .ok (.aload_n 0, 1) ∧ decode cX9_key 20 = .ok (.getfield 39, 3) ∧ decode cX9_key 23 = .ok (.aload_n 0, 1) ∧ decode cX9_key 24 = .ok (.getfield 10, 3) ∧ decode cX9_key 27 = .ok (.iload_n 3, 1) := by decide +kernel
theorem zcdX9_key_28 : decode cX9_key 28 = .ok (.invokevirtual 188, 3) ∧ decode cX9_key 31 = .ok (.ifCond .ne 6, 3) ∧ decode cX9_key 34 = .ok (.bipush (-3), 2) ∧ decode cX9_key 36 = .ok (.ireturn, 1) ∧ decode cX9_key 37 = .ok (.aload_n 0, 1) ∧ decode cX9_key 38 = .ok (.getfield 19, 3) ∧ decode cX9_key 41 = .ok (.aload_n 0, 1) ∧ decode cX9_key 42 = .ok (.getfield 10, 3) := by decide +kernel
theorem zcdX9_key_45 : decode cX9_key 45 = .ok (.invokevirtual 149, 3) ∧ decode cX9_key 48 = .ok (.iconst 0, 1) ∧ decode cX9_key 49 = .ok (.istore 4, 2) ∧ decode cX9_key 51 = .ok (.bipush (-2), 2) ∧ decode cX9_key 53 = .ok (.istore 5, 2) ∧ decode cX9_key 55 = .ok (.bipush 39, 2) ∧ decode cX9_key 57 = .ok (.istore 6, 2) ∧ decode cX9_key 59 = .ok (.iload 6, 2) := by decide +kernel
theorem zcdX9_key_61 : decode cX9_key 61 = .ok (.ifCond .lt 33, 3) ∧ decode cX9_key 64 = .ok (.aload_n 0, 1) ∧ decode cX9_key 65 = .ok (.getfield 39, 3) ∧ decode cX9_key 68 = .ok (.aload_n 0, 1) ∧ decode cX9_key 69 = .ok (.getfield 19, 3) ∧ decode cX9_key 72 = .ok (.iload_n 3, 1) ∧ decode cX9_key 73 = .ok (.iload 6, 2) ∧ decode cX9_key 75 = .ok (.invokevirtual 208, 3) := by decide +kernel
theorem zcdX9_key_78 : decode cX9_key 78 = .ok (.ifCond .eq 10, 3) ∧ decode cX9_key 81 = .ok (.iinc 4 1, 3) ∧ decode cX9_key 84 = .ok (.iload 6, 2) ∧ decode cX9_key 86 = .ok (.istore 5, 2) ∧ decode cX9_key 88 = .ok (.iinc 6 (-1), 3) ∧ decode cX9_key 91 = .ok (.goto (-32), 3) ∧ decode cX9_key 94 = .ok (.iload_n 2, 1) ∧ decode cX9_key 95 = .ok (.ifCond .ne 8, 3) := by decide +kernel
theorem zcdX9_key_98 : decode cX9_key 98 = .ok (.iload 4, 2) ∧ decode cX9_key 100 = .ok (.goto 5, 3) ∧ decode cX9_key 103 = .ok (.iload 5, 2) ∧ decode cX9_key 105 = .ok (.ireturn, 1) ∧ decode cX9_law 0 = .ok (.aload_n 0, 1) ∧ decode cX9_law 1 = .ok (.getfield 25, 3) ∧ decode cX9_law 4 = .ok (.iload_n 1, 1) ∧ decode cX9_law 5 = .ok (.iconst 1, 1) := by decide +kernel
theorem zcdX9_law_6 : decode cX9_law 6 = .ok (.sipush 240, 3) ∧ decode cX9_law 9 = .ok (.invokevirtual 119, 3) ∧ decode cX9_law 12 = .ok (.ifCond .ne 5, 3) ∧ decode cX9_law 15 = .ok (.iconst (-1), 1) ∧ decode cX9_law 16 = .ok (.ireturn, 1) ∧ decode cX9_law 17 = .ok (.aload_n 0, 1) ∧ decode cX9_law 18 = .ok (.getfield 25, 3) ∧ decode cX9_law 21 = .ok (.iload_n 1, 1) := by decide +kernel
theorem zcdX9_law_22 : decode cX9_law 22 = .ok (.invokevirtual 123, 3) ∧ decode cX9_law 25 = .ok (.aload_n 0, 1) ∧ decode cX9_law 26 = .ok (.getfield 75, 3) ∧ decode cX9_law 29 = .ok (.aload_n 0, 1) ∧ decode cX9_law 30 = .ok (.getfield 25, 3) ∧ decode cX9_law 33 = .ok (.invokevirtual 126, 3) ∧ decode cX9_law 36 = .ok (.istore_n 2, 1) ∧ decode cX9_law 37 = .ok (.iload_n 2, 1) := by decide +kernel
theorem zcdX9_law_38 : decode cX9_law 38 = .ok (.ifCond .le 21, 3) ∧ decode cX9_law 41 = .ok (.aload_n 0, 1) ∧ decode cX9_law 42 = .ok (.getfield 71, 3) ∧ decode cX9_law 45 = .ok (.astore_n 3, 1) ∧ decode cX9_law 46 = .ok (.aload_n 0, 1) ∧ decode cX9_law 47 = .ok (.aload_n 0, 1) ∧ decode cX9_law 48 = .ok (.getfield 75, 3) ∧ decode cX9_law 51 = .ok (.putfield 71, 3) := by decide +kernel
theorem zcdX9_law_54 : decode cX9_law 54 = .ok (.aload_n 0, 1) ∧ decode cX9_law 55 = .ok (.aload_n 3, 1) ∧ decode cX9_law 56 = .ok (.putfield 75, 3) ∧ decode cX9_law 59 = .ok (.iload_n 2, 1) ∧ decode cX9_law 60 = .ok (.ireturn, 1) ∧ decode cX9_leastStride 0 = .ok (.iconst 1, 1) ∧ decode cX9_leastStride 1 = .ok (.istore_n 1, 1) ∧ decode cX9_leastStride 2 = .ok (.iload_n 1, 1) := by decide +kernel
theorem zcdX9_leastStride_3 : decode cX9_leastStride 3 = .ok (.bipush 30, 2) ∧ decode cX9_leastStride 5 = .ok (.if_icmp .gt 26, 3) ∧ decode cX9_leastStride 8 = .ok (.aload_n 0, 1) ∧ decode cX9_leastStride 9 = .ok (.getfield 39, 3) ∧ decode cX9_leastStride 12 = .ok (.aload_n 0, 1) ∧ decode cX9_leastStride 13 = .ok (.getfield 10, 3) ∧ decode cX9_leastStride 16 = .ok (.iload_n 1, 1) ∧ decode cX9_leastStride 17 = .ok (.invokevirtual 188, 3) := by decide +kernel
theorem zcdX9_leastStride_20 : decode cX9_leastStride 20 = .ok (.ifCond .eq 5, 3) ∧ decode cX9_leastStride 23 = .ok (.iload_n 1, 1) ∧ decode cX9_leastStride 24 = .ok (.ireturn, 1) ∧ decode cX9_leastStride 25 = .ok (.iinc 1 1, 3) ∧ decode cX9_leastStride 28 = .ok (.goto (-26), 3) ∧ decode cX9_leastStride 31 = .ok (.bipush (-2), 2) ∧ decode cX9_leastStride 33 = .ok (.ireturn, 1) ∧ decode cX9_letters 0 = .ok (.iload_n 2, 1) := by decide +kernel
theorem zcdX9_letters_1 : decode cX9_letters 1 = .ok (.invokestatic 182, 3) ∧ decode cX9_letters 4 = .ok (.ifCond .eq 17, 3) ∧ decode cX9_letters 7 = .ok (.aload_n 0, 1) ∧ decode cX9_letters 8 = .ok (.getfield 25, 3) ∧ decode cX9_letters 11 = .ok (.iload_n 1, 1) ∧ decode cX9_letters 12 = .ok (.iconst 1, 1) ∧ decode cX9_letters 13 = .ok (.bipush 8, 2) ∧ decode cX9_letters 15 = .ok (.invokevirtual 119, 3) := by decide +kernel
theorem zcdX9_letters_18 : decode cX9_letters 18 = .ok (.ifCond .ne 5, 3) ∧ decode cX9_letters 21 = .ok (.iconst (-1), 1) ∧ decode cX9_letters 22 = .ok (.ireturn, 1) ∧ decode cX9_letters 23 = .ok (.aload_n 0, 1) ∧ decode cX9_letters 24 = .ok (.getfield 25, 3) ∧ decode cX9_letters 27 = .ok (.iload_n 1, 1) ∧ decode cX9_letters 28 = .ok (.invokevirtual 123, 3) ∧ decode cX9_letters 31 = .ok (.iconst 0, 1) := by decide +kernel
theorem zcdX9_letters_32 : decode cX9_letters 32 = .ok (.istore_n 3, 1) ∧ decode cX9_letters 33 = .ok (.iload_n 3, 1) ∧ decode cX9_letters 34 = .ok (.iload_n 1, 1) ∧ decode cX9_letters 35 = .ok (.if_icmp .ge 23, 3) ∧ decode cX9_letters 38 = .ok (.aload_n 0, 1) ∧ decode cX9_letters 39 = .ok (.getfield 25, 3) ∧ decode cX9_letters 42 = .ok (.iload_n 3, 1) ∧ decode cX9_letters 43 = .ok (.invokevirtual 265, 3) := by decide +kernel
theorem zcdX9_letters_46 : decode cX9_letters 46 = .ok (.ifCond .ne 6, 3) ∧ decode cX9_letters 49 = .ok (.bipush (-2), 2) ∧ decode cX9_letters 51 = .ok (.ireturn, 1) ∧ decode cX9_letters 52 = .ok (.iinc 3 1, 3) ∧ decode cX9_letters 55 = .ok (.goto (-22), 3) ∧ decode cX9_letters 58 = .ok (.aload_n 0, 1) ∧ decode cX9_letters 59 = .ok (.iload_n 1, 1) ∧ decode cX9_letters 60 = .ok (.invokevirtual 268, 3) := by decide +kernel
theorem zcdX9_letters_63 : decode cX9_letters 63 = .ok (.istore_n 3, 1) ∧ decode cX9_letters 64 = .ok (.iload_n 2, 1) ∧ decode cX9_letters 65 = .ok (.ifCond .ne 12, 3) ∧ decode cX9_letters 68 = .ok (.aload_n 0, 1) ∧ decode cX9_letters 69 = .ok (.iload_n 3, 1) ∧ decode cX9_letters 70 = .ok (.iload_n 1, 1) ∧ decode cX9_letters 71 = .ok (.invokevirtual 271, 3) ∧ decode cX9_letters 74 = .ok (.goto 4, 3) := by decide +kernel
theorem zcdX9_letters_77 : decode cX9_letters 77 = .ok (.iload_n 3, 1) ∧ decode cX9_letters 78 = .ok (.ireturn, 1) ∧ decode cX9_market 0 = .ok (.iconst 0, 1) ∧ decode cX9_market 1 = .ok (.istore_n 1, 1) ∧ decode cX9_market 2 = .ok (.iconst 0, 1) ∧ decode cX9_market 3 = .ok (.istore_n 2, 1) ∧ decode cX9_market 4 = .ok (.iload_n 2, 1) ∧ decode cX9_market 5 = .ok (.bipush 8, 2) := by decide +kernel
theorem zcdX9_market_7 : decode cX9_market 7 = .ok (.if_icmp .ge 44, 3) ∧ decode cX9_market 10 = .ok (.aload_n 0, 1) ∧ decode cX9_market 11 = .ok (.getfield 64, 3) ∧ decode cX9_market 14 = .ok (.iload_n 2, 1) ∧ decode cX9_market 15 = .ok (.iaload, 1) ∧ decode cX9_market 16 = .ok (.ifCond .eq 29, 3) ∧ decode cX9_market 19 = .ok (.aload_n 0, 1) ∧ decode cX9_market 20 = .ok (.getfield 39, 3) := by decide +kernel
theorem zcdX9_market_23 : decode cX9_market 23 = .ok (.aload_n 0, 1) ∧ decode cX9_market 24 = .ok (.getfield 10, 3) ∧ decode cX9_market 27 = .ok (.aload_n 0, 1) ∧ decode cX9_market 28 = .ok (.getfield 64, 3) ∧ decode cX9_market 31 = .ok (.iload_n 2, 1) ∧ decode cX9_market 32 = .ok (.iaload, 1) ∧ decode cX9_market 33 = .ok (.invokevirtual 188, 3) ∧ decode cX9_market 36 = .ok (.ifCond .eq 9, 3) := by decide +kernel
theorem zcdX9_market_39 : decode cX9_market 39 = .ok (.iload_n 1, 1) ∧ decode cX9_market 40 = .ok (.iconst 1, 1) ∧ decode cX9_market 41 = .ok (.iload_n 2, 1) ∧ decode cX9_market 42 = .ok (.ishl, 1) ∧ decode cX9_market 43 = .ok (.ior, 1) ∧ decode cX9_market 44 = .ok (.istore_n 1, 1) ∧ decode cX9_market 45 = .ok (.iinc 2 1, 3) ∧ decode cX9_market 48 = .ok (.goto (-44), 3) := by decide +kernel
theorem zcdX9_market_51 : decode cX9_market 51 = .ok (.iload_n 1, 1) ∧ decode cX9_market 52 = .ok (.ireturn, 1) ∧ decode cX9_meet 0 = .ok (.aload_n 0, 1) ∧ decode cX9_meet 1 = .ok (.iload_n 1, 1) ∧ decode cX9_meet 2 = .ok (.invokevirtual 175, 3) ∧ decode cX9_meet 5 = .ok (.istore 4, 2) ∧ decode cX9_meet 7 = .ok (.aload_n 0, 1) ∧ decode cX9_meet 8 = .ok (.iload_n 2, 1) := by decide +kernel
theorem zcdX9_meet_9 : decode cX9_meet 9 = .ok (.invokevirtual 175, 3) ∧ decode cX9_meet 12 = .ok (.istore 5, 2) ∧ decode cX9_meet 14 = .ok (.iload 4, 2) ∧ decode cX9_meet 16 = .ok (.ifCond .eq 15, 3) ∧ decode cX9_meet 19 = .ok (.iload 5, 2) ∧ decode cX9_meet 21 = .ok (.ifCond .eq 10, 3) ∧ decode cX9_meet 24 = .ok (.iload_n 3, 1) ∧ decode cX9_meet 25 = .ok (.invokestatic 182, 3) := by decide +kernel
theorem zcdX9_meet_28 : decode cX9_meet 28 = .ok (.ifCond .ne 5, 3) ∧ decode cX9_meet 31 = .ok (.iconst (-1), 1) ∧ decode cX9_meet 32 = .ok (.ireturn, 1) ∧ decode cX9_meet 33 = .ok (.aload_n 0, 1) ∧ decode cX9_meet 34 = .ok (.getfield 39, 3) ∧ decode cX9_meet 37 = .ok (.aload_n 0, 1) ∧ decode cX9_meet 38 = .ok (.getfield 10, 3) ∧ decode cX9_meet 41 = .ok (.iload 4, 2) := by decide +kernel
theorem zcdX9_meet_43 : decode cX9_meet 43 = .ok (.iload 5, 2) ∧ decode cX9_meet 45 = .ok (.iload_n 3, 1) ∧ decode cX9_meet 46 = .ok (.invokevirtual 212, 3) ∧ decode cX9_meet 49 = .ok (.ireturn, 1) ∧ decode cX9_nights 0 = .ok (.iload_n 1, 1) ∧ decode cX9_nights 1 = .ok (.invokestatic 138, 3) ∧ decode cX9_nights 4 = .ok (.ifCond .ne 5, 3) ∧ decode cX9_nights 7 = .ok (.iconst (-1), 1) := by decide +kernel
theorem zcdX9_nights_8 : decode cX9_nights 8 = .ok (.ireturn, 1) ∧ decode cX9_nights 9 = .ok (.aload_n 0, 1) ∧ decode cX9_nights 10 = .ok (.getfield 32, 3) ∧ decode cX9_nights 13 = .ok (.aload_n 0, 1) ∧ decode cX9_nights 14 = .ok (.getfield 10, 3) ∧ decode cX9_nights 17 = .ok (.aload_n 0, 1) ∧ decode cX9_nights 18 = .ok (.getfield 71, 3) ∧ decode cX9_nights 21 = .ok (.iload_n 1, 1) := by decide +kernel
theorem zcdX9_nights_22 : decode cX9_nights 22 = .ok (.invokevirtual 141, 3) ∧ decode cX9_nights 25 = .ok (.aload_n 0, 1) ∧ decode cX9_nights 26 = .ok (.getfield 32, 3) ∧ decode cX9_nights 29 = .ok (.getfield 145, 3) ∧ decode cX9_nights 32 = .ok (.ireturn, 1) ∧ decode cX9_readLine 0 = .ok (.aload_n 0, 1) ∧ decode cX9_readLine 1 = .ok (.getfield 310, 3) ∧ decode cX9_readLine 4 = .ok (.istore_n 3, 1) := by decide +kernel
theorem zcdX9_readLine_5 : decode cX9_readLine 5 = .ok (.aload_n 0, 1) ∧ decode cX9_readLine 6 = .ok (.iconst 2, 1) ∧ decode cX9_readLine 7 = .ok (.invokevirtual 316, 3) ∧ decode cX9_readLine 10 = .ok (.istore 4, 2) ∧ decode cX9_readLine 12 = .ok (.iload 4, 2) ∧ decode cX9_readLine 14 = .ok (.iconst (-1), 1) ∧ decode cX9_readLine 15 = .ok (.if_icmp .ne 5, 3) ∧ decode cX9_readLine 18 = .ok (.iconst 0, 1) := by decide +kernel
theorem zcdX9_readLine_19 : decode cX9_readLine 19 = .ok (.ireturn, 1) ∧ decode cX9_readLine 20 = .ok (.iload 4, 2) ∧ decode cX9_readLine 22 = .ok (.bipush 39, 2) ∧ decode cX9_readLine 24 = .ok (.if_icmp .le 10, 3) ∧ decode cX9_readLine 27 = .ok (.aload_n 0, 1) ∧ decode cX9_readLine 28 = .ok (.iconst 3, 1) ∧ decode cX9_readLine 29 = .ok (.iload_n 3, 1) ∧ decode cX9_readLine 30 = .ok (.invokevirtual 313, 3) := by decide +kernel
theorem zcdX9_readLine_33 : decode cX9_readLine 33 = .ok (.ireturn, 1) ∧ decode cX9_readLine 34 = .ok (.aload_n 0, 1) ∧ decode cX9_readLine 35 = .ok (.bipush 44, 2) ∧ decode cX9_readLine 37 = .ok (.invokevirtual 304, 3) ∧ decode cX9_readLine 40 = .ok (.ifCond .ne 5, 3) ∧ decode cX9_readLine 43 = .ok (.iconst 0, 1) ∧ decode cX9_readLine 44 = .ok (.ireturn, 1) ∧ decode cX9_readLine 45 = .ok (.aload_n 0, 1) := by decide +kernel
theorem zcdX9_readLine_46 : decode cX9_readLine 46 = .ok (.getfield 310, 3) ∧ decode cX9_readLine 49 = .ok (.istore 5, 2) ∧ decode cX9_readLine 51 = .ok (.aload_n 0, 1) ∧ decode cX9_readLine 52 = .ok (.iconst 2, 1) ∧ decode cX9_readLine 53 = .ok (.invokevirtual 316, 3) ∧ decode cX9_readLine 56 = .ok (.istore 6, 2) ∧ decode cX9_readLine 58 = .ok (.iload 6, 2) ∧ decode cX9_readLine 60 = .ok (.iconst (-1), 1) := by decide +kernel
theorem zcdX9_readLine_61 : decode cX9_readLine 61 = .ok (.if_icmp .ne 5, 3) ∧ decode cX9_readLine 64 = .ok (.iconst 0, 1) ∧ decode cX9_readLine 65 = .ok (.ireturn, 1) ∧ decode cX9_readLine 66 = .ok (.iload 6, 2) ∧ decode cX9_readLine 68 = .ok (.iconst 1, 1) ∧ decode cX9_readLine 69 = .ok (.if_icmp .lt 10, 3) ∧ decode cX9_readLine 72 = .ok (.iload 6, 2) ∧ decode cX9_readLine 74 = .ok (.bipush 20, 2) := by decide +kernel
theorem zcdX9_readLine_76 : decode cX9_readLine 76 = .ok (.if_icmp .le 11, 3) ∧ decode cX9_readLine 79 = .ok (.aload_n 0, 1) ∧ decode cX9_readLine 80 = .ok (.iconst 3, 1) ∧ decode cX9_readLine 81 = .ok (.iload 5, 2) ∧ decode cX9_readLine 83 = .ok (.invokevirtual 313, 3) ∧ decode cX9_readLine 86 = .ok (.ireturn, 1) ∧ decode cX9_readLine 87 = .ok (.aload_n 1, 1) ∧ decode cX9_readLine 88 = .ok (.iload 4, 2) := by decide +kernel
theorem zcdX9_readLine_90 : decode cX9_readLine 90 = .ok (.iload 6, 2) ∧ decode cX9_readLine 92 = .ok (.invokevirtual 90, 3) ∧ decode cX9_readLine 95 = .ok (.iconst (-1), 1) ∧ decode cX9_readLine 96 = .ok (.if_icmp .eq 11, 3) ∧ decode cX9_readLine 99 = .ok (.aload_n 0, 1) ∧ decode cX9_readLine 100 = .ok (.bipush 6, 2) ∧ decode cX9_readLine 102 = .ok (.iload_n 3, 1) ∧ decode cX9_readLine 103 = .ok (.invokevirtual 313, 3) := by decide +kernel
theorem zcdX9_readLine_106 : decode cX9_readLine 106 = .ok (.ireturn, 1) ∧ decode cX9_readLine 107 = .ok (.iconst 0, 1) ∧ decode cX9_readLine 108 = .ok (.istore 7, 2) ∧ decode cX9_readLine 110 = .ok (.aload_n 0, 1) ∧ decode cX9_readLine 111 = .ok (.invokevirtual 301, 3) ∧ decode cX9_readLine 114 = .ok (.bipush 115, 2) ∧ decode cX9_readLine 116 = .ok (.if_icmp .ne 52, 3) ∧ decode cX9_readLine 119 = .ok (.aload_n 0, 1) := by decide +kernel
theorem zcdX9_readLine_120 : decode cX9_readLine 120 = .ok (.dup, 1) ∧ decode cX9_readLine 121 = .ok (.getfield 310, 3) ∧ decode cX9_readLine 124 = .ok (.iconst 1, 1) ∧ decode cX9_readLine 125 = .ok (.iadd, 1) ∧ decode cX9_readLine 126 = .ok (.putfield 310, 3) ∧ decode cX9_readLine 129 = .ok (.aload_n 0, 1) ∧ decode cX9_readLine 130 = .ok (.invokevirtual 301, 3) ∧ decode cX9_readLine 133 = .ok (.invokestatic 307, 3) := by decide +kernel
theorem zcdX9_readLine_136 : decode cX9_readLine 136 = .ok (.ifCond .ne 13, 3) ∧ decode cX9_readLine 139 = .ok (.aload_n 0, 1) ∧ decode cX9_readLine 140 = .ok (.iconst 1, 1) ∧ decode cX9_readLine 141 = .ok (.aload_n 0, 1) ∧ decode cX9_readLine 142 = .ok (.getfield 310, 3) ∧ decode cX9_readLine 145 = .ok (.invokevirtual 313, 3) ∧ decode cX9_readLine 148 = .ok (.ireturn, 1) ∧ decode cX9_readLine 149 = .ok (.aload_n 0, 1) := by decide +kernel
theorem zcdX9_readLine_150 : decode cX9_readLine 150 = .ok (.invokevirtual 301, 3) ∧ decode cX9_readLine 153 = .ok (.bipush 48, 2) ∧ decode cX9_readLine 155 = .ok (.isub, 1) ∧ decode cX9_readLine 156 = .ok (.istore 7, 2) ∧ decode cX9_readLine 158 = .ok (.aload_n 0, 1) ∧ decode cX9_readLine 159 = .ok (.dup, 1) ∧ decode cX9_readLine 160 = .ok (.getfield 310, 3) ∧ decode cX9_readLine 163 = .ok (.iconst 1, 1) := by decide +kernel
theorem zcdX9_readLine_164 : decode cX9_readLine 164 = .ok (.iadd, 1) ∧ decode cX9_readLine 165 = .ok (.putfield 310, 3) ∧ decode cX9_readLine 168 = .ok (.aload_n 0, 1) ∧ decode cX9_readLine 169 = .ok (.invokevirtual 301, 3) ∧ decode cX9_readLine 172 = .ok (.bipush 117, 2) ∧ decode cX9_readLine 174 = .ok (.if_icmp .ne 7, 3) ∧ decode cX9_readLine 177 = .ok (.iconst 1, 1) ∧ decode cX9_readLine 178 = .ok (.goto 4, 3) := by decide +kernel
theorem zcdX9_readLine_181 : decode cX9_readLine 181 = .ok (.iconst 0, 1) ∧ decode cX9_readLine 182 = .ok (.istore 8, 2) ∧ decode cX9_readLine 184 = .ok (.iload 8, 2) ∧ decode cX9_readLine 186 = .ok (.ifCond .eq 13, 3) ∧ decode cX9_readLine 189 = .ok (.aload_n 0, 1) ∧ decode cX9_readLine 190 = .ok (.dup, 1) ∧ decode cX9_readLine 191 = .ok (.getfield 310, 3) ∧ decode cX9_readLine 194 = .ok (.iconst 1, 1) := by decide +kernel
theorem zcdX9_readLine_195 : decode cX9_readLine 195 = .ok (.iadd, 1) ∧ decode cX9_readLine 196 = .ok (.putfield 310, 3) ∧ decode cX9_readLine 199 = .ok (.aload_n 1, 1) ∧ decode cX9_readLine 200 = .ok (.iload_n 2, 1) ∧ decode cX9_readLine 201 = .ok (.iload 4, 2) ∧ decode cX9_readLine 203 = .ok (.iload 6, 2) ∧ decode cX9_readLine 205 = .ok (.iload 7, 2) ∧ decode cX9_readLine 207 = .ok (.iload 8, 2) := by decide +kernel
theorem zcdX9_readLine_209 : decode cX9_readLine 209 = .ok (.invokevirtual 94, 3) ∧ decode cX9_readLine 212 = .ok (.iconst 1, 1) ∧ decode cX9_readLine 213 = .ok (.ireturn, 1) ∧ decode cX9_readNotebook 0 = .ok (.aload_n 1, 1) ∧ decode cX9_readNotebook 1 = .ok (.invokevirtual 294, 3) ∧ decode cX9_readNotebook 4 = .ok (.iconst 0, 1) ∧ decode cX9_readNotebook 5 = .ok (.istore_n 2, 1) ∧ decode cX9_readNotebook 6 = .ok (.iload_n 2, 1) := by decide +kernel
theorem zcdX9_readNotebook_7 : decode cX9_readNotebook 7 = .ok (.bipush 40, 2) ∧ decode cX9_readNotebook 9 = .ok (.if_icmp .ge 49, 3) ∧ decode cX9_readNotebook 12 = .ok (.aload_n 0, 1) ∧ decode cX9_readNotebook 13 = .ok (.aload_n 1, 1) ∧ decode cX9_readNotebook 14 = .ok (.iload_n 2, 1) ∧ decode cX9_readNotebook 15 = .ok (.invokestatic 297, 3) ∧ decode cX9_readNotebook 18 = .ok (.ifCond .ne 8, 3) ∧ decode cX9_readNotebook 21 = .ok (.aload_n 0, 1) := by decide +kernel
theorem zcdX9_readNotebook_22 : decode cX9_readNotebook 22 = .ok (.getfield 220, 3) ∧ decode cX9_readNotebook 25 = .ok (.ireturn, 1) ∧ decode cX9_readNotebook 26 = .ok (.aload_n 0, 1) ∧ decode cX9_readNotebook 27 = .ok (.invokevirtual 301, 3) ∧ decode cX9_readNotebook 30 = .ok (.iconst (-1), 1) ∧ decode cX9_readNotebook 31 = .ok (.if_icmp .ne 7, 3) ∧ decode cX9_readNotebook 34 = .ok (.iload_n 2, 1) ∧ decode cX9_readNotebook 35 = .ok (.iconst 1, 1) := by decide +kernel
theorem zcdX9_readNotebook_36 : decode cX9_readNotebook 36 = .ok (.iadd, 1) ∧ decode cX9_readNotebook 37 = .ok (.ireturn, 1) ∧ decode cX9_readNotebook 38 = .ok (.aload_n 0, 1) ∧ decode cX9_readNotebook 39 = .ok (.bipush 59, 2) ∧ decode cX9_readNotebook 41 = .ok (.invokevirtual 304, 3) ∧ decode cX9_readNotebook 44 = .ok (.ifCond .ne 8, 3) ∧ decode cX9_readNotebook 47 = .ok (.aload_n 0, 1) ∧ decode cX9_readNotebook 48 = .ok (.getfield 220, 3) := by decide +kernel
theorem zcdX9_readNotebook_51 : decode cX9_readNotebook 51 = .ok (.ireturn, 1) ∧ decode cX9_readNotebook 52 = .ok (.iinc 2 1, 3) ∧ decode cX9_readNotebook 55 = .ok (.goto (-49), 3) ∧ decode cX9_readNotebook 58 = .ok (.aload_n 0, 1) ∧ decode cX9_readNotebook 59 = .ok (.aload_n 0, 1) ∧ decode cX9_readNotebook 60 = .ok (.invokevirtual 301, 3) ∧ decode cX9_readNotebook 63 = .ok (.invokestatic 307, 3) ∧ decode cX9_readNotebook 66 = .ok (.ifCond .eq 7, 3) := by decide +kernel
theorem zcdX9_readNotebook_69 : decode cX9_readNotebook 69 = .ok (.iconst 4, 1) ∧ decode cX9_readNotebook 70 = .ok (.goto 4, 3) ∧ decode cX9_readNotebook 73 = .ok (.iconst 1, 1) ∧ decode cX9_readNotebook 74 = .ok (.aload_n 0, 1) ∧ decode cX9_readNotebook 75 = .ok (.getfield 310, 3) ∧ decode cX9_readNotebook 78 = .ok (.invokevirtual 313, 3) ∧ decode cX9_readNotebook 81 = .ok (.pop, 1) ∧ decode cX9_readNotebook 82 = .ok (.aload_n 0, 1) := by decide +kernel
theorem zcdX9_readNotebook_83 : decode cX9_readNotebook 83 = .ok (.getfield 220, 3) ∧ decode cX9_readNotebook 86 = .ok (.ireturn, 1) := by decide +kernel
theorem tg_throws (b : Nat) (hb : isF b) : ∀ (n : Nat) (v1 : Int32) (v2 : Int64) (v4 v5 : Int32) (M : Mem), AXp yX9_fewestThrows cX9_fewestThrows 9 (some .int) (2 * n) 60 glC (fun ad => [.ref (ad b), .int v1, .long v2, .int v4, .int v5]) M (g_throws b n M v1 v2 v4 v5)
  | 0 => fun _ _ _ _ _ r0 h => nomatch h
  | n + 1 => fun v1 v2 v4 v5 M => by
    have e : 2 * (n + 1) = 2 * n + 2 := by omega
    rw [e]
    exact t_X9_fewestThrows b hb (2 * n) _ (tg_throws b hb n) v1 v2 v4 v5 M
set_option maxHeartbeats 4000000 in
theorem t_X9_firstNight (v1 : Int32) (M : Mem) : AXi yX9_firstNight cX9_firstNight 4 (some .int) 6 60 glC (fun ad => [.ref (ad 0), .int v1]) M (f_X9_firstNight M v1) := by
  intro r0 h
  refine AM.of (by decide) (fun _ => Nat.le_of_ble_eq_true rfl) (fun X ad cI cZ cB hX hR => ?_)
  show V X M [(0, .ref (ad 0)), (1, .int v1)] [] 0
  refine s_aload_n (k := 0) hX zcdX9_firstNight_0.1 rfl rfl ?_
  refine s_iload_n (k := 1) hX zcdX9_firstNight_0.2.1 rfl rfl ?_
  refine e_callVp hX (t_X9_strideOf v1 M) mX9_strideOf lX9_175 (by decide) (by decide) oC0 rfl rfl rfl rfl rfl (Nat.le_of_ble_eq_true rfl) zcdX9_firstNight_0.2.2.1 h (fun r_1 h => ?_)
  refine s_istore_n (lv' := [(0, .ref (ad 0)), (1, .int v1), (2, .int r_1)]) hX zcdX9_firstNight_0.2.2.2.1 rfl (by decide) rfl ?_
  refine s_iload_n (k := 2) hX zcdX9_firstNight_0.2.2.2.2.1 rfl rfl ?_
  refine e_if_ne (tgt := 12) hX zcdX9_firstNight_0.2.2.2.2.2.1 (by decide) z_eq h (fun h => ?_) (fun h => ?_)
  · refine s_aload_n (k := 0) hX zcdX9_firstNight_12.1 rfl rfl ?_
    refine s_get hX fX9_19 oC0 rfl zcdX9_firstNight_12.2.1 ?_
    refine s_aload_n (k := 0) hX zcdX9_firstNight_12.2.2.1 rfl rfl ?_
    refine s_get hX fX9_10 oC0 rfl zcdX9_firstNight_12.2.2.2.1 ?_
    refine e_callVv hX (t_X2_copyAll 13 (Or.inr (Or.inr rfl)) 1 (Or.inl rfl) M) mX2_copyAll lX9_149 (by decide) (by decide) oC13 rfl rfl rfl rfl rfl (Nat.le_of_ble_eq_true rfl) zcdX9_firstNight_12.2.2.2.2.1 h (fun M_2 h => ?_)
    refine s_iconst (v := (nI 0)) hX zcdX9_firstNight_12.2.2.2.2.2.1 (by decide) ?_
    refine s_istore_n (lv' := [(0, .ref (ad 0)), (1, .int v1), (2, .int r_1), (3, .int (nI 0))]) hX zcdX9_firstNight_12.2.2.2.2.2.2.1 rfl (by decide) rfl ?_
    have lp25 : ∀ (N25 : Nat) (M25 : Mem) (y3_25 : Int32), wlp2 (f_X9_firstNight_B25 r_1) N25 M25 y3_25 = some r0 → V X M25 [(0, .ref (ad 0)), (2, .int r_1), (3, .int y3_25)] [] 25 := by
      intro N25
      induction N25 with
      | zero => exact fun _ _ h => e_none h
      | succ N25 ih25 =>
        intro M25 y3_25 h
        replace h : f_X9_firstNight_B25 r_1 (wlp2 (f_X9_firstNight_B25 r_1) N25) M25 y3_25 = some r0 := h
        generalize wlp2 (f_X9_firstNight_B25 r_1) N25 = ag25 at ih25 h
        refine s_iload_n (k := 2) hX zcdX9_firstNight_12.2.2.2.2.2.2.2 rfl rfl ?_
        refine s_bipush (v := (nI 60)) hX zcdX9_firstNight_26.1 (by decide) ?_
        refine e_icmp_gt (tgt := 70) hX zcdX9_firstNight_26.2.1 (by decide) (m_gt (by decide +kernel)) h (fun h => ?_) (fun h => ?_)
        · refine s_bipush (v := (-2)) hX zcdX9_firstNight_57.2.2.2.2.2.1 (by decide) ?_
          exact e_ireti hX hR zcdX9_firstNight_57.2.2.2.2.2.2.1 h
        · refine s_aload_n (k := 0) hX zcdX9_firstNight_26.2.2.1 rfl rfl ?_
          refine s_get hX fX9_39 oC0 rfl zcdX9_firstNight_26.2.2.2.1 ?_
          refine s_aload_n (k := 0) hX zcdX9_firstNight_26.2.2.2.2.1 rfl rfl ?_
          refine s_get hX fX9_19 oC0 rfl zcdX9_firstNight_26.2.2.2.2.2.1 ?_
          refine s_iload_n (k := 1) hX zcdX9_firstNight_26.2.2.2.2.2.2.1 rfl rfl ?_
          refine e_callVi hX (t_X8_canCross 13 (Or.inr (Or.inr rfl)) r_1 M25) mX8_canCross lX9_188 (by decide) (by decide) oC23 rfl rfl rfl rfl rfl (Nat.le_of_ble_eq_true rfl) zcdX9_firstNight_26.2.2.2.2.2.2.2 h (fun r_3 M_4 h => ?_)
          refine e_if_eq (tgt := 48) hX zcdX9_firstNight_43.1 (by decide) z_eq h (fun h => ?_) (fun h => ?_)
          · refine s_aload_n (k := 0) hX zcdX9_firstNight_43.2.2.2.1 rfl rfl ?_
            refine s_get hX fX9_32 oC0 rfl zcdX9_firstNight_43.2.2.2.2.1 ?_
            refine s_aload_n (k := 0) hX zcdX9_firstNight_43.2.2.2.2.2.1 rfl rfl ?_
            refine s_get hX fX9_19 oC0 rfl zcdX9_firstNight_43.2.2.2.2.2.2.1 ?_
            refine s_aload_n (k := 0) hX zcdX9_firstNight_43.2.2.2.2.2.2.2 rfl rfl ?_
            refine s_get hX fX9_71 oC0 rfl zcdX9_firstNight_57.1 ?_
            refine e_rl h (fun c_5 hc_5 ecc_5 h => ?_)
            refine s_iconst (v := (nI 1)) hX zcdX9_firstNight_57.2.1 (by decide) ?_
            refine e_callVv hX (t_X5_pass 13 (Or.inr (Or.inr rfl)) c_5 hc_5 (nI 1) M_4) mX5_pass lX9_141 (by decide) (by decide) oC21 rfl rfl rfl rfl rfl (Nat.le_of_ble_eq_true rfl) zcdX9_firstNight_57.2.2.1 h (fun M_6 h => ?_)
            refine s_iinc (k := 2) (v := (y3_25 + (nI 1))) (lv' := [(0, .ref (ad 0)), (2, .int r_1), (3, .int (y3_25 + (nI 1)))]) hX zcdX9_firstNight_57.2.2.2.1 (congrArg (fun z => y3_25 + z) (by decide)) (by decide) rfl rfl ?_
            refine s_goto (tgt := 25) hX zcdX9_firstNight_57.2.2.2.2.1 (by decide) ?_
            exact ih25 M_6 (y3_25 + (nI 1)) h
          · refine s_iload_n (k := 2) hX zcdX9_firstNight_43.2.1 rfl rfl ?_
            exact e_ireti hX hR zcdX9_firstNight_43.2.2.1 h
    refine s_loc [0, 2, 3] rfl ?_
    exact lp25 FU M_2 (nI 0) h
  · refine s_iconst (v := (-1)) hX zcdX9_firstNight_0.2.2.2.2.2.2.1 (by decide) ?_
    exact e_ireti hX hR zcdX9_firstNight_0.2.2.2.2.2.2.2 h
set_option maxHeartbeats 4000000 in
theorem t_X9_hold (v1 : Int32) (M : Mem) : AXi yX9_hold cX9_hold 3 (some .int) 6 60 glC (fun ad => [.ref (ad 0), .int v1]) M (f_X9_hold M v1) := by
  intro r0 h
  refine AM.of (by decide) (fun _ => Nat.le_of_ble_eq_true rfl) (fun X ad cI cZ cB hX hR => ?_)
  show V X M [(0, .ref (ad 0)), (1, .int v1)] [] 0
  refine s_aload_n (k := 0) hX zcdX9_firstNight_57.2.2.2.2.2.2.2 rfl rfl ?_
  refine s_iload_n (k := 1) hX zcdX9_hold_1.1 rfl rfl ?_
  refine e_callVp hX (t_X9_strideOf v1 M) mX9_strideOf lX9_175 (by decide) (by decide) oC0 rfl rfl rfl rfl rfl (Nat.le_of_ble_eq_true rfl) zcdX9_hold_1.2.1 h (fun r_1 h => ?_)
  refine s_istore_n (lv' := [(0, .ref (ad 0)), (1, .int v1), (2, .int r_1)]) hX zcdX9_hold_1.2.2.1 rfl (by decide) rfl ?_
  refine s_iload_n (k := 2) hX zcdX9_hold_1.2.2.2.1 rfl rfl ?_
  refine e_if_ne (tgt := 12) hX zcdX9_hold_1.2.2.2.2.1 (by decide) z_eq h (fun h => ?_) (fun h => ?_)
  · refine s_iload_n (k := 2) hX zcdX9_hold_1.2.2.2.2.2.2.2 rfl rfl ?_
    refine s_bipush (v := (nI 21)) hX zcdX9_hold_13.1 (by decide) ?_
    refine e_icmp_lt (tgt := 23) hX zcdX9_hold_13.2.1 (by decide) (m_lt (by decide +kernel)) h (fun h => ?_) (fun h => ?_)
    · refine s_aload_n (k := 0) hX zcdX9_hold_13.2.2.2.2.1 rfl rfl ?_
      refine s_get hX fX9_46 oC0 rfl zcdX9_hold_13.2.2.2.2.2.1 ?_
      refine s_aload_n (k := 0) hX zcdX9_hold_13.2.2.2.2.2.2.1 rfl rfl ?_
      refine s_get hX fX9_10 oC0 rfl zcdX9_hold_13.2.2.2.2.2.2.2 ?_
      refine s_iload_n (k := 2) hX zcdX9_hold_31.1 rfl rfl ?_
      refine e_callVi hX (t_X1_fewest 1 (Or.inl rfl) r_1 M) mX1_fewest lX9_196 (by decide) (by decide) oC30 rfl rfl rfl rfl rfl (Nat.le_of_ble_eq_true rfl) zcdX9_hold_31.2.1 h (fun r_2 M_3 h => ?_)
      exact e_ireti hX hR zcdX9_hold_31.2.2.1 h
    · refine s_bipush (v := (-2)) hX zcdX9_hold_13.2.2.1 (by decide) ?_
      refine s_goto (tgt := 35) hX zcdX9_hold_13.2.2.2.1 (by decide) ?_
      exact e_ireti hX hR zcdX9_hold_31.2.2.1 h
  · refine s_iconst (v := (-1)) hX zcdX9_hold_1.2.2.2.2.2.1 (by decide) ?_
    exact e_ireti hX hR zcdX9_hold_1.2.2.2.2.2.2.1 h
set_option maxHeartbeats 4000000 in
theorem t_X9_howFar (v1 : Int32) (M : Mem) : AXi yX9_howFar cX9_howFar 3 (some .int) 6 60 glC (fun ad => [.ref (ad 0), .int v1]) M (f_X9_howFar M v1) := by
  intro r0 h
  refine AM.of (by decide) (fun _ => Nat.le_of_ble_eq_true rfl) (fun X ad cI cZ cB hX hR => ?_)
  show V X M [(0, .ref (ad 0)), (1, .int v1)] [] 0
  refine s_aload_n (k := 0) hX zcdX9_hold_31.2.2.2.1 rfl rfl ?_
  refine s_iload_n (k := 1) hX zcdX9_hold_31.2.2.2.2.1 rfl rfl ?_
  refine e_callVp hX (t_X9_strideOf v1 M) mX9_strideOf lX9_175 (by decide) (by decide) oC0 rfl rfl rfl rfl rfl (Nat.le_of_ble_eq_true rfl) zcdX9_hold_31.2.2.2.2.2.1 h (fun r_1 h => ?_)
  refine s_istore_n (lv' := [(0, .ref (ad 0)), (1, .int v1), (2, .int r_1)]) hX zcdX9_hold_31.2.2.2.2.2.2.1 rfl (by decide) rfl ?_
  refine s_iload_n (k := 2) hX zcdX9_hold_31.2.2.2.2.2.2.2 rfl rfl ?_
  refine e_if_ne (tgt := 14) hX zcdX9_howFar_7.1 (by decide) z_eq h (fun h => ?_) (fun h => ?_)
  · refine s_aload_n (k := 0) hX zcdX9_howFar_7.2.2.2.1 rfl rfl ?_
    refine s_get hX fX9_39 oC0 rfl zcdX9_howFar_7.2.2.2.2.1 ?_
    refine s_aload_n (k := 0) hX zcdX9_howFar_7.2.2.2.2.2.1 rfl rfl ?_
    refine s_get hX fX9_10 oC0 rfl zcdX9_howFar_7.2.2.2.2.2.2.1 ?_
    refine s_iload_n (k := 2) hX zcdX9_howFar_7.2.2.2.2.2.2.2 rfl rfl ?_
    refine e_callVi hX (t_X8_farthest 1 (Or.inl rfl) r_1 M) mX8_farthest lX9_192 (by decide) (by decide) oC23 rfl rfl rfl rfl rfl (Nat.le_of_ble_eq_true rfl) zcdX9_howFar_23.1 h (fun r_2 M_3 h => ?_)
    exact e_ireti hX hR zcdX9_howFar_23.2.1 h
  · refine s_iconst (v := (-1)) hX zcdX9_howFar_7.2.1 (by decide) ?_
    refine s_goto (tgt := 26) hX zcdX9_howFar_7.2.2.1 (by decide) ?_
    exact e_ireti hX hR zcdX9_howFar_23.2.1 h
set_option maxHeartbeats 4000000 in
theorem t_X9_isNights (v0 : Int32) (M : Mem) : AXp yX9_isNights cX9_isNights 1 (some .boolean) 0 60 glC (fun ad => [.int v0]) M (f_X9_isNights v0) := by
  intro r0 h
  refine AM.of (by decide) (fun _ => Nat.le_of_ble_eq_true rfl) (fun X ad cI cZ cB hX hR => ?_)
  show V X M [(0, .int v0)] [] 0
  refine s_iload_n (k := 0) hX zcdX9_howFar_23.2.2.1 rfl rfl ?_
  refine s_iconst (v := (nI 1)) hX zcdX9_howFar_23.2.2.2.1 (by decide) ?_
  refine e_icmp_lt (tgt := 15) hX zcdX9_howFar_23.2.2.2.2.1 (by decide) (m_lt (by decide +kernel)) h (fun h => ?_) (fun h => ?_)
  · refine s_iconst (v := (nI 0)) hX zcdX9_isNights_11.2.2.1 (by decide) ?_
    exact e_zretpL hX hR zcdX9_isNights_11.2.2.2.1 (by decide) h
  · refine s_iload_n (k := 0) hX zcdX9_howFar_23.2.2.2.2.2.1 rfl rfl ?_
    refine s_bipush (v := (nI 60)) hX zcdX9_howFar_23.2.2.2.2.2.2.1 (by decide) ?_
    refine e_icmp_gt (tgt := 15) hX zcdX9_howFar_23.2.2.2.2.2.2.2 (by decide) (m_gt (by decide +kernel)) h (fun h => ?_) (fun h => ?_)
    · refine s_iconst (v := (nI 0)) hX zcdX9_isNights_11.2.2.1 (by decide) ?_
      exact e_zretpL hX hR zcdX9_isNights_11.2.2.2.1 (by decide) h
    · refine s_iconst (v := (nI 1)) hX zcdX9_isNights_11.1 (by decide) ?_
      refine s_goto (tgt := 16) hX zcdX9_isNights_11.2.1 (by decide) ?_
      exact e_zretpL hX hR zcdX9_isNights_11.2.2.2.1 (by decide) h
set_option maxHeartbeats 4000000 in
theorem t_X9_isStride (v0 : Int32) (M : Mem) : AXp yX9_isStride cX9_isStride 1 (some .boolean) 0 60 glC (fun ad => [.int v0]) M (f_X9_isStride v0) := by
  intro r0 h
  refine AM.of (by decide) (fun _ => Nat.le_of_ble_eq_true rfl) (fun X ad cI cZ cB hX hR => ?_)
  show V X M [(0, .int v0)] [] 0
  refine s_iload_n (k := 0) hX zcdX9_isNights_11.2.2.2.2.1 rfl rfl ?_
  refine s_iconst (v := (nI 1)) hX zcdX9_isNights_11.2.2.2.2.2.1 (by decide) ?_
  refine e_icmp_lt (tgt := 15) hX zcdX9_isNights_11.2.2.2.2.2.2.1 (by decide) (m_lt (by decide +kernel)) h (fun h => ?_) (fun h => ?_)
  · refine s_iconst (v := (nI 0)) hX zcdX9_isStride_6.2.2.2.2.1 (by decide) ?_
    exact e_zretpL hX hR zcdX9_isStride_6.2.2.2.2.2.1 (by decide) h
  · refine s_iload_n (k := 0) hX zcdX9_isNights_11.2.2.2.2.2.2.2 rfl rfl ?_
    refine s_bipush (v := (nI 30)) hX zcdX9_isStride_6.1 (by decide) ?_
    refine e_icmp_gt (tgt := 15) hX zcdX9_isStride_6.2.1 (by decide) (m_gt (by decide +kernel)) h (fun h => ?_) (fun h => ?_)
    · refine s_iconst (v := (nI 0)) hX zcdX9_isStride_6.2.2.2.2.1 (by decide) ?_
      exact e_zretpL hX hR zcdX9_isStride_6.2.2.2.2.2.1 (by decide) h
    · refine s_iconst (v := (nI 1)) hX zcdX9_isStride_6.2.2.1 (by decide) ?_
      refine s_goto (tgt := 16) hX zcdX9_isStride_6.2.2.2.1 (by decide) ?_
      exact e_zretpL hX hR zcdX9_isStride_6.2.2.2.2.2.1 (by decide) h
set_option maxHeartbeats 4000000 in
theorem t_X9_islands (v1 : Int32) (v2 : Int32) (M : Mem) : AXi yX9_islands cX9_islands 3 (some .int) 6 60 glC (fun ad => [.ref (ad 0), .int v1, .int v2]) M (f_X9_islands M v1 v2) := by
  intro r0 h
  refine AM.of (by decide) (fun _ => Nat.le_of_ble_eq_true rfl) (fun X ad cI cZ cB hX hR => ?_)
  show V X M [(0, .ref (ad 0)), (1, .int v1), (2, .int v2)] [] 0
  refine s_iload_n (k := 1) hX zcdX9_isStride_6.2.2.2.2.2.2.1 rfl rfl ?_
  refine e_callSp hX (t_X9_isStride v1 M) mX9_isStride lX9_108 (by decide) (by decide) rfl rfl (Nat.le_of_ble_eq_true rfl) zcdX9_isStride_6.2.2.2.2.2.2.2 h (fun r_1 h => ?_)
  refine e_if_ne (tgt := 9) hX zcdX9_islands_4.1 (by decide) z_eq h (fun h => ?_) (fun h => ?_)
  · refine s_iload_n (k := 2) hX zcdX9_islands_4.2.2.2.1 rfl rfl ?_
    refine s_bipush (v := (nI 100)) hX zcdX9_islands_4.2.2.2.2.1 (by decide) ?_
    refine e_icmp_ne (tgt := 28) hX zcdX9_islands_4.2.2.2.2.2.1 (by decide) (m_eq (by decide +kernel)) h (fun h => ?_) (fun h => ?_)
    · refine s_aload_n (k := 0) hX zcdX9_islands_19.2.2.2.2.2.1 rfl rfl ?_
      refine s_get hX fX9_10 oC0 rfl zcdX9_islands_19.2.2.2.2.2.2.1 ?_
      refine s_iload_n (k := 2) hX zcdX9_islands_19.2.2.2.2.2.2.2 rfl rfl ?_
      refine e_callVp hX (t_X2_isTold 1 (Or.inl rfl) v2 M) mX2_isTold lX9_98 (by decide) (by decide) oC1 rfl rfl rfl rfl rfl (Nat.le_of_ble_eq_true rfl) zcdX9_islands_33.1 h (fun r_2 h => ?_)
      refine e_if_eq (tgt := 55) hX zcdX9_islands_33.2.1 (by decide) z_eq h (fun h => ?_) (fun h => ?_)
      · refine s_iconst (v := (-1)) hX zcdX9_islands_49.2.2.1 (by decide) ?_
        exact e_ireti hX hR zcdX9_islands_49.2.2.2.1 h
      · refine s_aload_n (k := 0) hX zcdX9_islands_33.2.2.1 rfl rfl ?_
        refine s_get hX fX9_39 oC0 rfl zcdX9_islands_33.2.2.2.1 ?_
        refine s_aload_n (k := 0) hX zcdX9_islands_33.2.2.2.2.1 rfl rfl ?_
        refine s_get hX fX9_10 oC0 rfl zcdX9_islands_33.2.2.2.2.2.1 ?_
        refine s_iload_n (k := 1) hX zcdX9_islands_33.2.2.2.2.2.2.1 rfl rfl ?_
        refine s_iload_n (k := 2) hX zcdX9_islands_33.2.2.2.2.2.2.2 rfl rfl ?_
        refine e_callVi hX (t_X8_islandSize 1 (Or.inl rfl) v1 v2 M) mX8_islandSize lX9_205 (by decide) (by decide) oC23 rfl rfl rfl rfl rfl (Nat.le_of_ble_eq_true rfl) zcdX9_islands_49.1 h (fun r_3 M_4 h => ?_)
        refine s_goto (tgt := 56) hX zcdX9_islands_49.2.1 (by decide) ?_
        exact e_ireti hX hR zcdX9_islands_49.2.2.2.1 h
    · refine s_aload_n (k := 0) hX zcdX9_islands_4.2.2.2.2.2.2.1 rfl rfl ?_
      refine s_get hX fX9_39 oC0 rfl zcdX9_islands_4.2.2.2.2.2.2.2 ?_
      refine s_aload_n (k := 0) hX zcdX9_islands_19.1 rfl rfl ?_
      refine s_get hX fX9_10 oC0 rfl zcdX9_islands_19.2.1 ?_
      refine s_iload_n (k := 1) hX zcdX9_islands_19.2.2.1 rfl rfl ?_
      refine e_callVi hX (t_X8_countIslands 1 (Or.inl rfl) v1 M) mX8_countIslands lX9_202 (by decide) (by decide) oC23 rfl rfl rfl rfl rfl (Nat.le_of_ble_eq_true rfl) zcdX9_islands_19.2.2.2.1 h (fun r_5 M_6 h => ?_)
      exact e_ireti hX hR zcdX9_islands_19.2.2.2.2.1 h
  · refine s_iconst (v := (-1)) hX zcdX9_islands_4.2.1 (by decide) ?_
    exact e_ireti hX hR zcdX9_islands_4.2.2.1 h
set_option maxHeartbeats 4000000 in
theorem t_X9_keep (M : Mem) : AXi yX9_keep cX9_keep 1 (some .int) 2 60 glC (fun ad => [.ref (ad 0)]) M (f_X9_keep M) := by
  intro r0 h
  refine AM.of (by decide) (fun _ => Nat.le_of_ble_eq_true rfl) (fun X ad cI cZ cB hX hR => ?_)
  show V X M [(0, .ref (ad 0))] [] 0
  refine s_aload_n (k := 0) hX zcdX9_islands_49.2.2.2.2.1 rfl rfl ?_
  refine s_get hX fX9_16 oC0 rfl zcdX9_islands_49.2.2.2.2.2.1 ?_
  refine s_aload_n (k := 0) hX zcdX9_islands_49.2.2.2.2.2.2.1 rfl rfl ?_
  refine s_get hX fX9_10 oC0 rfl zcdX9_islands_49.2.2.2.2.2.2.2 ?_
  refine e_callVv hX (t_X2_copyAll 7 (Or.inr (Or.inl rfl)) 1 (Or.inl rfl) M) mX2_copyAll lX9_149 (by decide) (by decide) oC7 rfl rfl rfl rfl rfl (Nat.le_of_ble_eq_true rfl) zcdX9_keep_8.1 h (fun M_1 h => ?_)
  refine s_aload_n (k := 0) hX zcdX9_keep_8.2.1 rfl rfl ?_
  refine s_iconst (v := (nI 1)) hX zcdX9_keep_8.2.2.1 (by decide) ?_
  refine s_puti (ty := .boolean) hX fX9_78 oC0 rfl (Nat.le_of_ble_eq_true rfl) ty_9_12 rfl rfl zcdX9_keep_8.2.2.2.1 ?_
  refine e_bndM h (fun M_2 h => ?_)
  refine s_aload_n (k := 0) hX zcdX9_keep_8.2.2.2.2.1 rfl rfl ?_
  refine s_get hX fX9_10 oC0 rfl zcdX9_keep_8.2.2.2.2.2.1 ?_
  refine s_get hX fX9_285 oC1 rfl zcdX9_keep_8.2.2.2.2.2.2.1 ?_
  exact e_ireti hX hR zcdX9_keep_8.2.2.2.2.2.2.2 h
set_option maxHeartbeats 4000000 in
theorem t_X9_key (v1 : Int32) (v2 : Int32) (M : Mem) : AXi yX9_key cX9_key 7 (some .int) 7 60 glC (fun ad => [.ref (ad 0), .int v1, .int v2]) M (f_X9_key M v1 v2) := by
  intro r0 h
  refine AM.of (by decide) (fun _ => Nat.le_of_ble_eq_true rfl) (fun X ad cI cZ cB hX hR => ?_)
  show V X M [(0, .ref (ad 0)), (1, .int v1), (2, .int v2)] [] 0
  refine s_aload_n (k := 0) hX zcdX9_key_0.1 rfl rfl ?_
  refine s_iload_n (k := 1) hX zcdX9_key_0.2.1 rfl rfl ?_
  refine e_callVp hX (t_X9_strideOf v1 M) mX9_strideOf lX9_175 (by decide) (by decide) oC0 rfl rfl rfl rfl rfl (Nat.le_of_ble_eq_true rfl) zcdX9_key_0.2.2.1 h (fun r_1 h => ?_)
  refine s_istore_n (lv' := [(0, .ref (ad 0)), (1, .int v1), (2, .int v2), (3, .int r_1)]) hX zcdX9_key_0.2.2.2.1 rfl (by decide) rfl ?_
  refine s_iload_n (k := 3) hX zcdX9_key_0.2.2.2.2.1 rfl rfl ?_
  refine e_if_eq (tgt := 17) hX zcdX9_key_0.2.2.2.2.2.1 (by decide) z_eq h (fun h => ?_) (fun h => ?_)
  · refine s_iconst (v := (-1)) hX zcdX9_key_14.2.1 (by decide) ?_
    exact e_ireti hX hR zcdX9_key_14.2.2.1 h
  · refine s_iload_n (k := 2) hX zcdX9_key_0.2.2.2.2.2.2.1 rfl rfl ?_
    refine e_callSp hX (t_X9_isEither v2 M) mX9_isEither lX9_182 (by decide) (by decide) rfl rfl (Nat.le_of_ble_eq_true rfl) zcdX9_key_0.2.2.2.2.2.2.2 h (fun r_2 h => ?_)
    refine e_if_ne (tgt := 19) hX zcdX9_key_14.1 (by decide) z_eq h (fun h => ?_) (fun h => ?_)
    · refine s_aload_n (k := 0) hX zcdX9_key_14.2.2.2.1 rfl rfl ?_
      refine s_get hX fX9_39 oC0 rfl zcdX9_key_14.2.2.2.2.1 ?_
      refine s_aload_n (k := 0) hX zcdX9_key_14.2.2.2.2.2.1 rfl rfl ?_
      refine s_get hX fX9_10 oC0 rfl zcdX9_key_14.2.2.2.2.2.2.1 ?_
      refine s_iload_n (k := 3) hX zcdX9_key_14.2.2.2.2.2.2.2 rfl rfl ?_
      refine e_callVi hX (t_X8_canCross 1 (Or.inl rfl) r_1 M) mX8_canCross lX9_188 (by decide) (by decide) oC23 rfl rfl rfl rfl rfl (Nat.le_of_ble_eq_true rfl) zcdX9_key_28.1 h (fun r_3 M_4 h => ?_)
      refine e_if_ne (tgt := 37) hX zcdX9_key_28.2.1 (by decide) z_eq h (fun h => ?_) (fun h => ?_)
      · refine s_aload_n (k := 0) hX zcdX9_key_28.2.2.2.2.1 rfl rfl ?_
        refine s_get hX fX9_19 oC0 rfl zcdX9_key_28.2.2.2.2.2.1 ?_
        refine s_aload_n (k := 0) hX zcdX9_key_28.2.2.2.2.2.2.1 rfl rfl ?_
        refine s_get hX fX9_10 oC0 rfl zcdX9_key_28.2.2.2.2.2.2.2 ?_
        refine e_callVv hX (t_X2_copyAll 13 (Or.inr (Or.inr rfl)) 1 (Or.inl rfl) M_4) mX2_copyAll lX9_149 (by decide) (by decide) oC13 rfl rfl rfl rfl rfl (Nat.le_of_ble_eq_true rfl) zcdX9_key_45.1 h (fun M_5 h => ?_)
        refine s_iconst (v := (nI 0)) hX zcdX9_key_45.2.1 (by decide) ?_
        refine s_istore (lv' := [(0, .ref (ad 0)), (1, .int v1), (2, .int v2), (3, .int r_1), (4, .int (nI 0))]) hX zcdX9_key_45.2.2.1 (by decide) rfl ?_
        refine s_bipush (v := (-2)) hX zcdX9_key_45.2.2.2.1 (by decide) ?_
        refine s_istore (lv' := [(0, .ref (ad 0)), (1, .int v1), (2, .int v2), (3, .int r_1), (4, .int (nI 0)), (5, .int (-2))]) hX zcdX9_key_45.2.2.2.2.1 (by decide) rfl ?_
        refine s_bipush (v := (nI 39)) hX zcdX9_key_45.2.2.2.2.2.1 (by decide) ?_
        refine s_istore (lv' := [(0, .ref (ad 0)), (1, .int v1), (2, .int v2), (3, .int r_1), (4, .int (nI 0)), (5, .int (-2)), (6, .int (nI 39))]) hX zcdX9_key_45.2.2.2.2.2.2.1 (by decide) rfl ?_
        have lp59 : ∀ (N59 : Nat) (M59 : Mem) (y4_59 : Int32) (y5_59 : Int32) (y6_59 : Int32), wlp4 (f_X9_key_B59 v2 r_1) N59 M59 y4_59 y5_59 y6_59 = some r0 → V X M59 [(0, .ref (ad 0)), (2, .int v2), (3, .int r_1), (4, .int y4_59), (5, .int y5_59), (6, .int y6_59)] [] 59 := by
          intro N59
          induction N59 with
          | zero => exact fun _ _ _ _ h => e_none h
          | succ N59 ih59 =>
            intro M59 y4_59 y5_59 y6_59 h
            replace h : f_X9_key_B59 v2 r_1 (wlp4 (f_X9_key_B59 v2 r_1) N59) M59 y4_59 y5_59 y6_59 = some r0 := h
            generalize wlp4 (f_X9_key_B59 v2 r_1) N59 = ag59 at ih59 h
            refine s_iload (k := 5) hX zcdX9_key_45.2.2.2.2.2.2.2 rfl ?_
            have j94 : f_X9_key_L94 v2 M59 y4_59 y5_59 = some r0 → V X M59 [(2, .int v2), (4, .int y4_59), (5, .int y5_59)] [] 94 := by
              intro  h
              refine s_iload_n (k := 0) hX zcdX9_key_78.2.2.2.2.2.2.1 rfl rfl ?_
              refine e_if_ne (tgt := 103) hX zcdX9_key_78.2.2.2.2.2.2.2 (by decide) z_eq h (fun h => ?_) (fun h => ?_)
              · refine s_iload (k := 2) hX zcdX9_key_98.2.2.1 rfl ?_
                exact e_ireti hX hR zcdX9_key_98.2.2.2.1 h
              · refine s_iload (k := 1) hX zcdX9_key_98.1 rfl ?_
                refine s_goto (tgt := 105) hX zcdX9_key_98.2.1 (by decide) ?_
                exact e_ireti hX hR zcdX9_key_98.2.2.2.1 h
            refine e_if_lt (tgt := 94) hX zcdX9_key_61.1 (by decide) z_lt h (fun h => ?_) (fun h => ?_)
            · refine s_loc [1, 3, 4] rfl ?_
              exact j94 h
            · refine s_aload_n (k := 0) hX zcdX9_key_61.2.1 rfl rfl ?_
              refine s_get hX fX9_39 oC0 rfl zcdX9_key_61.2.2.1 ?_
              refine s_aload_n (k := 0) hX zcdX9_key_61.2.2.2.1 rfl rfl ?_
              refine s_get hX fX9_19 oC0 rfl zcdX9_key_61.2.2.2.2.1 ?_
              refine s_iload_n (k := 2) hX zcdX9_key_61.2.2.2.2.2.1 rfl rfl ?_
              refine s_iload (k := 5) hX zcdX9_key_61.2.2.2.2.2.2.1 rfl ?_
              refine e_callVi hX (t_X8_needs 13 (Or.inr (Or.inr rfl)) r_1 y6_59 M59) mX8_needs lX9_208 (by decide) (by decide) oC23 rfl rfl rfl rfl rfl (Nat.le_of_ble_eq_true rfl) zcdX9_key_61.2.2.2.2.2.2.2 h (fun r_6 M_7 h => ?_)
              refine e_if_eq (tgt := 88) hX zcdX9_key_78.1 (by decide) z_eq h (fun h => ?_) (fun h => ?_)
              · refine s_iinc (k := 5) (v := (y6_59 + (-1))) (lv' := [(0, .ref (ad 0)), (2, .int v2), (3, .int r_1), (4, .int y4_59), (5, .int y5_59), (6, .int (y6_59 + (-1)))]) hX zcdX9_key_78.2.2.2.2.1 (congrArg (fun z => y6_59 + z) (by decide)) (by decide) rfl rfl ?_
                refine s_goto (tgt := 59) hX zcdX9_key_78.2.2.2.2.2.1 (by decide) ?_
                exact ih59 M_7 y4_59 y5_59 (y6_59 + (-1)) h
              · refine s_iinc (k := 3) (v := (y4_59 + (nI 1))) (lv' := [(0, .ref (ad 0)), (2, .int v2), (3, .int r_1), (5, .int y5_59), (6, .int y6_59), (4, .int (y4_59 + (nI 1)))]) hX zcdX9_key_78.2.1 (congrArg (fun z => y4_59 + z) (by decide)) (by decide) rfl rfl ?_
                refine s_iload (k := 4) hX zcdX9_key_78.2.2.1 rfl ?_
                refine s_istore (lv' := [(0, .ref (ad 0)), (2, .int v2), (3, .int r_1), (6, .int y6_59), (4, .int (y4_59 + (nI 1))), (5, .int y6_59)]) hX zcdX9_key_78.2.2.2.1 (by decide) rfl ?_
                refine s_iinc (k := 3) (v := (y6_59 + (-1))) (lv' := [(0, .ref (ad 0)), (2, .int v2), (3, .int r_1), (4, .int (y4_59 + (nI 1))), (5, .int y6_59), (6, .int (y6_59 + (-1)))]) hX zcdX9_key_78.2.2.2.2.1 (congrArg (fun z => y6_59 + z) (by decide)) (by decide) rfl rfl ?_
                refine s_goto (tgt := 59) hX zcdX9_key_78.2.2.2.2.2.1 (by decide) ?_
                exact ih59 M_7 (y4_59 + (nI 1)) y6_59 (y6_59 + (-1)) h
        refine s_loc [0, 2, 3, 4, 5, 6] rfl ?_
        exact lp59 FU M_5 (nI 0) (-2) (nI 39) h
      · refine s_bipush (v := (-3)) hX zcdX9_key_28.2.2.1 (by decide) ?_
        exact e_ireti hX hR zcdX9_key_28.2.2.2.1 h
    · refine s_iconst (v := (-1)) hX zcdX9_key_14.2.1 (by decide) ?_
      exact e_ireti hX hR zcdX9_key_14.2.2.1 h
set_option maxHeartbeats 4000000 in
theorem t_X9_law (v1 : Int32) (M : Mem) : AXi yX9_law cX9_law 4 (some .int) 211 60 glC (fun ad => [.ref (ad 0), .int v1]) M (f_X9_law M v1) := by
  intro r0 h
  refine AM.of (by decide) (fun _ => Nat.le_of_ble_eq_true rfl) (fun X ad cI cZ cB hX hR => ?_)
  show V X M [(0, .ref (ad 0)), (1, .int v1)] [] 0
  refine s_aload_n (k := 0) hX zcdX9_key_98.2.2.2.2.1 rfl rfl ?_
  refine s_get hX fX9_25 oC0 rfl zcdX9_key_98.2.2.2.2.2.1 ?_
  refine s_iload_n (k := 1) hX zcdX9_key_98.2.2.2.2.2.2.1 rfl rfl ?_
  refine s_iconst (v := (nI 1)) hX zcdX9_key_98.2.2.2.2.2.2.2 (by decide) ?_
  refine s_sipush (v := (nI 240)) hX zcdX9_law_6.1 (by decide) ?_
  refine e_callVp hX (t_X7_holds v1 (nI 1) (nI 240) M) mX7_holds lX9_119 (by decide) (by decide) oC19 rfl rfl rfl rfl rfl (Nat.le_of_ble_eq_true rfl) zcdX9_law_6.2.1 h (fun r_1 h => ?_)
  refine e_if_ne (tgt := 17) hX zcdX9_law_6.2.2.1 (by decide) z_eq h (fun h => ?_) (fun h => ?_)
  · refine s_aload_n (k := 0) hX zcdX9_law_6.2.2.2.2.2.1 rfl rfl ?_
    refine s_get hX fX9_25 oC0 rfl zcdX9_law_6.2.2.2.2.2.2.1 ?_
    refine s_iload_n (k := 1) hX zcdX9_law_6.2.2.2.2.2.2.2 rfl rfl ?_
    refine e_callVv hX (t_X7_open v1 M) mX7_open lX9_123 (by decide) (by decide) oC19 rfl rfl rfl rfl rfl (Nat.le_of_ble_eq_true rfl) zcdX9_law_22.1 h (fun M_2 h => ?_)
    refine s_aload_n (k := 0) hX zcdX9_law_22.2.1 rfl rfl ?_
    refine s_get hX fX9_75 oC0 rfl zcdX9_law_22.2.2.1 ?_
    refine e_rl h (fun c_3 hc_3 ecc_3 h => ?_)
    refine s_aload_n (k := 0) hX zcdX9_law_22.2.2.2.1 rfl rfl ?_
    refine s_get hX fX9_25 oC0 rfl zcdX9_law_22.2.2.2.2.1 ?_
    refine e_callVi hX (t_X3_compile c_3 hc_3 M_2) mX3_compile lX9_126 (by decide) (by decide) (oL hc_3) rfl rfl rfl rfl rfl (Nat.le_of_ble_eq_true rfl) zcdX9_law_22.2.2.2.2.2.1 h (fun r_4 M_5 h => ?_)
    refine s_istore_n (lv' := [(0, .ref (ad 0)), (1, .int v1), (2, .int r_4)]) hX zcdX9_law_22.2.2.2.2.2.2.1 rfl (by decide) rfl ?_
    refine s_iload_n (k := 2) hX zcdX9_law_22.2.2.2.2.2.2.2 rfl rfl ?_
    refine e_if_le (tgt := 59) hX zcdX9_law_38.1 (by decide) z_le h (fun h => ?_) (fun h => ?_)
    · refine s_iload_n (k := 2) hX zcdX9_law_54.2.2.2.1 rfl rfl ?_
      exact e_ireti hX hR zcdX9_law_54.2.2.2.2.1 h
    · refine s_aload_n (k := 0) hX zcdX9_law_38.2.1 rfl rfl ?_
      refine s_get hX fX9_71 oC0 rfl zcdX9_law_38.2.2.1 ?_
      refine e_rl h (fun c_6 hc_6 ecc_6 h => ?_)
      refine s_astore_n (lv' := [(0, .ref (ad 0)), (1, .int v1), (2, .int r_4), (3, .ref (ad c_6))]) hX zcdX9_law_38.2.2.2.1 rfl (by decide) rfl ?_
      refine s_aload_n (k := 0) hX zcdX9_law_38.2.2.2.2.1 rfl rfl ?_
      refine s_aload_n (k := 0) hX zcdX9_law_38.2.2.2.2.2.1 rfl rfl ?_
      refine s_get hX fX9_75 oC0 rfl zcdX9_law_38.2.2.2.2.2.2.1 ?_
      refine e_rl h (fun c_7 hc_7 ecc_7 h => ?_)
      refine e_putr10 hX fX9_71 hc_7 zcdX9_law_38.2.2.2.2.2.2.2 ?_
      refine e_bndM h (fun M_8 h => ?_)
      refine s_aload_n (k := 0) hX zcdX9_law_54.1 rfl rfl ?_
      refine s_aload_n (k := 3) hX zcdX9_law_54.2.1 rfl rfl ?_
      refine e_putr11 hX fX9_75 hc_6 zcdX9_law_54.2.2.1 ?_
      refine e_bndM h (fun M_9 h => ?_)
      refine s_iload_n (k := 2) hX zcdX9_law_54.2.2.2.1 rfl rfl ?_
      exact e_ireti hX hR zcdX9_law_54.2.2.2.2.1 h
  · refine s_iconst (v := (-1)) hX zcdX9_law_6.2.2.2.1 (by decide) ?_
    exact e_ireti hX hR zcdX9_law_6.2.2.2.2.1 h
set_option maxHeartbeats 4000000 in
theorem t_X9_leastStride (M : Mem) : AXi yX9_leastStride cX9_leastStride 2 (some .int) 6 60 glC (fun ad => [.ref (ad 0)]) M (f_X9_leastStride M) := by
  intro r0 h
  refine AM.of (by decide) (fun _ => Nat.le_of_ble_eq_true rfl) (fun X ad cI cZ cB hX hR => ?_)
  show V X M [(0, .ref (ad 0))] [] 0
  refine s_iconst (v := (nI 1)) hX zcdX9_law_54.2.2.2.2.2.1 (by decide) ?_
  refine s_istore_n (lv' := [(0, .ref (ad 0)), (1, .int (nI 1))]) hX zcdX9_law_54.2.2.2.2.2.2.1 rfl (by decide) rfl ?_
  have lp2 : ∀ (N2 : Nat) (M2 : Mem) (y1_2 : Int32), wlp2 f_X9_leastStride_B2 N2 M2 y1_2 = some r0 → V X M2 [(0, .ref (ad 0)), (1, .int y1_2)] [] 2 := by
    intro N2
    induction N2 with
    | zero => exact fun _ _ h => e_none h
    | succ N2 ih2 =>
      intro M2 y1_2 h
      replace h : f_X9_leastStride_B2 (wlp2 f_X9_leastStride_B2 N2) M2 y1_2 = some r0 := h
      generalize wlp2 f_X9_leastStride_B2 N2 = ag2 at ih2 h
      refine s_iload_n (k := 1) hX zcdX9_law_54.2.2.2.2.2.2.2 rfl rfl ?_
      refine s_bipush (v := (nI 30)) hX zcdX9_leastStride_3.1 (by decide) ?_
      refine e_icmp_gt (tgt := 31) hX zcdX9_leastStride_3.2.1 (by decide) (m_gt (by decide +kernel)) h (fun h => ?_) (fun h => ?_)
      · refine s_bipush (v := (-2)) hX zcdX9_leastStride_20.2.2.2.2.2.1 (by decide) ?_
        exact e_ireti hX hR zcdX9_leastStride_20.2.2.2.2.2.2.1 h
      · refine s_aload_n (k := 0) hX zcdX9_leastStride_3.2.2.1 rfl rfl ?_
        refine s_get hX fX9_39 oC0 rfl zcdX9_leastStride_3.2.2.2.1 ?_
        refine s_aload_n (k := 0) hX zcdX9_leastStride_3.2.2.2.2.1 rfl rfl ?_
        refine s_get hX fX9_10 oC0 rfl zcdX9_leastStride_3.2.2.2.2.2.1 ?_
        refine s_iload_n (k := 1) hX zcdX9_leastStride_3.2.2.2.2.2.2.1 rfl rfl ?_
        refine e_callVi hX (t_X8_canCross 1 (Or.inl rfl) y1_2 M2) mX8_canCross lX9_188 (by decide) (by decide) oC23 rfl rfl rfl rfl rfl (Nat.le_of_ble_eq_true rfl) zcdX9_leastStride_3.2.2.2.2.2.2.2 h (fun r_1 M_2 h => ?_)
        refine e_if_eq (tgt := 25) hX zcdX9_leastStride_20.1 (by decide) z_eq h (fun h => ?_) (fun h => ?_)
        · refine s_iinc (k := 1) (v := (y1_2 + (nI 1))) (lv' := [(0, .ref (ad 0)), (1, .int (y1_2 + (nI 1)))]) hX zcdX9_leastStride_20.2.2.2.1 (congrArg (fun z => y1_2 + z) (by decide)) (by decide) rfl rfl ?_
          refine s_goto (tgt := 2) hX zcdX9_leastStride_20.2.2.2.2.1 (by decide) ?_
          exact ih2 M_2 (y1_2 + (nI 1)) h
        · refine s_iload_n (k := 1) hX zcdX9_leastStride_20.2.1 rfl rfl ?_
          exact e_ireti hX hR zcdX9_leastStride_20.2.2.1 h
  exact lp2 FU M (nI 1) h
set_option maxHeartbeats 4000000 in
theorem t_X9_letters (v1 : Int32) (v2 : Int32) (M : Mem) : AXi yX9_letters cX9_letters 4 (some .int) 3 60 glC (fun ad => [.ref (ad 0), .int v1, .int v2]) M (f_X9_letters M v1 v2) := by
  intro r0 h
  refine AM.of (by decide) (fun _ => Nat.le_of_ble_eq_true rfl) (fun X ad cI cZ cB hX hR => ?_)
  show V X M [(0, .ref (ad 0)), (1, .int v1), (2, .int v2)] [] 0
  refine s_iload_n (k := 2) hX zcdX9_leastStride_20.2.2.2.2.2.2.2 rfl rfl ?_
  refine e_callSp hX (t_X9_isEither v2 M) mX9_isEither lX9_182 (by decide) (by decide) rfl rfl (Nat.le_of_ble_eq_true rfl) zcdX9_letters_1.1 h (fun r_1 h => ?_)
  refine e_if_eq (tgt := 21) hX zcdX9_letters_1.2.1 (by decide) z_eq h (fun h => ?_) (fun h => ?_)
  · refine s_iconst (v := (-1)) hX zcdX9_letters_18.2.1 (by decide) ?_
    exact e_ireti hX hR zcdX9_letters_18.2.2.1 h
  · refine s_aload_n (k := 0) hX zcdX9_letters_1.2.2.1 rfl rfl ?_
    refine s_get hX fX9_25 oC0 rfl zcdX9_letters_1.2.2.2.1 ?_
    refine s_iload_n (k := 1) hX zcdX9_letters_1.2.2.2.2.1 rfl rfl ?_
    refine s_iconst (v := (nI 1)) hX zcdX9_letters_1.2.2.2.2.2.1 (by decide) ?_
    refine s_bipush (v := (nI 8)) hX zcdX9_letters_1.2.2.2.2.2.2.1 (by decide) ?_
    refine e_callVp hX (t_X7_holds v1 (nI 1) (nI 8) M) mX7_holds lX9_119 (by decide) (by decide) oC19 rfl rfl rfl rfl rfl (Nat.le_of_ble_eq_true rfl) zcdX9_letters_1.2.2.2.2.2.2.2 h (fun r_2 h => ?_)
    refine e_if_ne (tgt := 23) hX zcdX9_letters_18.1 (by decide) z_eq h (fun h => ?_) (fun h => ?_)
    · refine s_aload_n (k := 0) hX zcdX9_letters_18.2.2.2.1 rfl rfl ?_
      refine s_get hX fX9_25 oC0 rfl zcdX9_letters_18.2.2.2.2.1 ?_
      refine s_iload_n (k := 1) hX zcdX9_letters_18.2.2.2.2.2.1 rfl rfl ?_
      refine e_callVv hX (t_X7_open v1 M) mX7_open lX9_123 (by decide) (by decide) oC19 rfl rfl rfl rfl rfl (Nat.le_of_ble_eq_true rfl) zcdX9_letters_18.2.2.2.2.2.2.1 h (fun M_3 h => ?_)
      refine s_iconst (v := (nI 0)) hX zcdX9_letters_18.2.2.2.2.2.2.2 (by decide) ?_
      refine s_istore_n (lv' := [(0, .ref (ad 0)), (1, .int v1), (2, .int v2), (3, .int (nI 0))]) hX zcdX9_letters_32.1 rfl (by decide) rfl ?_
      have lp33 : ∀ (N33 : Nat) (y3_33 : Int32), wlp1 (f_X9_letters_B33 v1 v2 M_3) N33 y3_33 = some r0 → V X M_3 [(0, .ref (ad 0)), (1, .int v1), (2, .int v2), (3, .int y3_33)] [] 33 := by
        intro N33
        induction N33 with
        | zero => exact fun _ h => e_none h
        | succ N33 ih33 =>
          intro y3_33 h
          replace h : f_X9_letters_B33 v1 v2 M_3 (wlp1 (f_X9_letters_B33 v1 v2 M_3) N33) y3_33 = some r0 := h
          generalize wlp1 (f_X9_letters_B33 v1 v2 M_3) N33 = ag33 at ih33 h
          refine s_iload_n (k := 3) hX zcdX9_letters_32.2.1 rfl rfl ?_
          refine s_iload_n (k := 1) hX zcdX9_letters_32.2.2.1 rfl rfl ?_
          have j58 : f_X9_letters_L58 v1 v2 M_3 = some r0 → V X M_3 [(0, .ref (ad 0)), (1, .int v1), (2, .int v2)] [] 58 := by
            intro  h
            refine s_aload_n (k := 0) hX zcdX9_letters_46.2.2.2.2.2.1 rfl rfl ?_
            refine s_iload_n (k := 1) hX zcdX9_letters_46.2.2.2.2.2.2.1 rfl rfl ?_
            refine e_callVp hX (t_X9_evenBag v1 M_3) mX9_evenBag lX9_268 (by decide) (by decide) oC0 rfl rfl rfl rfl rfl (Nat.le_of_ble_eq_true rfl) zcdX9_letters_46.2.2.2.2.2.2.2 h (fun r_4 h => ?_)
            refine s_istore_n (lv' := [(0, .ref (ad 0)), (1, .int v1), (2, .int v2), (3, .int r_4)]) hX zcdX9_letters_63.1 rfl (by decide) rfl ?_
            refine s_iload_n (k := 2) hX zcdX9_letters_63.2.1 rfl rfl ?_
            refine e_if_ne (tgt := 77) hX zcdX9_letters_63.2.2.1 (by decide) z_eq h (fun h => ?_) (fun h => ?_)
            · refine s_iload_n (k := 3) hX zcdX9_letters_77.1 rfl rfl ?_
              exact e_ireti hX hR zcdX9_letters_77.2.1 h
            · refine s_aload_n (k := 0) hX zcdX9_letters_63.2.2.2.1 rfl rfl ?_
              refine s_iload_n (k := 3) hX zcdX9_letters_63.2.2.2.2.1 rfl rfl ?_
              refine s_iload_n (k := 1) hX zcdX9_letters_63.2.2.2.2.2.1 rfl rfl ?_
              refine e_callVp hX (t_X9_unlike r_4 v1 M_3) mX9_unlike lX9_271 (by decide) (by decide) oC0 rfl rfl rfl rfl rfl (Nat.le_of_ble_eq_true rfl) zcdX9_letters_63.2.2.2.2.2.2.1 h (fun r_5 h => ?_)
              refine s_goto (tgt := 78) hX zcdX9_letters_63.2.2.2.2.2.2.2 (by decide) ?_
              exact e_ireti hX hR zcdX9_letters_77.2.1 h
          refine e_icmp_ge (tgt := 58) hX zcdX9_letters_32.2.2.2.1 (by decide) r_le h (fun h => ?_) (fun h => ?_)
          · refine s_loc [0, 1, 2] rfl ?_
            exact j58 h
          · refine s_aload_n (k := 0) hX zcdX9_letters_32.2.2.2.2.1 rfl rfl ?_
            refine s_get hX fX9_25 oC0 rfl zcdX9_letters_32.2.2.2.2.2.1 ?_
            refine s_iload_n (k := 3) hX zcdX9_letters_32.2.2.2.2.2.2.1 rfl rfl ?_
            refine e_callVp hX (t_X7_byteAt y3_33 M_3) mX7_byteAt lX9_265 (by decide) (by decide) oC19 rfl rfl rfl rfl rfl (Nat.le_of_ble_eq_true rfl) zcdX9_letters_32.2.2.2.2.2.2.2 h (fun r_6 h => ?_)
            refine e_if_ne (tgt := 52) hX zcdX9_letters_46.1 (by decide) z_eq h (fun h => ?_) (fun h => ?_)
            · refine s_iinc (k := 3) (v := (y3_33 + (nI 1))) (lv' := [(0, .ref (ad 0)), (1, .int v1), (2, .int v2), (3, .int (y3_33 + (nI 1)))]) hX zcdX9_letters_46.2.2.2.1 (congrArg (fun z => y3_33 + z) (by decide)) (by decide) rfl rfl ?_
              refine s_goto (tgt := 33) hX zcdX9_letters_46.2.2.2.2.1 (by decide) ?_
              exact ih33 (y3_33 + (nI 1)) h
            · refine s_bipush (v := (-2)) hX zcdX9_letters_46.2.1 (by decide) ?_
              exact e_ireti hX hR zcdX9_letters_46.2.2.1 h
      exact lp33 FU (nI 0) h
    · refine s_iconst (v := (-1)) hX zcdX9_letters_18.2.1 (by decide) ?_
      exact e_ireti hX hR zcdX9_letters_18.2.2.1 h
set_option maxHeartbeats 4000000 in
theorem t_X9_market (M : Mem) : AXi yX9_market cX9_market 3 (some .int) 6 60 glC (fun ad => [.ref (ad 0)]) M (f_X9_market M) := by
  intro r0 h
  refine AM.of (by decide) (fun _ => Nat.le_of_ble_eq_true rfl) (fun X ad cI cZ cB hX hR => ?_)
  show V X M [(0, .ref (ad 0))] [] 0
  refine s_iconst (v := (nI 0)) hX zcdX9_letters_77.2.2.1 (by decide) ?_
  refine s_istore_n (lv' := [(0, .ref (ad 0)), (1, .int (nI 0))]) hX zcdX9_letters_77.2.2.2.1 rfl (by decide) rfl ?_
  refine s_iconst (v := (nI 0)) hX zcdX9_letters_77.2.2.2.2.1 (by decide) ?_
  refine s_istore_n (lv' := [(0, .ref (ad 0)), (1, .int (nI 0)), (2, .int (nI 0))]) hX zcdX9_letters_77.2.2.2.2.2.1 rfl (by decide) rfl ?_
  have lp4 : ∀ (N4 : Nat) (M4 : Mem) (y1_4 : Int32) (y2_4 : Int32), wlp3 f_X9_market_B4 N4 M4 y1_4 y2_4 = some r0 → V X M4 [(0, .ref (ad 0)), (1, .int y1_4), (2, .int y2_4)] [] 4 := by
    intro N4
    induction N4 with
    | zero => exact fun _ _ _ h => e_none h
    | succ N4 ih4 =>
      intro M4 y1_4 y2_4 h
      replace h : f_X9_market_B4 (wlp3 f_X9_market_B4 N4) M4 y1_4 y2_4 = some r0 := h
      generalize wlp3 f_X9_market_B4 N4 = ag4 at ih4 h
      refine s_iload_n (k := 2) hX zcdX9_letters_77.2.2.2.2.2.2.1 rfl rfl ?_
      refine s_bipush (v := (nI 8)) hX zcdX9_letters_77.2.2.2.2.2.2.2 (by decide) ?_
      refine e_icmp_ge (tgt := 51) hX zcdX9_market_7.1 (by decide) (m_ge (by decide +kernel)) h (fun h => ?_) (fun h => ?_)
      · refine s_iload_n (k := 1) hX zcdX9_market_51.1 rfl rfl ?_
        exact e_ireti hX hR zcdX9_market_51.2.1 h
      · refine s_aload_n (k := 0) hX zcdX9_market_7.2.1 rfl rfl ?_
        refine s_get hX fX9_64 oC0 rfl zcdX9_market_7.2.2.1 ?_
        refine s_iload_n (k := 2) hX zcdX9_market_7.2.2.2.1 rfl rfl ?_
        refine e_iald hX aC43 zcdX9_market_7.2.2.2.2.1 h (fun h => ?_)
        refine e_if_eq (tgt := 45) hX zcdX9_market_7.2.2.2.2.2.1 (by decide) z_eq h (fun h => ?_) (fun h => ?_)
        · refine s_iinc (k := 2) (v := (y2_4 + (nI 1))) (lv' := [(0, .ref (ad 0)), (1, .int y1_4), (2, .int (y2_4 + (nI 1)))]) hX zcdX9_market_39.2.2.2.2.2.2.1 (congrArg (fun z => y2_4 + z) (by decide)) (by decide) rfl rfl ?_
          refine s_goto (tgt := 4) hX zcdX9_market_39.2.2.2.2.2.2.2 (by decide) ?_
          exact ih4 M4 y1_4 (y2_4 + (nI 1)) h
        · refine s_aload_n (k := 0) hX zcdX9_market_7.2.2.2.2.2.2.1 rfl rfl ?_
          refine s_get hX fX9_39 oC0 rfl zcdX9_market_7.2.2.2.2.2.2.2 ?_
          refine s_aload_n (k := 0) hX zcdX9_market_23.1 rfl rfl ?_
          refine s_get hX fX9_10 oC0 rfl zcdX9_market_23.2.1 ?_
          refine s_aload_n (k := 0) hX zcdX9_market_23.2.2.1 rfl rfl ?_
          refine s_get hX fX9_64 oC0 rfl zcdX9_market_23.2.2.2.1 ?_
          refine s_iload_n (k := 2) hX zcdX9_market_23.2.2.2.2.1 rfl rfl ?_
          refine e_iald hX aC43 zcdX9_market_23.2.2.2.2.2.1 h (fun h => ?_)
          refine e_callVi hX (t_X8_canCross 1 (Or.inl rfl) (M4 43 (ix y2_4)) M4) mX8_canCross lX9_188 (by decide) (by decide) oC23 rfl rfl rfl rfl rfl (Nat.le_of_ble_eq_true rfl) zcdX9_market_23.2.2.2.2.2.2.1 h (fun r_1 M_2 h => ?_)
          refine e_if_eq (tgt := 45) hX zcdX9_market_23.2.2.2.2.2.2.2 (by decide) z_eq h (fun h => ?_) (fun h => ?_)
          · refine s_iinc (k := 2) (v := (y2_4 + (nI 1))) (lv' := [(0, .ref (ad 0)), (1, .int y1_4), (2, .int (y2_4 + (nI 1)))]) hX zcdX9_market_39.2.2.2.2.2.2.1 (congrArg (fun z => y2_4 + z) (by decide)) (by decide) rfl rfl ?_
            refine s_goto (tgt := 4) hX zcdX9_market_39.2.2.2.2.2.2.2 (by decide) ?_
            exact ih4 M_2 y1_4 (y2_4 + (nI 1)) h
          · refine s_iload_n (k := 1) hX zcdX9_market_39.1 rfl rfl ?_
            refine s_iconst (v := (nI 1)) hX zcdX9_market_39.2.1 (by decide) ?_
            refine s_iload_n (k := 2) hX zcdX9_market_39.2.2.1 rfl rfl ?_
            refine e_ishl hX zcdX9_market_39.2.2.2.1 ?_
            refine s_ior hX zcdX9_market_39.2.2.2.2.1 ?_
            refine e_bnd h (fun x_3 h => ?_)
            refine s_istore_n (lv' := [(0, .ref (ad 0)), (2, .int y2_4), (1, .int x_3)]) hX zcdX9_market_39.2.2.2.2.2.1 rfl (by decide) rfl ?_
            refine s_iinc (k := 1) (v := (y2_4 + (nI 1))) (lv' := [(0, .ref (ad 0)), (1, .int x_3), (2, .int (y2_4 + (nI 1)))]) hX zcdX9_market_39.2.2.2.2.2.2.1 (congrArg (fun z => y2_4 + z) (by decide)) (by decide) rfl rfl ?_
            refine s_goto (tgt := 4) hX zcdX9_market_39.2.2.2.2.2.2.2 (by decide) ?_
            exact ih4 M_2 x_3 (y2_4 + (nI 1)) h
  exact lp4 FU M (nI 0) (nI 0) h
set_option maxHeartbeats 4000000 in
theorem t_X9_meet (v1 : Int32) (v2 : Int32) (v3 : Int32) (M : Mem) : AXi yX9_meet cX9_meet 6 (some .int) 6 60 glC (fun ad => [.ref (ad 0), .int v1, .int v2, .int v3]) M (f_X9_meet M v1 v2 v3) := by
  intro r0 h
  refine AM.of (by decide) (fun _ => Nat.le_of_ble_eq_true rfl) (fun X ad cI cZ cB hX hR => ?_)
  show V X M [(0, .ref (ad 0)), (1, .int v1), (2, .int v2), (3, .int v3)] [] 0
  refine s_aload_n (k := 0) hX zcdX9_market_51.2.2.1 rfl rfl ?_
  refine s_iload_n (k := 1) hX zcdX9_market_51.2.2.2.1 rfl rfl ?_
  refine e_callVp hX (t_X9_strideOf v1 M) mX9_strideOf lX9_175 (by decide) (by decide) oC0 rfl rfl rfl rfl rfl (Nat.le_of_ble_eq_true rfl) zcdX9_market_51.2.2.2.2.1 h (fun r_1 h => ?_)
  refine s_istore (lv' := [(0, .ref (ad 0)), (1, .int v1), (2, .int v2), (3, .int v3), (4, .int r_1)]) hX zcdX9_market_51.2.2.2.2.2.1 (by decide) rfl ?_
  refine s_aload_n (k := 0) hX zcdX9_market_51.2.2.2.2.2.2.1 rfl rfl ?_
  refine s_iload_n (k := 2) hX zcdX9_market_51.2.2.2.2.2.2.2 rfl rfl ?_
  refine e_callVp hX (t_X9_strideOf v2 M) mX9_strideOf lX9_175 (by decide) (by decide) oC0 rfl rfl rfl rfl rfl (Nat.le_of_ble_eq_true rfl) zcdX9_meet_9.1 h (fun r_2 h => ?_)
  refine s_istore (lv' := [(0, .ref (ad 0)), (1, .int v1), (2, .int v2), (3, .int v3), (4, .int r_1), (5, .int r_2)]) hX zcdX9_meet_9.2.1 (by decide) rfl ?_
  refine s_iload (k := 4) hX zcdX9_meet_9.2.2.1 rfl ?_
  refine e_if_eq (tgt := 31) hX zcdX9_meet_9.2.2.2.1 (by decide) z_eq h (fun h => ?_) (fun h => ?_)
  · refine s_iconst (v := (-1)) hX zcdX9_meet_28.2.1 (by decide) ?_
    exact e_ireti hX hR zcdX9_meet_28.2.2.1 h
  · refine s_iload (k := 5) hX zcdX9_meet_9.2.2.2.2.1 rfl ?_
    refine e_if_eq (tgt := 31) hX zcdX9_meet_9.2.2.2.2.2.1 (by decide) z_eq h (fun h => ?_) (fun h => ?_)
    · refine s_iconst (v := (-1)) hX zcdX9_meet_28.2.1 (by decide) ?_
      exact e_ireti hX hR zcdX9_meet_28.2.2.1 h
    · refine s_iload_n (k := 3) hX zcdX9_meet_9.2.2.2.2.2.2.1 rfl rfl ?_
      refine e_callSp hX (t_X9_isEither v3 M) mX9_isEither lX9_182 (by decide) (by decide) rfl rfl (Nat.le_of_ble_eq_true rfl) zcdX9_meet_9.2.2.2.2.2.2.2 h (fun r_3 h => ?_)
      refine e_if_ne (tgt := 33) hX zcdX9_meet_28.1 (by decide) z_eq h (fun h => ?_) (fun h => ?_)
      · refine s_aload_n (k := 0) hX zcdX9_meet_28.2.2.2.1 rfl rfl ?_
        refine s_get hX fX9_39 oC0 rfl zcdX9_meet_28.2.2.2.2.1 ?_
        refine s_aload_n (k := 0) hX zcdX9_meet_28.2.2.2.2.2.1 rfl rfl ?_
        refine s_get hX fX9_10 oC0 rfl zcdX9_meet_28.2.2.2.2.2.2.1 ?_
        refine s_iload (k := 4) hX zcdX9_meet_28.2.2.2.2.2.2.2 rfl ?_
        refine s_iload (k := 5) hX zcdX9_meet_43.1 rfl ?_
        refine s_iload_n (k := 3) hX zcdX9_meet_43.2.1 rfl rfl ?_
        refine e_callVi hX (t_X8_meeting 1 (Or.inl rfl) r_1 r_2 v3 M) mX8_meeting lX9_212 (by decide) (by decide) oC23 rfl rfl rfl rfl rfl (Nat.le_of_ble_eq_true rfl) zcdX9_meet_43.2.2.1 h (fun r_4 M_5 h => ?_)
        exact e_ireti hX hR zcdX9_meet_43.2.2.2.1 h
      · refine s_iconst (v := (-1)) hX zcdX9_meet_28.2.1 (by decide) ?_
        exact e_ireti hX hR zcdX9_meet_28.2.2.1 h
set_option maxHeartbeats 4000000 in
theorem t_X9_nights (v1 : Int32) (M : Mem) : AXi yX9_nights cX9_nights 2 (some .int) 6 60 glC (fun ad => [.ref (ad 0), .int v1]) M (f_X9_nights M v1) := by
  intro r0 h
  refine AM.of (by decide) (fun _ => Nat.le_of_ble_eq_true rfl) (fun X ad cI cZ cB hX hR => ?_)
  show V X M [(0, .ref (ad 0)), (1, .int v1)] [] 0
  refine s_iload_n (k := 1) hX zcdX9_meet_43.2.2.2.2.1 rfl rfl ?_
  refine e_callSp hX (t_X9_isNights v1 M) mX9_isNights lX9_138 (by decide) (by decide) rfl rfl (Nat.le_of_ble_eq_true rfl) zcdX9_meet_43.2.2.2.2.2.1 h (fun r_1 h => ?_)
  refine e_if_ne (tgt := 9) hX zcdX9_meet_43.2.2.2.2.2.2.1 (by decide) z_eq h (fun h => ?_) (fun h => ?_)
  · refine s_aload_n (k := 0) hX zcdX9_nights_8.2.1 rfl rfl ?_
    refine s_get hX fX9_32 oC0 rfl zcdX9_nights_8.2.2.1 ?_
    refine s_aload_n (k := 0) hX zcdX9_nights_8.2.2.2.1 rfl rfl ?_
    refine s_get hX fX9_10 oC0 rfl zcdX9_nights_8.2.2.2.2.1 ?_
    refine s_aload_n (k := 0) hX zcdX9_nights_8.2.2.2.2.2.1 rfl rfl ?_
    refine s_get hX fX9_71 oC0 rfl zcdX9_nights_8.2.2.2.2.2.2.1 ?_
    refine e_rl h (fun c_2 hc_2 ecc_2 h => ?_)
    refine s_iload_n (k := 1) hX zcdX9_nights_8.2.2.2.2.2.2.2 rfl rfl ?_
    refine e_callVv hX (t_X5_pass 1 (Or.inl rfl) c_2 hc_2 v1 M) mX5_pass lX9_141 (by decide) (by decide) oC21 rfl rfl rfl rfl rfl (Nat.le_of_ble_eq_true rfl) zcdX9_nights_22.1 h (fun M_3 h => ?_)
    refine s_aload_n (k := 0) hX zcdX9_nights_22.2.1 rfl rfl ?_
    refine s_get hX fX9_32 oC0 rfl zcdX9_nights_22.2.2.1 ?_
    refine s_get hX fX9_145 oC21 rfl zcdX9_nights_22.2.2.2.1 ?_
    exact e_ireti hX hR zcdX9_nights_22.2.2.2.2.1 h
  · refine s_iconst (v := (-1)) hX zcdX9_meet_43.2.2.2.2.2.2.2 (by decide) ?_
    exact e_ireti hX hR zcdX9_nights_8.1 h
set_option maxHeartbeats 4000000 in
theorem t_X9_readLine (b : Nat) (hb : isF b) (v2 : Int32) (M : Mem) : AXi yX9_readLine cX9_readLine 9 (some .boolean) 2 60 glC (fun ad => [.ref (ad 19), .ref (ad b), .int v2]) M (f_X9_readLine b M v2) := by
  intro r0 h
  refine AM.of (by decide) (fun _ => Nat.le_of_ble_eq_true rfl) (fun X ad cI cZ cB hX hR => ?_)
  show V X M [(0, .ref (ad 19)), (1, .ref (ad b)), (2, .int v2)] [] 0
  refine s_aload_n (k := 0) hX zcdX9_nights_22.2.2.2.2.2.1 rfl rfl ?_
  refine s_get hX fX9_310 oC19 rfl zcdX9_nights_22.2.2.2.2.2.2.1 ?_
  refine e_bnd h (fun x_1 h => ?_)
  refine s_istore_n (lv' := [(0, .ref (ad 19)), (1, .ref (ad b)), (2, .int v2), (3, .int x_1)]) hX zcdX9_nights_22.2.2.2.2.2.2.2 rfl (by decide) rfl ?_
  refine s_aload_n (k := 0) hX zcdX9_readLine_5.1 rfl rfl ?_
  refine s_iconst (v := (nI 2)) hX zcdX9_readLine_5.2.1 (by decide) ?_
  refine e_callVi hX (t_X7_number (nI 2) M) mX7_number lX9_316 (by decide) (by decide) oC19 rfl rfl rfl rfl rfl (Nat.le_of_ble_eq_true rfl) zcdX9_readLine_5.2.2.1 h (fun r_2 M_3 h => ?_)
  refine s_istore (lv' := [(0, .ref (ad 19)), (1, .ref (ad b)), (2, .int v2), (3, .int x_1), (4, .int r_2)]) hX zcdX9_readLine_5.2.2.2.1 (by decide) rfl ?_
  refine s_iload (k := 4) hX zcdX9_readLine_5.2.2.2.2.1 rfl ?_
  refine s_iconst (v := (-1)) hX zcdX9_readLine_5.2.2.2.2.2.1 (by decide) ?_
  refine e_icmp_ne (tgt := 20) hX zcdX9_readLine_5.2.2.2.2.2.2.1 (by decide) (m_eq (by decide +kernel)) h (fun h => ?_) (fun h => ?_)
  · refine s_iload (k := 4) hX zcdX9_readLine_19.2.1 rfl ?_
    refine s_bipush (v := (nI 39)) hX zcdX9_readLine_19.2.2.1 (by decide) ?_
    refine e_icmp_le (tgt := 34) hX zcdX9_readLine_19.2.2.2.1 (by decide) (m_le (by decide +kernel)) h (fun h => ?_) (fun h => ?_)
    · refine s_aload_n (k := 0) hX zcdX9_readLine_33.2.1 rfl rfl ?_
      refine s_bipush (v := (nI 44)) hX zcdX9_readLine_33.2.2.1 (by decide) ?_
      refine e_callVi hX (t_X7_skip (nI 44) M_3) mX7_skip lX9_304 (by decide) (by decide) oC19 rfl rfl rfl rfl rfl (Nat.le_of_ble_eq_true rfl) zcdX9_readLine_33.2.2.2.1 h (fun r_4 M_5 h => ?_)
      refine e_if_ne (tgt := 45) hX zcdX9_readLine_33.2.2.2.2.1 (by decide) z_eq h (fun h => ?_) (fun h => ?_)
      · refine s_aload_n (k := 0) hX zcdX9_readLine_33.2.2.2.2.2.2.2 rfl rfl ?_
        refine s_get hX fX9_310 oC19 rfl zcdX9_readLine_46.1 ?_
        refine e_bnd h (fun x_6 h => ?_)
        refine s_istore (lv' := [(0, .ref (ad 19)), (1, .ref (ad b)), (2, .int v2), (3, .int x_1), (4, .int r_2), (5, .int x_6)]) hX zcdX9_readLine_46.2.1 (by decide) rfl ?_
        refine s_aload_n (k := 0) hX zcdX9_readLine_46.2.2.1 rfl rfl ?_
        refine s_iconst (v := (nI 2)) hX zcdX9_readLine_46.2.2.2.1 (by decide) ?_
        refine e_callVi hX (t_X7_number (nI 2) M_5) mX7_number lX9_316 (by decide) (by decide) oC19 rfl rfl rfl rfl rfl (Nat.le_of_ble_eq_true rfl) zcdX9_readLine_46.2.2.2.2.1 h (fun r_7 M_8 h => ?_)
        refine s_istore (lv' := [(0, .ref (ad 19)), (1, .ref (ad b)), (2, .int v2), (3, .int x_1), (4, .int r_2), (5, .int x_6), (6, .int r_7)]) hX zcdX9_readLine_46.2.2.2.2.2.1 (by decide) rfl ?_
        refine s_iload (k := 6) hX zcdX9_readLine_46.2.2.2.2.2.2.1 rfl ?_
        refine s_iconst (v := (-1)) hX zcdX9_readLine_46.2.2.2.2.2.2.2 (by decide) ?_
        refine e_icmp_ne (tgt := 66) hX zcdX9_readLine_61.1 (by decide) (m_eq (by decide +kernel)) h (fun h => ?_) (fun h => ?_)
        · refine s_iload (k := 6) hX zcdX9_readLine_61.2.2.2.1 rfl ?_
          refine s_iconst (v := (nI 1)) hX zcdX9_readLine_61.2.2.2.2.1 (by decide) ?_
          have j79 : f_X9_readLine_L79 x_6 M_8 = some r0 → V X M_8 [(0, .ref (ad 19)), (5, .int x_6)] [] 79 := by
            intro  h
            refine s_aload_n (k := 0) hX zcdX9_readLine_76.2.1 rfl rfl ?_
            refine s_iconst (v := (nI 3)) hX zcdX9_readLine_76.2.2.1 (by decide) ?_
            refine s_iload (k := 1) hX zcdX9_readLine_76.2.2.2.1 rfl ?_
            refine e_callVi hX (t_X7_refuse (nI 3) x_6 M_8) mX7_refuse lX9_313 (by decide) (by decide) oC19 rfl rfl rfl rfl rfl (Nat.le_of_ble_eq_true rfl) zcdX9_readLine_76.2.2.2.2.1 h (fun r_9 M_10 h => ?_)
            exact e_zreti hX hR zcdX9_readLine_76.2.2.2.2.2.1 h
          refine e_icmp_lt (tgt := 79) hX zcdX9_readLine_61.2.2.2.2.2.1 (by decide) (m_lt (by decide +kernel)) h (fun h => ?_) (fun h => ?_)
          · refine s_loc [0, 5] rfl ?_
            exact j79 h
          · refine s_iload (k := 6) hX zcdX9_readLine_61.2.2.2.2.2.2.1 rfl ?_
            refine s_bipush (v := (nI 20)) hX zcdX9_readLine_61.2.2.2.2.2.2.2 (by decide) ?_
            refine e_icmp_le (tgt := 87) hX zcdX9_readLine_76.1 (by decide) (m_le (by decide +kernel)) h (fun h => ?_) (fun h => ?_)
            · refine s_aload_n (k := 1) hX zcdX9_readLine_76.2.2.2.2.2.2.1 rfl rfl ?_
              refine s_iload (k := 4) hX zcdX9_readLine_76.2.2.2.2.2.2.2 rfl ?_
              refine s_iload (k := 6) hX zcdX9_readLine_90.1 rfl ?_
              refine e_callVp hX (t_X2_stoneAt b hb r_2 r_7 M_8) mX2_stoneAt lX9_90 (by decide) (by decide) (oF hb) rfl rfl rfl rfl rfl (Nat.le_of_ble_eq_true rfl) zcdX9_readLine_90.2.1 h (fun r_11 h => ?_)
              refine s_iconst (v := (-1)) hX zcdX9_readLine_90.2.2.1 (by decide) ?_
              refine e_icmp_eq (tgt := 107) hX zcdX9_readLine_90.2.2.2.1 (by decide) (m_eq (by decide +kernel)) h (fun h => ?_) (fun h => ?_)
              · refine s_iconst (v := (nI 0)) hX zcdX9_readLine_106.2.1 (by decide) ?_
                refine s_istore (lv' := [(0, .ref (ad 19)), (1, .ref (ad b)), (2, .int v2), (3, .int x_1), (4, .int r_2), (5, .int x_6), (6, .int r_7), (7, .int (nI 0))]) hX zcdX9_readLine_106.2.2.1 (by decide) rfl ?_
                refine s_aload_n (k := 0) hX zcdX9_readLine_106.2.2.2.1 rfl rfl ?_
                refine e_callVp hX (t_X7_here M_8) mX7_here lX9_301 (by decide) (by decide) oC19 rfl rfl rfl rfl rfl (Nat.le_of_ble_eq_true rfl) zcdX9_readLine_106.2.2.2.2.1 h (fun r_12 h => ?_)
                refine s_bipush (v := (nI 115)) hX zcdX9_readLine_106.2.2.2.2.2.1 (by decide) ?_
                have j168 : ∀ (N168 : Mem) (z7_168 : Int32), f_X9_readLine_L168 b v2 r_2 r_7 N168 z7_168 = some r0 → V X N168 [(0, .ref (ad 19)), (1, .ref (ad b)), (2, .int v2), (4, .int r_2), (6, .int r_7), (7, .int z7_168)] [] 168 := by
                  intro N168 z7_168 h
                  refine s_aload_n (k := 0) hX zcdX9_readLine_164.2.2.1 rfl rfl ?_
                  refine e_callVp hX (t_X7_here N168) mX7_here lX9_301 (by decide) (by decide) oC19 rfl rfl rfl rfl rfl (Nat.le_of_ble_eq_true rfl) zcdX9_readLine_164.2.2.2.1 h (fun r_13 h => ?_)
                  refine s_bipush (v := (nI 117)) hX zcdX9_readLine_164.2.2.2.2.1 (by decide) ?_
                  have j182 : ∀ (t0_182 : Int32), f_X9_readLine_L182 b v2 r_2 r_7 N168 z7_168 t0_182 = some r0 → V X N168 [(0, .ref (ad 19)), (1, .ref (ad b)), (2, .int v2), (4, .int r_2), (6, .int r_7), (7, .int z7_168)] [.int t0_182] 182 := by
                    intro t0_182 h
                    refine s_istore (lv' := [(0, .ref (ad 19)), (1, .ref (ad b)), (2, .int v2), (4, .int r_2), (6, .int r_7), (7, .int z7_168), (8, .int t0_182)]) hX zcdX9_readLine_181.2.1 (by decide) rfl ?_
                    refine s_iload (k := 6) hX zcdX9_readLine_181.2.2.1 rfl ?_
                    have j199 : ∀ (N199 : Mem), f_X9_readLine_L199 b v2 r_2 r_7 z7_168 t0_182 N199 = some r0 → V X N199 [(1, .ref (ad b)), (2, .int v2), (4, .int r_2), (6, .int r_7), (7, .int z7_168), (8, .int t0_182)] [] 199 := by
                      intro N199 h
                      refine s_aload_n (k := 0) hX zcdX9_readLine_195.2.2.1 rfl rfl ?_
                      refine s_iload_n (k := 1) hX zcdX9_readLine_195.2.2.2.1 rfl rfl ?_
                      refine s_iload (k := 2) hX zcdX9_readLine_195.2.2.2.2.1 rfl ?_
                      refine s_iload (k := 3) hX zcdX9_readLine_195.2.2.2.2.2.1 rfl ?_
                      refine s_iload (k := 4) hX zcdX9_readLine_195.2.2.2.2.2.2.1 rfl ?_
                      refine s_iload (k := 5) hX zcdX9_readLine_195.2.2.2.2.2.2.2 rfl ?_
                      refine e_callVv hX (t_X2_lay b hb v2 r_2 r_7 z7_168 t0_182 N199) mX2_lay lX9_94 (by decide) (by decide) (oF hb) rfl rfl rfl rfl rfl (Nat.le_of_ble_eq_true rfl) zcdX9_readLine_209.1 h (fun M_14 h => ?_)
                      refine s_iconst (v := (nI 1)) hX zcdX9_readLine_209.2.1 (by decide) ?_
                      exact e_zretiL hX hR zcdX9_readLine_209.2.2.1 (by decide) h
                    refine e_if_eq (tgt := 199) hX zcdX9_readLine_181.2.2.2.1 (by decide) z_eq h (fun h => ?_) (fun h => ?_)
                    · refine s_loc [1, 2, 3, 4, 5, 6] rfl ?_
                      exact j199 N168 h
                    · refine s_aload_n (k := 0) hX zcdX9_readLine_181.2.2.2.2.1 rfl rfl ?_
                      refine s_dup hX zcdX9_readLine_181.2.2.2.2.2.1 rfl ?_
                      refine s_get hX fX9_310 oC19 rfl zcdX9_readLine_181.2.2.2.2.2.2.1 ?_
                      refine s_iconst (v := (nI 1)) hX zcdX9_readLine_181.2.2.2.2.2.2.2 (by decide) ?_
                      refine s_iadd hX zcdX9_readLine_195.1 ?_
                      refine s_puti (ty := .int) hX fX9_310 oC19 rfl (Nat.le_of_ble_eq_true rfl) ty_7_3 rfl rfl zcdX9_readLine_195.2.1 ?_
                      refine e_bndM h (fun M_15 h => ?_)
                      refine s_loc [1, 2, 3, 4, 5, 6] rfl ?_
                      exact j199 M_15 h
                  refine e_icmp_ne (tgt := 181) hX zcdX9_readLine_164.2.2.2.2.2.1 (by decide) (m_eq (by decide +kernel)) h (fun h => ?_) (fun h => ?_)
                  · refine s_iconst (v := (nI 0)) hX zcdX9_readLine_181.1 (by decide) ?_
                    exact j182 (nI 0) h
                  · refine s_iconst (v := (nI 1)) hX zcdX9_readLine_164.2.2.2.2.2.2.1 (by decide) ?_
                    refine s_goto (tgt := 182) hX zcdX9_readLine_164.2.2.2.2.2.2.2 (by decide) ?_
                    exact j182 (nI 1) h
                refine e_icmp_ne (tgt := 168) hX zcdX9_readLine_106.2.2.2.2.2.2.1 (by decide) (m_eq (by decide +kernel)) h (fun h => ?_) (fun h => ?_)
                · refine s_loc [0, 1, 2, 4, 6, 7] rfl ?_
                  exact j168 M_8 (nI 0) h
                · refine s_aload_n (k := 0) hX zcdX9_readLine_106.2.2.2.2.2.2.2 rfl rfl ?_
                  refine s_dup hX zcdX9_readLine_120.1 rfl ?_
                  refine s_get hX fX9_310 oC19 rfl zcdX9_readLine_120.2.1 ?_
                  refine s_iconst (v := (nI 1)) hX zcdX9_readLine_120.2.2.1 (by decide) ?_
                  refine s_iadd hX zcdX9_readLine_120.2.2.2.1 ?_
                  refine s_puti (ty := .int) hX fX9_310 oC19 rfl (Nat.le_of_ble_eq_true rfl) ty_7_3 rfl rfl zcdX9_readLine_120.2.2.2.2.1 ?_
                  refine e_bndM h (fun M_16 h => ?_)
                  refine s_aload_n (k := 0) hX zcdX9_readLine_120.2.2.2.2.2.1 rfl rfl ?_
                  refine e_callVp hX (t_X7_here M_16) mX7_here lX9_301 (by decide) (by decide) oC19 rfl rfl rfl rfl rfl (Nat.le_of_ble_eq_true rfl) zcdX9_readLine_120.2.2.2.2.2.2.1 h (fun r_17 h => ?_)
                  refine e_callSp hX (t_X7_isDigit r_17 M_16) mX7_isDigit lX9_307 (by decide) (by decide) rfl rfl (Nat.le_of_ble_eq_true rfl) zcdX9_readLine_120.2.2.2.2.2.2.2 h (fun r_18 h => ?_)
                  refine e_if_ne (tgt := 149) hX zcdX9_readLine_136.1 (by decide) z_eq h (fun h => ?_) (fun h => ?_)
                  · refine s_aload_n (k := 0) hX zcdX9_readLine_136.2.2.2.2.2.2.2 rfl rfl ?_
                    refine e_callVp hX (t_X7_here M_16) mX7_here lX9_301 (by decide) (by decide) oC19 rfl rfl rfl rfl rfl (Nat.le_of_ble_eq_true rfl) zcdX9_readLine_150.1 h (fun r_19 h => ?_)
                    refine s_bipush (v := (nI 48)) hX zcdX9_readLine_150.2.1 (by decide) ?_
                    refine s_isub hX zcdX9_readLine_150.2.2.1 ?_
                    refine s_istore (lv' := [(0, .ref (ad 19)), (1, .ref (ad b)), (2, .int v2), (3, .int x_1), (4, .int r_2), (5, .int x_6), (6, .int r_7), (7, .int (r_19 - (nI 48)))]) hX zcdX9_readLine_150.2.2.2.1 (by decide) rfl ?_
                    refine s_aload_n (k := 0) hX zcdX9_readLine_150.2.2.2.2.1 rfl rfl ?_
                    refine s_dup hX zcdX9_readLine_150.2.2.2.2.2.1 rfl ?_
                    refine s_get hX fX9_310 oC19 rfl zcdX9_readLine_150.2.2.2.2.2.2.1 ?_
                    refine s_iconst (v := (nI 1)) hX zcdX9_readLine_150.2.2.2.2.2.2.2 (by decide) ?_
                    refine s_iadd hX zcdX9_readLine_164.1 ?_
                    refine s_puti (ty := .int) hX fX9_310 oC19 rfl (Nat.le_of_ble_eq_true rfl) ty_7_3 rfl rfl zcdX9_readLine_164.2.1 ?_
                    refine e_bndM h (fun M_20 h => ?_)
                    refine s_loc [0, 1, 2, 4, 6, 7] rfl ?_
                    exact j168 M_20 (r_19 - (nI 48)) h
                  · refine s_aload_n (k := 0) hX zcdX9_readLine_136.2.1 rfl rfl ?_
                    refine s_iconst (v := (nI 1)) hX zcdX9_readLine_136.2.2.1 (by decide) ?_
                    refine s_aload_n (k := 0) hX zcdX9_readLine_136.2.2.2.1 rfl rfl ?_
                    refine s_get hX fX9_310 oC19 rfl zcdX9_readLine_136.2.2.2.2.1 ?_
                    refine e_callVi hX (t_X7_refuse (nI 1) (M_16 19 3) M_16) mX7_refuse lX9_313 (by decide) (by decide) oC19 rfl rfl rfl rfl rfl (Nat.le_of_ble_eq_true rfl) zcdX9_readLine_136.2.2.2.2.2.1 h (fun r_21 M_22 h => ?_)
                    exact e_zreti hX hR zcdX9_readLine_136.2.2.2.2.2.2.1 h
              · refine s_aload_n (k := 0) hX zcdX9_readLine_90.2.2.2.2.1 rfl rfl ?_
                refine s_bipush (v := (nI 6)) hX zcdX9_readLine_90.2.2.2.2.2.1 (by decide) ?_
                refine s_iload_n (k := 3) hX zcdX9_readLine_90.2.2.2.2.2.2.1 rfl rfl ?_
                refine e_callVi hX (t_X7_refuse (nI 6) x_1 M_8) mX7_refuse lX9_313 (by decide) (by decide) oC19 rfl rfl rfl rfl rfl (Nat.le_of_ble_eq_true rfl) zcdX9_readLine_90.2.2.2.2.2.2.2 h (fun r_23 M_24 h => ?_)
                exact e_zreti hX hR zcdX9_readLine_106.1 h
            · refine s_loc [0, 5] rfl ?_
              exact j79 h
        · refine s_iconst (v := (nI 0)) hX zcdX9_readLine_61.2.1 (by decide) ?_
          exact e_zretiL hX hR zcdX9_readLine_61.2.2.1 (by decide) h
      · refine s_iconst (v := (nI 0)) hX zcdX9_readLine_33.2.2.2.2.2.1 (by decide) ?_
        exact e_zretiL hX hR zcdX9_readLine_33.2.2.2.2.2.2.1 (by decide) h
    · refine s_aload_n (k := 0) hX zcdX9_readLine_19.2.2.2.2.1 rfl rfl ?_
      refine s_iconst (v := (nI 3)) hX zcdX9_readLine_19.2.2.2.2.2.1 (by decide) ?_
      refine s_iload_n (k := 3) hX zcdX9_readLine_19.2.2.2.2.2.2.1 rfl rfl ?_
      refine e_callVi hX (t_X7_refuse (nI 3) x_1 M_3) mX7_refuse lX9_313 (by decide) (by decide) oC19 rfl rfl rfl rfl rfl (Nat.le_of_ble_eq_true rfl) zcdX9_readLine_19.2.2.2.2.2.2.2 h (fun r_25 M_26 h => ?_)
      exact e_zreti hX hR zcdX9_readLine_33.1 h
  · refine s_iconst (v := (nI 0)) hX zcdX9_readLine_5.2.2.2.2.2.2.2 (by decide) ?_
    exact e_zretiL hX hR zcdX9_readLine_19.1 (by decide) h
set_option maxHeartbeats 4000000 in
theorem t_X9_readNotebook (b : Nat) (hb : isF b) (M : Mem) : AXi yX9_readNotebook cX9_readNotebook 3 (some .int) 3 60 glC (fun ad => [.ref (ad 19), .ref (ad b)]) M (f_X9_readNotebook b M) := by
  intro r0 h
  refine AM.of (by decide) (fun _ => Nat.le_of_ble_eq_true rfl) (fun X ad cI cZ cB hX hR => ?_)
  show V X M [(0, .ref (ad 19)), (1, .ref (ad b))] [] 0
  refine s_aload_n (k := 1) hX zcdX9_readLine_209.2.2.2.1 rfl rfl ?_
  refine e_callVv hX (t_X2_clearStones b hb M) mX2_clearStones lX9_294 (by decide) (by decide) (oF hb) rfl rfl rfl rfl rfl (Nat.le_of_ble_eq_true rfl) zcdX9_readLine_209.2.2.2.2.1 h (fun M_1 h => ?_)
  refine s_iconst (v := (nI 0)) hX zcdX9_readLine_209.2.2.2.2.2.1 (by decide) ?_
  refine s_istore_n (lv' := [(0, .ref (ad 19)), (1, .ref (ad b)), (2, .int (nI 0))]) hX zcdX9_readLine_209.2.2.2.2.2.2.1 rfl (by decide) rfl ?_
  have lp6 : ∀ (N6 : Nat) (M6 : Mem) (y2_6 : Int32), wlp2 (f_X9_readNotebook_B6 b) N6 M6 y2_6 = some r0 → V X M6 [(0, .ref (ad 19)), (1, .ref (ad b)), (2, .int y2_6)] [] 6 := by
    intro N6
    induction N6 with
    | zero => exact fun _ _ h => e_none h
    | succ N6 ih6 =>
      intro M6 y2_6 h
      replace h : f_X9_readNotebook_B6 b (wlp2 (f_X9_readNotebook_B6 b) N6) M6 y2_6 = some r0 := h
      generalize wlp2 (f_X9_readNotebook_B6 b) N6 = ag6 at ih6 h
      refine s_iload_n (k := 2) hX zcdX9_readLine_209.2.2.2.2.2.2.2 rfl rfl ?_
      refine s_bipush (v := (nI 40)) hX zcdX9_readNotebook_7.1 (by decide) ?_
      have j58 : f_X9_readNotebook_L58 M6 = some r0 → V X M6 [(0, .ref (ad 19))] [] 58 := by
        intro  h
        refine s_aload_n (k := 0) hX zcdX9_readNotebook_51.2.2.2.1 rfl rfl ?_
        refine s_aload_n (k := 0) hX zcdX9_readNotebook_51.2.2.2.2.1 rfl rfl ?_
        refine e_callVp hX (t_X7_here M6) mX7_here lX9_301 (by decide) (by decide) oC19 rfl rfl rfl rfl rfl (Nat.le_of_ble_eq_true rfl) zcdX9_readNotebook_51.2.2.2.2.2.1 h (fun r_2 h => ?_)
        refine e_callSp hX (t_X7_isDigit r_2 M6) mX7_isDigit lX9_307 (by decide) (by decide) rfl rfl (Nat.le_of_ble_eq_true rfl) zcdX9_readNotebook_51.2.2.2.2.2.2.1 h (fun r_3 h => ?_)
        have j74 : ∀ (t0_74 : Int32), f_X9_readNotebook_L74 M6 t0_74 = some r0 → V X M6 [(0, .ref (ad 19))] [.int t0_74, .ref (ad 19)] 74 := by
          intro t0_74 h
          refine s_aload_n (k := 0) hX zcdX9_readNotebook_69.2.2.2.1 rfl rfl ?_
          refine s_get hX fX9_310 oC19 rfl zcdX9_readNotebook_69.2.2.2.2.1 ?_
          refine e_callVi hX (t_X7_refuse t0_74 (M6 19 3) M6) mX7_refuse lX9_313 (by decide) (by decide) oC19 rfl rfl rfl rfl rfl (Nat.le_of_ble_eq_true rfl) zcdX9_readNotebook_69.2.2.2.2.2.1 h (fun r_4 M_5 h => ?_)
          refine s_pop hX zcdX9_readNotebook_69.2.2.2.2.2.2.1 rfl ?_
          refine s_aload_n (k := 0) hX zcdX9_readNotebook_69.2.2.2.2.2.2.2 rfl rfl ?_
          refine s_get hX fX9_220 oC19 rfl zcdX9_readNotebook_83.1 ?_
          exact e_ireti hX hR zcdX9_readNotebook_83.2 h
        refine e_if_eq (tgt := 73) hX zcdX9_readNotebook_51.2.2.2.2.2.2.2 (by decide) z_eq h (fun h => ?_) (fun h => ?_)
        · refine s_iconst (v := (nI 1)) hX zcdX9_readNotebook_69.2.2.1 (by decide) ?_
          exact j74 (nI 1) h
        · refine s_iconst (v := (nI 4)) hX zcdX9_readNotebook_69.1 (by decide) ?_
          refine s_goto (tgt := 74) hX zcdX9_readNotebook_69.2.1 (by decide) ?_
          exact j74 (nI 4) h
      refine e_icmp_ge (tgt := 58) hX zcdX9_readNotebook_7.2.1 (by decide) (m_ge (by decide +kernel)) h (fun h => ?_) (fun h => ?_)
      · refine s_loc [0] rfl ?_
        exact j58 h
      · refine s_aload_n (k := 0) hX zcdX9_readNotebook_7.2.2.1 rfl rfl ?_
        refine s_aload_n (k := 1) hX zcdX9_readNotebook_7.2.2.2.1 rfl rfl ?_
        refine s_iload_n (k := 2) hX zcdX9_readNotebook_7.2.2.2.2.1 rfl rfl ?_
        refine e_callSi hX (t_X9_readLine b hb y2_6 M6) mX9_readLine lX9_297 (by decide) (by decide) rfl rfl (Nat.le_of_ble_eq_true rfl) zcdX9_readNotebook_7.2.2.2.2.2.1 h (fun r_6 M_7 h => ?_)
        refine e_if_ne (tgt := 26) hX zcdX9_readNotebook_7.2.2.2.2.2.2.1 (by decide) z_eq h (fun h => ?_) (fun h => ?_)
        · refine s_aload_n (k := 0) hX zcdX9_readNotebook_22.2.2.1 rfl rfl ?_
          refine e_callVp hX (t_X7_here M_7) mX7_here lX9_301 (by decide) (by decide) oC19 rfl rfl rfl rfl rfl (Nat.le_of_ble_eq_true rfl) zcdX9_readNotebook_22.2.2.2.1 h (fun r_8 h => ?_)
          refine s_iconst (v := (-1)) hX zcdX9_readNotebook_22.2.2.2.2.1 (by decide) ?_
          refine e_icmp_ne (tgt := 38) hX zcdX9_readNotebook_22.2.2.2.2.2.1 (by decide) (m_eq (by decide +kernel)) h (fun h => ?_) (fun h => ?_)
          · refine s_aload_n (k := 0) hX zcdX9_readNotebook_36.2.2.1 rfl rfl ?_
            refine s_bipush (v := (nI 59)) hX zcdX9_readNotebook_36.2.2.2.1 (by decide) ?_
            refine e_callVi hX (t_X7_skip (nI 59) M_7) mX7_skip lX9_304 (by decide) (by decide) oC19 rfl rfl rfl rfl rfl (Nat.le_of_ble_eq_true rfl) zcdX9_readNotebook_36.2.2.2.2.1 h (fun r_9 M_10 h => ?_)
            refine e_if_ne (tgt := 52) hX zcdX9_readNotebook_36.2.2.2.2.2.1 (by decide) z_eq h (fun h => ?_) (fun h => ?_)
            · refine s_iinc (k := 2) (v := (y2_6 + (nI 1))) (lv' := [(0, .ref (ad 19)), (1, .ref (ad b)), (2, .int (y2_6 + (nI 1)))]) hX zcdX9_readNotebook_51.2.1 (congrArg (fun z => y2_6 + z) (by decide)) (by decide) rfl rfl ?_
              refine s_goto (tgt := 6) hX zcdX9_readNotebook_51.2.2.1 (by decide) ?_
              exact ih6 M_10 (y2_6 + (nI 1)) h
            · refine s_aload_n (k := 0) hX zcdX9_readNotebook_36.2.2.2.2.2.2.1 rfl rfl ?_
              refine s_get hX fX9_220 oC19 rfl zcdX9_readNotebook_36.2.2.2.2.2.2.2 ?_
              exact e_ireti hX hR zcdX9_readNotebook_51.1 h
          · refine s_iload_n (k := 2) hX zcdX9_readNotebook_22.2.2.2.2.2.2.1 rfl rfl ?_
            refine s_iconst (v := (nI 1)) hX zcdX9_readNotebook_22.2.2.2.2.2.2.2 (by decide) ?_
            refine s_iadd hX zcdX9_readNotebook_36.1 ?_
            exact e_ireti hX hR zcdX9_readNotebook_36.2.1 h
        · refine s_aload_n (k := 0) hX zcdX9_readNotebook_7.2.2.2.2.2.2.2 rfl rfl ?_
          refine s_get hX fX9_220 oC19 rfl zcdX9_readNotebook_22.1 ?_
          exact e_ireti hX hR zcdX9_readNotebook_22.2.1 h
  exact lp6 FU M_1 (nI 0) h
