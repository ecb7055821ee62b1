theorem zcdJ6_bitCount_0f7a4_0 : decode cJ6_bitCount_0f7a4 0 = .ok (.iload_n 0, 1) ∧ decode cJ6_bitCount_0f7a4 1 = .ok (.iload_n 0, 1) ∧ decode cJ6_bitCount_0f7a4 2 = .ok (.iconst 1, 1) ∧ decode cJ6_bitCount_0f7a4 3 = .ok (.iushr, 1) ∧ decode cJ6_bitCount_0f7a4 4 = .ok (.ldc_w 265, 3) ∧ decode cJ6_bitCount_0f7a4 7 = .ok (.iand, 1) ∧ decode cJ6_bitCount_0f7a4 8 = .ok (.isub, 1) ∧ decode cJ6_bitCount_0f7a4 9 = .ok (.istore_n 0, 1) := by decide +kernel
theorem zcdJ6_bitCount_0f7a4_10 : decode cJ6_bitCount_0f7a4 10 = .ok (.iload_n 0, 1) ∧ decode cJ6_bitCount_0f7a4 11 = .ok (.ldc_w 266, 3) ∧ decode cJ6_bitCount_0f7a4 14 = .ok (.iand, 1) ∧ decode cJ6_bitCount_0f7a4 15 = .ok (.iload_n 0, 1) ∧ decode cJ6_bitCount_0f7a4 16 = .ok (.iconst 2, 1) ∧ decode cJ6_bitCount_0f7a4 17 = .ok (.iushr, 1) ∧ decode cJ6_bitCount_0f7a4 18 = .ok (.ldc_w 266, 3) ∧ decode cJ6_bitCount_0f7a4 21 = .ok (.iand, 1) := by decide +kernel
theorem zcdJ6_bitCount_0f7a4_22 : decode cJ6_bitCount_0f7a4 22 = .ok (.iadd, 1) ∧ decode cJ6_bitCount_0f7a4 23 = .ok (.istore_n 0, 1) ∧ decode cJ6_bitCount_0f7a4 24 = .ok (.iload_n 0, 1) ∧ decode cJ6_bitCount_0f7a4 25 = .ok (.iload_n 0, 1) ∧ decode cJ6_bitCount_0f7a4 26 = .ok (.iconst 4, 1) ∧ decode cJ6_bitCount_0f7a4 27 = .ok (.iushr, 1) ∧ decode cJ6_bitCount_0f7a4 28 = .ok (.iadd, 1) ∧ decode cJ6_bitCount_0f7a4 29 = .ok (.ldc_w 267, 3) := by decide +kernel
theorem zcdJ6_bitCount_0f7a4_32 : decode cJ6_bitCount_0f7a4 32 = .ok (.iand, 1) ∧ decode cJ6_bitCount_0f7a4 33 = .ok (.istore_n 0, 1) ∧ decode cJ6_bitCount_0f7a4 34 = .ok (.iload_n 0, 1) ∧ decode cJ6_bitCount_0f7a4 35 = .ok (.iload_n 0, 1) ∧ decode cJ6_bitCount_0f7a4 36 = .ok (.bipush 8, 2) ∧ decode cJ6_bitCount_0f7a4 38 = .ok (.iushr, 1) ∧ decode cJ6_bitCount_0f7a4 39 = .ok (.iadd, 1) ∧ decode cJ6_bitCount_0f7a4 40 = .ok (.istore_n 0, 1) := by decide +kernel
theorem zcdJ6_bitCount_0f7a4_41 : decode cJ6_bitCount_0f7a4 41 = .ok (.iload_n 0, 1) ∧ decode cJ6_bitCount_0f7a4 42 = .ok (.iload_n 0, 1) ∧ decode cJ6_bitCount_0f7a4 43 = .ok (.bipush 16, 2) ∧ decode cJ6_bitCount_0f7a4 45 = .ok (.iushr, 1) ∧ decode cJ6_bitCount_0f7a4 46 = .ok (.iadd, 1) ∧ decode cJ6_bitCount_0f7a4 47 = .ok (.istore_n 0, 1) ∧ decode cJ6_bitCount_0f7a4 48 = .ok (.iload_n 0, 1) ∧ decode cJ6_bitCount_0f7a4 49 = .ok (.bipush 63, 2) := by decide +kernel
theorem zcdJ6_bitCount_0f7a4_51 : decode cJ6_bitCount_0f7a4 51 = .ok (.iand, 1) ∧ decode cJ6_bitCount_0f7a4 52 = .ok (.ireturn, 1) ∧ decode cJ7_fill_53178 0 = .ok (.iconst 0, 1) ∧ decode cJ7_fill_53178 1 = .ok (.istore_n 2, 1) ∧ decode cJ7_fill_53178 2 = .ok (.aload_n 0, 1) ∧ decode cJ7_fill_53178 3 = .ok (.arraylength, 1) ∧ decode cJ7_fill_53178 4 = .ok (.istore_n 3, 1) ∧ decode cJ7_fill_53178 5 = .ok (.iload_n 2, 1) := by decide +kernel
theorem zcdJ7_fill_53178_6 : decode cJ7_fill_53178 6 = .ok (.iload_n 3, 1) ∧ decode cJ7_fill_53178 7 = .ok (.if_icmp .ge 13, 3) ∧ decode cJ7_fill_53178 10 = .ok (.aload_n 0, 1) ∧ decode cJ7_fill_53178 11 = .ok (.iload_n 2, 1) ∧ decode cJ7_fill_53178 12 = .ok (.iload_n 1, 1) ∧ decode cJ7_fill_53178 13 = .ok (.iastore, 1) ∧ decode cJ7_fill_53178 14 = .ok (.iinc 2 1, 3) ∧ decode cJ7_fill_53178 17 = .ok (.goto (-12), 3) := by decide +kernel
theorem zcdJ7_fill_53178_20 : decode cJ7_fill_53178 20 = .ok (.return_, 1) ∧ decode cX0_wayWith 0 = .ok (.iload_n 3, 1) ∧ decode cX0_wayWith 1 = .ok (.ifCond .lt 23, 3) ∧ decode cX0_wayWith 4 = .ok (.iload_n 3, 1) ∧ decode cX0_wayWith 5 = .ok (.bipush 7, 2) ∧ decode cX0_wayWith 7 = .ok (.if_icmp .ge 17, 3) ∧ decode cX0_wayWith 10 = .ok (.iload_n 2, 1) ∧ decode cX0_wayWith 11 = .ok (.ifCond .lt 13, 3) := by decide +kernel
theorem zcdX0_wayWith_14 : decode cX0_wayWith 14 = .ok (.iload_n 2, 1) ∧ decode cX0_wayWith 15 = .ok (.bipush 7, 2) ∧ decode cX0_wayWith 17 = .ok (.if_icmp .ge 7, 3) ∧ decode cX0_wayWith 20 = .ok (.iload_n 1, 1) ∧ decode cX0_wayWith 21 = .ok (.ifCond .ge 6, 3) ∧ decode cX0_wayWith 24 = .ok (.ldc 69, 2) ∧ decode cX0_wayWith 26 = .ok (.ireturn, 1) ∧ decode cX0_wayWith 27 = .ok (.iload_n 1, 1) := by decide +kernel
theorem zcdX0_wayWith_28 : decode cX0_wayWith 28 = .ok (.iconst 1, 1) ∧ decode cX0_wayWith 29 = .ok (.iload_n 3, 1) ∧ decode cX0_wayWith 30 = .ok (.ishl, 1) ∧ decode cX0_wayWith 31 = .ok (.ior, 1) ∧ decode cX0_wayWith 32 = .ok (.istore 4, 2) ∧ decode cX0_wayWith 34 = .ok (.iload 4, 2) ∧ decode cX0_wayWith 36 = .ok (.iload_n 1, 1) ∧ decode cX0_wayWith 37 = .ok (.if_icmp .eq 11, 3) := by decide +kernel
theorem zcdX0_wayWith_40 : decode cX0_wayWith 40 = .ok (.iload 4, 2) ∧ decode cX0_wayWith 42 = .ok (.sipush 128, 3) ∧ decode cX0_wayWith 45 = .ok (.if_icmp .lt 6, 3) ∧ decode cX0_wayWith 48 = .ok (.ldc 69, 2) ∧ decode cX0_wayWith 50 = .ok (.ireturn, 1) ∧ decode cX0_wayWith 51 = .ok (.aload_n 0, 1) ∧ decode cX0_wayWith 52 = .ok (.getfield 21, 3) ∧ decode cX0_wayWith 55 = .ok (.iload_n 2, 1) := by decide +kernel
theorem zcdX0_wayWith_56 : decode cX0_wayWith 56 = .ok (.bipush 7, 2) ∧ decode cX0_wayWith 58 = .ok (.imul, 1) ∧ decode cX0_wayWith 59 = .ok (.iload_n 3, 1) ∧ decode cX0_wayWith 60 = .ok (.iadd, 1) ∧ decode cX0_wayWith 61 = .ok (.iaload, 1) ∧ decode cX0_wayWith 62 = .ok (.aload_n 0, 1) ∧ decode cX0_wayWith 63 = .ok (.getfield 24, 3) ∧ decode cX0_wayWith 66 = .ok (.iload 4, 2) := by decide +kernel
theorem zcdX0_wayWith_68 : decode cX0_wayWith 68 = .ok (.iaload, 1) ∧ decode cX0_wayWith 69 = .ok (.iadd, 1) ∧ decode cX0_wayWith 70 = .ok (.ireturn, 1) ∧ decode cX0_fewestBehind 0 = .ok (.iload_n 2, 1) ∧ decode cX0_fewestBehind 1 = .ok (.invokestatic 64, 3) ∧ decode cX0_fewestBehind 4 = .ok (.istore_n 3, 1) ∧ decode cX0_fewestBehind 5 = .ok (.iload_n 3, 1) ∧ decode cX0_fewestBehind 6 = .ok (.iload_n 1, 1) := by decide +kernel
theorem zcdX0_fewestBehind_7 : decode cX0_fewestBehind 7 = .ok (.if_icmp .lt 5, 3) ∧ decode cX0_fewestBehind 10 = .ok (.iconst 0, 1) ∧ decode cX0_fewestBehind 11 = .ok (.ireturn, 1) ∧ decode cX0_fewestBehind 12 = .ok (.ldc 69, 2) ∧ decode cX0_fewestBehind 14 = .ok (.istore 4, 2) ∧ decode cX0_fewestBehind 16 = .ok (.iconst 0, 1) ∧ decode cX0_fewestBehind 17 = .ok (.istore 5, 2) ∧ decode cX0_fewestBehind 19 = .ok (.iload 5, 2) := by decide +kernel
theorem zcdX0_fewestBehind_21 : decode cX0_fewestBehind 21 = .ok (.iload_n 1, 1) ∧ decode cX0_fewestBehind 22 = .ok (.if_icmp .ge 31, 3) ∧ decode cX0_fewestBehind 25 = .ok (.iload 5, 2) ∧ decode cX0_fewestBehind 27 = .ok (.bipush 7, 2) ∧ decode cX0_fewestBehind 29 = .ok (.if_icmp .ge 24, 3) ∧ decode cX0_fewestBehind 32 = .ok (.iload 4, 2) ∧ decode cX0_fewestBehind 34 = .ok (.aload_n 0, 1) ∧ decode cX0_fewestBehind 35 = .ok (.iload_n 2, 1) := by decide +kernel
theorem zcdX0_fewestBehind_36 : decode cX0_fewestBehind 36 = .ok (.iload_n 3, 1) ∧ decode cX0_fewestBehind 37 = .ok (.iload 5, 2) ∧ decode cX0_fewestBehind 39 = .ok (.invokevirtual 70, 3) ∧ decode cX0_fewestBehind 42 = .ok (.invokestatic 42, 3) ∧ decode cX0_fewestBehind 45 = .ok (.istore 4, 2) ∧ decode cX0_fewestBehind 47 = .ok (.iinc 5 1, 3) ∧ decode cX0_fewestBehind 50 = .ok (.goto (-31), 3) ∧ decode cX0_fewestBehind 53 = .ok (.iload 4, 2) := by decide +kernel
theorem zcdX0_fewestBehind_55 : decode cX0_fewestBehind 55 = .ok (.ireturn, 1) ∧ decode cX2_nextTold 0 = .ok (.iload_n 1, 1) ∧ decode cX2_nextTold 1 = .ok (.iconst 0, 1) ∧ decode cX2_nextTold 2 = .ok (.invokestatic 39, 3) ∧ decode cX2_nextTold 5 = .ok (.istore_n 2, 1) ∧ decode cX2_nextTold 6 = .ok (.iload_n 2, 1) ∧ decode cX2_nextTold 7 = .ok (.bipush 40, 2) ∧ decode cX2_nextTold 9 = .ok (.if_icmp .ge 20, 3) := by decide +kernel
theorem zcdX2_nextTold_12 : decode cX2_nextTold 12 = .ok (.aload_n 0, 1) ∧ decode cX2_nextTold 13 = .ok (.getfield 21, 3) ∧ decode cX2_nextTold 16 = .ok (.iload_n 2, 1) ∧ decode cX2_nextTold 17 = .ok (.baload, 1) ∧ decode cX2_nextTold 18 = .ok (.ifCond .eq 5, 3) ∧ decode cX2_nextTold 21 = .ok (.iload_n 2, 1) ∧ decode cX2_nextTold 22 = .ok (.ireturn, 1) ∧ decode cX2_nextTold 23 = .ok (.iinc 2 1, 3) := by decide +kernel
theorem zcdX2_nextTold_26 : decode cX2_nextTold 26 = .ok (.goto (-20), 3) ∧ decode cX2_nextTold 29 = .ok (.iconst (-1), 1) ∧ decode cX2_nextTold 30 = .ok (.ireturn, 1) ∧ decode cX2_isTold 0 = .ok (.iload_n 1, 1) ∧ decode cX2_isTold 1 = .ok (.ifCond .lt 22, 3) ∧ decode cX2_isTold 4 = .ok (.iload_n 1, 1) ∧ decode cX2_isTold 5 = .ok (.bipush 40, 2) ∧ decode cX2_isTold 7 = .ok (.if_icmp .ge 16, 3) := by decide +kernel
theorem zcdX2_isTold_10 : decode cX2_isTold 10 = .ok (.aload_n 0, 1) ∧ decode cX2_isTold 11 = .ok (.getfield 21, 3) ∧ decode cX2_isTold 14 = .ok (.iload_n 1, 1) ∧ decode cX2_isTold 15 = .ok (.baload, 1) ∧ decode cX2_isTold 16 = .ok (.ifCond .eq 7, 3) ∧ decode cX2_isTold 19 = .ok (.iconst 1, 1) ∧ decode cX2_isTold 20 = .ok (.goto 4, 3) ∧ decode cX2_isTold 23 = .ok (.iconst 0, 1) := by decide +kernel
theorem zcdX2_isTold_24 : decode cX2_isTold 24 = .ok (.ireturn, 1) ∧ decode cX0_measure 0 = .ok (.iload_n 3, 1) ∧ decode cX0_measure 1 = .ok (.ifCond .lt 22, 3) ∧ decode cX0_measure 4 = .ok (.iload_n 3, 1) ∧ decode cX0_measure 5 = .ok (.bipush 7, 2) ∧ decode cX0_measure 7 = .ok (.if_icmp .ge 16, 3) ∧ decode cX0_measure 10 = .ok (.aload_n 1, 1) ∧ decode cX0_measure 11 = .ok (.aload_n 0, 1) := by decide +kernel
theorem zcdX0_measure_12 : decode cX0_measure 12 = .ok (.getfield 18, 3) ∧ decode cX0_measure 15 = .ok (.iload_n 3, 1) ∧ decode cX0_measure 16 = .ok (.iaload, 1) ∧ decode cX0_measure 17 = .ok (.invokevirtual 51, 3) ∧ decode cX0_measure 20 = .ok (.ifCond .ne 4, 3) ∧ decode cX0_measure 23 = .ok (.return_, 1) ∧ decode cX0_measure 24 = .ok (.aload_n 0, 1) ∧ decode cX0_measure 25 = .ok (.getfield 18, 3) := by decide +kernel
theorem zcdX0_measure_28 : decode cX0_measure 28 = .ok (.iload_n 3, 1) ∧ decode cX0_measure 29 = .ok (.iaload, 1) ∧ decode cX0_measure 30 = .ok (.istore 4, 2) ∧ decode cX0_measure 32 = .ok (.iconst 0, 1) ∧ decode cX0_measure 33 = .ok (.istore 5, 2) ∧ decode cX0_measure 35 = .ok (.iload 5, 2) ∧ decode cX0_measure 37 = .ok (.iload_n 2, 1) ∧ decode cX0_measure 38 = .ok (.if_icmp .ge 65, 3) := by decide +kernel
theorem zcdX0_measure_41 : decode cX0_measure 41 = .ok (.iload 5, 2) ∧ decode cX0_measure 43 = .ok (.bipush 7, 2) ∧ decode cX0_measure 45 = .ok (.if_icmp .ge 58, 3) ∧ decode cX0_measure 48 = .ok (.aload_n 0, 1) ∧ decode cX0_measure 49 = .ok (.getfield 21, 3) ∧ decode cX0_measure 52 = .ok (.iload 5, 2) ∧ decode cX0_measure 54 = .ok (.bipush 7, 2) ∧ decode cX0_measure 56 = .ok (.imul, 1) := by decide +kernel
theorem zcdX0_measure_57 : decode cX0_measure 57 = .ok (.iload_n 3, 1) ∧ decode cX0_measure 58 = .ok (.iadd, 1) ∧ decode cX0_measure 59 = .ok (.aload_n 1, 1) ∧ decode cX0_measure 60 = .ok (.getfield 55, 3) ∧ decode cX0_measure 63 = .ok (.iload 4, 2) ∧ decode cX0_measure 65 = .ok (.iaload, 1) ∧ decode cX0_measure 66 = .ok (.aload_n 0, 1) ∧ decode cX0_measure 67 = .ok (.getfield 9, 3) := by decide +kernel
theorem zcdX0_measure_70 : decode cX0_measure 70 = .ok (.iload 5, 2) ∧ decode cX0_measure 72 = .ok (.iaload, 1) ∧ decode cX0_measure 73 = .ok (.isub, 1) ∧ decode cX0_measure 74 = .ok (.invokestatic 58, 3) ∧ decode cX0_measure 77 = .ok (.aload_n 1, 1) ∧ decode cX0_measure 78 = .ok (.getfield 61, 3) ∧ decode cX0_measure 81 = .ok (.iload 4, 2) ∧ decode cX0_measure 83 = .ok (.iaload, 1) := by decide +kernel
theorem zcdX0_measure_84 : decode cX0_measure 84 = .ok (.aload_n 0, 1) ∧ decode cX0_measure 85 = .ok (.getfield 15, 3) ∧ decode cX0_measure 88 = .ok (.iload 5, 2) ∧ decode cX0_measure 90 = .ok (.iaload, 1) ∧ decode cX0_measure 91 = .ok (.isub, 1) ∧ decode cX0_measure 92 = .ok (.invokestatic 58, 3) ∧ decode cX0_measure 95 = .ok (.iadd, 1) ∧ decode cX0_measure 96 = .ok (.iastore, 1) := by decide +kernel
theorem zcdX0_measure_97 : decode cX0_measure 97 = .ok (.iinc 5 1, 3) ∧ decode cX0_measure 100 = .ok (.goto (-65), 3) ∧ decode cX0_measure 103 = .ok (.return_, 1) ∧ decode cX0_match 0 = .ok (.iconst 0, 1) ∧ decode cX0_match 1 = .ok (.istore_n 3, 1) ∧ decode cX0_match 2 = .ok (.iconst 0, 1) ∧ decode cX0_match 3 = .ok (.istore 4, 2) ∧ decode cX0_match 5 = .ok (.iload 4, 2) := by decide +kernel
theorem zcdX0_match_7 : decode cX0_match 7 = .ok (.iload_n 2, 1) ∧ decode cX0_match 8 = .ok (.if_icmp .ge 46, 3) ∧ decode cX0_match 11 = .ok (.iload 4, 2) ∧ decode cX0_match 13 = .ok (.bipush 7, 2) ∧ decode cX0_match 15 = .ok (.if_icmp .ge 39, 3) ∧ decode cX0_match 18 = .ok (.aload_n 0, 1) ∧ decode cX0_match 19 = .ok (.getfield 18, 3) ∧ decode cX0_match 22 = .ok (.iload 4, 2) := by decide +kernel
theorem zcdX0_match_24 : decode cX0_match 24 = .ok (.aload_n 1, 1) ∧ decode cX0_match 25 = .ok (.iload_n 3, 1) ∧ decode cX0_match 26 = .ok (.invokevirtual 33, 3) ∧ decode cX0_match 29 = .ok (.iastore, 1) ∧ decode cX0_match 30 = .ok (.aload_n 0, 1) ∧ decode cX0_match 31 = .ok (.getfield 18, 3) ∧ decode cX0_match 34 = .ok (.iload 4, 2) ∧ decode cX0_match 36 = .ok (.iaload, 1) := by decide +kernel
theorem zcdX0_match_37 : decode cX0_match 37 = .ok (.iconst 1, 1) ∧ decode cX0_match 38 = .ok (.iadd, 1) ∧ decode cX0_match 39 = .ok (.istore_n 3, 1) ∧ decode cX0_match 40 = .ok (.aload_n 0, 1) ∧ decode cX0_match 41 = .ok (.aload_n 1, 1) ∧ decode cX0_match 42 = .ok (.iload_n 2, 1) ∧ decode cX0_match 43 = .ok (.iload 4, 2) ∧ decode cX0_match 45 = .ok (.invokevirtual 38, 3) := by decide +kernel
theorem zcdX0_match_48 : decode cX0_match 48 = .ok (.iinc 4 1, 3) ∧ decode cX0_match 51 = .ok (.goto (-46), 3) ∧ decode cX0_match 54 = .ok (.iconst 1, 1) ∧ decode cX0_match 55 = .ok (.iload_n 2, 1) ∧ decode cX0_match 56 = .ok (.ishl, 1) ∧ decode cX0_match 57 = .ok (.sipush 128, 3) ∧ decode cX0_match 60 = .ok (.invokestatic 42, 3) ∧ decode cX0_match 63 = .ok (.iconst 1, 1) := by decide +kernel
theorem zcdX0_match_64 : decode cX0_match 64 = .ok (.isub, 1) ∧ decode cX0_match 65 = .ok (.istore 4, 2) ∧ decode cX0_match 67 = .ok (.iload 4, 2) ∧ decode cX0_match 69 = .ok (.ifCond .lt 23, 3) ∧ decode cX0_match 72 = .ok (.aload_n 0, 1) ∧ decode cX0_match 73 = .ok (.getfield 24, 3) ∧ decode cX0_match 76 = .ok (.iload 4, 2) ∧ decode cX0_match 78 = .ok (.aload_n 0, 1) := by decide +kernel
theorem zcdX0_match_79 : decode cX0_match 79 = .ok (.iload_n 2, 1) ∧ decode cX0_match 80 = .ok (.iload 4, 2) ∧ decode cX0_match 82 = .ok (.invokevirtual 48, 3) ∧ decode cX0_match 85 = .ok (.iastore, 1) ∧ decode cX0_match 86 = .ok (.iinc 4 (-1), 3) ∧ decode cX0_match 89 = .ok (.goto (-22), 3) ∧ decode cX0_match 92 = .ok (.return_, 1) ∧ decode cX7_byteAt 0 = .ok (.iload_n 1, 1) := by decide +kernel
theorem zcdX7_byteAt_1 : decode cX7_byteAt 1 = .ok (.ifCond .lt 27, 3) ∧ decode cX7_byteAt 4 = .ok (.iload_n 1, 1) ∧ decode cX7_byteAt 5 = .ok (.aload_n 0, 1) ∧ decode cX7_byteAt 6 = .ok (.getfield 19, 3) ∧ decode cX7_byteAt 9 = .ok (.if_icmp .ge 19, 3) ∧ decode cX7_byteAt 12 = .ok (.iload_n 1, 1) ∧ decode cX7_byteAt 13 = .ok (.sipush 260, 3) ∧ decode cX7_byteAt 16 = .ok (.if_icmp .ge 12, 3) := by decide +kernel
theorem zcdX7_byteAt_19 : decode cX7_byteAt 19 = .ok (.aload_n 0, 1) ∧ decode cX7_byteAt 20 = .ok (.getfield 9, 3) ∧ decode cX7_byteAt 23 = .ok (.iload_n 1, 1) ∧ decode cX7_byteAt 24 = .ok (.iaload, 1) ∧ decode cX7_byteAt 25 = .ok (.goto 4, 3) ∧ decode cX7_byteAt 28 = .ok (.iconst (-1), 1) ∧ decode cX7_byteAt 29 = .ok (.ireturn, 1) ∧ decode cX0_read 0 = .ok (.iconst 0, 1) := by decide +kernel
theorem zcdX0_read_1 : decode cX0_read 1 = .ok (.istore_n 3, 1) ∧ decode cX0_read 2 = .ok (.iload_n 3, 1) ∧ decode cX0_read 3 = .ok (.iload_n 2, 1) ∧ decode cX0_read 4 = .ok (.if_icmp .ge 67, 3) ∧ decode cX0_read 7 = .ok (.iload_n 3, 1) ∧ decode cX0_read 8 = .ok (.bipush 7, 2) ∧ decode cX0_read 10 = .ok (.if_icmp .ge 61, 3) ∧ decode cX0_read 13 = .ok (.aload_n 0, 1) := by decide +kernel
theorem zcdX0_read_14 : decode cX0_read 14 = .ok (.getfield 9, 3) ∧ decode cX0_read 17 = .ok (.iload_n 3, 1) ∧ decode cX0_read 18 = .ok (.aload_n 1, 1) ∧ decode cX0_read 19 = .ok (.iconst 2, 1) ∧ decode cX0_read 20 = .ok (.iload_n 3, 1) ∧ decode cX0_read 21 = .ok (.imul, 1) ∧ decode cX0_read 22 = .ok (.invokevirtual 27, 3) ∧ decode cX0_read 25 = .ok (.iastore, 1) := by decide +kernel
theorem zcdX0_read_26 : decode cX0_read 26 = .ok (.aload_n 0, 1) ∧ decode cX0_read 27 = .ok (.getfield 15, 3) ∧ decode cX0_read 30 = .ok (.iload_n 3, 1) ∧ decode cX0_read 31 = .ok (.aload_n 1, 1) ∧ decode cX0_read 32 = .ok (.iconst 2, 1) ∧ decode cX0_read 33 = .ok (.iload_n 3, 1) ∧ decode cX0_read 34 = .ok (.imul, 1) ∧ decode cX0_read 35 = .ok (.iconst 1, 1) := by decide +kernel
theorem zcdX0_read_36 : decode cX0_read 36 = .ok (.iadd, 1) ∧ decode cX0_read 37 = .ok (.invokevirtual 27, 3) ∧ decode cX0_read 40 = .ok (.iastore, 1) ∧ decode cX0_read 41 = .ok (.aload_n 0, 1) ∧ decode cX0_read 42 = .ok (.getfield 9, 3) ∧ decode cX0_read 45 = .ok (.iload_n 3, 1) ∧ decode cX0_read 46 = .ok (.iaload, 1) ∧ decode cX0_read 47 = .ok (.bipush 39, 2) := by decide +kernel
theorem zcdX0_read_49 : decode cX0_read 49 = .ok (.if_icmp .gt 14, 3) ∧ decode cX0_read 52 = .ok (.aload_n 0, 1) ∧ decode cX0_read 53 = .ok (.getfield 15, 3) ∧ decode cX0_read 56 = .ok (.iload_n 3, 1) ∧ decode cX0_read 57 = .ok (.iaload, 1) ∧ decode cX0_read 58 = .ok (.bipush 20, 2) ∧ decode cX0_read 60 = .ok (.if_icmp .le 5, 3) ∧ decode cX0_read 63 = .ok (.iconst 0, 1) := by decide +kernel
theorem zcdX0_read_64 : decode cX0_read 64 = .ok (.ireturn, 1) ∧ decode cX0_read 65 = .ok (.iinc 3 1, 3) ∧ decode cX0_read 68 = .ok (.goto (-66), 3) ∧ decode cX0_read 71 = .ok (.iconst 1, 1) ∧ decode cX0_read 72 = .ok (.ireturn, 1) ∧ decode cX0_stoneOf 0 = .ok (.iconst 0, 1) ∧ decode cX0_stoneOf 1 = .ok (.istore_n 3, 1) ∧ decode cX0_stoneOf 2 = .ok (.iconst (-1), 1) := by decide +kernel
theorem zcdX0_stoneOf_3 : decode cX0_stoneOf 3 = .ok (.istore 4, 2) ∧ decode cX0_stoneOf 5 = .ok (.iconst 0, 1) ∧ decode cX0_stoneOf 6 = .ok (.istore 5, 2) ∧ decode cX0_stoneOf 8 = .ok (.iload 5, 2) ∧ decode cX0_stoneOf 10 = .ok (.iload_n 2, 1) ∧ decode cX0_stoneOf 11 = .ok (.if_icmp .gt 86, 3) ∧ decode cX0_stoneOf 14 = .ok (.iload 5, 2) ∧ decode cX0_stoneOf 16 = .ok (.bipush 7, 2) := by decide +kernel
theorem zcdX0_stoneOf_18 : decode cX0_stoneOf 18 = .ok (.if_icmp .ge 79, 3) ∧ decode cX0_stoneOf 21 = .ok (.iconst 0, 1) ∧ decode cX0_stoneOf 22 = .ok (.istore 6, 2) ∧ decode cX0_stoneOf 24 = .ok (.iload 6, 2) ∧ decode cX0_stoneOf 26 = .ok (.iload_n 1, 1) ∧ decode cX0_stoneOf 27 = .ok (.if_icmp .ge 64, 3) ∧ decode cX0_stoneOf 30 = .ok (.iload 6, 2) ∧ decode cX0_stoneOf 32 = .ok (.bipush 7, 2) := by decide +kernel
theorem zcdX0_stoneOf_34 : decode cX0_stoneOf 34 = .ok (.if_icmp .ge 57, 3) ∧ decode cX0_stoneOf 37 = .ok (.iload_n 3, 1) ∧ decode cX0_stoneOf 38 = .ok (.ifCond .lt 47, 3) ∧ decode cX0_stoneOf 41 = .ok (.iload_n 3, 1) ∧ decode cX0_stoneOf 42 = .ok (.sipush 128, 3) ∧ decode cX0_stoneOf 45 = .ok (.if_icmp .ge 40, 3) ∧ decode cX0_stoneOf 48 = .ok (.aload_n 0, 1) ∧ decode cX0_stoneOf 49 = .ok (.iload_n 3, 1) := by decide +kernel
theorem zcdX0_stoneOf_50 : decode cX0_stoneOf 50 = .ok (.iload 5, 2) ∧ decode cX0_stoneOf 52 = .ok (.iload 6, 2) ∧ decode cX0_stoneOf 54 = .ok (.invokevirtual 70, 3) ∧ decode cX0_stoneOf 57 = .ok (.aload_n 0, 1) ∧ decode cX0_stoneOf 58 = .ok (.getfield 24, 3) ∧ decode cX0_stoneOf 61 = .ok (.iload_n 3, 1) ∧ decode cX0_stoneOf 62 = .ok (.iaload, 1) ∧ decode cX0_stoneOf 63 = .ok (.if_icmp .ne 22, 3) := by decide +kernel
theorem zcdX0_stoneOf_66 : decode cX0_stoneOf 66 = .ok (.aload_n 0, 1) ∧ decode cX0_stoneOf 67 = .ok (.getfield 18, 3) ∧ decode cX0_stoneOf 70 = .ok (.iload 6, 2) ∧ decode cX0_stoneOf 72 = .ok (.iaload, 1) ∧ decode cX0_stoneOf 73 = .ok (.istore 4, 2) ∧ decode cX0_stoneOf 75 = .ok (.iload_n 3, 1) ∧ decode cX0_stoneOf 76 = .ok (.iconst 1, 1) ∧ decode cX0_stoneOf 77 = .ok (.iload 6, 2) := by decide +kernel
theorem zcdX0_stoneOf_79 : decode cX0_stoneOf 79 = .ok (.ishl, 1) ∧ decode cX0_stoneOf 80 = .ok (.ior, 1) ∧ decode cX0_stoneOf 81 = .ok (.istore_n 3, 1) ∧ decode cX0_stoneOf 82 = .ok (.goto 9, 3) ∧ decode cX0_stoneOf 85 = .ok (.iinc 6 1, 3) ∧ decode cX0_stoneOf 88 = .ok (.goto (-64), 3) ∧ decode cX0_stoneOf 91 = .ok (.iinc 5 1, 3) ∧ decode cX0_stoneOf 94 = .ok (.goto (-86), 3) := by decide +kernel
theorem zcdX0_stoneOf_97 : decode cX0_stoneOf 97 = .ok (.iload 4, 2) ∧ decode cX0_stoneOf 99 = .ok (.ireturn, 1) ∧ decode cX0_wayInAll 0 = .ok (.aload_n 0, 1) ∧ decode cX0_wayInAll 1 = .ok (.getfield 24, 3) ∧ decode cX0_wayInAll 4 = .ok (.iconst 0, 1) ∧ decode cX0_wayInAll 5 = .ok (.iaload, 1) ∧ decode cX0_wayInAll 6 = .ok (.ireturn, 1) ∧ decode cX1_reach 0 = .ok (.iload_n 1, 1) := by decide +kernel
theorem zcdX1_reach_1 : decode cX1_reach 1 = .ok (.ifCond .lt 62, 3) ∧ decode cX1_reach 4 = .ok (.iload_n 1, 1) ∧ decode cX1_reach 5 = .ok (.bipush 80, 2) ∧ decode cX1_reach 7 = .ok (.if_icmp .ge 56, 3) ∧ decode cX1_reach 10 = .ok (.aload_n 0, 1) ∧ decode cX1_reach 11 = .ok (.getfield 21, 3) ∧ decode cX1_reach 14 = .ok (.ifCond .lt 49, 3) ∧ decode cX1_reach 17 = .ok (.aload_n 0, 1) := by decide +kernel
theorem zcdX1_reach_18 : decode cX1_reach 18 = .ok (.getfield 21, 3) ∧ decode cX1_reach 21 = .ok (.bipush 80, 2) ∧ decode cX1_reach 23 = .ok (.if_icmp .ge 40, 3) ∧ decode cX1_reach 26 = .ok (.aload_n 0, 1) ∧ decode cX1_reach 27 = .ok (.getfield 15, 3) ∧ decode cX1_reach 30 = .ok (.iload_n 1, 1) ∧ decode cX1_reach 31 = .ok (.iaload, 1) ∧ decode cX1_reach 32 = .ok (.iconst (-1), 1) := by decide +kernel
theorem zcdX1_reach_33 : decode cX1_reach 33 = .ok (.if_icmp .ne 30, 3) ∧ decode cX1_reach 36 = .ok (.aload_n 0, 1) ∧ decode cX1_reach 37 = .ok (.getfield 15, 3) ∧ decode cX1_reach 40 = .ok (.iload_n 1, 1) ∧ decode cX1_reach 41 = .ok (.iload_n 2, 1) ∧ decode cX1_reach 42 = .ok (.iastore, 1) ∧ decode cX1_reach 43 = .ok (.aload_n 0, 1) ∧ decode cX1_reach 44 = .ok (.getfield 18, 3) := by decide +kernel
theorem zcdX1_reach_47 : decode cX1_reach 47 = .ok (.aload_n 0, 1) ∧ decode cX1_reach 48 = .ok (.getfield 21, 3) ∧ decode cX1_reach 51 = .ok (.iload_n 1, 1) ∧ decode cX1_reach 52 = .ok (.iastore, 1) ∧ decode cX1_reach 53 = .ok (.aload_n 0, 1) ∧ decode cX1_reach 54 = .ok (.dup, 1) ∧ decode cX1_reach 55 = .ok (.getfield 21, 3) ∧ decode cX1_reach 58 = .ok (.iconst 1, 1) := by decide +kernel
theorem zcdX1_reach_59 : decode cX1_reach 59 = .ok (.iadd, 1) ∧ decode cX1_reach 60 = .ok (.putfield 21, 3) ∧ decode cX1_reach 63 = .ok (.return_, 1) ∧ decode cX1_comeOn 0 = .ok (.iload_n 1, 1) ∧ decode cX1_comeOn 1 = .ok (.ifCond .lt 9, 3) ∧ decode cX1_comeOn 4 = .ok (.iload_n 1, 1) ∧ decode cX1_comeOn 5 = .ok (.bipush 40, 2) ∧ decode cX1_comeOn 7 = .ok (.if_icmp .lt 4, 3) := by decide +kernel
theorem zcdX1_comeOn_10 : decode cX1_comeOn 10 = .ok (.return_, 1) ∧ decode cX1_comeOn 11 = .ok (.aload_n 0, 1) ∧ decode cX1_comeOn 12 = .ok (.getfield 9, 3) ∧ decode cX1_comeOn 15 = .ok (.iload_n 1, 1) ∧ decode cX1_comeOn 16 = .ok (.iaload, 1) ∧ decode cX1_comeOn 17 = .ok (.iconst (-1), 1) ∧ decode cX1_comeOn 18 = .ok (.if_icmp .ne 15, 3) ∧ decode cX1_comeOn 21 = .ok (.aload_n 0, 1) := by decide +kernel
theorem zcdX1_comeOn_22 : decode cX1_comeOn 22 = .ok (.iload_n 1, 1) ∧ decode cX1_comeOn 23 = .ok (.bipush 40, 2) ∧ decode cX1_comeOn 25 = .ok (.iadd, 1) ∧ decode cX1_comeOn 26 = .ok (.iload_n 1, 1) ∧ decode cX1_comeOn 27 = .ok (.invokevirtual 45, 3) ∧ decode cX1_comeOn 30 = .ok (.goto 28, 3) ∧ decode cX1_comeOn 33 = .ok (.aload_n 0, 1) ∧ decode cX1_comeOn 34 = .ok (.getfield 9, 3) := by decide +kernel
theorem zcdX1_comeOn_37 : decode cX1_comeOn 37 = .ok (.iload_n 1, 1) ∧ decode cX1_comeOn 38 = .ok (.iaload, 1) ∧ decode cX1_comeOn 39 = .ok (.bipush 40, 2) ∧ decode cX1_comeOn 41 = .ok (.if_icmp .ge 17, 3) ∧ decode cX1_comeOn 44 = .ok (.aload_n 0, 1) ∧ decode cX1_comeOn 45 = .ok (.aload_n 0, 1) ∧ decode cX1_comeOn 46 = .ok (.getfield 9, 3) ∧ decode cX1_comeOn 49 = .ok (.iload_n 1, 1) := by decide +kernel
theorem zcdX1_comeOn_50 : decode cX1_comeOn 50 = .ok (.iaload, 1) ∧ decode cX1_comeOn 51 = .ok (.bipush 40, 2) ∧ decode cX1_comeOn 53 = .ok (.iadd, 1) ∧ decode cX1_comeOn 54 = .ok (.iload_n 1, 1) ∧ decode cX1_comeOn 55 = .ok (.invokevirtual 45, 3) ∧ decode cX1_comeOn 58 = .ok (.return_, 1) ∧ decode cX2_isDry 0 = .ok (.iload_n 1, 1) ∧ decode cX2_isDry 1 = .ok (.ifCond .lt 31, 3) := by decide +kernel
theorem zcdX2_isDry_4 : decode cX2_isDry 4 = .ok (.iload_n 1, 1) ∧ decode cX2_isDry 5 = .ok (.bipush 40, 2) ∧ decode cX2_isDry 7 = .ok (.if_icmp .ge 25, 3) ∧ decode cX2_isDry 10 = .ok (.aload_n 0, 1) ∧ decode cX2_isDry 11 = .ok (.getfield 21, 3) ∧ decode cX2_isDry 14 = .ok (.iload_n 1, 1) ∧ decode cX2_isDry 15 = .ok (.baload, 1) ∧ decode cX2_isDry 16 = .ok (.ifCond .eq 16, 3) := by decide +kernel
theorem zcdX2_isDry_19 : decode cX2_isDry 19 = .ok (.aload_n 0, 1) ∧ decode cX2_isDry 20 = .ok (.getfield 25, 3) ∧ decode cX2_isDry 23 = .ok (.iload_n 1, 1) ∧ decode cX2_isDry 24 = .ok (.baload, 1) ∧ decode cX2_isDry 25 = .ok (.ifCond .ne 7, 3) ∧ decode cX2_isDry 28 = .ok (.iconst 1, 1) ∧ decode cX2_isDry 29 = .ok (.goto 4, 3) ∧ decode cX2_isDry 32 = .ok (.iconst 0, 1) := by decide +kernel
theorem zcdX2_isDry_33 : decode cX2_isDry 33 = .ok (.ireturn, 1) ∧ decode cX2_canStand 0 = .ok (.iload_n 1, 1) ∧ decode cX2_canStand 1 = .ok (.bipush 40, 2) ∧ decode cX2_canStand 3 = .ok (.if_icmp .eq 17, 3) ∧ decode cX2_canStand 6 = .ok (.iload_n 1, 1) ∧ decode cX2_canStand 7 = .ok (.bipush 41, 2) ∧ decode cX2_canStand 9 = .ok (.if_icmp .eq 11, 3) ∧ decode cX2_canStand 12 = .ok (.aload_n 0, 1) := by decide +kernel
theorem zcdX2_canStand_13 : decode cX2_canStand 13 = .ok (.iload_n 1, 1) ∧ decode cX2_canStand 14 = .ok (.invokevirtual 45, 3) ∧ decode cX2_canStand 17 = .ok (.ifCond .eq 7, 3) ∧ decode cX2_canStand 20 = .ok (.iconst 1, 1) ∧ decode cX2_canStand 21 = .ok (.goto 4, 3) ∧ decode cX2_canStand 24 = .ok (.iconst 0, 1) ∧ decode cX2_canStand 25 = .ok (.ireturn, 1) ∧ decode cX2_heightOf 0 = .ok (.iload_n 1, 1) := by decide +kernel
theorem zcdX2_heightOf_1 : decode cX2_heightOf 1 = .ok (.bipush 41, 2) ∧ decode cX2_heightOf 3 = .ok (.if_icmp .ne 6, 3) ∧ decode cX2_heightOf 6 = .ok (.bipush 21, 2) ∧ decode cX2_heightOf 8 = .ok (.ireturn, 1) ∧ decode cX2_heightOf 9 = .ok (.iload_n 1, 1) ∧ decode cX2_heightOf 10 = .ok (.ifCond .lt 18, 3) ∧ decode cX2_heightOf 13 = .ok (.iload_n 1, 1) ∧ decode cX2_heightOf 14 = .ok (.bipush 40, 2) := by decide +kernel
theorem zcdX2_heightOf_16 : decode cX2_heightOf 16 = .ok (.if_icmp .ge 12, 3) ∧ decode cX2_heightOf 19 = .ok (.aload_n 0, 1) ∧ decode cX2_heightOf 20 = .ok (.getfield 15, 3) ∧ decode cX2_heightOf 23 = .ok (.iload_n 1, 1) ∧ decode cX2_heightOf 24 = .ok (.iaload, 1) ∧ decode cX2_heightOf 25 = .ok (.goto 4, 3) ∧ decode cX2_heightOf 28 = .ok (.iconst 0, 1) ∧ decode cX2_heightOf 29 = .ok (.ireturn, 1) := by decide +kernel
set_option maxHeartbeats 4000000 in
theorem t_J6_bitCount_0f7a4 (v0 : Int32) (M : Mem) : AXp yJ6_bitCount_0f7a4 cJ6_bitCount_0f7a4 1 (some .int) 0 60 glC (fun ad => [.int v0]) M (f_J6_bitCount_0f7a4 v0) := by
  intro r0 h
  refine AM.of (by decide) (fun _ => Nat.le_of_ble_eq_true rfl) (fun X ad cI cZ cB hX hR => ?_)
  show V X M [(0, .int v0)] [] 0
  refine s_iload_n (k := 0) hX zcdJ6_bitCount_0f7a4_0.1 rfl rfl ?_
  refine s_iload_n (k := 0) hX zcdJ6_bitCount_0f7a4_0.2.1 rfl rfl ?_
  refine s_iconst (v := (nI 1)) hX zcdJ6_bitCount_0f7a4_0.2.2.1 (by decide) ?_
  refine e_iushr hX zcdJ6_bitCount_0f7a4_0.2.2.2.1 ?_
  refine s_ldcw (v := (nI 1431655765)) hX kJ6_265 zcdJ6_bitCount_0f7a4_0.2.2.2.2.1 ?_
  refine s_iand hX zcdJ6_bitCount_0f7a4_0.2.2.2.2.2.1 ?_
  refine s_isub hX zcdJ6_bitCount_0f7a4_0.2.2.2.2.2.2.1 ?_
  refine e_bnd h (fun x_1 h => ?_)
  refine s_istore_n (lv' := [(0, .int x_1)]) hX zcdJ6_bitCount_0f7a4_0.2.2.2.2.2.2.2 rfl (by decide) rfl ?_
  refine s_iload_n (k := 0) hX zcdJ6_bitCount_0f7a4_10.1 rfl rfl ?_
  refine s_ldcw (v := (nI 858993459)) hX kJ6_266 zcdJ6_bitCount_0f7a4_10.2.1 ?_
  refine s_iand hX zcdJ6_bitCount_0f7a4_10.2.2.1 ?_
  refine s_iload_n (k := 0) hX zcdJ6_bitCount_0f7a4_10.2.2.2.1 rfl rfl ?_
  refine s_iconst (v := (nI 2)) hX zcdJ6_bitCount_0f7a4_10.2.2.2.2.1 (by decide) ?_
  refine e_iushr hX zcdJ6_bitCount_0f7a4_10.2.2.2.2.2.1 ?_
  refine s_ldcw (v := (nI 858993459)) hX kJ6_266 zcdJ6_bitCount_0f7a4_10.2.2.2.2.2.2.1 ?_
  refine s_iand hX zcdJ6_bitCount_0f7a4_10.2.2.2.2.2.2.2 ?_
  refine s_iadd hX zcdJ6_bitCount_0f7a4_22.1 ?_
  refine e_bnd h (fun x_2 h => ?_)
  refine s_istore_n (lv' := [(0, .int x_2)]) hX zcdJ6_bitCount_0f7a4_22.2.1 rfl (by decide) rfl ?_
  refine s_iload_n (k := 0) hX zcdJ6_bitCount_0f7a4_22.2.2.1 rfl rfl ?_
  refine s_iload_n (k := 0) hX zcdJ6_bitCount_0f7a4_22.2.2.2.1 rfl rfl ?_
  refine s_iconst (v := (nI 4)) hX zcdJ6_bitCount_0f7a4_22.2.2.2.2.1 (by decide) ?_
  refine e_iushr hX zcdJ6_bitCount_0f7a4_22.2.2.2.2.2.1 ?_
  refine s_iadd hX zcdJ6_bitCount_0f7a4_22.2.2.2.2.2.2.1 ?_
  refine s_ldcw (v := (nI 252645135)) hX kJ6_267 zcdJ6_bitCount_0f7a4_22.2.2.2.2.2.2.2 ?_
  refine s_iand hX zcdJ6_bitCount_0f7a4_32.1 ?_
  refine e_bnd h (fun x_3 h => ?_)
  refine s_istore_n (lv' := [(0, .int x_3)]) hX zcdJ6_bitCount_0f7a4_32.2.1 rfl (by decide) rfl ?_
  refine s_iload_n (k := 0) hX zcdJ6_bitCount_0f7a4_32.2.2.1 rfl rfl ?_
  refine s_iload_n (k := 0) hX zcdJ6_bitCount_0f7a4_32.2.2.2.1 rfl rfl ?_
  refine s_bipush (v := (nI 8)) hX zcdJ6_bitCount_0f7a4_32.2.2.2.2.1 (by decide) ?_
  refine e_iushr hX zcdJ6_bitCount_0f7a4_32.2.2.2.2.2.1 ?_
  refine s_iadd hX zcdJ6_bitCount_0f7a4_32.2.2.2.2.2.2.1 ?_
  refine e_bnd h (fun x_4 h => ?_)
  refine s_istore_n (lv' := [(0, .int x_4)]) hX zcdJ6_bitCount_0f7a4_32.2.2.2.2.2.2.2 rfl (by decide) rfl ?_
  refine s_iload_n (k := 0) hX zcdJ6_bitCount_0f7a4_41.1 rfl rfl ?_
  refine s_iload_n (k := 0) hX zcdJ6_bitCount_0f7a4_41.2.1 rfl rfl ?_
  refine s_bipush (v := (nI 16)) hX zcdJ6_bitCount_0f7a4_41.2.2.1 (by decide) ?_
  refine e_iushr hX zcdJ6_bitCount_0f7a4_41.2.2.2.1 ?_
  refine s_iadd hX zcdJ6_bitCount_0f7a4_41.2.2.2.2.1 ?_
  refine e_bnd h (fun x_5 h => ?_)
  refine s_istore_n (lv' := [(0, .int x_5)]) hX zcdJ6_bitCount_0f7a4_41.2.2.2.2.2.1 rfl (by decide) rfl ?_
  refine s_iload_n (k := 0) hX zcdJ6_bitCount_0f7a4_41.2.2.2.2.2.2.1 rfl rfl ?_
  refine s_bipush (v := (nI 63)) hX zcdJ6_bitCount_0f7a4_41.2.2.2.2.2.2.2 (by decide) ?_
  refine s_iand hX zcdJ6_bitCount_0f7a4_51.1 ?_
  exact e_iretp hX hR zcdJ6_bitCount_0f7a4_51.2.1 h
set_option maxHeartbeats 4000000 in
theorem t_J7_fill_53178 (k len_k : Nat) (hk : ∀ {ad : Nat → Nat} {cI cZ cB : ClassId}, IA (glC ad cI cZ cB) 60 k cI len_k) (hlk : len_k < 2 ^ 31) (v1 : Int32) (M : Mem) : AXv yJ7_fill_53178 cJ7_fill_53178 4 none 0 60 glC (fun ad => [.ref (ad k), .int v1]) M (f_J7_fill_53178 k len_k M v1) := by
  intro r0 h
  refine AM.of (by decide) (fun _ => Nat.le_of_ble_eq_true rfl) (fun X ad cI cZ cB hX hR => ?_)
  show V X M [(0, .ref (ad k)), (1, .int v1)] [] 0
  refine s_iconst (v := (nI 0)) hX zcdJ6_bitCount_0f7a4_51.2.2.1 (by decide) ?_
  refine s_istore_n (lv' := [(0, .ref (ad k)), (1, .int v1), (2, .int (nI 0))]) hX zcdJ6_bitCount_0f7a4_51.2.2.2.1 rfl (by decide) rfl ?_
  refine s_aload_n (k := 0) hX zcdJ6_bitCount_0f7a4_51.2.2.2.2.1 rfl rfl ?_
  refine s_alen (v := nI len_k) hX hk rfl zcdJ6_bitCount_0f7a4_51.2.2.2.2.2.1 ?_
  refine e_bnd h (fun x_1 h => ?_)
  refine s_istore_n (lv' := [(0, .ref (ad k)), (1, .int v1), (2, .int (nI 0)), (3, .int x_1)]) hX zcdJ6_bitCount_0f7a4_51.2.2.2.2.2.2.1 rfl (by decide) rfl ?_
  have lp5 : ∀ (N5 : Nat) (M5 : Mem) (y2_5 : Int32), wlp2 (f_J7_fill_53178_B5 k len_k v1 x_1) N5 M5 y2_5 = some r0 → V X M5 [(0, .ref (ad k)), (1, .int v1), (2, .int y2_5), (3, .int x_1)] [] 5 := by
    intro N5
    induction N5 with
    | zero => exact fun _ _ h => e_none h
    | succ N5 ih5 =>
      intro M5 y2_5 h
      replace h : f_J7_fill_53178_B5 k len_k v1 x_1 (wlp2 (f_J7_fill_53178_B5 k len_k v1 x_1) N5) M5 y2_5 = some r0 := h
      generalize wlp2 (f_J7_fill_53178_B5 k len_k v1 x_1) N5 = ag5 at ih5 h
      refine s_iload_n (k := 2) hX zcdJ6_bitCount_0f7a4_51.2.2.2.2.2.2.2 rfl rfl ?_
      refine s_iload_n (k := 3) hX zcdJ7_fill_53178_6.1 rfl rfl ?_
      refine e_icmp_ge (tgt := 20) hX zcdJ7_fill_53178_6.2.1 (by decide) r_le h (fun h => ?_) (fun h => ?_)
      · exact e_vret hX hR zcdJ7_fill_53178_20.1 h
      · refine s_aload_n (k := 0) hX zcdJ7_fill_53178_6.2.2.1 rfl rfl ?_
        refine s_iload_n (k := 2) hX zcdJ7_fill_53178_6.2.2.2.1 rfl rfl ?_
        refine s_iload_n (k := 1) hX zcdJ7_fill_53178_6.2.2.2.2.1 rfl rfl ?_
        refine e_iast hX hk zcdJ7_fill_53178_6.2.2.2.2.2.1 h (fun h => ?_)
        refine e_bndM h (fun M_2 h => ?_)
        refine s_iinc (k := 2) (v := (y2_5 + (nI 1))) (lv' := [(0, .ref (ad k)), (1, .int v1), (3, .int x_1), (2, .int (y2_5 + (nI 1)))]) hX zcdJ7_fill_53178_6.2.2.2.2.2.2.1 (congrArg (fun z => y2_5 + z) (by decide)) (by decide) rfl rfl ?_
        refine s_goto (tgt := 5) hX zcdJ7_fill_53178_6.2.2.2.2.2.2.2 (by decide) ?_
        refine s_loc [0, 1, 3, 2] rfl ?_
        exact ih5 M_2 (y2_5 + (nI 1)) h
  exact lp5 FU M (nI 0) h
set_option maxHeartbeats 4000000 in
theorem t_X0_wayWith (v1 : Int32) (v2 : Int32) (v3 : Int32) (M : Mem) : AXp yX0_wayWith cX0_wayWith 5 (some .int) 0 60 glC (fun ad => [.ref (ad 37), .int v1, .int v2, .int v3]) M (f_X0_wayWith M v1 v2 v3) := by
  intro r0 h
  refine AM.of (by decide) (fun _ => Nat.le_of_ble_eq_true rfl) (fun X ad cI cZ cB hX hR => ?_)
  show V X M [(0, .ref (ad 37)), (1, .int v1), (2, .int v2), (3, .int v3)] [] 0
  refine s_iload_n (k := 3) hX zcdJ7_fill_53178_20.2.1 rfl rfl ?_
  refine e_if_lt (tgt := 24) hX zcdJ7_fill_53178_20.2.2.1 (by decide) z_lt h (fun h => ?_) (fun h => ?_)
  · refine s_ldc (v := (nI 2147483647)) hX kX0_69 zcdX0_wayWith_14.2.2.2.2.2.1 ?_
    exact e_iretp hX hR zcdX0_wayWith_14.2.2.2.2.2.2.1 h
  · refine s_iload_n (k := 3) hX zcdJ7_fill_53178_20.2.2.2.1 rfl rfl ?_
    refine s_bipush (v := (nI 7)) hX zcdJ7_fill_53178_20.2.2.2.2.1 (by decide) ?_
    refine e_icmp_ge (tgt := 24) hX zcdJ7_fill_53178_20.2.2.2.2.2.1 (by decide) (m_ge (by decide +kernel)) h (fun h => ?_) (fun h => ?_)
    · refine s_ldc (v := (nI 2147483647)) hX kX0_69 zcdX0_wayWith_14.2.2.2.2.2.1 ?_
      exact e_iretp hX hR zcdX0_wayWith_14.2.2.2.2.2.2.1 h
    · refine s_iload_n (k := 2) hX zcdJ7_fill_53178_20.2.2.2.2.2.2.1 rfl rfl ?_
      refine e_if_lt (tgt := 24) hX zcdJ7_fill_53178_20.2.2.2.2.2.2.2 (by decide) z_lt h (fun h => ?_) (fun h => ?_)
      · refine s_ldc (v := (nI 2147483647)) hX kX0_69 zcdX0_wayWith_14.2.2.2.2.2.1 ?_
        exact e_iretp hX hR zcdX0_wayWith_14.2.2.2.2.2.2.1 h
      · refine s_iload_n (k := 2) hX zcdX0_wayWith_14.1 rfl rfl ?_
        refine s_bipush (v := (nI 7)) hX zcdX0_wayWith_14.2.1 (by decide) ?_
        refine e_icmp_ge (tgt := 24) hX zcdX0_wayWith_14.2.2.1 (by decide) (m_ge (by decide +kernel)) h (fun h => ?_) (fun h => ?_)
        · refine s_ldc (v := (nI 2147483647)) hX kX0_69 zcdX0_wayWith_14.2.2.2.2.2.1 ?_
          exact e_iretp hX hR zcdX0_wayWith_14.2.2.2.2.2.2.1 h
        · refine s_iload_n (k := 1) hX zcdX0_wayWith_14.2.2.2.1 rfl rfl ?_
          refine e_if_ge (tgt := 27) hX zcdX0_wayWith_14.2.2.2.2.1 (by decide) z_ge h (fun h => ?_) (fun h => ?_)
          · refine s_iload_n (k := 1) hX zcdX0_wayWith_14.2.2.2.2.2.2.2 rfl rfl ?_
            refine s_iconst (v := (nI 1)) hX zcdX0_wayWith_28.1 (by decide) ?_
            refine s_iload_n (k := 3) hX zcdX0_wayWith_28.2.1 rfl rfl ?_
            refine e_ishl hX zcdX0_wayWith_28.2.2.1 ?_
            refine s_ior hX zcdX0_wayWith_28.2.2.2.1 ?_
            refine e_bnd h (fun x_1 h => ?_)
            refine s_istore (lv' := [(0, .ref (ad 37)), (1, .int v1), (2, .int v2), (3, .int v3), (4, .int x_1)]) hX zcdX0_wayWith_28.2.2.2.2.1 (by decide) rfl ?_
            refine s_iload (k := 4) hX zcdX0_wayWith_28.2.2.2.2.2.1 rfl ?_
            refine s_iload_n (k := 1) hX zcdX0_wayWith_28.2.2.2.2.2.2.1 rfl rfl ?_
            refine e_icmp_eq (tgt := 48) hX zcdX0_wayWith_28.2.2.2.2.2.2.2 (by decide) r_eq h (fun h => ?_) (fun h => ?_)
            · refine s_ldc (v := (nI 2147483647)) hX kX0_69 zcdX0_wayWith_40.2.2.2.1 ?_
              exact e_iretp hX hR zcdX0_wayWith_40.2.2.2.2.1 h
            · refine s_iload (k := 4) hX zcdX0_wayWith_40.1 rfl ?_
              refine s_sipush (v := (nI 128)) hX zcdX0_wayWith_40.2.1 (by decide) ?_
              refine e_icmp_lt (tgt := 51) hX zcdX0_wayWith_40.2.2.1 (by decide) (m_lt (by decide +kernel)) h (fun h => ?_) (fun h => ?_)
              · refine s_aload_n (k := 0) hX zcdX0_wayWith_40.2.2.2.2.2.1 rfl rfl ?_
                refine s_get hX fX0_21 oC37 rfl zcdX0_wayWith_40.2.2.2.2.2.2.1 ?_
                refine s_iload_n (k := 2) hX zcdX0_wayWith_40.2.2.2.2.2.2.2 rfl rfl ?_
                refine s_bipush (v := (nI 7)) hX zcdX0_wayWith_56.1 (by decide) ?_
                refine s_imul hX zcdX0_wayWith_56.2.1 ?_
                refine s_iload_n (k := 3) hX zcdX0_wayWith_56.2.2.1 rfl rfl ?_
                refine s_iadd hX zcdX0_wayWith_56.2.2.2.1 ?_
                refine e_iald hX aC41 zcdX0_wayWith_56.2.2.2.2.1 h (fun h => ?_)
                refine s_aload_n (k := 0) hX zcdX0_wayWith_56.2.2.2.2.2.1 rfl rfl ?_
                refine s_get hX fX0_24 oC37 rfl zcdX0_wayWith_56.2.2.2.2.2.2.1 ?_
                refine s_iload (k := 4) hX zcdX0_wayWith_56.2.2.2.2.2.2.2 rfl ?_
                refine e_iald hX aC42 zcdX0_wayWith_68.1 h (fun h => ?_)
                refine s_iadd hX zcdX0_wayWith_68.2.1 ?_
                exact e_iretp hX hR zcdX0_wayWith_68.2.2.1 h
              · refine s_ldc (v := (nI 2147483647)) hX kX0_69 zcdX0_wayWith_40.2.2.2.1 ?_
                exact e_iretp hX hR zcdX0_wayWith_40.2.2.2.2.1 h
          · refine s_ldc (v := (nI 2147483647)) hX kX0_69 zcdX0_wayWith_14.2.2.2.2.2.1 ?_
            exact e_iretp hX hR zcdX0_wayWith_14.2.2.2.2.2.2.1 h
set_option maxHeartbeats 4000000 in
theorem t_X0_fewestBehind (v1 : Int32) (v2 : Int32) (M : Mem) : AXp yX0_fewestBehind cX0_fewestBehind 6 (some .int) 1 60 glC (fun ad => [.ref (ad 37), .int v1, .int v2]) M (f_X0_fewestBehind M v1 v2) := by
  intro r0 h
  refine AM.of (by decide) (fun _ => Nat.le_of_ble_eq_true rfl) (fun X ad cI cZ cB hX hR => ?_)
  show V X M [(0, .ref (ad 37)), (1, .int v1), (2, .int v2)] [] 0
  refine s_iload_n (k := 2) hX zcdX0_wayWith_68.2.2.2.1 rfl rfl ?_
  refine e_callSp hX (t_J6_bitCount_0f7a4 v2 M) mJ6_bitCount_0f7a4 lX0_64 (by decide) (by decide) rfl rfl (Nat.le_of_ble_eq_true rfl) zcdX0_wayWith_68.2.2.2.2.1 h (fun r_1 h => ?_)
  refine s_istore_n (lv' := [(0, .ref (ad 37)), (1, .int v1), (2, .int v2), (3, .int r_1)]) hX zcdX0_wayWith_68.2.2.2.2.2.1 rfl (by decide) rfl ?_
  refine s_iload_n (k := 3) hX zcdX0_wayWith_68.2.2.2.2.2.2.1 rfl rfl ?_
  refine s_iload_n (k := 1) hX zcdX0_wayWith_68.2.2.2.2.2.2.2 rfl rfl ?_
  refine e_icmp_lt (tgt := 12) hX zcdX0_fewestBehind_7.1 (by decide) r_lt h (fun h => ?_) (fun h => ?_)
  · refine s_ldc (v := (nI 2147483647)) hX kX0_69 zcdX0_fewestBehind_7.2.2.2.1 ?_
    refine s_istore (lv' := [(0, .ref (ad 37)), (1, .int v1), (2, .int v2), (3, .int r_1), (4, .int (nI 2147483647))]) hX zcdX0_fewestBehind_7.2.2.2.2.1 (by decide) rfl ?_
    refine s_iconst (v := (nI 0)) hX zcdX0_fewestBehind_7.2.2.2.2.2.1 (by decide) ?_
    refine s_istore (lv' := [(0, .ref (ad 37)), (1, .int v1), (2, .int v2), (3, .int r_1), (4, .int (nI 2147483647)), (5, .int (nI 0))]) hX zcdX0_fewestBehind_7.2.2.2.2.2.2.1 (by decide) rfl ?_
    have lp19 : ∀ (N19 : Nat) (y4_19 : Int32) (y5_19 : Int32), wlp2 (f_X0_fewestBehind_B19 M v1 v2 r_1) N19 y4_19 y5_19 = some r0 → V X M [(0, .ref (ad 37)), (1, .int v1), (2, .int v2), (3, .int r_1), (4, .int y4_19), (5, .int y5_19)] [] 19 := by
      intro N19
      induction N19 with
      | zero => exact fun _ _ h => e_none h
      | succ N19 ih19 =>
        intro y4_19 y5_19 h
        replace h : f_X0_fewestBehind_B19 M v1 v2 r_1 (wlp2 (f_X0_fewestBehind_B19 M v1 v2 r_1) N19) y4_19 y5_19 = some r0 := h
        generalize wlp2 (f_X0_fewestBehind_B19 M v1 v2 r_1) N19 = ag19 at ih19 h
        refine s_iload (k := 5) hX zcdX0_fewestBehind_7.2.2.2.2.2.2.2 rfl ?_
        refine s_iload_n (k := 1) hX zcdX0_fewestBehind_21.1 rfl rfl ?_
        refine e_icmp_ge (tgt := 53) hX zcdX0_fewestBehind_21.2.1 (by decide) r_le h (fun h => ?_) (fun h => ?_)
        · refine s_iload (k := 4) hX zcdX0_fewestBehind_36.2.2.2.2.2.2.2 rfl ?_
          exact e_iretp hX hR zcdX0_fewestBehind_55.1 h
        · refine s_iload (k := 5) hX zcdX0_fewestBehind_21.2.2.1 rfl ?_
          refine s_bipush (v := (nI 7)) hX zcdX0_fewestBehind_21.2.2.2.1 (by decide) ?_
          refine e_icmp_ge (tgt := 53) hX zcdX0_fewestBehind_21.2.2.2.2.1 (by decide) (m_ge (by decide +kernel)) h (fun h => ?_) (fun h => ?_)
          · refine s_iload (k := 4) hX zcdX0_fewestBehind_36.2.2.2.2.2.2.2 rfl ?_
            exact e_iretp hX hR zcdX0_fewestBehind_55.1 h
          · refine s_iload (k := 4) hX zcdX0_fewestBehind_21.2.2.2.2.2.1 rfl ?_
            refine s_aload_n (k := 0) hX zcdX0_fewestBehind_21.2.2.2.2.2.2.1 rfl rfl ?_
            refine s_iload_n (k := 2) hX zcdX0_fewestBehind_21.2.2.2.2.2.2.2 rfl rfl ?_
            refine s_iload_n (k := 3) hX zcdX0_fewestBehind_36.1 rfl rfl ?_
            refine s_iload (k := 5) hX zcdX0_fewestBehind_36.2.1 rfl ?_
            refine e_callVp hX (t_X0_wayWith v2 r_1 y5_19 M) mX0_wayWith lX0_70 (by decide) (by decide) oC37 rfl rfl rfl rfl rfl (Nat.le_of_ble_eq_true rfl) zcdX0_fewestBehind_36.2.2.1 h (fun r_2 h => ?_)
            refine e_mmin hX lX0_42 mJ9_min (by omega) (Nat.le_of_ble_eq_true rfl) zcdX0_fewestBehind_36.2.2.2.1 ?_
            refine e_bnd h (fun x_3 h => ?_)
            refine s_istore (lv' := [(0, .ref (ad 37)), (1, .int v1), (2, .int v2), (3, .int r_1), (5, .int y5_19), (4, .int x_3)]) hX zcdX0_fewestBehind_36.2.2.2.2.1 (by decide) rfl ?_
            refine s_iinc (k := 4) (v := (y5_19 + (nI 1))) (lv' := [(0, .ref (ad 37)), (1, .int v1), (2, .int v2), (3, .int r_1), (4, .int x_3), (5, .int (y5_19 + (nI 1)))]) hX zcdX0_fewestBehind_36.2.2.2.2.2.1 (congrArg (fun z => y5_19 + z) (by decide)) (by decide) rfl rfl ?_
            refine s_goto (tgt := 19) hX zcdX0_fewestBehind_36.2.2.2.2.2.2.1 (by decide) ?_
            exact ih19 x_3 (y5_19 + (nI 1)) h
    exact lp19 FU (nI 2147483647) (nI 0) h
  · refine s_iconst (v := (nI 0)) hX zcdX0_fewestBehind_7.2.1 (by decide) ?_
    exact e_iretp hX hR zcdX0_fewestBehind_7.2.2.1 h
set_option maxHeartbeats 4000000 in
theorem t_X2_nextTold (b : Nat) (hb : isF b) (v1 : Int32) (M : Mem) : AXp yX2_nextTold cX2_nextTold 3 (some .int) 1 60 glC (fun ad => [.ref (ad b), .int v1]) M (f_X2_nextTold b M v1) := by
  intro r0 h
  refine AM.of (by decide) (fun _ => Nat.le_of_ble_eq_true rfl) (fun X ad cI cZ cB hX hR => ?_)
  show V X M [(0, .ref (ad b)), (1, .int v1)] [] 0
  refine s_iload_n (k := 1) hX zcdX0_fewestBehind_55.2.1 rfl rfl ?_
  refine s_iconst (v := (nI 0)) hX zcdX0_fewestBehind_55.2.2.1 (by decide) ?_
  refine e_mmax hX lX2_39 mJ9_max (by omega) (Nat.le_of_ble_eq_true rfl) zcdX0_fewestBehind_55.2.2.2.1 ?_
  refine e_bnd h (fun x_1 h => ?_)
  refine s_istore_n (lv' := [(0, .ref (ad b)), (1, .int v1), (2, .int x_1)]) hX zcdX0_fewestBehind_55.2.2.2.2.1 rfl (by decide) rfl ?_
  have lp6 : ∀ (N6 : Nat) (y2_6 : Int32), wlp1 (f_X2_nextTold_B6 b M) N6 y2_6 = some r0 → V X M [(0, .ref (ad b)), (2, .int y2_6)] [] 6 := by
    intro N6
    induction N6 with
    | zero => exact fun _ h => e_none h
    | succ N6 ih6 =>
      intro y2_6 h
      replace h : f_X2_nextTold_B6 b M (wlp1 (f_X2_nextTold_B6 b M) N6) y2_6 = some r0 := h
      generalize wlp1 (f_X2_nextTold_B6 b M) N6 = ag6 at ih6 h
      refine s_iload_n (k := 1) hX zcdX0_fewestBehind_55.2.2.2.2.2.1 rfl rfl ?_
      refine s_bipush (v := (nI 40)) hX zcdX0_fewestBehind_55.2.2.2.2.2.2.1 (by decide) ?_
      refine e_icmp_ge (tgt := 29) hX zcdX0_fewestBehind_55.2.2.2.2.2.2.2 (by decide) (m_ge (by decide +kernel)) h (fun h => ?_) (fun h => ?_)
      · refine s_iconst (v := (-1)) hX zcdX2_nextTold_26.2.1 (by decide) ?_
        exact e_iretp hX hR zcdX2_nextTold_26.2.2.1 h
      · refine s_aload_n (k := 0) hX zcdX2_nextTold_12.1 rfl rfl ?_
        refine s_get hX fX2_21 (oF hb) rfl zcdX2_nextTold_12.2.1 ?_
        refine s_iload_n (k := 1) hX zcdX2_nextTold_12.2.2.1 rfl rfl ?_
        refine e_zald hX (aF4 hb) zcdX2_nextTold_12.2.2.2.1 h (fun h => ?_)
        refine e_if_eq (tgt := 23) hX zcdX2_nextTold_12.2.2.2.2.1 (by decide) z_eq h (fun h => ?_) (fun h => ?_)
        · refine s_iinc (k := 1) (v := (y2_6 + (nI 1))) (lv' := [(0, .ref (ad b)), (2, .int (y2_6 + (nI 1)))]) hX zcdX2_nextTold_12.2.2.2.2.2.2.2 (congrArg (fun z => y2_6 + z) (by decide)) (by decide) rfl rfl ?_
          refine s_goto (tgt := 6) hX zcdX2_nextTold_26.1 (by decide) ?_
          exact ih6 (y2_6 + (nI 1)) h
        · refine s_iload_n (k := 1) hX zcdX2_nextTold_12.2.2.2.2.2.1 rfl rfl ?_
          exact e_iretp hX hR zcdX2_nextTold_12.2.2.2.2.2.2.1 h
  refine s_loc [0, 2] rfl ?_
  exact lp6 FU x_1 h
set_option maxHeartbeats 4000000 in
theorem t_X2_isTold (b : Nat) (hb : isF b) (v1 : Int32) (M : Mem) : AXp yX2_isTold cX2_isTold 2 (some .boolean) 0 60 glC (fun ad => [.ref (ad b), .int v1]) M (f_X2_isTold b M v1) := by
  intro r0 h
  refine AM.of (by decide) (fun _ => Nat.le_of_ble_eq_true rfl) (fun X ad cI cZ cB hX hR => ?_)
  show V X M [(0, .ref (ad b)), (1, .int v1)] [] 0
  refine s_iload_n (k := 1) hX zcdX2_nextTold_26.2.2.2.1 rfl rfl ?_
  refine e_if_lt (tgt := 23) hX zcdX2_nextTold_26.2.2.2.2.1 (by decide) z_lt h (fun h => ?_) (fun h => ?_)
  · refine s_iconst (v := (nI 0)) hX zcdX2_isTold_10.2.2.2.2.2.2.2 (by decide) ?_
    exact e_zretpL hX hR zcdX2_isTold_24.1 (by decide) h
  · refine s_iload_n (k := 1) hX zcdX2_nextTold_26.2.2.2.2.2.1 rfl rfl ?_
    refine s_bipush (v := (nI 40)) hX zcdX2_nextTold_26.2.2.2.2.2.2.1 (by decide) ?_
    refine e_icmp_ge (tgt := 23) hX zcdX2_nextTold_26.2.2.2.2.2.2.2 (by decide) (m_ge (by decide +kernel)) h (fun h => ?_) (fun h => ?_)
    · refine s_iconst (v := (nI 0)) hX zcdX2_isTold_10.2.2.2.2.2.2.2 (by decide) ?_
      exact e_zretpL hX hR zcdX2_isTold_24.1 (by decide) h
    · refine s_aload_n (k := 0) hX zcdX2_isTold_10.1 rfl rfl ?_
      refine s_get hX fX2_21 (oF hb) rfl zcdX2_isTold_10.2.1 ?_
      refine s_iload_n (k := 1) hX zcdX2_isTold_10.2.2.1 rfl rfl ?_
      refine e_zald hX (aF4 hb) zcdX2_isTold_10.2.2.2.1 h (fun h => ?_)
      refine e_if_eq (tgt := 23) hX zcdX2_isTold_10.2.2.2.2.1 (by decide) z_eq h (fun h => ?_) (fun h => ?_)
      · refine s_iconst (v := (nI 0)) hX zcdX2_isTold_10.2.2.2.2.2.2.2 (by decide) ?_
        exact e_zretpL hX hR zcdX2_isTold_24.1 (by decide) h
      · refine s_iconst (v := (nI 1)) hX zcdX2_isTold_10.2.2.2.2.2.1 (by decide) ?_
        refine s_goto (tgt := 24) hX zcdX2_isTold_10.2.2.2.2.2.2.1 (by decide) ?_
        exact e_zretpL hX hR zcdX2_isTold_24.1 (by decide) h
set_option maxHeartbeats 4000000 in
theorem t_X0_measure (b : Nat) (hb : isF b) (v2 : Int32) (v3 : Int32) (M : Mem) : AXv yX0_measure cX0_measure 6 none 1 60 glC (fun ad => [.ref (ad 37), .ref (ad b), .int v2, .int v3]) M (f_X0_measure b M v2 v3) := by
  intro r0 h
  refine AM.of (by decide) (fun _ => Nat.le_of_ble_eq_true rfl) (fun X ad cI cZ cB hX hR => ?_)
  show V X M [(0, .ref (ad 37)), (1, .ref (ad b)), (2, .int v2), (3, .int v3)] [] 0
  refine s_iload_n (k := 3) hX zcdX2_isTold_24.2.1 rfl rfl ?_
  refine e_if_lt (tgt := 23) hX zcdX2_isTold_24.2.2.1 (by decide) z_lt h (fun h => ?_) (fun h => ?_)
  · exact e_vret hX hR zcdX0_measure_12.2.2.2.2.2.1 h
  · refine s_iload_n (k := 3) hX zcdX2_isTold_24.2.2.2.1 rfl rfl ?_
    refine s_bipush (v := (nI 7)) hX zcdX2_isTold_24.2.2.2.2.1 (by decide) ?_
    refine e_icmp_ge (tgt := 23) hX zcdX2_isTold_24.2.2.2.2.2.1 (by decide) (m_ge (by decide +kernel)) h (fun h => ?_) (fun h => ?_)
    · exact e_vret hX hR zcdX0_measure_12.2.2.2.2.2.1 h
    · refine s_aload_n (k := 1) hX zcdX2_isTold_24.2.2.2.2.2.2.1 rfl rfl ?_
      refine s_aload_n (k := 0) hX zcdX2_isTold_24.2.2.2.2.2.2.2 rfl rfl ?_
      refine s_get hX fX0_18 oC37 rfl zcdX0_measure_12.1 ?_
      refine s_iload_n (k := 3) hX zcdX0_measure_12.2.1 rfl rfl ?_
      refine e_iald hX aC40 zcdX0_measure_12.2.2.1 h (fun h => ?_)
      refine e_callVp hX (t_X2_isTold b hb (M 40 (ix v3)) M) mX2_isTold lX0_51 (by decide) (by decide) (oF hb) rfl rfl rfl rfl rfl (Nat.le_of_ble_eq_true rfl) zcdX0_measure_12.2.2.2.1 h (fun r_1 h => ?_)
      refine e_if_ne (tgt := 24) hX zcdX0_measure_12.2.2.2.2.1 (by decide) z_eq h (fun h => ?_) (fun h => ?_)
      · refine s_aload_n (k := 0) hX zcdX0_measure_12.2.2.2.2.2.2.1 rfl rfl ?_
        refine s_get hX fX0_18 oC37 rfl zcdX0_measure_12.2.2.2.2.2.2.2 ?_
        refine s_iload_n (k := 3) hX zcdX0_measure_28.1 rfl rfl ?_
        refine e_iald hX aC40 zcdX0_measure_28.2.1 h (fun h => ?_)
        refine e_bnd h (fun x_2 h => ?_)
        refine s_istore (lv' := [(0, .ref (ad 37)), (1, .ref (ad b)), (2, .int v2), (3, .int v3), (4, .int x_2)]) hX zcdX0_measure_28.2.2.1 (by decide) rfl ?_
        refine s_iconst (v := (nI 0)) hX zcdX0_measure_28.2.2.2.1 (by decide) ?_
        refine s_istore (lv' := [(0, .ref (ad 37)), (1, .ref (ad b)), (2, .int v2), (3, .int v3), (4, .int x_2), (5, .int (nI 0))]) hX zcdX0_measure_28.2.2.2.2.1 (by decide) rfl ?_
        have lp35 : ∀ (N35 : Nat) (M35 : Mem) (y5_35 : Int32), wlp2 (f_X0_measure_B35 b v2 v3 x_2) N35 M35 y5_35 = some r0 → V X M35 [(0, .ref (ad 37)), (1, .ref (ad b)), (2, .int v2), (3, .int v3), (4, .int x_2), (5, .int y5_35)] [] 35 := by
          intro N35
          induction N35 with
          | zero => exact fun _ _ h => e_none h
          | succ N35 ih35 =>
            intro M35 y5_35 h
            replace h : f_X0_measure_B35 b v2 v3 x_2 (wlp2 (f_X0_measure_B35 b v2 v3 x_2) N35) M35 y5_35 = some r0 := h
            generalize wlp2 (f_X0_measure_B35 b v2 v3 x_2) N35 = ag35 at ih35 h
            refine s_iload (k := 5) hX zcdX0_measure_28.2.2.2.2.2.1 rfl ?_
            refine s_iload_n (k := 2) hX zcdX0_measure_28.2.2.2.2.2.2.1 rfl rfl ?_
            refine e_icmp_ge (tgt := 103) hX zcdX0_measure_28.2.2.2.2.2.2.2 (by decide) r_le h (fun h => ?_) (fun h => ?_)
            · exact e_vret hX hR zcdX0_measure_97.2.2.1 h
            · refine s_iload (k := 5) hX zcdX0_measure_41.1 rfl ?_
              refine s_bipush (v := (nI 7)) hX zcdX0_measure_41.2.1 (by decide) ?_
              refine e_icmp_ge (tgt := 103) hX zcdX0_measure_41.2.2.1 (by decide) (m_ge (by decide +kernel)) h (fun h => ?_) (fun h => ?_)
              · exact e_vret hX hR zcdX0_measure_97.2.2.1 h
              · refine s_aload_n (k := 0) hX zcdX0_measure_41.2.2.2.1 rfl rfl ?_
                refine s_get hX fX0_21 oC37 rfl zcdX0_measure_41.2.2.2.2.1 ?_
                refine s_iload (k := 5) hX zcdX0_measure_41.2.2.2.2.2.1 rfl ?_
                refine s_bipush (v := (nI 7)) hX zcdX0_measure_41.2.2.2.2.2.2.1 (by decide) ?_
                refine s_imul hX zcdX0_measure_41.2.2.2.2.2.2.2 ?_
                refine s_iload_n (k := 3) hX zcdX0_measure_57.1 rfl rfl ?_
                refine s_iadd hX zcdX0_measure_57.2.1 ?_
                refine s_aload_n (k := 1) hX zcdX0_measure_57.2.2.1 rfl rfl ?_
                refine s_get hX fX0_55 (oF hb) rfl zcdX0_measure_57.2.2.2.1 ?_
                refine s_iload (k := 4) hX zcdX0_measure_57.2.2.2.2.1 rfl ?_
                refine e_iald hX (aF1 hb) zcdX0_measure_57.2.2.2.2.2.1 h (fun h => ?_)
                refine s_aload_n (k := 0) hX zcdX0_measure_57.2.2.2.2.2.2.1 rfl rfl ?_
                refine s_get hX fX0_9 oC37 rfl zcdX0_measure_57.2.2.2.2.2.2.2 ?_
                refine s_iload (k := 5) hX zcdX0_measure_70.1 rfl ?_
                refine e_iald hX aC38 zcdX0_measure_70.2.1 h (fun h => ?_)
                refine s_isub hX zcdX0_measure_70.2.2.1 ?_
                refine e_mabs hX lX0_58 mJ9_abs (by omega) (Nat.le_of_ble_eq_true rfl) zcdX0_measure_70.2.2.2.1 ?_
                refine s_aload_n (k := 1) hX zcdX0_measure_70.2.2.2.2.1 rfl rfl ?_
                refine s_get hX fX0_61 (oF hb) rfl zcdX0_measure_70.2.2.2.2.2.1 ?_
                refine s_iload (k := 4) hX zcdX0_measure_70.2.2.2.2.2.2.1 rfl ?_
                refine e_iald hX (aF2 hb) zcdX0_measure_70.2.2.2.2.2.2.2 h (fun h => ?_)
                refine s_aload_n (k := 0) hX zcdX0_measure_84.1 rfl rfl ?_
                refine s_get hX fX0_15 oC37 rfl zcdX0_measure_84.2.1 ?_
                refine s_iload (k := 5) hX zcdX0_measure_84.2.2.1 rfl ?_
                refine e_iald hX aC39 zcdX0_measure_84.2.2.2.1 h (fun h => ?_)
                refine s_isub hX zcdX0_measure_84.2.2.2.2.1 ?_
                refine e_mabs hX lX0_58 mJ9_abs (by omega) (Nat.le_of_ble_eq_true rfl) zcdX0_measure_84.2.2.2.2.2.1 ?_
                refine s_iadd hX zcdX0_measure_84.2.2.2.2.2.2.1 ?_
                refine e_iast hX aC41 zcdX0_measure_84.2.2.2.2.2.2.2 h (fun h => ?_)
                refine e_bndM h (fun M_3 h => ?_)
                refine s_iinc (k := 5) (v := (y5_35 + (nI 1))) (lv' := [(0, .ref (ad 37)), (1, .ref (ad b)), (2, .int v2), (3, .int v3), (4, .int x_2), (5, .int (y5_35 + (nI 1)))]) hX zcdX0_measure_97.1 (congrArg (fun z => y5_35 + z) (by decide)) (by decide) rfl rfl ?_
                refine s_goto (tgt := 35) hX zcdX0_measure_97.2.1 (by decide) ?_
                exact ih35 M_3 (y5_35 + (nI 1)) h
        exact lp35 FU M (nI 0) h
      · exact e_vret hX hR zcdX0_measure_12.2.2.2.2.2.1 h
set_option maxHeartbeats 4000000 in
theorem t_X0_match (b : Nat) (hb : isF b) (v2 : Int32) (M : Mem) : AXv yX0_match cX0_match 5 none 2 60 glC (fun ad => [.ref (ad 37), .ref (ad b), .int v2]) M (f_X0_match b M v2) := by
  intro r0 h
  refine AM.of (by decide) (fun _ => Nat.le_of_ble_eq_true rfl) (fun X ad cI cZ cB hX hR => ?_)
  show V X M [(0, .ref (ad 37)), (1, .ref (ad b)), (2, .int v2)] [] 0
  refine s_iconst (v := (nI 0)) hX zcdX0_measure_97.2.2.2.1 (by decide) ?_
  refine s_istore_n (lv' := [(0, .ref (ad 37)), (1, .ref (ad b)), (2, .int v2), (3, .int (nI 0))]) hX zcdX0_measure_97.2.2.2.2.1 rfl (by decide) rfl ?_
  refine s_iconst (v := (nI 0)) hX zcdX0_measure_97.2.2.2.2.2.1 (by decide) ?_
  refine s_istore (lv' := [(0, .ref (ad 37)), (1, .ref (ad b)), (2, .int v2), (3, .int (nI 0)), (4, .int (nI 0))]) hX zcdX0_measure_97.2.2.2.2.2.2.1 (by decide) rfl ?_
  have lp5 : ∀ (N5 : Nat) (M5 : Mem) (y3_5 : Int32) (y4_5 : Int32), wlp3 (f_X0_match_B5 b v2) N5 M5 y3_5 y4_5 = some r0 → V X M5 [(0, .ref (ad 37)), (1, .ref (ad b)), (2, .int v2), (3, .int y3_5), (4, .int y4_5)] [] 5 := by
    intro N5
    induction N5 with
    | zero => exact fun _ _ _ h => e_none h
    | succ N5 ih5 =>
      intro M5 y3_5 y4_5 h
      replace h : f_X0_match_B5 b v2 (wlp3 (f_X0_match_B5 b v2) N5) M5 y3_5 y4_5 = some r0 := h
      generalize wlp3 (f_X0_match_B5 b v2) N5 = ag5 at ih5 h
      refine s_iload (k := 4) hX zcdX0_measure_97.2.2.2.2.2.2.2 rfl ?_
      refine s_iload_n (k := 2) hX zcdX0_match_7.1 rfl rfl ?_
      have j54 : f_X0_match_L54 v2 M5 = some r0 → V X M5 [(0, .ref (ad 37)), (2, .int v2)] [] 54 := by
        intro  h
        refine s_iconst (v := (nI 1)) hX zcdX0_match_48.2.2.1 (by decide) ?_
        refine s_iload_n (k := 1) hX zcdX0_match_48.2.2.2.1 rfl rfl ?_
        refine e_ishl hX zcdX0_match_48.2.2.2.2.1 ?_
        refine s_sipush (v := (nI 128)) hX zcdX0_match_48.2.2.2.2.2.1 (by decide) ?_
        refine e_mmin hX lX0_42 mJ9_min (by omega) (Nat.le_of_ble_eq_true rfl) zcdX0_match_48.2.2.2.2.2.2.1 ?_
        refine s_iconst (v := (nI 1)) hX zcdX0_match_48.2.2.2.2.2.2.2 (by decide) ?_
        refine s_isub hX zcdX0_match_64.1 ?_
        refine e_bnd h (fun x_1 h => ?_)
        refine s_istore (lv' := [(0, .ref (ad 37)), (2, .int v2), (4, .int x_1)]) hX zcdX0_match_64.2.1 (by decide) rfl ?_
        have lp67 : ∀ (N67 : Nat) (M67 : Mem) (y4_67 : Int32), wlp2 (f_X0_match_B67 v2) N67 M67 y4_67 = some r0 → V X M67 [(0, .ref (ad 37)), (2, .int v2), (4, .int y4_67)] [] 67 := by
          intro N67
          induction N67 with
          | zero => exact fun _ _ h => e_none h
          | succ N67 ih67 =>
            intro M67 y4_67 h
            replace h : f_X0_match_B67 v2 (wlp2 (f_X0_match_B67 v2) N67) M67 y4_67 = some r0 := h
            generalize wlp2 (f_X0_match_B67 v2) N67 = ag67 at ih67 h
            refine s_iload (k := 2) hX zcdX0_match_64.2.2.1 rfl ?_
            refine e_if_lt (tgt := 92) hX zcdX0_match_64.2.2.2.1 (by decide) z_lt h (fun h => ?_) (fun h => ?_)
            · exact e_vret hX hR zcdX0_match_79.2.2.2.2.2.2.1 h
            · refine s_aload_n (k := 0) hX zcdX0_match_64.2.2.2.2.1 rfl rfl ?_
              refine s_get hX fX0_24 oC37 rfl zcdX0_match_64.2.2.2.2.2.1 ?_
              refine s_iload (k := 2) hX zcdX0_match_64.2.2.2.2.2.2.1 rfl ?_
              refine s_aload_n (k := 0) hX zcdX0_match_64.2.2.2.2.2.2.2 rfl rfl ?_
              refine s_iload_n (k := 1) hX zcdX0_match_79.1 rfl rfl ?_
              refine s_iload (k := 2) hX zcdX0_match_79.2.1 rfl ?_
              refine e_callVp hX (t_X0_fewestBehind v2 y4_67 M67) mX0_fewestBehind lX0_48 (by decide) (by decide) oC37 rfl rfl rfl rfl rfl (Nat.le_of_ble_eq_true rfl) zcdX0_match_79.2.2.1 h (fun r_2 h => ?_)
              refine e_iast hX aC42 zcdX0_match_79.2.2.2.1 h (fun h => ?_)
              refine e_bndM h (fun M_3 h => ?_)
              refine s_iinc (k := 2) (v := (y4_67 + (-1))) (lv' := [(0, .ref (ad 37)), (2, .int v2), (4, .int (y4_67 + (-1)))]) hX zcdX0_match_79.2.2.2.2.1 (congrArg (fun z => y4_67 + z) (by decide)) (by decide) rfl rfl ?_
              refine s_goto (tgt := 67) hX zcdX0_match_79.2.2.2.2.2.1 (by decide) ?_
              exact ih67 M_3 (y4_67 + (-1)) h
        exact lp67 FU M5 x_1 h
      refine e_icmp_ge (tgt := 54) hX zcdX0_match_7.2.1 (by decide) r_le h (fun h => ?_) (fun h => ?_)
      · refine s_loc [0, 2] rfl ?_
        exact j54 h
      · refine s_iload (k := 4) hX zcdX0_match_7.2.2.1 rfl ?_
        refine s_bipush (v := (nI 7)) hX zcdX0_match_7.2.2.2.1 (by decide) ?_
        refine e_icmp_ge (tgt := 54) hX zcdX0_match_7.2.2.2.2.1 (by decide) (m_ge (by decide +kernel)) h (fun h => ?_) (fun h => ?_)
        · refine s_loc [0, 2] rfl ?_
          exact j54 h
        · refine s_aload_n (k := 0) hX zcdX0_match_7.2.2.2.2.2.1 rfl rfl ?_
          refine s_get hX fX0_18 oC37 rfl zcdX0_match_7.2.2.2.2.2.2.1 ?_
          refine s_iload (k := 4) hX zcdX0_match_7.2.2.2.2.2.2.2 rfl ?_
          refine s_aload_n (k := 1) hX zcdX0_match_24.1 rfl rfl ?_
          refine s_iload_n (k := 3) hX zcdX0_match_24.2.1 rfl rfl ?_
          refine e_callVp hX (t_X2_nextTold b hb y3_5 M5) mX2_nextTold lX0_33 (by decide) (by decide) (oF hb) rfl rfl rfl rfl rfl (Nat.le_of_ble_eq_true rfl) zcdX0_match_24.2.2.1 h (fun r_4 h => ?_)
          refine e_iast hX aC40 zcdX0_match_24.2.2.2.1 h (fun h => ?_)
          refine e_bndM h (fun M_5 h => ?_)
          refine s_aload_n (k := 0) hX zcdX0_match_24.2.2.2.2.1 rfl rfl ?_
          refine s_get hX fX0_18 oC37 rfl zcdX0_match_24.2.2.2.2.2.1 ?_
          refine s_iload (k := 4) hX zcdX0_match_24.2.2.2.2.2.2.1 rfl ?_
          refine e_iald hX aC40 zcdX0_match_24.2.2.2.2.2.2.2 h (fun h => ?_)
          refine s_iconst (v := (nI 1)) hX zcdX0_match_37.1 (by decide) ?_
          refine s_iadd hX zcdX0_match_37.2.1 ?_
          refine e_bnd h (fun x_6 h => ?_)
          refine s_istore_n (lv' := [(0, .ref (ad 37)), (1, .ref (ad b)), (2, .int v2), (4, .int y4_5), (3, .int x_6)]) hX zcdX0_match_37.2.2.1 rfl (by decide) rfl ?_
          refine s_aload_n (k := 0) hX zcdX0_match_37.2.2.2.1 rfl rfl ?_
          refine s_aload_n (k := 1) hX zcdX0_match_37.2.2.2.2.1 rfl rfl ?_
          refine s_iload_n (k := 2) hX zcdX0_match_37.2.2.2.2.2.1 rfl rfl ?_
          refine s_iload (k := 3) hX zcdX0_match_37.2.2.2.2.2.2.1 rfl ?_
          refine e_callVv hX (t_X0_measure b hb v2 y4_5 M_5) mX0_measure lX0_38 (by decide) (by decide) oC37 rfl rfl rfl rfl rfl (Nat.le_of_ble_eq_true rfl) zcdX0_match_37.2.2.2.2.2.2.2 h (fun M_7 h => ?_)
          refine s_iinc (k := 3) (v := (y4_5 + (nI 1))) (lv' := [(0, .ref (ad 37)), (1, .ref (ad b)), (2, .int v2), (3, .int x_6), (4, .int (y4_5 + (nI 1)))]) hX zcdX0_match_48.1 (congrArg (fun z => y4_5 + z) (by decide)) (by decide) rfl rfl ?_
          refine s_goto (tgt := 5) hX zcdX0_match_48.2.1 (by decide) ?_
          exact ih5 M_7 x_6 (y4_5 + (nI 1)) h
  exact lp5 FU M (nI 0) (nI 0) h
set_option maxHeartbeats 4000000 in
theorem t_X7_byteAt (v1 : Int32) (M : Mem) : AXp yX7_byteAt cX7_byteAt 2 (some .int) 0 60 glC (fun ad => [.ref (ad 19), .int v1]) M (f_X7_byteAt M v1) := by
  intro r0 h
  refine AM.of (by decide) (fun _ => Nat.le_of_ble_eq_true rfl) (fun X ad cI cZ cB hX hR => ?_)
  show V X M [(0, .ref (ad 19)), (1, .int v1)] [] 0
  refine s_iload_n (k := 1) hX zcdX0_match_79.2.2.2.2.2.2.2 rfl rfl ?_
  refine e_if_lt (tgt := 28) hX zcdX7_byteAt_1.1 (by decide) z_lt h (fun h => ?_) (fun h => ?_)
  · refine s_iconst (v := (-1)) hX zcdX7_byteAt_19.2.2.2.2.2.1 (by decide) ?_
    exact e_iretp hX hR zcdX7_byteAt_19.2.2.2.2.2.2.1 h
  · refine s_iload_n (k := 1) hX zcdX7_byteAt_1.2.1 rfl rfl ?_
    refine s_aload_n (k := 0) hX zcdX7_byteAt_1.2.2.1 rfl rfl ?_
    refine s_get hX fX7_19 oC19 rfl zcdX7_byteAt_1.2.2.2.1 ?_
    refine e_icmp_ge (tgt := 28) hX zcdX7_byteAt_1.2.2.2.2.1 (by decide) r_le h (fun h => ?_) (fun h => ?_)
    · refine s_iconst (v := (-1)) hX zcdX7_byteAt_19.2.2.2.2.2.1 (by decide) ?_
      exact e_iretp hX hR zcdX7_byteAt_19.2.2.2.2.2.2.1 h
    · refine s_iload_n (k := 1) hX zcdX7_byteAt_1.2.2.2.2.2.1 rfl rfl ?_
      refine s_sipush (v := (nI 260)) hX zcdX7_byteAt_1.2.2.2.2.2.2.1 (by decide) ?_
      refine e_icmp_ge (tgt := 28) hX zcdX7_byteAt_1.2.2.2.2.2.2.2 (by decide) (m_ge (by decide +kernel)) h (fun h => ?_) (fun h => ?_)
      · refine s_iconst (v := (-1)) hX zcdX7_byteAt_19.2.2.2.2.2.1 (by decide) ?_
        exact e_iretp hX hR zcdX7_byteAt_19.2.2.2.2.2.2.1 h
      · refine s_aload_n (k := 0) hX zcdX7_byteAt_19.1 rfl rfl ?_
        refine s_get hX fX7_9 oC19 rfl zcdX7_byteAt_19.2.1 ?_
        refine s_iload_n (k := 1) hX zcdX7_byteAt_19.2.2.1 rfl rfl ?_
        refine e_iald hX aC20 zcdX7_byteAt_19.2.2.2.1 h (fun h => ?_)
        refine s_goto (tgt := 29) hX zcdX7_byteAt_19.2.2.2.2.1 (by decide) ?_
        exact e_iretp hX hR zcdX7_byteAt_19.2.2.2.2.2.2.1 h
set_option maxHeartbeats 4000000 in
theorem t_X0_read (v2 : Int32) (M : Mem) : AXi yX0_read cX0_read 4 (some .boolean) 1 60 glC (fun ad => [.ref (ad 37), .ref (ad 19), .int v2]) M (f_X0_read M v2) := by
  intro r0 h
  refine AM.of (by decide) (fun _ => Nat.le_of_ble_eq_true rfl) (fun X ad cI cZ cB hX hR => ?_)
  show V X M [(0, .ref (ad 37)), (1, .ref (ad 19)), (2, .int v2)] [] 0
  refine s_iconst (v := (nI 0)) hX zcdX7_byteAt_19.2.2.2.2.2.2.2 (by decide) ?_
  refine s_istore_n (lv' := [(0, .ref (ad 37)), (1, .ref (ad 19)), (2, .int v2), (3, .int (nI 0))]) hX zcdX0_read_1.1 rfl (by decide) rfl ?_
  have lp2 : ∀ (N2 : Nat) (M2 : Mem) (y3_2 : Int32), wlp2 (f_X0_read_B2 v2) N2 M2 y3_2 = some r0 → V X M2 [(0, .ref (ad 37)), (1, .ref (ad 19)), (2, .int v2), (3, .int y3_2)] [] 2 := by
    intro N2
    induction N2 with
    | zero => exact fun _ _ h => e_none h
    | succ N2 ih2 =>
      intro M2 y3_2 h
      replace h : f_X0_read_B2 v2 (wlp2 (f_X0_read_B2 v2) N2) M2 y3_2 = some r0 := h
      generalize wlp2 (f_X0_read_B2 v2) N2 = ag2 at ih2 h
      refine s_iload_n (k := 3) hX zcdX0_read_1.2.1 rfl rfl ?_
      refine s_iload_n (k := 2) hX zcdX0_read_1.2.2.1 rfl rfl ?_
      refine e_icmp_ge (tgt := 71) hX zcdX0_read_1.2.2.2.1 (by decide) r_le h (fun h => ?_) (fun h => ?_)
      · refine s_iconst (v := (nI 1)) hX zcdX0_read_64.2.2.2.1 (by decide) ?_
        exact e_zretiL hX hR zcdX0_read_64.2.2.2.2.1 (by decide) h
      · refine s_iload_n (k := 3) hX zcdX0_read_1.2.2.2.2.1 rfl rfl ?_
        refine s_bipush (v := (nI 7)) hX zcdX0_read_1.2.2.2.2.2.1 (by decide) ?_
        refine e_icmp_ge (tgt := 71) hX zcdX0_read_1.2.2.2.2.2.2.1 (by decide) (m_ge (by decide +kernel)) h (fun h => ?_) (fun h => ?_)
        · refine s_iconst (v := (nI 1)) hX zcdX0_read_64.2.2.2.1 (by decide) ?_
          exact e_zretiL hX hR zcdX0_read_64.2.2.2.2.1 (by decide) h
        · refine s_aload_n (k := 0) hX zcdX0_read_1.2.2.2.2.2.2.2 rfl rfl ?_
          refine s_get hX fX0_9 oC37 rfl zcdX0_read_14.1 ?_
          refine s_iload_n (k := 3) hX zcdX0_read_14.2.1 rfl rfl ?_
          refine s_aload_n (k := 1) hX zcdX0_read_14.2.2.1 rfl rfl ?_
          refine s_iconst (v := (nI 2)) hX zcdX0_read_14.2.2.2.1 (by decide) ?_
          refine s_iload_n (k := 3) hX zcdX0_read_14.2.2.2.2.1 rfl rfl ?_
          refine s_imul hX zcdX0_read_14.2.2.2.2.2.1 ?_
          refine e_callVp hX (t_X7_byteAt ((nI 2) * y3_2) M2) mX7_byteAt lX0_27 (by decide) (by decide) oC19 rfl rfl rfl rfl rfl (Nat.le_of_ble_eq_true rfl) zcdX0_read_14.2.2.2.2.2.2.1 h (fun r_1 h => ?_)
          refine e_iast hX aC38 zcdX0_read_14.2.2.2.2.2.2.2 h (fun h => ?_)
          refine e_bndM h (fun M_2 h => ?_)
          refine s_aload_n (k := 0) hX zcdX0_read_26.1 rfl rfl ?_
          refine s_get hX fX0_15 oC37 rfl zcdX0_read_26.2.1 ?_
          refine s_iload_n (k := 3) hX zcdX0_read_26.2.2.1 rfl rfl ?_
          refine s_aload_n (k := 1) hX zcdX0_read_26.2.2.2.1 rfl rfl ?_
          refine s_iconst (v := (nI 2)) hX zcdX0_read_26.2.2.2.2.1 (by decide) ?_
          refine s_iload_n (k := 3) hX zcdX0_read_26.2.2.2.2.2.1 rfl rfl ?_
          refine s_imul hX zcdX0_read_26.2.2.2.2.2.2.1 ?_
          refine s_iconst (v := (nI 1)) hX zcdX0_read_26.2.2.2.2.2.2.2 (by decide) ?_
          refine s_iadd hX zcdX0_read_36.1 ?_
          refine e_callVp hX (t_X7_byteAt (((nI 2) * y3_2) + (nI 1)) M_2) mX7_byteAt lX0_27 (by decide) (by decide) oC19 rfl rfl rfl rfl rfl (Nat.le_of_ble_eq_true rfl) zcdX0_read_36.2.1 h (fun r_3 h => ?_)
          refine e_iast hX aC39 zcdX0_read_36.2.2.1 h (fun h => ?_)
          refine e_bndM h (fun M_4 h => ?_)
          refine s_aload_n (k := 0) hX zcdX0_read_36.2.2.2.1 rfl rfl ?_
          refine s_get hX fX0_9 oC37 rfl zcdX0_read_36.2.2.2.2.1 ?_
          refine s_iload_n (k := 3) hX zcdX0_read_36.2.2.2.2.2.1 rfl rfl ?_
          refine e_iald hX aC38 zcdX0_read_36.2.2.2.2.2.2.1 h (fun h => ?_)
          refine s_bipush (v := (nI 39)) hX zcdX0_read_36.2.2.2.2.2.2.2 (by decide) ?_
          refine e_icmp_gt (tgt := 63) hX zcdX0_read_49.1 (by decide) (m_gt (by decide +kernel)) h (fun h => ?_) (fun h => ?_)
          · refine s_iconst (v := (nI 0)) hX zcdX0_read_49.2.2.2.2.2.2.2 (by decide) ?_
            exact e_zretiL hX hR zcdX0_read_64.1 (by decide) h
          · refine s_aload_n (k := 0) hX zcdX0_read_49.2.1 rfl rfl ?_
            refine s_get hX fX0_15 oC37 rfl zcdX0_read_49.2.2.1 ?_
            refine s_iload_n (k := 3) hX zcdX0_read_49.2.2.2.1 rfl rfl ?_
            refine e_iald hX aC39 zcdX0_read_49.2.2.2.2.1 h (fun h => ?_)
            refine s_bipush (v := (nI 20)) hX zcdX0_read_49.2.2.2.2.2.1 (by decide) ?_
            refine e_icmp_le (tgt := 65) hX zcdX0_read_49.2.2.2.2.2.2.1 (by decide) (m_le (by decide +kernel)) h (fun h => ?_) (fun h => ?_)
            · refine s_iinc (k := 3) (v := (y3_2 + (nI 1))) (lv' := [(0, .ref (ad 37)), (1, .ref (ad 19)), (2, .int v2), (3, .int (y3_2 + (nI 1)))]) hX zcdX0_read_64.2.1 (congrArg (fun z => y3_2 + z) (by decide)) (by decide) rfl rfl ?_
              refine s_goto (tgt := 2) hX zcdX0_read_64.2.2.1 (by decide) ?_
              exact ih2 M_4 (y3_2 + (nI 1)) h
            · refine s_iconst (v := (nI 0)) hX zcdX0_read_49.2.2.2.2.2.2.2 (by decide) ?_
              exact e_zretiL hX hR zcdX0_read_64.1 (by decide) h
  exact lp2 FU M (nI 0) h
set_option maxHeartbeats 4000000 in
theorem t_X0_stoneOf (v1 : Int32) (v2 : Int32) (M : Mem) : AXp yX0_stoneOf cX0_stoneOf 7 (some .int) 1 60 glC (fun ad => [.ref (ad 37), .int v1, .int v2]) M (f_X0_stoneOf M v1 v2) := by
  intro r0 h
  refine AM.of (by decide) (fun _ => Nat.le_of_ble_eq_true rfl) (fun X ad cI cZ cB hX hR => ?_)
  show V X M [(0, .ref (ad 37)), (1, .int v1), (2, .int v2)] [] 0
  refine s_iconst (v := (nI 0)) hX zcdX0_read_64.2.2.2.2.2.1 (by decide) ?_
  refine s_istore_n (lv' := [(0, .ref (ad 37)), (1, .int v1), (2, .int v2), (3, .int (nI 0))]) hX zcdX0_read_64.2.2.2.2.2.2.1 rfl (by decide) rfl ?_
  refine s_iconst (v := (-1)) hX zcdX0_read_64.2.2.2.2.2.2.2 (by decide) ?_
  refine s_istore (lv' := [(0, .ref (ad 37)), (1, .int v1), (2, .int v2), (3, .int (nI 0)), (4, .int (-1))]) hX zcdX0_stoneOf_3.1 (by decide) rfl ?_
  refine s_iconst (v := (nI 0)) hX zcdX0_stoneOf_3.2.1 (by decide) ?_
  refine s_istore (lv' := [(0, .ref (ad 37)), (1, .int v1), (2, .int v2), (3, .int (nI 0)), (4, .int (-1)), (5, .int (nI 0))]) hX zcdX0_stoneOf_3.2.2.1 (by decide) rfl ?_
  have lp8 : ∀ (N8 : Nat) (y3_8 : Int32) (y4_8 : Int32) (y5_8 : Int32), wlp3 (f_X0_stoneOf_B8 M v1 v2) N8 y3_8 y4_8 y5_8 = some r0 → V X M [(0, .ref (ad 37)), (1, .int v1), (2, .int v2), (3, .int y3_8), (4, .int y4_8), (5, .int y5_8)] [] 8 := by
    intro N8
    induction N8 with
    | zero => exact fun _ _ _ h => e_none h
    | succ N8 ih8 =>
      intro y3_8 y4_8 y5_8 h
      replace h : f_X0_stoneOf_B8 M v1 v2 (wlp3 (f_X0_stoneOf_B8 M v1 v2) N8) y3_8 y4_8 y5_8 = some r0 := h
      generalize wlp3 (f_X0_stoneOf_B8 M v1 v2) N8 = ag8 at ih8 h
      refine s_iload (k := 5) hX zcdX0_stoneOf_3.2.2.2.1 rfl ?_
      refine s_iload_n (k := 2) hX zcdX0_stoneOf_3.2.2.2.2.1 rfl rfl ?_
      refine e_icmp_gt (tgt := 97) hX zcdX0_stoneOf_3.2.2.2.2.2.1 (by decide) r_lt h (fun h => ?_) (fun h => ?_)
      · refine s_iload (k := 4) hX zcdX0_stoneOf_97.1 rfl ?_
        exact e_iretp hX hR zcdX0_stoneOf_97.2.1 h
      · refine s_iload (k := 5) hX zcdX0_stoneOf_3.2.2.2.2.2.2.1 rfl ?_
        refine s_bipush (v := (nI 7)) hX zcdX0_stoneOf_3.2.2.2.2.2.2.2 (by decide) ?_
        refine e_icmp_ge (tgt := 97) hX zcdX0_stoneOf_18.1 (by decide) (m_ge (by decide +kernel)) h (fun h => ?_) (fun h => ?_)
        · refine s_iload (k := 4) hX zcdX0_stoneOf_97.1 rfl ?_
          exact e_iretp hX hR zcdX0_stoneOf_97.2.1 h
        · refine s_iconst (v := (nI 0)) hX zcdX0_stoneOf_18.2.1 (by decide) ?_
          refine s_istore (lv' := [(0, .ref (ad 37)), (1, .int v1), (2, .int v2), (3, .int y3_8), (4, .int y4_8), (5, .int y5_8), (6, .int (nI 0))]) hX zcdX0_stoneOf_18.2.2.1 (by decide) rfl ?_
          have lp24 : ∀ (N24 : Nat) (y6_24 : Int32), wlp1 (f_X0_stoneOf_B24 M v1 ag8 y3_8 y4_8 y5_8) N24 y6_24 = some r0 → V X M [(0, .ref (ad 37)), (1, .int v1), (2, .int v2), (3, .int y3_8), (4, .int y4_8), (5, .int y5_8), (6, .int y6_24)] [] 24 := by
            intro N24
            induction N24 with
            | zero => exact fun _ h => e_none h
            | succ N24 ih24 =>
              intro y6_24 h
              replace h : f_X0_stoneOf_B24 M v1 ag8 y3_8 y4_8 y5_8 (wlp1 (f_X0_stoneOf_B24 M v1 ag8 y3_8 y4_8 y5_8) N24) y6_24 = some r0 := h
              generalize wlp1 (f_X0_stoneOf_B24 M v1 ag8 y3_8 y4_8 y5_8) N24 = ag24 at ih24 h
              refine s_iload (k := 6) hX zcdX0_stoneOf_18.2.2.2.1 rfl ?_
              refine s_iload_n (k := 1) hX zcdX0_stoneOf_18.2.2.2.2.1 rfl rfl ?_
              refine e_icmp_ge (tgt := 91) hX zcdX0_stoneOf_18.2.2.2.2.2.1 (by decide) r_le h (fun h => ?_) (fun h => ?_)
              · refine s_iinc (k := 5) (v := (y5_8 + (nI 1))) (lv' := [(0, .ref (ad 37)), (1, .int v1), (2, .int v2), (3, .int y3_8), (4, .int y4_8), (6, .int y6_24), (5, .int (y5_8 + (nI 1)))]) hX zcdX0_stoneOf_79.2.2.2.2.2.2.1 (congrArg (fun z => y5_8 + z) (by decide)) (by decide) rfl rfl ?_
                refine s_goto (tgt := 8) hX zcdX0_stoneOf_79.2.2.2.2.2.2.2 (by decide) ?_
                refine s_loc [0, 1, 2, 3, 4, 6] rfl ?_
                exact ih8 y3_8 y4_8 (y5_8 + (nI 1)) h
              · refine s_iload (k := 6) hX zcdX0_stoneOf_18.2.2.2.2.2.2.1 rfl ?_
                refine s_bipush (v := (nI 7)) hX zcdX0_stoneOf_18.2.2.2.2.2.2.2 (by decide) ?_
                refine e_icmp_ge (tgt := 91) hX zcdX0_stoneOf_34.1 (by decide) (m_ge (by decide +kernel)) h (fun h => ?_) (fun h => ?_)
                · refine s_iinc (k := 5) (v := (y5_8 + (nI 1))) (lv' := [(0, .ref (ad 37)), (1, .int v1), (2, .int v2), (3, .int y3_8), (4, .int y4_8), (6, .int y6_24), (5, .int (y5_8 + (nI 1)))]) hX zcdX0_stoneOf_79.2.2.2.2.2.2.1 (congrArg (fun z => y5_8 + z) (by decide)) (by decide) rfl rfl ?_
                  refine s_goto (tgt := 8) hX zcdX0_stoneOf_79.2.2.2.2.2.2.2 (by decide) ?_
                  refine s_loc [0, 1, 2, 3, 4, 6] rfl ?_
                  exact ih8 y3_8 y4_8 (y5_8 + (nI 1)) h
                · refine s_iload_n (k := 3) hX zcdX0_stoneOf_34.2.1 rfl rfl ?_
                  refine e_if_lt (tgt := 85) hX zcdX0_stoneOf_34.2.2.1 (by decide) z_lt h (fun h => ?_) (fun h => ?_)
                  · refine s_iinc (k := 6) (v := (y6_24 + (nI 1))) (lv' := [(0, .ref (ad 37)), (1, .int v1), (2, .int v2), (3, .int y3_8), (4, .int y4_8), (5, .int y5_8), (6, .int (y6_24 + (nI 1)))]) hX zcdX0_stoneOf_79.2.2.2.2.1 (congrArg (fun z => y6_24 + z) (by decide)) (by decide) rfl rfl ?_
                    refine s_goto (tgt := 24) hX zcdX0_stoneOf_79.2.2.2.2.2.1 (by decide) ?_
                    exact ih24 (y6_24 + (nI 1)) h
                  · refine s_iload_n (k := 3) hX zcdX0_stoneOf_34.2.2.2.1 rfl rfl ?_
                    refine s_sipush (v := (nI 128)) hX zcdX0_stoneOf_34.2.2.2.2.1 (by decide) ?_
                    refine e_icmp_ge (tgt := 85) hX zcdX0_stoneOf_34.2.2.2.2.2.1 (by decide) (m_ge (by decide +kernel)) h (fun h => ?_) (fun h => ?_)
                    · refine s_iinc (k := 6) (v := (y6_24 + (nI 1))) (lv' := [(0, .ref (ad 37)), (1, .int v1), (2, .int v2), (3, .int y3_8), (4, .int y4_8), (5, .int y5_8), (6, .int (y6_24 + (nI 1)))]) hX zcdX0_stoneOf_79.2.2.2.2.1 (congrArg (fun z => y6_24 + z) (by decide)) (by decide) rfl rfl ?_
                      refine s_goto (tgt := 24) hX zcdX0_stoneOf_79.2.2.2.2.2.1 (by decide) ?_
                      exact ih24 (y6_24 + (nI 1)) h
                    · refine s_aload_n (k := 0) hX zcdX0_stoneOf_34.2.2.2.2.2.2.1 rfl rfl ?_
                      refine s_iload_n (k := 3) hX zcdX0_stoneOf_34.2.2.2.2.2.2.2 rfl rfl ?_
                      refine s_iload (k := 5) hX zcdX0_stoneOf_50.1 rfl ?_
                      refine s_iload (k := 6) hX zcdX0_stoneOf_50.2.1 rfl ?_
                      refine e_callVp hX (t_X0_wayWith y3_8 y5_8 y6_24 M) mX0_wayWith lX0_70 (by decide) (by decide) oC37 rfl rfl rfl rfl rfl (Nat.le_of_ble_eq_true rfl) zcdX0_stoneOf_50.2.2.1 h (fun r_1 h => ?_)
                      refine s_aload_n (k := 0) hX zcdX0_stoneOf_50.2.2.2.1 rfl rfl ?_
                      refine s_get hX fX0_24 oC37 rfl zcdX0_stoneOf_50.2.2.2.2.1 ?_
                      refine s_iload_n (k := 3) hX zcdX0_stoneOf_50.2.2.2.2.2.1 rfl rfl ?_
                      refine e_iald hX aC42 zcdX0_stoneOf_50.2.2.2.2.2.2.1 h (fun h => ?_)
                      have j66 : f_X0_stoneOf_L66 M ag8 y3_8 y5_8 y6_24 = some r0 → V X M [(0, .ref (ad 37)), (1, .int v1), (2, .int v2), (3, .int y3_8), (5, .int y5_8), (6, .int y6_24)] [] 66 := by
                        intro  h
                        refine s_aload_n (k := 0) hX zcdX0_stoneOf_66.1 rfl rfl ?_
                        refine s_get hX fX0_18 oC37 rfl zcdX0_stoneOf_66.2.1 ?_
                        refine s_iload (k := 5) hX zcdX0_stoneOf_66.2.2.1 rfl ?_
                        refine e_iald hX aC40 zcdX0_stoneOf_66.2.2.2.1 h (fun h => ?_)
                        refine e_bnd h (fun x_2 h => ?_)
                        refine s_istore (lv' := [(0, .ref (ad 37)), (1, .int v1), (2, .int v2), (3, .int y3_8), (5, .int y5_8), (6, .int y6_24), (4, .int x_2)]) hX zcdX0_stoneOf_66.2.2.2.2.1 (by decide) rfl ?_
                        refine s_iload_n (k := 3) hX zcdX0_stoneOf_66.2.2.2.2.2.1 rfl rfl ?_
                        refine s_iconst (v := (nI 1)) hX zcdX0_stoneOf_66.2.2.2.2.2.2.1 (by decide) ?_
                        refine s_iload (k := 5) hX zcdX0_stoneOf_66.2.2.2.2.2.2.2 rfl ?_
                        refine e_ishl hX zcdX0_stoneOf_79.1 ?_
                        refine s_ior hX zcdX0_stoneOf_79.2.1 ?_
                        refine e_bnd h (fun x_3 h => ?_)
                        refine s_istore_n (lv' := [(0, .ref (ad 37)), (1, .int v1), (2, .int v2), (5, .int y5_8), (6, .int y6_24), (4, .int x_2), (3, .int x_3)]) hX zcdX0_stoneOf_79.2.2.1 rfl (by decide) rfl ?_
                        refine s_goto (tgt := 91) hX zcdX0_stoneOf_79.2.2.2.1 (by decide) ?_
                        refine s_iinc (k := 3) (v := (y5_8 + (nI 1))) (lv' := [(0, .ref (ad 37)), (1, .int v1), (2, .int v2), (6, .int y6_24), (4, .int x_2), (3, .int x_3), (5, .int (y5_8 + (nI 1)))]) hX zcdX0_stoneOf_79.2.2.2.2.2.2.1 (congrArg (fun z => y5_8 + z) (by decide)) (by decide) rfl rfl ?_
                        refine s_goto (tgt := 8) hX zcdX0_stoneOf_79.2.2.2.2.2.2.2 (by decide) ?_
                        refine s_loc [0, 1, 2, 5, 4, 6] rfl ?_
                        exact ih8 x_3 x_2 (y5_8 + (nI 1)) h
                      refine e_icmp_ne (tgt := 85) hX zcdX0_stoneOf_50.2.2.2.2.2.2.2 (by decide) r_eq h (fun h => ?_) (fun h => ?_)
                      · refine s_iinc (k := 6) (v := (y6_24 + (nI 1))) (lv' := [(0, .ref (ad 37)), (1, .int v1), (2, .int v2), (3, .int y3_8), (4, .int y4_8), (5, .int y5_8), (6, .int (y6_24 + (nI 1)))]) hX zcdX0_stoneOf_79.2.2.2.2.1 (congrArg (fun z => y6_24 + z) (by decide)) (by decide) rfl rfl ?_
                        refine s_goto (tgt := 24) hX zcdX0_stoneOf_79.2.2.2.2.2.1 (by decide) ?_
                        exact ih24 (y6_24 + (nI 1)) h
                      · refine s_loc [0, 1, 2, 3, 5, 6] rfl ?_
                        exact j66 h
          exact lp24 FU (nI 0) h
  exact lp8 FU (nI 0) (-1) (nI 0) h
set_option maxHeartbeats 4000000 in
theorem t_X0_wayInAll (M : Mem) : AXp yX0_wayInAll cX0_wayInAll 1 (some .int) 0 60 glC (fun ad => [.ref (ad 37)]) M (f_X0_wayInAll M) := by
  intro r0 h
  refine AM.of (by decide) (fun _ => Nat.le_of_ble_eq_true rfl) (fun X ad cI cZ cB hX hR => ?_)
  show V X M [(0, .ref (ad 37))] [] 0
  refine s_aload_n (k := 0) hX zcdX0_stoneOf_97.2.2.1 rfl rfl ?_
  refine s_get hX fX0_24 oC37 rfl zcdX0_stoneOf_97.2.2.2.1 ?_
  refine s_iconst (v := (nI 0)) hX zcdX0_stoneOf_97.2.2.2.2.1 (by decide) ?_
  refine s_ialdN hX aC42 (by decide) zcdX0_stoneOf_97.2.2.2.2.2.1 ?_
  exact e_iretp hX hR zcdX0_stoneOf_97.2.2.2.2.2.2.1 h
set_option maxHeartbeats 4000000 in
theorem t_X1_reach (v1 : Int32) (v2 : Int32) (M : Mem) : AXv yX1_reach cX1_reach 3 none 0 60 glC (fun ad => [.ref (ad 30), .int v1, .int v2]) M (f_X1_reach M v1 v2) := by
  intro r0 h
  refine AM.of (by decide) (fun _ => Nat.le_of_ble_eq_true rfl) (fun X ad cI cZ cB hX hR => ?_)
  show V X M [(0, .ref (ad 30)), (1, .int v1), (2, .int v2)] [] 0
  refine s_iload_n (k := 1) hX zcdX0_stoneOf_97.2.2.2.2.2.2.2 rfl rfl ?_
  refine e_if_lt (tgt := 63) hX zcdX1_reach_1.1 (by decide) z_lt h (fun h => ?_) (fun h => ?_)
  · exact e_vret hX hR zcdX1_reach_59.2.2.1 h
  · refine s_iload_n (k := 1) hX zcdX1_reach_1.2.1 rfl rfl ?_
    refine s_bipush (v := (nI 80)) hX zcdX1_reach_1.2.2.1 (by decide) ?_
    refine e_icmp_ge (tgt := 63) hX zcdX1_reach_1.2.2.2.1 (by decide) (m_ge (by decide +kernel)) h (fun h => ?_) (fun h => ?_)
    · exact e_vret hX hR zcdX1_reach_59.2.2.1 h
    · refine s_aload_n (k := 0) hX zcdX1_reach_1.2.2.2.2.1 rfl rfl ?_
      refine s_get hX fX1_21 oC30 rfl zcdX1_reach_1.2.2.2.2.2.1 ?_
      refine e_if_lt (tgt := 63) hX zcdX1_reach_1.2.2.2.2.2.2.1 (by decide) z_lt h (fun h => ?_) (fun h => ?_)
      · exact e_vret hX hR zcdX1_reach_59.2.2.1 h
      · refine s_aload_n (k := 0) hX zcdX1_reach_1.2.2.2.2.2.2.2 rfl rfl ?_
        refine s_get hX fX1_21 oC30 rfl zcdX1_reach_18.1 ?_
        refine s_bipush (v := (nI 80)) hX zcdX1_reach_18.2.1 (by decide) ?_
        refine e_icmp_ge (tgt := 63) hX zcdX1_reach_18.2.2.1 (by decide) (m_ge (by decide +kernel)) h (fun h => ?_) (fun h => ?_)
        · exact e_vret hX hR zcdX1_reach_59.2.2.1 h
        · refine s_aload_n (k := 0) hX zcdX1_reach_18.2.2.2.1 rfl rfl ?_
          refine s_get hX fX1_15 oC30 rfl zcdX1_reach_18.2.2.2.2.1 ?_
          refine s_iload_n (k := 1) hX zcdX1_reach_18.2.2.2.2.2.1 rfl rfl ?_
          refine e_iald hX aC32 zcdX1_reach_18.2.2.2.2.2.2.1 h (fun h => ?_)
          refine s_iconst (v := (-1)) hX zcdX1_reach_18.2.2.2.2.2.2.2 (by decide) ?_
          refine e_icmp_ne (tgt := 63) hX zcdX1_reach_33.1 (by decide) (m_eq (by decide +kernel)) h (fun h => ?_) (fun h => ?_)
          · exact e_vret hX hR zcdX1_reach_59.2.2.1 h
          · refine s_aload_n (k := 0) hX zcdX1_reach_33.2.1 rfl rfl ?_
            refine s_get hX fX1_15 oC30 rfl zcdX1_reach_33.2.2.1 ?_
            refine s_iload_n (k := 1) hX zcdX1_reach_33.2.2.2.1 rfl rfl ?_
            refine s_iload_n (k := 2) hX zcdX1_reach_33.2.2.2.2.1 rfl rfl ?_
            refine e_iast hX aC32 zcdX1_reach_33.2.2.2.2.2.1 h (fun h => ?_)
            refine e_bndM h (fun M_1 h => ?_)
            refine s_aload_n (k := 0) hX zcdX1_reach_33.2.2.2.2.2.2.1 rfl rfl ?_
            refine s_get hX fX1_18 oC30 rfl zcdX1_reach_33.2.2.2.2.2.2.2 ?_
            refine s_aload_n (k := 0) hX zcdX1_reach_47.1 rfl rfl ?_
            refine s_get hX fX1_21 oC30 rfl zcdX1_reach_47.2.1 ?_
            refine s_iload_n (k := 1) hX zcdX1_reach_47.2.2.1 rfl rfl ?_
            refine e_iast hX aC33 zcdX1_reach_47.2.2.2.1 h (fun h => ?_)
            refine e_bndM h (fun M_2 h => ?_)
            refine s_aload_n (k := 0) hX zcdX1_reach_47.2.2.2.2.1 rfl rfl ?_
            refine s_dup hX zcdX1_reach_47.2.2.2.2.2.1 rfl ?_
            refine s_get hX fX1_21 oC30 rfl zcdX1_reach_47.2.2.2.2.2.2.1 ?_
            refine s_iconst (v := (nI 1)) hX zcdX1_reach_47.2.2.2.2.2.2.2 (by decide) ?_
            refine s_iadd hX zcdX1_reach_59.1 ?_
            refine s_puti (ty := .int) hX fX1_21 oC30 rfl (Nat.le_of_ble_eq_true rfl) ty_1_3 rfl rfl zcdX1_reach_59.2.1 ?_
            refine e_bndM h (fun M_3 h => ?_)
            exact e_vret hX hR zcdX1_reach_59.2.2.1 h
set_option maxHeartbeats 4000000 in
theorem t_X1_comeOn (v1 : Int32) (M : Mem) : AXv yX1_comeOn cX1_comeOn 2 none 1 60 glC (fun ad => [.ref (ad 30), .int v1]) M (f_X1_comeOn M v1) := by
  intro r0 h
  refine AM.of (by decide) (fun _ => Nat.le_of_ble_eq_true rfl) (fun X ad cI cZ cB hX hR => ?_)
  show V X M [(0, .ref (ad 30)), (1, .int v1)] [] 0
  refine s_iload_n (k := 1) hX zcdX1_reach_59.2.2.2.1 rfl rfl ?_
  refine e_if_lt (tgt := 10) hX zcdX1_reach_59.2.2.2.2.1 (by decide) z_lt h (fun h => ?_) (fun h => ?_)
  · exact e_vret hX hR zcdX1_comeOn_10.1 h
  · refine s_iload_n (k := 1) hX zcdX1_reach_59.2.2.2.2.2.1 rfl rfl ?_
    refine s_bipush (v := (nI 40)) hX zcdX1_reach_59.2.2.2.2.2.2.1 (by decide) ?_
    refine e_icmp_lt (tgt := 11) hX zcdX1_reach_59.2.2.2.2.2.2.2 (by decide) (m_lt (by decide +kernel)) h (fun h => ?_) (fun h => ?_)
    · refine s_aload_n (k := 0) hX zcdX1_comeOn_10.2.1 rfl rfl ?_
      refine s_get hX fX1_9 oC30 rfl zcdX1_comeOn_10.2.2.1 ?_
      refine s_iload_n (k := 1) hX zcdX1_comeOn_10.2.2.2.1 rfl rfl ?_
      refine e_iald hX aC31 zcdX1_comeOn_10.2.2.2.2.1 h (fun h => ?_)
      refine s_iconst (v := (-1)) hX zcdX1_comeOn_10.2.2.2.2.2.1 (by decide) ?_
      refine e_icmp_ne (tgt := 33) hX zcdX1_comeOn_10.2.2.2.2.2.2.1 (by decide) (m_eq (by decide +kernel)) h (fun h => ?_) (fun h => ?_)
      · refine s_aload_n (k := 0) hX zcdX1_comeOn_22.2.2.2.2.2.2.1 rfl rfl ?_
        refine s_get hX fX1_9 oC30 rfl zcdX1_comeOn_22.2.2.2.2.2.2.2 ?_
        refine s_iload_n (k := 1) hX zcdX1_comeOn_37.1 rfl rfl ?_
        refine e_iald hX aC31 zcdX1_comeOn_37.2.1 h (fun h => ?_)
        refine s_bipush (v := (nI 40)) hX zcdX1_comeOn_37.2.2.1 (by decide) ?_
        refine e_icmp_ge (tgt := 58) hX zcdX1_comeOn_37.2.2.2.1 (by decide) (m_ge (by decide +kernel)) h (fun h => ?_) (fun h => ?_)
        · exact e_vret hX hR zcdX1_comeOn_50.2.2.2.2.2.1 h
        · refine s_aload_n (k := 0) hX zcdX1_comeOn_37.2.2.2.2.1 rfl rfl ?_
          refine s_aload_n (k := 0) hX zcdX1_comeOn_37.2.2.2.2.2.1 rfl rfl ?_
          refine s_get hX fX1_9 oC30 rfl zcdX1_comeOn_37.2.2.2.2.2.2.1 ?_
          refine s_iload_n (k := 1) hX zcdX1_comeOn_37.2.2.2.2.2.2.2 rfl rfl ?_
          refine e_iald hX aC31 zcdX1_comeOn_50.1 h (fun h => ?_)
          refine s_bipush (v := (nI 40)) hX zcdX1_comeOn_50.2.1 (by decide) ?_
          refine s_iadd hX zcdX1_comeOn_50.2.2.1 ?_
          refine s_iload_n (k := 1) hX zcdX1_comeOn_50.2.2.2.1 rfl rfl ?_
          refine e_callVv hX (t_X1_reach ((M 31 (ix v1)) + (nI 40)) v1 M) mX1_reach lX1_45 (by decide) (by decide) oC30 rfl rfl rfl rfl rfl (Nat.le_of_ble_eq_true rfl) zcdX1_comeOn_50.2.2.2.2.1 h (fun M_1 h => ?_)
          exact e_vret hX hR zcdX1_comeOn_50.2.2.2.2.2.1 h
      · refine s_aload_n (k := 0) hX zcdX1_comeOn_10.2.2.2.2.2.2.2 rfl rfl ?_
        refine s_iload_n (k := 1) hX zcdX1_comeOn_22.1 rfl rfl ?_
        refine s_bipush (v := (nI 40)) hX zcdX1_comeOn_22.2.1 (by decide) ?_
        refine s_iadd hX zcdX1_comeOn_22.2.2.1 ?_
        refine s_iload_n (k := 1) hX zcdX1_comeOn_22.2.2.2.1 rfl rfl ?_
        refine e_callVv hX (t_X1_reach (v1 + (nI 40)) v1 M) mX1_reach lX1_45 (by decide) (by decide) oC30 rfl rfl rfl rfl rfl (Nat.le_of_ble_eq_true rfl) zcdX1_comeOn_22.2.2.2.2.1 h (fun M_2 h => ?_)
        refine s_goto (tgt := 58) hX zcdX1_comeOn_22.2.2.2.2.2.1 (by decide) ?_
        exact e_vret hX hR zcdX1_comeOn_50.2.2.2.2.2.1 h
    · exact e_vret hX hR zcdX1_comeOn_10.1 h
set_option maxHeartbeats 4000000 in
theorem t_X2_isDry (b : Nat) (hb : isF b) (v1 : Int32) (M : Mem) : AXp yX2_isDry cX2_isDry 2 (some .boolean) 0 60 glC (fun ad => [.ref (ad b), .int v1]) M (f_X2_isDry b M v1) := by
  intro r0 h
  refine AM.of (by decide) (fun _ => Nat.le_of_ble_eq_true rfl) (fun X ad cI cZ cB hX hR => ?_)
  show V X M [(0, .ref (ad b)), (1, .int v1)] [] 0
  refine s_iload_n (k := 1) hX zcdX1_comeOn_50.2.2.2.2.2.2.1 rfl rfl ?_
  refine e_if_lt (tgt := 32) hX zcdX1_comeOn_50.2.2.2.2.2.2.2 (by decide) z_lt h (fun h => ?_) (fun h => ?_)
  · refine s_iconst (v := (nI 0)) hX zcdX2_isDry_19.2.2.2.2.2.2.2 (by decide) ?_
    exact e_zretpL hX hR zcdX2_isDry_33.1 (by decide) h
  · refine s_iload_n (k := 1) hX zcdX2_isDry_4.1 rfl rfl ?_
    refine s_bipush (v := (nI 40)) hX zcdX2_isDry_4.2.1 (by decide) ?_
    refine e_icmp_ge (tgt := 32) hX zcdX2_isDry_4.2.2.1 (by decide) (m_ge (by decide +kernel)) h (fun h => ?_) (fun h => ?_)
    · refine s_iconst (v := (nI 0)) hX zcdX2_isDry_19.2.2.2.2.2.2.2 (by decide) ?_
      exact e_zretpL hX hR zcdX2_isDry_33.1 (by decide) h
    · refine s_aload_n (k := 0) hX zcdX2_isDry_4.2.2.2.1 rfl rfl ?_
      refine s_get hX fX2_21 (oF hb) rfl zcdX2_isDry_4.2.2.2.2.1 ?_
      refine s_iload_n (k := 1) hX zcdX2_isDry_4.2.2.2.2.2.1 rfl rfl ?_
      refine e_zald hX (aF4 hb) zcdX2_isDry_4.2.2.2.2.2.2.1 h (fun h => ?_)
      refine e_if_eq (tgt := 32) hX zcdX2_isDry_4.2.2.2.2.2.2.2 (by decide) z_eq h (fun h => ?_) (fun h => ?_)
      · refine s_iconst (v := (nI 0)) hX zcdX2_isDry_19.2.2.2.2.2.2.2 (by decide) ?_
        exact e_zretpL hX hR zcdX2_isDry_33.1 (by decide) h
      · refine s_aload_n (k := 0) hX zcdX2_isDry_19.1 rfl rfl ?_
        refine s_get hX fX2_25 (oF hb) rfl zcdX2_isDry_19.2.1 ?_
        refine s_iload_n (k := 1) hX zcdX2_isDry_19.2.2.1 rfl rfl ?_
        refine e_zald hX (aF5 hb) zcdX2_isDry_19.2.2.2.1 h (fun h => ?_)
        refine e_if_ne (tgt := 32) hX zcdX2_isDry_19.2.2.2.2.1 (by decide) z_eq h (fun h => ?_) (fun h => ?_)
        · refine s_iconst (v := (nI 0)) hX zcdX2_isDry_19.2.2.2.2.2.2.2 (by decide) ?_
          exact e_zretpL hX hR zcdX2_isDry_33.1 (by decide) h
        · refine s_iconst (v := (nI 1)) hX zcdX2_isDry_19.2.2.2.2.2.1 (by decide) ?_
          refine s_goto (tgt := 33) hX zcdX2_isDry_19.2.2.2.2.2.2.1 (by decide) ?_
          exact e_zretpL hX hR zcdX2_isDry_33.1 (by decide) h
set_option maxHeartbeats 4000000 in
theorem t_X2_canStand (b : Nat) (hb : isF b) (v1 : Int32) (M : Mem) : AXp yX2_canStand cX2_canStand 2 (some .boolean) 1 60 glC (fun ad => [.ref (ad b), .int v1]) M (f_X2_canStand b M v1) := by
  intro r0 h
  refine AM.of (by decide) (fun _ => Nat.le_of_ble_eq_true rfl) (fun X ad cI cZ cB hX hR => ?_)
  show V X M [(0, .ref (ad b)), (1, .int v1)] [] 0
  refine s_iload_n (k := 1) hX zcdX2_isDry_33.2.1 rfl rfl ?_
  refine s_bipush (v := (nI 40)) hX zcdX2_isDry_33.2.2.1 (by decide) ?_
  refine e_icmp_eq (tgt := 20) hX zcdX2_isDry_33.2.2.2.1 (by decide) (m_eq (by decide +kernel)) h (fun h => ?_) (fun h => ?_)
  · refine s_iconst (v := (nI 1)) hX zcdX2_canStand_13.2.2.2.1 (by decide) ?_
    refine s_goto (tgt := 25) hX zcdX2_canStand_13.2.2.2.2.1 (by decide) ?_
    exact e_zretpL hX hR zcdX2_canStand_13.2.2.2.2.2.2.1 (by decide) h
  · refine s_iload_n (k := 1) hX zcdX2_isDry_33.2.2.2.2.1 rfl rfl ?_
    refine s_bipush (v := (nI 41)) hX zcdX2_isDry_33.2.2.2.2.2.1 (by decide) ?_
    refine e_icmp_eq (tgt := 20) hX zcdX2_isDry_33.2.2.2.2.2.2.1 (by decide) (m_eq (by decide +kernel)) h (fun h => ?_) (fun h => ?_)
    · refine s_iconst (v := (nI 1)) hX zcdX2_canStand_13.2.2.2.1 (by decide) ?_
      refine s_goto (tgt := 25) hX zcdX2_canStand_13.2.2.2.2.1 (by decide) ?_
      exact e_zretpL hX hR zcdX2_canStand_13.2.2.2.2.2.2.1 (by decide) h
    · refine s_aload_n (k := 0) hX zcdX2_isDry_33.2.2.2.2.2.2.2 rfl rfl ?_
      refine s_iload_n (k := 1) hX zcdX2_canStand_13.1 rfl rfl ?_
      refine e_callVp hX (t_X2_isDry b hb v1 M) mX2_isDry lX2_45 (by decide) (by decide) (oF hb) rfl rfl rfl rfl rfl (Nat.le_of_ble_eq_true rfl) zcdX2_canStand_13.2.1 h (fun r_1 h => ?_)
      refine e_if_eq (tgt := 24) hX zcdX2_canStand_13.2.2.1 (by decide) z_eq h (fun h => ?_) (fun h => ?_)
      · refine s_iconst (v := (nI 0)) hX zcdX2_canStand_13.2.2.2.2.2.1 (by decide) ?_
        exact e_zretpL hX hR zcdX2_canStand_13.2.2.2.2.2.2.1 (by decide) h
      · refine s_iconst (v := (nI 1)) hX zcdX2_canStand_13.2.2.2.1 (by decide) ?_
        refine s_goto (tgt := 25) hX zcdX2_canStand_13.2.2.2.2.1 (by decide) ?_
        exact e_zretpL hX hR zcdX2_canStand_13.2.2.2.2.2.2.1 (by decide) h
set_option maxHeartbeats 4000000 in
theorem t_X2_heightOf (b : Nat) (hb : isF b) (v1 : Int32) (M : Mem) : AXp yX2_heightOf cX2_heightOf 2 (some .int) 0 60 glC (fun ad => [.ref (ad b), .int v1]) M (f_X2_heightOf b M v1) := by
  intro r0 h
  refine AM.of (by decide) (fun _ => Nat.le_of_ble_eq_true rfl) (fun X ad cI cZ cB hX hR => ?_)
  show V X M [(0, .ref (ad b)), (1, .int v1)] [] 0
  refine s_iload_n (k := 1) hX zcdX2_canStand_13.2.2.2.2.2.2.2 rfl rfl ?_
  refine s_bipush (v := (nI 41)) hX zcdX2_heightOf_1.1 (by decide) ?_
  refine e_icmp_ne (tgt := 9) hX zcdX2_heightOf_1.2.1 (by decide) (m_eq (by decide +kernel)) h (fun h => ?_) (fun h => ?_)
  · refine s_iload_n (k := 1) hX zcdX2_heightOf_1.2.2.2.2.1 rfl rfl ?_
    refine e_if_lt (tgt := 28) hX zcdX2_heightOf_1.2.2.2.2.2.1 (by decide) z_lt h (fun h => ?_) (fun h => ?_)
    · refine s_iconst (v := (nI 0)) hX zcdX2_heightOf_16.2.2.2.2.2.2.1 (by decide) ?_
      exact e_iretp hX hR zcdX2_heightOf_16.2.2.2.2.2.2.2 h
    · refine s_iload_n (k := 1) hX zcdX2_heightOf_1.2.2.2.2.2.2.1 rfl rfl ?_
      refine s_bipush (v := (nI 40)) hX zcdX2_heightOf_1.2.2.2.2.2.2.2 (by decide) ?_
      refine e_icmp_ge (tgt := 28) hX zcdX2_heightOf_16.1 (by decide) (m_ge (by decide +kernel)) h (fun h => ?_) (fun h => ?_)
      · refine s_iconst (v := (nI 0)) hX zcdX2_heightOf_16.2.2.2.2.2.2.1 (by decide) ?_
        exact e_iretp hX hR zcdX2_heightOf_16.2.2.2.2.2.2.2 h
      · refine s_aload_n (k := 0) hX zcdX2_heightOf_16.2.1 rfl rfl ?_
        refine s_get hX fX2_15 (oF hb) rfl zcdX2_heightOf_16.2.2.1 ?_
        refine s_iload_n (k := 1) hX zcdX2_heightOf_16.2.2.2.1 rfl rfl ?_
        refine e_iald hX (aF2 hb) zcdX2_heightOf_16.2.2.2.2.1 h (fun h => ?_)
        refine s_goto (tgt := 29) hX zcdX2_heightOf_16.2.2.2.2.2.1 (by decide) ?_
        exact e_iretp hX hR zcdX2_heightOf_16.2.2.2.2.2.2.2 h
  · refine s_bipush (v := (nI 21)) hX zcdX2_heightOf_1.2.2.1 (by decide) ?_
    exact e_iretp hX hR zcdX2_heightOf_1.2.2.2.1 h
