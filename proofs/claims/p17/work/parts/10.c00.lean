theorem dJ6_bitCount_0f7a4_0 : decode cJ6_bitCount_0f7a4 0 = .ok (.iload_n 0, 1) := by decide +kernel
theorem dJ6_bitCount_0f7a4_1 : decode cJ6_bitCount_0f7a4 1 = .ok (.iload_n 0, 1) := by decide +kernel
theorem dJ6_bitCount_0f7a4_2 : decode cJ6_bitCount_0f7a4 2 = .ok (.iconst 1, 1) := by decide +kernel
theorem dJ6_bitCount_0f7a4_3 : decode cJ6_bitCount_0f7a4 3 = .ok (.iushr, 1) := by decide +kernel
theorem dJ6_bitCount_0f7a4_4 : decode cJ6_bitCount_0f7a4 4 = .ok (.ldc_w 265, 3) := by decide +kernel
theorem dJ6_bitCount_0f7a4_7 : decode cJ6_bitCount_0f7a4 7 = .ok (.iand, 1) := by decide +kernel
theorem dJ6_bitCount_0f7a4_8 : decode cJ6_bitCount_0f7a4 8 = .ok (.isub, 1) := by decide +kernel
theorem dJ6_bitCount_0f7a4_9 : decode cJ6_bitCount_0f7a4 9 = .ok (.istore_n 0, 1) := by decide +kernel
theorem dJ6_bitCount_0f7a4_10 : decode cJ6_bitCount_0f7a4 10 = .ok (.iload_n 0, 1) := by decide +kernel
theorem dJ6_bitCount_0f7a4_11 : decode cJ6_bitCount_0f7a4 11 = .ok (.ldc_w 266, 3) := by decide +kernel
theorem dJ6_bitCount_0f7a4_14 : decode cJ6_bitCount_0f7a4 14 = .ok (.iand, 1) := by decide +kernel
theorem dJ6_bitCount_0f7a4_15 : decode cJ6_bitCount_0f7a4 15 = .ok (.iload_n 0, 1) := by decide +kernel
theorem dJ6_bitCount_0f7a4_16 : decode cJ6_bitCount_0f7a4 16 = .ok (.iconst 2, 1) := by decide +kernel
theorem dJ6_bitCount_0f7a4_17 : decode cJ6_bitCount_0f7a4 17 = .ok (.iushr, 1) := by decide +kernel
theorem dJ6_bitCount_0f7a4_18 : decode cJ6_bitCount_0f7a4 18 = .ok (.ldc_w 266, 3) := by decide +kernel
theorem dJ6_bitCount_0f7a4_21 : decode cJ6_bitCount_0f7a4 21 = .ok (.iand, 1) := by decide +kernel
theorem dJ6_bitCount_0f7a4_22 : decode cJ6_bitCount_0f7a4 22 = .ok (.iadd, 1) := by decide +kernel
theorem dJ6_bitCount_0f7a4_23 : decode cJ6_bitCount_0f7a4 23 = .ok (.istore_n 0, 1) := by decide +kernel
theorem dJ6_bitCount_0f7a4_24 : decode cJ6_bitCount_0f7a4 24 = .ok (.iload_n 0, 1) := by decide +kernel
theorem dJ6_bitCount_0f7a4_25 : decode cJ6_bitCount_0f7a4 25 = .ok (.iload_n 0, 1) := by decide +kernel
theorem dJ6_bitCount_0f7a4_26 : decode cJ6_bitCount_0f7a4 26 = .ok (.iconst 4, 1) := by decide +kernel
theorem dJ6_bitCount_0f7a4_27 : decode cJ6_bitCount_0f7a4 27 = .ok (.iushr, 1) := by decide +kernel
theorem dJ6_bitCount_0f7a4_28 : decode cJ6_bitCount_0f7a4 28 = .ok (.iadd, 1) := by decide +kernel
theorem dJ6_bitCount_0f7a4_29 : decode cJ6_bitCount_0f7a4 29 = .ok (.ldc_w 267, 3) := by decide +kernel
theorem dJ6_bitCount_0f7a4_32 : decode cJ6_bitCount_0f7a4 32 = .ok (.iand, 1) := by decide +kernel
theorem dJ6_bitCount_0f7a4_33 : decode cJ6_bitCount_0f7a4 33 = .ok (.istore_n 0, 1) := by decide +kernel
theorem dJ6_bitCount_0f7a4_34 : decode cJ6_bitCount_0f7a4 34 = .ok (.iload_n 0, 1) := by decide +kernel
theorem dJ6_bitCount_0f7a4_35 : decode cJ6_bitCount_0f7a4 35 = .ok (.iload_n 0, 1) := by decide +kernel
theorem dJ6_bitCount_0f7a4_36 : decode cJ6_bitCount_0f7a4 36 = .ok (.bipush 8, 2) := by decide +kernel
theorem dJ6_bitCount_0f7a4_38 : decode cJ6_bitCount_0f7a4 38 = .ok (.iushr, 1) := by decide +kernel
theorem dJ6_bitCount_0f7a4_39 : decode cJ6_bitCount_0f7a4 39 = .ok (.iadd, 1) := by decide +kernel
theorem dJ6_bitCount_0f7a4_40 : decode cJ6_bitCount_0f7a4 40 = .ok (.istore_n 0, 1) := by decide +kernel
theorem dJ6_bitCount_0f7a4_41 : decode cJ6_bitCount_0f7a4 41 = .ok (.iload_n 0, 1) := by decide +kernel
theorem dJ6_bitCount_0f7a4_42 : decode cJ6_bitCount_0f7a4 42 = .ok (.iload_n 0, 1) := by decide +kernel
theorem dJ6_bitCount_0f7a4_43 : decode cJ6_bitCount_0f7a4 43 = .ok (.bipush 16, 2) := by decide +kernel
theorem dJ6_bitCount_0f7a4_45 : decode cJ6_bitCount_0f7a4 45 = .ok (.iushr, 1) := by decide +kernel
theorem dJ6_bitCount_0f7a4_46 : decode cJ6_bitCount_0f7a4 46 = .ok (.iadd, 1) := by decide +kernel
theorem dJ6_bitCount_0f7a4_47 : decode cJ6_bitCount_0f7a4 47 = .ok (.istore_n 0, 1) := by decide +kernel
theorem dJ6_bitCount_0f7a4_48 : decode cJ6_bitCount_0f7a4 48 = .ok (.iload_n 0, 1) := by decide +kernel
theorem dJ6_bitCount_0f7a4_49 : decode cJ6_bitCount_0f7a4 49 = .ok (.bipush 63, 2) := by decide +kernel
theorem dJ6_bitCount_0f7a4_51 : decode cJ6_bitCount_0f7a4 51 = .ok (.iand, 1) := by decide +kernel
theorem dJ6_bitCount_0f7a4_52 : decode cJ6_bitCount_0f7a4 52 = .ok (.ireturn, 1) := by decide +kernel
theorem dJ7_fill_53178_0 : decode cJ7_fill_53178 0 = .ok (.iconst 0, 1) := by decide +kernel
theorem dJ7_fill_53178_1 : decode cJ7_fill_53178 1 = .ok (.istore_n 2, 1) := by decide +kernel
theorem dJ7_fill_53178_2 : decode cJ7_fill_53178 2 = .ok (.aload_n 0, 1) := by decide +kernel
theorem dJ7_fill_53178_3 : decode cJ7_fill_53178 3 = .ok (.arraylength, 1) := by decide +kernel
theorem dJ7_fill_53178_4 : decode cJ7_fill_53178 4 = .ok (.istore_n 3, 1) := by decide +kernel
theorem dJ7_fill_53178_5 : decode cJ7_fill_53178 5 = .ok (.iload_n 2, 1) := by decide +kernel
theorem dJ7_fill_53178_6 : decode cJ7_fill_53178 6 = .ok (.iload_n 3, 1) := by decide +kernel
theorem dJ7_fill_53178_7 : decode cJ7_fill_53178 7 = .ok (.if_icmp .ge 13, 3) := by decide +kernel
theorem dJ7_fill_53178_10 : decode cJ7_fill_53178 10 = .ok (.aload_n 0, 1) := by decide +kernel
theorem dJ7_fill_53178_11 : decode cJ7_fill_53178 11 = .ok (.iload_n 2, 1) := by decide +kernel
theorem dJ7_fill_53178_12 : decode cJ7_fill_53178 12 = .ok (.iload_n 1, 1) := by decide +kernel
theorem dJ7_fill_53178_13 : decode cJ7_fill_53178 13 = .ok (.iastore, 1) := by decide +kernel
theorem dJ7_fill_53178_14 : decode cJ7_fill_53178 14 = .ok (.iinc 2 1, 3) := by decide +kernel
theorem dJ7_fill_53178_17 : decode cJ7_fill_53178 17 = .ok (.goto (-12), 3) := by decide +kernel
theorem dJ7_fill_53178_20 : decode cJ7_fill_53178 20 = .ok (.return_, 1) := by decide +kernel
theorem dX0_wayWith_0 : decode cX0_wayWith 0 = .ok (.iload_n 3, 1) := by decide +kernel
theorem dX0_wayWith_1 : decode cX0_wayWith 1 = .ok (.ifCond .lt 23, 3) := by decide +kernel
theorem dX0_wayWith_4 : decode cX0_wayWith 4 = .ok (.iload_n 3, 1) := by decide +kernel
theorem dX0_wayWith_5 : decode cX0_wayWith 5 = .ok (.bipush 7, 2) := by decide +kernel
theorem dX0_wayWith_7 : decode cX0_wayWith 7 = .ok (.if_icmp .ge 17, 3) := by decide +kernel
theorem dX0_wayWith_10 : decode cX0_wayWith 10 = .ok (.iload_n 2, 1) := by decide +kernel
theorem dX0_wayWith_11 : decode cX0_wayWith 11 = .ok (.ifCond .lt 13, 3) := by decide +kernel
theorem dX0_wayWith_14 : decode cX0_wayWith 14 = .ok (.iload_n 2, 1) := by decide +kernel
theorem dX0_wayWith_15 : decode cX0_wayWith 15 = .ok (.bipush 7, 2) := by decide +kernel
theorem dX0_wayWith_17 : decode cX0_wayWith 17 = .ok (.if_icmp .ge 7, 3) := by decide +kernel
theorem dX0_wayWith_20 : decode cX0_wayWith 20 = .ok (.iload_n 1, 1) := by decide +kernel
theorem dX0_wayWith_21 : decode cX0_wayWith 21 = .ok (.ifCond .ge 6, 3) := by decide +kernel
theorem dX0_wayWith_24 : decode cX0_wayWith 24 = .ok (.ldc 69, 2) := by decide +kernel
theorem dX0_wayWith_26 : decode cX0_wayWith 26 = .ok (.ireturn, 1) := by decide +kernel
theorem dX0_wayWith_27 : decode cX0_wayWith 27 = .ok (.iload_n 1, 1) := by decide +kernel
theorem dX0_wayWith_28 : decode cX0_wayWith 28 = .ok (.iconst 1, 1) := by decide +kernel
theorem dX0_wayWith_29 : decode cX0_wayWith 29 = .ok (.iload_n 3, 1) := by decide +kernel
theorem dX0_wayWith_30 : decode cX0_wayWith 30 = .ok (.ishl, 1) := by decide +kernel
theorem dX0_wayWith_31 : decode cX0_wayWith 31 = .ok (.ior, 1) := by decide +kernel
theorem dX0_wayWith_32 : decode cX0_wayWith 32 = .ok (.istore 4, 2) := by decide +kernel
theorem dX0_wayWith_34 : decode cX0_wayWith 34 = .ok (.iload 4, 2) := by decide +kernel
theorem dX0_wayWith_36 : decode cX0_wayWith 36 = .ok (.iload_n 1, 1) := by decide +kernel
theorem dX0_wayWith_37 : decode cX0_wayWith 37 = .ok (.if_icmp .eq 11, 3) := by decide +kernel
theorem dX0_wayWith_40 : decode cX0_wayWith 40 = .ok (.iload 4, 2) := by decide +kernel
theorem dX0_wayWith_42 : decode cX0_wayWith 42 = .ok (.sipush 128, 3) := by decide +kernel
theorem dX0_wayWith_45 : decode cX0_wayWith 45 = .ok (.if_icmp .lt 6, 3) := by decide +kernel
theorem dX0_wayWith_48 : decode cX0_wayWith 48 = .ok (.ldc 69, 2) := by decide +kernel
theorem dX0_wayWith_50 : decode cX0_wayWith 50 = .ok (.ireturn, 1) := by decide +kernel
theorem dX0_wayWith_51 : decode cX0_wayWith 51 = .ok (.aload_n 0, 1) := by decide +kernel
theorem dX0_wayWith_52 : decode cX0_wayWith 52 = .ok (.getfield 21, 3) := by decide +kernel
theorem dX0_wayWith_55 : decode cX0_wayWith 55 = .ok (.iload_n 2, 1) := by decide +kernel
theorem dX0_wayWith_56 : decode cX0_wayWith 56 = .ok (.bipush 7, 2) := by decide +kernel
theorem dX0_wayWith_58 : decode cX0_wayWith 58 = .ok (.imul, 1) := by decide +kernel
theorem dX0_wayWith_59 : decode cX0_wayWith 59 = .ok (.iload_n 3, 1) := by decide +kernel
theorem dX0_wayWith_60 : decode cX0_wayWith 60 = .ok (.iadd, 1) := by decide +kernel
theorem dX0_wayWith_61 : decode cX0_wayWith 61 = .ok (.iaload, 1) := by decide +kernel
theorem dX0_wayWith_62 : decode cX0_wayWith 62 = .ok (.aload_n 0, 1) := by decide +kernel
theorem dX0_wayWith_63 : decode cX0_wayWith 63 = .ok (.getfield 24, 3) := by decide +kernel
theorem dX0_wayWith_66 : decode cX0_wayWith 66 = .ok (.iload 4, 2) := by decide +kernel
theorem dX0_wayWith_68 : decode cX0_wayWith 68 = .ok (.iaload, 1) := by decide +kernel
theorem dX0_wayWith_69 : decode cX0_wayWith 69 = .ok (.iadd, 1) := by decide +kernel
theorem dX0_wayWith_70 : decode cX0_wayWith 70 = .ok (.ireturn, 1) := by decide +kernel
theorem dX0_fewestBehind_0 : decode cX0_fewestBehind 0 = .ok (.iload_n 2, 1) := by decide +kernel
theorem dX0_fewestBehind_1 : decode cX0_fewestBehind 1 = .ok (.invokestatic 64, 3) := by decide +kernel
theorem dX0_fewestBehind_4 : decode cX0_fewestBehind 4 = .ok (.istore_n 3, 1) := by decide +kernel
theorem dX0_fewestBehind_5 : decode cX0_fewestBehind 5 = .ok (.iload_n 3, 1) := by decide +kernel
theorem dX0_fewestBehind_6 : decode cX0_fewestBehind 6 = .ok (.iload_n 1, 1) := by decide +kernel
theorem dX0_fewestBehind_7 : decode cX0_fewestBehind 7 = .ok (.if_icmp .lt 5, 3) := by decide +kernel
theorem dX0_fewestBehind_10 : decode cX0_fewestBehind 10 = .ok (.iconst 0, 1) := by decide +kernel
theorem dX0_fewestBehind_11 : decode cX0_fewestBehind 11 = .ok (.ireturn, 1) := by decide +kernel
theorem dX0_fewestBehind_12 : decode cX0_fewestBehind 12 = .ok (.ldc 69, 2) := by decide +kernel
theorem dX0_fewestBehind_14 : decode cX0_fewestBehind 14 = .ok (.istore 4, 2) := by decide +kernel
theorem dX0_fewestBehind_16 : decode cX0_fewestBehind 16 = .ok (.iconst 0, 1) := by decide +kernel
theorem dX0_fewestBehind_17 : decode cX0_fewestBehind 17 = .ok (.istore 5, 2) := by decide +kernel
theorem dX0_fewestBehind_19 : decode cX0_fewestBehind 19 = .ok (.iload 5, 2) := by decide +kernel
theorem dX0_fewestBehind_21 : decode cX0_fewestBehind 21 = .ok (.iload_n 1, 1) := by decide +kernel
theorem dX0_fewestBehind_22 : decode cX0_fewestBehind 22 = .ok (.if_icmp .ge 31, 3) := by decide +kernel
theorem dX0_fewestBehind_25 : decode cX0_fewestBehind 25 = .ok (.iload 5, 2) := by decide +kernel
theorem dX0_fewestBehind_27 : decode cX0_fewestBehind 27 = .ok (.bipush 7, 2) := by decide +kernel
theorem dX0_fewestBehind_29 : decode cX0_fewestBehind 29 = .ok (.if_icmp .ge 24, 3) := by decide +kernel
theorem dX0_fewestBehind_32 : decode cX0_fewestBehind 32 = .ok (.iload 4, 2) := by decide +kernel
theorem dX0_fewestBehind_34 : decode cX0_fewestBehind 34 = .ok (.aload_n 0, 1) := by decide +kernel
theorem dX0_fewestBehind_35 : decode cX0_fewestBehind 35 = .ok (.iload_n 2, 1) := by decide +kernel
theorem dX0_fewestBehind_36 : decode cX0_fewestBehind 36 = .ok (.iload_n 3, 1) := by decide +kernel
theorem dX0_fewestBehind_37 : decode cX0_fewestBehind 37 = .ok (.iload 5, 2) := by decide +kernel
theorem dX0_fewestBehind_39 : decode cX0_fewestBehind 39 = .ok (.invokevirtual 70, 3) := by decide +kernel
theorem dX0_fewestBehind_42 : decode cX0_fewestBehind 42 = .ok (.invokestatic 42, 3) := by decide +kernel
theorem dX0_fewestBehind_45 : decode cX0_fewestBehind 45 = .ok (.istore 4, 2) := by decide +kernel
theorem dX0_fewestBehind_47 : decode cX0_fewestBehind 47 = .ok (.iinc 5 1, 3) := by decide +kernel
theorem dX0_fewestBehind_50 : decode cX0_fewestBehind 50 = .ok (.goto (-31), 3) := by decide +kernel
theorem dX0_fewestBehind_53 : decode cX0_fewestBehind 53 = .ok (.iload 4, 2) := by decide +kernel
theorem dX0_fewestBehind_55 : decode cX0_fewestBehind 55 = .ok (.ireturn, 1) := by decide +kernel
theorem dX2_nextTold_0 : decode cX2_nextTold 0 = .ok (.iload_n 1, 1) := by decide +kernel
theorem dX2_nextTold_1 : decode cX2_nextTold 1 = .ok (.iconst 0, 1) := by decide +kernel
theorem dX2_nextTold_2 : decode cX2_nextTold 2 = .ok (.invokestatic 39, 3) := by decide +kernel
theorem dX2_nextTold_5 : decode cX2_nextTold 5 = .ok (.istore_n 2, 1) := by decide +kernel
theorem dX2_nextTold_6 : decode cX2_nextTold 6 = .ok (.iload_n 2, 1) := by decide +kernel
theorem dX2_nextTold_7 : decode cX2_nextTold 7 = .ok (.bipush 40, 2) := by decide +kernel
theorem dX2_nextTold_9 : decode cX2_nextTold 9 = .ok (.if_icmp .ge 20, 3) := by decide +kernel
theorem dX2_nextTold_12 : decode cX2_nextTold 12 = .ok (.aload_n 0, 1) := by decide +kernel
theorem dX2_nextTold_13 : decode cX2_nextTold 13 = .ok (.getfield 21, 3) := by decide +kernel
theorem dX2_nextTold_16 : decode cX2_nextTold 16 = .ok (.iload_n 2, 1) := by decide +kernel
theorem dX2_nextTold_17 : decode cX2_nextTold 17 = .ok (.baload, 1) := by decide +kernel
theorem dX2_nextTold_18 : decode cX2_nextTold 18 = .ok (.ifCond .eq 5, 3) := by decide +kernel
theorem dX2_nextTold_21 : decode cX2_nextTold 21 = .ok (.iload_n 2, 1) := by decide +kernel
theorem dX2_nextTold_22 : decode cX2_nextTold 22 = .ok (.ireturn, 1) := by decide +kernel
theorem dX2_nextTold_23 : decode cX2_nextTold 23 = .ok (.iinc 2 1, 3) := by decide +kernel
theorem dX2_nextTold_26 : decode cX2_nextTold 26 = .ok (.goto (-20), 3) := by decide +kernel
theorem dX2_nextTold_29 : decode cX2_nextTold 29 = .ok (.iconst (-1), 1) := by decide +kernel
theorem dX2_nextTold_30 : decode cX2_nextTold 30 = .ok (.ireturn, 1) := by decide +kernel
theorem dX2_isTold_0 : decode cX2_isTold 0 = .ok (.iload_n 1, 1) := by decide +kernel
theorem dX2_isTold_1 : decode cX2_isTold 1 = .ok (.ifCond .lt 22, 3) := by decide +kernel
theorem dX2_isTold_4 : decode cX2_isTold 4 = .ok (.iload_n 1, 1) := by decide +kernel
theorem dX2_isTold_5 : decode cX2_isTold 5 = .ok (.bipush 40, 2) := by decide +kernel
theorem dX2_isTold_7 : decode cX2_isTold 7 = .ok (.if_icmp .ge 16, 3) := by decide +kernel
theorem dX2_isTold_10 : decode cX2_isTold 10 = .ok (.aload_n 0, 1) := by decide +kernel
theorem dX2_isTold_11 : decode cX2_isTold 11 = .ok (.getfield 21, 3) := by decide +kernel
theorem dX2_isTold_14 : decode cX2_isTold 14 = .ok (.iload_n 1, 1) := by decide +kernel
theorem dX2_isTold_15 : decode cX2_isTold 15 = .ok (.baload, 1) := by decide +kernel
theorem dX2_isTold_16 : decode cX2_isTold 16 = .ok (.ifCond .eq 7, 3) := by decide +kernel
theorem dX2_isTold_19 : decode cX2_isTold 19 = .ok (.iconst 1, 1) := by decide +kernel
theorem dX2_isTold_20 : decode cX2_isTold 20 = .ok (.goto 4, 3) := by decide +kernel
theorem dX2_isTold_23 : decode cX2_isTold 23 = .ok (.iconst 0, 1) := by decide +kernel
theorem dX2_isTold_24 : decode cX2_isTold 24 = .ok (.ireturn, 1) := by decide +kernel
theorem dX0_measure_0 : decode cX0_measure 0 = .ok (.iload_n 3, 1) := by decide +kernel
theorem dX0_measure_1 : decode cX0_measure 1 = .ok (.ifCond .lt 22, 3) := by decide +kernel
theorem dX0_measure_4 : decode cX0_measure 4 = .ok (.iload_n 3, 1) := by decide +kernel
theorem dX0_measure_5 : decode cX0_measure 5 = .ok (.bipush 7, 2) := by decide +kernel
theorem dX0_measure_7 : decode cX0_measure 7 = .ok (.if_icmp .ge 16, 3) := by decide +kernel
theorem dX0_measure_10 : decode cX0_measure 10 = .ok (.aload_n 1, 1) := by decide +kernel
theorem dX0_measure_11 : decode cX0_measure 11 = .ok (.aload_n 0, 1) := by decide +kernel
theorem dX0_measure_12 : decode cX0_measure 12 = .ok (.getfield 18, 3) := by decide +kernel
theorem dX0_measure_15 : decode cX0_measure 15 = .ok (.iload_n 3, 1) := by decide +kernel
theorem dX0_measure_16 : decode cX0_measure 16 = .ok (.iaload, 1) := by decide +kernel
theorem dX0_measure_17 : decode cX0_measure 17 = .ok (.invokevirtual 51, 3) := by decide +kernel
theorem dX0_measure_20 : decode cX0_measure 20 = .ok (.ifCond .ne 4, 3) := by decide +kernel
theorem dX0_measure_23 : decode cX0_measure 23 = .ok (.return_, 1) := by decide +kernel
theorem dX0_measure_24 : decode cX0_measure 24 = .ok (.aload_n 0, 1) := by decide +kernel
theorem dX0_measure_25 : decode cX0_measure 25 = .ok (.getfield 18, 3) := by decide +kernel
theorem dX0_measure_28 : decode cX0_measure 28 = .ok (.iload_n 3, 1) := by decide +kernel
theorem dX0_measure_29 : decode cX0_measure 29 = .ok (.iaload, 1) := by decide +kernel
theorem dX0_measure_30 : decode cX0_measure 30 = .ok (.istore 4, 2) := by decide +kernel
theorem dX0_measure_32 : decode cX0_measure 32 = .ok (.iconst 0, 1) := by decide +kernel
theorem dX0_measure_33 : decode cX0_measure 33 = .ok (.istore 5, 2) := by decide +kernel
theorem dX0_measure_35 : decode cX0_measure 35 = .ok (.iload 5, 2) := by decide +kernel
theorem dX0_measure_37 : decode cX0_measure 37 = .ok (.iload_n 2, 1) := by decide +kernel
theorem dX0_measure_38 : decode cX0_measure 38 = .ok (.if_icmp .ge 65, 3) := by decide +kernel
theorem dX0_measure_41 : decode cX0_measure 41 = .ok (.iload 5, 2) := by decide +kernel
theorem dX0_measure_43 : decode cX0_measure 43 = .ok (.bipush 7, 2) := by decide +kernel
theorem dX0_measure_45 : decode cX0_measure 45 = .ok (.if_icmp .ge 58, 3) := by decide +kernel
theorem dX0_measure_48 : decode cX0_measure 48 = .ok (.aload_n 0, 1) := by decide +kernel
theorem dX0_measure_49 : decode cX0_measure 49 = .ok (.getfield 21, 3) := by decide +kernel
theorem dX0_measure_52 : decode cX0_measure 52 = .ok (.iload 5, 2) := by decide +kernel
theorem dX0_measure_54 : decode cX0_measure 54 = .ok (.bipush 7, 2) := by decide +kernel
theorem dX0_measure_56 : decode cX0_measure 56 = .ok (.imul, 1) := by decide +kernel
theorem dX0_measure_57 : decode cX0_measure 57 = .ok (.iload_n 3, 1) := by decide +kernel
theorem dX0_measure_58 : decode cX0_measure 58 = .ok (.iadd, 1) := by decide +kernel
theorem dX0_measure_59 : decode cX0_measure 59 = .ok (.aload_n 1, 1) := by decide +kernel
theorem dX0_measure_60 : decode cX0_measure 60 = .ok (.getfield 55, 3) := by decide +kernel
theorem dX0_measure_63 : decode cX0_measure 63 = .ok (.iload 4, 2) := by decide +kernel
theorem dX0_measure_65 : decode cX0_measure 65 = .ok (.iaload, 1) := by decide +kernel
theorem dX0_measure_66 : decode cX0_measure 66 = .ok (.aload_n 0, 1) := by decide +kernel
theorem dX0_measure_67 : decode cX0_measure 67 = .ok (.getfield 9, 3) := by decide +kernel
theorem dX0_measure_70 : decode cX0_measure 70 = .ok (.iload 5, 2) := by decide +kernel
theorem dX0_measure_72 : decode cX0_measure 72 = .ok (.iaload, 1) := by decide +kernel
theorem dX0_measure_73 : decode cX0_measure 73 = .ok (.isub, 1) := by decide +kernel
theorem dX0_measure_74 : decode cX0_measure 74 = .ok (.invokestatic 58, 3) := by decide +kernel
theorem dX0_measure_77 : decode cX0_measure 77 = .ok (.aload_n 1, 1) := by decide +kernel
theorem dX0_measure_78 : decode cX0_measure 78 = .ok (.getfield 61, 3) := by decide +kernel
theorem dX0_measure_81 : decode cX0_measure 81 = .ok (.iload 4, 2) := by decide +kernel
theorem dX0_measure_83 : decode cX0_measure 83 = .ok (.iaload, 1) := by decide +kernel
theorem dX0_measure_84 : decode cX0_measure 84 = .ok (.aload_n 0, 1) := by decide +kernel
theorem dX0_measure_85 : decode cX0_measure 85 = .ok (.getfield 15, 3) := by decide +kernel
theorem dX0_measure_88 : decode cX0_measure 88 = .ok (.iload 5, 2) := by decide +kernel
theorem dX0_measure_90 : decode cX0_measure 90 = .ok (.iaload, 1) := by decide +kernel
theorem dX0_measure_91 : decode cX0_measure 91 = .ok (.isub, 1) := by decide +kernel
theorem dX0_measure_92 : decode cX0_measure 92 = .ok (.invokestatic 58, 3) := by decide +kernel
theorem dX0_measure_95 : decode cX0_measure 95 = .ok (.iadd, 1) := by decide +kernel
theorem dX0_measure_96 : decode cX0_measure 96 = .ok (.iastore, 1) := by decide +kernel
theorem dX0_measure_97 : decode cX0_measure 97 = .ok (.iinc 5 1, 3) := by decide +kernel
theorem dX0_measure_100 : decode cX0_measure 100 = .ok (.goto (-65), 3) := by decide +kernel
theorem dX0_measure_103 : decode cX0_measure 103 = .ok (.return_, 1) := by decide +kernel
theorem dX0_match_0 : decode cX0_match 0 = .ok (.iconst 0, 1) := by decide +kernel
theorem dX0_match_1 : decode cX0_match 1 = .ok (.istore_n 3, 1) := by decide +kernel
theorem dX0_match_2 : decode cX0_match 2 = .ok (.iconst 0, 1) := by decide +kernel
theorem dX0_match_3 : decode cX0_match 3 = .ok (.istore 4, 2) := by decide +kernel
theorem dX0_match_5 : decode cX0_match 5 = .ok (.iload 4, 2) := by decide +kernel
theorem dX0_match_7 : decode cX0_match 7 = .ok (.iload_n 2, 1) := by decide +kernel
theorem dX0_match_8 : decode cX0_match 8 = .ok (.if_icmp .ge 46, 3) := by decide +kernel
theorem dX0_match_11 : decode cX0_match 11 = .ok (.iload 4, 2) := by decide +kernel
theorem dX0_match_13 : decode cX0_match 13 = .ok (.bipush 7, 2) := by decide +kernel
theorem dX0_match_15 : decode cX0_match 15 = .ok (.if_icmp .ge 39, 3) := by decide +kernel
theorem dX0_match_18 : decode cX0_match 18 = .ok (.aload_n 0, 1) := by decide +kernel
theorem dX0_match_19 : decode cX0_match 19 = .ok (.getfield 18, 3) := by decide +kernel
theorem dX0_match_22 : decode cX0_match 22 = .ok (.iload 4, 2) := by decide +kernel
theorem dX0_match_24 : decode cX0_match 24 = .ok (.aload_n 1, 1) := by decide +kernel
theorem dX0_match_25 : decode cX0_match 25 = .ok (.iload_n 3, 1) := by decide +kernel
theorem dX0_match_26 : decode cX0_match 26 = .ok (.invokevirtual 33, 3) := by decide +kernel
theorem dX0_match_29 : decode cX0_match 29 = .ok (.iastore, 1) := by decide +kernel
theorem dX0_match_30 : decode cX0_match 30 = .ok (.aload_n 0, 1) := by decide +kernel
theorem dX0_match_31 : decode cX0_match 31 = .ok (.getfield 18, 3) := by decide +kernel
theorem dX0_match_34 : decode cX0_match 34 = .ok (.iload 4, 2) := by decide +kernel
theorem dX0_match_36 : decode cX0_match 36 = .ok (.iaload, 1) := by decide +kernel
theorem dX0_match_37 : decode cX0_match 37 = .ok (.iconst 1, 1) := by decide +kernel
theorem dX0_match_38 : decode cX0_match 38 = .ok (.iadd, 1) := by decide +kernel
theorem dX0_match_39 : decode cX0_match 39 = .ok (.istore_n 3, 1) := by decide +kernel
theorem dX0_match_40 : decode cX0_match 40 = .ok (.aload_n 0, 1) := by decide +kernel
theorem dX0_match_41 : decode cX0_match 41 = .ok (.aload_n 1, 1) := by decide +kernel
theorem dX0_match_42 : decode cX0_match 42 = .ok (.iload_n 2, 1) := by decide +kernel
theorem dX0_match_43 : decode cX0_match 43 = .ok (.iload 4, 2) := by decide +kernel
theorem dX0_match_45 : decode cX0_match 45 = .ok (.invokevirtual 38, 3) := by decide +kernel
theorem dX0_match_48 : decode cX0_match 48 = .ok (.iinc 4 1, 3) := by decide +kernel
theorem dX0_match_51 : decode cX0_match 51 = .ok (.goto (-46), 3) := by decide +kernel
theorem dX0_match_54 : decode cX0_match 54 = .ok (.iconst 1, 1) := by decide +kernel
theorem dX0_match_55 : decode cX0_match 55 = .ok (.iload_n 2, 1) := by decide +kernel
theorem dX0_match_56 : decode cX0_match 56 = .ok (.ishl, 1) := by decide +kernel
theorem dX0_match_57 : decode cX0_match 57 = .ok (.sipush 128, 3) := by decide +kernel
theorem dX0_match_60 : decode cX0_match 60 = .ok (.invokestatic 42, 3) := by decide +kernel
theorem dX0_match_63 : decode cX0_match 63 = .ok (.iconst 1, 1) := by decide +kernel
theorem dX0_match_64 : decode cX0_match 64 = .ok (.isub, 1) := by decide +kernel
theorem dX0_match_65 : decode cX0_match 65 = .ok (.istore 4, 2) := by decide +kernel
theorem dX0_match_67 : decode cX0_match 67 = .ok (.iload 4, 2) := by decide +kernel
theorem dX0_match_69 : decode cX0_match 69 = .ok (.ifCond .lt 23, 3) := by decide +kernel
theorem dX0_match_72 : decode cX0_match 72 = .ok (.aload_n 0, 1) := by decide +kernel
theorem dX0_match_73 : decode cX0_match 73 = .ok (.getfield 24, 3) := by decide +kernel
theorem dX0_match_76 : decode cX0_match 76 = .ok (.iload 4, 2) := by decide +kernel
theorem dX0_match_78 : decode cX0_match 78 = .ok (.aload_n 0, 1) := by decide +kernel
theorem dX0_match_79 : decode cX0_match 79 = .ok (.iload_n 2, 1) := by decide +kernel
theorem dX0_match_80 : decode cX0_match 80 = .ok (.iload 4, 2) := by decide +kernel
theorem dX0_match_82 : decode cX0_match 82 = .ok (.invokevirtual 48, 3) := by decide +kernel
theorem dX0_match_85 : decode cX0_match 85 = .ok (.iastore, 1) := by decide +kernel
theorem dX0_match_86 : decode cX0_match 86 = .ok (.iinc 4 (-1), 3) := by decide +kernel
theorem dX0_match_89 : decode cX0_match 89 = .ok (.goto (-22), 3) := by decide +kernel
theorem dX0_match_92 : decode cX0_match 92 = .ok (.return_, 1) := by decide +kernel
theorem dX7_byteAt_0 : decode cX7_byteAt 0 = .ok (.iload_n 1, 1) := by decide +kernel
theorem dX7_byteAt_1 : decode cX7_byteAt 1 = .ok (.ifCond .lt 27, 3) := by decide +kernel
theorem dX7_byteAt_4 : decode cX7_byteAt 4 = .ok (.iload_n 1, 1) := by decide +kernel
theorem dX7_byteAt_5 : decode cX7_byteAt 5 = .ok (.aload_n 0, 1) := by decide +kernel
theorem dX7_byteAt_6 : decode cX7_byteAt 6 = .ok (.getfield 19, 3) := by decide +kernel
theorem dX7_byteAt_9 : decode cX7_byteAt 9 = .ok (.if_icmp .ge 19, 3) := by decide +kernel
theorem dX7_byteAt_12 : decode cX7_byteAt 12 = .ok (.iload_n 1, 1) := by decide +kernel
theorem dX7_byteAt_13 : decode cX7_byteAt 13 = .ok (.sipush 260, 3) := by decide +kernel
theorem dX7_byteAt_16 : decode cX7_byteAt 16 = .ok (.if_icmp .ge 12, 3) := by decide +kernel
theorem dX7_byteAt_19 : decode cX7_byteAt 19 = .ok (.aload_n 0, 1) := by decide +kernel
theorem dX7_byteAt_20 : decode cX7_byteAt 20 = .ok (.getfield 9, 3) := by decide +kernel
theorem dX7_byteAt_23 : decode cX7_byteAt 23 = .ok (.iload_n 1, 1) := by decide +kernel
theorem dX7_byteAt_24 : decode cX7_byteAt 24 = .ok (.iaload, 1) := by decide +kernel
theorem dX7_byteAt_25 : decode cX7_byteAt 25 = .ok (.goto 4, 3) := by decide +kernel
theorem dX7_byteAt_28 : decode cX7_byteAt 28 = .ok (.iconst (-1), 1) := by decide +kernel
theorem dX7_byteAt_29 : decode cX7_byteAt 29 = .ok (.ireturn, 1) := by decide +kernel
theorem dX0_read_0 : decode cX0_read 0 = .ok (.iconst 0, 1) := by decide +kernel
theorem dX0_read_1 : decode cX0_read 1 = .ok (.istore_n 3, 1) := by decide +kernel
theorem dX0_read_2 : decode cX0_read 2 = .ok (.iload_n 3, 1) := by decide +kernel
theorem dX0_read_3 : decode cX0_read 3 = .ok (.iload_n 2, 1) := by decide +kernel
theorem dX0_read_4 : decode cX0_read 4 = .ok (.if_icmp .ge 67, 3) := by decide +kernel
theorem dX0_read_7 : decode cX0_read 7 = .ok (.iload_n 3, 1) := by decide +kernel
theorem dX0_read_8 : decode cX0_read 8 = .ok (.bipush 7, 2) := by decide +kernel
theorem dX0_read_10 : decode cX0_read 10 = .ok (.if_icmp .ge 61, 3) := by decide +kernel
theorem dX0_read_13 : decode cX0_read 13 = .ok (.aload_n 0, 1) := by decide +kernel
theorem dX0_read_14 : decode cX0_read 14 = .ok (.getfield 9, 3) := by decide +kernel
theorem dX0_read_17 : decode cX0_read 17 = .ok (.iload_n 3, 1) := by decide +kernel
theorem dX0_read_18 : decode cX0_read 18 = .ok (.aload_n 1, 1) := by decide +kernel
theorem dX0_read_19 : decode cX0_read 19 = .ok (.iconst 2, 1) := by decide +kernel
theorem dX0_read_20 : decode cX0_read 20 = .ok (.iload_n 3, 1) := by decide +kernel
theorem dX0_read_21 : decode cX0_read 21 = .ok (.imul, 1) := by decide +kernel
theorem dX0_read_22 : decode cX0_read 22 = .ok (.invokevirtual 27, 3) := by decide +kernel
theorem dX0_read_25 : decode cX0_read 25 = .ok (.iastore, 1) := by decide +kernel
theorem dX0_read_26 : decode cX0_read 26 = .ok (.aload_n 0, 1) := by decide +kernel
theorem dX0_read_27 : decode cX0_read 27 = .ok (.getfield 15, 3) := by decide +kernel
theorem dX0_read_30 : decode cX0_read 30 = .ok (.iload_n 3, 1) := by decide +kernel
theorem dX0_read_31 : decode cX0_read 31 = .ok (.aload_n 1, 1) := by decide +kernel
theorem dX0_read_32 : decode cX0_read 32 = .ok (.iconst 2, 1) := by decide +kernel
theorem dX0_read_33 : decode cX0_read 33 = .ok (.iload_n 3, 1) := by decide +kernel
theorem dX0_read_34 : decode cX0_read 34 = .ok (.imul, 1) := by decide +kernel
theorem dX0_read_35 : decode cX0_read 35 = .ok (.iconst 1, 1) := by decide +kernel
theorem dX0_read_36 : decode cX0_read 36 = .ok (.iadd, 1) := by decide +kernel
theorem dX0_read_37 : decode cX0_read 37 = .ok (.invokevirtual 27, 3) := by decide +kernel
theorem dX0_read_40 : decode cX0_read 40 = .ok (.iastore, 1) := by decide +kernel
theorem dX0_read_41 : decode cX0_read 41 = .ok (.aload_n 0, 1) := by decide +kernel
theorem dX0_read_42 : decode cX0_read 42 = .ok (.getfield 9, 3) := by decide +kernel
theorem dX0_read_45 : decode cX0_read 45 = .ok (.iload_n 3, 1) := by decide +kernel
theorem dX0_read_46 : decode cX0_read 46 = .ok (.iaload, 1) := by decide +kernel
theorem dX0_read_47 : decode cX0_read 47 = .ok (.bipush 39, 2) := by decide +kernel
theorem dX0_read_49 : decode cX0_read 49 = .ok (.if_icmp .gt 14, 3) := by decide +kernel
theorem dX0_read_52 : decode cX0_read 52 = .ok (.aload_n 0, 1) := by decide +kernel
theorem dX0_read_53 : decode cX0_read 53 = .ok (.getfield 15, 3) := by decide +kernel
theorem dX0_read_56 : decode cX0_read 56 = .ok (.iload_n 3, 1) := by decide +kernel
theorem dX0_read_57 : decode cX0_read 57 = .ok (.iaload, 1) := by decide +kernel
theorem dX0_read_58 : decode cX0_read 58 = .ok (.bipush 20, 2) := by decide +kernel
theorem dX0_read_60 : decode cX0_read 60 = .ok (.if_icmp .le 5, 3) := by decide +kernel
theorem dX0_read_63 : decode cX0_read 63 = .ok (.iconst 0, 1) := by decide +kernel
theorem dX0_read_64 : decode cX0_read 64 = .ok (.ireturn, 1) := by decide +kernel
theorem dX0_read_65 : decode cX0_read 65 = .ok (.iinc 3 1, 3) := by decide +kernel
theorem dX0_read_68 : decode cX0_read 68 = .ok (.goto (-66), 3) := by decide +kernel
theorem dX0_read_71 : decode cX0_read 71 = .ok (.iconst 1, 1) := by decide +kernel
theorem dX0_read_72 : decode cX0_read 72 = .ok (.ireturn, 1) := by decide +kernel
theorem dX0_stoneOf_0 : decode cX0_stoneOf 0 = .ok (.iconst 0, 1) := by decide +kernel
theorem dX0_stoneOf_1 : decode cX0_stoneOf 1 = .ok (.istore_n 3, 1) := by decide +kernel
theorem dX0_stoneOf_2 : decode cX0_stoneOf 2 = .ok (.iconst (-1), 1) := by decide +kernel
theorem dX0_stoneOf_3 : decode cX0_stoneOf 3 = .ok (.istore 4, 2) := by decide +kernel
theorem dX0_stoneOf_5 : decode cX0_stoneOf 5 = .ok (.iconst 0, 1) := by decide +kernel
theorem dX0_stoneOf_6 : decode cX0_stoneOf 6 = .ok (.istore 5, 2) := by decide +kernel
theorem dX0_stoneOf_8 : decode cX0_stoneOf 8 = .ok (.iload 5, 2) := by decide +kernel
theorem dX0_stoneOf_10 : decode cX0_stoneOf 10 = .ok (.iload_n 2, 1) := by decide +kernel
theorem dX0_stoneOf_11 : decode cX0_stoneOf 11 = .ok (.if_icmp .gt 86, 3) := by decide +kernel
theorem dX0_stoneOf_14 : decode cX0_stoneOf 14 = .ok (.iload 5, 2) := by decide +kernel
theorem dX0_stoneOf_16 : decode cX0_stoneOf 16 = .ok (.bipush 7, 2) := by decide +kernel
theorem dX0_stoneOf_18 : decode cX0_stoneOf 18 = .ok (.if_icmp .ge 79, 3) := by decide +kernel
theorem dX0_stoneOf_21 : decode cX0_stoneOf 21 = .ok (.iconst 0, 1) := by decide +kernel
theorem dX0_stoneOf_22 : decode cX0_stoneOf 22 = .ok (.istore 6, 2) := by decide +kernel
theorem dX0_stoneOf_24 : decode cX0_stoneOf 24 = .ok (.iload 6, 2) := by decide +kernel
theorem dX0_stoneOf_26 : decode cX0_stoneOf 26 = .ok (.iload_n 1, 1) := by decide +kernel
theorem dX0_stoneOf_27 : decode cX0_stoneOf 27 = .ok (.if_icmp .ge 64, 3) := by decide +kernel
theorem dX0_stoneOf_30 : decode cX0_stoneOf 30 = .ok (.iload 6, 2) := by decide +kernel
theorem dX0_stoneOf_32 : decode cX0_stoneOf 32 = .ok (.bipush 7, 2) := by decide +kernel
theorem dX0_stoneOf_34 : decode cX0_stoneOf 34 = .ok (.if_icmp .ge 57, 3) := by decide +kernel
theorem dX0_stoneOf_37 : decode cX0_stoneOf 37 = .ok (.iload_n 3, 1) := by decide +kernel
theorem dX0_stoneOf_38 : decode cX0_stoneOf 38 = .ok (.ifCond .lt 47, 3) := by decide +kernel
theorem dX0_stoneOf_41 : decode cX0_stoneOf 41 = .ok (.iload_n 3, 1) := by decide +kernel
theorem dX0_stoneOf_42 : decode cX0_stoneOf 42 = .ok (.sipush 128, 3) := by decide +kernel
theorem dX0_stoneOf_45 : decode cX0_stoneOf 45 = .ok (.if_icmp .ge 40, 3) := by decide +kernel
theorem dX0_stoneOf_48 : decode cX0_stoneOf 48 = .ok (.aload_n 0, 1) := by decide +kernel
theorem dX0_stoneOf_49 : decode cX0_stoneOf 49 = .ok (.iload_n 3, 1) := by decide +kernel
theorem dX0_stoneOf_50 : decode cX0_stoneOf 50 = .ok (.iload 5, 2) := by decide +kernel
theorem dX0_stoneOf_52 : decode cX0_stoneOf 52 = .ok (.iload 6, 2) := by decide +kernel
theorem dX0_stoneOf_54 : decode cX0_stoneOf 54 = .ok (.invokevirtual 70, 3) := by decide +kernel
theorem dX0_stoneOf_57 : decode cX0_stoneOf 57 = .ok (.aload_n 0, 1) := by decide +kernel
theorem dX0_stoneOf_58 : decode cX0_stoneOf 58 = .ok (.getfield 24, 3) := by decide +kernel
theorem dX0_stoneOf_61 : decode cX0_stoneOf 61 = .ok (.iload_n 3, 1) := by decide +kernel
theorem dX0_stoneOf_62 : decode cX0_stoneOf 62 = .ok (.iaload, 1) := by decide +kernel
theorem dX0_stoneOf_63 : decode cX0_stoneOf 63 = .ok (.if_icmp .ne 22, 3) := by decide +kernel
theorem dX0_stoneOf_66 : decode cX0_stoneOf 66 = .ok (.aload_n 0, 1) := by decide +kernel
theorem dX0_stoneOf_67 : decode cX0_stoneOf 67 = .ok (.getfield 18, 3) := by decide +kernel
theorem dX0_stoneOf_70 : decode cX0_stoneOf 70 = .ok (.iload 6, 2) := by decide +kernel
theorem dX0_stoneOf_72 : decode cX0_stoneOf 72 = .ok (.iaload, 1) := by decide +kernel
theorem dX0_stoneOf_73 : decode cX0_stoneOf 73 = .ok (.istore 4, 2) := by decide +kernel
theorem dX0_stoneOf_75 : decode cX0_stoneOf 75 = .ok (.iload_n 3, 1) := by decide +kernel
theorem dX0_stoneOf_76 : decode cX0_stoneOf 76 = .ok (.iconst 1, 1) := by decide +kernel
theorem dX0_stoneOf_77 : decode cX0_stoneOf 77 = .ok (.iload 6, 2) := by decide +kernel
theorem dX0_stoneOf_79 : decode cX0_stoneOf 79 = .ok (.ishl, 1) := by decide +kernel
theorem dX0_stoneOf_80 : decode cX0_stoneOf 80 = .ok (.ior, 1) := by decide +kernel
theorem dX0_stoneOf_81 : decode cX0_stoneOf 81 = .ok (.istore_n 3, 1) := by decide +kernel
theorem dX0_stoneOf_82 : decode cX0_stoneOf 82 = .ok (.goto 9, 3) := by decide +kernel
theorem dX0_stoneOf_85 : decode cX0_stoneOf 85 = .ok (.iinc 6 1, 3) := by decide +kernel
theorem dX0_stoneOf_88 : decode cX0_stoneOf 88 = .ok (.goto (-64), 3) := by decide +kernel
theorem dX0_stoneOf_91 : decode cX0_stoneOf 91 = .ok (.iinc 5 1, 3) := by decide +kernel
theorem dX0_stoneOf_94 : decode cX0_stoneOf 94 = .ok (.goto (-86), 3) := by decide +kernel
theorem dX0_stoneOf_97 : decode cX0_stoneOf 97 = .ok (.iload 4, 2) := by decide +kernel
theorem dX0_stoneOf_99 : decode cX0_stoneOf 99 = .ok (.ireturn, 1) := by decide +kernel
theorem dX0_wayInAll_0 : decode cX0_wayInAll 0 = .ok (.aload_n 0, 1) := by decide +kernel
theorem dX0_wayInAll_1 : decode cX0_wayInAll 1 = .ok (.getfield 24, 3) := by decide +kernel
theorem dX0_wayInAll_4 : decode cX0_wayInAll 4 = .ok (.iconst 0, 1) := by decide +kernel
theorem dX0_wayInAll_5 : decode cX0_wayInAll 5 = .ok (.iaload, 1) := by decide +kernel
theorem dX0_wayInAll_6 : decode cX0_wayInAll 6 = .ok (.ireturn, 1) := by decide +kernel
theorem dX1_reach_0 : decode cX1_reach 0 = .ok (.iload_n 1, 1) := by decide +kernel
theorem dX1_reach_1 : decode cX1_reach 1 = .ok (.ifCond .lt 62, 3) := by decide +kernel
theorem dX1_reach_4 : decode cX1_reach 4 = .ok (.iload_n 1, 1) := by decide +kernel
theorem dX1_reach_5 : decode cX1_reach 5 = .ok (.bipush 80, 2) := by decide +kernel
theorem dX1_reach_7 : decode cX1_reach 7 = .ok (.if_icmp .ge 56, 3) := by decide +kernel
theorem dX1_reach_10 : decode cX1_reach 10 = .ok (.aload_n 0, 1) := by decide +kernel
theorem dX1_reach_11 : decode cX1_reach 11 = .ok (.getfield 21, 3) := by decide +kernel
theorem dX1_reach_14 : decode cX1_reach 14 = .ok (.ifCond .lt 49, 3) := by decide +kernel
theorem dX1_reach_17 : decode cX1_reach 17 = .ok (.aload_n 0, 1) := by decide +kernel
theorem dX1_reach_18 : decode cX1_reach 18 = .ok (.getfield 21, 3) := by decide +kernel
theorem dX1_reach_21 : decode cX1_reach 21 = .ok (.bipush 80, 2) := by decide +kernel
theorem dX1_reach_23 : decode cX1_reach 23 = .ok (.if_icmp .ge 40, 3) := by decide +kernel
theorem dX1_reach_26 : decode cX1_reach 26 = .ok (.aload_n 0, 1) := by decide +kernel
theorem dX1_reach_27 : decode cX1_reach 27 = .ok (.getfield 15, 3) := by decide +kernel
theorem dX1_reach_30 : decode cX1_reach 30 = .ok (.iload_n 1, 1) := by decide +kernel
theorem dX1_reach_31 : decode cX1_reach 31 = .ok (.iaload, 1) := by decide +kernel
theorem dX1_reach_32 : decode cX1_reach 32 = .ok (.iconst (-1), 1) := by decide +kernel
theorem dX1_reach_33 : decode cX1_reach 33 = .ok (.if_icmp .ne 30, 3) := by decide +kernel
theorem dX1_reach_36 : decode cX1_reach 36 = .ok (.aload_n 0, 1) := by decide +kernel
theorem dX1_reach_37 : decode cX1_reach 37 = .ok (.getfield 15, 3) := by decide +kernel
theorem dX1_reach_40 : decode cX1_reach 40 = .ok (.iload_n 1, 1) := by decide +kernel
theorem dX1_reach_41 : decode cX1_reach 41 = .ok (.iload_n 2, 1) := by decide +kernel
theorem dX1_reach_42 : decode cX1_reach 42 = .ok (.iastore, 1) := by decide +kernel
theorem dX1_reach_43 : decode cX1_reach 43 = .ok (.aload_n 0, 1) := by decide +kernel
theorem dX1_reach_44 : decode cX1_reach 44 = .ok (.getfield 18, 3) := by decide +kernel
theorem dX1_reach_47 : decode cX1_reach 47 = .ok (.aload_n 0, 1) := by decide +kernel
theorem dX1_reach_48 : decode cX1_reach 48 = .ok (.getfield 21, 3) := by decide +kernel
theorem dX1_reach_51 : decode cX1_reach 51 = .ok (.iload_n 1, 1) := by decide +kernel
theorem dX1_reach_52 : decode cX1_reach 52 = .ok (.iastore, 1) := by decide +kernel
theorem dX1_reach_53 : decode cX1_reach 53 = .ok (.aload_n 0, 1) := by decide +kernel
theorem dX1_reach_54 : decode cX1_reach 54 = .ok (.dup, 1) := by decide +kernel
theorem dX1_reach_55 : decode cX1_reach 55 = .ok (.getfield 21, 3) := by decide +kernel
theorem dX1_reach_58 : decode cX1_reach 58 = .ok (.iconst 1, 1) := by decide +kernel
theorem dX1_reach_59 : decode cX1_reach 59 = .ok (.iadd, 1) := by decide +kernel
theorem dX1_reach_60 : decode cX1_reach 60 = .ok (.putfield 21, 3) := by decide +kernel
theorem dX1_reach_63 : decode cX1_reach 63 = .ok (.return_, 1) := by decide +kernel
theorem dX1_comeOn_0 : decode cX1_comeOn 0 = .ok (.iload_n 1, 1) := by decide +kernel
theorem dX1_comeOn_1 : decode cX1_comeOn 1 = .ok (.ifCond .lt 9, 3) := by decide +kernel
theorem dX1_comeOn_4 : decode cX1_comeOn 4 = .ok (.iload_n 1, 1) := by decide +kernel
theorem dX1_comeOn_5 : decode cX1_comeOn 5 = .ok (.bipush 40, 2) := by decide +kernel
theorem dX1_comeOn_7 : decode cX1_comeOn 7 = .ok (.if_icmp .lt 4, 3) := by decide +kernel
theorem dX1_comeOn_10 : decode cX1_comeOn 10 = .ok (.return_, 1) := by decide +kernel
theorem dX1_comeOn_11 : decode cX1_comeOn 11 = .ok (.aload_n 0, 1) := by decide +kernel
theorem dX1_comeOn_12 : decode cX1_comeOn 12 = .ok (.getfield 9, 3) := by decide +kernel
theorem dX1_comeOn_15 : decode cX1_comeOn 15 = .ok (.iload_n 1, 1) := by decide +kernel
theorem dX1_comeOn_16 : decode cX1_comeOn 16 = .ok (.iaload, 1) := by decide +kernel
theorem dX1_comeOn_17 : decode cX1_comeOn 17 = .ok (.iconst (-1), 1) := by decide +kernel
theorem dX1_comeOn_18 : decode cX1_comeOn 18 = .ok (.if_icmp .ne 15, 3) := by decide +kernel
theorem dX1_comeOn_21 : decode cX1_comeOn 21 = .ok (.aload_n 0, 1) := by decide +kernel
theorem dX1_comeOn_22 : decode cX1_comeOn 22 = .ok (.iload_n 1, 1) := by decide +kernel
theorem dX1_comeOn_23 : decode cX1_comeOn 23 = .ok (.bipush 40, 2) := by decide +kernel
theorem dX1_comeOn_25 : decode cX1_comeOn 25 = .ok (.iadd, 1) := by decide +kernel
theorem dX1_comeOn_26 : decode cX1_comeOn 26 = .ok (.iload_n 1, 1) := by decide +kernel
theorem dX1_comeOn_27 : decode cX1_comeOn 27 = .ok (.invokevirtual 45, 3) := by decide +kernel
theorem dX1_comeOn_30 : decode cX1_comeOn 30 = .ok (.goto 28, 3) := by decide +kernel
theorem dX1_comeOn_33 : decode cX1_comeOn 33 = .ok (.aload_n 0, 1) := by decide +kernel
theorem dX1_comeOn_34 : decode cX1_comeOn 34 = .ok (.getfield 9, 3) := by decide +kernel
theorem dX1_comeOn_37 : decode cX1_comeOn 37 = .ok (.iload_n 1, 1) := by decide +kernel
theorem dX1_comeOn_38 : decode cX1_comeOn 38 = .ok (.iaload, 1) := by decide +kernel
theorem dX1_comeOn_39 : decode cX1_comeOn 39 = .ok (.bipush 40, 2) := by decide +kernel
theorem dX1_comeOn_41 : decode cX1_comeOn 41 = .ok (.if_icmp .ge 17, 3) := by decide +kernel
theorem dX1_comeOn_44 : decode cX1_comeOn 44 = .ok (.aload_n 0, 1) := by decide +kernel
theorem dX1_comeOn_45 : decode cX1_comeOn 45 = .ok (.aload_n 0, 1) := by decide +kernel
theorem dX1_comeOn_46 : decode cX1_comeOn 46 = .ok (.getfield 9, 3) := by decide +kernel
theorem dX1_comeOn_49 : decode cX1_comeOn 49 = .ok (.iload_n 1, 1) := by decide +kernel
theorem dX1_comeOn_50 : decode cX1_comeOn 50 = .ok (.iaload, 1) := by decide +kernel
theorem dX1_comeOn_51 : decode cX1_comeOn 51 = .ok (.bipush 40, 2) := by decide +kernel
theorem dX1_comeOn_53 : decode cX1_comeOn 53 = .ok (.iadd, 1) := by decide +kernel
theorem dX1_comeOn_54 : decode cX1_comeOn 54 = .ok (.iload_n 1, 1) := by decide +kernel
theorem dX1_comeOn_55 : decode cX1_comeOn 55 = .ok (.invokevirtual 45, 3) := by decide +kernel
theorem dX1_comeOn_58 : decode cX1_comeOn 58 = .ok (.return_, 1) := by decide +kernel
theorem dX2_isDry_0 : decode cX2_isDry 0 = .ok (.iload_n 1, 1) := by decide +kernel
theorem dX2_isDry_1 : decode cX2_isDry 1 = .ok (.ifCond .lt 31, 3) := by decide +kernel
theorem dX2_isDry_4 : decode cX2_isDry 4 = .ok (.iload_n 1, 1) := by decide +kernel
theorem dX2_isDry_5 : decode cX2_isDry 5 = .ok (.bipush 40, 2) := by decide +kernel
theorem dX2_isDry_7 : decode cX2_isDry 7 = .ok (.if_icmp .ge 25, 3) := by decide +kernel
theorem dX2_isDry_10 : decode cX2_isDry 10 = .ok (.aload_n 0, 1) := by decide +kernel
theorem dX2_isDry_11 : decode cX2_isDry 11 = .ok (.getfield 21, 3) := by decide +kernel
theorem dX2_isDry_14 : decode cX2_isDry 14 = .ok (.iload_n 1, 1) := by decide +kernel
theorem dX2_isDry_15 : decode cX2_isDry 15 = .ok (.baload, 1) := by decide +kernel
theorem dX2_isDry_16 : decode cX2_isDry 16 = .ok (.ifCond .eq 16, 3) := by decide +kernel
theorem dX2_isDry_19 : decode cX2_isDry 19 = .ok (.aload_n 0, 1) := by decide +kernel
theorem dX2_isDry_20 : decode cX2_isDry 20 = .ok (.getfield 25, 3) := by decide +kernel
theorem dX2_isDry_23 : decode cX2_isDry 23 = .ok (.iload_n 1, 1) := by decide +kernel
theorem dX2_isDry_24 : decode cX2_isDry 24 = .ok (.baload, 1) := by decide +kernel
theorem dX2_isDry_25 : decode cX2_isDry 25 = .ok (.ifCond .ne 7, 3) := by decide +kernel
theorem dX2_isDry_28 : decode cX2_isDry 28 = .ok (.iconst 1, 1) := by decide +kernel
theorem dX2_isDry_29 : decode cX2_isDry 29 = .ok (.goto 4, 3) := by decide +kernel
theorem dX2_isDry_32 : decode cX2_isDry 32 = .ok (.iconst 0, 1) := by decide +kernel
theorem dX2_isDry_33 : decode cX2_isDry 33 = .ok (.ireturn, 1) := by decide +kernel
theorem dX2_canStand_0 : decode cX2_canStand 0 = .ok (.iload_n 1, 1) := by decide +kernel
theorem dX2_canStand_1 : decode cX2_canStand 1 = .ok (.bipush 40, 2) := by decide +kernel
theorem dX2_canStand_3 : decode cX2_canStand 3 = .ok (.if_icmp .eq 17, 3) := by decide +kernel
theorem dX2_canStand_6 : decode cX2_canStand 6 = .ok (.iload_n 1, 1) := by decide +kernel
theorem dX2_canStand_7 : decode cX2_canStand 7 = .ok (.bipush 41, 2) := by decide +kernel
theorem dX2_canStand_9 : decode cX2_canStand 9 = .ok (.if_icmp .eq 11, 3) := by decide +kernel
theorem dX2_canStand_12 : decode cX2_canStand 12 = .ok (.aload_n 0, 1) := by decide +kernel
theorem dX2_canStand_13 : decode cX2_canStand 13 = .ok (.iload_n 1, 1) := by decide +kernel
theorem dX2_canStand_14 : decode cX2_canStand 14 = .ok (.invokevirtual 45, 3) := by decide +kernel
theorem dX2_canStand_17 : decode cX2_canStand 17 = .ok (.ifCond .eq 7, 3) := by decide +kernel
theorem dX2_canStand_20 : decode cX2_canStand 20 = .ok (.iconst 1, 1) := by decide +kernel
theorem dX2_canStand_21 : decode cX2_canStand 21 = .ok (.goto 4, 3) := by decide +kernel
theorem dX2_canStand_24 : decode cX2_canStand 24 = .ok (.iconst 0, 1) := by decide +kernel
theorem dX2_canStand_25 : decode cX2_canStand 25 = .ok (.ireturn, 1) := by decide +kernel
theorem dX2_heightOf_0 : decode cX2_heightOf 0 = .ok (.iload_n 1, 1) := by decide +kernel
theorem dX2_heightOf_1 : decode cX2_heightOf 1 = .ok (.bipush 41, 2) := by decide +kernel
theorem dX2_heightOf_3 : decode cX2_heightOf 3 = .ok (.if_icmp .ne 6, 3) := by decide +kernel
theorem dX2_heightOf_6 : decode cX2_heightOf 6 = .ok (.bipush 21, 2) := by decide +kernel
theorem dX2_heightOf_8 : decode cX2_heightOf 8 = .ok (.ireturn, 1) := by decide +kernel
theorem dX2_heightOf_9 : decode cX2_heightOf 9 = .ok (.iload_n 1, 1) := by decide +kernel
theorem dX2_heightOf_10 : decode cX2_heightOf 10 = .ok (.ifCond .lt 18, 3) := by decide +kernel
theorem dX2_heightOf_13 : decode cX2_heightOf 13 = .ok (.iload_n 1, 1) := by decide +kernel
theorem dX2_heightOf_14 : decode cX2_heightOf 14 = .ok (.bipush 40, 2) := by decide +kernel
theorem dX2_heightOf_16 : decode cX2_heightOf 16 = .ok (.if_icmp .ge 12, 3) := by decide +kernel
theorem dX2_heightOf_19 : decode cX2_heightOf 19 = .ok (.aload_n 0, 1) := by decide +kernel
theorem dX2_heightOf_20 : decode cX2_heightOf 20 = .ok (.getfield 15, 3) := by decide +kernel
theorem dX2_heightOf_23 : decode cX2_heightOf 23 = .ok (.iload_n 1, 1) := by decide +kernel
theorem dX2_heightOf_24 : decode cX2_heightOf 24 = .ok (.iaload, 1) := by decide +kernel
theorem dX2_heightOf_25 : decode cX2_heightOf 25 = .ok (.goto 4, 3) := by decide +kernel
theorem dX2_heightOf_28 : decode cX2_heightOf 28 = .ok (.iconst 0, 1) := by decide +kernel
theorem dX2_heightOf_29 : decode cX2_heightOf 29 = .ok (.ireturn, 1) := by decide +kernel
set_option maxHeartbeats 4000000 in
theorem t_J6_bitCount_0f7a4 (v0 : Int32) (M : Mem) : AXp yJ6_bitCount_0f7a4 cJ6_bitCount_0f7a4 1 (some .int) 0 60 glC (fun ad => [.int v0]) M (f_J6_bitCount_0f7a4 v0) := by
  intro r0 h
  refine AM.of (by decide) (fun _ => Nat.le_of_ble_eq_true rfl) (fun X ad cI cZ cB hX hR => ?_)
  show V X M [(0, .int v0)] [] 0
  refine s_iload_n (k := 0) hX dJ6_bitCount_0f7a4_0 rfl rfl ?_
  refine s_iload_n (k := 0) hX dJ6_bitCount_0f7a4_1 rfl rfl ?_
  refine s_iconst (v := (nI 1)) hX dJ6_bitCount_0f7a4_2 (by decide) ?_
  refine e_iushr hX dJ6_bitCount_0f7a4_3 ?_
  refine s_ldcw (v := (nI 1431655765)) hX kJ6_265 dJ6_bitCount_0f7a4_4 ?_
  refine s_iand hX dJ6_bitCount_0f7a4_7 ?_
  refine s_isub hX dJ6_bitCount_0f7a4_8 ?_
  refine e_bnd h (fun x_1 h => ?_)
  refine s_istore_n (lv' := [(0, .int x_1)]) hX dJ6_bitCount_0f7a4_9 rfl (by decide) rfl ?_
  refine s_iload_n (k := 0) hX dJ6_bitCount_0f7a4_10 rfl rfl ?_
  refine s_ldcw (v := (nI 858993459)) hX kJ6_266 dJ6_bitCount_0f7a4_11 ?_
  refine s_iand hX dJ6_bitCount_0f7a4_14 ?_
  refine s_iload_n (k := 0) hX dJ6_bitCount_0f7a4_15 rfl rfl ?_
  refine s_iconst (v := (nI 2)) hX dJ6_bitCount_0f7a4_16 (by decide) ?_
  refine e_iushr hX dJ6_bitCount_0f7a4_17 ?_
  refine s_ldcw (v := (nI 858993459)) hX kJ6_266 dJ6_bitCount_0f7a4_18 ?_
  refine s_iand hX dJ6_bitCount_0f7a4_21 ?_
  refine s_iadd hX dJ6_bitCount_0f7a4_22 ?_
  refine e_bnd h (fun x_2 h => ?_)
  refine s_istore_n (lv' := [(0, .int x_2)]) hX dJ6_bitCount_0f7a4_23 rfl (by decide) rfl ?_
  refine s_iload_n (k := 0) hX dJ6_bitCount_0f7a4_24 rfl rfl ?_
  refine s_iload_n (k := 0) hX dJ6_bitCount_0f7a4_25 rfl rfl ?_
  refine s_iconst (v := (nI 4)) hX dJ6_bitCount_0f7a4_26 (by decide) ?_
  refine e_iushr hX dJ6_bitCount_0f7a4_27 ?_
  refine s_iadd hX dJ6_bitCount_0f7a4_28 ?_
  refine s_ldcw (v := (nI 252645135)) hX kJ6_267 dJ6_bitCount_0f7a4_29 ?_
  refine s_iand hX dJ6_bitCount_0f7a4_32 ?_
  refine e_bnd h (fun x_3 h => ?_)
  refine s_istore_n (lv' := [(0, .int x_3)]) hX dJ6_bitCount_0f7a4_33 rfl (by decide) rfl ?_
  refine s_iload_n (k := 0) hX dJ6_bitCount_0f7a4_34 rfl rfl ?_
  refine s_iload_n (k := 0) hX dJ6_bitCount_0f7a4_35 rfl rfl ?_
  refine s_bipush (v := (nI 8)) hX dJ6_bitCount_0f7a4_36 (by decide) ?_
  refine e_iushr hX dJ6_bitCount_0f7a4_38 ?_
  refine s_iadd hX dJ6_bitCount_0f7a4_39 ?_
  refine e_bnd h (fun x_4 h => ?_)
  refine s_istore_n (lv' := [(0, .int x_4)]) hX dJ6_bitCount_0f7a4_40 rfl (by decide) rfl ?_
  refine s_iload_n (k := 0) hX dJ6_bitCount_0f7a4_41 rfl rfl ?_
  refine s_iload_n (k := 0) hX dJ6_bitCount_0f7a4_42 rfl rfl ?_
  refine s_bipush (v := (nI 16)) hX dJ6_bitCount_0f7a4_43 (by decide) ?_
  refine e_iushr hX dJ6_bitCount_0f7a4_45 ?_
  refine s_iadd hX dJ6_bitCount_0f7a4_46 ?_
  refine e_bnd h (fun x_5 h => ?_)
  refine s_istore_n (lv' := [(0, .int x_5)]) hX dJ6_bitCount_0f7a4_47 rfl (by decide) rfl ?_
  refine s_iload_n (k := 0) hX dJ6_bitCount_0f7a4_48 rfl rfl ?_
  refine s_bipush (v := (nI 63)) hX dJ6_bitCount_0f7a4_49 (by decide) ?_
  refine s_iand hX dJ6_bitCount_0f7a4_51 ?_
  exact e_iretp hX hR dJ6_bitCount_0f7a4_52 h
set_option maxHeartbeats 4000000 in
theorem t_J7_fill_53178 (k len_k : Nat) (hk : ∀ {ad : Nat → Nat} {cI cZ cB : ClassId}, IA (glC ad cI cZ cB) 60 k cI len_k) (hlk : len_k < 2 ^ 31) (v1 : Int32) (M : Mem) : AXv yJ7_fill_53178 cJ7_fill_53178 4 none 0 60 glC (fun ad => [.ref (ad k), .int v1]) M (f_J7_fill_53178 k len_k M v1) := by
  intro r0 h
  refine AM.of (by decide) (fun _ => Nat.le_of_ble_eq_true rfl) (fun X ad cI cZ cB hX hR => ?_)
  show V X M [(0, .ref (ad k)), (1, .int v1)] [] 0
  refine s_iconst (v := (nI 0)) hX dJ7_fill_53178_0 (by decide) ?_
  refine s_istore_n (lv' := [(0, .ref (ad k)), (1, .int v1), (2, .int (nI 0))]) hX dJ7_fill_53178_1 rfl (by decide) rfl ?_
  refine s_aload_n (k := 0) hX dJ7_fill_53178_2 rfl rfl ?_
  refine s_alen (v := nI len_k) hX hk rfl dJ7_fill_53178_3 ?_
  refine e_bnd h (fun x_1 h => ?_)
  refine s_istore_n (lv' := [(0, .ref (ad k)), (1, .int v1), (2, .int (nI 0)), (3, .int x_1)]) hX dJ7_fill_53178_4 rfl (by decide) rfl ?_
  have lp5 : ∀ (N5 : Nat) (M5 : Mem) (y2_5 : Int32), wlp2 (f_J7_fill_53178_B5 k len_k v1 x_1) N5 M5 y2_5 = some r0 → V X M5 [(0, .ref (ad k)), (1, .int v1), (2, .int y2_5), (3, .int x_1)] [] 5 := by
    intro N5
    induction N5 with
    | zero => exact fun _ _ h => e_none h
    | succ N5 ih5 =>
      intro M5 y2_5 h
      replace h : f_J7_fill_53178_B5 k len_k v1 x_1 (wlp2 (f_J7_fill_53178_B5 k len_k v1 x_1) N5) M5 y2_5 = some r0 := h
      generalize wlp2 (f_J7_fill_53178_B5 k len_k v1 x_1) N5 = ag5 at ih5 h
      refine s_iload_n (k := 2) hX dJ7_fill_53178_5 rfl rfl ?_
      refine s_iload_n (k := 3) hX dJ7_fill_53178_6 rfl rfl ?_
      refine e_icmp_ge (tgt := 20) hX dJ7_fill_53178_7 (by decide) r_le h (fun h => ?_) (fun h => ?_)
      · exact e_vret hX hR dJ7_fill_53178_20 h
      · refine s_aload_n (k := 0) hX dJ7_fill_53178_10 rfl rfl ?_
        refine s_iload_n (k := 2) hX dJ7_fill_53178_11 rfl rfl ?_
        refine s_iload_n (k := 1) hX dJ7_fill_53178_12 rfl rfl ?_
        refine e_iast hX hk dJ7_fill_53178_13 h (fun h => ?_)
        refine e_bndM h (fun M_2 h => ?_)
        refine s_iinc (k := 2) (v := (y2_5 + (nI 1))) (lv' := [(0, .ref (ad k)), (1, .int v1), (3, .int x_1), (2, .int (y2_5 + (nI 1)))]) hX dJ7_fill_53178_14 (congrArg (fun z => y2_5 + z) (by decide)) (by decide) rfl rfl ?_
        refine s_goto (tgt := 5) hX dJ7_fill_53178_17 (by decide) ?_
        refine s_loc [0, 1, 3, 2] rfl ?_
        exact ih5 M_2 (y2_5 + (nI 1)) h
  exact lp5 FU M (nI 0) h
set_option maxHeartbeats 4000000 in
theorem t_X0_wayWith (v1 : Int32) (v2 : Int32) (v3 : Int32) (M : Mem) : AXp yX0_wayWith cX0_wayWith 5 (some .int) 0 60 glC (fun ad => [.ref (ad 37), .int v1, .int v2, .int v3]) M (f_X0_wayWith M v1 v2 v3) := by
  intro r0 h
  refine AM.of (by decide) (fun _ => Nat.le_of_ble_eq_true rfl) (fun X ad cI cZ cB hX hR => ?_)
  show V X M [(0, .ref (ad 37)), (1, .int v1), (2, .int v2), (3, .int v3)] [] 0
  refine s_iload_n (k := 3) hX dX0_wayWith_0 rfl rfl ?_
  refine e_if_lt (tgt := 24) hX dX0_wayWith_1 (by decide) z_lt h (fun h => ?_) (fun h => ?_)
  · refine s_ldc (v := (nI 2147483647)) hX kX0_69 dX0_wayWith_24 ?_
    exact e_iretp hX hR dX0_wayWith_26 h
  · refine s_iload_n (k := 3) hX dX0_wayWith_4 rfl rfl ?_
    refine s_bipush (v := (nI 7)) hX dX0_wayWith_5 (by decide) ?_
    refine e_icmp_ge (tgt := 24) hX dX0_wayWith_7 (by decide) (m_ge (by decide +kernel)) h (fun h => ?_) (fun h => ?_)
    · refine s_ldc (v := (nI 2147483647)) hX kX0_69 dX0_wayWith_24 ?_
      exact e_iretp hX hR dX0_wayWith_26 h
    · refine s_iload_n (k := 2) hX dX0_wayWith_10 rfl rfl ?_
      refine e_if_lt (tgt := 24) hX dX0_wayWith_11 (by decide) z_lt h (fun h => ?_) (fun h => ?_)
      · refine s_ldc (v := (nI 2147483647)) hX kX0_69 dX0_wayWith_24 ?_
        exact e_iretp hX hR dX0_wayWith_26 h
      · refine s_iload_n (k := 2) hX dX0_wayWith_14 rfl rfl ?_
        refine s_bipush (v := (nI 7)) hX dX0_wayWith_15 (by decide) ?_
        refine e_icmp_ge (tgt := 24) hX dX0_wayWith_17 (by decide) (m_ge (by decide +kernel)) h (fun h => ?_) (fun h => ?_)
        · refine s_ldc (v := (nI 2147483647)) hX kX0_69 dX0_wayWith_24 ?_
          exact e_iretp hX hR dX0_wayWith_26 h
        · refine s_iload_n (k := 1) hX dX0_wayWith_20 rfl rfl ?_
          refine e_if_ge (tgt := 27) hX dX0_wayWith_21 (by decide) z_ge h (fun h => ?_) (fun h => ?_)
          · refine s_iload_n (k := 1) hX dX0_wayWith_27 rfl rfl ?_
            refine s_iconst (v := (nI 1)) hX dX0_wayWith_28 (by decide) ?_
            refine s_iload_n (k := 3) hX dX0_wayWith_29 rfl rfl ?_
            refine e_ishl hX dX0_wayWith_30 ?_
            refine s_ior hX dX0_wayWith_31 ?_
            refine e_bnd h (fun x_1 h => ?_)
            refine s_istore (lv' := [(0, .ref (ad 37)), (1, .int v1), (2, .int v2), (3, .int v3), (4, .int x_1)]) hX dX0_wayWith_32 (by decide) rfl ?_
            refine s_iload (k := 4) hX dX0_wayWith_34 rfl ?_
            refine s_iload_n (k := 1) hX dX0_wayWith_36 rfl rfl ?_
            refine e_icmp_eq (tgt := 48) hX dX0_wayWith_37 (by decide) r_eq h (fun h => ?_) (fun h => ?_)
            · refine s_ldc (v := (nI 2147483647)) hX kX0_69 dX0_wayWith_48 ?_
              exact e_iretp hX hR dX0_wayWith_50 h
            · refine s_iload (k := 4) hX dX0_wayWith_40 rfl ?_
              refine s_sipush (v := (nI 128)) hX dX0_wayWith_42 (by decide) ?_
              refine e_icmp_lt (tgt := 51) hX dX0_wayWith_45 (by decide) (m_lt (by decide +kernel)) h (fun h => ?_) (fun h => ?_)
              · refine s_aload_n (k := 0) hX dX0_wayWith_51 rfl rfl ?_
                refine s_get hX fX0_21 oC37 rfl dX0_wayWith_52 ?_
                refine s_iload_n (k := 2) hX dX0_wayWith_55 rfl rfl ?_
                refine s_bipush (v := (nI 7)) hX dX0_wayWith_56 (by decide) ?_
                refine s_imul hX dX0_wayWith_58 ?_
                refine s_iload_n (k := 3) hX dX0_wayWith_59 rfl rfl ?_
                refine s_iadd hX dX0_wayWith_60 ?_
                refine e_iald hX aC41 dX0_wayWith_61 h (fun h => ?_)
                refine s_aload_n (k := 0) hX dX0_wayWith_62 rfl rfl ?_
                refine s_get hX fX0_24 oC37 rfl dX0_wayWith_63 ?_
                refine s_iload (k := 4) hX dX0_wayWith_66 rfl ?_
                refine e_iald hX aC42 dX0_wayWith_68 h (fun h => ?_)
                refine s_iadd hX dX0_wayWith_69 ?_
                exact e_iretp hX hR dX0_wayWith_70 h
              · refine s_ldc (v := (nI 2147483647)) hX kX0_69 dX0_wayWith_48 ?_
                exact e_iretp hX hR dX0_wayWith_50 h
          · refine s_ldc (v := (nI 2147483647)) hX kX0_69 dX0_wayWith_24 ?_
            exact e_iretp hX hR dX0_wayWith_26 h
set_option maxHeartbeats 4000000 in
theorem t_X0_fewestBehind (v1 : Int32) (v2 : Int32) (M : Mem) : AXp yX0_fewestBehind cX0_fewestBehind 6 (some .int) 1 60 glC (fun ad => [.ref (ad 37), .int v1, .int v2]) M (f_X0_fewestBehind M v1 v2) := by
  intro r0 h
  refine AM.of (by decide) (fun _ => Nat.le_of_ble_eq_true rfl) (fun X ad cI cZ cB hX hR => ?_)
  show V X M [(0, .ref (ad 37)), (1, .int v1), (2, .int v2)] [] 0
  refine s_iload_n (k := 2) hX dX0_fewestBehind_0 rfl rfl ?_
  refine e_callSp hX (t_J6_bitCount_0f7a4 v2 M) mJ6_bitCount_0f7a4 lX0_64 (by decide) (by decide) rfl rfl (Nat.le_of_ble_eq_true rfl) dX0_fewestBehind_1 h (fun r_1 h => ?_)
  refine s_istore_n (lv' := [(0, .ref (ad 37)), (1, .int v1), (2, .int v2), (3, .int r_1)]) hX dX0_fewestBehind_4 rfl (by decide) rfl ?_
  refine s_iload_n (k := 3) hX dX0_fewestBehind_5 rfl rfl ?_
  refine s_iload_n (k := 1) hX dX0_fewestBehind_6 rfl rfl ?_
  refine e_icmp_lt (tgt := 12) hX dX0_fewestBehind_7 (by decide) r_lt h (fun h => ?_) (fun h => ?_)
  · refine s_ldc (v := (nI 2147483647)) hX kX0_69 dX0_fewestBehind_12 ?_
    refine s_istore (lv' := [(0, .ref (ad 37)), (1, .int v1), (2, .int v2), (3, .int r_1), (4, .int (nI 2147483647))]) hX dX0_fewestBehind_14 (by decide) rfl ?_
    refine s_iconst (v := (nI 0)) hX dX0_fewestBehind_16 (by decide) ?_
    refine s_istore (lv' := [(0, .ref (ad 37)), (1, .int v1), (2, .int v2), (3, .int r_1), (4, .int (nI 2147483647)), (5, .int (nI 0))]) hX dX0_fewestBehind_17 (by decide) rfl ?_
    have lp19 : ∀ (N19 : Nat) (y4_19 : Int32) (y5_19 : Int32), wlp2 (f_X0_fewestBehind_B19 M v1 v2 r_1) N19 y4_19 y5_19 = some r0 → V X M [(0, .ref (ad 37)), (1, .int v1), (2, .int v2), (3, .int r_1), (4, .int y4_19), (5, .int y5_19)] [] 19 := by
      intro N19
      induction N19 with
      | zero => exact fun _ _ h => e_none h
      | succ N19 ih19 =>
        intro y4_19 y5_19 h
        replace h : f_X0_fewestBehind_B19 M v1 v2 r_1 (wlp2 (f_X0_fewestBehind_B19 M v1 v2 r_1) N19) y4_19 y5_19 = some r0 := h
        generalize wlp2 (f_X0_fewestBehind_B19 M v1 v2 r_1) N19 = ag19 at ih19 h
        refine s_iload (k := 5) hX dX0_fewestBehind_19 rfl ?_
        refine s_iload_n (k := 1) hX dX0_fewestBehind_21 rfl rfl ?_
        refine e_icmp_ge (tgt := 53) hX dX0_fewestBehind_22 (by decide) r_le h (fun h => ?_) (fun h => ?_)
        · refine s_iload (k := 4) hX dX0_fewestBehind_53 rfl ?_
          exact e_iretp hX hR dX0_fewestBehind_55 h
        · refine s_iload (k := 5) hX dX0_fewestBehind_25 rfl ?_
          refine s_bipush (v := (nI 7)) hX dX0_fewestBehind_27 (by decide) ?_
          refine e_icmp_ge (tgt := 53) hX dX0_fewestBehind_29 (by decide) (m_ge (by decide +kernel)) h (fun h => ?_) (fun h => ?_)
          · refine s_iload (k := 4) hX dX0_fewestBehind_53 rfl ?_
            exact e_iretp hX hR dX0_fewestBehind_55 h
          · refine s_iload (k := 4) hX dX0_fewestBehind_32 rfl ?_
            refine s_aload_n (k := 0) hX dX0_fewestBehind_34 rfl rfl ?_
            refine s_iload_n (k := 2) hX dX0_fewestBehind_35 rfl rfl ?_
            refine s_iload_n (k := 3) hX dX0_fewestBehind_36 rfl rfl ?_
            refine s_iload (k := 5) hX dX0_fewestBehind_37 rfl ?_
            refine e_callVp hX (t_X0_wayWith v2 r_1 y5_19 M) mX0_wayWith lX0_70 (by decide) (by decide) oC37 rfl rfl rfl rfl rfl (Nat.le_of_ble_eq_true rfl) dX0_fewestBehind_39 h (fun r_2 h => ?_)
            refine e_mmin hX lX0_42 mJ9_min (by omega) (Nat.le_of_ble_eq_true rfl) dX0_fewestBehind_42 ?_
            refine e_bnd h (fun x_3 h => ?_)
            refine s_istore (lv' := [(0, .ref (ad 37)), (1, .int v1), (2, .int v2), (3, .int r_1), (5, .int y5_19), (4, .int x_3)]) hX dX0_fewestBehind_45 (by decide) rfl ?_
            refine s_iinc (k := 4) (v := (y5_19 + (nI 1))) (lv' := [(0, .ref (ad 37)), (1, .int v1), (2, .int v2), (3, .int r_1), (4, .int x_3), (5, .int (y5_19 + (nI 1)))]) hX dX0_fewestBehind_47 (congrArg (fun z => y5_19 + z) (by decide)) (by decide) rfl rfl ?_
            refine s_goto (tgt := 19) hX dX0_fewestBehind_50 (by decide) ?_
            exact ih19 x_3 (y5_19 + (nI 1)) h
    exact lp19 FU (nI 2147483647) (nI 0) h
  · refine s_iconst (v := (nI 0)) hX dX0_fewestBehind_10 (by decide) ?_
    exact e_iretp hX hR dX0_fewestBehind_11 h
set_option maxHeartbeats 4000000 in
theorem t_X2_nextTold (b : Nat) (hb : isF b) (v1 : Int32) (M : Mem) : AXp yX2_nextTold cX2_nextTold 3 (some .int) 1 60 glC (fun ad => [.ref (ad b), .int v1]) M (f_X2_nextTold b M v1) := by
  intro r0 h
  refine AM.of (by decide) (fun _ => Nat.le_of_ble_eq_true rfl) (fun X ad cI cZ cB hX hR => ?_)
  show V X M [(0, .ref (ad b)), (1, .int v1)] [] 0
  refine s_iload_n (k := 1) hX dX2_nextTold_0 rfl rfl ?_
  refine s_iconst (v := (nI 0)) hX dX2_nextTold_1 (by decide) ?_
  refine e_mmax hX lX2_39 mJ9_max (by omega) (Nat.le_of_ble_eq_true rfl) dX2_nextTold_2 ?_
  refine e_bnd h (fun x_1 h => ?_)
  refine s_istore_n (lv' := [(0, .ref (ad b)), (1, .int v1), (2, .int x_1)]) hX dX2_nextTold_5 rfl (by decide) rfl ?_
  have lp6 : ∀ (N6 : Nat) (y2_6 : Int32), wlp1 (f_X2_nextTold_B6 b M) N6 y2_6 = some r0 → V X M [(0, .ref (ad b)), (2, .int y2_6)] [] 6 := by
    intro N6
    induction N6 with
    | zero => exact fun _ h => e_none h
    | succ N6 ih6 =>
      intro y2_6 h
      replace h : f_X2_nextTold_B6 b M (wlp1 (f_X2_nextTold_B6 b M) N6) y2_6 = some r0 := h
      generalize wlp1 (f_X2_nextTold_B6 b M) N6 = ag6 at ih6 h
      refine s_iload_n (k := 1) hX dX2_nextTold_6 rfl rfl ?_
      refine s_bipush (v := (nI 40)) hX dX2_nextTold_7 (by decide) ?_
      refine e_icmp_ge (tgt := 29) hX dX2_nextTold_9 (by decide) (m_ge (by decide +kernel)) h (fun h => ?_) (fun h => ?_)
      · refine s_iconst (v := (-1)) hX dX2_nextTold_29 (by decide) ?_
        exact e_iretp hX hR dX2_nextTold_30 h
      · refine s_aload_n (k := 0) hX dX2_nextTold_12 rfl rfl ?_
        refine s_get hX fX2_21 (oF hb) rfl dX2_nextTold_13 ?_
        refine s_iload_n (k := 1) hX dX2_nextTold_16 rfl rfl ?_
        refine e_zald hX (aF4 hb) dX2_nextTold_17 h (fun h => ?_)
        refine e_if_eq (tgt := 23) hX dX2_nextTold_18 (by decide) z_eq h (fun h => ?_) (fun h => ?_)
        · refine s_iinc (k := 1) (v := (y2_6 + (nI 1))) (lv' := [(0, .ref (ad b)), (2, .int (y2_6 + (nI 1)))]) hX dX2_nextTold_23 (congrArg (fun z => y2_6 + z) (by decide)) (by decide) rfl rfl ?_
          refine s_goto (tgt := 6) hX dX2_nextTold_26 (by decide) ?_
          exact ih6 (y2_6 + (nI 1)) h
        · refine s_iload_n (k := 1) hX dX2_nextTold_21 rfl rfl ?_
          exact e_iretp hX hR dX2_nextTold_22 h
  refine s_loc [0, 2] rfl ?_
  exact lp6 FU x_1 h
set_option maxHeartbeats 4000000 in
theorem t_X2_isTold (b : Nat) (hb : isF b) (v1 : Int32) (M : Mem) : AXp yX2_isTold cX2_isTold 2 (some .boolean) 0 60 glC (fun ad => [.ref (ad b), .int v1]) M (f_X2_isTold b M v1) := by
  intro r0 h
  refine AM.of (by decide) (fun _ => Nat.le_of_ble_eq_true rfl) (fun X ad cI cZ cB hX hR => ?_)
  show V X M [(0, .ref (ad b)), (1, .int v1)] [] 0
  refine s_iload_n (k := 1) hX dX2_isTold_0 rfl rfl ?_
  refine e_if_lt (tgt := 23) hX dX2_isTold_1 (by decide) z_lt h (fun h => ?_) (fun h => ?_)
  · refine s_iconst (v := (nI 0)) hX dX2_isTold_23 (by decide) ?_
    exact e_zretpL hX hR dX2_isTold_24 (by decide) h
  · refine s_iload_n (k := 1) hX dX2_isTold_4 rfl rfl ?_
    refine s_bipush (v := (nI 40)) hX dX2_isTold_5 (by decide) ?_
    refine e_icmp_ge (tgt := 23) hX dX2_isTold_7 (by decide) (m_ge (by decide +kernel)) h (fun h => ?_) (fun h => ?_)
    · refine s_iconst (v := (nI 0)) hX dX2_isTold_23 (by decide) ?_
      exact e_zretpL hX hR dX2_isTold_24 (by decide) h
    · refine s_aload_n (k := 0) hX dX2_isTold_10 rfl rfl ?_
      refine s_get hX fX2_21 (oF hb) rfl dX2_isTold_11 ?_
      refine s_iload_n (k := 1) hX dX2_isTold_14 rfl rfl ?_
      refine e_zald hX (aF4 hb) dX2_isTold_15 h (fun h => ?_)
      refine e_if_eq (tgt := 23) hX dX2_isTold_16 (by decide) z_eq h (fun h => ?_) (fun h => ?_)
      · refine s_iconst (v := (nI 0)) hX dX2_isTold_23 (by decide) ?_
        exact e_zretpL hX hR dX2_isTold_24 (by decide) h
      · refine s_iconst (v := (nI 1)) hX dX2_isTold_19 (by decide) ?_
        refine s_goto (tgt := 24) hX dX2_isTold_20 (by decide) ?_
        exact e_zretpL hX hR dX2_isTold_24 (by decide) h
set_option maxHeartbeats 4000000 in
theorem t_X0_measure (b : Nat) (hb : isF b) (v2 : Int32) (v3 : Int32) (M : Mem) : AXv yX0_measure cX0_measure 6 none 1 60 glC (fun ad => [.ref (ad 37), .ref (ad b), .int v2, .int v3]) M (f_X0_measure b M v2 v3) := by
  intro r0 h
  refine AM.of (by decide) (fun _ => Nat.le_of_ble_eq_true rfl) (fun X ad cI cZ cB hX hR => ?_)
  show V X M [(0, .ref (ad 37)), (1, .ref (ad b)), (2, .int v2), (3, .int v3)] [] 0
  refine s_iload_n (k := 3) hX dX0_measure_0 rfl rfl ?_
  refine e_if_lt (tgt := 23) hX dX0_measure_1 (by decide) z_lt h (fun h => ?_) (fun h => ?_)
  · exact e_vret hX hR dX0_measure_23 h
  · refine s_iload_n (k := 3) hX dX0_measure_4 rfl rfl ?_
    refine s_bipush (v := (nI 7)) hX dX0_measure_5 (by decide) ?_
    refine e_icmp_ge (tgt := 23) hX dX0_measure_7 (by decide) (m_ge (by decide +kernel)) h (fun h => ?_) (fun h => ?_)
    · exact e_vret hX hR dX0_measure_23 h
    · refine s_aload_n (k := 1) hX dX0_measure_10 rfl rfl ?_
      refine s_aload_n (k := 0) hX dX0_measure_11 rfl rfl ?_
      refine s_get hX fX0_18 oC37 rfl dX0_measure_12 ?_
      refine s_iload_n (k := 3) hX dX0_measure_15 rfl rfl ?_
      refine e_iald hX aC40 dX0_measure_16 h (fun h => ?_)
      refine e_callVp hX (t_X2_isTold b hb (M 40 (ix v3)) M) mX2_isTold lX0_51 (by decide) (by decide) (oF hb) rfl rfl rfl rfl rfl (Nat.le_of_ble_eq_true rfl) dX0_measure_17 h (fun r_1 h => ?_)
      refine e_if_ne (tgt := 24) hX dX0_measure_20 (by decide) z_eq h (fun h => ?_) (fun h => ?_)
      · refine s_aload_n (k := 0) hX dX0_measure_24 rfl rfl ?_
        refine s_get hX fX0_18 oC37 rfl dX0_measure_25 ?_
        refine s_iload_n (k := 3) hX dX0_measure_28 rfl rfl ?_
        refine e_iald hX aC40 dX0_measure_29 h (fun h => ?_)
        refine e_bnd h (fun x_2 h => ?_)
        refine s_istore (lv' := [(0, .ref (ad 37)), (1, .ref (ad b)), (2, .int v2), (3, .int v3), (4, .int x_2)]) hX dX0_measure_30 (by decide) rfl ?_
        refine s_iconst (v := (nI 0)) hX dX0_measure_32 (by decide) ?_
        refine s_istore (lv' := [(0, .ref (ad 37)), (1, .ref (ad b)), (2, .int v2), (3, .int v3), (4, .int x_2), (5, .int (nI 0))]) hX dX0_measure_33 (by decide) rfl ?_
        have lp35 : ∀ (N35 : Nat) (M35 : Mem) (y5_35 : Int32), wlp2 (f_X0_measure_B35 b v2 v3 x_2) N35 M35 y5_35 = some r0 → V X M35 [(0, .ref (ad 37)), (1, .ref (ad b)), (2, .int v2), (3, .int v3), (4, .int x_2), (5, .int y5_35)] [] 35 := by
          intro N35
          induction N35 with
          | zero => exact fun _ _ h => e_none h
          | succ N35 ih35 =>
            intro M35 y5_35 h
            replace h : f_X0_measure_B35 b v2 v3 x_2 (wlp2 (f_X0_measure_B35 b v2 v3 x_2) N35) M35 y5_35 = some r0 := h
            generalize wlp2 (f_X0_measure_B35 b v2 v3 x_2) N35 = ag35 at ih35 h
            refine s_iload (k := 5) hX dX0_measure_35 rfl ?_
            refine s_iload_n (k := 2) hX dX0_measure_37 rfl rfl ?_
            refine e_icmp_ge (tgt := 103) hX dX0_measure_38 (by decide) r_le h (fun h => ?_) (fun h => ?_)
            · exact e_vret hX hR dX0_measure_103 h
            · refine s_iload (k := 5) hX dX0_measure_41 rfl ?_
              refine s_bipush (v := (nI 7)) hX dX0_measure_43 (by decide) ?_
              refine e_icmp_ge (tgt := 103) hX dX0_measure_45 (by decide) (m_ge (by decide +kernel)) h (fun h => ?_) (fun h => ?_)
              · exact e_vret hX hR dX0_measure_103 h
              · refine s_aload_n (k := 0) hX dX0_measure_48 rfl rfl ?_
                refine s_get hX fX0_21 oC37 rfl dX0_measure_49 ?_
                refine s_iload (k := 5) hX dX0_measure_52 rfl ?_
                refine s_bipush (v := (nI 7)) hX dX0_measure_54 (by decide) ?_
                refine s_imul hX dX0_measure_56 ?_
                refine s_iload_n (k := 3) hX dX0_measure_57 rfl rfl ?_
                refine s_iadd hX dX0_measure_58 ?_
                refine s_aload_n (k := 1) hX dX0_measure_59 rfl rfl ?_
                refine s_get hX fX0_55 (oF hb) rfl dX0_measure_60 ?_
                refine s_iload (k := 4) hX dX0_measure_63 rfl ?_
                refine e_iald hX (aF1 hb) dX0_measure_65 h (fun h => ?_)
                refine s_aload_n (k := 0) hX dX0_measure_66 rfl rfl ?_
                refine s_get hX fX0_9 oC37 rfl dX0_measure_67 ?_
                refine s_iload (k := 5) hX dX0_measure_70 rfl ?_
                refine e_iald hX aC38 dX0_measure_72 h (fun h => ?_)
                refine s_isub hX dX0_measure_73 ?_
                refine e_mabs hX lX0_58 mJ9_abs (by omega) (Nat.le_of_ble_eq_true rfl) dX0_measure_74 ?_
                refine s_aload_n (k := 1) hX dX0_measure_77 rfl rfl ?_
                refine s_get hX fX0_61 (oF hb) rfl dX0_measure_78 ?_
                refine s_iload (k := 4) hX dX0_measure_81 rfl ?_
                refine e_iald hX (aF2 hb) dX0_measure_83 h (fun h => ?_)
                refine s_aload_n (k := 0) hX dX0_measure_84 rfl rfl ?_
                refine s_get hX fX0_15 oC37 rfl dX0_measure_85 ?_
                refine s_iload (k := 5) hX dX0_measure_88 rfl ?_
                refine e_iald hX aC39 dX0_measure_90 h (fun h => ?_)
                refine s_isub hX dX0_measure_91 ?_
                refine e_mabs hX lX0_58 mJ9_abs (by omega) (Nat.le_of_ble_eq_true rfl) dX0_measure_92 ?_
                refine s_iadd hX dX0_measure_95 ?_
                refine e_iast hX aC41 dX0_measure_96 h (fun h => ?_)
                refine e_bndM h (fun M_3 h => ?_)
                refine s_iinc (k := 5) (v := (y5_35 + (nI 1))) (lv' := [(0, .ref (ad 37)), (1, .ref (ad b)), (2, .int v2), (3, .int v3), (4, .int x_2), (5, .int (y5_35 + (nI 1)))]) hX dX0_measure_97 (congrArg (fun z => y5_35 + z) (by decide)) (by decide) rfl rfl ?_
                refine s_goto (tgt := 35) hX dX0_measure_100 (by decide) ?_
                exact ih35 M_3 (y5_35 + (nI 1)) h
        exact lp35 FU M (nI 0) h
      · exact e_vret hX hR dX0_measure_23 h
set_option maxHeartbeats 4000000 in
theorem t_X0_match (b : Nat) (hb : isF b) (v2 : Int32) (M : Mem) : AXv yX0_match cX0_match 5 none 2 60 glC (fun ad => [.ref (ad 37), .ref (ad b), .int v2]) M (f_X0_match b M v2) := by
  intro r0 h
  refine AM.of (by decide) (fun _ => Nat.le_of_ble_eq_true rfl) (fun X ad cI cZ cB hX hR => ?_)
  show V X M [(0, .ref (ad 37)), (1, .ref (ad b)), (2, .int v2)] [] 0
  refine s_iconst (v := (nI 0)) hX dX0_match_0 (by decide) ?_
  refine s_istore_n (lv' := [(0, .ref (ad 37)), (1, .ref (ad b)), (2, .int v2), (3, .int (nI 0))]) hX dX0_match_1 rfl (by decide) rfl ?_
  refine s_iconst (v := (nI 0)) hX dX0_match_2 (by decide) ?_
  refine s_istore (lv' := [(0, .ref (ad 37)), (1, .ref (ad b)), (2, .int v2), (3, .int (nI 0)), (4, .int (nI 0))]) hX dX0_match_3 (by decide) rfl ?_
  have lp5 : ∀ (N5 : Nat) (M5 : Mem) (y3_5 : Int32) (y4_5 : Int32), wlp3 (f_X0_match_B5 b v2) N5 M5 y3_5 y4_5 = some r0 → V X M5 [(0, .ref (ad 37)), (1, .ref (ad b)), (2, .int v2), (3, .int y3_5), (4, .int y4_5)] [] 5 := by
    intro N5
    induction N5 with
    | zero => exact fun _ _ _ h => e_none h
    | succ N5 ih5 =>
      intro M5 y3_5 y4_5 h
      replace h : f_X0_match_B5 b v2 (wlp3 (f_X0_match_B5 b v2) N5) M5 y3_5 y4_5 = some r0 := h
      generalize wlp3 (f_X0_match_B5 b v2) N5 = ag5 at ih5 h
      refine s_iload (k := 4) hX dX0_match_5 rfl ?_
      refine s_iload_n (k := 2) hX dX0_match_7 rfl rfl ?_
      have j54 : f_X0_match_L54 v2 M5 = some r0 → V X M5 [(0, .ref (ad 37)), (2, .int v2)] [] 54 := by
        intro  h
        refine s_iconst (v := (nI 1)) hX dX0_match_54 (by decide) ?_
        refine s_iload_n (k := 1) hX dX0_match_55 rfl rfl ?_
        refine e_ishl hX dX0_match_56 ?_
        refine s_sipush (v := (nI 128)) hX dX0_match_57 (by decide) ?_
        refine e_mmin hX lX0_42 mJ9_min (by omega) (Nat.le_of_ble_eq_true rfl) dX0_match_60 ?_
        refine s_iconst (v := (nI 1)) hX dX0_match_63 (by decide) ?_
        refine s_isub hX dX0_match_64 ?_
        refine e_bnd h (fun x_1 h => ?_)
        refine s_istore (lv' := [(0, .ref (ad 37)), (2, .int v2), (4, .int x_1)]) hX dX0_match_65 (by decide) rfl ?_
        have lp67 : ∀ (N67 : Nat) (M67 : Mem) (y4_67 : Int32), wlp2 (f_X0_match_B67 v2) N67 M67 y4_67 = some r0 → V X M67 [(0, .ref (ad 37)), (2, .int v2), (4, .int y4_67)] [] 67 := by
          intro N67
          induction N67 with
          | zero => exact fun _ _ h => e_none h
          | succ N67 ih67 =>
            intro M67 y4_67 h
            replace h : f_X0_match_B67 v2 (wlp2 (f_X0_match_B67 v2) N67) M67 y4_67 = some r0 := h
            generalize wlp2 (f_X0_match_B67 v2) N67 = ag67 at ih67 h
            refine s_iload (k := 2) hX dX0_match_67 rfl ?_
            refine e_if_lt (tgt := 92) hX dX0_match_69 (by decide) z_lt h (fun h => ?_) (fun h => ?_)
            · exact e_vret hX hR dX0_match_92 h
            · refine s_aload_n (k := 0) hX dX0_match_72 rfl rfl ?_
              refine s_get hX fX0_24 oC37 rfl dX0_match_73 ?_
              refine s_iload (k := 2) hX dX0_match_76 rfl ?_
              refine s_aload_n (k := 0) hX dX0_match_78 rfl rfl ?_
              refine s_iload_n (k := 1) hX dX0_match_79 rfl rfl ?_
              refine s_iload (k := 2) hX dX0_match_80 rfl ?_
              refine e_callVp hX (t_X0_fewestBehind v2 y4_67 M67) mX0_fewestBehind lX0_48 (by decide) (by decide) oC37 rfl rfl rfl rfl rfl (Nat.le_of_ble_eq_true rfl) dX0_match_82 h (fun r_2 h => ?_)
              refine e_iast hX aC42 dX0_match_85 h (fun h => ?_)
              refine e_bndM h (fun M_3 h => ?_)
              refine s_iinc (k := 2) (v := (y4_67 + (-1))) (lv' := [(0, .ref (ad 37)), (2, .int v2), (4, .int (y4_67 + (-1)))]) hX dX0_match_86 (congrArg (fun z => y4_67 + z) (by decide)) (by decide) rfl rfl ?_
              refine s_goto (tgt := 67) hX dX0_match_89 (by decide) ?_
              exact ih67 M_3 (y4_67 + (-1)) h
        exact lp67 FU M5 x_1 h
      refine e_icmp_ge (tgt := 54) hX dX0_match_8 (by decide) r_le h (fun h => ?_) (fun h => ?_)
      · refine s_loc [0, 2] rfl ?_
        exact j54 h
      · refine s_iload (k := 4) hX dX0_match_11 rfl ?_
        refine s_bipush (v := (nI 7)) hX dX0_match_13 (by decide) ?_
        refine e_icmp_ge (tgt := 54) hX dX0_match_15 (by decide) (m_ge (by decide +kernel)) h (fun h => ?_) (fun h => ?_)
        · refine s_loc [0, 2] rfl ?_
          exact j54 h
        · refine s_aload_n (k := 0) hX dX0_match_18 rfl rfl ?_
          refine s_get hX fX0_18 oC37 rfl dX0_match_19 ?_
          refine s_iload (k := 4) hX dX0_match_22 rfl ?_
          refine s_aload_n (k := 1) hX dX0_match_24 rfl rfl ?_
          refine s_iload_n (k := 3) hX dX0_match_25 rfl rfl ?_
          refine e_callVp hX (t_X2_nextTold b hb y3_5 M5) mX2_nextTold lX0_33 (by decide) (by decide) (oF hb) rfl rfl rfl rfl rfl (Nat.le_of_ble_eq_true rfl) dX0_match_26 h (fun r_4 h => ?_)
          refine e_iast hX aC40 dX0_match_29 h (fun h => ?_)
          refine e_bndM h (fun M_5 h => ?_)
          refine s_aload_n (k := 0) hX dX0_match_30 rfl rfl ?_
          refine s_get hX fX0_18 oC37 rfl dX0_match_31 ?_
          refine s_iload (k := 4) hX dX0_match_34 rfl ?_
          refine e_iald hX aC40 dX0_match_36 h (fun h => ?_)
          refine s_iconst (v := (nI 1)) hX dX0_match_37 (by decide) ?_
          refine s_iadd hX dX0_match_38 ?_
          refine e_bnd h (fun x_6 h => ?_)
          refine s_istore_n (lv' := [(0, .ref (ad 37)), (1, .ref (ad b)), (2, .int v2), (4, .int y4_5), (3, .int x_6)]) hX dX0_match_39 rfl (by decide) rfl ?_
          refine s_aload_n (k := 0) hX dX0_match_40 rfl rfl ?_
          refine s_aload_n (k := 1) hX dX0_match_41 rfl rfl ?_
          refine s_iload_n (k := 2) hX dX0_match_42 rfl rfl ?_
          refine s_iload (k := 3) hX dX0_match_43 rfl ?_
          refine e_callVv hX (t_X0_measure b hb v2 y4_5 M_5) mX0_measure lX0_38 (by decide) (by decide) oC37 rfl rfl rfl rfl rfl (Nat.le_of_ble_eq_true rfl) dX0_match_45 h (fun M_7 h => ?_)
          refine s_iinc (k := 3) (v := (y4_5 + (nI 1))) (lv' := [(0, .ref (ad 37)), (1, .ref (ad b)), (2, .int v2), (3, .int x_6), (4, .int (y4_5 + (nI 1)))]) hX dX0_match_48 (congrArg (fun z => y4_5 + z) (by decide)) (by decide) rfl rfl ?_
          refine s_goto (tgt := 5) hX dX0_match_51 (by decide) ?_
          exact ih5 M_7 x_6 (y4_5 + (nI 1)) h
  exact lp5 FU M (nI 0) (nI 0) h
set_option maxHeartbeats 4000000 in
theorem t_X7_byteAt (v1 : Int32) (M : Mem) : AXp yX7_byteAt cX7_byteAt 2 (some .int) 0 60 glC (fun ad => [.ref (ad 19), .int v1]) M (f_X7_byteAt M v1) := by
  intro r0 h
  refine AM.of (by decide) (fun _ => Nat.le_of_ble_eq_true rfl) (fun X ad cI cZ cB hX hR => ?_)
  show V X M [(0, .ref (ad 19)), (1, .int v1)] [] 0
  refine s_iload_n (k := 1) hX dX7_byteAt_0 rfl rfl ?_
  refine e_if_lt (tgt := 28) hX dX7_byteAt_1 (by decide) z_lt h (fun h => ?_) (fun h => ?_)
  · refine s_iconst (v := (-1)) hX dX7_byteAt_28 (by decide) ?_
    exact e_iretp hX hR dX7_byteAt_29 h
  · refine s_iload_n (k := 1) hX dX7_byteAt_4 rfl rfl ?_
    refine s_aload_n (k := 0) hX dX7_byteAt_5 rfl rfl ?_
    refine s_get hX fX7_19 oC19 rfl dX7_byteAt_6 ?_
    refine e_icmp_ge (tgt := 28) hX dX7_byteAt_9 (by decide) r_le h (fun h => ?_) (fun h => ?_)
    · refine s_iconst (v := (-1)) hX dX7_byteAt_28 (by decide) ?_
      exact e_iretp hX hR dX7_byteAt_29 h
    · refine s_iload_n (k := 1) hX dX7_byteAt_12 rfl rfl ?_
      refine s_sipush (v := (nI 260)) hX dX7_byteAt_13 (by decide) ?_
      refine e_icmp_ge (tgt := 28) hX dX7_byteAt_16 (by decide) (m_ge (by decide +kernel)) h (fun h => ?_) (fun h => ?_)
      · refine s_iconst (v := (-1)) hX dX7_byteAt_28 (by decide) ?_
        exact e_iretp hX hR dX7_byteAt_29 h
      · refine s_aload_n (k := 0) hX dX7_byteAt_19 rfl rfl ?_
        refine s_get hX fX7_9 oC19 rfl dX7_byteAt_20 ?_
        refine s_iload_n (k := 1) hX dX7_byteAt_23 rfl rfl ?_
        refine e_iald hX aC20 dX7_byteAt_24 h (fun h => ?_)
        refine s_goto (tgt := 29) hX dX7_byteAt_25 (by decide) ?_
        exact e_iretp hX hR dX7_byteAt_29 h
set_option maxHeartbeats 4000000 in
theorem t_X0_read (v2 : Int32) (M : Mem) : AXi yX0_read cX0_read 4 (some .boolean) 1 60 glC (fun ad => [.ref (ad 37), .ref (ad 19), .int v2]) M (f_X0_read M v2) := by
  intro r0 h
  refine AM.of (by decide) (fun _ => Nat.le_of_ble_eq_true rfl) (fun X ad cI cZ cB hX hR => ?_)
  show V X M [(0, .ref (ad 37)), (1, .ref (ad 19)), (2, .int v2)] [] 0
  refine s_iconst (v := (nI 0)) hX dX0_read_0 (by decide) ?_
  refine s_istore_n (lv' := [(0, .ref (ad 37)), (1, .ref (ad 19)), (2, .int v2), (3, .int (nI 0))]) hX dX0_read_1 rfl (by decide) rfl ?_
  have lp2 : ∀ (N2 : Nat) (M2 : Mem) (y3_2 : Int32), wlp2 (f_X0_read_B2 v2) N2 M2 y3_2 = some r0 → V X M2 [(0, .ref (ad 37)), (1, .ref (ad 19)), (2, .int v2), (3, .int y3_2)] [] 2 := by
    intro N2
    induction N2 with
    | zero => exact fun _ _ h => e_none h
    | succ N2 ih2 =>
      intro M2 y3_2 h
      replace h : f_X0_read_B2 v2 (wlp2 (f_X0_read_B2 v2) N2) M2 y3_2 = some r0 := h
      generalize wlp2 (f_X0_read_B2 v2) N2 = ag2 at ih2 h
      refine s_iload_n (k := 3) hX dX0_read_2 rfl rfl ?_
      refine s_iload_n (k := 2) hX dX0_read_3 rfl rfl ?_
      refine e_icmp_ge (tgt := 71) hX dX0_read_4 (by decide) r_le h (fun h => ?_) (fun h => ?_)
      · refine s_iconst (v := (nI 1)) hX dX0_read_71 (by decide) ?_
        exact e_zretiL hX hR dX0_read_72 (by decide) h
      · refine s_iload_n (k := 3) hX dX0_read_7 rfl rfl ?_
        refine s_bipush (v := (nI 7)) hX dX0_read_8 (by decide) ?_
        refine e_icmp_ge (tgt := 71) hX dX0_read_10 (by decide) (m_ge (by decide +kernel)) h (fun h => ?_) (fun h => ?_)
        · refine s_iconst (v := (nI 1)) hX dX0_read_71 (by decide) ?_
          exact e_zretiL hX hR dX0_read_72 (by decide) h
        · refine s_aload_n (k := 0) hX dX0_read_13 rfl rfl ?_
          refine s_get hX fX0_9 oC37 rfl dX0_read_14 ?_
          refine s_iload_n (k := 3) hX dX0_read_17 rfl rfl ?_
          refine s_aload_n (k := 1) hX dX0_read_18 rfl rfl ?_
          refine s_iconst (v := (nI 2)) hX dX0_read_19 (by decide) ?_
          refine s_iload_n (k := 3) hX dX0_read_20 rfl rfl ?_
          refine s_imul hX dX0_read_21 ?_
          refine e_callVp hX (t_X7_byteAt ((nI 2) * y3_2) M2) mX7_byteAt lX0_27 (by decide) (by decide) oC19 rfl rfl rfl rfl rfl (Nat.le_of_ble_eq_true rfl) dX0_read_22 h (fun r_1 h => ?_)
          refine e_iast hX aC38 dX0_read_25 h (fun h => ?_)
          refine e_bndM h (fun M_2 h => ?_)
          refine s_aload_n (k := 0) hX dX0_read_26 rfl rfl ?_
          refine s_get hX fX0_15 oC37 rfl dX0_read_27 ?_
          refine s_iload_n (k := 3) hX dX0_read_30 rfl rfl ?_
          refine s_aload_n (k := 1) hX dX0_read_31 rfl rfl ?_
          refine s_iconst (v := (nI 2)) hX dX0_read_32 (by decide) ?_
          refine s_iload_n (k := 3) hX dX0_read_33 rfl rfl ?_
          refine s_imul hX dX0_read_34 ?_
          refine s_iconst (v := (nI 1)) hX dX0_read_35 (by decide) ?_
          refine s_iadd hX dX0_read_36 ?_
          refine e_callVp hX (t_X7_byteAt (((nI 2) * y3_2) + (nI 1)) M_2) mX7_byteAt lX0_27 (by decide) (by decide) oC19 rfl rfl rfl rfl rfl (Nat.le_of_ble_eq_true rfl) dX0_read_37 h (fun r_3 h => ?_)
          refine e_iast hX aC39 dX0_read_40 h (fun h => ?_)
          refine e_bndM h (fun M_4 h => ?_)
          refine s_aload_n (k := 0) hX dX0_read_41 rfl rfl ?_
          refine s_get hX fX0_9 oC37 rfl dX0_read_42 ?_
          refine s_iload_n (k := 3) hX dX0_read_45 rfl rfl ?_
          refine e_iald hX aC38 dX0_read_46 h (fun h => ?_)
          refine s_bipush (v := (nI 39)) hX dX0_read_47 (by decide) ?_
          refine e_icmp_gt (tgt := 63) hX dX0_read_49 (by decide) (m_gt (by decide +kernel)) h (fun h => ?_) (fun h => ?_)
          · refine s_iconst (v := (nI 0)) hX dX0_read_63 (by decide) ?_
            exact e_zretiL hX hR dX0_read_64 (by decide) h
          · refine s_aload_n (k := 0) hX dX0_read_52 rfl rfl ?_
            refine s_get hX fX0_15 oC37 rfl dX0_read_53 ?_
            refine s_iload_n (k := 3) hX dX0_read_56 rfl rfl ?_
            refine e_iald hX aC39 dX0_read_57 h (fun h => ?_)
            refine s_bipush (v := (nI 20)) hX dX0_read_58 (by decide) ?_
            refine e_icmp_le (tgt := 65) hX dX0_read_60 (by decide) (m_le (by decide +kernel)) h (fun h => ?_) (fun h => ?_)
            · refine s_iinc (k := 3) (v := (y3_2 + (nI 1))) (lv' := [(0, .ref (ad 37)), (1, .ref (ad 19)), (2, .int v2), (3, .int (y3_2 + (nI 1)))]) hX dX0_read_65 (congrArg (fun z => y3_2 + z) (by decide)) (by decide) rfl rfl ?_
              refine s_goto (tgt := 2) hX dX0_read_68 (by decide) ?_
              exact ih2 M_4 (y3_2 + (nI 1)) h
            · refine s_iconst (v := (nI 0)) hX dX0_read_63 (by decide) ?_
              exact e_zretiL hX hR dX0_read_64 (by decide) h
  exact lp2 FU M (nI 0) h
set_option maxHeartbeats 4000000 in
theorem t_X0_stoneOf (v1 : Int32) (v2 : Int32) (M : Mem) : AXp yX0_stoneOf cX0_stoneOf 7 (some .int) 1 60 glC (fun ad => [.ref (ad 37), .int v1, .int v2]) M (f_X0_stoneOf M v1 v2) := by
  intro r0 h
  refine AM.of (by decide) (fun _ => Nat.le_of_ble_eq_true rfl) (fun X ad cI cZ cB hX hR => ?_)
  show V X M [(0, .ref (ad 37)), (1, .int v1), (2, .int v2)] [] 0
  refine s_iconst (v := (nI 0)) hX dX0_stoneOf_0 (by decide) ?_
  refine s_istore_n (lv' := [(0, .ref (ad 37)), (1, .int v1), (2, .int v2), (3, .int (nI 0))]) hX dX0_stoneOf_1 rfl (by decide) rfl ?_
  refine s_iconst (v := (-1)) hX dX0_stoneOf_2 (by decide) ?_
  refine s_istore (lv' := [(0, .ref (ad 37)), (1, .int v1), (2, .int v2), (3, .int (nI 0)), (4, .int (-1))]) hX dX0_stoneOf_3 (by decide) rfl ?_
  refine s_iconst (v := (nI 0)) hX dX0_stoneOf_5 (by decide) ?_
  refine s_istore (lv' := [(0, .ref (ad 37)), (1, .int v1), (2, .int v2), (3, .int (nI 0)), (4, .int (-1)), (5, .int (nI 0))]) hX dX0_stoneOf_6 (by decide) rfl ?_
  have lp8 : ∀ (N8 : Nat) (y3_8 : Int32) (y4_8 : Int32) (y5_8 : Int32), wlp3 (f_X0_stoneOf_B8 M v1 v2) N8 y3_8 y4_8 y5_8 = some r0 → V X M [(0, .ref (ad 37)), (1, .int v1), (2, .int v2), (3, .int y3_8), (4, .int y4_8), (5, .int y5_8)] [] 8 := by
    intro N8
    induction N8 with
    | zero => exact fun _ _ _ h => e_none h
    | succ N8 ih8 =>
      intro y3_8 y4_8 y5_8 h
      replace h : f_X0_stoneOf_B8 M v1 v2 (wlp3 (f_X0_stoneOf_B8 M v1 v2) N8) y3_8 y4_8 y5_8 = some r0 := h
      generalize wlp3 (f_X0_stoneOf_B8 M v1 v2) N8 = ag8 at ih8 h
      refine s_iload (k := 5) hX dX0_stoneOf_8 rfl ?_
      refine s_iload_n (k := 2) hX dX0_stoneOf_10 rfl rfl ?_
      refine e_icmp_gt (tgt := 97) hX dX0_stoneOf_11 (by decide) r_lt h (fun h => ?_) (fun h => ?_)
      · refine s_iload (k := 4) hX dX0_stoneOf_97 rfl ?_
        exact e_iretp hX hR dX0_stoneOf_99 h
      · refine s_iload (k := 5) hX dX0_stoneOf_14 rfl ?_
        refine s_bipush (v := (nI 7)) hX dX0_stoneOf_16 (by decide) ?_
        refine e_icmp_ge (tgt := 97) hX dX0_stoneOf_18 (by decide) (m_ge (by decide +kernel)) h (fun h => ?_) (fun h => ?_)
        · refine s_iload (k := 4) hX dX0_stoneOf_97 rfl ?_
          exact e_iretp hX hR dX0_stoneOf_99 h
        · refine s_iconst (v := (nI 0)) hX dX0_stoneOf_21 (by decide) ?_
          refine s_istore (lv' := [(0, .ref (ad 37)), (1, .int v1), (2, .int v2), (3, .int y3_8), (4, .int y4_8), (5, .int y5_8), (6, .int (nI 0))]) hX dX0_stoneOf_22 (by decide) rfl ?_
          have lp24 : ∀ (N24 : Nat) (y6_24 : Int32), wlp1 (f_X0_stoneOf_B24 M v1 ag8 y3_8 y4_8 y5_8) N24 y6_24 = some r0 → V X M [(0, .ref (ad 37)), (1, .int v1), (2, .int v2), (3, .int y3_8), (4, .int y4_8), (5, .int y5_8), (6, .int y6_24)] [] 24 := by
            intro N24
            induction N24 with
            | zero => exact fun _ h => e_none h
            | succ N24 ih24 =>
              intro y6_24 h
              replace h : f_X0_stoneOf_B24 M v1 ag8 y3_8 y4_8 y5_8 (wlp1 (f_X0_stoneOf_B24 M v1 ag8 y3_8 y4_8 y5_8) N24) y6_24 = some r0 := h
              generalize wlp1 (f_X0_stoneOf_B24 M v1 ag8 y3_8 y4_8 y5_8) N24 = ag24 at ih24 h
              refine s_iload (k := 6) hX dX0_stoneOf_24 rfl ?_
              refine s_iload_n (k := 1) hX dX0_stoneOf_26 rfl rfl ?_
              refine e_icmp_ge (tgt := 91) hX dX0_stoneOf_27 (by decide) r_le h (fun h => ?_) (fun h => ?_)
              · refine s_iinc (k := 5) (v := (y5_8 + (nI 1))) (lv' := [(0, .ref (ad 37)), (1, .int v1), (2, .int v2), (3, .int y3_8), (4, .int y4_8), (6, .int y6_24), (5, .int (y5_8 + (nI 1)))]) hX dX0_stoneOf_91 (congrArg (fun z => y5_8 + z) (by decide)) (by decide) rfl rfl ?_
                refine s_goto (tgt := 8) hX dX0_stoneOf_94 (by decide) ?_
                refine s_loc [0, 1, 2, 3, 4, 6] rfl ?_
                exact ih8 y3_8 y4_8 (y5_8 + (nI 1)) h
              · refine s_iload (k := 6) hX dX0_stoneOf_30 rfl ?_
                refine s_bipush (v := (nI 7)) hX dX0_stoneOf_32 (by decide) ?_
                refine e_icmp_ge (tgt := 91) hX dX0_stoneOf_34 (by decide) (m_ge (by decide +kernel)) h (fun h => ?_) (fun h => ?_)
                · refine s_iinc (k := 5) (v := (y5_8 + (nI 1))) (lv' := [(0, .ref (ad 37)), (1, .int v1), (2, .int v2), (3, .int y3_8), (4, .int y4_8), (6, .int y6_24), (5, .int (y5_8 + (nI 1)))]) hX dX0_stoneOf_91 (congrArg (fun z => y5_8 + z) (by decide)) (by decide) rfl rfl ?_
                  refine s_goto (tgt := 8) hX dX0_stoneOf_94 (by decide) ?_
                  refine s_loc [0, 1, 2, 3, 4, 6] rfl ?_
                  exact ih8 y3_8 y4_8 (y5_8 + (nI 1)) h
                · refine s_iload_n (k := 3) hX dX0_stoneOf_37 rfl rfl ?_
                  refine e_if_lt (tgt := 85) hX dX0_stoneOf_38 (by decide) z_lt h (fun h => ?_) (fun h => ?_)
                  · refine s_iinc (k := 6) (v := (y6_24 + (nI 1))) (lv' := [(0, .ref (ad 37)), (1, .int v1), (2, .int v2), (3, .int y3_8), (4, .int y4_8), (5, .int y5_8), (6, .int (y6_24 + (nI 1)))]) hX dX0_stoneOf_85 (congrArg (fun z => y6_24 + z) (by decide)) (by decide) rfl rfl ?_
                    refine s_goto (tgt := 24) hX dX0_stoneOf_88 (by decide) ?_
                    exact ih24 (y6_24 + (nI 1)) h
                  · refine s_iload_n (k := 3) hX dX0_stoneOf_41 rfl rfl ?_
                    refine s_sipush (v := (nI 128)) hX dX0_stoneOf_42 (by decide) ?_
                    refine e_icmp_ge (tgt := 85) hX dX0_stoneOf_45 (by decide) (m_ge (by decide +kernel)) h (fun h => ?_) (fun h => ?_)
                    · refine s_iinc (k := 6) (v := (y6_24 + (nI 1))) (lv' := [(0, .ref (ad 37)), (1, .int v1), (2, .int v2), (3, .int y3_8), (4, .int y4_8), (5, .int y5_8), (6, .int (y6_24 + (nI 1)))]) hX dX0_stoneOf_85 (congrArg (fun z => y6_24 + z) (by decide)) (by decide) rfl rfl ?_
                      refine s_goto (tgt := 24) hX dX0_stoneOf_88 (by decide) ?_
                      exact ih24 (y6_24 + (nI 1)) h
                    · refine s_aload_n (k := 0) hX dX0_stoneOf_48 rfl rfl ?_
                      refine s_iload_n (k := 3) hX dX0_stoneOf_49 rfl rfl ?_
                      refine s_iload (k := 5) hX dX0_stoneOf_50 rfl ?_
                      refine s_iload (k := 6) hX dX0_stoneOf_52 rfl ?_
                      refine e_callVp hX (t_X0_wayWith y3_8 y5_8 y6_24 M) mX0_wayWith lX0_70 (by decide) (by decide) oC37 rfl rfl rfl rfl rfl (Nat.le_of_ble_eq_true rfl) dX0_stoneOf_54 h (fun r_1 h => ?_)
                      refine s_aload_n (k := 0) hX dX0_stoneOf_57 rfl rfl ?_
                      refine s_get hX fX0_24 oC37 rfl dX0_stoneOf_58 ?_
                      refine s_iload_n (k := 3) hX dX0_stoneOf_61 rfl rfl ?_
                      refine e_iald hX aC42 dX0_stoneOf_62 h (fun h => ?_)
                      have j66 : f_X0_stoneOf_L66 M ag8 y3_8 y5_8 y6_24 = some r0 → V X M [(0, .ref (ad 37)), (1, .int v1), (2, .int v2), (3, .int y3_8), (5, .int y5_8), (6, .int y6_24)] [] 66 := by
                        intro  h
                        refine s_aload_n (k := 0) hX dX0_stoneOf_66 rfl rfl ?_
                        refine s_get hX fX0_18 oC37 rfl dX0_stoneOf_67 ?_
                        refine s_iload (k := 5) hX dX0_stoneOf_70 rfl ?_
                        refine e_iald hX aC40 dX0_stoneOf_72 h (fun h => ?_)
                        refine e_bnd h (fun x_2 h => ?_)
                        refine s_istore (lv' := [(0, .ref (ad 37)), (1, .int v1), (2, .int v2), (3, .int y3_8), (5, .int y5_8), (6, .int y6_24), (4, .int x_2)]) hX dX0_stoneOf_73 (by decide) rfl ?_
                        refine s_iload_n (k := 3) hX dX0_stoneOf_75 rfl rfl ?_
                        refine s_iconst (v := (nI 1)) hX dX0_stoneOf_76 (by decide) ?_
                        refine s_iload (k := 5) hX dX0_stoneOf_77 rfl ?_
                        refine e_ishl hX dX0_stoneOf_79 ?_
                        refine s_ior hX dX0_stoneOf_80 ?_
                        refine e_bnd h (fun x_3 h => ?_)
                        refine s_istore_n (lv' := [(0, .ref (ad 37)), (1, .int v1), (2, .int v2), (5, .int y5_8), (6, .int y6_24), (4, .int x_2), (3, .int x_3)]) hX dX0_stoneOf_81 rfl (by decide) rfl ?_
                        refine s_goto (tgt := 91) hX dX0_stoneOf_82 (by decide) ?_
                        refine s_iinc (k := 3) (v := (y5_8 + (nI 1))) (lv' := [(0, .ref (ad 37)), (1, .int v1), (2, .int v2), (6, .int y6_24), (4, .int x_2), (3, .int x_3), (5, .int (y5_8 + (nI 1)))]) hX dX0_stoneOf_91 (congrArg (fun z => y5_8 + z) (by decide)) (by decide) rfl rfl ?_
                        refine s_goto (tgt := 8) hX dX0_stoneOf_94 (by decide) ?_
                        refine s_loc [0, 1, 2, 5, 4, 6] rfl ?_
                        exact ih8 x_3 x_2 (y5_8 + (nI 1)) h
                      refine e_icmp_ne (tgt := 85) hX dX0_stoneOf_63 (by decide) r_eq h (fun h => ?_) (fun h => ?_)
                      · refine s_iinc (k := 6) (v := (y6_24 + (nI 1))) (lv' := [(0, .ref (ad 37)), (1, .int v1), (2, .int v2), (3, .int y3_8), (4, .int y4_8), (5, .int y5_8), (6, .int (y6_24 + (nI 1)))]) hX dX0_stoneOf_85 (congrArg (fun z => y6_24 + z) (by decide)) (by decide) rfl rfl ?_
                        refine s_goto (tgt := 24) hX dX0_stoneOf_88 (by decide) ?_
                        exact ih24 (y6_24 + (nI 1)) h
                      · refine s_loc [0, 1, 2, 3, 5, 6] rfl ?_
                        exact j66 h
          exact lp24 FU (nI 0) h
  exact lp8 FU (nI 0) (-1) (nI 0) h
set_option maxHeartbeats 4000000 in
theorem t_X0_wayInAll (M : Mem) : AXp yX0_wayInAll cX0_wayInAll 1 (some .int) 0 60 glC (fun ad => [.ref (ad 37)]) M (f_X0_wayInAll M) := by
  intro r0 h
  refine AM.of (by decide) (fun _ => Nat.le_of_ble_eq_true rfl) (fun X ad cI cZ cB hX hR => ?_)
  show V X M [(0, .ref (ad 37))] [] 0
  refine s_aload_n (k := 0) hX dX0_wayInAll_0 rfl rfl ?_
  refine s_get hX fX0_24 oC37 rfl dX0_wayInAll_1 ?_
  refine s_iconst (v := (nI 0)) hX dX0_wayInAll_4 (by decide) ?_
  refine s_ialdN hX aC42 (by decide) dX0_wayInAll_5 ?_
  exact e_iretp hX hR dX0_wayInAll_6 h
set_option maxHeartbeats 4000000 in
theorem t_X1_reach (v1 : Int32) (v2 : Int32) (M : Mem) : AXv yX1_reach cX1_reach 3 none 0 60 glC (fun ad => [.ref (ad 30), .int v1, .int v2]) M (f_X1_reach M v1 v2) := by
  intro r0 h
  refine AM.of (by decide) (fun _ => Nat.le_of_ble_eq_true rfl) (fun X ad cI cZ cB hX hR => ?_)
  show V X M [(0, .ref (ad 30)), (1, .int v1), (2, .int v2)] [] 0
  refine s_iload_n (k := 1) hX dX1_reach_0 rfl rfl ?_
  refine e_if_lt (tgt := 63) hX dX1_reach_1 (by decide) z_lt h (fun h => ?_) (fun h => ?_)
  · exact e_vret hX hR dX1_reach_63 h
  · refine s_iload_n (k := 1) hX dX1_reach_4 rfl rfl ?_
    refine s_bipush (v := (nI 80)) hX dX1_reach_5 (by decide) ?_
    refine e_icmp_ge (tgt := 63) hX dX1_reach_7 (by decide) (m_ge (by decide +kernel)) h (fun h => ?_) (fun h => ?_)
    · exact e_vret hX hR dX1_reach_63 h
    · refine s_aload_n (k := 0) hX dX1_reach_10 rfl rfl ?_
      refine s_get hX fX1_21 oC30 rfl dX1_reach_11 ?_
      refine e_if_lt (tgt := 63) hX dX1_reach_14 (by decide) z_lt h (fun h => ?_) (fun h => ?_)
      · exact e_vret hX hR dX1_reach_63 h
      · refine s_aload_n (k := 0) hX dX1_reach_17 rfl rfl ?_
        refine s_get hX fX1_21 oC30 rfl dX1_reach_18 ?_
        refine s_bipush (v := (nI 80)) hX dX1_reach_21 (by decide) ?_
        refine e_icmp_ge (tgt := 63) hX dX1_reach_23 (by decide) (m_ge (by decide +kernel)) h (fun h => ?_) (fun h => ?_)
        · exact e_vret hX hR dX1_reach_63 h
        · refine s_aload_n (k := 0) hX dX1_reach_26 rfl rfl ?_
          refine s_get hX fX1_15 oC30 rfl dX1_reach_27 ?_
          refine s_iload_n (k := 1) hX dX1_reach_30 rfl rfl ?_
          refine e_iald hX aC32 dX1_reach_31 h (fun h => ?_)
          refine s_iconst (v := (-1)) hX dX1_reach_32 (by decide) ?_
          refine e_icmp_ne (tgt := 63) hX dX1_reach_33 (by decide) (m_eq (by decide +kernel)) h (fun h => ?_) (fun h => ?_)
          · exact e_vret hX hR dX1_reach_63 h
          · refine s_aload_n (k := 0) hX dX1_reach_36 rfl rfl ?_
            refine s_get hX fX1_15 oC30 rfl dX1_reach_37 ?_
            refine s_iload_n (k := 1) hX dX1_reach_40 rfl rfl ?_
            refine s_iload_n (k := 2) hX dX1_reach_41 rfl rfl ?_
            refine e_iast hX aC32 dX1_reach_42 h (fun h => ?_)
            refine e_bndM h (fun M_1 h => ?_)
            refine s_aload_n (k := 0) hX dX1_reach_43 rfl rfl ?_
            refine s_get hX fX1_18 oC30 rfl dX1_reach_44 ?_
            refine s_aload_n (k := 0) hX dX1_reach_47 rfl rfl ?_
            refine s_get hX fX1_21 oC30 rfl dX1_reach_48 ?_
            refine s_iload_n (k := 1) hX dX1_reach_51 rfl rfl ?_
            refine e_iast hX aC33 dX1_reach_52 h (fun h => ?_)
            refine e_bndM h (fun M_2 h => ?_)
            refine s_aload_n (k := 0) hX dX1_reach_53 rfl rfl ?_
            refine s_dup hX dX1_reach_54 rfl ?_
            refine s_get hX fX1_21 oC30 rfl dX1_reach_55 ?_
            refine s_iconst (v := (nI 1)) hX dX1_reach_58 (by decide) ?_
            refine s_iadd hX dX1_reach_59 ?_
            refine s_puti (ty := .int) hX fX1_21 oC30 rfl (Nat.le_of_ble_eq_true rfl) ty_1_3 rfl rfl dX1_reach_60 ?_
            refine e_bndM h (fun M_3 h => ?_)
            exact e_vret hX hR dX1_reach_63 h
set_option maxHeartbeats 4000000 in
theorem t_X1_comeOn (v1 : Int32) (M : Mem) : AXv yX1_comeOn cX1_comeOn 2 none 1 60 glC (fun ad => [.ref (ad 30), .int v1]) M (f_X1_comeOn M v1) := by
  intro r0 h
  refine AM.of (by decide) (fun _ => Nat.le_of_ble_eq_true rfl) (fun X ad cI cZ cB hX hR => ?_)
  show V X M [(0, .ref (ad 30)), (1, .int v1)] [] 0
  refine s_iload_n (k := 1) hX dX1_comeOn_0 rfl rfl ?_
  refine e_if_lt (tgt := 10) hX dX1_comeOn_1 (by decide) z_lt h (fun h => ?_) (fun h => ?_)
  · exact e_vret hX hR dX1_comeOn_10 h
  · refine s_iload_n (k := 1) hX dX1_comeOn_4 rfl rfl ?_
    refine s_bipush (v := (nI 40)) hX dX1_comeOn_5 (by decide) ?_
    refine e_icmp_lt (tgt := 11) hX dX1_comeOn_7 (by decide) (m_lt (by decide +kernel)) h (fun h => ?_) (fun h => ?_)
    · refine s_aload_n (k := 0) hX dX1_comeOn_11 rfl rfl ?_
      refine s_get hX fX1_9 oC30 rfl dX1_comeOn_12 ?_
      refine s_iload_n (k := 1) hX dX1_comeOn_15 rfl rfl ?_
      refine e_iald hX aC31 dX1_comeOn_16 h (fun h => ?_)
      refine s_iconst (v := (-1)) hX dX1_comeOn_17 (by decide) ?_
      refine e_icmp_ne (tgt := 33) hX dX1_comeOn_18 (by decide) (m_eq (by decide +kernel)) h (fun h => ?_) (fun h => ?_)
      · refine s_aload_n (k := 0) hX dX1_comeOn_33 rfl rfl ?_
        refine s_get hX fX1_9 oC30 rfl dX1_comeOn_34 ?_
        refine s_iload_n (k := 1) hX dX1_comeOn_37 rfl rfl ?_
        refine e_iald hX aC31 dX1_comeOn_38 h (fun h => ?_)
        refine s_bipush (v := (nI 40)) hX dX1_comeOn_39 (by decide) ?_
        refine e_icmp_ge (tgt := 58) hX dX1_comeOn_41 (by decide) (m_ge (by decide +kernel)) h (fun h => ?_) (fun h => ?_)
        · exact e_vret hX hR dX1_comeOn_58 h
        · refine s_aload_n (k := 0) hX dX1_comeOn_44 rfl rfl ?_
          refine s_aload_n (k := 0) hX dX1_comeOn_45 rfl rfl ?_
          refine s_get hX fX1_9 oC30 rfl dX1_comeOn_46 ?_
          refine s_iload_n (k := 1) hX dX1_comeOn_49 rfl rfl ?_
          refine e_iald hX aC31 dX1_comeOn_50 h (fun h => ?_)
          refine s_bipush (v := (nI 40)) hX dX1_comeOn_51 (by decide) ?_
          refine s_iadd hX dX1_comeOn_53 ?_
          refine s_iload_n (k := 1) hX dX1_comeOn_54 rfl rfl ?_
          refine e_callVv hX (t_X1_reach ((M 31 (ix v1)) + (nI 40)) v1 M) mX1_reach lX1_45 (by decide) (by decide) oC30 rfl rfl rfl rfl rfl (Nat.le_of_ble_eq_true rfl) dX1_comeOn_55 h (fun M_1 h => ?_)
          exact e_vret hX hR dX1_comeOn_58 h
      · refine s_aload_n (k := 0) hX dX1_comeOn_21 rfl rfl ?_
        refine s_iload_n (k := 1) hX dX1_comeOn_22 rfl rfl ?_
        refine s_bipush (v := (nI 40)) hX dX1_comeOn_23 (by decide) ?_
        refine s_iadd hX dX1_comeOn_25 ?_
        refine s_iload_n (k := 1) hX dX1_comeOn_26 rfl rfl ?_
        refine e_callVv hX (t_X1_reach (v1 + (nI 40)) v1 M) mX1_reach lX1_45 (by decide) (by decide) oC30 rfl rfl rfl rfl rfl (Nat.le_of_ble_eq_true rfl) dX1_comeOn_27 h (fun M_2 h => ?_)
        refine s_goto (tgt := 58) hX dX1_comeOn_30 (by decide) ?_
        exact e_vret hX hR dX1_comeOn_58 h
    · exact e_vret hX hR dX1_comeOn_10 h
set_option maxHeartbeats 4000000 in
theorem t_X2_isDry (b : Nat) (hb : isF b) (v1 : Int32) (M : Mem) : AXp yX2_isDry cX2_isDry 2 (some .boolean) 0 60 glC (fun ad => [.ref (ad b), .int v1]) M (f_X2_isDry b M v1) := by
  intro r0 h
  refine AM.of (by decide) (fun _ => Nat.le_of_ble_eq_true rfl) (fun X ad cI cZ cB hX hR => ?_)
  show V X M [(0, .ref (ad b)), (1, .int v1)] [] 0
  refine s_iload_n (k := 1) hX dX2_isDry_0 rfl rfl ?_
  refine e_if_lt (tgt := 32) hX dX2_isDry_1 (by decide) z_lt h (fun h => ?_) (fun h => ?_)
  · refine s_iconst (v := (nI 0)) hX dX2_isDry_32 (by decide) ?_
    exact e_zretpL hX hR dX2_isDry_33 (by decide) h
  · refine s_iload_n (k := 1) hX dX2_isDry_4 rfl rfl ?_
    refine s_bipush (v := (nI 40)) hX dX2_isDry_5 (by decide) ?_
    refine e_icmp_ge (tgt := 32) hX dX2_isDry_7 (by decide) (m_ge (by decide +kernel)) h (fun h => ?_) (fun h => ?_)
    · refine s_iconst (v := (nI 0)) hX dX2_isDry_32 (by decide) ?_
      exact e_zretpL hX hR dX2_isDry_33 (by decide) h
    · refine s_aload_n (k := 0) hX dX2_isDry_10 rfl rfl ?_
      refine s_get hX fX2_21 (oF hb) rfl dX2_isDry_11 ?_
      refine s_iload_n (k := 1) hX dX2_isDry_14 rfl rfl ?_
      refine e_zald hX (aF4 hb) dX2_isDry_15 h (fun h => ?_)
      refine e_if_eq (tgt := 32) hX dX2_isDry_16 (by decide) z_eq h (fun h => ?_) (fun h => ?_)
      · refine s_iconst (v := (nI 0)) hX dX2_isDry_32 (by decide) ?_
        exact e_zretpL hX hR dX2_isDry_33 (by decide) h
      · refine s_aload_n (k := 0) hX dX2_isDry_19 rfl rfl ?_
        refine s_get hX fX2_25 (oF hb) rfl dX2_isDry_20 ?_
        refine s_iload_n (k := 1) hX dX2_isDry_23 rfl rfl ?_
        refine e_zald hX (aF5 hb) dX2_isDry_24 h (fun h => ?_)
        refine e_if_ne (tgt := 32) hX dX2_isDry_25 (by decide) z_eq h (fun h => ?_) (fun h => ?_)
        · refine s_iconst (v := (nI 0)) hX dX2_isDry_32 (by decide) ?_
          exact e_zretpL hX hR dX2_isDry_33 (by decide) h
        · refine s_iconst (v := (nI 1)) hX dX2_isDry_28 (by decide) ?_
          refine s_goto (tgt := 33) hX dX2_isDry_29 (by decide) ?_
          exact e_zretpL hX hR dX2_isDry_33 (by decide) h
set_option maxHeartbeats 4000000 in
theorem t_X2_canStand (b : Nat) (hb : isF b) (v1 : Int32) (M : Mem) : AXp yX2_canStand cX2_canStand 2 (some .boolean) 1 60 glC (fun ad => [.ref (ad b), .int v1]) M (f_X2_canStand b M v1) := by
  intro r0 h
  refine AM.of (by decide) (fun _ => Nat.le_of_ble_eq_true rfl) (fun X ad cI cZ cB hX hR => ?_)
  show V X M [(0, .ref (ad b)), (1, .int v1)] [] 0
  refine s_iload_n (k := 1) hX dX2_canStand_0 rfl rfl ?_
  refine s_bipush (v := (nI 40)) hX dX2_canStand_1 (by decide) ?_
  refine e_icmp_eq (tgt := 20) hX dX2_canStand_3 (by decide) (m_eq (by decide +kernel)) h (fun h => ?_) (fun h => ?_)
  · refine s_iconst (v := (nI 1)) hX dX2_canStand_20 (by decide) ?_
    refine s_goto (tgt := 25) hX dX2_canStand_21 (by decide) ?_
    exact e_zretpL hX hR dX2_canStand_25 (by decide) h
  · refine s_iload_n (k := 1) hX dX2_canStand_6 rfl rfl ?_
    refine s_bipush (v := (nI 41)) hX dX2_canStand_7 (by decide) ?_
    refine e_icmp_eq (tgt := 20) hX dX2_canStand_9 (by decide) (m_eq (by decide +kernel)) h (fun h => ?_) (fun h => ?_)
    · refine s_iconst (v := (nI 1)) hX dX2_canStand_20 (by decide) ?_
      refine s_goto (tgt := 25) hX dX2_canStand_21 (by decide) ?_
      exact e_zretpL hX hR dX2_canStand_25 (by decide) h
    · refine s_aload_n (k := 0) hX dX2_canStand_12 rfl rfl ?_
      refine s_iload_n (k := 1) hX dX2_canStand_13 rfl rfl ?_
      refine e_callVp hX (t_X2_isDry b hb v1 M) mX2_isDry lX2_45 (by decide) (by decide) (oF hb) rfl rfl rfl rfl rfl (Nat.le_of_ble_eq_true rfl) dX2_canStand_14 h (fun r_1 h => ?_)
      refine e_if_eq (tgt := 24) hX dX2_canStand_17 (by decide) z_eq h (fun h => ?_) (fun h => ?_)
      · refine s_iconst (v := (nI 0)) hX dX2_canStand_24 (by decide) ?_
        exact e_zretpL hX hR dX2_canStand_25 (by decide) h
      · refine s_iconst (v := (nI 1)) hX dX2_canStand_20 (by decide) ?_
        refine s_goto (tgt := 25) hX dX2_canStand_21 (by decide) ?_
        exact e_zretpL hX hR dX2_canStand_25 (by decide) h
set_option maxHeartbeats 4000000 in
theorem t_X2_heightOf (b : Nat) (hb : isF b) (v1 : Int32) (M : Mem) : AXp yX2_heightOf cX2_heightOf 2 (some .int) 0 60 glC (fun ad => [.ref (ad b), .int v1]) M (f_X2_heightOf b M v1) := by
  intro r0 h
  refine AM.of (by decide) (fun _ => Nat.le_of_ble_eq_true rfl) (fun X ad cI cZ cB hX hR => ?_)
  show V X M [(0, .ref (ad b)), (1, .int v1)] [] 0
  refine s_iload_n (k := 1) hX dX2_heightOf_0 rfl rfl ?_
  refine s_bipush (v := (nI 41)) hX dX2_heightOf_1 (by decide) ?_
  refine e_icmp_ne (tgt := 9) hX dX2_heightOf_3 (by decide) (m_eq (by decide +kernel)) h (fun h => ?_) (fun h => ?_)
  · refine s_iload_n (k := 1) hX dX2_heightOf_9 rfl rfl ?_
    refine e_if_lt (tgt := 28) hX dX2_heightOf_10 (by decide) z_lt h (fun h => ?_) (fun h => ?_)
    · refine s_iconst (v := (nI 0)) hX dX2_heightOf_28 (by decide) ?_
      exact e_iretp hX hR dX2_heightOf_29 h
    · refine s_iload_n (k := 1) hX dX2_heightOf_13 rfl rfl ?_
      refine s_bipush (v := (nI 40)) hX dX2_heightOf_14 (by decide) ?_
      refine e_icmp_ge (tgt := 28) hX dX2_heightOf_16 (by decide) (m_ge (by decide +kernel)) h (fun h => ?_) (fun h => ?_)
      · refine s_iconst (v := (nI 0)) hX dX2_heightOf_28 (by decide) ?_
        exact e_iretp hX hR dX2_heightOf_29 h
      · refine s_aload_n (k := 0) hX dX2_heightOf_19 rfl rfl ?_
        refine s_get hX fX2_15 (oF hb) rfl dX2_heightOf_20 ?_
        refine s_iload_n (k := 1) hX dX2_heightOf_23 rfl rfl ?_
        refine e_iald hX (aF2 hb) dX2_heightOf_24 h (fun h => ?_)
        refine s_goto (tgt := 29) hX dX2_heightOf_25 (by decide) ?_
        exact e_iretp hX hR dX2_heightOf_29 h
  · refine s_bipush (v := (nI 21)) hX dX2_heightOf_6 (by decide) ?_
    exact e_iretp hX hR dX2_heightOf_8 h
