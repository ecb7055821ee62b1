theorem zcdX10_has_0 : decode cX10_has 0 = .ok (.iload_n 0, 1) ∧ decode cX10_has 1 = .ok (.iload_n 1, 1) ∧ decode cX10_has 2 = .ok (.ishr, 1) ∧ decode cX10_has 3 = .ok (.iconst 1, 1) ∧ decode cX10_has 4 = .ok (.iand, 1) ∧ decode cX10_has 5 = .ok (.iconst 1, 1) ∧ decode cX10_has 6 = .ok (.if_icmp .ne 7, 3) ∧ decode cX10_has 9 = .ok (.iconst 1, 1) := by decide +kernel
theorem zcdX10_has_10 : decode cX10_has 10 = .ok (.goto 4, 3) ∧ decode cX10_has 13 = .ok (.iconst 0, 1) ∧ decode cX10_has 14 = .ok (.ireturn, 1) ∧ decode cX10_isPerson 0 = .ok (.iload_n 1, 1) ∧ decode cX10_isPerson 1 = .ok (.iconst 0, 1) ∧ decode cX10_isPerson 2 = .ok (.bipush 7, 2) ∧ decode cX10_isPerson 4 = .ok (.invokestatic 132, 3) ∧ decode cX10_isPerson 7 = .ok (.ifCond .eq 18, 3) := by decide +kernel
theorem zcdX10_isPerson_10 : decode cX10_isPerson 10 = .ok (.aload_n 0, 1) ∧ decode cX10_isPerson 11 = .ok (.getfield 136, 3) ∧ decode cX10_isPerson 14 = .ok (.iload_n 1, 1) ∧ decode cX10_isPerson 15 = .ok (.invokestatic 140, 3) ∧ decode cX10_isPerson 18 = .ok (.ifCond .eq 7, 3) ∧ decode cX10_isPerson 21 = .ok (.iconst 1, 1) ∧ decode cX10_isPerson 22 = .ok (.goto 4, 3) ∧ decode cX10_isPerson 25 = .ok (.iconst 0, 1) := by decide +kernel
theorem zcdX10_isPerson_26 : decode cX10_isPerson 26 = .ok (.ireturn, 1) ∧ decode cX10_count 0 = .ok (.iload_n 1, 1) ∧ decode cX10_count 1 = .ok (.tableswitch 90 0 6 #[43, 52, 58, 66, 71, 76, 81], 43) ∧ decode cX10_count 44 = .ok (.aload_n 0, 1) ∧ decode cX10_count 45 = .ok (.getfield 7, 3) ∧ decode cX10_count 48 = .ok (.sipush 200, 3) ∧ decode cX10_count 51 = .ok (.iaload, 1) ∧ decode cX10_count 52 = .ok (.ireturn, 1) := by decide +kernel
theorem zcdX10_count_53 : decode cX10_count 53 = .ok (.aload_n 0, 1) ∧ decode cX10_count 54 = .ok (.iconst 0, 1) ∧ decode cX10_count 55 = .ok (.invokevirtual 312, 3) ∧ decode cX10_count 58 = .ok (.ireturn, 1) ∧ decode cX10_count 59 = .ok (.aload_n 0, 1) ∧ decode cX10_count 60 = .ok (.sipush 160, 3) ∧ decode cX10_count 63 = .ok (.invokevirtual 312, 3) ∧ decode cX10_count 66 = .ok (.ireturn, 1) := by decide +kernel
theorem zcdX10_count_67 : decode cX10_count 67 = .ok (.aload_n 0, 1) ∧ decode cX10_count 68 = .ok (.getfield 136, 3) ∧ decode cX10_count 71 = .ok (.ireturn, 1) ∧ decode cX10_count 72 = .ok (.aload_n 0, 1) ∧ decode cX10_count 73 = .ok (.getfield 258, 3) ∧ decode cX10_count 76 = .ok (.ireturn, 1) ∧ decode cX10_count 77 = .ok (.aload_n 0, 1) ∧ decode cX10_count 78 = .ok (.getfield 158, 3) := by decide +kernel
theorem zcdX10_count_81 : decode cX10_count 81 = .ok (.ireturn, 1) ∧ decode cX10_count 82 = .ok (.aload_n 0, 1) ∧ decode cX10_count 83 = .ok (.getfield 7, 3) ∧ decode cX10_count 86 = .ok (.sipush 201, 3) ∧ decode cX10_count 89 = .ok (.iaload, 1) ∧ decode cX10_count 90 = .ok (.ireturn, 1) ∧ decode cX10_count 91 = .ok (.aload_n 0, 1) ∧ decode cX10_count 92 = .ok (.iload_n 1, 1) := by decide +kernel
theorem zcdX10_count_93 : decode cX10_count 93 = .ok (.bipush 10, 2) ∧ decode cX10_count 95 = .ok (.isub, 1) ∧ decode cX10_count 96 = .ok (.invokevirtual 334, 3) ∧ decode cX10_count 99 = .ok (.ifCond .eq 15, 3) ∧ decode cX10_count 102 = .ok (.aload_n 0, 1) ∧ decode cX10_count 103 = .ok (.getfield 19, 3) ∧ decode cX10_count 106 = .ok (.iload_n 1, 1) ∧ decode cX10_count 107 = .ok (.bipush 10, 2) := by decide +kernel
theorem zcdX10_count_109 : decode cX10_count 109 = .ok (.isub, 1) ∧ decode cX10_count 110 = .ok (.iaload, 1) ∧ decode cX10_count 111 = .ok (.goto 4, 3) ∧ decode cX10_count 114 = .ok (.iconst (-1), 1) ∧ decode cX10_count 115 = .ok (.ireturn, 1) ∧ decode cX10_isByBank 0 = .ok (.iload_n 2, 1) ∧ decode cX10_isByBank 1 = .ok (.ifCond .eq 15, 3) ∧ decode cX10_isByBank 4 = .ok (.aload_n 0, 1) := by decide +kernel
theorem zcdX10_isByBank_5 : decode cX10_isByBank 5 = .ok (.getfield 7, 3) ∧ decode cX10_isByBank 8 = .ok (.bipush 80, 2) ∧ decode cX10_isByBank 10 = .ok (.iload_n 1, 1) ∧ decode cX10_isByBank 11 = .ok (.iadd, 1) ∧ decode cX10_isByBank 12 = .ok (.iaload, 1) ∧ decode cX10_isByBank 13 = .ok (.goto 15, 3) ∧ decode cX10_isByBank 16 = .ok (.bipush 21, 2) ∧ decode cX10_isByBank 18 = .ok (.aload_n 0, 1) := by decide +kernel
theorem zcdX10_isByBank_19 : decode cX10_isByBank 19 = .ok (.getfield 7, 3) ∧ decode cX10_isByBank 22 = .ok (.bipush 80, 2) ∧ decode cX10_isByBank 24 = .ok (.iload_n 1, 1) ∧ decode cX10_isByBank 25 = .ok (.iadd, 1) ∧ decode cX10_isByBank 26 = .ok (.iaload, 1) ∧ decode cX10_isByBank 27 = .ok (.isub, 1) ∧ decode cX10_isByBank 28 = .ok (.istore 4, 2) ∧ decode cX10_isByBank 30 = .ok (.aload_n 0, 1) := by decide +kernel
theorem zcdX10_isByBank_31 : decode cX10_isByBank 31 = .ok (.iload_n 1, 1) ∧ decode cX10_isByBank 32 = .ok (.invokevirtual 319, 3) ∧ decode cX10_isByBank 35 = .ok (.ifCond .eq 13, 3) ∧ decode cX10_isByBank 38 = .ok (.iload 4, 2) ∧ decode cX10_isByBank 40 = .ok (.iload_n 3, 1) ∧ decode cX10_isByBank 41 = .ok (.if_icmp .gt 7, 3) ∧ decode cX10_isByBank 44 = .ok (.iconst 1, 1) ∧ decode cX10_isByBank 45 = .ok (.goto 4, 3) := by decide +kernel
theorem zcdX10_isByBank_48 : decode cX10_isByBank 48 = .ok (.iconst 0, 1) ∧ decode cX10_isByBank 49 = .ok (.ireturn, 1) ∧ decode cX10_laysSteps 0 = .ok (.iconst 0, 1) ∧ decode cX10_laysSteps 1 = .ok (.istore 4, 2) ∧ decode cX10_laysSteps 3 = .ok (.iconst 0, 1) ∧ decode cX10_laysSteps 4 = .ok (.istore 5, 2) ∧ decode cX10_laysSteps 6 = .ok (.iload 5, 2) ∧ decode cX10_laysSteps 8 = .ok (.bipush 40, 2) := by decide +kernel
theorem zcdX10_laysSteps_10 : decode cX10_laysSteps 10 = .ok (.if_icmp .ge 55, 3) ∧ decode cX10_laysSteps 13 = .ok (.aload_n 1, 1) ∧ decode cX10_laysSteps 14 = .ok (.iload 5, 2) ∧ decode cX10_laysSteps 16 = .ok (.aload_n 0, 1) ∧ decode cX10_laysSteps 17 = .ok (.iload 5, 2) ∧ decode cX10_laysSteps 19 = .ok (.iload_n 2, 1) ∧ decode cX10_laysSteps 20 = .ok (.iload_n 3, 1) ∧ decode cX10_laysSteps 21 = .ok (.invokevirtual 322, 3) := by decide +kernel
theorem zcdX10_laysSteps_24 : decode cX10_laysSteps 24 = .ok (.ifCond .eq 7, 3) ∧ decode cX10_laysSteps 27 = .ok (.iconst 1, 1) ∧ decode cX10_laysSteps 28 = .ok (.goto 4, 3) ∧ decode cX10_laysSteps 31 = .ok (.iconst (-1), 1) ∧ decode cX10_laysSteps 32 = .ok (.iastore, 1) ∧ decode cX10_laysSteps 33 = .ok (.aload_n 1, 1) ∧ decode cX10_laysSteps 34 = .ok (.iload 5, 2) ∧ decode cX10_laysSteps 36 = .ok (.iaload, 1) := by decide +kernel
theorem zcdX10_laysSteps_37 : decode cX10_laysSteps 37 = .ok (.iconst (-1), 1) ∧ decode cX10_laysSteps 38 = .ok (.if_icmp .ne 6, 3) ∧ decode cX10_laysSteps 41 = .ok (.goto 18, 3) ∧ decode cX10_laysSteps 44 = .ok (.aload_n 0, 1) ∧ decode cX10_laysSteps 45 = .ok (.getfield 83, 3) ∧ decode cX10_laysSteps 48 = .ok (.iload 4, 2) ∧ decode cX10_laysSteps 50 = .ok (.iload 5, 2) ∧ decode cX10_laysSteps 52 = .ok (.iastore, 1) := by decide +kernel
theorem zcdX10_laysSteps_53 : decode cX10_laysSteps 53 = .ok (.iload 4, 2) ∧ decode cX10_laysSteps 55 = .ok (.iconst 1, 1) ∧ decode cX10_laysSteps 56 = .ok (.iadd, 1) ∧ decode cX10_laysSteps 57 = .ok (.istore 4, 2) ∧ decode cX10_laysSteps 59 = .ok (.iinc 5 1, 3) ∧ decode cX10_laysSteps 62 = .ok (.goto (-56), 3) ∧ decode cX10_laysSteps 65 = .ok (.iconst 0, 1) ∧ decode cX10_laysSteps 66 = .ok (.istore 5, 2) := by decide +kernel
theorem zcdX10_laysSteps_68 : decode cX10_laysSteps 68 = .ok (.iload 5, 2) ∧ decode cX10_laysSteps 70 = .ok (.iload 4, 2) ∧ decode cX10_laysSteps 72 = .ok (.if_icmp .ge 82, 3) ∧ decode cX10_laysSteps 75 = .ok (.aload_n 0, 1) ∧ decode cX10_laysSteps 76 = .ok (.getfield 83, 3) ∧ decode cX10_laysSteps 79 = .ok (.iload 5, 2) ∧ decode cX10_laysSteps 81 = .ok (.iaload, 1) ∧ decode cX10_laysSteps 82 = .ok (.istore 6, 2) := by decide +kernel
theorem zcdX10_laysSteps_84 : decode cX10_laysSteps 84 = .ok (.iconst 0, 1) ∧ decode cX10_laysSteps 85 = .ok (.istore 7, 2) ∧ decode cX10_laysSteps 87 = .ok (.iload 7, 2) ∧ decode cX10_laysSteps 89 = .ok (.bipush 40, 2) ∧ decode cX10_laysSteps 91 = .ok (.if_icmp .ge 57, 3) ∧ decode cX10_laysSteps 94 = .ok (.aload_n 1, 1) ∧ decode cX10_laysSteps 95 = .ok (.iload 7, 2) ∧ decode cX10_laysSteps 97 = .ok (.iaload, 1) := by decide +kernel
theorem zcdX10_laysSteps_98 : decode cX10_laysSteps 98 = .ok (.iconst (-1), 1) ∧ decode cX10_laysSteps 99 = .ok (.if_icmp .ne 43, 3) ∧ decode cX10_laysSteps 102 = .ok (.aload_n 0, 1) ∧ decode cX10_laysSteps 103 = .ok (.iload 6, 2) ∧ decode cX10_laysSteps 105 = .ok (.iload 7, 2) ∧ decode cX10_laysSteps 107 = .ok (.iload_n 3, 1) ∧ decode cX10_laysSteps 108 = .ok (.invokevirtual 326, 3) ∧ decode cX10_laysSteps 111 = .ok (.ifCond .ne 6, 3) := by decide +kernel
theorem zcdX10_laysSteps_114 : decode cX10_laysSteps 114 = .ok (.goto 28, 3) ∧ decode cX10_laysSteps 117 = .ok (.aload_n 1, 1) ∧ decode cX10_laysSteps 118 = .ok (.iload 7, 2) ∧ decode cX10_laysSteps 120 = .ok (.aload_n 1, 1) ∧ decode cX10_laysSteps 121 = .ok (.iload 6, 2) ∧ decode cX10_laysSteps 123 = .ok (.iaload, 1) ∧ decode cX10_laysSteps 124 = .ok (.iconst 1, 1) ∧ decode cX10_laysSteps 125 = .ok (.iadd, 1) := by decide +kernel
theorem zcdX10_laysSteps_126 : decode cX10_laysSteps 126 = .ok (.iastore, 1) ∧ decode cX10_laysSteps 127 = .ok (.aload_n 0, 1) ∧ decode cX10_laysSteps 128 = .ok (.getfield 83, 3) ∧ decode cX10_laysSteps 131 = .ok (.iload 4, 2) ∧ decode cX10_laysSteps 133 = .ok (.iload 7, 2) ∧ decode cX10_laysSteps 135 = .ok (.iastore, 1) ∧ decode cX10_laysSteps 136 = .ok (.iload 4, 2) ∧ decode cX10_laysSteps 138 = .ok (.iconst 1, 1) := by decide +kernel
theorem zcdX10_laysSteps_139 : decode cX10_laysSteps 139 = .ok (.iadd, 1) ∧ decode cX10_laysSteps 140 = .ok (.istore 4, 2) ∧ decode cX10_laysSteps 142 = .ok (.iinc 7 1, 3) ∧ decode cX10_laysSteps 145 = .ok (.goto (-58), 3) ∧ decode cX10_laysSteps 148 = .ok (.iinc 5 1, 3) ∧ decode cX10_laysSteps 151 = .ok (.goto (-83), 3) ∧ decode cX10_laysSteps 154 = .ok (.return_, 1) ∧ decode cX10_crossing 0 = .ok (.iload_n 1, 1) := by decide +kernel
theorem zcdX10_crossing_1 : decode cX10_crossing 1 = .ok (.bipush 21, 2) ∧ decode cX10_crossing 3 = .ok (.if_icmp .lt 5, 3) ∧ decode cX10_crossing 6 = .ok (.iconst 1, 1) ∧ decode cX10_crossing 7 = .ok (.ireturn, 1) ∧ decode cX10_crossing 8 = .ok (.aload_n 0, 1) ∧ decode cX10_crossing 9 = .ok (.aload_n 0, 1) ∧ decode cX10_crossing 10 = .ok (.getfield 77, 3) ∧ decode cX10_crossing 13 = .ok (.iconst 1, 1) := by decide +kernel
theorem zcdX10_crossing_14 : decode cX10_crossing 14 = .ok (.iload_n 1, 1) ∧ decode cX10_crossing 15 = .ok (.invokevirtual 329, 3) ∧ decode cX10_crossing 18 = .ok (.iconst (-1), 1) ∧ decode cX10_crossing 19 = .ok (.istore_n 2, 1) ∧ decode cX10_crossing 20 = .ok (.iconst 0, 1) ∧ decode cX10_crossing 21 = .ok (.istore_n 3, 1) ∧ decode cX10_crossing 22 = .ok (.iload_n 3, 1) ∧ decode cX10_crossing 23 = .ok (.bipush 40, 2) := by decide +kernel
theorem zcdX10_crossing_25 : decode cX10_crossing 25 = .ok (.if_icmp .ge 58, 3) ∧ decode cX10_crossing 28 = .ok (.aload_n 0, 1) ∧ decode cX10_crossing 29 = .ok (.getfield 77, 3) ∧ decode cX10_crossing 32 = .ok (.iload_n 3, 1) ∧ decode cX10_crossing 33 = .ok (.iaload, 1) ∧ decode cX10_crossing 34 = .ok (.iconst (-1), 1) ∧ decode cX10_crossing 35 = .ok (.if_icmp .eq 42, 3) ∧ decode cX10_crossing 38 = .ok (.aload_n 0, 1) := by decide +kernel
theorem zcdX10_crossing_39 : decode cX10_crossing 39 = .ok (.iload_n 3, 1) ∧ decode cX10_crossing 40 = .ok (.iconst 0, 1) ∧ decode cX10_crossing 41 = .ok (.iload_n 1, 1) ∧ decode cX10_crossing 42 = .ok (.invokevirtual 322, 3) ∧ decode cX10_crossing 45 = .ok (.ifCond .ne 6, 3) ∧ decode cX10_crossing 48 = .ok (.goto 29, 3) ∧ decode cX10_crossing 51 = .ok (.iload_n 2, 1) ∧ decode cX10_crossing 52 = .ok (.iconst (-1), 1) := by decide +kernel
theorem zcdX10_crossing_53 : decode cX10_crossing 53 = .ok (.if_icmp .eq 15, 3) ∧ decode cX10_crossing 56 = .ok (.aload_n 0, 1) ∧ decode cX10_crossing 57 = .ok (.getfield 77, 3) ∧ decode cX10_crossing 60 = .ok (.iload_n 3, 1) ∧ decode cX10_crossing 61 = .ok (.iaload, 1) ∧ decode cX10_crossing 62 = .ok (.iconst 1, 1) ∧ decode cX10_crossing 63 = .ok (.iadd, 1) ∧ decode cX10_crossing 64 = .ok (.iload_n 2, 1) := by decide +kernel
theorem zcdX10_crossing_65 : decode cX10_crossing 65 = .ok (.if_icmp .ge 12, 3) ∧ decode cX10_crossing 68 = .ok (.aload_n 0, 1) ∧ decode cX10_crossing 69 = .ok (.getfield 77, 3) ∧ decode cX10_crossing 72 = .ok (.iload_n 3, 1) ∧ decode cX10_crossing 73 = .ok (.iaload, 1) ∧ decode cX10_crossing 74 = .ok (.iconst 1, 1) ∧ decode cX10_crossing 75 = .ok (.iadd, 1) ∧ decode cX10_crossing 76 = .ok (.istore_n 2, 1) := by decide +kernel
theorem zcdX10_crossing_77 : decode cX10_crossing 77 = .ok (.iinc 3 1, 3) ∧ decode cX10_crossing 80 = .ok (.goto (-58), 3) ∧ decode cX10_crossing 83 = .ok (.iload_n 2, 1) ∧ decode cX10_crossing 84 = .ok (.ireturn, 1) ∧ decode cX10_laysRows 0 = .ok (.iconst 0, 1) ∧ decode cX10_laysRows 1 = .ok (.istore_n 2, 1) ∧ decode cX10_laysRows 2 = .ok (.iload_n 2, 1) ∧ decode cX10_laysRows 3 = .ok (.bipush 40, 2) := by decide +kernel
theorem zcdX10_laysRows_5 : decode cX10_laysRows 5 = .ok (.if_icmp .ge 30, 3) ∧ decode cX10_laysRows 8 = .ok (.aload_n 0, 1) ∧ decode cX10_laysRows 9 = .ok (.getfield 86, 3) ∧ decode cX10_laysRows 12 = .ok (.iload_n 2, 1) ∧ decode cX10_laysRows 13 = .ok (.aload_n 0, 1) ∧ decode cX10_laysRows 14 = .ok (.getfield 80, 3) ∧ decode cX10_laysRows 17 = .ok (.iload_n 2, 1) ∧ decode cX10_laysRows 18 = .ok (.iaload, 1) := by decide +kernel
theorem zcdX10_laysRows_19 : decode cX10_laysRows 19 = .ok (.iconst 1, 1) ∧ decode cX10_laysRows 20 = .ok (.if_icmp .ne 7, 3) ∧ decode cX10_laysRows 23 = .ok (.iconst 1, 1) ∧ decode cX10_laysRows 24 = .ok (.goto 4, 3) ∧ decode cX10_laysRows 27 = .ok (.iconst 0, 1) ∧ decode cX10_laysRows 28 = .ok (.iastore, 1) ∧ decode cX10_laysRows 29 = .ok (.iinc 2 1, 3) ∧ decode cX10_laysRows 32 = .ok (.goto (-30), 3) := by decide +kernel
theorem zcdX10_laysRows_35 : decode cX10_laysRows 35 = .ok (.iconst 2, 1) ∧ decode cX10_laysRows 36 = .ok (.istore_n 2, 1) ∧ decode cX10_laysRows 37 = .ok (.iload_n 2, 1) ∧ decode cX10_laysRows 38 = .ok (.bipush 40, 2) ∧ decode cX10_laysRows 40 = .ok (.if_icmp .gt 102, 3) ∧ decode cX10_laysRows 43 = .ok (.iconst 0, 1) ∧ decode cX10_laysRows 44 = .ok (.istore_n 3, 1) ∧ decode cX10_laysRows 45 = .ok (.iload_n 3, 1) := by decide +kernel
theorem zcdX10_laysRows_46 : decode cX10_laysRows 46 = .ok (.bipush 40, 2) ∧ decode cX10_laysRows 48 = .ok (.if_icmp .ge 88, 3) ∧ decode cX10_laysRows 51 = .ok (.aload_n 0, 1) ∧ decode cX10_laysRows 52 = .ok (.getfield 80, 3) ∧ decode cX10_laysRows 55 = .ok (.iload_n 3, 1) ∧ decode cX10_laysRows 56 = .ok (.iaload, 1) ∧ decode cX10_laysRows 57 = .ok (.iload_n 2, 1) ∧ decode cX10_laysRows 58 = .ok (.if_icmp .eq 6, 3) := by decide +kernel
theorem zcdX10_laysRows_61 : decode cX10_laysRows 61 = .ok (.goto 69, 3) ∧ decode cX10_laysRows 64 = .ok (.iconst 0, 1) ∧ decode cX10_laysRows 65 = .ok (.istore 4, 2) ∧ decode cX10_laysRows 67 = .ok (.iload 4, 2) ∧ decode cX10_laysRows 69 = .ok (.bipush 40, 2) ∧ decode cX10_laysRows 71 = .ok (.if_icmp .ge 59, 3) ∧ decode cX10_laysRows 74 = .ok (.aload_n 0, 1) ∧ decode cX10_laysRows 75 = .ok (.getfield 80, 3) := by decide +kernel
theorem zcdX10_laysRows_78 : decode cX10_laysRows 78 = .ok (.iload 4, 2) ∧ decode cX10_laysRows 80 = .ok (.iaload, 1) ∧ decode cX10_laysRows 81 = .ok (.iload_n 2, 1) ∧ decode cX10_laysRows 82 = .ok (.iconst 1, 1) ∧ decode cX10_laysRows 83 = .ok (.isub, 1) ∧ decode cX10_laysRows 84 = .ok (.if_icmp .ne 40, 3) ∧ decode cX10_laysRows 87 = .ok (.aload_n 0, 1) ∧ decode cX10_laysRows 88 = .ok (.iload_n 3, 1) := by decide +kernel
theorem zcdX10_laysRows_89 : decode cX10_laysRows 89 = .ok (.iload 4, 2) ∧ decode cX10_laysRows 91 = .ok (.iload_n 1, 1) ∧ decode cX10_laysRows 92 = .ok (.invokevirtual 326, 3) ∧ decode cX10_laysRows 95 = .ok (.ifCond .eq 29, 3) ∧ decode cX10_laysRows 98 = .ok (.aload_n 0, 1) ∧ decode cX10_laysRows 99 = .ok (.getfield 86, 3) ∧ decode cX10_laysRows 102 = .ok (.iload_n 3, 1) ∧ decode cX10_laysRows 103 = .ok (.ldc_w 333, 3) := by decide +kernel
theorem zcdX10_laysRows_106 : decode cX10_laysRows 106 = .ok (.aload_n 0, 1) ∧ decode cX10_laysRows 107 = .ok (.getfield 86, 3) ∧ decode cX10_laysRows 110 = .ok (.iload_n 3, 1) ∧ decode cX10_laysRows 111 = .ok (.iaload, 1) ∧ decode cX10_laysRows 112 = .ok (.aload_n 0, 1) ∧ decode cX10_laysRows 113 = .ok (.getfield 86, 3) ∧ decode cX10_laysRows 116 = .ok (.iload 4, 2) ∧ decode cX10_laysRows 118 = .ok (.iaload, 1) := by decide +kernel
theorem zcdX10_laysRows_119 : decode cX10_laysRows 119 = .ok (.iadd, 1) ∧ decode cX10_laysRows 120 = .ok (.invokestatic 125, 3) ∧ decode cX10_laysRows 123 = .ok (.iastore, 1) ∧ decode cX10_laysRows 124 = .ok (.iinc 4 1, 3) ∧ decode cX10_laysRows 127 = .ok (.goto (-60), 3) ∧ decode cX10_laysRows 130 = .ok (.iinc 3 1, 3) ∧ decode cX10_laysRows 133 = .ok (.goto (-88), 3) ∧ decode cX10_laysRows 136 = .ok (.iinc 2 1, 3) := by decide +kernel
theorem zcdX10_laysRows_139 : decode cX10_laysRows 139 = .ok (.goto (-102), 3) ∧ decode cX10_laysRows 142 = .ok (.return_, 1) ∧ decode cX10_cross 0 = .ok (.aload_n 0, 1) ∧ decode cX10_cross 1 = .ok (.iload_n 1, 1) ∧ decode cX10_cross 2 = .ok (.invokevirtual 334, 3) ∧ decode cX10_cross 5 = .ok (.ifCond .eq 24, 3) ∧ decode cX10_cross 8 = .ok (.iload_n 2, 1) ∧ decode cX10_cross 9 = .ok (.iconst 0, 1) := by decide +kernel
theorem zcdX10_cross_10 : decode cX10_cross 10 = .ok (.bipush 39, 2) ∧ decode cX10_cross 12 = .ok (.invokestatic 132, 3) ∧ decode cX10_cross 15 = .ok (.ifCond .ne 16, 3) ∧ decode cX10_cross 18 = .ok (.iload_n 2, 1) ∧ decode cX10_cross 19 = .ok (.bipush 100, 2) ∧ decode cX10_cross 21 = .ok (.bipush 101, 2) ∧ decode cX10_cross 23 = .ok (.invokestatic 132, 3) ∧ decode cX10_cross 26 = .ok (.ifCond .ne 5, 3) := by decide +kernel
theorem zcdX10_cross_29 : decode cX10_cross 29 = .ok (.iconst (-1), 1) ∧ decode cX10_cross 30 = .ok (.ireturn, 1) ∧ decode cX10_cross 31 = .ok (.aload_n 0, 1) ∧ decode cX10_cross 32 = .ok (.getfield 19, 3) ∧ decode cX10_cross 35 = .ok (.iload_n 1, 1) ∧ decode cX10_cross 36 = .ok (.iaload, 1) ∧ decode cX10_cross 37 = .ok (.istore_n 3, 1) ∧ decode cX10_cross 38 = .ok (.aload_n 0, 1) := by decide +kernel
theorem zcdX10_cross_39 : decode cX10_cross 39 = .ok (.iload_n 3, 1) ∧ decode cX10_cross 40 = .ok (.invokevirtual 337, 3) ∧ decode cX10_cross 43 = .ok (.istore 4, 2) ∧ decode cX10_cross 45 = .ok (.iload 4, 2) ∧ decode cX10_cross 47 = .ok (.iconst (-1), 1) ∧ decode cX10_cross 48 = .ok (.if_icmp .ne 6, 3) ∧ decode cX10_cross 51 = .ok (.bipush (-2), 2) ∧ decode cX10_cross 53 = .ok (.ireturn, 1) := by decide +kernel
theorem zcdX10_cross_54 : decode cX10_cross 54 = .ok (.iload_n 2, 1) ∧ decode cX10_cross 55 = .ok (.bipush 100, 2) ∧ decode cX10_cross 57 = .ok (.if_icmp .ne 6, 3) ∧ decode cX10_cross 60 = .ok (.iload 4, 2) ∧ decode cX10_cross 62 = .ok (.ireturn, 1) ∧ decode cX10_cross 63 = .ok (.iload_n 2, 1) ∧ decode cX10_cross 64 = .ok (.bipush 100, 2) ∧ decode cX10_cross 66 = .ok (.if_icmp .ge 14, 3) := by decide +kernel
theorem zcdX10_cross_69 : decode cX10_cross 69 = .ok (.iload_n 2, 1) ∧ decode cX10_cross 70 = .ok (.iload 4, 2) ∧ decode cX10_cross 72 = .ok (.iconst 1, 1) ∧ decode cX10_cross 73 = .ok (.isub, 1) ∧ decode cX10_cross 74 = .ok (.if_icmp .lt 6, 3) ∧ decode cX10_cross 77 = .ok (.bipush (-4), 2) ∧ decode cX10_cross 79 = .ok (.ireturn, 1) ∧ decode cX10_cross 80 = .ok (.iload 4, 2) := by decide +kernel
theorem zcdX10_cross_82 : decode cX10_cross 82 = .ok (.iconst 1, 1) ∧ decode cX10_cross 83 = .ok (.if_icmp .ne 5, 3) ∧ decode cX10_cross 86 = .ok (.iconst 1, 1) ∧ decode cX10_cross 87 = .ok (.ireturn, 1) ∧ decode cX10_cross 88 = .ok (.aload_n 0, 1) ∧ decode cX10_cross 89 = .ok (.aload_n 0, 1) ∧ decode cX10_cross 90 = .ok (.getfield 80, 3) ∧ decode cX10_cross 93 = .ok (.iconst 0, 1) := by decide +kernel
theorem zcdX10_cross_94 : decode cX10_cross 94 = .ok (.iload_n 3, 1) ∧ decode cX10_cross 95 = .ok (.invokevirtual 329, 3) ∧ decode cX10_cross 98 = .ok (.aload_n 0, 1) ∧ decode cX10_cross 99 = .ok (.iload_n 3, 1) ∧ decode cX10_cross 100 = .ok (.invokevirtual 340, 3) ∧ decode cX10_cross 103 = .ok (.iload_n 2, 1) ∧ decode cX10_cross 104 = .ok (.bipush 101, 2) ∧ decode cX10_cross 106 = .ok (.if_icmp .ne 68, 3) := by decide +kernel
theorem zcdX10_cross_109 : decode cX10_cross 109 = .ok (.iconst 0, 1) ∧ decode cX10_cross 110 = .ok (.istore 5, 2) ∧ decode cX10_cross 112 = .ok (.iconst 0, 1) ∧ decode cX10_cross 113 = .ok (.istore 6, 2) ∧ decode cX10_cross 115 = .ok (.iload 6, 2) ∧ decode cX10_cross 117 = .ok (.bipush 40, 2) ∧ decode cX10_cross 119 = .ok (.if_icmp .ge 52, 3) ∧ decode cX10_cross 122 = .ok (.aload_n 0, 1) := by decide +kernel
theorem zcdX10_cross_123 : decode cX10_cross 123 = .ok (.iload 6, 2) ∧ decode cX10_cross 125 = .ok (.iconst 1, 1) ∧ decode cX10_cross 126 = .ok (.iload_n 3, 1) ∧ decode cX10_cross 127 = .ok (.invokevirtual 322, 3) ∧ decode cX10_cross 130 = .ok (.ifCond .eq 35, 3) ∧ decode cX10_cross 133 = .ok (.aload_n 0, 1) ∧ decode cX10_cross 134 = .ok (.getfield 80, 3) ∧ decode cX10_cross 137 = .ok (.iload 6, 2) := by decide +kernel
theorem zcdX10_cross_139 : decode cX10_cross 139 = .ok (.iaload, 1) ∧ decode cX10_cross 140 = .ok (.iload 4, 2) ∧ decode cX10_cross 142 = .ok (.iconst 1, 1) ∧ decode cX10_cross 143 = .ok (.isub, 1) ∧ decode cX10_cross 144 = .ok (.if_icmp .ne 21, 3) ∧ decode cX10_cross 147 = .ok (.ldc_w 333, 3) ∧ decode cX10_cross 150 = .ok (.iload 5, 2) ∧ decode cX10_cross 152 = .ok (.aload_n 0, 1) := by decide +kernel
theorem zcdX10_cross_153 : decode cX10_cross 153 = .ok (.getfield 86, 3) ∧ decode cX10_cross 156 = .ok (.iload 6, 2) ∧ decode cX10_cross 158 = .ok (.iaload, 1) ∧ decode cX10_cross 159 = .ok (.iadd, 1) ∧ decode cX10_cross 160 = .ok (.invokestatic 125, 3) ∧ decode cX10_cross 163 = .ok (.istore 5, 2) ∧ decode cX10_cross 165 = .ok (.iinc 6 1, 3) ∧ decode cX10_cross 168 = .ok (.goto (-53), 3) := by decide +kernel
theorem zcdX10_cross_171 : decode cX10_cross 171 = .ok (.iload 5, 2) ∧ decode cX10_cross 173 = .ok (.ireturn, 1) ∧ decode cX10_cross 174 = .ok (.iconst (-1), 1) ∧ decode cX10_cross 175 = .ok (.istore 5, 2) ∧ decode cX10_cross 177 = .ok (.iconst 0, 1) ∧ decode cX10_cross 178 = .ok (.istore 6, 2) ∧ decode cX10_cross 180 = .ok (.iload 6, 2) ∧ decode cX10_cross 182 = .ok (.iload_n 2, 1) := by decide +kernel
theorem zcdX10_cross_183 : decode cX10_cross 183 = .ok (.if_icmp .gt 73, 3) ∧ decode cX10_cross 186 = .ok (.iconst 0, 1) ∧ decode cX10_cross 187 = .ok (.istore 7, 2) ∧ decode cX10_cross 189 = .ok (.aload_n 0, 1) ∧ decode cX10_cross 190 = .ok (.getfield 80, 3) ∧ decode cX10_cross 193 = .ok (.iload 7, 2) ∧ decode cX10_cross 195 = .ok (.iaload, 1) ∧ decode cX10_cross 196 = .ok (.iload 4, 2) := by decide +kernel
theorem zcdX10_cross_198 : decode cX10_cross 198 = .ok (.iconst 1, 1) ∧ decode cX10_cross 199 = .ok (.isub, 1) ∧ decode cX10_cross 200 = .ok (.iload 6, 2) ∧ decode cX10_cross 202 = .ok (.isub, 1) ∧ decode cX10_cross 203 = .ok (.if_icmp .ne 34, 3) ∧ decode cX10_cross 206 = .ok (.iload 6, 2) ∧ decode cX10_cross 208 = .ok (.ifCond .ne 17, 3) ∧ decode cX10_cross 211 = .ok (.aload_n 0, 1) := by decide +kernel
theorem zcdX10_cross_212 : decode cX10_cross 212 = .ok (.iload 7, 2) ∧ decode cX10_cross 214 = .ok (.iconst 1, 1) ∧ decode cX10_cross 215 = .ok (.iload_n 3, 1) ∧ decode cX10_cross 216 = .ok (.invokevirtual 322, 3) ∧ decode cX10_cross 219 = .ok (.ifCond .eq 18, 3) ∧ decode cX10_cross 222 = .ok (.goto 24, 3) ∧ decode cX10_cross 225 = .ok (.aload_n 0, 1) ∧ decode cX10_cross 226 = .ok (.iload 5, 2) := by decide +kernel
theorem zcdX10_cross_228 : decode cX10_cross 228 = .ok (.iload 7, 2) ∧ decode cX10_cross 230 = .ok (.iload_n 3, 1) ∧ decode cX10_cross 231 = .ok (.invokevirtual 326, 3) ∧ decode cX10_cross 234 = .ok (.ifCond .ne 12, 3) ∧ decode cX10_cross 237 = .ok (.iload 7, 2) ∧ decode cX10_cross 239 = .ok (.iconst 1, 1) ∧ decode cX10_cross 240 = .ok (.iadd, 1) ∧ decode cX10_cross 241 = .ok (.istore 7, 2) := by decide +kernel
theorem zcdX10_cross_243 : decode cX10_cross 243 = .ok (.goto (-54), 3) ∧ decode cX10_cross 246 = .ok (.iload 7, 2) ∧ decode cX10_cross 248 = .ok (.istore 5, 2) ∧ decode cX10_cross 250 = .ok (.iinc 6 1, 3) ∧ decode cX10_cross 253 = .ok (.goto (-73), 3) ∧ decode cX10_cross 256 = .ok (.iload 5, 2) ∧ decode cX10_cross 258 = .ok (.ireturn, 1) ∧ decode cX10_dryCost 0 = .ok (.iload_n 1, 1) := by decide +kernel
theorem zcdX10_dryCost_1 : decode cX10_dryCost 1 = .ok (.bipush 21, 2) ∧ decode cX10_dryCost 3 = .ok (.if_icmp .lt 5, 3) ∧ decode cX10_dryCost 6 = .ok (.iconst 1, 1) ∧ decode cX10_dryCost 7 = .ok (.ireturn, 1) ∧ decode cX10_dryCost 8 = .ok (.iconst 0, 1) ∧ decode cX10_dryCost 9 = .ok (.istore_n 2, 1) ∧ decode cX10_dryCost 10 = .ok (.iload_n 2, 1) ∧ decode cX10_dryCost 11 = .ok (.bipush 40, 2) := by decide +kernel
theorem zcdX10_dryCost_13 : decode cX10_dryCost 13 = .ok (.if_icmp .ge 45, 3) ∧ decode cX10_dryCost 16 = .ok (.aload_n 0, 1) ∧ decode cX10_dryCost 17 = .ok (.getfield 89, 3) ∧ decode cX10_dryCost 20 = .ok (.iload_n 2, 1) ∧ decode cX10_dryCost 21 = .ok (.aload_n 0, 1) ∧ decode cX10_dryCost 22 = .ok (.iload_n 2, 1) ∧ decode cX10_dryCost 23 = .ok (.iconst 1, 1) ∧ decode cX10_dryCost 24 = .ok (.iload_n 1, 1) := by decide +kernel
theorem zcdX10_dryCost_25 : decode cX10_dryCost 25 = .ok (.invokevirtual 322, 3) ∧ decode cX10_dryCost 28 = .ok (.ifCond .eq 20, 3) ∧ decode cX10_dryCost 31 = .ok (.bipush 100, 2) ∧ decode cX10_dryCost 33 = .ok (.aload_n 0, 1) ∧ decode cX10_dryCost 34 = .ok (.getfield 7, 3) ∧ decode cX10_dryCost 37 = .ok (.bipush 120, 2) ∧ decode cX10_dryCost 39 = .ok (.iload_n 2, 1) ∧ decode cX10_dryCost 40 = .ok (.iadd, 1) := by decide +kernel
theorem zcdX10_dryCost_41 : decode cX10_dryCost 41 = .ok (.iaload, 1) ∧ decode cX10_dryCost 42 = .ok (.imul, 1) ∧ decode cX10_dryCost 43 = .ok (.iconst 1, 1) ∧ decode cX10_dryCost 44 = .ok (.iadd, 1) ∧ decode cX10_dryCost 45 = .ok (.goto 6, 3) ∧ decode cX10_dryCost 48 = .ok (.ldc_w 343, 3) ∧ decode cX10_dryCost 51 = .ok (.iastore, 1) ∧ decode cX10_dryCost 52 = .ok (.iinc 2 1, 3) := by decide +kernel
theorem zcdX10_dryCost_55 : decode cX10_dryCost 55 = .ok (.goto (-45), 3) ∧ decode cX10_dryCost 58 = .ok (.iconst 1, 1) ∧ decode cX10_dryCost 59 = .ok (.istore_n 2, 1) ∧ decode cX10_dryCost 60 = .ok (.iload_n 2, 1) ∧ decode cX10_dryCost 61 = .ok (.ifCond .eq 114, 3) ∧ decode cX10_dryCost 64 = .ok (.iconst 0, 1) ∧ decode cX10_dryCost 65 = .ok (.istore_n 2, 1) ∧ decode cX10_dryCost 66 = .ok (.iconst 0, 1) := by decide +kernel
theorem zcdX10_dryCost_67 : decode cX10_dryCost 67 = .ok (.istore_n 3, 1) ∧ decode cX10_dryCost 68 = .ok (.iload_n 3, 1) ∧ decode cX10_dryCost 69 = .ok (.bipush 40, 2) ∧ decode cX10_dryCost 71 = .ok (.if_icmp .ge 101, 3) ∧ decode cX10_dryCost 74 = .ok (.iconst 0, 1) ∧ decode cX10_dryCost 75 = .ok (.istore 4, 2) ∧ decode cX10_dryCost 77 = .ok (.iload 4, 2) ∧ decode cX10_dryCost 79 = .ok (.bipush 40, 2) := by decide +kernel
theorem zcdX10_dryCost_81 : decode cX10_dryCost 81 = .ok (.if_icmp .ge 85, 3) ∧ decode cX10_dryCost 84 = .ok (.aload_n 0, 1) ∧ decode cX10_dryCost 85 = .ok (.getfield 89, 3) ∧ decode cX10_dryCost 88 = .ok (.iload_n 3, 1) ∧ decode cX10_dryCost 89 = .ok (.iaload, 1) ∧ decode cX10_dryCost 90 = .ok (.ldc_w 343, 3) ∧ decode cX10_dryCost 93 = .ok (.if_icmp .eq 67, 3) ∧ decode cX10_dryCost 96 = .ok (.aload_n 0, 1) := by decide +kernel
theorem zcdX10_dryCost_97 : decode cX10_dryCost 97 = .ok (.iload_n 3, 1) ∧ decode cX10_dryCost 98 = .ok (.iload 4, 2) ∧ decode cX10_dryCost 100 = .ok (.iload_n 1, 1) ∧ decode cX10_dryCost 101 = .ok (.invokevirtual 326, 3) ∧ decode cX10_dryCost 104 = .ok (.ifCond .ne 6, 3) ∧ decode cX10_dryCost 107 = .ok (.goto 53, 3) ∧ decode cX10_dryCost 110 = .ok (.aload_n 0, 1) ∧ decode cX10_dryCost 111 = .ok (.getfield 89, 3) := by decide +kernel
theorem zcdX10_dryCost_114 : decode cX10_dryCost 114 = .ok (.iload_n 3, 1) ∧ decode cX10_dryCost 115 = .ok (.iaload, 1) ∧ decode cX10_dryCost 116 = .ok (.bipush 100, 2) ∧ decode cX10_dryCost 118 = .ok (.aload_n 0, 1) ∧ decode cX10_dryCost 119 = .ok (.getfield 7, 3) ∧ decode cX10_dryCost 122 = .ok (.bipush 120, 2) ∧ decode cX10_dryCost 124 = .ok (.iload 4, 2) ∧ decode cX10_dryCost 126 = .ok (.iadd, 1) := by decide +kernel
theorem zcdX10_dryCost_127 : decode cX10_dryCost 127 = .ok (.iaload, 1) ∧ decode cX10_dryCost 128 = .ok (.imul, 1) ∧ decode cX10_dryCost 129 = .ok (.iadd, 1) ∧ decode cX10_dryCost 130 = .ok (.iconst 1, 1) ∧ decode cX10_dryCost 131 = .ok (.iadd, 1) ∧ decode cX10_dryCost 132 = .ok (.istore 5, 2) ∧ decode cX10_dryCost 134 = .ok (.iload 5, 2) ∧ decode cX10_dryCost 136 = .ok (.aload_n 0, 1) := by decide +kernel
theorem zcdX10_dryCost_137 : decode cX10_dryCost 137 = .ok (.getfield 89, 3) ∧ decode cX10_dryCost 140 = .ok (.iload 4, 2) ∧ decode cX10_dryCost 142 = .ok (.iaload, 1) ∧ decode cX10_dryCost 143 = .ok (.if_icmp .lt 6, 3) ∧ decode cX10_dryCost 146 = .ok (.goto 14, 3) ∧ decode cX10_dryCost 149 = .ok (.aload_n 0, 1) ∧ decode cX10_dryCost 150 = .ok (.getfield 89, 3) ∧ decode cX10_dryCost 153 = .ok (.iload 4, 2) := by decide +kernel
theorem zcdX10_dryCost_155 : decode cX10_dryCost 155 = .ok (.iload 5, 2) ∧ decode cX10_dryCost 157 = .ok (.iastore, 1) ∧ decode cX10_dryCost 158 = .ok (.iconst 1, 1) ∧ decode cX10_dryCost 159 = .ok (.istore_n 2, 1) ∧ decode cX10_dryCost 160 = .ok (.iinc 4 1, 3) ∧ decode cX10_dryCost 163 = .ok (.goto (-86), 3) ∧ decode cX10_dryCost 166 = .ok (.iinc 3 1, 3) ∧ decode cX10_dryCost 169 = .ok (.goto (-101), 3) := by decide +kernel
theorem zcdX10_dryCost_172 : decode cX10_dryCost 172 = .ok (.goto (-112), 3) ∧ decode cX10_dryCost 175 = .ok (.ldc_w 343, 3) ∧ decode cX10_dryCost 178 = .ok (.istore_n 3, 1) ∧ decode cX10_dryCost 179 = .ok (.iconst 0, 1) ∧ decode cX10_dryCost 180 = .ok (.istore 4, 2) ∧ decode cX10_dryCost 182 = .ok (.iload 4, 2) ∧ decode cX10_dryCost 184 = .ok (.bipush 40, 2) ∧ decode cX10_dryCost 186 = .ok (.if_icmp .ge 34, 3) := by decide +kernel
theorem zcdX10_dryCost_189 : decode cX10_dryCost 189 = .ok (.aload_n 0, 1) ∧ decode cX10_dryCost 190 = .ok (.iload 4, 2) ∧ decode cX10_dryCost 192 = .ok (.iconst 0, 1) ∧ decode cX10_dryCost 193 = .ok (.iload_n 1, 1) ∧ decode cX10_dryCost 194 = .ok (.invokevirtual 322, 3) ∧ decode cX10_dryCost 197 = .ok (.ifCond .eq 17, 3) ∧ decode cX10_dryCost 200 = .ok (.iload_n 3, 1) ∧ decode cX10_dryCost 201 = .ok (.aload_n 0, 1) := by decide +kernel
theorem zcdX10_dryCost_202 : decode cX10_dryCost 202 = .ok (.getfield 89, 3) ∧ decode cX10_dryCost 205 = .ok (.iload 4, 2) ∧ decode cX10_dryCost 207 = .ok (.iaload, 1) ∧ decode cX10_dryCost 208 = .ok (.iconst 1, 1) ∧ decode cX10_dryCost 209 = .ok (.iadd, 1) ∧ decode cX10_dryCost 210 = .ok (.invokestatic 125, 3) ∧ decode cX10_dryCost 213 = .ok (.istore_n 3, 1) ∧ decode cX10_dryCost 214 = .ok (.iinc 4 1, 3) := by decide +kernel
theorem zcdX10_dryCost_217 : decode cX10_dryCost 217 = .ok (.goto (-35), 3) ∧ decode cX10_dryCost 220 = .ok (.iload_n 3, 1) ∧ decode cX10_dryCost 221 = .ok (.ireturn, 1) := by decide +kernel
set_option maxHeartbeats 4000000 in
theorem t_X10_has (v0 : Int32) (v1 : Int32) (M : Mem) : AXp yX10_has cX10_has 2 (some .boolean) 0 39 glM (fun ad => [.int v0, .int v1]) M (f_X10_has v0 v1) := by
  intro r0 h
  refine AM.of (by decide) (fun _ => Nat.le_of_ble_eq_true rfl) (fun X ad cI cZ cB hX hR => ?_)
  show V X M [(0, .int v0), (1, .int v1)] [] 0
  refine s_iload_n (k := 0) hX zcdX10_has_0.1 rfl rfl ?_
  refine s_iload_n (k := 1) hX zcdX10_has_0.2.1 rfl rfl ?_
  refine e_ishr hX zcdX10_has_0.2.2.1 ?_
  refine s_iconst (v := (nI 1)) hX zcdX10_has_0.2.2.2.1 (by decide) ?_
  refine s_iand hX zcdX10_has_0.2.2.2.2.1 ?_
  refine s_iconst (v := (nI 1)) hX zcdX10_has_0.2.2.2.2.2.1 (by decide) ?_
  refine e_icmp_ne (tgt := 13) hX zcdX10_has_0.2.2.2.2.2.2.1 (by decide) (m_eq (by decide +kernel)) h (fun h => ?_) (fun h => ?_)
  · refine s_iconst (v := (nI 0)) hX zcdX10_has_10.2.1 (by decide) ?_
    exact e_zretpL hX hR zcdX10_has_10.2.2.1 (by decide) h
  · refine s_iconst (v := (nI 1)) hX zcdX10_has_0.2.2.2.2.2.2.2 (by decide) ?_
    refine s_goto (tgt := 14) hX zcdX10_has_10.1 (by decide) ?_
    exact e_zretpL hX hR zcdX10_has_10.2.2.1 (by decide) h
set_option maxHeartbeats 4000000 in
theorem t_X10_isPerson (v1 : Int32) (M : Mem) : AXp yX10_isPerson cX10_isPerson 2 (some .boolean) 1 39 glM (fun ad => [.ref (ad 0), .int v1]) M (f_X10_isPerson M v1) := by
  intro r0 h
  refine AM.of (by decide) (fun _ => Nat.le_of_ble_eq_true rfl) (fun X ad cI cZ cB hX hR => ?_)
  show V X M [(0, .ref (ad 0)), (1, .int v1)] [] 0
  refine s_iload_n (k := 1) hX zcdX10_has_10.2.2.2.1 rfl rfl ?_
  refine s_iconst (v := (nI 0)) hX zcdX10_has_10.2.2.2.2.1 (by decide) ?_
  refine s_bipush (v := (nI 7)) hX zcdX10_has_10.2.2.2.2.2.1 (by decide) ?_
  refine e_callSp hX (t_X10_in v1 (nI 0) (nI 7) M) mX10_in lX10_132 (by decide) (by decide) rfl rfl (Nat.le_of_ble_eq_true rfl) zcdX10_has_10.2.2.2.2.2.2.1 h (fun r_1 h => ?_)
  refine e_if_eq (tgt := 25) hX zcdX10_has_10.2.2.2.2.2.2.2 (by decide) z_eq h (fun h => ?_) (fun h => ?_)
  · refine s_iconst (v := (nI 0)) hX zcdX10_isPerson_10.2.2.2.2.2.2.2 (by decide) ?_
    exact e_zretpL hX hR zcdX10_isPerson_26.1 (by decide) h
  · refine s_aload_n (k := 0) hX zcdX10_isPerson_10.1 rfl rfl ?_
    refine s_get hX fX10_136 oM0 rfl zcdX10_isPerson_10.2.1 ?_
    refine s_iload_n (k := 1) hX zcdX10_isPerson_10.2.2.1 rfl rfl ?_
    refine e_callSp hX (t_X10_has (M 0 4) v1 M) mX10_has lX10_140 (by decide) (by decide) rfl rfl (Nat.le_of_ble_eq_true rfl) zcdX10_isPerson_10.2.2.2.1 h (fun r_2 h => ?_)
    refine e_if_eq (tgt := 25) hX zcdX10_isPerson_10.2.2.2.2.1 (by decide) z_eq h (fun h => ?_) (fun h => ?_)
    · refine s_iconst (v := (nI 0)) hX zcdX10_isPerson_10.2.2.2.2.2.2.2 (by decide) ?_
      exact e_zretpL hX hR zcdX10_isPerson_26.1 (by decide) h
    · refine s_iconst (v := (nI 1)) hX zcdX10_isPerson_10.2.2.2.2.2.1 (by decide) ?_
      refine s_goto (tgt := 26) hX zcdX10_isPerson_10.2.2.2.2.2.2.1 (by decide) ?_
      exact e_zretpL hX hR zcdX10_isPerson_26.1 (by decide) h
set_option maxHeartbeats 4000000 in
theorem t_X10_count (v1 : Int32) (M : Mem) : AXp yX10_count cX10_count 2 (some .int) 3 39 glM (fun ad => [.ref (ad 0), .int v1]) M (f_X10_count M v1) := by
  intro r0 h
  refine AM.of (by decide) (fun _ => Nat.le_of_ble_eq_true rfl) (fun X ad cI cZ cB hX hR => ?_)
  show V X M [(0, .ref (ad 0)), (1, .int v1)] [] 0
  refine s_iload_n (k := 1) hX zcdX10_isPerson_26.2.1 rfl rfl ?_
  refine e_if h (fun c0 h => ?_) (fun c0 h => ?_)
  · refine s_tabIn (tgt := 44) (off := 43) hX zcdX10_isPerson_26.2.2.1 (by omega) (by omega) (by rw [c0]; rfl) (by decide) ?_
    refine s_aload_n (k := 0) hX zcdX10_isPerson_26.2.2.2.1 rfl rfl ?_
    refine s_get hX fX10_7 oM0 rfl zcdX10_isPerson_26.2.2.2.2.1 ?_
    refine s_sipush (v := (nI 200)) hX zcdX10_isPerson_26.2.2.2.2.2.1 (by decide) ?_
    refine s_ialdN hX aM1 (by decide) zcdX10_isPerson_26.2.2.2.2.2.2.1 ?_
    exact e_iretp hX hR zcdX10_isPerson_26.2.2.2.2.2.2.2 h
  refine e_if h (fun c1 h => ?_) (fun c1 h => ?_)
  · refine s_tabIn (tgt := 53) (off := 52) hX zcdX10_isPerson_26.2.2.1 (by omega) (by omega) (by rw [c1]; rfl) (by decide) ?_
    refine s_aload_n (k := 0) hX zcdX10_count_53.1 rfl rfl ?_
    refine s_iconst (v := (nI 0)) hX zcdX10_count_53.2.1 (by decide) ?_
    refine e_callVp hX (t_X10_sumOf (nI 0) M) mX10_sumOf lX10_312 (by decide) (by decide) oM0 rfl rfl rfl rfl rfl (Nat.le_of_ble_eq_true rfl) zcdX10_count_53.2.2.1 h (fun r_1 h => ?_)
    exact e_iretp hX hR zcdX10_count_53.2.2.2.1 h
  refine e_if h (fun c2 h => ?_) (fun c2 h => ?_)
  · refine s_tabIn (tgt := 59) (off := 58) hX zcdX10_isPerson_26.2.2.1 (by omega) (by omega) (by rw [c2]; rfl) (by decide) ?_
    refine s_aload_n (k := 0) hX zcdX10_count_53.2.2.2.2.1 rfl rfl ?_
    refine s_sipush (v := (nI 160)) hX zcdX10_count_53.2.2.2.2.2.1 (by decide) ?_
    refine e_callVp hX (t_X10_sumOf (nI 160) M) mX10_sumOf lX10_312 (by decide) (by decide) oM0 rfl rfl rfl rfl rfl (Nat.le_of_ble_eq_true rfl) zcdX10_count_53.2.2.2.2.2.2.1 h (fun r_2 h => ?_)
    exact e_iretp hX hR zcdX10_count_53.2.2.2.2.2.2.2 h
  refine e_if h (fun c3 h => ?_) (fun c3 h => ?_)
  · refine s_tabIn (tgt := 67) (off := 66) hX zcdX10_isPerson_26.2.2.1 (by omega) (by omega) (by rw [c3]; rfl) (by decide) ?_
    refine s_aload_n (k := 0) hX zcdX10_count_67.1 rfl rfl ?_
    refine s_get hX fX10_136 oM0 rfl zcdX10_count_67.2.1 ?_
    exact e_iretp hX hR zcdX10_count_67.2.2.1 h
  refine e_if h (fun c4 h => ?_) (fun c4 h => ?_)
  · refine s_tabIn (tgt := 72) (off := 71) hX zcdX10_isPerson_26.2.2.1 (by omega) (by omega) (by rw [c4]; rfl) (by decide) ?_
    refine s_aload_n (k := 0) hX zcdX10_count_67.2.2.2.1 rfl rfl ?_
    refine s_get hX fX10_258 oM0 rfl zcdX10_count_67.2.2.2.2.1 ?_
    exact e_iretp hX hR zcdX10_count_67.2.2.2.2.2.1 h
  refine e_if h (fun c5 h => ?_) (fun c5 h => ?_)
  · refine s_tabIn (tgt := 77) (off := 76) hX zcdX10_isPerson_26.2.2.1 (by omega) (by omega) (by rw [c5]; rfl) (by decide) ?_
    refine s_aload_n (k := 0) hX zcdX10_count_67.2.2.2.2.2.2.1 rfl rfl ?_
    refine s_get hX fX10_158 oM0 rfl zcdX10_count_67.2.2.2.2.2.2.2 ?_
    exact e_iretp hX hR zcdX10_count_81.1 h
  refine e_if h (fun c6 h => ?_) (fun c6 h => ?_)
  · refine s_tabIn (tgt := 82) (off := 81) hX zcdX10_isPerson_26.2.2.1 (by omega) (by omega) (by rw [c6]; rfl) (by decide) ?_
    refine s_aload_n (k := 0) hX zcdX10_count_81.2.1 rfl rfl ?_
    refine s_get hX fX10_7 oM0 rfl zcdX10_count_81.2.2.1 ?_
    refine s_sipush (v := (nI 201)) hX zcdX10_count_81.2.2.2.1 (by decide) ?_
    refine s_ialdN hX aM1 (by decide) zcdX10_count_81.2.2.2.2.1 ?_
    exact e_iretp hX hR zcdX10_count_81.2.2.2.2.2.1 h
  refine s_tabOut (tgt := 91) hX zcdX10_isPerson_26.2.2.1 (by omega) (by decide) ?_
  refine s_aload_n (k := 0) hX zcdX10_count_81.2.2.2.2.2.2.1 rfl rfl ?_
  refine s_iload_n (k := 1) hX zcdX10_count_81.2.2.2.2.2.2.2 rfl rfl ?_
  refine s_bipush (v := (nI 10)) hX zcdX10_count_93.1 (by decide) ?_
  refine s_isub hX zcdX10_count_93.2.1 ?_
  refine e_callVp hX (t_X10_isPerson (v1 - (nI 10)) M) mX10_isPerson lX10_334 (by decide) (by decide) oM0 rfl rfl rfl rfl rfl (Nat.le_of_ble_eq_true rfl) zcdX10_count_93.2.2.1 h (fun r_3 h => ?_)
  refine e_if_eq (tgt := 114) hX zcdX10_count_93.2.2.2.1 (by decide) z_eq h (fun h => ?_) (fun h => ?_)
  · refine s_iconst (v := (-1)) hX zcdX10_count_109.2.2.2.1 (by decide) ?_
    exact e_iretp hX hR zcdX10_count_109.2.2.2.2.1 h
  · refine s_aload_n (k := 0) hX zcdX10_count_93.2.2.2.2.1 rfl rfl ?_
    refine s_get hX fX10_19 oM0 rfl zcdX10_count_93.2.2.2.2.2.1 ?_
    refine s_iload_n (k := 1) hX zcdX10_count_93.2.2.2.2.2.2.1 rfl rfl ?_
    refine s_bipush (v := (nI 10)) hX zcdX10_count_93.2.2.2.2.2.2.2 (by decide) ?_
    refine s_isub hX zcdX10_count_109.1 ?_
    refine e_iald hX aM4 zcdX10_count_109.2.1 h (fun h => ?_)
    refine s_goto (tgt := 115) hX zcdX10_count_109.2.2.1 (by decide) ?_
    exact e_iretp hX hR zcdX10_count_109.2.2.2.2.1 h
set_option maxHeartbeats 4000000 in
theorem t_X10_isByBank (v1 : Int32) (v2 : Int32) (v3 : Int32) (M : Mem) : AXp yX10_isByBank cX10_isByBank 5 (some .boolean) 1 39 glM (fun ad => [.ref (ad 0), .int v1, .int v2, .int v3]) M (f_X10_isByBank M v1 v2 v3) := by
  intro r0 h
  refine AM.of (by decide) (fun _ => Nat.le_of_ble_eq_true rfl) (fun X ad cI cZ cB hX hR => ?_)
  show V X M [(0, .ref (ad 0)), (1, .int v1), (2, .int v2), (3, .int v3)] [] 0
  refine s_iload_n (k := 2) hX zcdX10_count_109.2.2.2.2.2.1 rfl rfl ?_
  have j28 : ∀ (t0_28 : Int32), f_X10_isByBank_L28 M v1 v3 t0_28 = some r0 → V X M [(0, .ref (ad 0)), (1, .int v1), (3, .int v3)] [.int t0_28] 28 := by
    intro t0_28 h
    refine s_istore (lv' := [(0, .ref (ad 0)), (1, .int v1), (3, .int v3), (4, .int t0_28)]) hX zcdX10_isByBank_19.2.2.2.2.2.2.1 (by decide) rfl ?_
    refine s_aload_n (k := 0) hX zcdX10_isByBank_19.2.2.2.2.2.2.2 rfl rfl ?_
    refine s_iload_n (k := 1) hX zcdX10_isByBank_31.1 rfl rfl ?_
    refine e_callVp hX (t_X10_isDry v1 M) mX10_isDry lX10_319 (by decide) (by decide) oM0 rfl rfl rfl rfl rfl (Nat.le_of_ble_eq_true rfl) zcdX10_isByBank_31.2.1 h (fun r_1 h => ?_)
    refine e_if_eq (tgt := 48) hX zcdX10_isByBank_31.2.2.1 (by decide) z_eq h (fun h => ?_) (fun h => ?_)
    · refine s_iconst (v := (nI 0)) hX zcdX10_isByBank_48.1 (by decide) ?_
      exact e_zretpL hX hR zcdX10_isByBank_48.2.1 (by decide) h
    · refine s_iload (k := 3) hX zcdX10_isByBank_31.2.2.2.1 rfl ?_
      refine s_iload_n (k := 2) hX zcdX10_isByBank_31.2.2.2.2.1 rfl rfl ?_
      refine e_icmp_gt (tgt := 48) hX zcdX10_isByBank_31.2.2.2.2.2.1 (by decide) r_lt h (fun h => ?_) (fun h => ?_)
      · refine s_iconst (v := (nI 0)) hX zcdX10_isByBank_48.1 (by decide) ?_
        exact e_zretpL hX hR zcdX10_isByBank_48.2.1 (by decide) h
      · refine s_iconst (v := (nI 1)) hX zcdX10_isByBank_31.2.2.2.2.2.2.1 (by decide) ?_
        refine s_goto (tgt := 49) hX zcdX10_isByBank_31.2.2.2.2.2.2.2 (by decide) ?_
        exact e_zretpL hX hR zcdX10_isByBank_48.2.1 (by decide) h
  refine e_if_eq (tgt := 16) hX zcdX10_count_109.2.2.2.2.2.2.1 (by decide) z_eq h (fun h => ?_) (fun h => ?_)
  · refine s_bipush (v := (nI 21)) hX zcdX10_isByBank_5.2.2.2.2.2.2.1 (by decide) ?_
    refine s_aload_n (k := 0) hX zcdX10_isByBank_5.2.2.2.2.2.2.2 rfl rfl ?_
    refine s_get hX fX10_7 oM0 rfl zcdX10_isByBank_19.1 ?_
    refine s_bipush (v := (nI 80)) hX zcdX10_isByBank_19.2.1 (by decide) ?_
    refine s_iload_n (k := 1) hX zcdX10_isByBank_19.2.2.1 rfl rfl ?_
    refine s_iadd hX zcdX10_isByBank_19.2.2.2.1 ?_
    refine e_iald hX aM1 zcdX10_isByBank_19.2.2.2.2.1 h (fun h => ?_)
    refine s_isub hX zcdX10_isByBank_19.2.2.2.2.2.1 ?_
    refine s_loc [0, 1, 3] rfl ?_
    exact j28 ((nI 21) - (M 1 (ix ((nI 80) + v1)))) h
  · refine s_aload_n (k := 0) hX zcdX10_count_109.2.2.2.2.2.2.2 rfl rfl ?_
    refine s_get hX fX10_7 oM0 rfl zcdX10_isByBank_5.1 ?_
    refine s_bipush (v := (nI 80)) hX zcdX10_isByBank_5.2.1 (by decide) ?_
    refine s_iload_n (k := 1) hX zcdX10_isByBank_5.2.2.1 rfl rfl ?_
    refine s_iadd hX zcdX10_isByBank_5.2.2.2.1 ?_
    refine e_iald hX aM1 zcdX10_isByBank_5.2.2.2.2.1 h (fun h => ?_)
    refine s_goto (tgt := 28) hX zcdX10_isByBank_5.2.2.2.2.2.1 (by decide) ?_
    refine s_loc [0, 1, 3] rfl ?_
    exact j28 (M 1 (ix ((nI 80) + v1))) h
set_option maxHeartbeats 4000000 in
theorem t_X10_laysSteps (k len_k : Nat) (hk : ∀ {ad : Nat → Nat} {cI cZ cB : ClassId}, IA (glM ad cI cZ cB) 39 k cI len_k) (hlk : len_k < 2 ^ 31) (v2 : Int32) (v3 : Int32) (M : Mem) : AXv yX10_laysSteps cX10_laysSteps 8 none 2 39 glM (fun ad => [.ref (ad 0), .ref (ad k), .int v2, .int v3]) M (f_X10_laysSteps k len_k M v2 v3) := by
  intro r0 h
  refine AM.of (by decide) (fun _ => Nat.le_of_ble_eq_true rfl) (fun X ad cI cZ cB hX hR => ?_)
  show V X M [(0, .ref (ad 0)), (1, .ref (ad k)), (2, .int v2), (3, .int v3)] [] 0
  refine s_iconst (v := (nI 0)) hX zcdX10_isByBank_48.2.2.1 (by decide) ?_
  refine s_istore (lv' := [(0, .ref (ad 0)), (1, .ref (ad k)), (2, .int v2), (3, .int v3), (4, .int (nI 0))]) hX zcdX10_isByBank_48.2.2.2.1 (by decide) rfl ?_
  refine s_iconst (v := (nI 0)) hX zcdX10_isByBank_48.2.2.2.2.1 (by decide) ?_
  refine s_istore (lv' := [(0, .ref (ad 0)), (1, .ref (ad k)), (2, .int v2), (3, .int v3), (4, .int (nI 0)), (5, .int (nI 0))]) hX zcdX10_isByBank_48.2.2.2.2.2.1 (by decide) rfl ?_
  have lp6 : ∀ (N6 : Nat) (M6 : Mem) (y4_6 : Int32) (y5_6 : Int32), wlp3 (f_X10_laysSteps_B6 k len_k v2 v3) N6 M6 y4_6 y5_6 = some r0 → V X M6 [(0, .ref (ad 0)), (1, .ref (ad k)), (2, .int v2), (3, .int v3), (4, .int y4_6), (5, .int y5_6)] [] 6 := by
    intro N6
    induction N6 with
    | zero => exact fun _ _ _ h => e_none h
    | succ N6 ih6 =>
      intro M6 y4_6 y5_6 h
      replace h : f_X10_laysSteps_B6 k len_k v2 v3 (wlp3 (f_X10_laysSteps_B6 k len_k v2 v3) N6) M6 y4_6 y5_6 = some r0 := h
      generalize wlp3 (f_X10_laysSteps_B6 k len_k v2 v3) N6 = ag6 at ih6 h
      refine s_iload (k := 5) hX zcdX10_isByBank_48.2.2.2.2.2.2.1 rfl ?_
      refine s_bipush (v := (nI 40)) hX zcdX10_isByBank_48.2.2.2.2.2.2.2 (by decide) ?_
      have j65 : f_X10_laysSteps_L65 k len_k v3 M6 y4_6 = some r0 → V X M6 [(0, .ref (ad 0)), (1, .ref (ad k)), (3, .int v3), (4, .int y4_6)] [] 65 := by
        intro  h
        refine s_iconst (v := (nI 0)) hX zcdX10_laysSteps_53.2.2.2.2.2.2.1 (by decide) ?_
        refine s_istore (lv' := [(0, .ref (ad 0)), (1, .ref (ad k)), (3, .int v3), (4, .int y4_6), (5, .int (nI 0))]) hX zcdX10_laysSteps_53.2.2.2.2.2.2.2 (by decide) rfl ?_
        have lp68 : ∀ (N68 : Nat) (M68 : Mem) (y4_68 : Int32) (y5_68 : Int32), wlp3 (f_X10_laysSteps_B68 k len_k v3) N68 M68 y4_68 y5_68 = some r0 → V X M68 [(0, .ref (ad 0)), (1, .ref (ad k)), (3, .int v3), (4, .int y4_68), (5, .int y5_68)] [] 68 := by
          intro N68
          induction N68 with
          | zero => exact fun _ _ _ h => e_none h
          | succ N68 ih68 =>
            intro M68 y4_68 y5_68 h
            replace h : f_X10_laysSteps_B68 k len_k v3 (wlp3 (f_X10_laysSteps_B68 k len_k v3) N68) M68 y4_68 y5_68 = some r0 := h
            generalize wlp3 (f_X10_laysSteps_B68 k len_k v3) N68 = ag68 at ih68 h
            refine s_iload (k := 4) hX zcdX10_laysSteps_68.1 rfl ?_
            refine s_iload (k := 3) hX zcdX10_laysSteps_68.2.1 rfl ?_
            refine e_icmp_ge (tgt := 154) hX zcdX10_laysSteps_68.2.2.1 (by decide) r_le h (fun h => ?_) (fun h => ?_)
            · exact e_vret hX hR zcdX10_laysSteps_139.2.2.2.2.2.2.1 h
            · refine s_aload_n (k := 0) hX zcdX10_laysSteps_68.2.2.2.1 rfl rfl ?_
              refine s_get hX fX10_83 oM0 rfl zcdX10_laysSteps_68.2.2.2.2.1 ?_
              refine s_iload (k := 4) hX zcdX10_laysSteps_68.2.2.2.2.2.1 rfl ?_
              refine e_iald hX aM25 zcdX10_laysSteps_68.2.2.2.2.2.2.1 h (fun h => ?_)
              refine e_bnd h (fun x_1 h => ?_)
              refine s_istore (lv' := [(0, .ref (ad 0)), (1, .ref (ad k)), (3, .int v3), (4, .int y4_68), (5, .int y5_68), (6, .int x_1)]) hX zcdX10_laysSteps_68.2.2.2.2.2.2.2 (by decide) rfl ?_
              refine s_iconst (v := (nI 0)) hX zcdX10_laysSteps_84.1 (by decide) ?_
              refine s_istore (lv' := [(0, .ref (ad 0)), (1, .ref (ad k)), (3, .int v3), (4, .int y4_68), (5, .int y5_68), (6, .int x_1), (7, .int (nI 0))]) hX zcdX10_laysSteps_84.2.1 (by decide) rfl ?_
              have lp87 : ∀ (N87 : Nat) (M87 : Mem) (y4_87 : Int32) (y7_87 : Int32), wlp3 (f_X10_laysSteps_B87 k len_k v3 ag68 y5_68 x_1) N87 M87 y4_87 y7_87 = some r0 → V X M87 [(0, .ref (ad 0)), (1, .ref (ad k)), (3, .int v3), (4, .int y4_87), (5, .int y5_68), (6, .int x_1), (7, .int y7_87)] [] 87 := by
                intro N87
                induction N87 with
                | zero => exact fun _ _ _ h => e_none h
                | succ N87 ih87 =>
                  intro M87 y4_87 y7_87 h
                  replace h : f_X10_laysSteps_B87 k len_k v3 ag68 y5_68 x_1 (wlp3 (f_X10_laysSteps_B87 k len_k v3 ag68 y5_68 x_1) N87) M87 y4_87 y7_87 = some r0 := h
                  generalize wlp3 (f_X10_laysSteps_B87 k len_k v3 ag68 y5_68 x_1) N87 = ag87 at ih87 h
                  refine s_iload (k := 6) hX zcdX10_laysSteps_84.2.2.1 rfl ?_
                  refine s_bipush (v := (nI 40)) hX zcdX10_laysSteps_84.2.2.2.1 (by decide) ?_
                  refine e_icmp_ge (tgt := 148) hX zcdX10_laysSteps_84.2.2.2.2.1 (by decide) (m_ge (by decide +kernel)) h (fun h => ?_) (fun h => ?_)
                  · refine s_iinc (k := 4) (v := (y5_68 + (nI 1))) (lv' := [(0, .ref (ad 0)), (1, .ref (ad k)), (3, .int v3), (4, .int y4_87), (6, .int x_1), (7, .int y7_87), (5, .int (y5_68 + (nI 1)))]) hX zcdX10_laysSteps_139.2.2.2.2.1 (congrArg (fun z => y5_68 + z) (by decide)) (by decide) rfl rfl ?_
                    refine s_goto (tgt := 68) hX zcdX10_laysSteps_139.2.2.2.2.2.1 (by decide) ?_
                    refine s_loc [0, 1, 2, 3, 6] rfl ?_
                    exact ih68 M87 y4_87 (y5_68 + (nI 1)) h
                  · refine s_aload_n (k := 1) hX zcdX10_laysSteps_84.2.2.2.2.2.1 rfl rfl ?_
                    refine s_iload (k := 6) hX zcdX10_laysSteps_84.2.2.2.2.2.2.1 rfl ?_
                    refine e_iald hX hk zcdX10_laysSteps_84.2.2.2.2.2.2.2 h (fun h => ?_)
                    refine s_iconst (v := (-1)) hX zcdX10_laysSteps_98.1 (by decide) ?_
                    refine e_icmp_ne (tgt := 142) hX zcdX10_laysSteps_98.2.1 (by decide) (m_eq (by decide +kernel)) h (fun h => ?_) (fun h => ?_)
                    · refine s_iinc (k := 6) (v := (y7_87 + (nI 1))) (lv' := [(0, .ref (ad 0)), (1, .ref (ad k)), (3, .int v3), (4, .int y4_87), (5, .int y5_68), (6, .int x_1), (7, .int (y7_87 + (nI 1)))]) hX zcdX10_laysSteps_139.2.2.1 (congrArg (fun z => y7_87 + z) (by decide)) (by decide) rfl rfl ?_
                      refine s_goto (tgt := 87) hX zcdX10_laysSteps_139.2.2.2.1 (by decide) ?_
                      exact ih87 M87 y4_87 (y7_87 + (nI 1)) h
                    · refine s_aload_n (k := 0) hX zcdX10_laysSteps_98.2.2.1 rfl rfl ?_
                      refine s_iload (k := 5) hX zcdX10_laysSteps_98.2.2.2.1 rfl ?_
                      refine s_iload (k := 6) hX zcdX10_laysSteps_98.2.2.2.2.1 rfl ?_
                      refine s_iload_n (k := 2) hX zcdX10_laysSteps_98.2.2.2.2.2.1 rfl rfl ?_
                      refine e_callVp hX (t_X10_canStep x_1 y7_87 v3 M87) mX10_canStep lX10_326 (by decide) (by decide) oM0 rfl rfl rfl rfl rfl (Nat.le_of_ble_eq_true rfl) zcdX10_laysSteps_98.2.2.2.2.2.2.1 h (fun r_2 h => ?_)
                      refine e_if_ne (tgt := 117) hX zcdX10_laysSteps_98.2.2.2.2.2.2.2 (by decide) z_eq h (fun h => ?_) (fun h => ?_)
                      · refine s_aload_n (k := 1) hX zcdX10_laysSteps_114.2.1 rfl rfl ?_
                        refine s_iload (k := 6) hX zcdX10_laysSteps_114.2.2.1 rfl ?_
                        refine s_aload_n (k := 1) hX zcdX10_laysSteps_114.2.2.2.1 rfl rfl ?_
                        refine s_iload (k := 5) hX zcdX10_laysSteps_114.2.2.2.2.1 rfl ?_
                        refine e_iald hX hk zcdX10_laysSteps_114.2.2.2.2.2.1 h (fun h => ?_)
                        refine s_iconst (v := (nI 1)) hX zcdX10_laysSteps_114.2.2.2.2.2.2.1 (by decide) ?_
                        refine s_iadd hX zcdX10_laysSteps_114.2.2.2.2.2.2.2 ?_
                        refine e_iast hX hk zcdX10_laysSteps_126.1 h (fun h => ?_)
                        refine e_bndM h (fun M_3 h => ?_)
                        refine s_aload_n (k := 0) hX zcdX10_laysSteps_126.2.1 rfl rfl ?_
                        refine s_get hX fX10_83 oM0 rfl zcdX10_laysSteps_126.2.2.1 ?_
                        refine s_iload (k := 3) hX zcdX10_laysSteps_126.2.2.2.1 rfl ?_
                        refine s_iload (k := 6) hX zcdX10_laysSteps_126.2.2.2.2.1 rfl ?_
                        refine e_iast hX aM25 zcdX10_laysSteps_126.2.2.2.2.2.1 h (fun h => ?_)
                        refine e_bndM h (fun M_4 h => ?_)
                        refine s_iload (k := 3) hX zcdX10_laysSteps_126.2.2.2.2.2.2.1 rfl ?_
                        refine s_iconst (v := (nI 1)) hX zcdX10_laysSteps_126.2.2.2.2.2.2.2 (by decide) ?_
                        refine s_iadd hX zcdX10_laysSteps_139.1 ?_
                        refine s_istore (lv' := [(0, .ref (ad 0)), (1, .ref (ad k)), (3, .int v3), (5, .int y5_68), (6, .int x_1), (7, .int y7_87), (4, .int (y4_87 + (nI 1)))]) hX zcdX10_laysSteps_139.2.1 (by decide) rfl ?_
                        refine s_iinc (k := 5) (v := (y7_87 + (nI 1))) (lv' := [(0, .ref (ad 0)), (1, .ref (ad k)), (3, .int v3), (5, .int y5_68), (6, .int x_1), (4, .int (y4_87 + (nI 1))), (7, .int (y7_87 + (nI 1)))]) hX zcdX10_laysSteps_139.2.2.1 (congrArg (fun z => y7_87 + z) (by decide)) (by decide) rfl rfl ?_
                        refine s_goto (tgt := 87) hX zcdX10_laysSteps_139.2.2.2.1 (by decide) ?_
                        refine s_loc [0, 1, 2, 5, 3, 4, 6] rfl ?_
                        exact ih87 M_4 (y4_87 + (nI 1)) (y7_87 + (nI 1)) h
                      · refine s_goto (tgt := 142) hX zcdX10_laysSteps_114.1 (by decide) ?_
                        refine s_iinc (k := 6) (v := (y7_87 + (nI 1))) (lv' := [(0, .ref (ad 0)), (1, .ref (ad k)), (3, .int v3), (4, .int y4_87), (5, .int y5_68), (6, .int x_1), (7, .int (y7_87 + (nI 1)))]) hX zcdX10_laysSteps_139.2.2.1 (congrArg (fun z => y7_87 + z) (by decide)) (by decide) rfl rfl ?_
                        refine s_goto (tgt := 87) hX zcdX10_laysSteps_139.2.2.2.1 (by decide) ?_
                        exact ih87 M87 y4_87 (y7_87 + (nI 1)) h
              exact lp87 FU M68 y4_68 (nI 0) h
        exact lp68 FU M6 y4_6 (nI 0) h
      refine e_icmp_ge (tgt := 65) hX zcdX10_laysSteps_10.1 (by decide) (m_ge (by decide +kernel)) h (fun h => ?_) (fun h => ?_)
      · refine s_loc [0, 1, 3, 4] rfl ?_
        exact j65 h
      · refine s_aload_n (k := 1) hX zcdX10_laysSteps_10.2.1 rfl rfl ?_
        refine s_iload (k := 5) hX zcdX10_laysSteps_10.2.2.1 rfl ?_
        refine s_aload_n (k := 0) hX zcdX10_laysSteps_10.2.2.2.1 rfl rfl ?_
        refine s_iload (k := 5) hX zcdX10_laysSteps_10.2.2.2.2.1 rfl ?_
        refine s_iload_n (k := 2) hX zcdX10_laysSteps_10.2.2.2.2.2.1 rfl rfl ?_
        refine s_iload_n (k := 3) hX zcdX10_laysSteps_10.2.2.2.2.2.2.1 rfl rfl ?_
        refine e_callVp hX (t_X10_isByBank y5_6 v2 v3 M6) mX10_isByBank lX10_322 (by decide) (by decide) oM0 rfl rfl rfl rfl rfl (Nat.le_of_ble_eq_true rfl) zcdX10_laysSteps_10.2.2.2.2.2.2.2 h (fun r_5 h => ?_)
        have j32 : ∀ (t0_32 : Int32), f_X10_laysSteps_L32 k len_k ag6 M6 y4_6 y5_6 t0_32 = some r0 → V X M6 [(0, .ref (ad 0)), (1, .ref (ad k)), (2, .int v2), (3, .int v3), (4, .int y4_6), (5, .int y5_6)] [.int t0_32, .int y5_6, .ref (ad k)] 32 := by
          intro t0_32 h
          refine e_iast hX hk zcdX10_laysSteps_24.2.2.2.2.1 h (fun h => ?_)
          refine e_bndM h (fun M_6 h => ?_)
          refine s_aload_n (k := 1) hX zcdX10_laysSteps_24.2.2.2.2.2.1 rfl rfl ?_
          refine s_iload (k := 5) hX zcdX10_laysSteps_24.2.2.2.2.2.2.1 rfl ?_
          refine e_iald hX hk zcdX10_laysSteps_24.2.2.2.2.2.2.2 h (fun h => ?_)
          refine s_iconst (v := (-1)) hX zcdX10_laysSteps_37.1 (by decide) ?_
          refine e_icmp_ne (tgt := 44) hX zcdX10_laysSteps_37.2.1 (by decide) (m_eq (by decide +kernel)) h (fun h => ?_) (fun h => ?_)
          · refine s_aload_n (k := 0) hX zcdX10_laysSteps_37.2.2.2.1 rfl rfl ?_
            refine s_get hX fX10_83 oM0 rfl zcdX10_laysSteps_37.2.2.2.2.1 ?_
            refine s_iload (k := 4) hX zcdX10_laysSteps_37.2.2.2.2.2.1 rfl ?_
            refine s_iload (k := 5) hX zcdX10_laysSteps_37.2.2.2.2.2.2.1 rfl ?_
            refine e_iast hX aM25 zcdX10_laysSteps_37.2.2.2.2.2.2.2 h (fun h => ?_)
            refine e_bndM h (fun M_7 h => ?_)
            refine s_iload (k := 4) hX zcdX10_laysSteps_53.1 rfl ?_
            refine s_iconst (v := (nI 1)) hX zcdX10_laysSteps_53.2.1 (by decide) ?_
            refine s_iadd hX zcdX10_laysSteps_53.2.2.1 ?_
            refine s_istore (lv' := [(0, .ref (ad 0)), (1, .ref (ad k)), (2, .int v2), (3, .int v3), (5, .int y5_6), (4, .int (y4_6 + (nI 1)))]) hX zcdX10_laysSteps_53.2.2.2.1 (by decide) rfl ?_
            refine s_iinc (k := 4) (v := (y5_6 + (nI 1))) (lv' := [(0, .ref (ad 0)), (1, .ref (ad k)), (2, .int v2), (3, .int v3), (4, .int (y4_6 + (nI 1))), (5, .int (y5_6 + (nI 1)))]) hX zcdX10_laysSteps_53.2.2.2.2.1 (congrArg (fun z => y5_6 + z) (by decide)) (by decide) rfl rfl ?_
            refine s_goto (tgt := 6) hX zcdX10_laysSteps_53.2.2.2.2.2.1 (by decide) ?_
            exact ih6 M_7 (y4_6 + (nI 1)) (y5_6 + (nI 1)) h
          · refine s_goto (tgt := 59) hX zcdX10_laysSteps_37.2.2.1 (by decide) ?_
            refine s_iinc (k := 5) (v := (y5_6 + (nI 1))) (lv' := [(0, .ref (ad 0)), (1, .ref (ad k)), (2, .int v2), (3, .int v3), (4, .int y4_6), (5, .int (y5_6 + (nI 1)))]) hX zcdX10_laysSteps_53.2.2.2.2.1 (congrArg (fun z => y5_6 + z) (by decide)) (by decide) rfl rfl ?_
            refine s_goto (tgt := 6) hX zcdX10_laysSteps_53.2.2.2.2.2.1 (by decide) ?_
            exact ih6 M_6 y4_6 (y5_6 + (nI 1)) h
        refine e_if_eq (tgt := 31) hX zcdX10_laysSteps_24.1 (by decide) z_eq h (fun h => ?_) (fun h => ?_)
        · refine s_iconst (v := (-1)) hX zcdX10_laysSteps_24.2.2.2.1 (by decide) ?_
          exact j32 (-1) h
        · refine s_iconst (v := (nI 1)) hX zcdX10_laysSteps_24.2.1 (by decide) ?_
          refine s_goto (tgt := 32) hX zcdX10_laysSteps_24.2.2.1 (by decide) ?_
          exact j32 (nI 1) h
  exact lp6 FU M (nI 0) (nI 0) h
set_option maxHeartbeats 4000000 in
theorem t_X10_crossing (v1 : Int32) (M : Mem) : AXi yX10_crossing cX10_crossing 4 (some .int) 3 39 glM (fun ad => [.ref (ad 0), .int v1]) M (f_X10_crossing M v1) := by
  intro r0 h
  refine AM.of (by decide) (fun _ => Nat.le_of_ble_eq_true rfl) (fun X ad cI cZ cB hX hR => ?_)
  show V X M [(0, .ref (ad 0)), (1, .int v1)] [] 0
  refine s_iload_n (k := 1) hX zcdX10_laysSteps_139.2.2.2.2.2.2.2 rfl rfl ?_
  refine s_bipush (v := (nI 21)) hX zcdX10_crossing_1.1 (by decide) ?_
  refine e_icmp_lt (tgt := 8) hX zcdX10_crossing_1.2.1 (by decide) (m_lt (by decide +kernel)) h (fun h => ?_) (fun h => ?_)
  · refine s_aload_n (k := 0) hX zcdX10_crossing_1.2.2.2.2.1 rfl rfl ?_
    refine s_aload_n (k := 0) hX zcdX10_crossing_1.2.2.2.2.2.1 rfl rfl ?_
    refine s_get hX fX10_77 oM0 rfl zcdX10_crossing_1.2.2.2.2.2.2.1 ?_
    refine s_iconst (v := (nI 1)) hX zcdX10_crossing_1.2.2.2.2.2.2.2 (by decide) ?_
    refine s_iload_n (k := 1) hX zcdX10_crossing_14.1 rfl rfl ?_
    refine e_callVv hX (t_X10_laysSteps 23 40 aM23 (by decide) (nI 1) v1 M) mX10_laysSteps lX10_329 (by decide) (by decide) oM0 rfl rfl rfl rfl rfl (Nat.le_of_ble_eq_true rfl) zcdX10_crossing_14.2.1 h (fun M_1 h => ?_)
    refine s_iconst (v := (-1)) hX zcdX10_crossing_14.2.2.1 (by decide) ?_
    refine s_istore_n (lv' := [(0, .ref (ad 0)), (1, .int v1), (2, .int (-1))]) hX zcdX10_crossing_14.2.2.2.1 rfl (by decide) rfl ?_
    refine s_iconst (v := (nI 0)) hX zcdX10_crossing_14.2.2.2.2.1 (by decide) ?_
    refine s_istore_n (lv' := [(0, .ref (ad 0)), (1, .int v1), (2, .int (-1)), (3, .int (nI 0))]) hX zcdX10_crossing_14.2.2.2.2.2.1 rfl (by decide) rfl ?_
    have lp22 : ∀ (N22 : Nat) (y2_22 : Int32) (y3_22 : Int32), wlp2 (f_X10_crossing_B22 v1 M_1) N22 y2_22 y3_22 = some r0 → V X M_1 [(0, .ref (ad 0)), (1, .int v1), (2, .int y2_22), (3, .int y3_22)] [] 22 := by
      intro N22
      induction N22 with
      | zero => exact fun _ _ h => e_none h
      | succ N22 ih22 =>
        intro y2_22 y3_22 h
        replace h : f_X10_crossing_B22 v1 M_1 (wlp2 (f_X10_crossing_B22 v1 M_1) N22) y2_22 y3_22 = some r0 := h
        generalize wlp2 (f_X10_crossing_B22 v1 M_1) N22 = ag22 at ih22 h
        refine s_iload_n (k := 3) hX zcdX10_crossing_14.2.2.2.2.2.2.1 rfl rfl ?_
        refine s_bipush (v := (nI 40)) hX zcdX10_crossing_14.2.2.2.2.2.2.2 (by decide) ?_
        refine e_icmp_ge (tgt := 83) hX zcdX10_crossing_25.1 (by decide) (m_ge (by decide +kernel)) h (fun h => ?_) (fun h => ?_)
        · refine s_iload_n (k := 2) hX zcdX10_crossing_77.2.2.1 rfl rfl ?_
          exact e_ireti hX hR zcdX10_crossing_77.2.2.2.1 h
        · refine s_aload_n (k := 0) hX zcdX10_crossing_25.2.1 rfl rfl ?_
          refine s_get hX fX10_77 oM0 rfl zcdX10_crossing_25.2.2.1 ?_
          refine s_iload_n (k := 3) hX zcdX10_crossing_25.2.2.2.1 rfl rfl ?_
          refine e_iald hX aM23 zcdX10_crossing_25.2.2.2.2.1 h (fun h => ?_)
          refine s_iconst (v := (-1)) hX zcdX10_crossing_25.2.2.2.2.2.1 (by decide) ?_
          refine e_icmp_eq (tgt := 77) hX zcdX10_crossing_25.2.2.2.2.2.2.1 (by decide) (m_eq (by decide +kernel)) h (fun h => ?_) (fun h => ?_)
          · refine s_iinc (k := 3) (v := (y3_22 + (nI 1))) (lv' := [(0, .ref (ad 0)), (1, .int v1), (2, .int y2_22), (3, .int (y3_22 + (nI 1)))]) hX zcdX10_crossing_77.1 (congrArg (fun z => y3_22 + z) (by decide)) (by decide) rfl rfl ?_
            refine s_goto (tgt := 22) hX zcdX10_crossing_77.2.1 (by decide) ?_
            exact ih22 y2_22 (y3_22 + (nI 1)) h
          · refine s_aload_n (k := 0) hX zcdX10_crossing_25.2.2.2.2.2.2.2 rfl rfl ?_
            refine s_iload_n (k := 3) hX zcdX10_crossing_39.1 rfl rfl ?_
            refine s_iconst (v := (nI 0)) hX zcdX10_crossing_39.2.1 (by decide) ?_
            refine s_iload_n (k := 1) hX zcdX10_crossing_39.2.2.1 rfl rfl ?_
            refine e_callVp hX (t_X10_isByBank y3_22 (nI 0) v1 M_1) mX10_isByBank lX10_322 (by decide) (by decide) oM0 rfl rfl rfl rfl rfl (Nat.le_of_ble_eq_true rfl) zcdX10_crossing_39.2.2.2.1 h (fun r_2 h => ?_)
            refine e_if_ne (tgt := 51) hX zcdX10_crossing_39.2.2.2.2.1 (by decide) z_eq h (fun h => ?_) (fun h => ?_)
            · refine s_iload_n (k := 2) hX zcdX10_crossing_39.2.2.2.2.2.2.1 rfl rfl ?_
              refine s_iconst (v := (-1)) hX zcdX10_crossing_39.2.2.2.2.2.2.2 (by decide) ?_
              have j68 : f_X10_crossing_L68 M_1 ag22 y3_22 = some r0 → V X M_1 [(0, .ref (ad 0)), (1, .int v1), (3, .int y3_22)] [] 68 := by
                intro  h
                refine s_aload_n (k := 0) hX zcdX10_crossing_65.2.1 rfl rfl ?_
                refine s_get hX fX10_77 oM0 rfl zcdX10_crossing_65.2.2.1 ?_
                refine s_iload_n (k := 2) hX zcdX10_crossing_65.2.2.2.1 rfl rfl ?_
                refine e_iald hX aM23 zcdX10_crossing_65.2.2.2.2.1 h (fun h => ?_)
                refine s_iconst (v := (nI 1)) hX zcdX10_crossing_65.2.2.2.2.2.1 (by decide) ?_
                refine s_iadd hX zcdX10_crossing_65.2.2.2.2.2.2.1 ?_
                refine e_bnd h (fun x_3 h => ?_)
                refine s_istore_n (lv' := [(0, .ref (ad 0)), (1, .int v1), (3, .int y3_22), (2, .int x_3)]) hX zcdX10_crossing_65.2.2.2.2.2.2.2 rfl (by decide) rfl ?_
                refine s_iinc (k := 2) (v := (y3_22 + (nI 1))) (lv' := [(0, .ref (ad 0)), (1, .int v1), (2, .int x_3), (3, .int (y3_22 + (nI 1)))]) hX zcdX10_crossing_77.1 (congrArg (fun z => y3_22 + z) (by decide)) (by decide) rfl rfl ?_
                refine s_goto (tgt := 22) hX zcdX10_crossing_77.2.1 (by decide) ?_
                exact ih22 x_3 (y3_22 + (nI 1)) h
              refine e_icmp_eq (tgt := 68) hX zcdX10_crossing_53.1 (by decide) (m_eq (by decide +kernel)) h (fun h => ?_) (fun h => ?_)
              · refine s_loc [0, 1, 3] rfl ?_
                exact j68 h
              · refine s_aload_n (k := 0) hX zcdX10_crossing_53.2.1 rfl rfl ?_
                refine s_get hX fX10_77 oM0 rfl zcdX10_crossing_53.2.2.1 ?_
                refine s_iload_n (k := 3) hX zcdX10_crossing_53.2.2.2.1 rfl rfl ?_
                refine e_iald hX aM23 zcdX10_crossing_53.2.2.2.2.1 h (fun h => ?_)
                refine s_iconst (v := (nI 1)) hX zcdX10_crossing_53.2.2.2.2.2.1 (by decide) ?_
                refine s_iadd hX zcdX10_crossing_53.2.2.2.2.2.2.1 ?_
                refine s_iload_n (k := 2) hX zcdX10_crossing_53.2.2.2.2.2.2.2 rfl rfl ?_
                refine e_icmp_ge (tgt := 77) hX zcdX10_crossing_65.1 (by decide) r_le h (fun h => ?_) (fun h => ?_)
                · refine s_iinc (k := 3) (v := (y3_22 + (nI 1))) (lv' := [(0, .ref (ad 0)), (1, .int v1), (2, .int y2_22), (3, .int (y3_22 + (nI 1)))]) hX zcdX10_crossing_77.1 (congrArg (fun z => y3_22 + z) (by decide)) (by decide) rfl rfl ?_
                  refine s_goto (tgt := 22) hX zcdX10_crossing_77.2.1 (by decide) ?_
                  exact ih22 y2_22 (y3_22 + (nI 1)) h
                · refine s_loc [0, 1, 3] rfl ?_
                  exact j68 h
            · refine s_goto (tgt := 77) hX zcdX10_crossing_39.2.2.2.2.2.1 (by decide) ?_
              refine s_iinc (k := 3) (v := (y3_22 + (nI 1))) (lv' := [(0, .ref (ad 0)), (1, .int v1), (2, .int y2_22), (3, .int (y3_22 + (nI 1)))]) hX zcdX10_crossing_77.1 (congrArg (fun z => y3_22 + z) (by decide)) (by decide) rfl rfl ?_
              refine s_goto (tgt := 22) hX zcdX10_crossing_77.2.1 (by decide) ?_
              exact ih22 y2_22 (y3_22 + (nI 1)) h
    exact lp22 FU (-1) (nI 0) h
  · refine s_iconst (v := (nI 1)) hX zcdX10_crossing_1.2.2.1 (by decide) ?_
    exact e_ireti hX hR zcdX10_crossing_1.2.2.2.1 h
set_option maxHeartbeats 4000000 in
theorem t_X10_laysRows (v1 : Int32) (M : Mem) : AXv yX10_laysRows cX10_laysRows 5 none 2 39 glM (fun ad => [.ref (ad 0), .int v1]) M (f_X10_laysRows M v1) := by
  intro r0 h
  refine AM.of (by decide) (fun _ => Nat.le_of_ble_eq_true rfl) (fun X ad cI cZ cB hX hR => ?_)
  show V X M [(0, .ref (ad 0)), (1, .int v1)] [] 0
  refine s_iconst (v := (nI 0)) hX zcdX10_crossing_77.2.2.2.2.1 (by decide) ?_
  refine s_istore_n (lv' := [(0, .ref (ad 0)), (1, .int v1), (2, .int (nI 0))]) hX zcdX10_crossing_77.2.2.2.2.2.1 rfl (by decide) rfl ?_
  have lp2 : ∀ (N2 : Nat) (M2 : Mem) (y2_2 : Int32), wlp2 (f_X10_laysRows_B2 v1) N2 M2 y2_2 = some r0 → V X M2 [(0, .ref (ad 0)), (1, .int v1), (2, .int y2_2)] [] 2 := by
    intro N2
    induction N2 with
    | zero => exact fun _ _ h => e_none h
    | succ N2 ih2 =>
      intro M2 y2_2 h
      replace h : f_X10_laysRows_B2 v1 (wlp2 (f_X10_laysRows_B2 v1) N2) M2 y2_2 = some r0 := h
      generalize wlp2 (f_X10_laysRows_B2 v1) N2 = ag2 at ih2 h
      refine s_iload_n (k := 2) hX zcdX10_crossing_77.2.2.2.2.2.2.1 rfl rfl ?_
      refine s_bipush (v := (nI 40)) hX zcdX10_crossing_77.2.2.2.2.2.2.2 (by decide) ?_
      have j35 : f_X10_laysRows_L35 v1 M2 = some r0 → V X M2 [(0, .ref (ad 0)), (1, .int v1)] [] 35 := by
        intro  h
        refine s_iconst (v := (nI 2)) hX zcdX10_laysRows_35.1 (by decide) ?_
        refine s_istore_n (lv' := [(0, .ref (ad 0)), (1, .int v1), (2, .int (nI 2))]) hX zcdX10_laysRows_35.2.1 rfl (by decide) rfl ?_
        have lp37 : ∀ (N37 : Nat) (M37 : Mem) (y2_37 : Int32), wlp2 (f_X10_laysRows_B37 v1) N37 M37 y2_37 = some r0 → V X M37 [(0, .ref (ad 0)), (1, .int v1), (2, .int y2_37)] [] 37 := by
          intro N37
          induction N37 with
          | zero => exact fun _ _ h => e_none h
          | succ N37 ih37 =>
            intro M37 y2_37 h
            replace h : f_X10_laysRows_B37 v1 (wlp2 (f_X10_laysRows_B37 v1) N37) M37 y2_37 = some r0 := h
            generalize wlp2 (f_X10_laysRows_B37 v1) N37 = ag37 at ih37 h
            refine s_iload_n (k := 2) hX zcdX10_laysRows_35.2.2.1 rfl rfl ?_
            refine s_bipush (v := (nI 40)) hX zcdX10_laysRows_35.2.2.2.1 (by decide) ?_
            refine e_icmp_gt (tgt := 142) hX zcdX10_laysRows_35.2.2.2.2.1 (by decide) (m_gt (by decide +kernel)) h (fun h => ?_) (fun h => ?_)
            · exact e_vret hX hR zcdX10_laysRows_139.2.1 h
            · refine s_iconst (v := (nI 0)) hX zcdX10_laysRows_35.2.2.2.2.2.1 (by decide) ?_
              refine s_istore_n (lv' := [(0, .ref (ad 0)), (1, .int v1), (2, .int y2_37), (3, .int (nI 0))]) hX zcdX10_laysRows_35.2.2.2.2.2.2.1 rfl (by decide) rfl ?_
              have lp45 : ∀ (N45 : Nat) (M45 : Mem) (y3_45 : Int32), wlp2 (f_X10_laysRows_B45 v1 ag37 y2_37) N45 M45 y3_45 = some r0 → V X M45 [(0, .ref (ad 0)), (1, .int v1), (2, .int y2_37), (3, .int y3_45)] [] 45 := by
                intro N45
                induction N45 with
                | zero => exact fun _ _ h => e_none h
                | succ N45 ih45 =>
                  intro M45 y3_45 h
                  replace h : f_X10_laysRows_B45 v1 ag37 y2_37 (wlp2 (f_X10_laysRows_B45 v1 ag37 y2_37) N45) M45 y3_45 = some r0 := h
                  generalize wlp2 (f_X10_laysRows_B45 v1 ag37 y2_37) N45 = ag45 at ih45 h
                  refine s_iload_n (k := 3) hX zcdX10_laysRows_35.2.2.2.2.2.2.2 rfl rfl ?_
                  refine s_bipush (v := (nI 40)) hX zcdX10_laysRows_46.1 (by decide) ?_
                  refine e_icmp_ge (tgt := 136) hX zcdX10_laysRows_46.2.1 (by decide) (m_ge (by decide +kernel)) h (fun h => ?_) (fun h => ?_)
                  · refine s_iinc (k := 2) (v := (y2_37 + (nI 1))) (lv' := [(0, .ref (ad 0)), (1, .int v1), (3, .int y3_45), (2, .int (y2_37 + (nI 1)))]) hX zcdX10_laysRows_119.2.2.2.2.2.2.2 (congrArg (fun z => y2_37 + z) (by decide)) (by decide) rfl rfl ?_
                    refine s_goto (tgt := 37) hX zcdX10_laysRows_139.1 (by decide) ?_
                    refine s_loc [0, 1, 3] rfl ?_
                    exact ih37 M45 (y2_37 + (nI 1)) h
                  · refine s_aload_n (k := 0) hX zcdX10_laysRows_46.2.2.1 rfl rfl ?_
                    refine s_get hX fX10_80 oM0 rfl zcdX10_laysRows_46.2.2.2.1 ?_
                    refine s_iload_n (k := 3) hX zcdX10_laysRows_46.2.2.2.2.1 rfl rfl ?_
                    refine e_iald hX aM24 zcdX10_laysRows_46.2.2.2.2.2.1 h (fun h => ?_)
                    refine s_iload_n (k := 2) hX zcdX10_laysRows_46.2.2.2.2.2.2.1 rfl rfl ?_
                    refine e_icmp_eq (tgt := 64) hX zcdX10_laysRows_46.2.2.2.2.2.2.2 (by decide) r_eq h (fun h => ?_) (fun h => ?_)
                    · refine s_iconst (v := (nI 0)) hX zcdX10_laysRows_61.2.1 (by decide) ?_
                      refine s_istore (lv' := [(0, .ref (ad 0)), (1, .int v1), (2, .int y2_37), (3, .int y3_45), (4, .int (nI 0))]) hX zcdX10_laysRows_61.2.2.1 (by decide) rfl ?_
                      have lp67 : ∀ (N67 : Nat) (M67 : Mem) (y4_67 : Int32), wlp2 (f_X10_laysRows_B67 v1 y2_37 ag45 y3_45) N67 M67 y4_67 = some r0 → V X M67 [(0, .ref (ad 0)), (1, .int v1), (2, .int y2_37), (3, .int y3_45), (4, .int y4_67)] [] 67 := by
                        intro N67
                        induction N67 with
                        | zero => exact fun _ _ h => e_none h
                        | succ N67 ih67 =>
                          intro M67 y4_67 h
                          replace h : f_X10_laysRows_B67 v1 y2_37 ag45 y3_45 (wlp2 (f_X10_laysRows_B67 v1 y2_37 ag45 y3_45) N67) M67 y4_67 = some r0 := h
                          generalize wlp2 (f_X10_laysRows_B67 v1 y2_37 ag45 y3_45) N67 = ag67 at ih67 h
                          refine s_iload (k := 4) hX zcdX10_laysRows_61.2.2.2.1 rfl ?_
                          refine s_bipush (v := (nI 40)) hX zcdX10_laysRows_61.2.2.2.2.1 (by decide) ?_
                          refine e_icmp_ge (tgt := 130) hX zcdX10_laysRows_61.2.2.2.2.2.1 (by decide) (m_ge (by decide +kernel)) h (fun h => ?_) (fun h => ?_)
                          · refine s_iinc (k := 3) (v := (y3_45 + (nI 1))) (lv' := [(0, .ref (ad 0)), (1, .int v1), (2, .int y2_37), (4, .int y4_67), (3, .int (y3_45 + (nI 1)))]) hX zcdX10_laysRows_119.2.2.2.2.2.1 (congrArg (fun z => y3_45 + z) (by decide)) (by decide) rfl rfl ?_
                            refine s_goto (tgt := 45) hX zcdX10_laysRows_119.2.2.2.2.2.2.1 (by decide) ?_
                            refine s_loc [0, 1, 2, 4] rfl ?_
                            exact ih45 M67 (y3_45 + (nI 1)) h
                          · refine s_aload_n (k := 0) hX zcdX10_laysRows_61.2.2.2.2.2.2.1 rfl rfl ?_
                            refine s_get hX fX10_80 oM0 rfl zcdX10_laysRows_61.2.2.2.2.2.2.2 ?_
                            refine s_iload (k := 4) hX zcdX10_laysRows_78.1 rfl ?_
                            refine e_iald hX aM24 zcdX10_laysRows_78.2.1 h (fun h => ?_)
                            refine s_iload_n (k := 2) hX zcdX10_laysRows_78.2.2.1 rfl rfl ?_
                            refine s_iconst (v := (nI 1)) hX zcdX10_laysRows_78.2.2.2.1 (by decide) ?_
                            refine s_isub hX zcdX10_laysRows_78.2.2.2.2.1 ?_
                            refine e_icmp_ne (tgt := 124) hX zcdX10_laysRows_78.2.2.2.2.2.1 (by decide) r_eq h (fun h => ?_) (fun h => ?_)
                            · refine s_iinc (k := 4) (v := (y4_67 + (nI 1))) (lv' := [(0, .ref (ad 0)), (1, .int v1), (2, .int y2_37), (3, .int y3_45), (4, .int (y4_67 + (nI 1)))]) hX zcdX10_laysRows_119.2.2.2.1 (congrArg (fun z => y4_67 + z) (by decide)) (by decide) rfl rfl ?_
                              refine s_goto (tgt := 67) hX zcdX10_laysRows_119.2.2.2.2.1 (by decide) ?_
                              exact ih67 M67 (y4_67 + (nI 1)) h
                            · refine s_aload_n (k := 0) hX zcdX10_laysRows_78.2.2.2.2.2.2.1 rfl rfl ?_
                              refine s_iload_n (k := 3) hX zcdX10_laysRows_78.2.2.2.2.2.2.2 rfl rfl ?_
                              refine s_iload (k := 4) hX zcdX10_laysRows_89.1 rfl ?_
                              refine s_iload_n (k := 1) hX zcdX10_laysRows_89.2.1 rfl rfl ?_
                              refine e_callVp hX (t_X10_canStep y3_45 y4_67 v1 M67) mX10_canStep lX10_326 (by decide) (by decide) oM0 rfl rfl rfl rfl rfl (Nat.le_of_ble_eq_true rfl) zcdX10_laysRows_89.2.2.1 h (fun r_1 h => ?_)
                              refine e_if_eq (tgt := 124) hX zcdX10_laysRows_89.2.2.2.1 (by decide) z_eq h (fun h => ?_) (fun h => ?_)
                              · refine s_iinc (k := 4) (v := (y4_67 + (nI 1))) (lv' := [(0, .ref (ad 0)), (1, .int v1), (2, .int y2_37), (3, .int y3_45), (4, .int (y4_67 + (nI 1)))]) hX zcdX10_laysRows_119.2.2.2.1 (congrArg (fun z => y4_67 + z) (by decide)) (by decide) rfl rfl ?_
                                refine s_goto (tgt := 67) hX zcdX10_laysRows_119.2.2.2.2.1 (by decide) ?_
                                exact ih67 M67 (y4_67 + (nI 1)) h
                              · refine s_aload_n (k := 0) hX zcdX10_laysRows_89.2.2.2.2.1 rfl rfl ?_
                                refine s_get hX fX10_86 oM0 rfl zcdX10_laysRows_89.2.2.2.2.2.1 ?_
                                refine s_iload_n (k := 3) hX zcdX10_laysRows_89.2.2.2.2.2.2.1 rfl rfl ?_
                                refine s_ldcw (v := (nI 1000000000)) hX kX10_333 zcdX10_laysRows_89.2.2.2.2.2.2.2 ?_
                                refine s_aload_n (k := 0) hX zcdX10_laysRows_106.1 rfl rfl ?_
                                refine s_get hX fX10_86 oM0 rfl zcdX10_laysRows_106.2.1 ?_
                                refine s_iload_n (k := 3) hX zcdX10_laysRows_106.2.2.1 rfl rfl ?_
                                refine e_iald hX aM26 zcdX10_laysRows_106.2.2.2.1 h (fun h => ?_)
                                refine s_aload_n (k := 0) hX zcdX10_laysRows_106.2.2.2.2.1 rfl rfl ?_
                                refine s_get hX fX10_86 oM0 rfl zcdX10_laysRows_106.2.2.2.2.2.1 ?_
                                refine s_iload (k := 4) hX zcdX10_laysRows_106.2.2.2.2.2.2.1 rfl ?_
                                refine e_iald hX aM26 zcdX10_laysRows_106.2.2.2.2.2.2.2 h (fun h => ?_)
                                refine s_iadd hX zcdX10_laysRows_119.1 ?_
                                refine e_callSp hX (t_X10_min (nI 1000000000) ((M67 26 (ix y3_45)) + (M67 26 (ix y4_67))) M67) mX10_min lX10_125 (by decide) (by decide) rfl rfl (Nat.le_of_ble_eq_true rfl) zcdX10_laysRows_119.2.1 h (fun r_2 h => ?_)
                                refine e_iast hX aM26 zcdX10_laysRows_119.2.2.1 h (fun h => ?_)
                                refine e_bndM h (fun M_3 h => ?_)
                                refine s_iinc (k := 4) (v := (y4_67 + (nI 1))) (lv' := [(0, .ref (ad 0)), (1, .int v1), (2, .int y2_37), (3, .int y3_45), (4, .int (y4_67 + (nI 1)))]) hX zcdX10_laysRows_119.2.2.2.1 (congrArg (fun z => y4_67 + z) (by decide)) (by decide) rfl rfl ?_
                                refine s_goto (tgt := 67) hX zcdX10_laysRows_119.2.2.2.2.1 (by decide) ?_
                                exact ih67 M_3 (y4_67 + (nI 1)) h
                      exact lp67 FU M45 (nI 0) h
                    · refine s_goto (tgt := 130) hX zcdX10_laysRows_61.1 (by decide) ?_
                      refine s_iinc (k := 3) (v := (y3_45 + (nI 1))) (lv' := [(0, .ref (ad 0)), (1, .int v1), (2, .int y2_37), (3, .int (y3_45 + (nI 1)))]) hX zcdX10_laysRows_119.2.2.2.2.2.1 (congrArg (fun z => y3_45 + z) (by decide)) (by decide) rfl rfl ?_
                      refine s_goto (tgt := 45) hX zcdX10_laysRows_119.2.2.2.2.2.2.1 (by decide) ?_
                      exact ih45 M45 (y3_45 + (nI 1)) h
              exact lp45 FU M37 (nI 0) h
        exact lp37 FU M2 (nI 2) h
      refine e_icmp_ge (tgt := 35) hX zcdX10_laysRows_5.1 (by decide) (m_ge (by decide +kernel)) h (fun h => ?_) (fun h => ?_)
      · refine s_loc [0, 1] rfl ?_
        exact j35 h
      · refine s_aload_n (k := 0) hX zcdX10_laysRows_5.2.1 rfl rfl ?_
        refine s_get hX fX10_86 oM0 rfl zcdX10_laysRows_5.2.2.1 ?_
        refine s_iload_n (k := 2) hX zcdX10_laysRows_5.2.2.2.1 rfl rfl ?_
        refine s_aload_n (k := 0) hX zcdX10_laysRows_5.2.2.2.2.1 rfl rfl ?_
        refine s_get hX fX10_80 oM0 rfl zcdX10_laysRows_5.2.2.2.2.2.1 ?_
        refine s_iload_n (k := 2) hX zcdX10_laysRows_5.2.2.2.2.2.2.1 rfl rfl ?_
        refine e_iald hX aM24 zcdX10_laysRows_5.2.2.2.2.2.2.2 h (fun h => ?_)
        refine s_iconst (v := (nI 1)) hX zcdX10_laysRows_19.1 (by decide) ?_
        have j28 : ∀ (t0_28 : Int32), f_X10_laysRows_L28 ag2 M2 y2_2 t0_28 = some r0 → V X M2 [(0, .ref (ad 0)), (1, .int v1), (2, .int y2_2)] [.int t0_28, .int y2_2, .ref (ad 26)] 28 := by
          intro t0_28 h
          refine e_iast hX aM26 zcdX10_laysRows_19.2.2.2.2.2.1 h (fun h => ?_)
          refine e_bndM h (fun M_4 h => ?_)
          refine s_iinc (k := 2) (v := (y2_2 + (nI 1))) (lv' := [(0, .ref (ad 0)), (1, .int v1), (2, .int (y2_2 + (nI 1)))]) hX zcdX10_laysRows_19.2.2.2.2.2.2.1 (congrArg (fun z => y2_2 + z) (by decide)) (by decide) rfl rfl ?_
          refine s_goto (tgt := 2) hX zcdX10_laysRows_19.2.2.2.2.2.2.2 (by decide) ?_
          exact ih2 M_4 (y2_2 + (nI 1)) h
        refine e_icmp_ne (tgt := 27) hX zcdX10_laysRows_19.2.1 (by decide) (m_eq (by decide +kernel)) h (fun h => ?_) (fun h => ?_)
        · refine s_iconst (v := (nI 0)) hX zcdX10_laysRows_19.2.2.2.2.1 (by decide) ?_
          exact j28 (nI 0) h
        · refine s_iconst (v := (nI 1)) hX zcdX10_laysRows_19.2.2.1 (by decide) ?_
          refine s_goto (tgt := 28) hX zcdX10_laysRows_19.2.2.2.1 (by decide) ?_
          exact j28 (nI 1) h
  exact lp2 FU M (nI 0) h
set_option maxHeartbeats 4000000 in
theorem t_X10_cross (v1 : Int32) (v2 : Int32) (M : Mem) : AXi yX10_cross cX10_cross 8 (some .int) 4 39 glM (fun ad => [.ref (ad 0), .int v1, .int v2]) M (f_X10_cross M v1 v2) := by
  intro r0 h
  refine AM.of (by decide) (fun _ => Nat.le_of_ble_eq_true rfl) (fun X ad cI cZ cB hX hR => ?_)
  show V X M [(0, .ref (ad 0)), (1, .int v1), (2, .int v2)] [] 0
  refine s_aload_n (k := 0) hX zcdX10_laysRows_139.2.2.1 rfl rfl ?_
  refine s_iload_n (k := 1) hX zcdX10_laysRows_139.2.2.2.1 rfl rfl ?_
  refine e_callVp hX (t_X10_isPerson v1 M) mX10_isPerson lX10_334 (by decide) (by decide) oM0 rfl rfl rfl rfl rfl (Nat.le_of_ble_eq_true rfl) zcdX10_laysRows_139.2.2.2.2.1 h (fun r_1 h => ?_)
  refine e_if_eq (tgt := 29) hX zcdX10_laysRows_139.2.2.2.2.2.1 (by decide) z_eq h (fun h => ?_) (fun h => ?_)
  · refine s_iconst (v := (-1)) hX zcdX10_cross_29.1 (by decide) ?_
    exact e_ireti hX hR zcdX10_cross_29.2.1 h
  · refine s_iload_n (k := 2) hX zcdX10_laysRows_139.2.2.2.2.2.2.1 rfl rfl ?_
    refine s_iconst (v := (nI 0)) hX zcdX10_laysRows_139.2.2.2.2.2.2.2 (by decide) ?_
    refine s_bipush (v := (nI 39)) hX zcdX10_cross_10.1 (by decide) ?_
    refine e_callSp hX (t_X10_in v2 (nI 0) (nI 39) M) mX10_in lX10_132 (by decide) (by decide) rfl rfl (Nat.le_of_ble_eq_true rfl) zcdX10_cross_10.2.1 h (fun r_2 h => ?_)
    have j31 : f_X10_cross_L31 M v1 v2 = some r0 → V X M [(0, .ref (ad 0)), (1, .int v1), (2, .int v2)] [] 31 := by
      intro  h
      refine s_aload_n (k := 0) hX zcdX10_cross_29.2.2.1 rfl rfl ?_
      refine s_get hX fX10_19 oM0 rfl zcdX10_cross_29.2.2.2.1 ?_
      refine s_iload_n (k := 1) hX zcdX10_cross_29.2.2.2.2.1 rfl rfl ?_
      refine e_iald hX aM4 zcdX10_cross_29.2.2.2.2.2.1 h (fun h => ?_)
      refine e_bnd h (fun x_3 h => ?_)
      refine s_istore_n (lv' := [(0, .ref (ad 0)), (1, .int v1), (2, .int v2), (3, .int x_3)]) hX zcdX10_cross_29.2.2.2.2.2.2.1 rfl (by decide) rfl ?_
      refine s_aload_n (k := 0) hX zcdX10_cross_29.2.2.2.2.2.2.2 rfl rfl ?_
      refine s_iload_n (k := 3) hX zcdX10_cross_39.1 rfl rfl ?_
      refine e_callVi hX (t_X10_crossing x_3 M) mX10_crossing lX10_337 (by decide) (by decide) oM0 rfl rfl rfl rfl rfl (Nat.le_of_ble_eq_true rfl) zcdX10_cross_39.2.1 h (fun r_4 M_5 h => ?_)
      refine s_istore (lv' := [(0, .ref (ad 0)), (1, .int v1), (2, .int v2), (3, .int x_3), (4, .int r_4)]) hX zcdX10_cross_39.2.2.1 (by decide) rfl ?_
      refine s_iload (k := 4) hX zcdX10_cross_39.2.2.2.1 rfl ?_
      refine s_iconst (v := (-1)) hX zcdX10_cross_39.2.2.2.2.1 (by decide) ?_
      refine e_icmp_ne (tgt := 54) hX zcdX10_cross_39.2.2.2.2.2.1 (by decide) (m_eq (by decide +kernel)) h (fun h => ?_) (fun h => ?_)
      · refine s_iload_n (k := 2) hX zcdX10_cross_54.1 rfl rfl ?_
        refine s_bipush (v := (nI 100)) hX zcdX10_cross_54.2.1 (by decide) ?_
        refine e_icmp_ne (tgt := 63) hX zcdX10_cross_54.2.2.1 (by decide) (m_eq (by decide +kernel)) h (fun h => ?_) (fun h => ?_)
        · refine s_iload_n (k := 2) hX zcdX10_cross_54.2.2.2.2.2.1 rfl rfl ?_
          refine s_bipush (v := (nI 100)) hX zcdX10_cross_54.2.2.2.2.2.2.1 (by decide) ?_
          have j80 : f_X10_cross_L80 v2 x_3 r_4 M_5 = some r0 → V X M_5 [(0, .ref (ad 0)), (2, .int v2), (3, .int x_3), (4, .int r_4)] [] 80 := by
            intro  h
            refine s_iload (k := 3) hX zcdX10_cross_69.2.2.2.2.2.2.2 rfl ?_
            refine s_iconst (v := (nI 1)) hX zcdX10_cross_82.1 (by decide) ?_
            refine e_icmp_ne (tgt := 88) hX zcdX10_cross_82.2.1 (by decide) (m_eq (by decide +kernel)) h (fun h => ?_) (fun h => ?_)
            · refine s_aload_n (k := 0) hX zcdX10_cross_82.2.2.2.2.1 rfl rfl ?_
              refine s_aload_n (k := 0) hX zcdX10_cross_82.2.2.2.2.2.1 rfl rfl ?_
              refine s_get hX fX10_80 oM0 rfl zcdX10_cross_82.2.2.2.2.2.2.1 ?_
              refine s_iconst (v := (nI 0)) hX zcdX10_cross_82.2.2.2.2.2.2.2 (by decide) ?_
              refine s_iload_n (k := 2) hX zcdX10_cross_94.1 rfl rfl ?_
              refine e_callVv hX (t_X10_laysSteps 24 40 aM24 (by decide) (nI 0) x_3 M_5) mX10_laysSteps lX10_329 (by decide) (by decide) oM0 rfl rfl rfl rfl rfl (Nat.le_of_ble_eq_true rfl) zcdX10_cross_94.2.1 h (fun M_6 h => ?_)
              refine s_aload_n (k := 0) hX zcdX10_cross_94.2.2.1 rfl rfl ?_
              refine s_iload_n (k := 2) hX zcdX10_cross_94.2.2.2.1 rfl rfl ?_
              refine e_callVv hX (t_X10_laysRows x_3 M_6) mX10_laysRows lX10_340 (by decide) (by decide) oM0 rfl rfl rfl rfl rfl (Nat.le_of_ble_eq_true rfl) zcdX10_cross_94.2.2.2.2.1 h (fun M_7 h => ?_)
              refine s_iload_n (k := 1) hX zcdX10_cross_94.2.2.2.2.2.1 rfl rfl ?_
              refine s_bipush (v := (nI 101)) hX zcdX10_cross_94.2.2.2.2.2.2.1 (by decide) ?_
              refine e_icmp_ne (tgt := 174) hX zcdX10_cross_94.2.2.2.2.2.2.2 (by decide) (m_eq (by decide +kernel)) h (fun h => ?_) (fun h => ?_)
              · refine s_iconst (v := (-1)) hX zcdX10_cross_171.2.2.1 (by decide) ?_
                refine s_istore (lv' := [(0, .ref (ad 0)), (2, .int v2), (3, .int x_3), (4, .int r_4), (5, .int (-1))]) hX zcdX10_cross_171.2.2.2.1 (by decide) rfl ?_
                refine s_iconst (v := (nI 0)) hX zcdX10_cross_171.2.2.2.2.1 (by decide) ?_
                refine s_istore (lv' := [(0, .ref (ad 0)), (2, .int v2), (3, .int x_3), (4, .int r_4), (5, .int (-1)), (6, .int (nI 0))]) hX zcdX10_cross_171.2.2.2.2.2.1 (by decide) rfl ?_
                have lp180 : ∀ (N180 : Nat) (y5_180 : Int32) (y6_180 : Int32), wlp2 (f_X10_cross_B180 v2 x_3 r_4 M_7) N180 y5_180 y6_180 = some r0 → V X M_7 [(0, .ref (ad 0)), (2, .int v2), (3, .int x_3), (4, .int r_4), (5, .int y5_180), (6, .int y6_180)] [] 180 := by
                  intro N180
                  induction N180 with
                  | zero => exact fun _ _ h => e_none h
                  | succ N180 ih180 =>
                    intro y5_180 y6_180 h
                    replace h : f_X10_cross_B180 v2 x_3 r_4 M_7 (wlp2 (f_X10_cross_B180 v2 x_3 r_4 M_7) N180) y5_180 y6_180 = some r0 := h
                    generalize wlp2 (f_X10_cross_B180 v2 x_3 r_4 M_7) N180 = ag180 at ih180 h
                    refine s_iload (k := 5) hX zcdX10_cross_171.2.2.2.2.2.2.1 rfl ?_
                    refine s_iload_n (k := 1) hX zcdX10_cross_171.2.2.2.2.2.2.2 rfl rfl ?_
                    refine e_icmp_gt (tgt := 256) hX zcdX10_cross_183.1 (by decide) r_lt h (fun h => ?_) (fun h => ?_)
                    · refine s_iload (k := 4) hX zcdX10_cross_243.2.2.2.2.2.1 rfl ?_
                      exact e_ireti hX hR zcdX10_cross_243.2.2.2.2.2.2.1 h
                    · refine s_iconst (v := (nI 0)) hX zcdX10_cross_183.2.1 (by decide) ?_
                      refine s_istore (lv' := [(0, .ref (ad 0)), (2, .int v2), (3, .int x_3), (4, .int r_4), (5, .int y5_180), (6, .int y6_180), (7, .int (nI 0))]) hX zcdX10_cross_183.2.2.1 (by decide) rfl ?_
                      have lp189 : ∀ (N189 : Nat) (y7_189 : Int32), wlp1 (f_X10_cross_B189 x_3 r_4 M_7 ag180 y5_180 y6_180) N189 y7_189 = some r0 → V X M_7 [(0, .ref (ad 0)), (2, .int v2), (3, .int x_3), (4, .int r_4), (5, .int y5_180), (6, .int y6_180), (7, .int y7_189)] [] 189 := by
                        intro N189
                        induction N189 with
                        | zero => exact fun _ h => e_none h
                        | succ N189 ih189 =>
                          intro y7_189 h
                          replace h : f_X10_cross_B189 x_3 r_4 M_7 ag180 y5_180 y6_180 (wlp1 (f_X10_cross_B189 x_3 r_4 M_7 ag180 y5_180 y6_180) N189) y7_189 = some r0 := h
                          generalize wlp1 (f_X10_cross_B189 x_3 r_4 M_7 ag180 y5_180 y6_180) N189 = ag189 at ih189 h
                          refine s_aload_n (k := 0) hX zcdX10_cross_183.2.2.2.1 rfl rfl ?_
                          refine s_get hX fX10_80 oM0 rfl zcdX10_cross_183.2.2.2.2.1 ?_
                          refine s_iload (k := 6) hX zcdX10_cross_183.2.2.2.2.2.1 rfl ?_
                          refine e_iald hX aM24 zcdX10_cross_183.2.2.2.2.2.2.1 h (fun h => ?_)
                          refine s_iload (k := 3) hX zcdX10_cross_183.2.2.2.2.2.2.2 rfl ?_
                          refine s_iconst (v := (nI 1)) hX zcdX10_cross_198.1 (by decide) ?_
                          refine s_isub hX zcdX10_cross_198.2.1 ?_
                          refine s_iload (k := 5) hX zcdX10_cross_198.2.2.1 rfl ?_
                          refine s_isub hX zcdX10_cross_198.2.2.2.1 ?_
                          refine e_icmp_ne (tgt := 237) hX zcdX10_cross_198.2.2.2.2.1 (by decide) r_eq h (fun h => ?_) (fun h => ?_)
                          · refine s_iload (k := 6) hX zcdX10_cross_228.2.2.2.2.1 rfl ?_
                            refine s_iconst (v := (nI 1)) hX zcdX10_cross_228.2.2.2.2.2.1 (by decide) ?_
                            refine s_iadd hX zcdX10_cross_228.2.2.2.2.2.2.1 ?_
                            refine s_istore (lv' := [(0, .ref (ad 0)), (2, .int v2), (3, .int x_3), (4, .int r_4), (5, .int y5_180), (6, .int y6_180), (7, .int (y7_189 + (nI 1)))]) hX zcdX10_cross_228.2.2.2.2.2.2.2 (by decide) rfl ?_
                            refine s_goto (tgt := 189) hX zcdX10_cross_243.1 (by decide) ?_
                            exact ih189 (y7_189 + (nI 1)) h
                          · refine s_iload (k := 5) hX zcdX10_cross_198.2.2.2.2.2.1 rfl ?_
                            refine e_if_ne (tgt := 225) hX zcdX10_cross_198.2.2.2.2.2.2.1 (by decide) z_eq h (fun h => ?_) (fun h => ?_)
                            · refine s_aload_n (k := 0) hX zcdX10_cross_212.2.2.2.2.2.2.1 rfl rfl ?_
                              refine s_iload (k := 4) hX zcdX10_cross_212.2.2.2.2.2.2.2 rfl ?_
                              refine s_iload (k := 6) hX zcdX10_cross_228.1 rfl ?_
                              refine s_iload_n (k := 2) hX zcdX10_cross_228.2.1 rfl rfl ?_
                              refine e_callVp hX (t_X10_canStep y5_180 y7_189 x_3 M_7) mX10_canStep lX10_326 (by decide) (by decide) oM0 rfl rfl rfl rfl rfl (Nat.le_of_ble_eq_true rfl) zcdX10_cross_228.2.2.1 h (fun r_8 h => ?_)
                              refine e_if_ne (tgt := 246) hX zcdX10_cross_228.2.2.2.1 (by decide) z_eq h (fun h => ?_) (fun h => ?_)
                              · refine s_iload (k := 6) hX zcdX10_cross_243.2.1 rfl ?_
                                refine s_istore (lv' := [(0, .ref (ad 0)), (2, .int v2), (3, .int x_3), (4, .int r_4), (6, .int y6_180), (7, .int y7_189), (5, .int y7_189)]) hX zcdX10_cross_243.2.2.1 (by decide) rfl ?_
                                refine s_iinc (k := 4) (v := (y6_180 + (nI 1))) (lv' := [(0, .ref (ad 0)), (2, .int v2), (3, .int x_3), (4, .int r_4), (7, .int y7_189), (5, .int y7_189), (6, .int (y6_180 + (nI 1)))]) hX zcdX10_cross_243.2.2.2.1 (congrArg (fun z => y6_180 + z) (by decide)) (by decide) rfl rfl ?_
                                refine s_goto (tgt := 180) hX zcdX10_cross_243.2.2.2.2.1 (by decide) ?_
                                refine s_loc [0, 1, 2, 3, 5, 6] rfl ?_
                                exact ih180 y7_189 (y6_180 + (nI 1)) h
                              · refine s_iload (k := 6) hX zcdX10_cross_228.2.2.2.2.1 rfl ?_
                                refine s_iconst (v := (nI 1)) hX zcdX10_cross_228.2.2.2.2.2.1 (by decide) ?_
                                refine s_iadd hX zcdX10_cross_228.2.2.2.2.2.2.1 ?_
                                refine s_istore (lv' := [(0, .ref (ad 0)), (2, .int v2), (3, .int x_3), (4, .int r_4), (5, .int y5_180), (6, .int y6_180), (7, .int (y7_189 + (nI 1)))]) hX zcdX10_cross_228.2.2.2.2.2.2.2 (by decide) rfl ?_
                                refine s_goto (tgt := 189) hX zcdX10_cross_243.1 (by decide) ?_
                                exact ih189 (y7_189 + (nI 1)) h
                            · refine s_aload_n (k := 0) hX zcdX10_cross_198.2.2.2.2.2.2.2 rfl rfl ?_
                              refine s_iload (k := 6) hX zcdX10_cross_212.1 rfl ?_
                              refine s_iconst (v := (nI 1)) hX zcdX10_cross_212.2.1 (by decide) ?_
                              refine s_iload_n (k := 2) hX zcdX10_cross_212.2.2.1 rfl rfl ?_
                              refine e_callVp hX (t_X10_isByBank y7_189 (nI 1) x_3 M_7) mX10_isByBank lX10_322 (by decide) (by decide) oM0 rfl rfl rfl rfl rfl (Nat.le_of_ble_eq_true rfl) zcdX10_cross_212.2.2.2.1 h (fun r_9 h => ?_)
                              refine e_if_eq (tgt := 237) hX zcdX10_cross_212.2.2.2.2.1 (by decide) z_eq h (fun h => ?_) (fun h => ?_)
                              · refine s_iload (k := 6) hX zcdX10_cross_228.2.2.2.2.1 rfl ?_
                                refine s_iconst (v := (nI 1)) hX zcdX10_cross_228.2.2.2.2.2.1 (by decide) ?_
                                refine s_iadd hX zcdX10_cross_228.2.2.2.2.2.2.1 ?_
                                refine s_istore (lv' := [(0, .ref (ad 0)), (2, .int v2), (3, .int x_3), (4, .int r_4), (5, .int y5_180), (6, .int y6_180), (7, .int (y7_189 + (nI 1)))]) hX zcdX10_cross_228.2.2.2.2.2.2.2 (by decide) rfl ?_
                                refine s_goto (tgt := 189) hX zcdX10_cross_243.1 (by decide) ?_
                                exact ih189 (y7_189 + (nI 1)) h
                              · refine s_goto (tgt := 246) hX zcdX10_cross_212.2.2.2.2.2.1 (by decide) ?_
                                refine s_iload (k := 6) hX zcdX10_cross_243.2.1 rfl ?_
                                refine s_istore (lv' := [(0, .ref (ad 0)), (2, .int v2), (3, .int x_3), (4, .int r_4), (6, .int y6_180), (7, .int y7_189), (5, .int y7_189)]) hX zcdX10_cross_243.2.2.1 (by decide) rfl ?_
                                refine s_iinc (k := 4) (v := (y6_180 + (nI 1))) (lv' := [(0, .ref (ad 0)), (2, .int v2), (3, .int x_3), (4, .int r_4), (7, .int y7_189), (5, .int y7_189), (6, .int (y6_180 + (nI 1)))]) hX zcdX10_cross_243.2.2.2.1 (congrArg (fun z => y6_180 + z) (by decide)) (by decide) rfl rfl ?_
                                refine s_goto (tgt := 180) hX zcdX10_cross_243.2.2.2.2.1 (by decide) ?_
                                refine s_loc [0, 1, 2, 3, 5, 6] rfl ?_
                                exact ih180 y7_189 (y6_180 + (nI 1)) h
                      exact lp189 FU (nI 0) h
                exact lp180 FU (-1) (nI 0) h
              · refine s_iconst (v := (nI 0)) hX zcdX10_cross_109.1 (by decide) ?_
                refine s_istore (lv' := [(0, .ref (ad 0)), (2, .int v2), (3, .int x_3), (4, .int r_4), (5, .int (nI 0))]) hX zcdX10_cross_109.2.1 (by decide) rfl ?_
                refine s_iconst (v := (nI 0)) hX zcdX10_cross_109.2.2.1 (by decide) ?_
                refine s_istore (lv' := [(0, .ref (ad 0)), (2, .int v2), (3, .int x_3), (4, .int r_4), (5, .int (nI 0)), (6, .int (nI 0))]) hX zcdX10_cross_109.2.2.2.1 (by decide) rfl ?_
                have lp115 : ∀ (N115 : Nat) (y5_115 : Int32) (y6_115 : Int32), wlp2 (f_X10_cross_B115 x_3 r_4 M_7) N115 y5_115 y6_115 = some r0 → V X M_7 [(0, .ref (ad 0)), (3, .int x_3), (4, .int r_4), (5, .int y5_115), (6, .int y6_115)] [] 115 := by
                  intro N115
                  induction N115 with
                  | zero => exact fun _ _ h => e_none h
                  | succ N115 ih115 =>
                    intro y5_115 y6_115 h
                    replace h : f_X10_cross_B115 x_3 r_4 M_7 (wlp2 (f_X10_cross_B115 x_3 r_4 M_7) N115) y5_115 y6_115 = some r0 := h
                    generalize wlp2 (f_X10_cross_B115 x_3 r_4 M_7) N115 = ag115 at ih115 h
                    refine s_iload (k := 4) hX zcdX10_cross_109.2.2.2.2.1 rfl ?_
                    refine s_bipush (v := (nI 40)) hX zcdX10_cross_109.2.2.2.2.2.1 (by decide) ?_
                    refine e_icmp_ge (tgt := 171) hX zcdX10_cross_109.2.2.2.2.2.2.1 (by decide) (m_ge (by decide +kernel)) h (fun h => ?_) (fun h => ?_)
                    · refine s_iload (k := 3) hX zcdX10_cross_171.1 rfl ?_
                      exact e_ireti hX hR zcdX10_cross_171.2.1 h
                    · refine s_aload_n (k := 0) hX zcdX10_cross_109.2.2.2.2.2.2.2 rfl rfl ?_
                      refine s_iload (k := 4) hX zcdX10_cross_123.1 rfl ?_
                      refine s_iconst (v := (nI 1)) hX zcdX10_cross_123.2.1 (by decide) ?_
                      refine s_iload_n (k := 1) hX zcdX10_cross_123.2.2.1 rfl rfl ?_
                      refine e_callVp hX (t_X10_isByBank y6_115 (nI 1) x_3 M_7) mX10_isByBank lX10_322 (by decide) (by decide) oM0 rfl rfl rfl rfl rfl (Nat.le_of_ble_eq_true rfl) zcdX10_cross_123.2.2.2.1 h (fun r_10 h => ?_)
                      refine e_if_eq (tgt := 165) hX zcdX10_cross_123.2.2.2.2.1 (by decide) z_eq h (fun h => ?_) (fun h => ?_)
                      · refine s_iinc (k := 4) (v := (y6_115 + (nI 1))) (lv' := [(0, .ref (ad 0)), (3, .int x_3), (4, .int r_4), (5, .int y5_115), (6, .int (y6_115 + (nI 1)))]) hX zcdX10_cross_153.2.2.2.2.2.2.1 (congrArg (fun z => y6_115 + z) (by decide)) (by decide) rfl rfl ?_
                        refine s_goto (tgt := 115) hX zcdX10_cross_153.2.2.2.2.2.2.2 (by decide) ?_
                        exact ih115 y5_115 (y6_115 + (nI 1)) h
                      · refine s_aload_n (k := 0) hX zcdX10_cross_123.2.2.2.2.2.1 rfl rfl ?_
                        refine s_get hX fX10_80 oM0 rfl zcdX10_cross_123.2.2.2.2.2.2.1 ?_
                        refine s_iload (k := 4) hX zcdX10_cross_123.2.2.2.2.2.2.2 rfl ?_
                        refine e_iald hX aM24 zcdX10_cross_139.1 h (fun h => ?_)
                        refine s_iload (k := 2) hX zcdX10_cross_139.2.1 rfl ?_
                        refine s_iconst (v := (nI 1)) hX zcdX10_cross_139.2.2.1 (by decide) ?_
                        refine s_isub hX zcdX10_cross_139.2.2.2.1 ?_
                        refine e_icmp_ne (tgt := 165) hX zcdX10_cross_139.2.2.2.2.1 (by decide) r_eq h (fun h => ?_) (fun h => ?_)
                        · refine s_iinc (k := 4) (v := (y6_115 + (nI 1))) (lv' := [(0, .ref (ad 0)), (3, .int x_3), (4, .int r_4), (5, .int y5_115), (6, .int (y6_115 + (nI 1)))]) hX zcdX10_cross_153.2.2.2.2.2.2.1 (congrArg (fun z => y6_115 + z) (by decide)) (by decide) rfl rfl ?_
                          refine s_goto (tgt := 115) hX zcdX10_cross_153.2.2.2.2.2.2.2 (by decide) ?_
                          exact ih115 y5_115 (y6_115 + (nI 1)) h
                        · refine s_ldcw (v := (nI 1000000000)) hX kX10_333 zcdX10_cross_139.2.2.2.2.2.1 ?_
                          refine s_iload (k := 3) hX zcdX10_cross_139.2.2.2.2.2.2.1 rfl ?_
                          refine s_aload_n (k := 0) hX zcdX10_cross_139.2.2.2.2.2.2.2 rfl rfl ?_
                          refine s_get hX fX10_86 oM0 rfl zcdX10_cross_153.1 ?_
                          refine s_iload (k := 4) hX zcdX10_cross_153.2.1 rfl ?_
                          refine e_iald hX aM26 zcdX10_cross_153.2.2.1 h (fun h => ?_)
                          refine s_iadd hX zcdX10_cross_153.2.2.2.1 ?_
                          refine e_callSp hX (t_X10_min (nI 1000000000) (y5_115 + (M_7 26 (ix y6_115))) M_7) mX10_min lX10_125 (by decide) (by decide) rfl rfl (Nat.le_of_ble_eq_true rfl) zcdX10_cross_153.2.2.2.2.1 h (fun r_11 h => ?_)
                          refine s_istore (lv' := [(0, .ref (ad 0)), (3, .int x_3), (4, .int r_4), (6, .int y6_115), (5, .int r_11)]) hX zcdX10_cross_153.2.2.2.2.2.1 (by decide) rfl ?_
                          refine s_iinc (k := 3) (v := (y6_115 + (nI 1))) (lv' := [(0, .ref (ad 0)), (3, .int x_3), (4, .int r_4), (5, .int r_11), (6, .int (y6_115 + (nI 1)))]) hX zcdX10_cross_153.2.2.2.2.2.2.1 (congrArg (fun z => y6_115 + z) (by decide)) (by decide) rfl rfl ?_
                          refine s_goto (tgt := 115) hX zcdX10_cross_153.2.2.2.2.2.2.2 (by decide) ?_
                          exact ih115 r_11 (y6_115 + (nI 1)) h
                refine s_loc [0, 2, 3, 4, 5] rfl ?_
                exact lp115 FU (nI 0) (nI 0) h
            · refine s_iconst (v := (nI 1)) hX zcdX10_cross_82.2.2.1 (by decide) ?_
              exact e_ireti hX hR zcdX10_cross_82.2.2.2.1 h
          refine e_icmp_ge (tgt := 80) hX zcdX10_cross_54.2.2.2.2.2.2.2 (by decide) (m_ge (by decide +kernel)) h (fun h => ?_) (fun h => ?_)
          · refine s_loc [0, 2, 3, 4] rfl ?_
            exact j80 h
          · refine s_iload_n (k := 2) hX zcdX10_cross_69.1 rfl rfl ?_
            refine s_iload (k := 4) hX zcdX10_cross_69.2.1 rfl ?_
            refine s_iconst (v := (nI 1)) hX zcdX10_cross_69.2.2.1 (by decide) ?_
            refine s_isub hX zcdX10_cross_69.2.2.2.1 ?_
            refine e_icmp_lt (tgt := 80) hX zcdX10_cross_69.2.2.2.2.1 (by decide) r_lt h (fun h => ?_) (fun h => ?_)
            · refine s_loc [0, 2, 3, 4] rfl ?_
              exact j80 h
            · refine s_bipush (v := (-4)) hX zcdX10_cross_69.2.2.2.2.2.1 (by decide) ?_
              exact e_ireti hX hR zcdX10_cross_69.2.2.2.2.2.2.1 h
        · refine s_iload (k := 4) hX zcdX10_cross_54.2.2.2.1 rfl ?_
          exact e_ireti hX hR zcdX10_cross_54.2.2.2.2.1 h
      · refine s_bipush (v := (-2)) hX zcdX10_cross_39.2.2.2.2.2.2.1 (by decide) ?_
        exact e_ireti hX hR zcdX10_cross_39.2.2.2.2.2.2.2 h
    refine e_if_ne (tgt := 31) hX zcdX10_cross_10.2.2.1 (by decide) z_eq h (fun h => ?_) (fun h => ?_)
    · exact j31 h
    · refine s_iload_n (k := 2) hX zcdX10_cross_10.2.2.2.1 rfl rfl ?_
      refine s_bipush (v := (nI 100)) hX zcdX10_cross_10.2.2.2.2.1 (by decide) ?_
      refine s_bipush (v := (nI 101)) hX zcdX10_cross_10.2.2.2.2.2.1 (by decide) ?_
      refine e_callSp hX (t_X10_in v2 (nI 100) (nI 101) M) mX10_in lX10_132 (by decide) (by decide) rfl rfl (Nat.le_of_ble_eq_true rfl) zcdX10_cross_10.2.2.2.2.2.2.1 h (fun r_12 h => ?_)
      refine e_if_ne (tgt := 31) hX zcdX10_cross_10.2.2.2.2.2.2.2 (by decide) z_eq h (fun h => ?_) (fun h => ?_)
      · exact j31 h
      · refine s_iconst (v := (-1)) hX zcdX10_cross_29.1 (by decide) ?_
        exact e_ireti hX hR zcdX10_cross_29.2.1 h
set_option maxHeartbeats 4000000 in
theorem t_X10_dryCost (v1 : Int32) (M : Mem) : AXi yX10_dryCost cX10_dryCost 6 (some .int) 2 39 glM (fun ad => [.ref (ad 0), .int v1]) M (f_X10_dryCost M v1) := by
  intro r0 h
  refine AM.of (by decide) (fun _ => Nat.le_of_ble_eq_true rfl) (fun X ad cI cZ cB hX hR => ?_)
  show V X M [(0, .ref (ad 0)), (1, .int v1)] [] 0
  refine s_iload_n (k := 1) hX zcdX10_cross_243.2.2.2.2.2.2.2 rfl rfl ?_
  refine s_bipush (v := (nI 21)) hX zcdX10_dryCost_1.1 (by decide) ?_
  refine e_icmp_lt (tgt := 8) hX zcdX10_dryCost_1.2.1 (by decide) (m_lt (by decide +kernel)) h (fun h => ?_) (fun h => ?_)
  · refine s_iconst (v := (nI 0)) hX zcdX10_dryCost_1.2.2.2.2.1 (by decide) ?_
    refine s_istore_n (lv' := [(0, .ref (ad 0)), (1, .int v1), (2, .int (nI 0))]) hX zcdX10_dryCost_1.2.2.2.2.2.1 rfl (by decide) rfl ?_
    have lp10 : ∀ (N10 : Nat) (M10 : Mem) (y2_10 : Int32), wlp2 (f_X10_dryCost_B10 v1) N10 M10 y2_10 = some r0 → V X M10 [(0, .ref (ad 0)), (1, .int v1), (2, .int y2_10)] [] 10 := by
      intro N10
      induction N10 with
      | zero => exact fun _ _ h => e_none h
      | succ N10 ih10 =>
        intro M10 y2_10 h
        replace h : f_X10_dryCost_B10 v1 (wlp2 (f_X10_dryCost_B10 v1) N10) M10 y2_10 = some r0 := h
        generalize wlp2 (f_X10_dryCost_B10 v1) N10 = ag10 at ih10 h
        refine s_iload_n (k := 2) hX zcdX10_dryCost_1.2.2.2.2.2.2.1 rfl rfl ?_
        refine s_bipush (v := (nI 40)) hX zcdX10_dryCost_1.2.2.2.2.2.2.2 (by decide) ?_
        have j58 : f_X10_dryCost_L58 v1 M10 = some r0 → V X M10 [(0, .ref (ad 0)), (1, .int v1)] [] 58 := by
          intro  h
          refine s_iconst (v := (nI 1)) hX zcdX10_dryCost_55.2.1 (by decide) ?_
          refine s_istore_n (lv' := [(0, .ref (ad 0)), (1, .int v1), (2, .int (nI 1))]) hX zcdX10_dryCost_55.2.2.1 rfl (by decide) rfl ?_
          have lp60 : ∀ (N60 : Nat) (M60 : Mem) (y2_60 : Int32), wlp2 (f_X10_dryCost_B60 v1) N60 M60 y2_60 = some r0 → V X M60 [(0, .ref (ad 0)), (1, .int v1), (2, .int y2_60)] [] 60 := by
            intro N60
            induction N60 with
            | zero => exact fun _ _ h => e_none h
            | succ N60 ih60 =>
              intro M60 y2_60 h
              replace h : f_X10_dryCost_B60 v1 (wlp2 (f_X10_dryCost_B60 v1) N60) M60 y2_60 = some r0 := h
              generalize wlp2 (f_X10_dryCost_B60 v1) N60 = ag60 at ih60 h
              refine s_iload_n (k := 2) hX zcdX10_dryCost_55.2.2.2.1 rfl rfl ?_
              have j175 : f_X10_dryCost_L175 v1 M60 = some r0 → V X M60 [(0, .ref (ad 0)), (1, .int v1)] [] 175 := by
                intro  h
                refine s_ldcw (v := (nI 1000000)) hX kX10_343 zcdX10_dryCost_172.2.1 ?_
                refine s_istore_n (lv' := [(0, .ref (ad 0)), (1, .int v1), (3, .int (nI 1000000))]) hX zcdX10_dryCost_172.2.2.1 rfl (by decide) rfl ?_
                refine s_iconst (v := (nI 0)) hX zcdX10_dryCost_172.2.2.2.1 (by decide) ?_
                refine s_istore (lv' := [(0, .ref (ad 0)), (1, .int v1), (3, .int (nI 1000000)), (4, .int (nI 0))]) hX zcdX10_dryCost_172.2.2.2.2.1 (by decide) rfl ?_
                have lp182 : ∀ (N182 : Nat) (y3_182 : Int32) (y4_182 : Int32), wlp2 (f_X10_dryCost_B182 v1 M60) N182 y3_182 y4_182 = some r0 → V X M60 [(0, .ref (ad 0)), (1, .int v1), (3, .int y3_182), (4, .int y4_182)] [] 182 := by
                  intro N182
                  induction N182 with
                  | zero => exact fun _ _ h => e_none h
                  | succ N182 ih182 =>
                    intro y3_182 y4_182 h
                    replace h : f_X10_dryCost_B182 v1 M60 (wlp2 (f_X10_dryCost_B182 v1 M60) N182) y3_182 y4_182 = some r0 := h
                    generalize wlp2 (f_X10_dryCost_B182 v1 M60) N182 = ag182 at ih182 h
                    refine s_iload (k := 3) hX zcdX10_dryCost_172.2.2.2.2.2.1 rfl ?_
                    refine s_bipush (v := (nI 40)) hX zcdX10_dryCost_172.2.2.2.2.2.2.1 (by decide) ?_
                    refine e_icmp_ge (tgt := 220) hX zcdX10_dryCost_172.2.2.2.2.2.2.2 (by decide) (m_ge (by decide +kernel)) h (fun h => ?_) (fun h => ?_)
                    · refine s_iload_n (k := 2) hX zcdX10_dryCost_217.2.1 rfl rfl ?_
                      exact e_ireti hX hR zcdX10_dryCost_217.2.2 h
                    · refine s_aload_n (k := 0) hX zcdX10_dryCost_189.1 rfl rfl ?_
                      refine s_iload (k := 3) hX zcdX10_dryCost_189.2.1 rfl ?_
                      refine s_iconst (v := (nI 0)) hX zcdX10_dryCost_189.2.2.1 (by decide) ?_
                      refine s_iload_n (k := 1) hX zcdX10_dryCost_189.2.2.2.1 rfl rfl ?_
                      refine e_callVp hX (t_X10_isByBank y4_182 (nI 0) v1 M60) mX10_isByBank lX10_322 (by decide) (by decide) oM0 rfl rfl rfl rfl rfl (Nat.le_of_ble_eq_true rfl) zcdX10_dryCost_189.2.2.2.2.1 h (fun r_1 h => ?_)
                      refine e_if_eq (tgt := 214) hX zcdX10_dryCost_189.2.2.2.2.2.1 (by decide) z_eq h (fun h => ?_) (fun h => ?_)
                      · refine s_iinc (k := 3) (v := (y4_182 + (nI 1))) (lv' := [(0, .ref (ad 0)), (1, .int v1), (3, .int y3_182), (4, .int (y4_182 + (nI 1)))]) hX zcdX10_dryCost_202.2.2.2.2.2.2.2 (congrArg (fun z => y4_182 + z) (by decide)) (by decide) rfl rfl ?_
                        refine s_goto (tgt := 182) hX zcdX10_dryCost_217.1 (by decide) ?_
                        exact ih182 y3_182 (y4_182 + (nI 1)) h
                      · refine s_iload_n (k := 2) hX zcdX10_dryCost_189.2.2.2.2.2.2.1 rfl rfl ?_
                        refine s_aload_n (k := 0) hX zcdX10_dryCost_189.2.2.2.2.2.2.2 rfl rfl ?_
                        refine s_get hX fX10_89 oM0 rfl zcdX10_dryCost_202.1 ?_
                        refine s_iload (k := 3) hX zcdX10_dryCost_202.2.1 rfl ?_
                        refine e_iald hX aM27 zcdX10_dryCost_202.2.2.1 h (fun h => ?_)
                        refine s_iconst (v := (nI 1)) hX zcdX10_dryCost_202.2.2.2.1 (by decide) ?_
                        refine s_iadd hX zcdX10_dryCost_202.2.2.2.2.1 ?_
                        refine e_callSp hX (t_X10_min y3_182 ((M60 27 (ix y4_182)) + (nI 1)) M60) mX10_min lX10_125 (by decide) (by decide) rfl rfl (Nat.le_of_ble_eq_true rfl) zcdX10_dryCost_202.2.2.2.2.2.1 h (fun r_2 h => ?_)
                        refine s_istore_n (lv' := [(0, .ref (ad 0)), (1, .int v1), (4, .int y4_182), (3, .int r_2)]) hX zcdX10_dryCost_202.2.2.2.2.2.2.1 rfl (by decide) rfl ?_
                        refine s_iinc (k := 2) (v := (y4_182 + (nI 1))) (lv' := [(0, .ref (ad 0)), (1, .int v1), (3, .int r_2), (4, .int (y4_182 + (nI 1)))]) hX zcdX10_dryCost_202.2.2.2.2.2.2.2 (congrArg (fun z => y4_182 + z) (by decide)) (by decide) rfl rfl ?_
                        refine s_goto (tgt := 182) hX zcdX10_dryCost_217.1 (by decide) ?_
                        exact ih182 r_2 (y4_182 + (nI 1)) h
                exact lp182 FU (nI 1000000) (nI 0) h
              refine e_if_eq (tgt := 175) hX zcdX10_dryCost_55.2.2.2.2.1 (by decide) z_eq h (fun h => ?_) (fun h => ?_)
              · refine s_loc [0, 1] rfl ?_
                exact j175 h
              · refine s_iconst (v := (nI 0)) hX zcdX10_dryCost_55.2.2.2.2.2.1 (by decide) ?_
                refine s_istore_n (lv' := [(0, .ref (ad 0)), (1, .int v1), (2, .int (nI 0))]) hX zcdX10_dryCost_55.2.2.2.2.2.2.1 rfl (by decide) rfl ?_
                refine s_iconst (v := (nI 0)) hX zcdX10_dryCost_55.2.2.2.2.2.2.2 (by decide) ?_
                refine s_istore_n (lv' := [(0, .ref (ad 0)), (1, .int v1), (2, .int (nI 0)), (3, .int (nI 0))]) hX zcdX10_dryCost_67.1 rfl (by decide) rfl ?_
                have lp68 : ∀ (N68 : Nat) (M68 : Mem) (y2_68 : Int32) (y3_68 : Int32), wlp3 (f_X10_dryCost_B68 v1 ag60) N68 M68 y2_68 y3_68 = some r0 → V X M68 [(0, .ref (ad 0)), (1, .int v1), (2, .int y2_68), (3, .int y3_68)] [] 68 := by
                  intro N68
                  induction N68 with
                  | zero => exact fun _ _ _ h => e_none h
                  | succ N68 ih68 =>
                    intro M68 y2_68 y3_68 h
                    replace h : f_X10_dryCost_B68 v1 ag60 (wlp3 (f_X10_dryCost_B68 v1 ag60) N68) M68 y2_68 y3_68 = some r0 := h
                    generalize wlp3 (f_X10_dryCost_B68 v1 ag60) N68 = ag68 at ih68 h
                    refine s_iload_n (k := 3) hX zcdX10_dryCost_67.2.1 rfl rfl ?_
                    refine s_bipush (v := (nI 40)) hX zcdX10_dryCost_67.2.2.1 (by decide) ?_
                    refine e_icmp_ge (tgt := 172) hX zcdX10_dryCost_67.2.2.2.1 (by decide) (m_ge (by decide +kernel)) h (fun h => ?_) (fun h => ?_)
                    · refine s_goto (tgt := 60) hX zcdX10_dryCost_172.1 (by decide) ?_
                      refine s_loc [0, 1, 2] rfl ?_
                      exact ih60 M68 y2_68 h
                    · refine s_iconst (v := (nI 0)) hX zcdX10_dryCost_67.2.2.2.2.1 (by decide) ?_
                      refine s_istore (lv' := [(0, .ref (ad 0)), (1, .int v1), (2, .int y2_68), (3, .int y3_68), (4, .int (nI 0))]) hX zcdX10_dryCost_67.2.2.2.2.2.1 (by decide) rfl ?_
                      have lp77 : ∀ (N77 : Nat) (M77 : Mem) (y2_77 : Int32) (y4_77 : Int32), wlp3 (f_X10_dryCost_B77 v1 ag68 y3_68) N77 M77 y2_77 y4_77 = some r0 → V X M77 [(0, .ref (ad 0)), (1, .int v1), (2, .int y2_77), (3, .int y3_68), (4, .int y4_77)] [] 77 := by
                        intro N77
                        induction N77 with
                        | zero => exact fun _ _ _ h => e_none h
                        | succ N77 ih77 =>
                          intro M77 y2_77 y4_77 h
                          replace h : f_X10_dryCost_B77 v1 ag68 y3_68 (wlp3 (f_X10_dryCost_B77 v1 ag68 y3_68) N77) M77 y2_77 y4_77 = some r0 := h
                          generalize wlp3 (f_X10_dryCost_B77 v1 ag68 y3_68) N77 = ag77 at ih77 h
                          refine s_iload (k := 4) hX zcdX10_dryCost_67.2.2.2.2.2.2.1 rfl ?_
                          refine s_bipush (v := (nI 40)) hX zcdX10_dryCost_67.2.2.2.2.2.2.2 (by decide) ?_
                          refine e_icmp_ge (tgt := 166) hX zcdX10_dryCost_81.1 (by decide) (m_ge (by decide +kernel)) h (fun h => ?_) (fun h => ?_)
                          · refine s_iinc (k := 3) (v := (y3_68 + (nI 1))) (lv' := [(0, .ref (ad 0)), (1, .int v1), (2, .int y2_77), (4, .int y4_77), (3, .int (y3_68 + (nI 1)))]) hX zcdX10_dryCost_155.2.2.2.2.2.2.1 (congrArg (fun z => y3_68 + z) (by decide)) (by decide) rfl rfl ?_
                            refine s_goto (tgt := 68) hX zcdX10_dryCost_155.2.2.2.2.2.2.2 (by decide) ?_
                            refine s_loc [0, 1, 2, 4] rfl ?_
                            exact ih68 M77 y2_77 (y3_68 + (nI 1)) h
                          · refine s_aload_n (k := 0) hX zcdX10_dryCost_81.2.1 rfl rfl ?_
                            refine s_get hX fX10_89 oM0 rfl zcdX10_dryCost_81.2.2.1 ?_
                            refine s_iload_n (k := 3) hX zcdX10_dryCost_81.2.2.2.1 rfl rfl ?_
                            refine e_iald hX aM27 zcdX10_dryCost_81.2.2.2.2.1 h (fun h => ?_)
                            refine s_ldcw (v := (nI 1000000)) hX kX10_343 zcdX10_dryCost_81.2.2.2.2.2.1 ?_
                            refine e_icmp_eq (tgt := 160) hX zcdX10_dryCost_81.2.2.2.2.2.2.1 (by decide) (m_eq (by decide +kernel)) h (fun h => ?_) (fun h => ?_)
                            · refine s_iinc (k := 4) (v := (y4_77 + (nI 1))) (lv' := [(0, .ref (ad 0)), (1, .int v1), (2, .int y2_77), (3, .int y3_68), (4, .int (y4_77 + (nI 1)))]) hX zcdX10_dryCost_155.2.2.2.2.1 (congrArg (fun z => y4_77 + z) (by decide)) (by decide) rfl rfl ?_
                              refine s_goto (tgt := 77) hX zcdX10_dryCost_155.2.2.2.2.2.1 (by decide) ?_
                              exact ih77 M77 y2_77 (y4_77 + (nI 1)) h
                            · refine s_aload_n (k := 0) hX zcdX10_dryCost_81.2.2.2.2.2.2.2 rfl rfl ?_
                              refine s_iload_n (k := 3) hX zcdX10_dryCost_97.1 rfl rfl ?_
                              refine s_iload (k := 4) hX zcdX10_dryCost_97.2.1 rfl ?_
                              refine s_iload_n (k := 1) hX zcdX10_dryCost_97.2.2.1 rfl rfl ?_
                              refine e_callVp hX (t_X10_canStep y3_68 y4_77 v1 M77) mX10_canStep lX10_326 (by decide) (by decide) oM0 rfl rfl rfl rfl rfl (Nat.le_of_ble_eq_true rfl) zcdX10_dryCost_97.2.2.2.1 h (fun r_3 h => ?_)
                              refine e_if_ne (tgt := 110) hX zcdX10_dryCost_97.2.2.2.2.1 (by decide) z_eq h (fun h => ?_) (fun h => ?_)
                              · refine s_aload_n (k := 0) hX zcdX10_dryCost_97.2.2.2.2.2.2.1 rfl rfl ?_
                                refine s_get hX fX10_89 oM0 rfl zcdX10_dryCost_97.2.2.2.2.2.2.2 ?_
                                refine s_iload_n (k := 3) hX zcdX10_dryCost_114.1 rfl rfl ?_
                                refine e_iald hX aM27 zcdX10_dryCost_114.2.1 h (fun h => ?_)
                                refine s_bipush (v := (nI 100)) hX zcdX10_dryCost_114.2.2.1 (by decide) ?_
                                refine s_aload_n (k := 0) hX zcdX10_dryCost_114.2.2.2.1 rfl rfl ?_
                                refine s_get hX fX10_7 oM0 rfl zcdX10_dryCost_114.2.2.2.2.1 ?_
                                refine s_bipush (v := (nI 120)) hX zcdX10_dryCost_114.2.2.2.2.2.1 (by decide) ?_
                                refine s_iload (k := 4) hX zcdX10_dryCost_114.2.2.2.2.2.2.1 rfl ?_
                                refine s_iadd hX zcdX10_dryCost_114.2.2.2.2.2.2.2 ?_
                                refine e_iald hX aM1 zcdX10_dryCost_127.1 h (fun h => ?_)
                                refine s_imul hX zcdX10_dryCost_127.2.1 ?_
                                refine s_iadd hX zcdX10_dryCost_127.2.2.1 ?_
                                refine s_iconst (v := (nI 1)) hX zcdX10_dryCost_127.2.2.2.1 (by decide) ?_
                                refine s_iadd hX zcdX10_dryCost_127.2.2.2.2.1 ?_
                                refine e_bnd h (fun x_4 h => ?_)
                                refine s_istore (lv' := [(0, .ref (ad 0)), (1, .int v1), (2, .int y2_77), (3, .int y3_68), (4, .int y4_77), (5, .int x_4)]) hX zcdX10_dryCost_127.2.2.2.2.2.1 (by decide) rfl ?_
                                refine s_iload (k := 5) hX zcdX10_dryCost_127.2.2.2.2.2.2.1 rfl ?_
                                refine s_aload_n (k := 0) hX zcdX10_dryCost_127.2.2.2.2.2.2.2 rfl rfl ?_
                                refine s_get hX fX10_89 oM0 rfl zcdX10_dryCost_137.1 ?_
                                refine s_iload (k := 4) hX zcdX10_dryCost_137.2.1 rfl ?_
                                refine e_iald hX aM27 zcdX10_dryCost_137.2.2.1 h (fun h => ?_)
                                refine e_icmp_lt (tgt := 149) hX zcdX10_dryCost_137.2.2.2.1 (by decide) r_lt h (fun h => ?_) (fun h => ?_)
                                · refine s_aload_n (k := 0) hX zcdX10_dryCost_137.2.2.2.2.2.1 rfl rfl ?_
                                  refine s_get hX fX10_89 oM0 rfl zcdX10_dryCost_137.2.2.2.2.2.2.1 ?_
                                  refine s_iload (k := 4) hX zcdX10_dryCost_137.2.2.2.2.2.2.2 rfl ?_
                                  refine s_iload (k := 5) hX zcdX10_dryCost_155.1 rfl ?_
                                  refine e_iast hX aM27 zcdX10_dryCost_155.2.1 h (fun h => ?_)
                                  refine e_bndM h (fun M_5 h => ?_)
                                  refine s_iconst (v := (nI 1)) hX zcdX10_dryCost_155.2.2.1 (by decide) ?_
                                  refine s_istore_n (lv' := [(0, .ref (ad 0)), (1, .int v1), (3, .int y3_68), (4, .int y4_77), (5, .int x_4), (2, .int (nI 1))]) hX zcdX10_dryCost_155.2.2.2.1 rfl (by decide) rfl ?_
                                  refine s_iinc (k := 3) (v := (y4_77 + (nI 1))) (lv' := [(0, .ref (ad 0)), (1, .int v1), (3, .int y3_68), (5, .int x_4), (2, .int (nI 1)), (4, .int (y4_77 + (nI 1)))]) hX zcdX10_dryCost_155.2.2.2.2.1 (congrArg (fun z => y4_77 + z) (by decide)) (by decide) rfl rfl ?_
                                  refine s_goto (tgt := 77) hX zcdX10_dryCost_155.2.2.2.2.2.1 (by decide) ?_
                                  refine s_loc [0, 1, 4, 2, 5] rfl ?_
                                  exact ih77 M_5 (nI 1) (y4_77 + (nI 1)) h
                                · refine s_goto (tgt := 160) hX zcdX10_dryCost_137.2.2.2.2.1 (by decide) ?_
                                  refine s_iinc (k := 4) (v := (y4_77 + (nI 1))) (lv' := [(0, .ref (ad 0)), (1, .int v1), (2, .int y2_77), (3, .int y3_68), (5, .int x_4), (4, .int (y4_77 + (nI 1)))]) hX zcdX10_dryCost_155.2.2.2.2.1 (congrArg (fun z => y4_77 + z) (by decide)) (by decide) rfl rfl ?_
                                  refine s_goto (tgt := 77) hX zcdX10_dryCost_155.2.2.2.2.2.1 (by decide) ?_
                                  refine s_loc [0, 1, 2, 3, 5] rfl ?_
                                  exact ih77 M77 y2_77 (y4_77 + (nI 1)) h
                              · refine s_goto (tgt := 160) hX zcdX10_dryCost_97.2.2.2.2.2.1 (by decide) ?_
                                refine s_iinc (k := 4) (v := (y4_77 + (nI 1))) (lv' := [(0, .ref (ad 0)), (1, .int v1), (2, .int y2_77), (3, .int y3_68), (4, .int (y4_77 + (nI 1)))]) hX zcdX10_dryCost_155.2.2.2.2.1 (congrArg (fun z => y4_77 + z) (by decide)) (by decide) rfl rfl ?_
                                refine s_goto (tgt := 77) hX zcdX10_dryCost_155.2.2.2.2.2.1 (by decide) ?_
                                exact ih77 M77 y2_77 (y4_77 + (nI 1)) h
                      exact lp77 FU M68 y2_68 (nI 0) h
                exact lp68 FU M60 (nI 0) (nI 0) h
          exact lp60 FU M10 (nI 1) h
        refine e_icmp_ge (tgt := 58) hX zcdX10_dryCost_13.1 (by decide) (m_ge (by decide +kernel)) h (fun h => ?_) (fun h => ?_)
        · refine s_loc [0, 1] rfl ?_
          exact j58 h
        · refine s_aload_n (k := 0) hX zcdX10_dryCost_13.2.1 rfl rfl ?_
          refine s_get hX fX10_89 oM0 rfl zcdX10_dryCost_13.2.2.1 ?_
          refine s_iload_n (k := 2) hX zcdX10_dryCost_13.2.2.2.1 rfl rfl ?_
          refine s_aload_n (k := 0) hX zcdX10_dryCost_13.2.2.2.2.1 rfl rfl ?_
          refine s_iload_n (k := 2) hX zcdX10_dryCost_13.2.2.2.2.2.1 rfl rfl ?_
          refine s_iconst (v := (nI 1)) hX zcdX10_dryCost_13.2.2.2.2.2.2.1 (by decide) ?_
          refine s_iload_n (k := 1) hX zcdX10_dryCost_13.2.2.2.2.2.2.2 rfl rfl ?_
          refine e_callVp hX (t_X10_isByBank y2_10 (nI 1) v1 M10) mX10_isByBank lX10_322 (by decide) (by decide) oM0 rfl rfl rfl rfl rfl (Nat.le_of_ble_eq_true rfl) zcdX10_dryCost_25.1 h (fun r_6 h => ?_)
          have j51 : ∀ (t0_51 : Int32), f_X10_dryCost_L51 ag10 M10 y2_10 t0_51 = some r0 → V X M10 [(0, .ref (ad 0)), (1, .int v1), (2, .int y2_10)] [.int t0_51, .int y2_10, .ref (ad 27)] 51 := by
            intro t0_51 h
            refine e_iast hX aM27 zcdX10_dryCost_41.2.2.2.2.2.2.1 h (fun h => ?_)
            refine e_bndM h (fun M_7 h => ?_)
            refine s_iinc (k := 2) (v := (y2_10 + (nI 1))) (lv' := [(0, .ref (ad 0)), (1, .int v1), (2, .int (y2_10 + (nI 1)))]) hX zcdX10_dryCost_41.2.2.2.2.2.2.2 (congrArg (fun z => y2_10 + z) (by decide)) (by decide) rfl rfl ?_
            refine s_goto (tgt := 10) hX zcdX10_dryCost_55.1 (by decide) ?_
            exact ih10 M_7 (y2_10 + (nI 1)) h
          refine e_if_eq (tgt := 48) hX zcdX10_dryCost_25.2.1 (by decide) z_eq h (fun h => ?_) (fun h => ?_)
          · refine s_ldcw (v := (nI 1000000)) hX kX10_343 zcdX10_dryCost_41.2.2.2.2.2.1 ?_
            exact j51 (nI 1000000) h
          · refine s_bipush (v := (nI 100)) hX zcdX10_dryCost_25.2.2.1 (by decide) ?_
            refine s_aload_n (k := 0) hX zcdX10_dryCost_25.2.2.2.1 rfl rfl ?_
            refine s_get hX fX10_7 oM0 rfl zcdX10_dryCost_25.2.2.2.2.1 ?_
            refine s_bipush (v := (nI 120)) hX zcdX10_dryCost_25.2.2.2.2.2.1 (by decide) ?_
            refine s_iload_n (k := 2) hX zcdX10_dryCost_25.2.2.2.2.2.2.1 rfl rfl ?_
            refine s_iadd hX zcdX10_dryCost_25.2.2.2.2.2.2.2 ?_
            refine e_iald hX aM1 zcdX10_dryCost_41.1 h (fun h => ?_)
            refine s_imul hX zcdX10_dryCost_41.2.1 ?_
            refine s_iconst (v := (nI 1)) hX zcdX10_dryCost_41.2.2.1 (by decide) ?_
            refine s_iadd hX zcdX10_dryCost_41.2.2.2.1 ?_
            refine s_goto (tgt := 51) hX zcdX10_dryCost_41.2.2.2.2.1 (by decide) ?_
            exact j51 (((nI 100) * (M10 1 (ix ((nI 120) + y2_10)))) + (nI 1)) h
    exact lp10 FU M (nI 0) h
  · refine s_iconst (v := (nI 1)) hX zcdX10_dryCost_1.2.2.1 (by decide) ?_
    exact e_ireti hX hR zcdX10_dryCost_1.2.2.2.1 h
