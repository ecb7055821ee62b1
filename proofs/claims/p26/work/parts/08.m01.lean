theorem zcdX10_listsStones_0 : decode cX10_listsStones 0 = .ok (.iconst 0, 1) ∧ decode cX10_listsStones 1 = .ok (.istore_n 3, 1) ∧ decode cX10_listsStones 2 = .ok (.iconst 0, 1) ∧ decode cX10_listsStones 3 = .ok (.istore 4, 2) ∧ decode cX10_listsStones 5 = .ok (.iload 4, 2) ∧ decode cX10_listsStones 7 = .ok (.bipush 40, 2) ∧ decode cX10_listsStones 9 = .ok (.if_icmp .ge 51, 3) ∧ decode cX10_listsStones 12 = .ok (.iload_n 3, 1) := by decide +kernel
theorem zcdX10_listsStones_13 : decode cX10_listsStones 13 = .ok (.iload_n 1, 1) ∧ decode cX10_listsStones 14 = .ok (.if_icmp .ge 46, 3) ∧ decode cX10_listsStones 17 = .ok (.aload_n 0, 1) ∧ decode cX10_listsStones 18 = .ok (.iload 4, 2) ∧ decode cX10_listsStones 20 = .ok (.invokevirtual 154, 3) ∧ decode cX10_listsStones 23 = .ok (.ifCond .eq 31, 3) ∧ decode cX10_listsStones 26 = .ok (.iload_n 2, 1) ∧ decode cX10_listsStones 27 = .ok (.ifCond .eq 15, 3) := by decide +kernel
theorem zcdX10_listsStones_30 : decode cX10_listsStones 30 = .ok (.aload_n 0, 1) ∧ decode cX10_listsStones 31 = .ok (.iload 4, 2) ∧ decode cX10_listsStones 33 = .ok (.invokevirtual 319, 3) ∧ decode cX10_listsStones 36 = .ok (.ifCond .ne 6, 3) ∧ decode cX10_listsStones 39 = .ok (.goto 15, 3) ∧ decode cX10_listsStones 42 = .ok (.aload_n 0, 1) ∧ decode cX10_listsStones 43 = .ok (.getfield 116, 3) ∧ decode cX10_listsStones 46 = .ok (.iload_n 3, 1) := by decide +kernel
theorem zcdX10_listsStones_47 : decode cX10_listsStones 47 = .ok (.iload 4, 2) ∧ decode cX10_listsStones 49 = .ok (.iastore, 1) ∧ decode cX10_listsStones 50 = .ok (.iload_n 3, 1) ∧ decode cX10_listsStones 51 = .ok (.iconst 1, 1) ∧ decode cX10_listsStones 52 = .ok (.iadd, 1) ∧ decode cX10_listsStones 53 = .ok (.istore_n 3, 1) ∧ decode cX10_listsStones 54 = .ok (.iinc 4 1, 3) ∧ decode cX10_listsStones 57 = .ok (.goto (-52), 3) := by decide +kernel
theorem zcdX10_listsStones_60 : decode cX10_listsStones 60 = .ok (.iload_n 3, 1) ∧ decode cX10_listsStones 61 = .ok (.iload_n 1, 1) ∧ decode cX10_listsStones 62 = .ok (.if_icmp .ne 7, 3) ∧ decode cX10_listsStones 65 = .ok (.iconst 1, 1) ∧ decode cX10_listsStones 66 = .ok (.goto 4, 3) ∧ decode cX10_listsStones 69 = .ok (.iconst 0, 1) ∧ decode cX10_listsStones 70 = .ok (.ireturn, 1) ∧ decode cX10_octet 0 = .ok (.aload_n 0, 1) := by decide +kernel
theorem zcdX10_octet_1 : decode cX10_octet 1 = .ok (.getfield 22, 3) ∧ decode cX10_octet 4 = .ok (.iload_n 1, 1) ∧ decode cX10_octet 5 = .ok (.baload, 1) ∧ decode cX10_octet 6 = .ok (.sipush 255, 3) ∧ decode cX10_octet 9 = .ok (.iand, 1) ∧ decode cX10_octet 10 = .ok (.ireturn, 1) ∧ decode cX10_size 0 = .ok (.iload_n 0, 1) ∧ decode cX10_size 1 = .ok (.ifCond .ge 8, 3) := by decide +kernel
theorem zcdX10_size_4 : decode cX10_size 4 = .ok (.iload_n 0, 1) ∧ decode cX10_size 5 = .ok (.ineg, 1) ∧ decode cX10_size 6 = .ok (.goto 4, 3) ∧ decode cX10_size 9 = .ok (.iload_n 0, 1) ∧ decode cX10_size 10 = .ok (.ireturn, 1) ∧ decode cX10_chalkOff 0 = .ok (.iconst 0, 1) ∧ decode cX10_chalkOff 1 = .ok (.istore_n 2, 1) ∧ decode cX10_chalkOff 2 = .ok (.iconst 0, 1) := by decide +kernel
theorem zcdX10_chalkOff_3 : decode cX10_chalkOff 3 = .ok (.istore_n 3, 1) ∧ decode cX10_chalkOff 4 = .ok (.iload_n 3, 1) ∧ decode cX10_chalkOff 5 = .ok (.iload_n 1, 1) ∧ decode cX10_chalkOff 6 = .ok (.if_icmp .ge 70, 3) ∧ decode cX10_chalkOff 9 = .ok (.aload_n 0, 1) ∧ decode cX10_chalkOff 10 = .ok (.getfield 116, 3) ∧ decode cX10_chalkOff 13 = .ok (.aload_n 0, 1) ∧ decode cX10_chalkOff 14 = .ok (.getfield 119, 3) := by decide +kernel
theorem zcdX10_chalkOff_17 : decode cX10_chalkOff 17 = .ok (.iload_n 3, 1) ∧ decode cX10_chalkOff 18 = .ok (.iaload, 1) ∧ decode cX10_chalkOff 19 = .ok (.iaload, 1) ∧ decode cX10_chalkOff 20 = .ok (.istore 4, 2) ∧ decode cX10_chalkOff 22 = .ok (.iload_n 2, 1) ∧ decode cX10_chalkOff 23 = .ok (.aload_n 0, 1) ∧ decode cX10_chalkOff 24 = .ok (.getfield 7, 3) ∧ decode cX10_chalkOff 27 = .ok (.bipush 40, 2) := by decide +kernel
theorem zcdX10_chalkOff_29 : decode cX10_chalkOff 29 = .ok (.iload 4, 2) ∧ decode cX10_chalkOff 31 = .ok (.iadd, 1) ∧ decode cX10_chalkOff 32 = .ok (.iaload, 1) ∧ decode cX10_chalkOff 33 = .ok (.aload_n 0, 1) ∧ decode cX10_chalkOff 34 = .ok (.iconst 2, 1) ∧ decode cX10_chalkOff 35 = .ok (.iload_n 3, 1) ∧ decode cX10_chalkOff 36 = .ok (.imul, 1) ∧ decode cX10_chalkOff 37 = .ok (.invokevirtual 377, 3) := by decide +kernel
theorem zcdX10_chalkOff_40 : decode cX10_chalkOff 40 = .ok (.isub, 1) ∧ decode cX10_chalkOff 41 = .ok (.invokestatic 380, 3) ∧ decode cX10_chalkOff 44 = .ok (.iadd, 1) ∧ decode cX10_chalkOff 45 = .ok (.aload_n 0, 1) ∧ decode cX10_chalkOff 46 = .ok (.getfield 7, 3) ∧ decode cX10_chalkOff 49 = .ok (.bipush 80, 2) ∧ decode cX10_chalkOff 51 = .ok (.iload 4, 2) ∧ decode cX10_chalkOff 53 = .ok (.iadd, 1) := by decide +kernel
theorem zcdX10_chalkOff_54 : decode cX10_chalkOff 54 = .ok (.iaload, 1) ∧ decode cX10_chalkOff 55 = .ok (.aload_n 0, 1) ∧ decode cX10_chalkOff 56 = .ok (.iconst 2, 1) ∧ decode cX10_chalkOff 57 = .ok (.iload_n 3, 1) ∧ decode cX10_chalkOff 58 = .ok (.imul, 1) ∧ decode cX10_chalkOff 59 = .ok (.iconst 1, 1) ∧ decode cX10_chalkOff 60 = .ok (.iadd, 1) ∧ decode cX10_chalkOff 61 = .ok (.invokevirtual 377, 3) := by decide +kernel
theorem zcdX10_chalkOff_64 : decode cX10_chalkOff 64 = .ok (.isub, 1) ∧ decode cX10_chalkOff 65 = .ok (.invokestatic 380, 3) ∧ decode cX10_chalkOff 68 = .ok (.iadd, 1) ∧ decode cX10_chalkOff 69 = .ok (.istore_n 2, 1) ∧ decode cX10_chalkOff 70 = .ok (.iinc 3 1, 3) ∧ decode cX10_chalkOff 73 = .ok (.goto (-69), 3) ∧ decode cX10_chalkOff 76 = .ok (.iload_n 2, 1) ∧ decode cX10_chalkOff 77 = .ok (.ireturn, 1) := by decide +kernel
theorem zcdX10_changes_0 : decode cX10_changes 0 = .ok (.aload_n 0, 1) ∧ decode cX10_changes 1 = .ok (.getfield 119, 3) ∧ decode cX10_changes 4 = .ok (.iload_n 1, 1) ∧ decode cX10_changes 5 = .ok (.iaload, 1) ∧ decode cX10_changes 6 = .ok (.istore_n 3, 1) ∧ decode cX10_changes 7 = .ok (.aload_n 0, 1) ∧ decode cX10_changes 8 = .ok (.getfield 119, 3) ∧ decode cX10_changes 11 = .ok (.iload_n 1, 1) := by decide +kernel
theorem zcdX10_changes_12 : decode cX10_changes 12 = .ok (.aload_n 0, 1) ∧ decode cX10_changes 13 = .ok (.getfield 119, 3) ∧ decode cX10_changes 16 = .ok (.iload_n 2, 1) ∧ decode cX10_changes 17 = .ok (.iaload, 1) ∧ decode cX10_changes 18 = .ok (.iastore, 1) ∧ decode cX10_changes 19 = .ok (.aload_n 0, 1) ∧ decode cX10_changes 20 = .ok (.getfield 119, 3) ∧ decode cX10_changes 23 = .ok (.iload_n 2, 1) := by decide +kernel
theorem zcdX10_changes_24 : decode cX10_changes 24 = .ok (.iload_n 3, 1) ∧ decode cX10_changes 25 = .ok (.iastore, 1) ∧ decode cX10_changes 26 = .ok (.return_, 1) ∧ decode cX10_nextRow 0 = .ok (.iload_n 1, 1) ∧ decode cX10_nextRow 1 = .ok (.iconst 2, 1) ∧ decode cX10_nextRow 2 = .ok (.isub, 1) ∧ decode cX10_nextRow 3 = .ok (.istore_n 3, 1) ∧ decode cX10_nextRow 4 = .ok (.iload_n 3, 1) := by decide +kernel
theorem zcdX10_nextRow_5 : decode cX10_nextRow 5 = .ok (.iload_n 2, 1) ∧ decode cX10_nextRow 6 = .ok (.if_icmp .lt 27, 3) ∧ decode cX10_nextRow 9 = .ok (.aload_n 0, 1) ∧ decode cX10_nextRow 10 = .ok (.getfield 119, 3) ∧ decode cX10_nextRow 13 = .ok (.iload_n 3, 1) ∧ decode cX10_nextRow 14 = .ok (.iaload, 1) ∧ decode cX10_nextRow 15 = .ok (.aload_n 0, 1) ∧ decode cX10_nextRow 16 = .ok (.getfield 119, 3) := by decide +kernel
theorem zcdX10_nextRow_19 : decode cX10_nextRow 19 = .ok (.iload_n 3, 1) ∧ decode cX10_nextRow 20 = .ok (.iconst 1, 1) ∧ decode cX10_nextRow 21 = .ok (.iadd, 1) ∧ decode cX10_nextRow 22 = .ok (.iaload, 1) ∧ decode cX10_nextRow 23 = .ok (.if_icmp .le 10, 3) ∧ decode cX10_nextRow 26 = .ok (.iload_n 3, 1) ∧ decode cX10_nextRow 27 = .ok (.iconst 1, 1) ∧ decode cX10_nextRow 28 = .ok (.isub, 1) := by decide +kernel
theorem zcdX10_nextRow_29 : decode cX10_nextRow 29 = .ok (.istore_n 3, 1) ∧ decode cX10_nextRow 30 = .ok (.goto (-26), 3) ∧ decode cX10_nextRow 33 = .ok (.iload_n 3, 1) ∧ decode cX10_nextRow 34 = .ok (.iload_n 2, 1) ∧ decode cX10_nextRow 35 = .ok (.if_icmp .ge 5, 3) ∧ decode cX10_nextRow 38 = .ok (.iconst 0, 1) ∧ decode cX10_nextRow 39 = .ok (.ireturn, 1) ∧ decode cX10_nextRow 40 = .ok (.iload_n 1, 1) := by decide +kernel
theorem zcdX10_nextRow_41 : decode cX10_nextRow 41 = .ok (.iconst 1, 1) ∧ decode cX10_nextRow 42 = .ok (.isub, 1) ∧ decode cX10_nextRow 43 = .ok (.istore 4, 2) ∧ decode cX10_nextRow 45 = .ok (.aload_n 0, 1) ∧ decode cX10_nextRow 46 = .ok (.getfield 119, 3) ∧ decode cX10_nextRow 49 = .ok (.iload 4, 2) ∧ decode cX10_nextRow 51 = .ok (.iaload, 1) ∧ decode cX10_nextRow 52 = .ok (.aload_n 0, 1) := by decide +kernel
theorem zcdX10_nextRow_53 : decode cX10_nextRow 53 = .ok (.getfield 119, 3) ∧ decode cX10_nextRow 56 = .ok (.iload_n 3, 1) ∧ decode cX10_nextRow 57 = .ok (.iaload, 1) ∧ decode cX10_nextRow 58 = .ok (.if_icmp .ge 12, 3) ∧ decode cX10_nextRow 61 = .ok (.iload 4, 2) ∧ decode cX10_nextRow 63 = .ok (.iconst 1, 1) ∧ decode cX10_nextRow 64 = .ok (.isub, 1) ∧ decode cX10_nextRow 65 = .ok (.istore 4, 2) := by decide +kernel
theorem zcdX10_nextRow_67 : decode cX10_nextRow 67 = .ok (.goto (-22), 3) ∧ decode cX10_nextRow 70 = .ok (.aload_n 0, 1) ∧ decode cX10_nextRow 71 = .ok (.iload_n 3, 1) ∧ decode cX10_nextRow 72 = .ok (.iload 4, 2) ∧ decode cX10_nextRow 74 = .ok (.invokevirtual 374, 3) ∧ decode cX10_nextRow 77 = .ok (.iload_n 3, 1) ∧ decode cX10_nextRow 78 = .ok (.iconst 1, 1) ∧ decode cX10_nextRow 79 = .ok (.iadd, 1) := by decide +kernel
theorem zcdX10_nextRow_80 : decode cX10_nextRow 80 = .ok (.istore 5, 2) ∧ decode cX10_nextRow 82 = .ok (.iload_n 1, 1) ∧ decode cX10_nextRow 83 = .ok (.iconst 1, 1) ∧ decode cX10_nextRow 84 = .ok (.isub, 1) ∧ decode cX10_nextRow 85 = .ok (.istore 6, 2) ∧ decode cX10_nextRow 87 = .ok (.iload 5, 2) ∧ decode cX10_nextRow 89 = .ok (.iload 6, 2) ∧ decode cX10_nextRow 91 = .ok (.if_icmp .ge 20, 3) := by decide +kernel
theorem zcdX10_nextRow_94 : decode cX10_nextRow 94 = .ok (.aload_n 0, 1) ∧ decode cX10_nextRow 95 = .ok (.iload 5, 2) ∧ decode cX10_nextRow 97 = .ok (.iload 6, 2) ∧ decode cX10_nextRow 99 = .ok (.invokevirtual 374, 3) ∧ decode cX10_nextRow 102 = .ok (.iinc 5 1, 3) ∧ decode cX10_nextRow 105 = .ok (.iinc 6 (-1), 3) ∧ decode cX10_nextRow 108 = .ok (.goto (-21), 3) ∧ decode cX10_nextRow 111 = .ok (.iconst 1, 1) := by decide +kernel
theorem zcdX10_nextRow_112 : decode cX10_nextRow 112 = .ok (.ireturn, 1) ∧ decode cX10_chalk 0 = .ok (.iload_n 1, 1) ∧ decode cX10_chalk 1 = .ok (.iconst 1, 1) ∧ decode cX10_chalk 2 = .ok (.bipush 7, 2) ∧ decode cX10_chalk 4 = .ok (.invokestatic 132, 3) ∧ decode cX10_chalk 7 = .ok (.ifCond .eq 30, 3) ∧ decode cX10_chalk 10 = .ok (.iload_n 2, 1) ∧ decode cX10_chalk 11 = .ok (.bipush 100, 2) := by decide +kernel
theorem zcdX10_chalk_13 : decode cX10_chalk 13 = .ok (.if_icmp .eq 14, 3) ∧ decode cX10_chalk 16 = .ok (.iload_n 2, 1) ∧ decode cX10_chalk 17 = .ok (.iconst 0, 1) ∧ decode cX10_chalk 18 = .ok (.iload_n 1, 1) ∧ decode cX10_chalk 19 = .ok (.iconst 1, 1) ∧ decode cX10_chalk 20 = .ok (.isub, 1) ∧ decode cX10_chalk 21 = .ok (.invokestatic 132, 3) ∧ decode cX10_chalk 24 = .ok (.ifCond .eq 13, 3) := by decide +kernel
theorem zcdX10_chalk_27 : decode cX10_chalk 27 = .ok (.iconst 2, 1) ∧ decode cX10_chalk 28 = .ok (.iload_n 1, 1) ∧ decode cX10_chalk 29 = .ok (.imul, 1) ∧ decode cX10_chalk 30 = .ok (.aload_n 0, 1) ∧ decode cX10_chalk 31 = .ok (.getfield 158, 3) ∧ decode cX10_chalk 34 = .ok (.if_icmp .le 5, 3) ∧ decode cX10_chalk 37 = .ok (.iconst (-1), 1) ∧ decode cX10_chalk 38 = .ok (.ireturn, 1) := by decide +kernel
theorem zcdX10_chalk_39 : decode cX10_chalk 39 = .ok (.aload_n 0, 1) ∧ decode cX10_chalk 40 = .ok (.iconst 0, 1) ∧ decode cX10_chalk 41 = .ok (.putfield 158, 3) ∧ decode cX10_chalk 44 = .ok (.aload_n 0, 1) ∧ decode cX10_chalk 45 = .ok (.iload_n 1, 1) ∧ decode cX10_chalk 46 = .ok (.iconst 0, 1) ∧ decode cX10_chalk 47 = .ok (.invokevirtual 383, 3) ∧ decode cX10_chalk 50 = .ok (.ifCond .ne 6, 3) := by decide +kernel
theorem zcdX10_chalk_53 : decode cX10_chalk 53 = .ok (.bipush (-2), 2) ∧ decode cX10_chalk 55 = .ok (.ireturn, 1) ∧ decode cX10_chalk 56 = .ok (.iconst 0, 1) ∧ decode cX10_chalk 57 = .ok (.istore_n 3, 1) ∧ decode cX10_chalk 58 = .ok (.iload_n 3, 1) ∧ decode cX10_chalk 59 = .ok (.iload_n 1, 1) ∧ decode cX10_chalk 60 = .ok (.if_icmp .ge 38, 3) ∧ decode cX10_chalk 63 = .ok (.aload_n 0, 1) := by decide +kernel
theorem zcdX10_chalk_64 : decode cX10_chalk 64 = .ok (.iconst 2, 1) ∧ decode cX10_chalk 65 = .ok (.iload_n 3, 1) ∧ decode cX10_chalk 66 = .ok (.imul, 1) ∧ decode cX10_chalk 67 = .ok (.invokevirtual 377, 3) ∧ decode cX10_chalk 70 = .ok (.bipush 39, 2) ∧ decode cX10_chalk 72 = .ok (.if_icmp .gt 17, 3) ∧ decode cX10_chalk 75 = .ok (.aload_n 0, 1) ∧ decode cX10_chalk 76 = .ok (.iconst 2, 1) := by decide +kernel
theorem zcdX10_chalk_77 : decode cX10_chalk 77 = .ok (.iload_n 3, 1) ∧ decode cX10_chalk 78 = .ok (.imul, 1) ∧ decode cX10_chalk 79 = .ok (.iconst 1, 1) ∧ decode cX10_chalk 80 = .ok (.iadd, 1) ∧ decode cX10_chalk 81 = .ok (.invokevirtual 377, 3) ∧ decode cX10_chalk 84 = .ok (.bipush 20, 2) ∧ decode cX10_chalk 86 = .ok (.if_icmp .le 6, 3) ∧ decode cX10_chalk 89 = .ok (.bipush (-3), 2) := by decide +kernel
theorem zcdX10_chalk_91 : decode cX10_chalk 91 = .ok (.ireturn, 1) ∧ decode cX10_chalk 92 = .ok (.iinc 3 1, 3) ∧ decode cX10_chalk 95 = .ok (.goto (-37), 3) ∧ decode cX10_chalk 98 = .ok (.aload_n 0, 1) ∧ decode cX10_chalk 99 = .ok (.iload_n 1, 1) ∧ decode cX10_chalk 100 = .ok (.invokevirtual 387, 3) ∧ decode cX10_chalk 103 = .ok (.ldc_w 343, 3) ∧ decode cX10_chalk 106 = .ok (.istore_n 3, 1) := by decide +kernel
theorem zcdX10_chalk_107 : decode cX10_chalk 107 = .ok (.iconst 1, 1) ∧ decode cX10_chalk 108 = .ok (.istore 4, 2) ∧ decode cX10_chalk 110 = .ok (.iload 4, 2) ∧ decode cX10_chalk 112 = .ok (.ifCond .eq 64, 3) ∧ decode cX10_chalk 115 = .ok (.aload_n 0, 1) ∧ decode cX10_chalk 116 = .ok (.iload_n 1, 1) ∧ decode cX10_chalk 117 = .ok (.invokevirtual 390, 3) ∧ decode cX10_chalk 120 = .ok (.istore 5, 2) := by decide +kernel
theorem zcdX10_chalk_122 : decode cX10_chalk 122 = .ok (.iload 5, 2) ∧ decode cX10_chalk 124 = .ok (.iload_n 3, 1) ∧ decode cX10_chalk 125 = .ok (.if_icmp .ge 40, 3) ∧ decode cX10_chalk 128 = .ok (.iload 5, 2) ∧ decode cX10_chalk 130 = .ok (.istore_n 3, 1) ∧ decode cX10_chalk 131 = .ok (.iconst 0, 1) ∧ decode cX10_chalk 132 = .ok (.istore 6, 2) ∧ decode cX10_chalk 134 = .ok (.iload 6, 2) := by decide +kernel
theorem zcdX10_chalk_136 : decode cX10_chalk 136 = .ok (.iload_n 1, 1) ∧ decode cX10_chalk 137 = .ok (.if_icmp .ge 28, 3) ∧ decode cX10_chalk 140 = .ok (.aload_n 0, 1) ∧ decode cX10_chalk 141 = .ok (.getfield 122, 3) ∧ decode cX10_chalk 144 = .ok (.iload 6, 2) ∧ decode cX10_chalk 146 = .ok (.aload_n 0, 1) ∧ decode cX10_chalk 147 = .ok (.getfield 116, 3) ∧ decode cX10_chalk 150 = .ok (.aload_n 0, 1) := by decide +kernel
theorem zcdX10_chalk_151 : decode cX10_chalk 151 = .ok (.getfield 119, 3) ∧ decode cX10_chalk 154 = .ok (.iload 6, 2) ∧ decode cX10_chalk 156 = .ok (.iaload, 1) ∧ decode cX10_chalk 157 = .ok (.iaload, 1) ∧ decode cX10_chalk 158 = .ok (.iastore, 1) ∧ decode cX10_chalk 159 = .ok (.iinc 6 1, 3) ∧ decode cX10_chalk 162 = .ok (.goto (-28), 3) ∧ decode cX10_chalk 165 = .ok (.aload_n 0, 1) := by decide +kernel
theorem zcdX10_chalk_166 : decode cX10_chalk 166 = .ok (.iload_n 1, 1) ∧ decode cX10_chalk 167 = .ok (.iconst 0, 1) ∧ decode cX10_chalk 168 = .ok (.invokevirtual 393, 3) ∧ decode cX10_chalk 171 = .ok (.istore 4, 2) ∧ decode cX10_chalk 173 = .ok (.goto (-63), 3) ∧ decode cX10_chalk 176 = .ok (.iload_n 2, 1) ∧ decode cX10_chalk 177 = .ok (.bipush 100, 2) ∧ decode cX10_chalk 179 = .ok (.if_icmp .ne 7, 3) := by decide +kernel
theorem zcdX10_chalk_182 : decode cX10_chalk 182 = .ok (.iload_n 3, 1) ∧ decode cX10_chalk 183 = .ok (.goto 9, 3) ∧ decode cX10_chalk 186 = .ok (.aload_n 0, 1) ∧ decode cX10_chalk 187 = .ok (.getfield 122, 3) ∧ decode cX10_chalk 190 = .ok (.iload_n 2, 1) ∧ decode cX10_chalk 191 = .ok (.iaload, 1) ∧ decode cX10_chalk 192 = .ok (.ireturn, 1) ∧ decode cX10_check 0 = .ok (.iload_n 1, 1) := by decide +kernel
theorem zcdX10_check_1 : decode cX10_check 1 = .ok (.iconst 0, 1) ∧ decode cX10_check 2 = .ok (.bipush 40, 2) ∧ decode cX10_check 4 = .ok (.invokestatic 132, 3) ∧ decode cX10_check 7 = .ok (.ifCond .eq 11, 3) ∧ decode cX10_check 10 = .ok (.iload_n 1, 1) ∧ decode cX10_check 11 = .ok (.aload_n 0, 1) ∧ decode cX10_check 12 = .ok (.getfield 158, 3) ∧ decode cX10_check 15 = .ok (.if_icmp .le 6, 3) := by decide +kernel
theorem zcdX10_check_18 : decode cX10_check 18 = .ok (.bipush (-2), 2) ∧ decode cX10_check 20 = .ok (.ireturn, 1) ∧ decode cX10_check 21 = .ok (.aload_n 0, 1) ∧ decode cX10_check 22 = .ok (.iconst 0, 1) ∧ decode cX10_check 23 = .ok (.putfield 158, 3) ∧ decode cX10_check 26 = .ok (.iconst 0, 1) ∧ decode cX10_check 27 = .ok (.istore_n 2, 1) ∧ decode cX10_check 28 = .ok (.iload_n 2, 1) := by decide +kernel
theorem zcdX10_check_29 : decode cX10_check 29 = .ok (.iload_n 1, 1) ∧ decode cX10_check 30 = .ok (.if_icmp .ge 42, 3) ∧ decode cX10_check 33 = .ok (.aload_n 0, 1) ∧ decode cX10_check 34 = .ok (.iload_n 2, 1) ∧ decode cX10_check 35 = .ok (.invokevirtual 377, 3) ∧ decode cX10_check 38 = .ok (.aload_n 0, 1) ∧ decode cX10_check 39 = .ok (.iload_n 2, 1) ∧ decode cX10_check 40 = .ok (.invokevirtual 154, 3) := by decide +kernel
theorem zcdX10_check_43 : decode cX10_check 43 = .ok (.ifCond .eq 15, 3) ∧ decode cX10_check 46 = .ok (.aload_n 0, 1) ∧ decode cX10_check 47 = .ok (.getfield 7, 3) ∧ decode cX10_check 50 = .ok (.bipush 40, 2) ∧ decode cX10_check 52 = .ok (.iload_n 2, 1) ∧ decode cX10_check 53 = .ok (.iadd, 1) ∧ decode cX10_check 54 = .ok (.iaload, 1) ∧ decode cX10_check 55 = .ok (.goto 6, 3) := by decide +kernel
theorem zcdX10_check_58 : decode cX10_check 58 = .ok (.sipush 255, 3) ∧ decode cX10_check 61 = .ok (.if_icmp .eq 5, 3) ∧ decode cX10_check 64 = .ok (.iload_n 2, 1) ∧ decode cX10_check 65 = .ok (.ireturn, 1) ∧ decode cX10_check 66 = .ok (.iinc 2 1, 3) ∧ decode cX10_check 69 = .ok (.goto (-41), 3) ∧ decode cX10_check 72 = .ok (.iconst (-1), 1) ∧ decode cX10_check 73 = .ok (.ireturn, 1) := by decide +kernel
theorem zcdX10_waitTop_0 : decode cX10_waitTop 0 = .ok (.aload_n 0, 1) ∧ decode cX10_waitTop 1 = .ok (.getfield 195, 3) ∧ decode cX10_waitTop 4 = .ok (.ifCond .ne 7, 3) ∧ decode cX10_waitTop 7 = .ok (.iconst (-1), 1) ∧ decode cX10_waitTop 8 = .ok (.goto 17, 3) ∧ decode cX10_waitTop 11 = .ok (.aload_n 0, 1) ∧ decode cX10_waitTop 12 = .ok (.getfield 29, 3) ∧ decode cX10_waitTop 15 = .ok (.aload_n 0, 1) := by decide +kernel
theorem zcdX10_waitTop_16 : decode cX10_waitTop 16 = .ok (.getfield 195, 3) ∧ decode cX10_waitTop 19 = .ok (.iconst 1, 1) ∧ decode cX10_waitTop 20 = .ok (.isub, 1) ∧ decode cX10_waitTop 21 = .ok (.iaload, 1) ∧ decode cX10_waitTop 22 = .ok (.ldc 191, 2) ∧ decode cX10_waitTop 24 = .ok (.idiv, 1) ∧ decode cX10_waitTop 25 = .ok (.ireturn, 1) ∧ decode cX10_notes 0 = .ok (.aload_n 0, 1) := by decide +kernel
theorem zcdX10_notes_1 : decode cX10_notes 1 = .ok (.getfield 26, 3) ∧ decode cX10_notes 4 = .ok (.aload_n 0, 1) ∧ decode cX10_notes 5 = .ok (.getfield 188, 3) ∧ decode cX10_notes 8 = .ok (.ldc 191, 2) ∧ decode cX10_notes 10 = .ok (.iload_n 1, 1) ∧ decode cX10_notes 11 = .ok (.imul, 1) ∧ decode cX10_notes 12 = .ok (.iload_n 2, 1) ∧ decode cX10_notes 13 = .ok (.iadd, 1) := by decide +kernel
theorem zcdX10_notes_14 : decode cX10_notes 14 = .ok (.iastore, 1) ∧ decode cX10_notes 15 = .ok (.aload_n 0, 1) ∧ decode cX10_notes 16 = .ok (.aload_n 0, 1) ∧ decode cX10_notes 17 = .ok (.getfield 188, 3) ∧ decode cX10_notes 20 = .ok (.iconst 1, 1) ∧ decode cX10_notes 21 = .ok (.iadd, 1) ∧ decode cX10_notes 22 = .ok (.putfield 188, 3) ∧ decode cX10_notes 25 = .ok (.return_, 1) := by decide +kernel
theorem zcdX10_closesSums_0 : decode cX10_closesSums 0 = .ok (.aload_n 0, 1) ∧ decode cX10_closesSums 1 = .ok (.invokevirtual 198, 3) ∧ decode cX10_closesSums 4 = .ok (.iconst 4, 1) ∧ decode cX10_closesSums 5 = .ok (.if_icmp .lt 12, 3) ∧ decode cX10_closesSums 8 = .ok (.aload_n 0, 1) ∧ decode cX10_closesSums 9 = .ok (.invokevirtual 198, 3) ∧ decode cX10_closesSums 12 = .ok (.bipush 6, 2) ∧ decode cX10_closesSums 14 = .ok (.if_icmp .le 23, 3) := by decide +kernel
theorem zcdX10_closesSums_17 : decode cX10_closesSums 17 = .ok (.iload_n 1, 1) ∧ decode cX10_closesSums 18 = .ok (.ifCond .eq 41, 3) ∧ decode cX10_closesSums 21 = .ok (.aload_n 0, 1) ∧ decode cX10_closesSums 22 = .ok (.invokevirtual 198, 3) ∧ decode cX10_closesSums 25 = .ok (.iconst 2, 1) ∧ decode cX10_closesSums 26 = .ok (.if_icmp .eq 11, 3) ∧ decode cX10_closesSums 29 = .ok (.aload_n 0, 1) ∧ decode cX10_closesSums 30 = .ok (.invokevirtual 198, 3) := by decide +kernel
theorem zcdX10_closesSums_33 : decode cX10_closesSums 33 = .ok (.iconst 3, 1) ∧ decode cX10_closesSums 34 = .ok (.if_icmp .ne 25, 3) ∧ decode cX10_closesSums 37 = .ok (.aload_n 0, 1) ∧ decode cX10_closesSums 38 = .ok (.aload_n 0, 1) ∧ decode cX10_closesSums 39 = .ok (.invokevirtual 198, 3) ∧ decode cX10_closesSums 42 = .ok (.iconst 0, 1) ∧ decode cX10_closesSums 43 = .ok (.invokevirtual 201, 3) ∧ decode cX10_closesSums 46 = .ok (.aload_n 0, 1) := by decide +kernel
theorem zcdX10_closesSums_47 : decode cX10_closesSums 47 = .ok (.aload_n 0, 1) ∧ decode cX10_closesSums 48 = .ok (.getfield 195, 3) ∧ decode cX10_closesSums 51 = .ok (.iconst 1, 1) ∧ decode cX10_closesSums 52 = .ok (.isub, 1) ∧ decode cX10_closesSums 53 = .ok (.putfield 195, 3) ∧ decode cX10_closesSums 56 = .ok (.goto (-56), 3) ∧ decode cX10_closesSums 59 = .ok (.return_, 1) ∧ decode cX10_nearestTo 0 = .ok (.iconst (-1), 1) := by decide +kernel
theorem zcdX10_nearestTo_1 : decode cX10_nearestTo 1 = .ok (.istore_n 2, 1) ∧ decode cX10_nearestTo 2 = .ok (.iconst 0, 1) ∧ decode cX10_nearestTo 3 = .ok (.istore_n 3, 1) ∧ decode cX10_nearestTo 4 = .ok (.iload_n 3, 1) ∧ decode cX10_nearestTo 5 = .ok (.bipush 40, 2) ∧ decode cX10_nearestTo 7 = .ok (.if_icmp .ge 44, 3) ∧ decode cX10_nearestTo 10 = .ok (.iload_n 3, 1) ∧ decode cX10_nearestTo 11 = .ok (.iload_n 1, 1) := by decide +kernel
theorem zcdX10_nearestTo_12 : decode cX10_nearestTo 12 = .ok (.if_icmp .eq 33, 3) ∧ decode cX10_nearestTo 15 = .ok (.aload_n 0, 1) ∧ decode cX10_nearestTo 16 = .ok (.iload_n 3, 1) ∧ decode cX10_nearestTo 17 = .ok (.invokevirtual 154, 3) ∧ decode cX10_nearestTo 20 = .ok (.ifCond .eq 25, 3) ∧ decode cX10_nearestTo 23 = .ok (.iload_n 2, 1) ∧ decode cX10_nearestTo 24 = .ok (.iconst (-1), 1) ∧ decode cX10_nearestTo 25 = .ok (.if_icmp .eq 18, 3) := by decide +kernel
theorem zcdX10_nearestTo_28 : decode cX10_nearestTo 28 = .ok (.aload_n 0, 1) ∧ decode cX10_nearestTo 29 = .ok (.iload_n 1, 1) ∧ decode cX10_nearestTo 30 = .ok (.iload_n 3, 1) ∧ decode cX10_nearestTo 31 = .ok (.invokevirtual 144, 3) ∧ decode cX10_nearestTo 34 = .ok (.aload_n 0, 1) ∧ decode cX10_nearestTo 35 = .ok (.iload_n 1, 1) ∧ decode cX10_nearestTo 36 = .ok (.iload_n 2, 1) ∧ decode cX10_nearestTo 37 = .ok (.invokevirtual 144, 3) := by decide +kernel
theorem zcdX10_nearestTo_40 : decode cX10_nearestTo 40 = .ok (.if_icmp .ge 5, 3) ∧ decode cX10_nearestTo 43 = .ok (.iload_n 3, 1) ∧ decode cX10_nearestTo 44 = .ok (.istore_n 2, 1) ∧ decode cX10_nearestTo 45 = .ok (.iinc 3 1, 3) ∧ decode cX10_nearestTo 48 = .ok (.goto (-44), 3) ∧ decode cX10_nearestTo 51 = .ok (.iload_n 2, 1) ∧ decode cX10_nearestTo 52 = .ok (.ireturn, 1) ∧ decode cX10_closest 0 = .ok (.bipush (-2), 2) := by decide +kernel
theorem zcdX10_closest_2 : decode cX10_closest 2 = .ok (.istore_n 1, 1) ∧ decode cX10_closest 3 = .ok (.iconst 0, 1) ∧ decode cX10_closest 4 = .ok (.istore_n 2, 1) ∧ decode cX10_closest 5 = .ok (.iload_n 2, 1) ∧ decode cX10_closest 6 = .ok (.bipush 40, 2) ∧ decode cX10_closest 8 = .ok (.if_icmp .ge 55, 3) ∧ decode cX10_closest 11 = .ok (.aload_n 0, 1) ∧ decode cX10_closest 12 = .ok (.iload_n 2, 1) := by decide +kernel
theorem zcdX10_closest_13 : decode cX10_closest 13 = .ok (.invokevirtual 154, 3) ∧ decode cX10_closest 16 = .ok (.ifCond .eq 11, 3) ∧ decode cX10_closest 19 = .ok (.aload_n 0, 1) ∧ decode cX10_closest 20 = .ok (.iload_n 2, 1) ∧ decode cX10_closest 21 = .ok (.invokevirtual 399, 3) ∧ decode cX10_closest 24 = .ok (.goto 4, 3) ∧ decode cX10_closest 27 = .ok (.iconst (-1), 1) ∧ decode cX10_closest 28 = .ok (.istore_n 3, 1) := by decide +kernel
theorem zcdX10_closest_29 : decode cX10_closest 29 = .ok (.iload_n 3, 1) ∧ decode cX10_closest 30 = .ok (.iconst (-1), 1) ∧ decode cX10_closest 31 = .ok (.if_icmp .eq 26, 3) ∧ decode cX10_closest 34 = .ok (.iload_n 1, 1) ∧ decode cX10_closest 35 = .ok (.bipush (-2), 2) ∧ decode cX10_closest 37 = .ok (.if_icmp .eq 13, 3) ∧ decode cX10_closest 40 = .ok (.aload_n 0, 1) ∧ decode cX10_closest 41 = .ok (.iload_n 2, 1) := by decide +kernel
theorem zcdX10_closest_42 : decode cX10_closest 42 = .ok (.iload_n 3, 1) ∧ decode cX10_closest 43 = .ok (.invokevirtual 144, 3) ∧ decode cX10_closest 46 = .ok (.iload_n 1, 1) ∧ decode cX10_closest 47 = .ok (.if_icmp .ge 10, 3) ∧ decode cX10_closest 50 = .ok (.aload_n 0, 1) ∧ decode cX10_closest 51 = .ok (.iload_n 2, 1) ∧ decode cX10_closest 52 = .ok (.iload_n 3, 1) ∧ decode cX10_closest 53 = .ok (.invokevirtual 144, 3) := by decide +kernel
theorem zcdX10_closest_56 : decode cX10_closest 56 = .ok (.istore_n 1, 1) ∧ decode cX10_closest 57 = .ok (.iinc 2 1, 3) ∧ decode cX10_closest 60 = .ok (.goto (-55), 3) ∧ decode cX10_closest 63 = .ok (.iload_n 1, 1) ∧ decode cX10_closest 64 = .ok (.ireturn, 1) ∧ decode cX10_copies 0 = .ok (.iconst 0, 1) ∧ decode cX10_copies 1 = .ok (.istore_n 2, 1) ∧ decode cX10_copies 2 = .ok (.iload_n 2, 1) := by decide +kernel
theorem zcdX10_copies_3 : decode cX10_copies 3 = .ok (.sipush 202, 3) ∧ decode cX10_copies 6 = .ok (.if_icmp .ge 15, 3) ∧ decode cX10_copies 9 = .ok (.aload_n 1, 1) ∧ decode cX10_copies 10 = .ok (.iload_n 2, 1) ∧ decode cX10_copies 11 = .ok (.aload_n 0, 1) ∧ decode cX10_copies 12 = .ok (.iload_n 2, 1) ∧ decode cX10_copies 13 = .ok (.iaload, 1) ∧ decode cX10_copies 14 = .ok (.iastore, 1) := by decide +kernel
theorem zcdX10_copies_15 : decode cX10_copies 15 = .ok (.iinc 2 1, 3) ∧ decode cX10_copies 18 = .ok (.goto (-16), 3) ∧ decode cX10_copies 21 = .ok (.return_, 1) ∧ decode cX10_sumOf 0 = .ok (.iconst 0, 1) ∧ decode cX10_sumOf 1 = .ok (.istore_n 2, 1) ∧ decode cX10_sumOf 2 = .ok (.iconst 0, 1) ∧ decode cX10_sumOf 3 = .ok (.istore_n 3, 1) ∧ decode cX10_sumOf 4 = .ok (.iload_n 3, 1) := by decide +kernel
theorem zcdX10_sumOf_5 : decode cX10_sumOf 5 = .ok (.bipush 40, 2) ∧ decode cX10_sumOf 7 = .ok (.if_icmp .ge 32, 3) ∧ decode cX10_sumOf 10 = .ok (.iload_n 2, 1) ∧ decode cX10_sumOf 11 = .ok (.aload_n 0, 1) ∧ decode cX10_sumOf 12 = .ok (.iload_n 3, 1) ∧ decode cX10_sumOf 13 = .ok (.invokevirtual 154, 3) ∧ decode cX10_sumOf 16 = .ok (.ifCond .eq 14, 3) ∧ decode cX10_sumOf 19 = .ok (.aload_n 0, 1) := by decide +kernel
theorem zcdX10_sumOf_20 : decode cX10_sumOf 20 = .ok (.getfield 7, 3) ∧ decode cX10_sumOf 23 = .ok (.iload_n 1, 1) ∧ decode cX10_sumOf 24 = .ok (.iload_n 3, 1) ∧ decode cX10_sumOf 25 = .ok (.iadd, 1) ∧ decode cX10_sumOf 26 = .ok (.iaload, 1) ∧ decode cX10_sumOf 27 = .ok (.goto 4, 3) ∧ decode cX10_sumOf 30 = .ok (.iconst 0, 1) ∧ decode cX10_sumOf 31 = .ok (.iadd, 1) := by decide +kernel
theorem zcdX10_sumOf_32 : decode cX10_sumOf 32 = .ok (.istore_n 2, 1) ∧ decode cX10_sumOf 33 = .ok (.iinc 3 1, 3) ∧ decode cX10_sumOf 36 = .ok (.goto (-32), 3) ∧ decode cX10_sumOf 39 = .ok (.iload_n 2, 1) ∧ decode cX10_sumOf 40 = .ok (.ireturn, 1) := by decide +kernel
set_option maxHeartbeats 4000000 in
theorem t_X10_listsStones (v1 : Int32) (v2 : Int32) (M : Mem) : AXi yX10_listsStones cX10_listsStones 5 (some .boolean) 2 39 glM (fun ad => [.ref (ad 0), .int v1, .int v2]) M (f_X10_listsStones M v1 v2) := by
  intro r0 h
  refine AM.of (by decide) (fun _ => Nat.le_of_ble_eq_true rfl) (fun X ad cI cZ cB hX hR => ?_)
  show V X M [(0, .ref (ad 0)), (1, .int v1), (2, .int v2)] [] 0
  refine s_iconst (v := (nI 0)) hX zcdX10_listsStones_0.1 (by decide) ?_
  refine s_istore_n (lv' := [(0, .ref (ad 0)), (1, .int v1), (2, .int v2), (3, .int (nI 0))]) hX zcdX10_listsStones_0.2.1 rfl (by decide) rfl ?_
  refine s_iconst (v := (nI 0)) hX zcdX10_listsStones_0.2.2.1 (by decide) ?_
  refine s_istore (lv' := [(0, .ref (ad 0)), (1, .int v1), (2, .int v2), (3, .int (nI 0)), (4, .int (nI 0))]) hX zcdX10_listsStones_0.2.2.2.1 (by decide) rfl ?_
  have lp5 : ∀ (N5 : Nat) (M5 : Mem) (y3_5 : Int32) (y4_5 : Int32), wlp3 (f_X10_listsStones_B5 v1 v2) N5 M5 y3_5 y4_5 = some r0 → V X M5 [(0, .ref (ad 0)), (1, .int v1), (2, .int v2), (3, .int y3_5), (4, .int y4_5)] [] 5 := by
    intro N5
    induction N5 with
    | zero => exact fun _ _ _ h => e_none h
    | succ N5 ih5 =>
      intro M5 y3_5 y4_5 h
      replace h : f_X10_listsStones_B5 v1 v2 (wlp3 (f_X10_listsStones_B5 v1 v2) N5) M5 y3_5 y4_5 = some r0 := h
      generalize wlp3 (f_X10_listsStones_B5 v1 v2) N5 = ag5 at ih5 h
      refine s_iload (k := 4) hX zcdX10_listsStones_0.2.2.2.2.1 rfl ?_
      refine s_bipush (v := (nI 40)) hX zcdX10_listsStones_0.2.2.2.2.2.1 (by decide) ?_
      have j60 : f_X10_listsStones_L60 v1 M5 y3_5 = some r0 → V X M5 [(1, .int v1), (3, .int y3_5)] [] 60 := by
        intro  h
        refine s_iload_n (k := 1) hX zcdX10_listsStones_60.1 rfl rfl ?_
        refine s_iload_n (k := 0) hX zcdX10_listsStones_60.2.1 rfl rfl ?_
        refine e_icmp_ne (tgt := 69) hX zcdX10_listsStones_60.2.2.1 (by decide) r_eq h (fun h => ?_) (fun h => ?_)
        · refine s_iconst (v := (nI 0)) hX zcdX10_listsStones_60.2.2.2.2.2.1 (by decide) ?_
          exact e_zretiL hX hR zcdX10_listsStones_60.2.2.2.2.2.2.1 (by decide) h
        · refine s_iconst (v := (nI 1)) hX zcdX10_listsStones_60.2.2.2.1 (by decide) ?_
          refine s_goto (tgt := 70) hX zcdX10_listsStones_60.2.2.2.2.1 (by decide) ?_
          exact e_zretiL hX hR zcdX10_listsStones_60.2.2.2.2.2.2.1 (by decide) h
      refine e_icmp_ge (tgt := 60) hX zcdX10_listsStones_0.2.2.2.2.2.2.1 (by decide) (m_ge (by decide +kernel)) h (fun h => ?_) (fun h => ?_)
      · refine s_loc [1, 3] rfl ?_
        exact j60 h
      · refine s_iload_n (k := 3) hX zcdX10_listsStones_0.2.2.2.2.2.2.2 rfl rfl ?_
        refine s_iload_n (k := 1) hX zcdX10_listsStones_13.1 rfl rfl ?_
        refine e_icmp_ge (tgt := 60) hX zcdX10_listsStones_13.2.1 (by decide) r_le h (fun h => ?_) (fun h => ?_)
        · refine s_loc [1, 3] rfl ?_
          exact j60 h
        · refine s_aload_n (k := 0) hX zcdX10_listsStones_13.2.2.1 rfl rfl ?_
          refine s_iload (k := 4) hX zcdX10_listsStones_13.2.2.2.1 rfl ?_
          refine e_callVp hX (t_X10_isStone y4_5 M5) mX10_isStone lX10_154 (by decide) (by decide) oM0 rfl rfl rfl rfl rfl (Nat.le_of_ble_eq_true rfl) zcdX10_listsStones_13.2.2.2.2.1 h (fun r_1 h => ?_)
          refine e_if_eq (tgt := 54) hX zcdX10_listsStones_13.2.2.2.2.2.1 (by decide) z_eq h (fun h => ?_) (fun h => ?_)
          · refine s_iinc (k := 4) (v := (y4_5 + (nI 1))) (lv' := [(0, .ref (ad 0)), (1, .int v1), (2, .int v2), (3, .int y3_5), (4, .int (y4_5 + (nI 1)))]) hX zcdX10_listsStones_47.2.2.2.2.2.2.1 (congrArg (fun z => y4_5 + z) (by decide)) (by decide) rfl rfl ?_
            refine s_goto (tgt := 5) hX zcdX10_listsStones_47.2.2.2.2.2.2.2 (by decide) ?_
            exact ih5 M5 y3_5 (y4_5 + (nI 1)) h
          · refine s_iload_n (k := 2) hX zcdX10_listsStones_13.2.2.2.2.2.2.1 rfl rfl ?_
            have j42 : f_X10_listsStones_L42 ag5 M5 y3_5 y4_5 = some r0 → V X M5 [(0, .ref (ad 0)), (1, .int v1), (2, .int v2), (3, .int y3_5), (4, .int y4_5)] [] 42 := by
              intro  h
              refine s_aload_n (k := 0) hX zcdX10_listsStones_30.2.2.2.2.2.1 rfl rfl ?_
              refine s_get hX fX10_116 oM0 rfl zcdX10_listsStones_30.2.2.2.2.2.2.1 ?_
              refine s_iload_n (k := 3) hX zcdX10_listsStones_30.2.2.2.2.2.2.2 rfl rfl ?_
              refine s_iload (k := 4) hX zcdX10_listsStones_47.1 rfl ?_
              refine e_iast hX aM36 zcdX10_listsStones_47.2.1 h (fun h => ?_)
              refine e_bndM h (fun M_2 h => ?_)
              refine s_iload_n (k := 3) hX zcdX10_listsStones_47.2.2.1 rfl rfl ?_
              refine s_iconst (v := (nI 1)) hX zcdX10_listsStones_47.2.2.2.1 (by decide) ?_
              refine s_iadd hX zcdX10_listsStones_47.2.2.2.2.1 ?_
              refine s_istore_n (lv' := [(0, .ref (ad 0)), (1, .int v1), (2, .int v2), (4, .int y4_5), (3, .int (y3_5 + (nI 1)))]) hX zcdX10_listsStones_47.2.2.2.2.2.1 rfl (by decide) rfl ?_
              refine s_iinc (k := 3) (v := (y4_5 + (nI 1))) (lv' := [(0, .ref (ad 0)), (1, .int v1), (2, .int v2), (3, .int (y3_5 + (nI 1))), (4, .int (y4_5 + (nI 1)))]) hX zcdX10_listsStones_47.2.2.2.2.2.2.1 (congrArg (fun z => y4_5 + z) (by decide)) (by decide) rfl rfl ?_
              refine s_goto (tgt := 5) hX zcdX10_listsStones_47.2.2.2.2.2.2.2 (by decide) ?_
              exact ih5 M_2 (y3_5 + (nI 1)) (y4_5 + (nI 1)) h
            refine e_if_eq (tgt := 42) hX zcdX10_listsStones_13.2.2.2.2.2.2.2 (by decide) z_eq h (fun h => ?_) (fun h => ?_)
            · exact j42 h
            · refine s_aload_n (k := 0) hX zcdX10_listsStones_30.1 rfl rfl ?_
              refine s_iload (k := 4) hX zcdX10_listsStones_30.2.1 rfl ?_
              refine e_callVp hX (t_X10_isDry y4_5 M5) mX10_isDry lX10_319 (by decide) (by decide) oM0 rfl rfl rfl rfl rfl (Nat.le_of_ble_eq_true rfl) zcdX10_listsStones_30.2.2.1 h (fun r_3 h => ?_)
              refine e_if_ne (tgt := 42) hX zcdX10_listsStones_30.2.2.2.1 (by decide) z_eq h (fun h => ?_) (fun h => ?_)
              · exact j42 h
              · refine s_goto (tgt := 54) hX zcdX10_listsStones_30.2.2.2.2.1 (by decide) ?_
                refine s_iinc (k := 4) (v := (y4_5 + (nI 1))) (lv' := [(0, .ref (ad 0)), (1, .int v1), (2, .int v2), (3, .int y3_5), (4, .int (y4_5 + (nI 1)))]) hX zcdX10_listsStones_47.2.2.2.2.2.2.1 (congrArg (fun z => y4_5 + z) (by decide)) (by decide) rfl rfl ?_
                refine s_goto (tgt := 5) hX zcdX10_listsStones_47.2.2.2.2.2.2.2 (by decide) ?_
                exact ih5 M5 y3_5 (y4_5 + (nI 1)) h
  exact lp5 FU M (nI 0) (nI 0) h
set_option maxHeartbeats 4000000 in
theorem t_X10_octet (v1 : Int32) (M : Mem) : AXp yX10_octet cX10_octet 2 (some .int) 0 39 glM (fun ad => [.ref (ad 0), .int v1]) M (f_X10_octet M v1) := by
  intro r0 h
  refine AM.of (by decide) (fun _ => Nat.le_of_ble_eq_true rfl) (fun X ad cI cZ cB hX hR => ?_)
  show V X M [(0, .ref (ad 0)), (1, .int v1)] [] 0
  refine s_aload_n (k := 0) hX zcdX10_listsStones_60.2.2.2.2.2.2.2 rfl rfl ?_
  refine s_get hX fX10_22 oM0 rfl zcdX10_octet_1.1 ?_
  refine s_iload_n (k := 1) hX zcdX10_octet_1.2.1 rfl rfl ?_
  refine e_bald hX aM5 zcdX10_octet_1.2.2.1 h (fun h => ?_)
  refine s_sipush (v := (nI 255)) hX zcdX10_octet_1.2.2.2.1 (by decide) ?_
  refine s_iand hX zcdX10_octet_1.2.2.2.2.1 ?_
  exact e_iretp hX hR zcdX10_octet_1.2.2.2.2.2.1 h
set_option maxHeartbeats 4000000 in
theorem t_X10_size (v0 : Int32) (M : Mem) : AXp yX10_size cX10_size 1 (some .int) 0 39 glM (fun ad => [.int v0]) M (f_X10_size v0) := by
  intro r0 h
  refine AM.of (by decide) (fun _ => Nat.le_of_ble_eq_true rfl) (fun X ad cI cZ cB hX hR => ?_)
  show V X M [(0, .int v0)] [] 0
  refine s_iload_n (k := 0) hX zcdX10_octet_1.2.2.2.2.2.2.1 rfl rfl ?_
  refine e_if_ge (tgt := 9) hX zcdX10_octet_1.2.2.2.2.2.2.2 (by decide) z_ge h (fun h => ?_) (fun h => ?_)
  · refine s_iload_n (k := 0) hX zcdX10_size_4.2.2.2.1 rfl rfl ?_
    exact e_iretp hX hR zcdX10_size_4.2.2.2.2.1 h
  · refine s_iload_n (k := 0) hX zcdX10_size_4.1 rfl rfl ?_
    refine s_ineg hX zcdX10_size_4.2.1 ?_
    refine s_goto (tgt := 10) hX zcdX10_size_4.2.2.1 (by decide) ?_
    exact e_iretp hX hR zcdX10_size_4.2.2.2.2.1 h
set_option maxHeartbeats 4000000 in
theorem t_X10_chalkOff (v1 : Int32) (M : Mem) : AXp yX10_chalkOff cX10_chalkOff 5 (some .int) 1 39 glM (fun ad => [.ref (ad 0), .int v1]) M (f_X10_chalkOff M v1) := by
  intro r0 h
  refine AM.of (by decide) (fun _ => Nat.le_of_ble_eq_true rfl) (fun X ad cI cZ cB hX hR => ?_)
  show V X M [(0, .ref (ad 0)), (1, .int v1)] [] 0
  refine s_iconst (v := (nI 0)) hX zcdX10_size_4.2.2.2.2.2.1 (by decide) ?_
  refine s_istore_n (lv' := [(0, .ref (ad 0)), (1, .int v1), (2, .int (nI 0))]) hX zcdX10_size_4.2.2.2.2.2.2.1 rfl (by decide) rfl ?_
  refine s_iconst (v := (nI 0)) hX zcdX10_size_4.2.2.2.2.2.2.2 (by decide) ?_
  refine s_istore_n (lv' := [(0, .ref (ad 0)), (1, .int v1), (2, .int (nI 0)), (3, .int (nI 0))]) hX zcdX10_chalkOff_3.1 rfl (by decide) rfl ?_
  have lp4 : ∀ (N4 : Nat) (y2_4 : Int32) (y3_4 : Int32), wlp2 (f_X10_chalkOff_B4 M v1) N4 y2_4 y3_4 = some r0 → V X M [(0, .ref (ad 0)), (1, .int v1), (2, .int y2_4), (3, .int y3_4)] [] 4 := by
    intro N4
    induction N4 with
    | zero => exact fun _ _ h => e_none h
    | succ N4 ih4 =>
      intro y2_4 y3_4 h
      replace h : f_X10_chalkOff_B4 M v1 (wlp2 (f_X10_chalkOff_B4 M v1) N4) y2_4 y3_4 = some r0 := h
      generalize wlp2 (f_X10_chalkOff_B4 M v1) N4 = ag4 at ih4 h
      refine s_iload_n (k := 3) hX zcdX10_chalkOff_3.2.1 rfl rfl ?_
      refine s_iload_n (k := 1) hX zcdX10_chalkOff_3.2.2.1 rfl rfl ?_
      refine e_icmp_ge (tgt := 76) hX zcdX10_chalkOff_3.2.2.2.1 (by decide) r_le h (fun h => ?_) (fun h => ?_)
      · refine s_iload_n (k := 2) hX zcdX10_chalkOff_64.2.2.2.2.2.2.1 rfl rfl ?_
        exact e_iretp hX hR zcdX10_chalkOff_64.2.2.2.2.2.2.2 h
      · refine s_aload_n (k := 0) hX zcdX10_chalkOff_3.2.2.2.2.1 rfl rfl ?_
        refine s_get hX fX10_116 oM0 rfl zcdX10_chalkOff_3.2.2.2.2.2.1 ?_
        refine s_aload_n (k := 0) hX zcdX10_chalkOff_3.2.2.2.2.2.2.1 rfl rfl ?_
        refine s_get hX fX10_119 oM0 rfl zcdX10_chalkOff_3.2.2.2.2.2.2.2 ?_
        refine s_iload_n (k := 3) hX zcdX10_chalkOff_17.1 rfl rfl ?_
        refine e_iald hX aM37 zcdX10_chalkOff_17.2.1 h (fun h => ?_)
        refine e_iald hX aM36 zcdX10_chalkOff_17.2.2.1 h (fun h => ?_)
        refine e_bnd h (fun x_1 h => ?_)
        refine s_istore (lv' := [(0, .ref (ad 0)), (1, .int v1), (2, .int y2_4), (3, .int y3_4), (4, .int x_1)]) hX zcdX10_chalkOff_17.2.2.2.1 (by decide) rfl ?_
        refine s_iload_n (k := 2) hX zcdX10_chalkOff_17.2.2.2.2.1 rfl rfl ?_
        refine s_aload_n (k := 0) hX zcdX10_chalkOff_17.2.2.2.2.2.1 rfl rfl ?_
        refine s_get hX fX10_7 oM0 rfl zcdX10_chalkOff_17.2.2.2.2.2.2.1 ?_
        refine s_bipush (v := (nI 40)) hX zcdX10_chalkOff_17.2.2.2.2.2.2.2 (by decide) ?_
        refine s_iload (k := 4) hX zcdX10_chalkOff_29.1 rfl ?_
        refine s_iadd hX zcdX10_chalkOff_29.2.1 ?_
        refine e_iald hX aM1 zcdX10_chalkOff_29.2.2.1 h (fun h => ?_)
        refine s_aload_n (k := 0) hX zcdX10_chalkOff_29.2.2.2.1 rfl rfl ?_
        refine s_iconst (v := (nI 2)) hX zcdX10_chalkOff_29.2.2.2.2.1 (by decide) ?_
        refine s_iload_n (k := 3) hX zcdX10_chalkOff_29.2.2.2.2.2.1 rfl rfl ?_
        refine s_imul hX zcdX10_chalkOff_29.2.2.2.2.2.2.1 ?_
        refine e_callVp hX (t_X10_octet ((nI 2) * y3_4) M) mX10_octet lX10_377 (by decide) (by decide) oM0 rfl rfl rfl rfl rfl (Nat.le_of_ble_eq_true rfl) zcdX10_chalkOff_29.2.2.2.2.2.2.2 h (fun r_2 h => ?_)
        refine s_isub hX zcdX10_chalkOff_40.1 ?_
        refine e_callSp hX (t_X10_size ((M 1 (ix ((nI 40) + x_1))) - r_2) M) mX10_size lX10_380 (by decide) (by decide) rfl rfl (Nat.le_of_ble_eq_true rfl) zcdX10_chalkOff_40.2.1 h (fun r_3 h => ?_)
        refine s_iadd hX zcdX10_chalkOff_40.2.2.1 ?_
        refine s_aload_n (k := 0) hX zcdX10_chalkOff_40.2.2.2.1 rfl rfl ?_
        refine s_get hX fX10_7 oM0 rfl zcdX10_chalkOff_40.2.2.2.2.1 ?_
        refine s_bipush (v := (nI 80)) hX zcdX10_chalkOff_40.2.2.2.2.2.1 (by decide) ?_
        refine s_iload (k := 4) hX zcdX10_chalkOff_40.2.2.2.2.2.2.1 rfl ?_
        refine s_iadd hX zcdX10_chalkOff_40.2.2.2.2.2.2.2 ?_
        refine e_iald hX aM1 zcdX10_chalkOff_54.1 h (fun h => ?_)
        refine s_aload_n (k := 0) hX zcdX10_chalkOff_54.2.1 rfl rfl ?_
        refine s_iconst (v := (nI 2)) hX zcdX10_chalkOff_54.2.2.1 (by decide) ?_
        refine s_iload_n (k := 3) hX zcdX10_chalkOff_54.2.2.2.1 rfl rfl ?_
        refine s_imul hX zcdX10_chalkOff_54.2.2.2.2.1 ?_
        refine s_iconst (v := (nI 1)) hX zcdX10_chalkOff_54.2.2.2.2.2.1 (by decide) ?_
        refine s_iadd hX zcdX10_chalkOff_54.2.2.2.2.2.2.1 ?_
        refine e_callVp hX (t_X10_octet (((nI 2) * y3_4) + (nI 1)) M) mX10_octet lX10_377 (by decide) (by decide) oM0 rfl rfl rfl rfl rfl (Nat.le_of_ble_eq_true rfl) zcdX10_chalkOff_54.2.2.2.2.2.2.2 h (fun r_4 h => ?_)
        refine s_isub hX zcdX10_chalkOff_64.1 ?_
        refine e_callSp hX (t_X10_size ((M 1 (ix ((nI 80) + x_1))) - r_4) M) mX10_size lX10_380 (by decide) (by decide) rfl rfl (Nat.le_of_ble_eq_true rfl) zcdX10_chalkOff_64.2.1 h (fun r_5 h => ?_)
        refine s_iadd hX zcdX10_chalkOff_64.2.2.1 ?_
        refine e_bnd h (fun x_6 h => ?_)
        refine s_istore_n (lv' := [(0, .ref (ad 0)), (1, .int v1), (3, .int y3_4), (4, .int x_1), (2, .int x_6)]) hX zcdX10_chalkOff_64.2.2.2.1 rfl (by decide) rfl ?_
        refine s_iinc (k := 2) (v := (y3_4 + (nI 1))) (lv' := [(0, .ref (ad 0)), (1, .int v1), (4, .int x_1), (2, .int x_6), (3, .int (y3_4 + (nI 1)))]) hX zcdX10_chalkOff_64.2.2.2.2.1 (congrArg (fun z => y3_4 + z) (by decide)) (by decide) rfl rfl ?_
        refine s_goto (tgt := 4) hX zcdX10_chalkOff_64.2.2.2.2.2.1 (by decide) ?_
        refine s_loc [0, 1, 3, 4] rfl ?_
        exact ih4 x_6 (y3_4 + (nI 1)) h
  exact lp4 FU (nI 0) (nI 0) h
set_option maxHeartbeats 4000000 in
theorem t_X10_changes (v1 : Int32) (v2 : Int32) (M : Mem) : AXv yX10_changes cX10_changes 4 none 0 39 glM (fun ad => [.ref (ad 0), .int v1, .int v2]) M (f_X10_changes M v1 v2) := by
  intro r0 h
  refine AM.of (by decide) (fun _ => Nat.le_of_ble_eq_true rfl) (fun X ad cI cZ cB hX hR => ?_)
  show V X M [(0, .ref (ad 0)), (1, .int v1), (2, .int v2)] [] 0
  refine s_aload_n (k := 0) hX zcdX10_changes_0.1 rfl rfl ?_
  refine s_get hX fX10_119 oM0 rfl zcdX10_changes_0.2.1 ?_
  refine s_iload_n (k := 1) hX zcdX10_changes_0.2.2.1 rfl rfl ?_
  refine e_iald hX aM37 zcdX10_changes_0.2.2.2.1 h (fun h => ?_)
  refine e_bnd h (fun x_1 h => ?_)
  refine s_istore_n (lv' := [(0, .ref (ad 0)), (1, .int v1), (2, .int v2), (3, .int x_1)]) hX zcdX10_changes_0.2.2.2.2.1 rfl (by decide) rfl ?_
  refine s_aload_n (k := 0) hX zcdX10_changes_0.2.2.2.2.2.1 rfl rfl ?_
  refine s_get hX fX10_119 oM0 rfl zcdX10_changes_0.2.2.2.2.2.2.1 ?_
  refine s_iload_n (k := 1) hX zcdX10_changes_0.2.2.2.2.2.2.2 rfl rfl ?_
  refine s_aload_n (k := 0) hX zcdX10_changes_12.1 rfl rfl ?_
  refine s_get hX fX10_119 oM0 rfl zcdX10_changes_12.2.1 ?_
  refine s_iload_n (k := 2) hX zcdX10_changes_12.2.2.1 rfl rfl ?_
  refine e_iald hX aM37 zcdX10_changes_12.2.2.2.1 h (fun h => ?_)
  refine e_iast hX aM37 zcdX10_changes_12.2.2.2.2.1 h (fun h => ?_)
  refine e_bndM h (fun M_2 h => ?_)
  refine s_aload_n (k := 0) hX zcdX10_changes_12.2.2.2.2.2.1 rfl rfl ?_
  refine s_get hX fX10_119 oM0 rfl zcdX10_changes_12.2.2.2.2.2.2.1 ?_
  refine s_iload_n (k := 2) hX zcdX10_changes_12.2.2.2.2.2.2.2 rfl rfl ?_
  refine s_iload_n (k := 3) hX zcdX10_changes_24.1 rfl rfl ?_
  refine e_iast hX aM37 zcdX10_changes_24.2.1 h (fun h => ?_)
  refine e_bndM h (fun M_3 h => ?_)
  exact e_vret hX hR zcdX10_changes_24.2.2.1 h
set_option maxHeartbeats 4000000 in
theorem t_X10_nextRow (v1 : Int32) (v2 : Int32) (M : Mem) : AXi yX10_nextRow cX10_nextRow 7 (some .boolean) 1 39 glM (fun ad => [.ref (ad 0), .int v1, .int v2]) M (f_X10_nextRow M v1 v2) := by
  intro r0 h
  refine AM.of (by decide) (fun _ => Nat.le_of_ble_eq_true rfl) (fun X ad cI cZ cB hX hR => ?_)
  show V X M [(0, .ref (ad 0)), (1, .int v1), (2, .int v2)] [] 0
  refine s_iload_n (k := 1) hX zcdX10_changes_24.2.2.2.1 rfl rfl ?_
  refine s_iconst (v := (nI 2)) hX zcdX10_changes_24.2.2.2.2.1 (by decide) ?_
  refine s_isub hX zcdX10_changes_24.2.2.2.2.2.1 ?_
  refine s_istore_n (lv' := [(0, .ref (ad 0)), (1, .int v1), (2, .int v2), (3, .int (v1 - (nI 2)))]) hX zcdX10_changes_24.2.2.2.2.2.2.1 rfl (by decide) rfl ?_
  have lp4 : ∀ (N4 : Nat) (y3_4 : Int32), wlp1 (f_X10_nextRow_B4 M v1 v2) N4 y3_4 = some r0 → V X M [(0, .ref (ad 0)), (1, .int v1), (2, .int v2), (3, .int y3_4)] [] 4 := by
    intro N4
    induction N4 with
    | zero => exact fun _ h => e_none h
    | succ N4 ih4 =>
      intro y3_4 h
      replace h : f_X10_nextRow_B4 M v1 v2 (wlp1 (f_X10_nextRow_B4 M v1 v2) N4) y3_4 = some r0 := h
      generalize wlp1 (f_X10_nextRow_B4 M v1 v2) N4 = ag4 at ih4 h
      refine s_iload_n (k := 3) hX zcdX10_changes_24.2.2.2.2.2.2.2 rfl rfl ?_
      refine s_iload_n (k := 2) hX zcdX10_nextRow_5.1 rfl rfl ?_
      have j33 : f_X10_nextRow_L33 M v1 v2 y3_4 = some r0 → V X M [(0, .ref (ad 0)), (1, .int v1), (2, .int v2), (3, .int y3_4)] [] 33 := by
        intro  h
        refine s_iload_n (k := 3) hX zcdX10_nextRow_29.2.2.1 rfl rfl ?_
        refine s_iload_n (k := 2) hX zcdX10_nextRow_29.2.2.2.1 rfl rfl ?_
        refine e_icmp_ge (tgt := 40) hX zcdX10_nextRow_29.2.2.2.2.1 (by decide) r_le h (fun h => ?_) (fun h => ?_)
        · refine s_iload_n (k := 1) hX zcdX10_nextRow_29.2.2.2.2.2.2.2 rfl rfl ?_
          refine s_iconst (v := (nI 1)) hX zcdX10_nextRow_41.1 (by decide) ?_
          refine s_isub hX zcdX10_nextRow_41.2.1 ?_
          refine s_istore (lv' := [(0, .ref (ad 0)), (1, .int v1), (2, .int v2), (3, .int y3_4), (4, .int (v1 - (nI 1)))]) hX zcdX10_nextRow_41.2.2.1 (by decide) rfl ?_
          have lp45 : ∀ (N45 : Nat) (y4_45 : Int32), wlp1 (f_X10_nextRow_B45 M v1 y3_4) N45 y4_45 = some r0 → V X M [(0, .ref (ad 0)), (1, .int v1), (3, .int y3_4), (4, .int y4_45)] [] 45 := by
            intro N45
            induction N45 with
            | zero => exact fun _ h => e_none h
            | succ N45 ih45 =>
              intro y4_45 h
              replace h : f_X10_nextRow_B45 M v1 y3_4 (wlp1 (f_X10_nextRow_B45 M v1 y3_4) N45) y4_45 = some r0 := h
              generalize wlp1 (f_X10_nextRow_B45 M v1 y3_4) N45 = ag45 at ih45 h
              refine s_aload_n (k := 0) hX zcdX10_nextRow_41.2.2.2.1 rfl rfl ?_
              refine s_get hX fX10_119 oM0 rfl zcdX10_nextRow_41.2.2.2.2.1 ?_
              refine s_iload (k := 3) hX zcdX10_nextRow_41.2.2.2.2.2.1 rfl ?_
              refine e_iald hX aM37 zcdX10_nextRow_41.2.2.2.2.2.2.1 h (fun h => ?_)
              refine s_aload_n (k := 0) hX zcdX10_nextRow_41.2.2.2.2.2.2.2 rfl rfl ?_
              refine s_get hX fX10_119 oM0 rfl zcdX10_nextRow_53.1 ?_
              refine s_iload_n (k := 2) hX zcdX10_nextRow_53.2.1 rfl rfl ?_
              refine e_iald hX aM37 zcdX10_nextRow_53.2.2.1 h (fun h => ?_)
              have j70 : f_X10_nextRow_L70 M v1 y3_4 y4_45 = some r0 → V X M [(0, .ref (ad 0)), (1, .int v1), (3, .int y3_4), (4, .int y4_45)] [] 70 := by
                intro  h
                refine s_aload_n (k := 0) hX zcdX10_nextRow_67.2.1 rfl rfl ?_
                refine s_iload_n (k := 2) hX zcdX10_nextRow_67.2.2.1 rfl rfl ?_
                refine s_iload (k := 3) hX zcdX10_nextRow_67.2.2.2.1 rfl ?_
                refine e_callVv hX (t_X10_changes y3_4 y4_45 M) mX10_changes lX10_374 (by decide) (by decide) oM0 rfl rfl rfl rfl rfl (Nat.le_of_ble_eq_true rfl) zcdX10_nextRow_67.2.2.2.2.1 h (fun M_1 h => ?_)
                refine s_iload_n (k := 2) hX zcdX10_nextRow_67.2.2.2.2.2.1 rfl rfl ?_
                refine s_iconst (v := (nI 1)) hX zcdX10_nextRow_67.2.2.2.2.2.2.1 (by decide) ?_
                refine s_iadd hX zcdX10_nextRow_67.2.2.2.2.2.2.2 ?_
                refine s_istore (lv' := [(0, .ref (ad 0)), (1, .int v1), (3, .int y3_4), (4, .int y4_45), (5, .int (y3_4 + (nI 1)))]) hX zcdX10_nextRow_80.1 (by decide) rfl ?_
                refine s_iload_n (k := 1) hX zcdX10_nextRow_80.2.1 rfl rfl ?_
                refine s_iconst (v := (nI 1)) hX zcdX10_nextRow_80.2.2.1 (by decide) ?_
                refine s_isub hX zcdX10_nextRow_80.2.2.2.1 ?_
                refine s_istore (lv' := [(0, .ref (ad 0)), (1, .int v1), (3, .int y3_4), (4, .int y4_45), (5, .int (y3_4 + (nI 1))), (6, .int (v1 - (nI 1)))]) hX zcdX10_nextRow_80.2.2.2.2.1 (by decide) rfl ?_
                have lp87 : ∀ (N87 : Nat) (M87 : Mem) (y5_87 : Int32) (y6_87 : Int32), wlp3 f_X10_nextRow_B87 N87 M87 y5_87 y6_87 = some r0 → V X M87 [(0, .ref (ad 0)), (5, .int y5_87), (6, .int y6_87)] [] 87 := by
                  intro N87
                  induction N87 with
                  | zero => exact fun _ _ _ h => e_none h
                  | succ N87 ih87 =>
                    intro M87 y5_87 y6_87 h
                    replace h : f_X10_nextRow_B87 (wlp3 f_X10_nextRow_B87 N87) M87 y5_87 y6_87 = some r0 := h
                    generalize wlp3 f_X10_nextRow_B87 N87 = ag87 at ih87 h
                    refine s_iload (k := 1) hX zcdX10_nextRow_80.2.2.2.2.2.1 rfl ?_
                    refine s_iload (k := 2) hX zcdX10_nextRow_80.2.2.2.2.2.2.1 rfl ?_
                    refine e_icmp_ge (tgt := 111) hX zcdX10_nextRow_80.2.2.2.2.2.2.2 (by decide) r_le h (fun h => ?_) (fun h => ?_)
                    · refine s_iconst (v := (nI 1)) hX zcdX10_nextRow_94.2.2.2.2.2.2.2 (by decide) ?_
                      exact e_zretiL hX hR zcdX10_nextRow_112.1 (by decide) h
                    · refine s_aload_n (k := 0) hX zcdX10_nextRow_94.1 rfl rfl ?_
                      refine s_iload (k := 1) hX zcdX10_nextRow_94.2.1 rfl ?_
                      refine s_iload (k := 2) hX zcdX10_nextRow_94.2.2.1 rfl ?_
                      refine e_callVv hX (t_X10_changes y5_87 y6_87 M87) mX10_changes lX10_374 (by decide) (by decide) oM0 rfl rfl rfl rfl rfl (Nat.le_of_ble_eq_true rfl) zcdX10_nextRow_94.2.2.2.1 h (fun M_2 h => ?_)
                      refine s_iinc (k := 1) (v := (y5_87 + (nI 1))) (lv' := [(0, .ref (ad 0)), (6, .int y6_87), (5, .int (y5_87 + (nI 1)))]) hX zcdX10_nextRow_94.2.2.2.2.1 (congrArg (fun z => y5_87 + z) (by decide)) (by decide) rfl rfl ?_
                      refine s_iinc (k := 1) (v := (y6_87 + (-1))) (lv' := [(0, .ref (ad 0)), (5, .int (y5_87 + (nI 1))), (6, .int (y6_87 + (-1)))]) hX zcdX10_nextRow_94.2.2.2.2.2.1 (congrArg (fun z => y6_87 + z) (by decide)) (by decide) rfl rfl ?_
                      refine s_goto (tgt := 87) hX zcdX10_nextRow_94.2.2.2.2.2.2.1 (by decide) ?_
                      exact ih87 M_2 (y5_87 + (nI 1)) (y6_87 + (-1)) h
                refine s_loc [0, 4, 5] rfl ?_
                exact lp87 FU M_1 (y3_4 + (nI 1)) (v1 - (nI 1)) h
              refine e_icmp_ge (tgt := 70) hX zcdX10_nextRow_53.2.2.2.1 (by decide) r_le h (fun h => ?_) (fun h => ?_)
              · exact j70 h
              · refine s_iload (k := 3) hX zcdX10_nextRow_53.2.2.2.2.1 rfl ?_
                refine s_iconst (v := (nI 1)) hX zcdX10_nextRow_53.2.2.2.2.2.1 (by decide) ?_
                refine s_isub hX zcdX10_nextRow_53.2.2.2.2.2.2.1 ?_
                refine s_istore (lv' := [(0, .ref (ad 0)), (1, .int v1), (3, .int y3_4), (4, .int (y4_45 - (nI 1)))]) hX zcdX10_nextRow_53.2.2.2.2.2.2.2 (by decide) rfl ?_
                refine s_goto (tgt := 45) hX zcdX10_nextRow_67.1 (by decide) ?_
                exact ih45 (y4_45 - (nI 1)) h
          refine s_loc [0, 1, 3, 4] rfl ?_
          exact lp45 FU (v1 - (nI 1)) h
        · refine s_iconst (v := (nI 0)) hX zcdX10_nextRow_29.2.2.2.2.2.1 (by decide) ?_
          exact e_zretiL hX hR zcdX10_nextRow_29.2.2.2.2.2.2.1 (by decide) h
      refine e_icmp_lt (tgt := 33) hX zcdX10_nextRow_5.2.1 (by decide) r_lt h (fun h => ?_) (fun h => ?_)
      · exact j33 h
      · refine s_aload_n (k := 0) hX zcdX10_nextRow_5.2.2.1 rfl rfl ?_
        refine s_get hX fX10_119 oM0 rfl zcdX10_nextRow_5.2.2.2.1 ?_
        refine s_iload_n (k := 3) hX zcdX10_nextRow_5.2.2.2.2.1 rfl rfl ?_
        refine e_iald hX aM37 zcdX10_nextRow_5.2.2.2.2.2.1 h (fun h => ?_)
        refine s_aload_n (k := 0) hX zcdX10_nextRow_5.2.2.2.2.2.2.1 rfl rfl ?_
        refine s_get hX fX10_119 oM0 rfl zcdX10_nextRow_5.2.2.2.2.2.2.2 ?_
        refine s_iload_n (k := 3) hX zcdX10_nextRow_19.1 rfl rfl ?_
        refine s_iconst (v := (nI 1)) hX zcdX10_nextRow_19.2.1 (by decide) ?_
        refine s_iadd hX zcdX10_nextRow_19.2.2.1 ?_
        refine e_iald hX aM37 zcdX10_nextRow_19.2.2.2.1 h (fun h => ?_)
        refine e_icmp_le (tgt := 33) hX zcdX10_nextRow_19.2.2.2.2.1 (by decide) r_le h (fun h => ?_) (fun h => ?_)
        · exact j33 h
        · refine s_iload_n (k := 3) hX zcdX10_nextRow_19.2.2.2.2.2.1 rfl rfl ?_
          refine s_iconst (v := (nI 1)) hX zcdX10_nextRow_19.2.2.2.2.2.2.1 (by decide) ?_
          refine s_isub hX zcdX10_nextRow_19.2.2.2.2.2.2.2 ?_
          refine s_istore_n (lv' := [(0, .ref (ad 0)), (1, .int v1), (2, .int v2), (3, .int (y3_4 - (nI 1)))]) hX zcdX10_nextRow_29.1 rfl (by decide) rfl ?_
          refine s_goto (tgt := 4) hX zcdX10_nextRow_29.2.1 (by decide) ?_
          exact ih4 (y3_4 - (nI 1)) h
  exact lp4 FU (v1 - (nI 2)) h
set_option maxHeartbeats 4000000 in
theorem t_X10_chalk (v1 : Int32) (v2 : Int32) (M : Mem) : AXi yX10_chalk cX10_chalk 7 (some .int) 3 39 glM (fun ad => [.ref (ad 0), .int v1, .int v2]) M (f_X10_chalk M v1 v2) := by
  intro r0 h
  refine AM.of (by decide) (fun _ => Nat.le_of_ble_eq_true rfl) (fun X ad cI cZ cB hX hR => ?_)
  show V X M [(0, .ref (ad 0)), (1, .int v1), (2, .int v2)] [] 0
  refine s_iload_n (k := 1) hX zcdX10_nextRow_112.2.1 rfl rfl ?_
  refine s_iconst (v := (nI 1)) hX zcdX10_nextRow_112.2.2.1 (by decide) ?_
  refine s_bipush (v := (nI 7)) hX zcdX10_nextRow_112.2.2.2.1 (by decide) ?_
  refine e_callSp hX (t_X10_in v1 (nI 1) (nI 7) M) mX10_in lX10_132 (by decide) (by decide) rfl rfl (Nat.le_of_ble_eq_true rfl) zcdX10_nextRow_112.2.2.2.2.1 h (fun r_1 h => ?_)
  refine e_if_eq (tgt := 37) hX zcdX10_nextRow_112.2.2.2.2.2.1 (by decide) z_eq h (fun h => ?_) (fun h => ?_)
  · refine s_iconst (v := (-1)) hX zcdX10_chalk_27.2.2.2.2.2.2.1 (by decide) ?_
    exact e_ireti hX hR zcdX10_chalk_27.2.2.2.2.2.2.2 h
  · refine s_iload_n (k := 2) hX zcdX10_nextRow_112.2.2.2.2.2.2.1 rfl rfl ?_
    refine s_bipush (v := (nI 100)) hX zcdX10_nextRow_112.2.2.2.2.2.2.2 (by decide) ?_
    have j27 : f_X10_chalk_L27 M v1 v2 = some r0 → V X M [(0, .ref (ad 0)), (1, .int v1), (2, .int v2)] [] 27 := by
      intro  h
      refine s_iconst (v := (nI 2)) hX zcdX10_chalk_27.1 (by decide) ?_
      refine s_iload_n (k := 1) hX zcdX10_chalk_27.2.1 rfl rfl ?_
      refine s_imul hX zcdX10_chalk_27.2.2.1 ?_
      refine s_aload_n (k := 0) hX zcdX10_chalk_27.2.2.2.1 rfl rfl ?_
      refine s_get hX fX10_158 oM0 rfl zcdX10_chalk_27.2.2.2.2.1 ?_
      refine e_icmp_le (tgt := 39) hX zcdX10_chalk_27.2.2.2.2.2.1 (by decide) r_le h (fun h => ?_) (fun h => ?_)
      · refine s_aload_n (k := 0) hX zcdX10_chalk_39.1 rfl rfl ?_
        refine s_iconst (v := (nI 0)) hX zcdX10_chalk_39.2.1 (by decide) ?_
        refine s_puti (ty := .int) hX fX10_158 oM0 rfl (Nat.le_of_ble_eq_true rfl) ty_10_6 rfl rfl zcdX10_chalk_39.2.2.1 ?_
        refine e_bndM h (fun M_2 h => ?_)
        refine s_aload_n (k := 0) hX zcdX10_chalk_39.2.2.2.1 rfl rfl ?_
        refine s_iload_n (k := 1) hX zcdX10_chalk_39.2.2.2.2.1 rfl rfl ?_
        refine s_iconst (v := (nI 0)) hX zcdX10_chalk_39.2.2.2.2.2.1 (by decide) ?_
        refine e_callVi hX (t_X10_listsStones v1 (nI 0) M_2) mX10_listsStones lX10_383 (by decide) (by decide) oM0 rfl rfl rfl rfl rfl (Nat.le_of_ble_eq_true rfl) zcdX10_chalk_39.2.2.2.2.2.2.1 h (fun r_3 M_4 h => ?_)
        refine e_if_ne (tgt := 56) hX zcdX10_chalk_39.2.2.2.2.2.2.2 (by decide) z_eq h (fun h => ?_) (fun h => ?_)
        · refine s_iconst (v := (nI 0)) hX zcdX10_chalk_53.2.2.1 (by decide) ?_
          refine s_istore_n (lv' := [(0, .ref (ad 0)), (1, .int v1), (2, .int v2), (3, .int (nI 0))]) hX zcdX10_chalk_53.2.2.2.1 rfl (by decide) rfl ?_
          have lp58 : ∀ (N58 : Nat) (y3_58 : Int32), wlp1 (f_X10_chalk_B58 v1 v2 M_4) N58 y3_58 = some r0 → V X M_4 [(0, .ref (ad 0)), (1, .int v1), (2, .int v2), (3, .int y3_58)] [] 58 := by
            intro N58
            induction N58 with
            | zero => exact fun _ h => e_none h
            | succ N58 ih58 =>
              intro y3_58 h
              replace h : f_X10_chalk_B58 v1 v2 M_4 (wlp1 (f_X10_chalk_B58 v1 v2 M_4) N58) y3_58 = some r0 := h
              generalize wlp1 (f_X10_chalk_B58 v1 v2 M_4) N58 = ag58 at ih58 h
              refine s_iload_n (k := 3) hX zcdX10_chalk_53.2.2.2.2.1 rfl rfl ?_
              refine s_iload_n (k := 1) hX zcdX10_chalk_53.2.2.2.2.2.1 rfl rfl ?_
              have j98 : f_X10_chalk_L98 v1 v2 M_4 = some r0 → V X M_4 [(0, .ref (ad 0)), (1, .int v1), (2, .int v2)] [] 98 := by
                intro  h
                refine s_aload_n (k := 0) hX zcdX10_chalk_91.2.2.2.1 rfl rfl ?_
                refine s_iload_n (k := 1) hX zcdX10_chalk_91.2.2.2.2.1 rfl rfl ?_
                refine e_callVv hX (t_X10_beginsRows v1 M_4) mX10_beginsRows lX10_387 (by decide) (by decide) oM0 rfl rfl rfl rfl rfl (Nat.le_of_ble_eq_true rfl) zcdX10_chalk_91.2.2.2.2.2.1 h (fun M_5 h => ?_)
                refine s_ldcw (v := (nI 1000000)) hX kX10_343 zcdX10_chalk_91.2.2.2.2.2.2.1 ?_
                refine s_istore_n (lv' := [(0, .ref (ad 0)), (1, .int v1), (2, .int v2), (3, .int (nI 1000000))]) hX zcdX10_chalk_91.2.2.2.2.2.2.2 rfl (by decide) rfl ?_
                refine s_iconst (v := (nI 1)) hX zcdX10_chalk_107.1 (by decide) ?_
                refine s_istore (lv' := [(0, .ref (ad 0)), (1, .int v1), (2, .int v2), (3, .int (nI 1000000)), (4, .int (nI 1))]) hX zcdX10_chalk_107.2.1 (by decide) rfl ?_
                have lp110 : ∀ (N110 : Nat) (M110 : Mem) (y3_110 : Int32) (y4_110 : Int32), wlp3 (f_X10_chalk_B110 v1 v2) N110 M110 y3_110 y4_110 = some r0 → V X M110 [(0, .ref (ad 0)), (1, .int v1), (2, .int v2), (3, .int y3_110), (4, .int y4_110)] [] 110 := by
                  intro N110
                  induction N110 with
                  | zero => exact fun _ _ _ h => e_none h
                  | succ N110 ih110 =>
                    intro M110 y3_110 y4_110 h
                    replace h : f_X10_chalk_B110 v1 v2 (wlp3 (f_X10_chalk_B110 v1 v2) N110) M110 y3_110 y4_110 = some r0 := h
                    generalize wlp3 (f_X10_chalk_B110 v1 v2) N110 = ag110 at ih110 h
                    refine s_iload (k := 4) hX zcdX10_chalk_107.2.2.1 rfl ?_
                    have j176 : f_X10_chalk_L176 v2 M110 y3_110 = some r0 → V X M110 [(0, .ref (ad 0)), (2, .int v2), (3, .int y3_110)] [] 176 := by
                      intro  h
                      refine s_iload_n (k := 1) hX zcdX10_chalk_166.2.2.2.2.2.1 rfl rfl ?_
                      refine s_bipush (v := (nI 100)) hX zcdX10_chalk_166.2.2.2.2.2.2.1 (by decide) ?_
                      refine e_icmp_ne (tgt := 186) hX zcdX10_chalk_166.2.2.2.2.2.2.2 (by decide) (m_eq (by decide +kernel)) h (fun h => ?_) (fun h => ?_)
                      · refine s_aload_n (k := 0) hX zcdX10_chalk_182.2.2.1 rfl rfl ?_
                        refine s_get hX fX10_122 oM0 rfl zcdX10_chalk_182.2.2.2.1 ?_
                        refine s_iload_n (k := 1) hX zcdX10_chalk_182.2.2.2.2.1 rfl rfl ?_
                        refine e_iald hX aM38 zcdX10_chalk_182.2.2.2.2.2.1 h (fun h => ?_)
                        exact e_ireti hX hR zcdX10_chalk_182.2.2.2.2.2.2.1 h
                      · refine s_iload_n (k := 2) hX zcdX10_chalk_182.1 rfl rfl ?_
                        refine s_goto (tgt := 192) hX zcdX10_chalk_182.2.1 (by decide) ?_
                        exact e_ireti hX hR zcdX10_chalk_182.2.2.2.2.2.2.1 h
                    refine e_if_eq (tgt := 176) hX zcdX10_chalk_107.2.2.2.1 (by decide) z_eq h (fun h => ?_) (fun h => ?_)
                    · refine s_loc [0, 2, 3] rfl ?_
                      exact j176 h
                    · refine s_aload_n (k := 0) hX zcdX10_chalk_107.2.2.2.2.1 rfl rfl ?_
                      refine s_iload_n (k := 1) hX zcdX10_chalk_107.2.2.2.2.2.1 rfl rfl ?_
                      refine e_callVp hX (t_X10_chalkOff v1 M110) mX10_chalkOff lX10_390 (by decide) (by decide) oM0 rfl rfl rfl rfl rfl (Nat.le_of_ble_eq_true rfl) zcdX10_chalk_107.2.2.2.2.2.2.1 h (fun r_6 h => ?_)
                      refine s_istore (lv' := [(0, .ref (ad 0)), (1, .int v1), (2, .int v2), (3, .int y3_110), (4, .int y4_110), (5, .int r_6)]) hX zcdX10_chalk_107.2.2.2.2.2.2.2 (by decide) rfl ?_
                      refine s_iload (k := 5) hX zcdX10_chalk_122.1 rfl ?_
                      refine s_iload_n (k := 3) hX zcdX10_chalk_122.2.1 rfl rfl ?_
                      have j165 : ∀ (N165 : Mem) (z3_165 : Int32), f_X10_chalk_L165 v1 ag110 N165 z3_165 = some r0 → V X N165 [(0, .ref (ad 0)), (1, .int v1), (2, .int v2), (3, .int z3_165)] [] 165 := by
                        intro N165 z3_165 h
                        refine s_aload_n (k := 0) hX zcdX10_chalk_151.2.2.2.2.2.2.2 rfl rfl ?_
                        refine s_iload_n (k := 1) hX zcdX10_chalk_166.1 rfl rfl ?_
                        refine s_iconst (v := (nI 0)) hX zcdX10_chalk_166.2.1 (by decide) ?_
                        refine e_callVi hX (t_X10_nextRow v1 (nI 0) N165) mX10_nextRow lX10_393 (by decide) (by decide) oM0 rfl rfl rfl rfl rfl (Nat.le_of_ble_eq_true rfl) zcdX10_chalk_166.2.2.1 h (fun r_7 M_8 h => ?_)
                        refine s_istore (lv' := [(0, .ref (ad 0)), (1, .int v1), (2, .int v2), (3, .int z3_165), (4, .int r_7)]) hX zcdX10_chalk_166.2.2.2.1 (by decide) rfl ?_
                        refine s_goto (tgt := 110) hX zcdX10_chalk_166.2.2.2.2.1 (by decide) ?_
                        exact ih110 M_8 z3_165 r_7 h
                      refine e_icmp_ge (tgt := 165) hX zcdX10_chalk_122.2.2.1 (by decide) r_le h (fun h => ?_) (fun h => ?_)
                      · refine s_loc [0, 1, 2, 3] rfl ?_
                        exact j165 M110 y3_110 h
                      · refine s_iload (k := 5) hX zcdX10_chalk_122.2.2.2.1 rfl ?_
                        refine s_istore_n (lv' := [(0, .ref (ad 0)), (1, .int v1), (2, .int v2), (4, .int y4_110), (5, .int r_6), (3, .int r_6)]) hX zcdX10_chalk_122.2.2.2.2.1 rfl (by decide) rfl ?_
                        refine s_iconst (v := (nI 0)) hX zcdX10_chalk_122.2.2.2.2.2.1 (by decide) ?_
                        refine s_istore (lv' := [(0, .ref (ad 0)), (1, .int v1), (2, .int v2), (4, .int y4_110), (5, .int r_6), (3, .int r_6), (6, .int (nI 0))]) hX zcdX10_chalk_122.2.2.2.2.2.2.1 (by decide) rfl ?_
                        have lp134 : ∀ (N134 : Nat) (M134 : Mem) (y6_134 : Int32), wlp2 (f_X10_chalk_B134 v1 ag110 r_6) N134 M134 y6_134 = some r0 → V X M134 [(0, .ref (ad 0)), (1, .int v1), (2, .int v2), (3, .int r_6), (6, .int y6_134)] [] 134 := by
                          intro N134
                          induction N134 with
                          | zero => exact fun _ _ h => e_none h
                          | succ N134 ih134 =>
                            intro M134 y6_134 h
                            replace h : f_X10_chalk_B134 v1 ag110 r_6 (wlp2 (f_X10_chalk_B134 v1 ag110 r_6) N134) M134 y6_134 = some r0 := h
                            generalize wlp2 (f_X10_chalk_B134 v1 ag110 r_6) N134 = ag134 at ih134 h
                            refine s_iload (k := 4) hX zcdX10_chalk_122.2.2.2.2.2.2.2 rfl ?_
                            refine s_iload_n (k := 1) hX zcdX10_chalk_136.1 rfl rfl ?_
                            refine e_icmp_ge (tgt := 165) hX zcdX10_chalk_136.2.1 (by decide) r_le h (fun h => ?_) (fun h => ?_)
                            · refine s_loc [0, 1, 2, 3] rfl ?_
                              exact j165 M134 r_6 h
                            · refine s_aload_n (k := 0) hX zcdX10_chalk_136.2.2.1 rfl rfl ?_
                              refine s_get hX fX10_122 oM0 rfl zcdX10_chalk_136.2.2.2.1 ?_
                              refine s_iload (k := 4) hX zcdX10_chalk_136.2.2.2.2.1 rfl ?_
                              refine s_aload_n (k := 0) hX zcdX10_chalk_136.2.2.2.2.2.1 rfl rfl ?_
                              refine s_get hX fX10_116 oM0 rfl zcdX10_chalk_136.2.2.2.2.2.2.1 ?_
                              refine s_aload_n (k := 0) hX zcdX10_chalk_136.2.2.2.2.2.2.2 rfl rfl ?_
                              refine s_get hX fX10_119 oM0 rfl zcdX10_chalk_151.1 ?_
                              refine s_iload (k := 4) hX zcdX10_chalk_151.2.1 rfl ?_
                              refine e_iald hX aM37 zcdX10_chalk_151.2.2.1 h (fun h => ?_)
                              refine e_iald hX aM36 zcdX10_chalk_151.2.2.2.1 h (fun h => ?_)
                              refine e_iast hX aM38 zcdX10_chalk_151.2.2.2.2.1 h (fun h => ?_)
                              refine e_bndM h (fun M_9 h => ?_)
                              refine s_iinc (k := 4) (v := (y6_134 + (nI 1))) (lv' := [(0, .ref (ad 0)), (1, .int v1), (2, .int v2), (3, .int r_6), (6, .int (y6_134 + (nI 1)))]) hX zcdX10_chalk_151.2.2.2.2.2.1 (congrArg (fun z => y6_134 + z) (by decide)) (by decide) rfl rfl ?_
                              refine s_goto (tgt := 134) hX zcdX10_chalk_151.2.2.2.2.2.2.1 (by decide) ?_
                              exact ih134 M_9 (y6_134 + (nI 1)) h
                        refine s_loc [0, 1, 2, 5, 6] rfl ?_
                        exact lp134 FU M110 (nI 0) h
                exact lp110 FU M_5 (nI 1000000) (nI 1) h
              refine e_icmp_ge (tgt := 98) hX zcdX10_chalk_53.2.2.2.2.2.2.1 (by decide) r_le h (fun h => ?_) (fun h => ?_)
              · refine s_loc [0, 1, 2] rfl ?_
                exact j98 h
              · refine s_aload_n (k := 0) hX zcdX10_chalk_53.2.2.2.2.2.2.2 rfl rfl ?_
                refine s_iconst (v := (nI 2)) hX zcdX10_chalk_64.1 (by decide) ?_
                refine s_iload_n (k := 3) hX zcdX10_chalk_64.2.1 rfl rfl ?_
                refine s_imul hX zcdX10_chalk_64.2.2.1 ?_
                refine e_callVp hX (t_X10_octet ((nI 2) * y3_58) M_4) mX10_octet lX10_377 (by decide) (by decide) oM0 rfl rfl rfl rfl rfl (Nat.le_of_ble_eq_true rfl) zcdX10_chalk_64.2.2.2.1 h (fun r_10 h => ?_)
                refine s_bipush (v := (nI 39)) hX zcdX10_chalk_64.2.2.2.2.1 (by decide) ?_
                refine e_icmp_gt (tgt := 89) hX zcdX10_chalk_64.2.2.2.2.2.1 (by decide) (m_gt (by decide +kernel)) h (fun h => ?_) (fun h => ?_)
                · refine s_bipush (v := (-3)) hX zcdX10_chalk_77.2.2.2.2.2.2.2 (by decide) ?_
                  exact e_ireti hX hR zcdX10_chalk_91.1 h
                · refine s_aload_n (k := 0) hX zcdX10_chalk_64.2.2.2.2.2.2.1 rfl rfl ?_
                  refine s_iconst (v := (nI 2)) hX zcdX10_chalk_64.2.2.2.2.2.2.2 (by decide) ?_
                  refine s_iload_n (k := 3) hX zcdX10_chalk_77.1 rfl rfl ?_
                  refine s_imul hX zcdX10_chalk_77.2.1 ?_
                  refine s_iconst (v := (nI 1)) hX zcdX10_chalk_77.2.2.1 (by decide) ?_
                  refine s_iadd hX zcdX10_chalk_77.2.2.2.1 ?_
                  refine e_callVp hX (t_X10_octet (((nI 2) * y3_58) + (nI 1)) M_4) mX10_octet lX10_377 (by decide) (by decide) oM0 rfl rfl rfl rfl rfl (Nat.le_of_ble_eq_true rfl) zcdX10_chalk_77.2.2.2.2.1 h (fun r_11 h => ?_)
                  refine s_bipush (v := (nI 20)) hX zcdX10_chalk_77.2.2.2.2.2.1 (by decide) ?_
                  refine e_icmp_le (tgt := 92) hX zcdX10_chalk_77.2.2.2.2.2.2.1 (by decide) (m_le (by decide +kernel)) h (fun h => ?_) (fun h => ?_)
                  · refine s_iinc (k := 3) (v := (y3_58 + (nI 1))) (lv' := [(0, .ref (ad 0)), (1, .int v1), (2, .int v2), (3, .int (y3_58 + (nI 1)))]) hX zcdX10_chalk_91.2.1 (congrArg (fun z => y3_58 + z) (by decide)) (by decide) rfl rfl ?_
                    refine s_goto (tgt := 58) hX zcdX10_chalk_91.2.2.1 (by decide) ?_
                    exact ih58 (y3_58 + (nI 1)) h
                  · refine s_bipush (v := (-3)) hX zcdX10_chalk_77.2.2.2.2.2.2.2 (by decide) ?_
                    exact e_ireti hX hR zcdX10_chalk_91.1 h
          exact lp58 FU (nI 0) h
        · refine s_bipush (v := (-2)) hX zcdX10_chalk_53.1 (by decide) ?_
          exact e_ireti hX hR zcdX10_chalk_53.2.1 h
      · refine s_iconst (v := (-1)) hX zcdX10_chalk_27.2.2.2.2.2.2.1 (by decide) ?_
        exact e_ireti hX hR zcdX10_chalk_27.2.2.2.2.2.2.2 h
    refine e_icmp_eq (tgt := 27) hX zcdX10_chalk_13.1 (by decide) (m_eq (by decide +kernel)) h (fun h => ?_) (fun h => ?_)
    · exact j27 h
    · refine s_iload_n (k := 2) hX zcdX10_chalk_13.2.1 rfl rfl ?_
      refine s_iconst (v := (nI 0)) hX zcdX10_chalk_13.2.2.1 (by decide) ?_
      refine s_iload_n (k := 1) hX zcdX10_chalk_13.2.2.2.1 rfl rfl ?_
      refine s_iconst (v := (nI 1)) hX zcdX10_chalk_13.2.2.2.2.1 (by decide) ?_
      refine s_isub hX zcdX10_chalk_13.2.2.2.2.2.1 ?_
      refine e_callSp hX (t_X10_in v2 (nI 0) (v1 - (nI 1)) M) mX10_in lX10_132 (by decide) (by decide) rfl rfl (Nat.le_of_ble_eq_true rfl) zcdX10_chalk_13.2.2.2.2.2.2.1 h (fun r_12 h => ?_)
      refine e_if_eq (tgt := 37) hX zcdX10_chalk_13.2.2.2.2.2.2.2 (by decide) z_eq h (fun h => ?_) (fun h => ?_)
      · refine s_iconst (v := (-1)) hX zcdX10_chalk_27.2.2.2.2.2.2.1 (by decide) ?_
        exact e_ireti hX hR zcdX10_chalk_27.2.2.2.2.2.2.2 h
      · exact j27 h
set_option maxHeartbeats 4000000 in
theorem t_X10_check (v1 : Int32) (M : Mem) : AXi yX10_check cX10_check 3 (some .int) 2 39 glM (fun ad => [.ref (ad 0), .int v1]) M (f_X10_check M v1) := by
  intro r0 h
  refine AM.of (by decide) (fun _ => Nat.le_of_ble_eq_true rfl) (fun X ad cI cZ cB hX hR => ?_)
  show V X M [(0, .ref (ad 0)), (1, .int v1)] [] 0
  refine s_iload_n (k := 1) hX zcdX10_chalk_182.2.2.2.2.2.2.2 rfl rfl ?_
  refine s_iconst (v := (nI 0)) hX zcdX10_check_1.1 (by decide) ?_
  refine s_bipush (v := (nI 40)) hX zcdX10_check_1.2.1 (by decide) ?_
  refine e_callSp hX (t_X10_in v1 (nI 0) (nI 40) M) mX10_in lX10_132 (by decide) (by decide) rfl rfl (Nat.le_of_ble_eq_true rfl) zcdX10_check_1.2.2.1 h (fun r_1 h => ?_)
  refine e_if_eq (tgt := 18) hX zcdX10_check_1.2.2.2.1 (by decide) z_eq h (fun h => ?_) (fun h => ?_)
  · refine s_bipush (v := (-2)) hX zcdX10_check_18.1 (by decide) ?_
    exact e_ireti hX hR zcdX10_check_18.2.1 h
  · refine s_iload_n (k := 1) hX zcdX10_check_1.2.2.2.2.1 rfl rfl ?_
    refine s_aload_n (k := 0) hX zcdX10_check_1.2.2.2.2.2.1 rfl rfl ?_
    refine s_get hX fX10_158 oM0 rfl zcdX10_check_1.2.2.2.2.2.2.1 ?_
    refine e_icmp_le (tgt := 21) hX zcdX10_check_1.2.2.2.2.2.2.2 (by decide) r_le h (fun h => ?_) (fun h => ?_)
    · refine s_aload_n (k := 0) hX zcdX10_check_18.2.2.1 rfl rfl ?_
      refine s_iconst (v := (nI 0)) hX zcdX10_check_18.2.2.2.1 (by decide) ?_
      refine s_puti (ty := .int) hX fX10_158 oM0 rfl (Nat.le_of_ble_eq_true rfl) ty_10_6 rfl rfl zcdX10_check_18.2.2.2.2.1 ?_
      refine e_bndM h (fun M_2 h => ?_)
      refine s_iconst (v := (nI 0)) hX zcdX10_check_18.2.2.2.2.2.1 (by decide) ?_
      refine s_istore_n (lv' := [(0, .ref (ad 0)), (1, .int v1), (2, .int (nI 0))]) hX zcdX10_check_18.2.2.2.2.2.2.1 rfl (by decide) rfl ?_
      have lp28 : ∀ (N28 : Nat) (y2_28 : Int32), wlp1 (f_X10_check_B28 v1 M_2) N28 y2_28 = some r0 → V X M_2 [(0, .ref (ad 0)), (1, .int v1), (2, .int y2_28)] [] 28 := by
        intro N28
        induction N28 with
        | zero => exact fun _ h => e_none h
        | succ N28 ih28 =>
          intro y2_28 h
          replace h : f_X10_check_B28 v1 M_2 (wlp1 (f_X10_check_B28 v1 M_2) N28) y2_28 = some r0 := h
          generalize wlp1 (f_X10_check_B28 v1 M_2) N28 = ag28 at ih28 h
          refine s_iload_n (k := 2) hX zcdX10_check_18.2.2.2.2.2.2.2 rfl rfl ?_
          refine s_iload_n (k := 1) hX zcdX10_check_29.1 rfl rfl ?_
          refine e_icmp_ge (tgt := 72) hX zcdX10_check_29.2.1 (by decide) r_le h (fun h => ?_) (fun h => ?_)
          · refine s_iconst (v := (-1)) hX zcdX10_check_58.2.2.2.2.2.2.1 (by decide) ?_
            exact e_ireti hX hR zcdX10_check_58.2.2.2.2.2.2.2 h
          · refine s_aload_n (k := 0) hX zcdX10_check_29.2.2.1 rfl rfl ?_
            refine s_iload_n (k := 2) hX zcdX10_check_29.2.2.2.1 rfl rfl ?_
            refine e_callVp hX (t_X10_octet y2_28 M_2) mX10_octet lX10_377 (by decide) (by decide) oM0 rfl rfl rfl rfl rfl (Nat.le_of_ble_eq_true rfl) zcdX10_check_29.2.2.2.2.1 h (fun r_3 h => ?_)
            refine s_aload_n (k := 0) hX zcdX10_check_29.2.2.2.2.2.1 rfl rfl ?_
            refine s_iload_n (k := 2) hX zcdX10_check_29.2.2.2.2.2.2.1 rfl rfl ?_
            refine e_callVp hX (t_X10_isStone y2_28 M_2) mX10_isStone lX10_154 (by decide) (by decide) oM0 rfl rfl rfl rfl rfl (Nat.le_of_ble_eq_true rfl) zcdX10_check_29.2.2.2.2.2.2.2 h (fun r_4 h => ?_)
            have j61 : ∀ (t0_61 : Int32), f_X10_check_L61 M_2 ag28 y2_28 r_3 t0_61 = some r0 → V X M_2 [(0, .ref (ad 0)), (1, .int v1), (2, .int y2_28)] [.int t0_61, .int r_3] 61 := by
              intro t0_61 h
              refine e_icmp_eq (tgt := 66) hX zcdX10_check_58.2.1 (by decide) r_eq h (fun h => ?_) (fun h => ?_)
              · refine s_iinc (k := 2) (v := (y2_28 + (nI 1))) (lv' := [(0, .ref (ad 0)), (1, .int v1), (2, .int (y2_28 + (nI 1)))]) hX zcdX10_check_58.2.2.2.2.1 (congrArg (fun z => y2_28 + z) (by decide)) (by decide) rfl rfl ?_
                refine s_goto (tgt := 28) hX zcdX10_check_58.2.2.2.2.2.1 (by decide) ?_
                exact ih28 (y2_28 + (nI 1)) h
              · refine s_iload_n (k := 2) hX zcdX10_check_58.2.2.1 rfl rfl ?_
                exact e_ireti hX hR zcdX10_check_58.2.2.2.1 h
            refine e_if_eq (tgt := 58) hX zcdX10_check_43.1 (by decide) z_eq h (fun h => ?_) (fun h => ?_)
            · refine s_sipush (v := (nI 255)) hX zcdX10_check_58.1 (by decide) ?_
              exact j61 (nI 255) h
            · refine s_aload_n (k := 0) hX zcdX10_check_43.2.1 rfl rfl ?_
              refine s_get hX fX10_7 oM0 rfl zcdX10_check_43.2.2.1 ?_
              refine s_bipush (v := (nI 40)) hX zcdX10_check_43.2.2.2.1 (by decide) ?_
              refine s_iload_n (k := 2) hX zcdX10_check_43.2.2.2.2.1 rfl rfl ?_
              refine s_iadd hX zcdX10_check_43.2.2.2.2.2.1 ?_
              refine e_iald hX aM1 zcdX10_check_43.2.2.2.2.2.2.1 h (fun h => ?_)
              refine s_goto (tgt := 61) hX zcdX10_check_43.2.2.2.2.2.2.2 (by decide) ?_
              exact j61 (M_2 1 (ix ((nI 40) + y2_28))) h
      exact lp28 FU (nI 0) h
    · refine s_bipush (v := (-2)) hX zcdX10_check_18.1 (by decide) ?_
      exact e_ireti hX hR zcdX10_check_18.2.1 h
set_option maxHeartbeats 4000000 in
theorem t_X10_waitTop (M : Mem) : AXp yX10_waitTop cX10_waitTop 1 (some .int) 0 39 glM (fun ad => [.ref (ad 0)]) M (f_X10_waitTop M) := by
  intro r0 h
  refine AM.of (by decide) (fun _ => Nat.le_of_ble_eq_true rfl) (fun X ad cI cZ cB hX hR => ?_)
  show V X M [(0, .ref (ad 0))] [] 0
  refine s_aload_n (k := 0) hX zcdX10_waitTop_0.1 rfl rfl ?_
  refine s_get hX fX10_195 oM0 rfl zcdX10_waitTop_0.2.1 ?_
  refine e_if_ne (tgt := 11) hX zcdX10_waitTop_0.2.2.1 (by decide) z_eq h (fun h => ?_) (fun h => ?_)
  · refine s_aload_n (k := 0) hX zcdX10_waitTop_0.2.2.2.2.2.1 rfl rfl ?_
    refine s_get hX fX10_29 oM0 rfl zcdX10_waitTop_0.2.2.2.2.2.2.1 ?_
    refine s_aload_n (k := 0) hX zcdX10_waitTop_0.2.2.2.2.2.2.2 rfl rfl ?_
    refine s_get hX fX10_195 oM0 rfl zcdX10_waitTop_16.1 ?_
    refine s_iconst (v := (nI 1)) hX zcdX10_waitTop_16.2.1 (by decide) ?_
    refine s_isub hX zcdX10_waitTop_16.2.2.1 ?_
    refine e_iald hX aM7 zcdX10_waitTop_16.2.2.2.1 h (fun h => ?_)
    refine s_ldc (v := (nI 1048576)) hX kX10_191 zcdX10_waitTop_16.2.2.2.2.1 ?_
    refine s_idiv hX zcdX10_waitTop_16.2.2.2.2.2.1 (by decide) ?_
    exact e_iretp hX hR zcdX10_waitTop_16.2.2.2.2.2.2.1 h
  · refine s_iconst (v := (-1)) hX zcdX10_waitTop_0.2.2.2.1 (by decide) ?_
    refine s_goto (tgt := 25) hX zcdX10_waitTop_0.2.2.2.2.1 (by decide) ?_
    exact e_iretp hX hR zcdX10_waitTop_16.2.2.2.2.2.2.1 h
set_option maxHeartbeats 4000000 in
theorem t_X10_notes (v1 : Int32) (v2 : Int32) (M : Mem) : AXv yX10_notes cX10_notes 3 none 0 39 glM (fun ad => [.ref (ad 0), .int v1, .int v2]) M (f_X10_notes M v1 v2) := by
  intro r0 h
  refine AM.of (by decide) (fun _ => Nat.le_of_ble_eq_true rfl) (fun X ad cI cZ cB hX hR => ?_)
  show V X M [(0, .ref (ad 0)), (1, .int v1), (2, .int v2)] [] 0
  refine s_aload_n (k := 0) hX zcdX10_waitTop_16.2.2.2.2.2.2.2 rfl rfl ?_
  refine s_get hX fX10_26 oM0 rfl zcdX10_notes_1.1 ?_
  refine s_aload_n (k := 0) hX zcdX10_notes_1.2.1 rfl rfl ?_
  refine s_get hX fX10_188 oM0 rfl zcdX10_notes_1.2.2.1 ?_
  refine s_ldc (v := (nI 1048576)) hX kX10_191 zcdX10_notes_1.2.2.2.1 ?_
  refine s_iload_n (k := 1) hX zcdX10_notes_1.2.2.2.2.1 rfl rfl ?_
  refine s_imul hX zcdX10_notes_1.2.2.2.2.2.1 ?_
  refine s_iload_n (k := 2) hX zcdX10_notes_1.2.2.2.2.2.2.1 rfl rfl ?_
  refine s_iadd hX zcdX10_notes_1.2.2.2.2.2.2.2 ?_
  refine e_iast hX aM6 zcdX10_notes_14.1 h (fun h => ?_)
  refine e_bndM h (fun M_1 h => ?_)
  refine s_aload_n (k := 0) hX zcdX10_notes_14.2.1 rfl rfl ?_
  refine s_aload_n (k := 0) hX zcdX10_notes_14.2.2.1 rfl rfl ?_
  refine s_get hX fX10_188 oM0 rfl zcdX10_notes_14.2.2.2.1 ?_
  refine s_iconst (v := (nI 1)) hX zcdX10_notes_14.2.2.2.2.1 (by decide) ?_
  refine s_iadd hX zcdX10_notes_14.2.2.2.2.2.1 ?_
  refine s_puti (ty := .int) hX fX10_188 oM0 rfl (Nat.le_of_ble_eq_true rfl) ty_10_12 rfl rfl zcdX10_notes_14.2.2.2.2.2.2.1 ?_
  refine e_bndM h (fun M_2 h => ?_)
  exact e_vret hX hR zcdX10_notes_14.2.2.2.2.2.2.2 h
set_option maxHeartbeats 4000000 in
theorem t_X10_closesSums (v1 : Int32) (M : Mem) : AXv yX10_closesSums cX10_closesSums 2 none 1 39 glM (fun ad => [.ref (ad 0), .int v1]) M (f_X10_closesSums M v1) := by
  intro r0 h
  refine AM.of (by decide) (fun _ => Nat.le_of_ble_eq_true rfl) (fun X ad cI cZ cB hX hR => ?_)
  show V X M [(0, .ref (ad 0)), (1, .int v1)] [] 0
  have lp0 : ∀ (N0 : Nat) (M0 : Mem), wlp1 (f_X10_closesSums_B0 v1) N0 M0 = some r0 → V X M0 [(0, .ref (ad 0)), (1, .int v1)] [] 0 := by
    intro N0
    induction N0 with
    | zero => exact fun _ h => e_none h
    | succ N0 ih0 =>
      intro M0 h
      replace h : f_X10_closesSums_B0 v1 (wlp1 (f_X10_closesSums_B0 v1) N0) M0 = some r0 := h
      generalize wlp1 (f_X10_closesSums_B0 v1) N0 = ag0 at ih0 h
      refine s_aload_n (k := 0) hX zcdX10_closesSums_0.1 rfl rfl ?_
      refine e_callVp hX (t_X10_waitTop M0) mX10_waitTop lX10_198 (by decide) (by decide) oM0 rfl rfl rfl rfl rfl (Nat.le_of_ble_eq_true rfl) zcdX10_closesSums_0.2.1 h (fun r_1 h => ?_)
      refine s_iconst (v := (nI 4)) hX zcdX10_closesSums_0.2.2.1 (by decide) ?_
      have j37 : f_X10_closesSums_L37 ag0 M0 = some r0 → V X M0 [(0, .ref (ad 0)), (1, .int v1)] [] 37 := by
        intro  h
        refine s_aload_n (k := 0) hX zcdX10_closesSums_33.2.2.1 rfl rfl ?_
        refine s_aload_n (k := 0) hX zcdX10_closesSums_33.2.2.2.1 rfl rfl ?_
        refine e_callVp hX (t_X10_waitTop M0) mX10_waitTop lX10_198 (by decide) (by decide) oM0 rfl rfl rfl rfl rfl (Nat.le_of_ble_eq_true rfl) zcdX10_closesSums_33.2.2.2.2.1 h (fun r_2 h => ?_)
        refine s_iconst (v := (nI 0)) hX zcdX10_closesSums_33.2.2.2.2.2.1 (by decide) ?_
        refine e_callVv hX (t_X10_notes r_2 (nI 0) M0) mX10_notes lX10_201 (by decide) (by decide) oM0 rfl rfl rfl rfl rfl (Nat.le_of_ble_eq_true rfl) zcdX10_closesSums_33.2.2.2.2.2.2.1 h (fun M_3 h => ?_)
        refine s_aload_n (k := 0) hX zcdX10_closesSums_33.2.2.2.2.2.2.2 rfl rfl ?_
        refine s_aload_n (k := 0) hX zcdX10_closesSums_47.1 rfl rfl ?_
        refine s_get hX fX10_195 oM0 rfl zcdX10_closesSums_47.2.1 ?_
        refine s_iconst (v := (nI 1)) hX zcdX10_closesSums_47.2.2.1 (by decide) ?_
        refine s_isub hX zcdX10_closesSums_47.2.2.2.1 ?_
        refine s_puti (ty := .int) hX fX10_195 oM0 rfl (Nat.le_of_ble_eq_true rfl) ty_10_13 rfl rfl zcdX10_closesSums_47.2.2.2.2.1 ?_
        refine e_bndM h (fun M_4 h => ?_)
        refine s_goto (tgt := 0) hX zcdX10_closesSums_47.2.2.2.2.2.1 (by decide) ?_
        exact ih0 M_4 h
      have j17 : f_X10_closesSums_L17 v1 ag0 M0 = some r0 → V X M0 [(0, .ref (ad 0)), (1, .int v1)] [] 17 := by
        intro  h
        refine s_iload_n (k := 1) hX zcdX10_closesSums_17.1 rfl rfl ?_
        refine e_if_eq (tgt := 59) hX zcdX10_closesSums_17.2.1 (by decide) z_eq h (fun h => ?_) (fun h => ?_)
        · exact e_vret hX hR zcdX10_closesSums_47.2.2.2.2.2.2.1 h
        · refine s_aload_n (k := 0) hX zcdX10_closesSums_17.2.2.1 rfl rfl ?_
          refine e_callVp hX (t_X10_waitTop M0) mX10_waitTop lX10_198 (by decide) (by decide) oM0 rfl rfl rfl rfl rfl (Nat.le_of_ble_eq_true rfl) zcdX10_closesSums_17.2.2.2.1 h (fun r_5 h => ?_)
          refine s_iconst (v := (nI 2)) hX zcdX10_closesSums_17.2.2.2.2.1 (by decide) ?_
          refine e_icmp_eq (tgt := 37) hX zcdX10_closesSums_17.2.2.2.2.2.1 (by decide) (m_eq (by decide +kernel)) h (fun h => ?_) (fun h => ?_)
          · exact j37 h
          · refine s_aload_n (k := 0) hX zcdX10_closesSums_17.2.2.2.2.2.2.1 rfl rfl ?_
            refine e_callVp hX (t_X10_waitTop M0) mX10_waitTop lX10_198 (by decide) (by decide) oM0 rfl rfl rfl rfl rfl (Nat.le_of_ble_eq_true rfl) zcdX10_closesSums_17.2.2.2.2.2.2.2 h (fun r_6 h => ?_)
            refine s_iconst (v := (nI 3)) hX zcdX10_closesSums_33.1 (by decide) ?_
            refine e_icmp_ne (tgt := 59) hX zcdX10_closesSums_33.2.1 (by decide) (m_eq (by decide +kernel)) h (fun h => ?_) (fun h => ?_)
            · exact e_vret hX hR zcdX10_closesSums_47.2.2.2.2.2.2.1 h
            · exact j37 h
      refine e_icmp_lt (tgt := 17) hX zcdX10_closesSums_0.2.2.2.1 (by decide) (m_lt (by decide +kernel)) h (fun h => ?_) (fun h => ?_)
      · exact j17 h
      · refine s_aload_n (k := 0) hX zcdX10_closesSums_0.2.2.2.2.1 rfl rfl ?_
        refine e_callVp hX (t_X10_waitTop M0) mX10_waitTop lX10_198 (by decide) (by decide) oM0 rfl rfl rfl rfl rfl (Nat.le_of_ble_eq_true rfl) zcdX10_closesSums_0.2.2.2.2.2.1 h (fun r_7 h => ?_)
        refine s_bipush (v := (nI 6)) hX zcdX10_closesSums_0.2.2.2.2.2.2.1 (by decide) ?_
        refine e_icmp_le (tgt := 37) hX zcdX10_closesSums_0.2.2.2.2.2.2.2 (by decide) (m_le (by decide +kernel)) h (fun h => ?_) (fun h => ?_)
        · exact j37 h
        · exact j17 h
  exact lp0 FU M h
set_option maxHeartbeats 4000000 in
theorem t_X10_nearestTo (v1 : Int32) (M : Mem) : AXp yX10_nearestTo cX10_nearestTo 4 (some .int) 2 39 glM (fun ad => [.ref (ad 0), .int v1]) M (f_X10_nearestTo M v1) := by
  intro r0 h
  refine AM.of (by decide) (fun _ => Nat.le_of_ble_eq_true rfl) (fun X ad cI cZ cB hX hR => ?_)
  show V X M [(0, .ref (ad 0)), (1, .int v1)] [] 0
  refine s_iconst (v := (-1)) hX zcdX10_closesSums_47.2.2.2.2.2.2.2 (by decide) ?_
  refine s_istore_n (lv' := [(0, .ref (ad 0)), (1, .int v1), (2, .int (-1))]) hX zcdX10_nearestTo_1.1 rfl (by decide) rfl ?_
  refine s_iconst (v := (nI 0)) hX zcdX10_nearestTo_1.2.1 (by decide) ?_
  refine s_istore_n (lv' := [(0, .ref (ad 0)), (1, .int v1), (2, .int (-1)), (3, .int (nI 0))]) hX zcdX10_nearestTo_1.2.2.1 rfl (by decide) rfl ?_
  have lp4 : ∀ (N4 : Nat) (y2_4 : Int32) (y3_4 : Int32), wlp2 (f_X10_nearestTo_B4 M v1) N4 y2_4 y3_4 = some r0 → V X M [(0, .ref (ad 0)), (1, .int v1), (2, .int y2_4), (3, .int y3_4)] [] 4 := by
    intro N4
    induction N4 with
    | zero => exact fun _ _ h => e_none h
    | succ N4 ih4 =>
      intro y2_4 y3_4 h
      replace h : f_X10_nearestTo_B4 M v1 (wlp2 (f_X10_nearestTo_B4 M v1) N4) y2_4 y3_4 = some r0 := h
      generalize wlp2 (f_X10_nearestTo_B4 M v1) N4 = ag4 at ih4 h
      refine s_iload_n (k := 3) hX zcdX10_nearestTo_1.2.2.2.1 rfl rfl ?_
      refine s_bipush (v := (nI 40)) hX zcdX10_nearestTo_1.2.2.2.2.1 (by decide) ?_
      refine e_icmp_ge (tgt := 51) hX zcdX10_nearestTo_1.2.2.2.2.2.1 (by decide) (m_ge (by decide +kernel)) h (fun h => ?_) (fun h => ?_)
      · refine s_iload_n (k := 2) hX zcdX10_nearestTo_40.2.2.2.2.2.1 rfl rfl ?_
        exact e_iretp hX hR zcdX10_nearestTo_40.2.2.2.2.2.2.1 h
      · refine s_iload_n (k := 3) hX zcdX10_nearestTo_1.2.2.2.2.2.2.1 rfl rfl ?_
        refine s_iload_n (k := 1) hX zcdX10_nearestTo_1.2.2.2.2.2.2.2 rfl rfl ?_
        refine e_icmp_eq (tgt := 45) hX zcdX10_nearestTo_12.1 (by decide) r_eq h (fun h => ?_) (fun h => ?_)
        · refine s_iinc (k := 3) (v := (y3_4 + (nI 1))) (lv' := [(0, .ref (ad 0)), (1, .int v1), (2, .int y2_4), (3, .int (y3_4 + (nI 1)))]) hX zcdX10_nearestTo_40.2.2.2.1 (congrArg (fun z => y3_4 + z) (by decide)) (by decide) rfl rfl ?_
          refine s_goto (tgt := 4) hX zcdX10_nearestTo_40.2.2.2.2.1 (by decide) ?_
          exact ih4 y2_4 (y3_4 + (nI 1)) h
        · refine s_aload_n (k := 0) hX zcdX10_nearestTo_12.2.1 rfl rfl ?_
          refine s_iload_n (k := 3) hX zcdX10_nearestTo_12.2.2.1 rfl rfl ?_
          refine e_callVp hX (t_X10_isStone y3_4 M) mX10_isStone lX10_154 (by decide) (by decide) oM0 rfl rfl rfl rfl rfl (Nat.le_of_ble_eq_true rfl) zcdX10_nearestTo_12.2.2.2.1 h (fun r_1 h => ?_)
          refine e_if_eq (tgt := 45) hX zcdX10_nearestTo_12.2.2.2.2.1 (by decide) z_eq h (fun h => ?_) (fun h => ?_)
          · refine s_iinc (k := 3) (v := (y3_4 + (nI 1))) (lv' := [(0, .ref (ad 0)), (1, .int v1), (2, .int y2_4), (3, .int (y3_4 + (nI 1)))]) hX zcdX10_nearestTo_40.2.2.2.1 (congrArg (fun z => y3_4 + z) (by decide)) (by decide) rfl rfl ?_
            refine s_goto (tgt := 4) hX zcdX10_nearestTo_40.2.2.2.2.1 (by decide) ?_
            exact ih4 y2_4 (y3_4 + (nI 1)) h
          · refine s_iload_n (k := 2) hX zcdX10_nearestTo_12.2.2.2.2.2.1 rfl rfl ?_
            refine s_iconst (v := (-1)) hX zcdX10_nearestTo_12.2.2.2.2.2.2.1 (by decide) ?_
            refine e_icmp_eq (tgt := 43) hX zcdX10_nearestTo_12.2.2.2.2.2.2.2 (by decide) (m_eq (by decide +kernel)) h (fun h => ?_) (fun h => ?_)
            · refine s_iload_n (k := 3) hX zcdX10_nearestTo_40.2.1 rfl rfl ?_
              refine s_istore_n (lv' := [(0, .ref (ad 0)), (1, .int v1), (3, .int y3_4), (2, .int y3_4)]) hX zcdX10_nearestTo_40.2.2.1 rfl (by decide) rfl ?_
              refine s_iinc (k := 2) (v := (y3_4 + (nI 1))) (lv' := [(0, .ref (ad 0)), (1, .int v1), (2, .int y3_4), (3, .int (y3_4 + (nI 1)))]) hX zcdX10_nearestTo_40.2.2.2.1 (congrArg (fun z => y3_4 + z) (by decide)) (by decide) rfl rfl ?_
              refine s_goto (tgt := 4) hX zcdX10_nearestTo_40.2.2.2.2.1 (by decide) ?_
              exact ih4 y3_4 (y3_4 + (nI 1)) h
            · refine s_aload_n (k := 0) hX zcdX10_nearestTo_28.1 rfl rfl ?_
              refine s_iload_n (k := 1) hX zcdX10_nearestTo_28.2.1 rfl rfl ?_
              refine s_iload_n (k := 3) hX zcdX10_nearestTo_28.2.2.1 rfl rfl ?_
              refine e_callVp hX (t_X10_apart v1 y3_4 M) mX10_apart lX10_144 (by decide) (by decide) oM0 rfl rfl rfl rfl rfl (Nat.le_of_ble_eq_true rfl) zcdX10_nearestTo_28.2.2.2.1 h (fun r_2 h => ?_)
              refine s_aload_n (k := 0) hX zcdX10_nearestTo_28.2.2.2.2.1 rfl rfl ?_
              refine s_iload_n (k := 1) hX zcdX10_nearestTo_28.2.2.2.2.2.1 rfl rfl ?_
              refine s_iload_n (k := 2) hX zcdX10_nearestTo_28.2.2.2.2.2.2.1 rfl rfl ?_
              refine e_callVp hX (t_X10_apart v1 y2_4 M) mX10_apart lX10_144 (by decide) (by decide) oM0 rfl rfl rfl rfl rfl (Nat.le_of_ble_eq_true rfl) zcdX10_nearestTo_28.2.2.2.2.2.2.2 h (fun r_3 h => ?_)
              refine e_icmp_ge (tgt := 45) hX zcdX10_nearestTo_40.1 (by decide) r_le h (fun h => ?_) (fun h => ?_)
              · refine s_iinc (k := 3) (v := (y3_4 + (nI 1))) (lv' := [(0, .ref (ad 0)), (1, .int v1), (2, .int y2_4), (3, .int (y3_4 + (nI 1)))]) hX zcdX10_nearestTo_40.2.2.2.1 (congrArg (fun z => y3_4 + z) (by decide)) (by decide) rfl rfl ?_
                refine s_goto (tgt := 4) hX zcdX10_nearestTo_40.2.2.2.2.1 (by decide) ?_
                exact ih4 y2_4 (y3_4 + (nI 1)) h
              · refine s_iload_n (k := 3) hX zcdX10_nearestTo_40.2.1 rfl rfl ?_
                refine s_istore_n (lv' := [(0, .ref (ad 0)), (1, .int v1), (3, .int y3_4), (2, .int y3_4)]) hX zcdX10_nearestTo_40.2.2.1 rfl (by decide) rfl ?_
                refine s_iinc (k := 2) (v := (y3_4 + (nI 1))) (lv' := [(0, .ref (ad 0)), (1, .int v1), (2, .int y3_4), (3, .int (y3_4 + (nI 1)))]) hX zcdX10_nearestTo_40.2.2.2.1 (congrArg (fun z => y3_4 + z) (by decide)) (by decide) rfl rfl ?_
                refine s_goto (tgt := 4) hX zcdX10_nearestTo_40.2.2.2.2.1 (by decide) ?_
                exact ih4 y3_4 (y3_4 + (nI 1)) h
  exact lp4 FU (-1) (nI 0) h
set_option maxHeartbeats 4000000 in
theorem t_X10_closest (M : Mem) : AXp yX10_closest cX10_closest 4 (some .int) 3 39 glM (fun ad => [.ref (ad 0)]) M (f_X10_closest M) := by
  intro r0 h
  refine AM.of (by decide) (fun _ => Nat.le_of_ble_eq_true rfl) (fun X ad cI cZ cB hX hR => ?_)
  show V X M [(0, .ref (ad 0))] [] 0
  refine s_bipush (v := (-2)) hX zcdX10_nearestTo_40.2.2.2.2.2.2.2 (by decide) ?_
  refine s_istore_n (lv' := [(0, .ref (ad 0)), (1, .int (-2))]) hX zcdX10_closest_2.1 rfl (by decide) rfl ?_
  refine s_iconst (v := (nI 0)) hX zcdX10_closest_2.2.1 (by decide) ?_
  refine s_istore_n (lv' := [(0, .ref (ad 0)), (1, .int (-2)), (2, .int (nI 0))]) hX zcdX10_closest_2.2.2.1 rfl (by decide) rfl ?_
  have lp5 : ∀ (N5 : Nat) (y1_5 : Int32) (y2_5 : Int32), wlp2 (f_X10_closest_B5 M) N5 y1_5 y2_5 = some r0 → V X M [(0, .ref (ad 0)), (1, .int y1_5), (2, .int y2_5)] [] 5 := by
    intro N5
    induction N5 with
    | zero => exact fun _ _ h => e_none h
    | succ N5 ih5 =>
      intro y1_5 y2_5 h
      replace h : f_X10_closest_B5 M (wlp2 (f_X10_closest_B5 M) N5) y1_5 y2_5 = some r0 := h
      generalize wlp2 (f_X10_closest_B5 M) N5 = ag5 at ih5 h
      refine s_iload_n (k := 2) hX zcdX10_closest_2.2.2.2.1 rfl rfl ?_
      refine s_bipush (v := (nI 40)) hX zcdX10_closest_2.2.2.2.2.1 (by decide) ?_
      refine e_icmp_ge (tgt := 63) hX zcdX10_closest_2.2.2.2.2.2.1 (by decide) (m_ge (by decide +kernel)) h (fun h => ?_) (fun h => ?_)
      · refine s_iload_n (k := 1) hX zcdX10_closest_56.2.2.2.1 rfl rfl ?_
        exact e_iretp hX hR zcdX10_closest_56.2.2.2.2.1 h
      · refine s_aload_n (k := 0) hX zcdX10_closest_2.2.2.2.2.2.2.1 rfl rfl ?_
        refine s_iload_n (k := 2) hX zcdX10_closest_2.2.2.2.2.2.2.2 rfl rfl ?_
        refine e_callVp hX (t_X10_isStone y2_5 M) mX10_isStone lX10_154 (by decide) (by decide) oM0 rfl rfl rfl rfl rfl (Nat.le_of_ble_eq_true rfl) zcdX10_closest_13.1 h (fun r_1 h => ?_)
        have j28 : ∀ (t0_28 : Int32), f_X10_closest_L28 M ag5 y1_5 y2_5 t0_28 = some r0 → V X M [(0, .ref (ad 0)), (1, .int y1_5), (2, .int y2_5)] [.int t0_28] 28 := by
          intro t0_28 h
          refine s_istore_n (lv' := [(0, .ref (ad 0)), (1, .int y1_5), (2, .int y2_5), (3, .int t0_28)]) hX zcdX10_closest_13.2.2.2.2.2.2.2 rfl (by decide) rfl ?_
          refine s_iload_n (k := 3) hX zcdX10_closest_29.1 rfl rfl ?_
          refine s_iconst (v := (-1)) hX zcdX10_closest_29.2.1 (by decide) ?_
          refine e_icmp_eq (tgt := 57) hX zcdX10_closest_29.2.2.1 (by decide) (m_eq (by decide +kernel)) h (fun h => ?_) (fun h => ?_)
          · refine s_iinc (k := 2) (v := (y2_5 + (nI 1))) (lv' := [(0, .ref (ad 0)), (1, .int y1_5), (3, .int t0_28), (2, .int (y2_5 + (nI 1)))]) hX zcdX10_closest_56.2.1 (congrArg (fun z => y2_5 + z) (by decide)) (by decide) rfl rfl ?_
            refine s_goto (tgt := 5) hX zcdX10_closest_56.2.2.1 (by decide) ?_
            refine s_loc [0, 1, 3] rfl ?_
            exact ih5 y1_5 (y2_5 + (nI 1)) h
          · refine s_iload_n (k := 1) hX zcdX10_closest_29.2.2.2.1 rfl rfl ?_
            refine s_bipush (v := (-2)) hX zcdX10_closest_29.2.2.2.2.1 (by decide) ?_
            have j50 : f_X10_closest_L50 M ag5 y2_5 t0_28 = some r0 → V X M [(0, .ref (ad 0)), (2, .int y2_5), (3, .int t0_28)] [] 50 := by
              intro  h
              refine s_aload_n (k := 0) hX zcdX10_closest_42.2.2.2.2.1 rfl rfl ?_
              refine s_iload_n (k := 1) hX zcdX10_closest_42.2.2.2.2.2.1 rfl rfl ?_
              refine s_iload_n (k := 2) hX zcdX10_closest_42.2.2.2.2.2.2.1 rfl rfl ?_
              refine e_callVp hX (t_X10_apart y2_5 t0_28 M) mX10_apart lX10_144 (by decide) (by decide) oM0 rfl rfl rfl rfl rfl (Nat.le_of_ble_eq_true rfl) zcdX10_closest_42.2.2.2.2.2.2.2 h (fun r_2 h => ?_)
              refine s_istore_n (lv' := [(0, .ref (ad 0)), (2, .int y2_5), (3, .int t0_28), (1, .int r_2)]) hX zcdX10_closest_56.1 rfl (by decide) rfl ?_
              refine s_iinc (k := 1) (v := (y2_5 + (nI 1))) (lv' := [(0, .ref (ad 0)), (3, .int t0_28), (1, .int r_2), (2, .int (y2_5 + (nI 1)))]) hX zcdX10_closest_56.2.1 (congrArg (fun z => y2_5 + z) (by decide)) (by decide) rfl rfl ?_
              refine s_goto (tgt := 5) hX zcdX10_closest_56.2.2.1 (by decide) ?_
              refine s_loc [0, 2, 3] rfl ?_
              exact ih5 r_2 (y2_5 + (nI 1)) h
            refine e_icmp_eq (tgt := 50) hX zcdX10_closest_29.2.2.2.2.2.1 (by decide) (m_eq (by decide +kernel)) h (fun h => ?_) (fun h => ?_)
            · refine s_loc [0, 2, 3] rfl ?_
              exact j50 h
            · refine s_aload_n (k := 0) hX zcdX10_closest_29.2.2.2.2.2.2.1 rfl rfl ?_
              refine s_iload_n (k := 2) hX zcdX10_closest_29.2.2.2.2.2.2.2 rfl rfl ?_
              refine s_iload_n (k := 3) hX zcdX10_closest_42.1 rfl rfl ?_
              refine e_callVp hX (t_X10_apart y2_5 t0_28 M) mX10_apart lX10_144 (by decide) (by decide) oM0 rfl rfl rfl rfl rfl (Nat.le_of_ble_eq_true rfl) zcdX10_closest_42.2.1 h (fun r_3 h => ?_)
              refine s_iload_n (k := 1) hX zcdX10_closest_42.2.2.1 rfl rfl ?_
              refine e_icmp_ge (tgt := 57) hX zcdX10_closest_42.2.2.2.1 (by decide) r_le h (fun h => ?_) (fun h => ?_)
              · refine s_iinc (k := 2) (v := (y2_5 + (nI 1))) (lv' := [(0, .ref (ad 0)), (1, .int y1_5), (3, .int t0_28), (2, .int (y2_5 + (nI 1)))]) hX zcdX10_closest_56.2.1 (congrArg (fun z => y2_5 + z) (by decide)) (by decide) rfl rfl ?_
                refine s_goto (tgt := 5) hX zcdX10_closest_56.2.2.1 (by decide) ?_
                refine s_loc [0, 1, 3] rfl ?_
                exact ih5 y1_5 (y2_5 + (nI 1)) h
              · refine s_loc [0, 2, 3] rfl ?_
                exact j50 h
        refine e_if_eq (tgt := 27) hX zcdX10_closest_13.2.1 (by decide) z_eq h (fun h => ?_) (fun h => ?_)
        · refine s_iconst (v := (-1)) hX zcdX10_closest_13.2.2.2.2.2.2.1 (by decide) ?_
          exact j28 (-1) h
        · refine s_aload_n (k := 0) hX zcdX10_closest_13.2.2.1 rfl rfl ?_
          refine s_iload_n (k := 2) hX zcdX10_closest_13.2.2.2.1 rfl rfl ?_
          refine e_callVp hX (t_X10_nearestTo y2_5 M) mX10_nearestTo lX10_399 (by decide) (by decide) oM0 rfl rfl rfl rfl rfl (Nat.le_of_ble_eq_true rfl) zcdX10_closest_13.2.2.2.2.1 h (fun r_4 h => ?_)
          refine s_goto (tgt := 28) hX zcdX10_closest_13.2.2.2.2.2.1 (by decide) ?_
          exact j28 r_4 h
  exact lp5 FU (-2) (nI 0) h
set_option maxHeartbeats 4000000 in
theorem t_X10_copies (k len_k : Nat) (hk : ∀ {ad : Nat → Nat} {cI cZ cB : ClassId}, IA (glM ad cI cZ cB) 39 k cI len_k) (hlk : len_k < 2 ^ 31) (k2 len_k2 : Nat) (hk2 : ∀ {ad : Nat → Nat} {cI cZ cB : ClassId}, IA (glM ad cI cZ cB) 39 k2 cI len_k2) (hlk2 : len_k2 < 2 ^ 31) (M : Mem) : AXv yX10_copies cX10_copies 3 none 0 39 glM (fun ad => [.ref (ad k), .ref (ad k2)]) M (f_X10_copies k len_k k2 len_k2 M) := by
  intro r0 h
  refine AM.of (by decide) (fun _ => Nat.le_of_ble_eq_true rfl) (fun X ad cI cZ cB hX hR => ?_)
  show V X M [(0, .ref (ad k)), (1, .ref (ad k2))] [] 0
  refine s_iconst (v := (nI 0)) hX zcdX10_closest_56.2.2.2.2.2.1 (by decide) ?_
  refine s_istore_n (lv' := [(0, .ref (ad k)), (1, .ref (ad k2)), (2, .int (nI 0))]) hX zcdX10_closest_56.2.2.2.2.2.2.1 rfl (by decide) rfl ?_
  have lp2 : ∀ (N2 : Nat) (M2 : Mem) (y2_2 : Int32), wlp2 (f_X10_copies_B2 k len_k k2 len_k2) N2 M2 y2_2 = some r0 → V X M2 [(0, .ref (ad k)), (1, .ref (ad k2)), (2, .int y2_2)] [] 2 := by
    intro N2
    induction N2 with
    | zero => exact fun _ _ h => e_none h
    | succ N2 ih2 =>
      intro M2 y2_2 h
      replace h : f_X10_copies_B2 k len_k k2 len_k2 (wlp2 (f_X10_copies_B2 k len_k k2 len_k2) N2) M2 y2_2 = some r0 := h
      generalize wlp2 (f_X10_copies_B2 k len_k k2 len_k2) N2 = ag2 at ih2 h
      refine s_iload_n (k := 2) hX zcdX10_closest_56.2.2.2.2.2.2.2 rfl rfl ?_
      refine s_sipush (v := (nI 202)) hX zcdX10_copies_3.1 (by decide) ?_
      refine e_icmp_ge (tgt := 21) hX zcdX10_copies_3.2.1 (by decide) (m_ge (by decide +kernel)) h (fun h => ?_) (fun h => ?_)
      · exact e_vret hX hR zcdX10_copies_15.2.2.1 h
      · refine s_aload_n (k := 1) hX zcdX10_copies_3.2.2.1 rfl rfl ?_
        refine s_iload_n (k := 2) hX zcdX10_copies_3.2.2.2.1 rfl rfl ?_
        refine s_aload_n (k := 0) hX zcdX10_copies_3.2.2.2.2.1 rfl rfl ?_
        refine s_iload_n (k := 2) hX zcdX10_copies_3.2.2.2.2.2.1 rfl rfl ?_
        refine e_iald hX hk zcdX10_copies_3.2.2.2.2.2.2.1 h (fun h => ?_)
        refine e_iast hX hk2 zcdX10_copies_3.2.2.2.2.2.2.2 h (fun h => ?_)
        refine e_bndM h (fun M_1 h => ?_)
        refine s_iinc (k := 2) (v := (y2_2 + (nI 1))) (lv' := [(0, .ref (ad k)), (1, .ref (ad k2)), (2, .int (y2_2 + (nI 1)))]) hX zcdX10_copies_15.1 (congrArg (fun z => y2_2 + z) (by decide)) (by decide) rfl rfl ?_
        refine s_goto (tgt := 2) hX zcdX10_copies_15.2.1 (by decide) ?_
        exact ih2 M_1 (y2_2 + (nI 1)) h
  exact lp2 FU M (nI 0) h
set_option maxHeartbeats 4000000 in
theorem t_X10_sumOf (v1 : Int32) (M : Mem) : AXp yX10_sumOf cX10_sumOf 4 (some .int) 2 39 glM (fun ad => [.ref (ad 0), .int v1]) M (f_X10_sumOf M v1) := by
  intro r0 h
  refine AM.of (by decide) (fun _ => Nat.le_of_ble_eq_true rfl) (fun X ad cI cZ cB hX hR => ?_)
  show V X M [(0, .ref (ad 0)), (1, .int v1)] [] 0
  refine s_iconst (v := (nI 0)) hX zcdX10_copies_15.2.2.2.1 (by decide) ?_
  refine s_istore_n (lv' := [(0, .ref (ad 0)), (1, .int v1), (2, .int (nI 0))]) hX zcdX10_copies_15.2.2.2.2.1 rfl (by decide) rfl ?_
  refine s_iconst (v := (nI 0)) hX zcdX10_copies_15.2.2.2.2.2.1 (by decide) ?_
  refine s_istore_n (lv' := [(0, .ref (ad 0)), (1, .int v1), (2, .int (nI 0)), (3, .int (nI 0))]) hX zcdX10_copies_15.2.2.2.2.2.2.1 rfl (by decide) rfl ?_
  have lp4 : ∀ (N4 : Nat) (y2_4 : Int32) (y3_4 : Int32), wlp2 (f_X10_sumOf_B4 M v1) N4 y2_4 y3_4 = some r0 → V X M [(0, .ref (ad 0)), (1, .int v1), (2, .int y2_4), (3, .int y3_4)] [] 4 := by
    intro N4
    induction N4 with
    | zero => exact fun _ _ h => e_none h
    | succ N4 ih4 =>
      intro y2_4 y3_4 h
      replace h : f_X10_sumOf_B4 M v1 (wlp2 (f_X10_sumOf_B4 M v1) N4) y2_4 y3_4 = some r0 := h
      generalize wlp2 (f_X10_sumOf_B4 M v1) N4 = ag4 at ih4 h
      refine s_iload_n (k := 3) hX zcdX10_copies_15.2.2.2.2.2.2.2 rfl rfl ?_
      refine s_bipush (v := (nI 40)) hX zcdX10_sumOf_5.1 (by decide) ?_
      refine e_icmp_ge (tgt := 39) hX zcdX10_sumOf_5.2.1 (by decide) (m_ge (by decide +kernel)) h (fun h => ?_) (fun h => ?_)
      · refine s_iload_n (k := 2) hX zcdX10_sumOf_32.2.2.2.1 rfl rfl ?_
        exact e_iretp hX hR zcdX10_sumOf_32.2.2.2.2 h
      · refine s_iload_n (k := 2) hX zcdX10_sumOf_5.2.2.1 rfl rfl ?_
        refine s_aload_n (k := 0) hX zcdX10_sumOf_5.2.2.2.1 rfl rfl ?_
        refine s_iload_n (k := 3) hX zcdX10_sumOf_5.2.2.2.2.1 rfl rfl ?_
        refine e_callVp hX (t_X10_isStone y3_4 M) mX10_isStone lX10_154 (by decide) (by decide) oM0 rfl rfl rfl rfl rfl (Nat.le_of_ble_eq_true rfl) zcdX10_sumOf_5.2.2.2.2.2.1 h (fun r_1 h => ?_)
        refine e_if_eq (tgt := 30) hX zcdX10_sumOf_5.2.2.2.2.2.2.1 (by decide) z_eq h (fun h => ?_) (fun h => ?_)
        · refine s_iconst (v := (nI 0)) hX zcdX10_sumOf_20.2.2.2.2.2.2.1 (by decide) ?_
          refine s_iadd hX zcdX10_sumOf_20.2.2.2.2.2.2.2 ?_
          refine s_istore_n (lv' := [(0, .ref (ad 0)), (1, .int v1), (3, .int y3_4), (2, .int (y2_4 + (nI 0)))]) hX zcdX10_sumOf_32.1 rfl (by decide) rfl ?_
          refine s_iinc (k := 2) (v := (y3_4 + (nI 1))) (lv' := [(0, .ref (ad 0)), (1, .int v1), (2, .int (y2_4 + (nI 0))), (3, .int (y3_4 + (nI 1)))]) hX zcdX10_sumOf_32.2.1 (congrArg (fun z => y3_4 + z) (by decide)) (by decide) rfl rfl ?_
          refine s_goto (tgt := 4) hX zcdX10_sumOf_32.2.2.1 (by decide) ?_
          exact ih4 (y2_4 + (nI 0)) (y3_4 + (nI 1)) h
        · refine s_aload_n (k := 0) hX zcdX10_sumOf_5.2.2.2.2.2.2.2 rfl rfl ?_
          refine s_get hX fX10_7 oM0 rfl zcdX10_sumOf_20.1 ?_
          refine s_iload_n (k := 1) hX zcdX10_sumOf_20.2.1 rfl rfl ?_
          refine s_iload_n (k := 3) hX zcdX10_sumOf_20.2.2.1 rfl rfl ?_
          refine s_iadd hX zcdX10_sumOf_20.2.2.2.1 ?_
          refine e_iald hX aM1 zcdX10_sumOf_20.2.2.2.2.1 h (fun h => ?_)
          refine s_goto (tgt := 31) hX zcdX10_sumOf_20.2.2.2.2.2.1 (by decide) ?_
          refine s_iadd hX zcdX10_sumOf_20.2.2.2.2.2.2.2 ?_
          refine e_bnd h (fun x_2 h => ?_)
          refine s_istore_n (lv' := [(0, .ref (ad 0)), (1, .int v1), (3, .int y3_4), (2, .int x_2)]) hX zcdX10_sumOf_32.1 rfl (by decide) rfl ?_
          refine s_iinc (k := 2) (v := (y3_4 + (nI 1))) (lv' := [(0, .ref (ad 0)), (1, .int v1), (2, .int x_2), (3, .int (y3_4 + (nI 1)))]) hX zcdX10_sumOf_32.2.1 (congrArg (fun z => y3_4 + z) (by decide)) (by decide) rfl rfl ?_
          refine s_goto (tgt := 4) hX zcdX10_sumOf_32.2.2.1 (by decide) ?_
          exact ih4 x_2 (y3_4 + (nI 1)) h
  exact lp4 FU (nI 0) (nI 0) h
