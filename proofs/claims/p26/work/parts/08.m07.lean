theorem zcdX10_meet_0 : decode cX10_meet 0 = .ok (.aload_n 0, 1) ∧ decode cX10_meet 1 = .ok (.iload_n 1, 1) ∧ decode cX10_meet 2 = .ok (.invokevirtual 334, 3) ∧ decode cX10_meet 5 = .ok (.ifCond .eq 20, 3) ∧ decode cX10_meet 8 = .ok (.aload_n 0, 1) ∧ decode cX10_meet 9 = .ok (.iload_n 2, 1) ∧ decode cX10_meet 10 = .ok (.invokevirtual 334, 3) ∧ decode cX10_meet 13 = .ok (.ifCond .eq 12, 3) := by decide +kernel
theorem zcdX10_meet_16 : decode cX10_meet 16 = .ok (.iload_n 3, 1) ∧ decode cX10_meet 17 = .ok (.iconst 0, 1) ∧ decode cX10_meet 18 = .ok (.iconst 1, 1) ∧ decode cX10_meet 19 = .ok (.invokestatic 132, 3) ∧ decode cX10_meet 22 = .ok (.ifCond .ne 5, 3) ∧ decode cX10_meet 25 = .ok (.iconst (-1), 1) ∧ decode cX10_meet 26 = .ok (.ireturn, 1) ∧ decode cX10_meet 27 = .ok (.aload_n 0, 1) := by decide +kernel
theorem zcdX10_meet_28 : decode cX10_meet 28 = .ok (.aload_n 0, 1) ∧ decode cX10_meet 29 = .ok (.getfield 77, 3) ∧ decode cX10_meet 32 = .ok (.iconst 1, 1) ∧ decode cX10_meet 33 = .ok (.aload_n 0, 1) ∧ decode cX10_meet 34 = .ok (.getfield 19, 3) ∧ decode cX10_meet 37 = .ok (.iload_n 1, 1) ∧ decode cX10_meet 38 = .ok (.iaload, 1) ∧ decode cX10_meet 39 = .ok (.invokevirtual 329, 3) := by decide +kernel
theorem zcdX10_meet_42 : decode cX10_meet 42 = .ok (.aload_n 0, 1) ∧ decode cX10_meet 43 = .ok (.aload_n 0, 1) ∧ decode cX10_meet 44 = .ok (.getfield 80, 3) ∧ decode cX10_meet 47 = .ok (.iconst 0, 1) ∧ decode cX10_meet 48 = .ok (.aload_n 0, 1) ∧ decode cX10_meet 49 = .ok (.getfield 19, 3) ∧ decode cX10_meet 52 = .ok (.iload_n 2, 1) ∧ decode cX10_meet 53 = .ok (.iaload, 1) := by decide +kernel
theorem zcdX10_meet_54 : decode cX10_meet 54 = .ok (.invokevirtual 329, 3) ∧ decode cX10_meet 57 = .ok (.bipush (-2), 2) ∧ decode cX10_meet 59 = .ok (.istore 4, 2) ∧ decode cX10_meet 61 = .ok (.bipush (-2), 2) ∧ decode cX10_meet 63 = .ok (.istore 5, 2) ∧ decode cX10_meet 65 = .ok (.iconst 0, 1) ∧ decode cX10_meet 66 = .ok (.istore 6, 2) ∧ decode cX10_meet 68 = .ok (.iload 6, 2) := by decide +kernel
theorem zcdX10_meet_70 : decode cX10_meet 70 = .ok (.bipush 40, 2) ∧ decode cX10_meet 72 = .ok (.if_icmp .ge 78, 3) ∧ decode cX10_meet 75 = .ok (.aload_n 0, 1) ∧ decode cX10_meet 76 = .ok (.getfield 77, 3) ∧ decode cX10_meet 79 = .ok (.iload 6, 2) ∧ decode cX10_meet 81 = .ok (.iaload, 1) ∧ decode cX10_meet 82 = .ok (.iconst (-1), 1) ∧ decode cX10_meet 83 = .ok (.if_icmp .eq 61, 3) := by decide +kernel
theorem zcdX10_meet_86 : decode cX10_meet 86 = .ok (.aload_n 0, 1) ∧ decode cX10_meet 87 = .ok (.getfield 80, 3) ∧ decode cX10_meet 90 = .ok (.iload 6, 2) ∧ decode cX10_meet 92 = .ok (.iaload, 1) ∧ decode cX10_meet 93 = .ok (.iconst (-1), 1) ∧ decode cX10_meet 94 = .ok (.if_icmp .ne 6, 3) ∧ decode cX10_meet 97 = .ok (.goto 47, 3) ∧ decode cX10_meet 100 = .ok (.aload_n 0, 1) := by decide +kernel
theorem zcdX10_meet_101 : decode cX10_meet 101 = .ok (.getfield 77, 3) ∧ decode cX10_meet 104 = .ok (.iload 6, 2) ∧ decode cX10_meet 106 = .ok (.iaload, 1) ∧ decode cX10_meet 107 = .ok (.aload_n 0, 1) ∧ decode cX10_meet 108 = .ok (.getfield 80, 3) ∧ decode cX10_meet 111 = .ok (.iload 6, 2) ∧ decode cX10_meet 113 = .ok (.iaload, 1) ∧ decode cX10_meet 114 = .ok (.invokestatic 129, 3) := by decide +kernel
theorem zcdX10_meet_117 : decode cX10_meet 117 = .ok (.istore 7, 2) ∧ decode cX10_meet 119 = .ok (.iload 4, 2) ∧ decode cX10_meet 121 = .ok (.bipush (-2), 2) ∧ decode cX10_meet 123 = .ok (.if_icmp .eq 13, 3) ∧ decode cX10_meet 126 = .ok (.iload 7, 2) ∧ decode cX10_meet 128 = .ok (.iload 5, 2) ∧ decode cX10_meet 130 = .ok (.if_icmp .lt 6, 3) ∧ decode cX10_meet 133 = .ok (.goto 11, 3) := by decide +kernel
theorem zcdX10_meet_136 : decode cX10_meet 136 = .ok (.iload 6, 2) ∧ decode cX10_meet 138 = .ok (.istore 4, 2) ∧ decode cX10_meet 140 = .ok (.iload 7, 2) ∧ decode cX10_meet 142 = .ok (.istore 5, 2) ∧ decode cX10_meet 144 = .ok (.iinc 6 1, 3) ∧ decode cX10_meet 147 = .ok (.goto (-79), 3) ∧ decode cX10_meet 150 = .ok (.iload_n 3, 1) ∧ decode cX10_meet 151 = .ok (.ifCond .ne 8, 3) := by decide +kernel
theorem zcdX10_meet_154 : decode cX10_meet 154 = .ok (.iload 5, 2) ∧ decode cX10_meet 156 = .ok (.goto 5, 3) ∧ decode cX10_meet 159 = .ok (.iload 4, 2) ∧ decode cX10_meet 161 = .ok (.ireturn, 1) ∧ decode cX10_mostInLine 0 = .ok (.iconst 2, 1) ∧ decode cX10_mostInLine 1 = .ok (.aload_n 0, 1) ∧ decode cX10_mostInLine 2 = .ok (.iconst 0, 1) ∧ decode cX10_mostInLine 3 = .ok (.invokevirtual 312, 3) := by decide +kernel
theorem zcdX10_mostInLine_6 : decode cX10_mostInLine 6 = .ok (.invokestatic 125, 3) ∧ decode cX10_mostInLine 9 = .ok (.istore_n 1, 1) ∧ decode cX10_mostInLine 10 = .ok (.iconst 0, 1) ∧ decode cX10_mostInLine 11 = .ok (.istore_n 2, 1) ∧ decode cX10_mostInLine 12 = .ok (.iload_n 2, 1) ∧ decode cX10_mostInLine 13 = .ok (.bipush 40, 2) ∧ decode cX10_mostInLine 15 = .ok (.if_icmp .ge 93, 3) ∧ decode cX10_mostInLine 18 = .ok (.iconst 0, 1) := by decide +kernel
theorem zcdX10_mostInLine_19 : decode cX10_mostInLine 19 = .ok (.istore_n 3, 1) ∧ decode cX10_mostInLine 20 = .ok (.iload_n 3, 1) ∧ decode cX10_mostInLine 21 = .ok (.iload_n 2, 1) ∧ decode cX10_mostInLine 22 = .ok (.if_icmp .ge 80, 3) ∧ decode cX10_mostInLine 25 = .ok (.aload_n 0, 1) ∧ decode cX10_mostInLine 26 = .ok (.iload_n 2, 1) ∧ decode cX10_mostInLine 27 = .ok (.invokevirtual 154, 3) ∧ decode cX10_mostInLine 30 = .ok (.ifCond .eq 66, 3) := by decide +kernel
theorem zcdX10_mostInLine_33 : decode cX10_mostInLine 33 = .ok (.aload_n 0, 1) ∧ decode cX10_mostInLine 34 = .ok (.iload_n 3, 1) ∧ decode cX10_mostInLine 35 = .ok (.invokevirtual 154, 3) ∧ decode cX10_mostInLine 38 = .ok (.ifCond .ne 6, 3) ∧ decode cX10_mostInLine 41 = .ok (.goto 55, 3) ∧ decode cX10_mostInLine 44 = .ok (.iconst 0, 1) ∧ decode cX10_mostInLine 45 = .ok (.istore 4, 2) ∧ decode cX10_mostInLine 47 = .ok (.iconst 0, 1) := by decide +kernel
theorem zcdX10_mostInLine_48 : decode cX10_mostInLine 48 = .ok (.istore 5, 2) ∧ decode cX10_mostInLine 50 = .ok (.iload 5, 2) ∧ decode cX10_mostInLine 52 = .ok (.bipush 40, 2) ∧ decode cX10_mostInLine 54 = .ok (.if_icmp .ge 35, 3) ∧ decode cX10_mostInLine 57 = .ok (.aload_n 0, 1) ∧ decode cX10_mostInLine 58 = .ok (.iload 5, 2) ∧ decode cX10_mostInLine 60 = .ok (.invokevirtual 154, 3) ∧ decode cX10_mostInLine 63 = .ok (.ifCond .eq 20, 3) := by decide +kernel
theorem zcdX10_mostInLine_66 : decode cX10_mostInLine 66 = .ok (.aload_n 0, 1) ∧ decode cX10_mostInLine 67 = .ok (.iload_n 2, 1) ∧ decode cX10_mostInLine 68 = .ok (.iload_n 3, 1) ∧ decode cX10_mostInLine 69 = .ok (.iload 5, 2) ∧ decode cX10_mostInLine 71 = .ok (.invokevirtual 396, 3) ∧ decode cX10_mostInLine 74 = .ok (.ifCond .eq 9, 3) ∧ decode cX10_mostInLine 77 = .ok (.iload 4, 2) ∧ decode cX10_mostInLine 79 = .ok (.iconst 1, 1) := by decide +kernel
theorem zcdX10_mostInLine_80 : decode cX10_mostInLine 80 = .ok (.iadd, 1) ∧ decode cX10_mostInLine 81 = .ok (.istore 4, 2) ∧ decode cX10_mostInLine 83 = .ok (.iinc 5 1, 3) ∧ decode cX10_mostInLine 86 = .ok (.goto (-36), 3) ∧ decode cX10_mostInLine 89 = .ok (.iload_n 1, 1) ∧ decode cX10_mostInLine 90 = .ok (.iload 4, 2) ∧ decode cX10_mostInLine 92 = .ok (.invokestatic 129, 3) ∧ decode cX10_mostInLine 95 = .ok (.istore_n 1, 1) := by decide +kernel
theorem zcdX10_mostInLine_96 : decode cX10_mostInLine 96 = .ok (.iinc 3 1, 3) ∧ decode cX10_mostInLine 99 = .ok (.goto (-79), 3) ∧ decode cX10_mostInLine 102 = .ok (.iinc 2 1, 3) ∧ decode cX10_mostInLine 105 = .ok (.goto (-93), 3) ∧ decode cX10_mostInLine 108 = .ok (.iload_n 1, 1) ∧ decode cX10_mostInLine 109 = .ok (.ireturn, 1) ∧ decode cX10_nights 0 = .ok (.iload_n 1, 1) ∧ decode cX10_nights 1 = .ok (.iconst 1, 1) := by decide +kernel
theorem zcdX10_nights_2 : decode cX10_nights 2 = .ok (.bipush 60, 2) ∧ decode cX10_nights 4 = .ok (.invokestatic 132, 3) ∧ decode cX10_nights 7 = .ok (.ifCond .ne 5, 3) ∧ decode cX10_nights 10 = .ok (.iconst (-1), 1) ∧ decode cX10_nights 11 = .ok (.ireturn, 1) ∧ decode cX10_nights 12 = .ok (.aload_n 0, 1) ∧ decode cX10_nights 13 = .ok (.iload_n 1, 1) ∧ decode cX10_nights 14 = .ok (.invokevirtual 308, 3) := by decide +kernel
theorem zcdX10_nights_17 : decode cX10_nights 17 = .ok (.aload_n 0, 1) ∧ decode cX10_nights 18 = .ok (.getfield 293, 3) ∧ decode cX10_nights 21 = .ok (.ireturn, 1) ∧ decode cX10_readsAmount 0 = .ok (.aload_n 0, 1) ∧ decode cX10_readsAmount 1 = .ok (.getfield 165, 3) ∧ decode cX10_readsAmount 4 = .ok (.istore_n 1, 1) ∧ decode cX10_readsAmount 5 = .ok (.aload_n 0, 1) ∧ decode cX10_readsAmount 6 = .ok (.invokevirtual 184, 3) := by decide +kernel
theorem zcdX10_readsAmount_9 : decode cX10_readsAmount 9 = .ok (.ifCond .ne 13, 3) ∧ decode cX10_readsAmount 12 = .ok (.aload_n 0, 1) ∧ decode cX10_readsAmount 13 = .ok (.iconst 1, 1) ∧ decode cX10_readsAmount 14 = .ok (.aload_n 0, 1) ∧ decode cX10_readsAmount 15 = .ok (.getfield 165, 3) ∧ decode cX10_readsAmount 18 = .ok (.invokevirtual 178, 3) ∧ decode cX10_readsAmount 21 = .ok (.ireturn, 1) ∧ decode cX10_readsAmount 22 = .ok (.aload_n 0, 1) := by decide +kernel
theorem zcdX10_readsAmount_23 : decode cX10_readsAmount 23 = .ok (.iconst 0, 1) ∧ decode cX10_readsAmount 24 = .ok (.putfield 181, 3) ∧ decode cX10_readsAmount 27 = .ok (.aload_n 0, 1) ∧ decode cX10_readsAmount 28 = .ok (.invokevirtual 184, 3) ∧ decode cX10_readsAmount 31 = .ok (.ifCond .eq 55, 3) ∧ decode cX10_readsAmount 34 = .ok (.aload_n 0, 1) ∧ decode cX10_readsAmount 35 = .ok (.getfield 165, 3) ∧ decode cX10_readsAmount 38 = .ok (.iload_n 1, 1) := by decide +kernel
theorem zcdX10_readsAmount_39 : decode cX10_readsAmount 39 = .ok (.iconst 2, 1) ∧ decode cX10_readsAmount 40 = .ok (.iadd, 1) ∧ decode cX10_readsAmount 41 = .ok (.if_icmp .ne 13, 3) ∧ decode cX10_readsAmount 44 = .ok (.aload_n 0, 1) ∧ decode cX10_readsAmount 45 = .ok (.iconst 2, 1) ∧ decode cX10_readsAmount 46 = .ok (.aload_n 0, 1) ∧ decode cX10_readsAmount 47 = .ok (.getfield 165, 3) ∧ decode cX10_readsAmount 50 = .ok (.invokevirtual 178, 3) := by decide +kernel
theorem zcdX10_readsAmount_53 : decode cX10_readsAmount 53 = .ok (.ireturn, 1) ∧ decode cX10_readsAmount 54 = .ok (.aload_n 0, 1) ∧ decode cX10_readsAmount 55 = .ok (.bipush 10, 2) ∧ decode cX10_readsAmount 57 = .ok (.aload_n 0, 1) ∧ decode cX10_readsAmount 58 = .ok (.getfield 181, 3) ∧ decode cX10_readsAmount 61 = .ok (.imul, 1) ∧ decode cX10_readsAmount 62 = .ok (.aload_n 0, 1) ∧ decode cX10_readsAmount 63 = .ok (.invokevirtual 171, 3) := by decide +kernel
theorem zcdX10_readsAmount_66 : decode cX10_readsAmount 66 = .ok (.iadd, 1) ∧ decode cX10_readsAmount 67 = .ok (.bipush 48, 2) ∧ decode cX10_readsAmount 69 = .ok (.isub, 1) ∧ decode cX10_readsAmount 70 = .ok (.putfield 181, 3) ∧ decode cX10_readsAmount 73 = .ok (.aload_n 0, 1) ∧ decode cX10_readsAmount 74 = .ok (.aload_n 0, 1) ∧ decode cX10_readsAmount 75 = .ok (.getfield 165, 3) ∧ decode cX10_readsAmount 78 = .ok (.iconst 1, 1) := by decide +kernel
theorem zcdX10_readsAmount_79 : decode cX10_readsAmount 79 = .ok (.iadd, 1) ∧ decode cX10_readsAmount 80 = .ok (.putfield 165, 3) ∧ decode cX10_readsAmount 83 = .ok (.goto (-56), 3) ∧ decode cX10_readsAmount 86 = .ok (.iconst 1, 1) ∧ decode cX10_readsAmount 87 = .ok (.ireturn, 1) ∧ decode cX10_readsBetween 0 = .ok (.aload_n 0, 1) ∧ decode cX10_readsBetween 1 = .ok (.getfield 165, 3) ∧ decode cX10_readsBetween 4 = .ok (.istore_n 3, 1) := by decide +kernel
theorem zcdX10_readsBetween_5 : decode cX10_readsBetween 5 = .ok (.aload_n 0, 1) ∧ decode cX10_readsBetween 6 = .ok (.invokevirtual 271, 3) ∧ decode cX10_readsBetween 9 = .ok (.ifCond .ne 5, 3) ∧ decode cX10_readsBetween 12 = .ok (.iconst 0, 1) ∧ decode cX10_readsBetween 13 = .ok (.ireturn, 1) ∧ decode cX10_readsBetween 14 = .ok (.aload_n 0, 1) ∧ decode cX10_readsBetween 15 = .ok (.getfield 181, 3) ∧ decode cX10_readsBetween 18 = .ok (.iload_n 1, 1) := by decide +kernel
theorem zcdX10_readsBetween_19 : decode cX10_readsBetween 19 = .ok (.iload_n 2, 1) ∧ decode cX10_readsBetween 20 = .ok (.invokestatic 132, 3) ∧ decode cX10_readsBetween 23 = .ok (.ifCond .ne 12, 3) ∧ decode cX10_readsBetween 26 = .ok (.aload_n 0, 1) ∧ decode cX10_readsBetween 27 = .ok (.iconst 3, 1) ∧ decode cX10_readsBetween 28 = .ok (.iload_n 3, 1) ∧ decode cX10_readsBetween 29 = .ok (.invokevirtual 178, 3) ∧ decode cX10_readsBetween 32 = .ok (.ifCond .eq 7, 3) := by decide +kernel
theorem zcdX10_readsBetween_35 : decode cX10_readsBetween 35 = .ok (.iconst 1, 1) ∧ decode cX10_readsBetween 36 = .ok (.goto 4, 3) ∧ decode cX10_readsBetween 39 = .ok (.iconst 0, 1) ∧ decode cX10_readsBetween 40 = .ok (.ireturn, 1) ∧ decode cX10_readsLine 0 = .ok (.aload_n 0, 1) ∧ decode cX10_readsLine 1 = .ok (.getfield 165, 3) ∧ decode cX10_readsLine 4 = .ok (.istore_n 1, 1) ∧ decode cX10_readsLine 5 = .ok (.aload_n 0, 1) := by decide +kernel
theorem zcdX10_readsLine_6 : decode cX10_readsLine 6 = .ok (.invokevirtual 184, 3) ∧ decode cX10_readsLine 9 = .ok (.ifCond .ne 13, 3) ∧ decode cX10_readsLine 12 = .ok (.aload_n 0, 1) ∧ decode cX10_readsLine 13 = .ok (.iconst 1, 1) ∧ decode cX10_readsLine 14 = .ok (.aload_n 0, 1) ∧ decode cX10_readsLine 15 = .ok (.getfield 165, 3) ∧ decode cX10_readsLine 18 = .ok (.invokevirtual 178, 3) ∧ decode cX10_readsLine 21 = .ok (.ireturn, 1) := by decide +kernel
theorem zcdX10_readsLine_22 : decode cX10_readsLine 22 = .ok (.aload_n 0, 1) ∧ decode cX10_readsLine 23 = .ok (.getfield 274, 3) ∧ decode cX10_readsLine 26 = .ok (.bipush 40, 2) ∧ decode cX10_readsLine 28 = .ok (.if_icmp .ne 13, 3) ∧ decode cX10_readsLine 31 = .ok (.aload_n 0, 1) ∧ decode cX10_readsLine 32 = .ok (.iconst 4, 1) ∧ decode cX10_readsLine 33 = .ok (.aload_n 0, 1) ∧ decode cX10_readsLine 34 = .ok (.getfield 165, 3) := by decide +kernel
theorem zcdX10_readsLine_37 : decode cX10_readsLine 37 = .ok (.invokevirtual 178, 3) ∧ decode cX10_readsLine 40 = .ok (.ireturn, 1) ∧ decode cX10_readsLine 41 = .ok (.aload_n 0, 1) ∧ decode cX10_readsLine 42 = .ok (.iconst 0, 1) ∧ decode cX10_readsLine 43 = .ok (.bipush 39, 2) ∧ decode cX10_readsLine 45 = .ok (.invokevirtual 277, 3) ∧ decode cX10_readsLine 48 = .ok (.ifCond .ne 5, 3) ∧ decode cX10_readsLine 51 = .ok (.iconst 0, 1) := by decide +kernel
theorem zcdX10_readsLine_52 : decode cX10_readsLine 52 = .ok (.ireturn, 1) ∧ decode cX10_readsLine 53 = .ok (.aload_n 0, 1) ∧ decode cX10_readsLine 54 = .ok (.getfield 65, 3) ∧ decode cX10_readsLine 57 = .ok (.aload_n 0, 1) ∧ decode cX10_readsLine 58 = .ok (.getfield 274, 3) ∧ decode cX10_readsLine 61 = .ok (.aload_n 0, 1) ∧ decode cX10_readsLine 62 = .ok (.getfield 181, 3) ∧ decode cX10_readsLine 65 = .ok (.iastore, 1) := by decide +kernel
theorem zcdX10_readsLine_66 : decode cX10_readsLine 66 = .ok (.aload_n 0, 1) ∧ decode cX10_readsLine 67 = .ok (.bipush 44, 2) ∧ decode cX10_readsLine 69 = .ok (.invokevirtual 255, 3) ∧ decode cX10_readsLine 72 = .ok (.ifCond .eq 13, 3) ∧ decode cX10_readsLine 75 = .ok (.aload_n 0, 1) ∧ decode cX10_readsLine 76 = .ok (.iconst 1, 1) ∧ decode cX10_readsLine 77 = .ok (.bipush 20, 2) ∧ decode cX10_readsLine 79 = .ok (.invokevirtual 277, 3) := by decide +kernel
theorem zcdX10_readsLine_82 : decode cX10_readsLine 82 = .ok (.ifCond .ne 5, 3) ∧ decode cX10_readsLine 85 = .ok (.iconst 0, 1) ∧ decode cX10_readsLine 86 = .ok (.ireturn, 1) ∧ decode cX10_readsLine 87 = .ok (.aload_n 0, 1) ∧ decode cX10_readsLine 88 = .ok (.getfield 68, 3) ∧ decode cX10_readsLine 91 = .ok (.aload_n 0, 1) ∧ decode cX10_readsLine 92 = .ok (.getfield 274, 3) ∧ decode cX10_readsLine 95 = .ok (.aload_n 0, 1) := by decide +kernel
theorem zcdX10_readsLine_96 : decode cX10_readsLine 96 = .ok (.getfield 181, 3) ∧ decode cX10_readsLine 99 = .ok (.iastore, 1) ∧ decode cX10_readsLine 100 = .ok (.iconst 0, 1) ∧ decode cX10_readsLine 101 = .ok (.istore_n 2, 1) ∧ decode cX10_readsLine 102 = .ok (.iload_n 2, 1) ∧ decode cX10_readsLine 103 = .ok (.aload_n 0, 1) ∧ decode cX10_readsLine 104 = .ok (.getfield 274, 3) ∧ decode cX10_readsLine 107 = .ok (.if_icmp .ge 53, 3) := by decide +kernel
theorem zcdX10_readsLine_110 : decode cX10_readsLine 110 = .ok (.aload_n 0, 1) ∧ decode cX10_readsLine 111 = .ok (.getfield 65, 3) ∧ decode cX10_readsLine 114 = .ok (.iload_n 2, 1) ∧ decode cX10_readsLine 115 = .ok (.iaload, 1) ∧ decode cX10_readsLine 116 = .ok (.aload_n 0, 1) ∧ decode cX10_readsLine 117 = .ok (.getfield 65, 3) ∧ decode cX10_readsLine 120 = .ok (.aload_n 0, 1) ∧ decode cX10_readsLine 121 = .ok (.getfield 274, 3) := by decide +kernel
theorem zcdX10_readsLine_124 : decode cX10_readsLine 124 = .ok (.iaload, 1) ∧ decode cX10_readsLine 125 = .ok (.if_icmp .ne 29, 3) ∧ decode cX10_readsLine 128 = .ok (.aload_n 0, 1) ∧ decode cX10_readsLine 129 = .ok (.getfield 68, 3) ∧ decode cX10_readsLine 132 = .ok (.iload_n 2, 1) ∧ decode cX10_readsLine 133 = .ok (.iaload, 1) ∧ decode cX10_readsLine 134 = .ok (.aload_n 0, 1) ∧ decode cX10_readsLine 135 = .ok (.getfield 68, 3) := by decide +kernel
theorem zcdX10_readsLine_138 : decode cX10_readsLine 138 = .ok (.aload_n 0, 1) ∧ decode cX10_readsLine 139 = .ok (.getfield 274, 3) ∧ decode cX10_readsLine 142 = .ok (.iaload, 1) ∧ decode cX10_readsLine 143 = .ok (.if_icmp .ne 11, 3) ∧ decode cX10_readsLine 146 = .ok (.aload_n 0, 1) ∧ decode cX10_readsLine 147 = .ok (.bipush 6, 2) ∧ decode cX10_readsLine 149 = .ok (.iload_n 1, 1) ∧ decode cX10_readsLine 150 = .ok (.invokevirtual 178, 3) := by decide +kernel
theorem zcdX10_readsLine_153 : decode cX10_readsLine 153 = .ok (.ireturn, 1) ∧ decode cX10_readsLine 154 = .ok (.iinc 2 1, 3) ∧ decode cX10_readsLine 157 = .ok (.goto (-55), 3) ∧ decode cX10_readsLine 160 = .ok (.aload_n 0, 1) ∧ decode cX10_readsLine 161 = .ok (.getfield 71, 3) ∧ decode cX10_readsLine 164 = .ok (.aload_n 0, 1) ∧ decode cX10_readsLine 165 = .ok (.getfield 274, 3) ∧ decode cX10_readsLine 168 = .ok (.iconst 0, 1) := by decide +kernel
theorem zcdX10_readsLine_169 : decode cX10_readsLine 169 = .ok (.iastore, 1) ∧ decode cX10_readsLine 170 = .ok (.aload_n 0, 1) ∧ decode cX10_readsLine 171 = .ok (.getfield 74, 3) ∧ decode cX10_readsLine 174 = .ok (.aload_n 0, 1) ∧ decode cX10_readsLine 175 = .ok (.getfield 274, 3) ∧ decode cX10_readsLine 178 = .ok (.iconst 0, 1) ∧ decode cX10_readsLine 179 = .ok (.iastore, 1) ∧ decode cX10_readsLine 180 = .ok (.aload_n 0, 1) := by decide +kernel
theorem zcdX10_readsLine_181 : decode cX10_readsLine 181 = .ok (.invokevirtual 171, 3) ∧ decode cX10_readsLine 184 = .ok (.bipush 115, 2) ∧ decode cX10_readsLine 186 = .ok (.if_icmp .ne 56, 3) ∧ decode cX10_readsLine 189 = .ok (.aload_n 0, 1) ∧ decode cX10_readsLine 190 = .ok (.aload_n 0, 1) ∧ decode cX10_readsLine 191 = .ok (.getfield 165, 3) ∧ decode cX10_readsLine 194 = .ok (.iconst 1, 1) ∧ decode cX10_readsLine 195 = .ok (.iadd, 1) := by decide +kernel
theorem zcdX10_readsLine_196 : decode cX10_readsLine 196 = .ok (.putfield 165, 3) ∧ decode cX10_readsLine 199 = .ok (.aload_n 0, 1) ∧ decode cX10_readsLine 200 = .ok (.invokevirtual 184, 3) ∧ decode cX10_readsLine 203 = .ok (.ifCond .ne 13, 3) ∧ decode cX10_readsLine 206 = .ok (.aload_n 0, 1) ∧ decode cX10_readsLine 207 = .ok (.iconst 1, 1) ∧ decode cX10_readsLine 208 = .ok (.aload_n 0, 1) ∧ decode cX10_readsLine 209 = .ok (.getfield 165, 3) := by decide +kernel
theorem zcdX10_readsLine_212 : decode cX10_readsLine 212 = .ok (.invokevirtual 178, 3) ∧ decode cX10_readsLine 215 = .ok (.ireturn, 1) ∧ decode cX10_readsLine 216 = .ok (.aload_n 0, 1) ∧ decode cX10_readsLine 217 = .ok (.getfield 71, 3) ∧ decode cX10_readsLine 220 = .ok (.aload_n 0, 1) ∧ decode cX10_readsLine 221 = .ok (.getfield 274, 3) ∧ decode cX10_readsLine 224 = .ok (.aload_n 0, 1) ∧ decode cX10_readsLine 225 = .ok (.invokevirtual 171, 3) := by decide +kernel
theorem zcdX10_readsLine_228 : decode cX10_readsLine 228 = .ok (.bipush 48, 2) ∧ decode cX10_readsLine 230 = .ok (.isub, 1) ∧ decode cX10_readsLine 231 = .ok (.iastore, 1) ∧ decode cX10_readsLine 232 = .ok (.aload_n 0, 1) ∧ decode cX10_readsLine 233 = .ok (.aload_n 0, 1) ∧ decode cX10_readsLine 234 = .ok (.getfield 165, 3) ∧ decode cX10_readsLine 237 = .ok (.iconst 1, 1) ∧ decode cX10_readsLine 238 = .ok (.iadd, 1) := by decide +kernel
theorem zcdX10_readsLine_239 : decode cX10_readsLine 239 = .ok (.putfield 165, 3) ∧ decode cX10_readsLine 242 = .ok (.aload_n 0, 1) ∧ decode cX10_readsLine 243 = .ok (.invokevirtual 171, 3) ∧ decode cX10_readsLine 246 = .ok (.bipush 117, 2) ∧ decode cX10_readsLine 248 = .ok (.if_icmp .ne 23, 3) ∧ decode cX10_readsLine 251 = .ok (.aload_n 0, 1) ∧ decode cX10_readsLine 252 = .ok (.aload_n 0, 1) ∧ decode cX10_readsLine 253 = .ok (.getfield 165, 3) := by decide +kernel
theorem zcdX10_readsLine_256 : decode cX10_readsLine 256 = .ok (.iconst 1, 1) ∧ decode cX10_readsLine 257 = .ok (.iadd, 1) ∧ decode cX10_readsLine 258 = .ok (.putfield 165, 3) ∧ decode cX10_readsLine 261 = .ok (.aload_n 0, 1) ∧ decode cX10_readsLine 262 = .ok (.getfield 74, 3) ∧ decode cX10_readsLine 265 = .ok (.aload_n 0, 1) ∧ decode cX10_readsLine 266 = .ok (.getfield 274, 3) ∧ decode cX10_readsLine 269 = .ok (.iconst 1, 1) := by decide +kernel
theorem zcdX10_readsLine_270 : decode cX10_readsLine 270 = .ok (.iastore, 1) ∧ decode cX10_readsLine 271 = .ok (.aload_n 0, 1) ∧ decode cX10_readsLine 272 = .ok (.aload_n 0, 1) ∧ decode cX10_readsLine 273 = .ok (.getfield 274, 3) ∧ decode cX10_readsLine 276 = .ok (.iconst 1, 1) ∧ decode cX10_readsLine 277 = .ok (.iadd, 1) ∧ decode cX10_readsLine 278 = .ok (.putfield 274, 3) ∧ decode cX10_readsLine 281 = .ok (.iconst 1, 1) := by decide +kernel
theorem zcdX10_readsLine_282 : decode cX10_readsLine 282 = .ok (.ireturn, 1) ∧ decode cX10_notebook 0 = .ok (.iload_n 1, 1) ∧ decode cX10_notebook 1 = .ok (.iconst 1, 1) ∧ decode cX10_notebook 2 = .ok (.sipush 200, 3) ∧ decode cX10_notebook 5 = .ok (.invokestatic 132, 3) ∧ decode cX10_notebook 8 = .ok (.ifCond .eq 11, 3) ∧ decode cX10_notebook 11 = .ok (.iload_n 1, 1) ∧ decode cX10_notebook 12 = .ok (.aload_n 0, 1) := by decide +kernel
theorem zcdX10_notebook_13 : decode cX10_notebook 13 = .ok (.getfield 158, 3) ∧ decode cX10_notebook 16 = .ok (.if_icmp .le 5, 3) ∧ decode cX10_notebook 19 = .ok (.iconst (-1), 1) ∧ decode cX10_notebook 20 = .ok (.ireturn, 1) ∧ decode cX10_notebook 21 = .ok (.aload_n 0, 1) ∧ decode cX10_notebook 22 = .ok (.iload_n 1, 1) ∧ decode cX10_notebook 23 = .ok (.invokevirtual 249, 3) ∧ decode cX10_notebook 26 = .ok (.aload_n 0, 1) := by decide +kernel
theorem zcdX10_notebook_27 : decode cX10_notebook 27 = .ok (.iconst 0, 1) ∧ decode cX10_notebook 28 = .ok (.putfield 274, 3) ∧ decode cX10_notebook 31 = .ok (.aload_n 0, 1) ∧ decode cX10_notebook 32 = .ok (.invokevirtual 280, 3) ∧ decode cX10_notebook 35 = .ok (.istore_n 2, 1) ∧ decode cX10_notebook 36 = .ok (.iload_n 2, 1) ∧ decode cX10_notebook 37 = .ok (.ifCond .eq 39, 3) ∧ decode cX10_notebook 40 = .ok (.aload_n 0, 1) := by decide +kernel
theorem zcdX10_notebook_41 : decode cX10_notebook 41 = .ok (.getfield 165, 3) ∧ decode cX10_notebook 44 = .ok (.aload_n 0, 1) ∧ decode cX10_notebook 45 = .ok (.getfield 168, 3) ∧ decode cX10_notebook 48 = .ok (.if_icmp .ge 28, 3) ∧ decode cX10_notebook 51 = .ok (.aload_n 0, 1) ∧ decode cX10_notebook 52 = .ok (.bipush 59, 2) ∧ decode cX10_notebook 54 = .ok (.invokevirtual 255, 3) ∧ decode cX10_notebook 57 = .ok (.ifCond .eq 14, 3) := by decide +kernel
theorem zcdX10_notebook_60 : decode cX10_notebook 60 = .ok (.aload_n 0, 1) ∧ decode cX10_notebook 61 = .ok (.invokevirtual 280, 3) ∧ decode cX10_notebook 64 = .ok (.ifCond .eq 7, 3) ∧ decode cX10_notebook 67 = .ok (.iconst 1, 1) ∧ decode cX10_notebook 68 = .ok (.goto 4, 3) ∧ decode cX10_notebook 71 = .ok (.iconst 0, 1) ∧ decode cX10_notebook 72 = .ok (.istore_n 2, 1) ∧ decode cX10_notebook 73 = .ok (.goto (-37), 3) := by decide +kernel
theorem zcdX10_notebook_76 : decode cX10_notebook 76 = .ok (.aload_n 0, 1) ∧ decode cX10_notebook 77 = .ok (.iconst 0, 1) ∧ decode cX10_notebook 78 = .ok (.putfield 158, 3) ∧ decode cX10_notebook 81 = .ok (.iload_n 2, 1) ∧ decode cX10_notebook 82 = .ok (.ifCond .ne 8, 3) ∧ decode cX10_notebook 85 = .ok (.aload_n 0, 1) ∧ decode cX10_notebook 86 = .ok (.getfield 175, 3) ∧ decode cX10_notebook 89 = .ok (.ireturn, 1) := by decide +kernel
theorem zcdX10_notebook_90 : decode cX10_notebook 90 = .ok (.iconst 0, 1) ∧ decode cX10_notebook 91 = .ok (.istore_n 3, 1) ∧ decode cX10_notebook 92 = .ok (.iload_n 3, 1) ∧ decode cX10_notebook 93 = .ok (.bipush 40, 2) ∧ decode cX10_notebook 95 = .ok (.if_icmp .ge 18, 3) ∧ decode cX10_notebook 98 = .ok (.aload_n 0, 1) ∧ decode cX10_notebook 99 = .ok (.getfield 7, 3) ∧ decode cX10_notebook 102 = .ok (.iconst 0, 1) := by decide +kernel
theorem zcdX10_notebook_103 : decode cX10_notebook 103 = .ok (.iload_n 3, 1) ∧ decode cX10_notebook 104 = .ok (.iadd, 1) ∧ decode cX10_notebook 105 = .ok (.iconst 0, 1) ∧ decode cX10_notebook 106 = .ok (.iastore, 1) ∧ decode cX10_notebook 107 = .ok (.iinc 3 1, 3) ∧ decode cX10_notebook 110 = .ok (.goto (-18), 3) ∧ decode cX10_notebook 113 = .ok (.iconst 0, 1) ∧ decode cX10_notebook 114 = .ok (.istore_n 3, 1) := by decide +kernel
theorem zcdX10_notebook_115 : decode cX10_notebook 115 = .ok (.iload_n 3, 1) ∧ decode cX10_notebook 116 = .ok (.aload_n 0, 1) ∧ decode cX10_notebook 117 = .ok (.getfield 274, 3) ∧ decode cX10_notebook 120 = .ok (.if_icmp .ge 38, 3) ∧ decode cX10_notebook 123 = .ok (.aload_n 0, 1) ∧ decode cX10_notebook 124 = .ok (.iload_n 3, 1) ∧ decode cX10_notebook 125 = .ok (.aload_n 0, 1) ∧ decode cX10_notebook 126 = .ok (.getfield 65, 3) := by decide +kernel
theorem zcdX10_notebook_129 : decode cX10_notebook 129 = .ok (.iload_n 3, 1) ∧ decode cX10_notebook 130 = .ok (.iaload, 1) ∧ decode cX10_notebook 131 = .ok (.aload_n 0, 1) ∧ decode cX10_notebook 132 = .ok (.getfield 68, 3) ∧ decode cX10_notebook 135 = .ok (.iload_n 3, 1) ∧ decode cX10_notebook 136 = .ok (.iaload, 1) ∧ decode cX10_notebook 137 = .ok (.aload_n 0, 1) ∧ decode cX10_notebook 138 = .ok (.getfield 71, 3) := by decide +kernel
theorem zcdX10_notebook_141 : decode cX10_notebook 141 = .ok (.iload_n 3, 1) ∧ decode cX10_notebook 142 = .ok (.iaload, 1) ∧ decode cX10_notebook 143 = .ok (.aload_n 0, 1) ∧ decode cX10_notebook 144 = .ok (.getfield 74, 3) ∧ decode cX10_notebook 147 = .ok (.iload_n 3, 1) ∧ decode cX10_notebook 148 = .ok (.iaload, 1) ∧ decode cX10_notebook 149 = .ok (.invokevirtual 150, 3) ∧ decode cX10_notebook 152 = .ok (.iinc 3 1, 3) := by decide +kernel
theorem zcdX10_notebook_155 : decode cX10_notebook 155 = .ok (.goto (-40), 3) ∧ decode cX10_notebook 158 = .ok (.aload_n 0, 1) ∧ decode cX10_notebook 159 = .ok (.getfield 274, 3) ∧ decode cX10_notebook 162 = .ok (.ireturn, 1) ∧ decode cX10_wouldDo 0 = .ok (.iload_n 2, 1) ∧ decode cX10_wouldDo 1 = .ok (.iload_n 3, 1) ∧ decode cX10_wouldDo 2 = .ok (.if_icmp .gt 7, 3) ∧ decode cX10_wouldDo 5 = .ok (.iconst 1, 1) := by decide +kernel
theorem zcdX10_wouldDo_6 : decode cX10_wouldDo 6 = .ok (.goto 4, 3) ∧ decode cX10_wouldDo 9 = .ok (.iconst 0, 1) ∧ decode cX10_wouldDo 10 = .ok (.istore 4, 2) ∧ decode cX10_wouldDo 12 = .ok (.bipush 21, 2) ∧ decode cX10_wouldDo 14 = .ok (.iload_n 2, 1) ∧ decode cX10_wouldDo 15 = .ok (.isub, 1) ∧ decode cX10_wouldDo 16 = .ok (.iload_n 3, 1) ∧ decode cX10_wouldDo 17 = .ok (.if_icmp .gt 7, 3) := by decide +kernel
theorem zcdX10_wouldDo_20 : decode cX10_wouldDo 20 = .ok (.iconst 1, 1) ∧ decode cX10_wouldDo 21 = .ok (.goto 4, 3) ∧ decode cX10_wouldDo 24 = .ok (.iconst 0, 1) ∧ decode cX10_wouldDo 25 = .ok (.istore 5, 2) ∧ decode cX10_wouldDo 27 = .ok (.iconst 0, 1) ∧ decode cX10_wouldDo 28 = .ok (.istore 6, 2) ∧ decode cX10_wouldDo 30 = .ok (.iload 6, 2) ∧ decode cX10_wouldDo 32 = .ok (.bipush 40, 2) := by decide +kernel
theorem zcdX10_wouldDo_34 : decode cX10_wouldDo 34 = .ok (.if_icmp .ge 115, 3) ∧ decode cX10_wouldDo 37 = .ok (.aload_n 0, 1) ∧ decode cX10_wouldDo 38 = .ok (.iload 6, 2) ∧ decode cX10_wouldDo 40 = .ok (.invokevirtual 319, 3) ∧ decode cX10_wouldDo 43 = .ok (.ifCond .ne 6, 3) ∧ decode cX10_wouldDo 46 = .ok (.goto 97, 3) ∧ decode cX10_wouldDo 49 = .ok (.aload_n 0, 1) ∧ decode cX10_wouldDo 50 = .ok (.getfield 7, 3) := by decide +kernel
theorem zcdX10_wouldDo_53 : decode cX10_wouldDo 53 = .ok (.bipush 40, 2) ∧ decode cX10_wouldDo 55 = .ok (.iload 6, 2) ∧ decode cX10_wouldDo 57 = .ok (.iadd, 1) ∧ decode cX10_wouldDo 58 = .ok (.iaload, 1) ∧ decode cX10_wouldDo 59 = .ok (.iload_n 1, 1) ∧ decode cX10_wouldDo 60 = .ok (.isub, 1) ∧ decode cX10_wouldDo 61 = .ok (.istore 7, 2) ∧ decode cX10_wouldDo 63 = .ok (.aload_n 0, 1) := by decide +kernel
theorem zcdX10_wouldDo_64 : decode cX10_wouldDo 64 = .ok (.getfield 7, 3) ∧ decode cX10_wouldDo 67 = .ok (.bipush 80, 2) ∧ decode cX10_wouldDo 69 = .ok (.iload 6, 2) ∧ decode cX10_wouldDo 71 = .ok (.iadd, 1) ∧ decode cX10_wouldDo 72 = .ok (.iaload, 1) ∧ decode cX10_wouldDo 73 = .ok (.iload_n 2, 1) ∧ decode cX10_wouldDo 74 = .ok (.isub, 1) ∧ decode cX10_wouldDo 75 = .ok (.istore 8, 2) := by decide +kernel
theorem zcdX10_wouldDo_77 : decode cX10_wouldDo 77 = .ok (.iload 7, 2) ∧ decode cX10_wouldDo 79 = .ok (.iload 7, 2) ∧ decode cX10_wouldDo 81 = .ok (.imul, 1) ∧ decode cX10_wouldDo 82 = .ok (.iload 8, 2) ∧ decode cX10_wouldDo 84 = .ok (.iload 8, 2) ∧ decode cX10_wouldDo 86 = .ok (.imul, 1) ∧ decode cX10_wouldDo 87 = .ok (.iadd, 1) ∧ decode cX10_wouldDo 88 = .ok (.iload_n 3, 1) := by decide +kernel
theorem zcdX10_wouldDo_89 : decode cX10_wouldDo 89 = .ok (.iload_n 3, 1) ∧ decode cX10_wouldDo 90 = .ok (.imul, 1) ∧ decode cX10_wouldDo 91 = .ok (.if_icmp .le 6, 3) ∧ decode cX10_wouldDo 94 = .ok (.goto 49, 3) ∧ decode cX10_wouldDo 97 = .ok (.iload 4, 2) ∧ decode cX10_wouldDo 99 = .ok (.ifCond .ne 14, 3) ∧ decode cX10_wouldDo 102 = .ok (.aload_n 0, 1) ∧ decode cX10_wouldDo 103 = .ok (.getfield 77, 3) := by decide +kernel
theorem zcdX10_wouldDo_106 : decode cX10_wouldDo 106 = .ok (.iload 6, 2) ∧ decode cX10_wouldDo 108 = .ok (.iaload, 1) ∧ decode cX10_wouldDo 109 = .ok (.iconst (-1), 1) ∧ decode cX10_wouldDo 110 = .ok (.if_icmp .eq 7, 3) ∧ decode cX10_wouldDo 113 = .ok (.iconst 1, 1) ∧ decode cX10_wouldDo 114 = .ok (.goto 4, 3) ∧ decode cX10_wouldDo 117 = .ok (.iconst 0, 1) ∧ decode cX10_wouldDo 118 = .ok (.istore 4, 2) := by decide +kernel
theorem zcdX10_wouldDo_120 : decode cX10_wouldDo 120 = .ok (.iload 5, 2) ∧ decode cX10_wouldDo 122 = .ok (.ifCond .ne 14, 3) ∧ decode cX10_wouldDo 125 = .ok (.aload_n 0, 1) ∧ decode cX10_wouldDo 126 = .ok (.getfield 80, 3) ∧ decode cX10_wouldDo 129 = .ok (.iload 6, 2) ∧ decode cX10_wouldDo 131 = .ok (.iaload, 1) ∧ decode cX10_wouldDo 132 = .ok (.iconst (-1), 1) ∧ decode cX10_wouldDo 133 = .ok (.if_icmp .eq 7, 3) := by decide +kernel
theorem zcdX10_wouldDo_136 : decode cX10_wouldDo 136 = .ok (.iconst 1, 1) ∧ decode cX10_wouldDo 137 = .ok (.goto 4, 3) ∧ decode cX10_wouldDo 140 = .ok (.iconst 0, 1) ∧ decode cX10_wouldDo 141 = .ok (.istore 5, 2) ∧ decode cX10_wouldDo 143 = .ok (.iinc 6 1, 3) ∧ decode cX10_wouldDo 146 = .ok (.goto (-116), 3) ∧ decode cX10_wouldDo 149 = .ok (.iload 4, 2) ∧ decode cX10_wouldDo 151 = .ok (.ifCond .eq 12, 3) := by decide +kernel
theorem zcdX10_wouldDo_154 : decode cX10_wouldDo 154 = .ok (.iload 5, 2) ∧ decode cX10_wouldDo 156 = .ok (.ifCond .eq 7, 3) ∧ decode cX10_wouldDo 159 = .ok (.iconst 1, 1) ∧ decode cX10_wouldDo 160 = .ok (.goto 4, 3) ∧ decode cX10_wouldDo 163 = .ok (.iconst 0, 1) ∧ decode cX10_wouldDo 164 = .ok (.ireturn, 1) := by decide +kernel
set_option maxHeartbeats 4000000 in
theorem t_X10_meet (v1 : Int32) (v2 : Int32) (v3 : Int32) (M : Mem) : AXi yX10_meet cX10_meet 8 (some .int) 3 39 glM (fun ad => [.ref (ad 0), .int v1, .int v2, .int v3]) M (f_X10_meet M v1 v2 v3) := by
  intro r0 h
  refine AM.of (by decide) (fun _ => Nat.le_of_ble_eq_true rfl) (fun X ad cI cZ cB hX hR => ?_)
  show V X M [(0, .ref (ad 0)), (1, .int v1), (2, .int v2), (3, .int v3)] [] 0
  refine s_aload_n (k := 0) hX zcdX10_meet_0.1 rfl rfl ?_
  refine s_iload_n (k := 1) hX zcdX10_meet_0.2.1 rfl rfl ?_
  refine e_callVp hX (t_X10_isPerson v1 M) mX10_isPerson lX10_334 (by decide) (by decide) oM0 rfl rfl rfl rfl rfl (Nat.le_of_ble_eq_true rfl) zcdX10_meet_0.2.2.1 h (fun r_1 h => ?_)
  refine e_if_eq (tgt := 25) hX zcdX10_meet_0.2.2.2.1 (by decide) z_eq h (fun h => ?_) (fun h => ?_)
  · refine s_iconst (v := (-1)) hX zcdX10_meet_16.2.2.2.2.2.1 (by decide) ?_
    exact e_ireti hX hR zcdX10_meet_16.2.2.2.2.2.2.1 h
  · refine s_aload_n (k := 0) hX zcdX10_meet_0.2.2.2.2.1 rfl rfl ?_
    refine s_iload_n (k := 2) hX zcdX10_meet_0.2.2.2.2.2.1 rfl rfl ?_
    refine e_callVp hX (t_X10_isPerson v2 M) mX10_isPerson lX10_334 (by decide) (by decide) oM0 rfl rfl rfl rfl rfl (Nat.le_of_ble_eq_true rfl) zcdX10_meet_0.2.2.2.2.2.2.1 h (fun r_2 h => ?_)
    refine e_if_eq (tgt := 25) hX zcdX10_meet_0.2.2.2.2.2.2.2 (by decide) z_eq h (fun h => ?_) (fun h => ?_)
    · refine s_iconst (v := (-1)) hX zcdX10_meet_16.2.2.2.2.2.1 (by decide) ?_
      exact e_ireti hX hR zcdX10_meet_16.2.2.2.2.2.2.1 h
    · refine s_iload_n (k := 3) hX zcdX10_meet_16.1 rfl rfl ?_
      refine s_iconst (v := (nI 0)) hX zcdX10_meet_16.2.1 (by decide) ?_
      refine s_iconst (v := (nI 1)) hX zcdX10_meet_16.2.2.1 (by decide) ?_
      refine e_callSp hX (t_X10_in v3 (nI 0) (nI 1) M) mX10_in lX10_132 (by decide) (by decide) rfl rfl (Nat.le_of_ble_eq_true rfl) zcdX10_meet_16.2.2.2.1 h (fun r_3 h => ?_)
      refine e_if_ne (tgt := 27) hX zcdX10_meet_16.2.2.2.2.1 (by decide) z_eq h (fun h => ?_) (fun h => ?_)
      · refine s_aload_n (k := 0) hX zcdX10_meet_16.2.2.2.2.2.2.2 rfl rfl ?_
        refine s_aload_n (k := 0) hX zcdX10_meet_28.1 rfl rfl ?_
        refine s_get hX fX10_77 oM0 rfl zcdX10_meet_28.2.1 ?_
        refine s_iconst (v := (nI 1)) hX zcdX10_meet_28.2.2.1 (by decide) ?_
        refine s_aload_n (k := 0) hX zcdX10_meet_28.2.2.2.1 rfl rfl ?_
        refine s_get hX fX10_19 oM0 rfl zcdX10_meet_28.2.2.2.2.1 ?_
        refine s_iload_n (k := 1) hX zcdX10_meet_28.2.2.2.2.2.1 rfl rfl ?_
        refine e_iald hX aM4 zcdX10_meet_28.2.2.2.2.2.2.1 h (fun h => ?_)
        refine e_callVv hX (t_X10_laysSteps 23 40 aM23 (by decide) (nI 1) (M 4 (ix v1)) M) mX10_laysSteps lX10_329 (by decide) (by decide) oM0 rfl rfl rfl rfl rfl (Nat.le_of_ble_eq_true rfl) zcdX10_meet_28.2.2.2.2.2.2.2 h (fun M_4 h => ?_)
        refine s_aload_n (k := 0) hX zcdX10_meet_42.1 rfl rfl ?_
        refine s_aload_n (k := 0) hX zcdX10_meet_42.2.1 rfl rfl ?_
        refine s_get hX fX10_80 oM0 rfl zcdX10_meet_42.2.2.1 ?_
        refine s_iconst (v := (nI 0)) hX zcdX10_meet_42.2.2.2.1 (by decide) ?_
        refine s_aload_n (k := 0) hX zcdX10_meet_42.2.2.2.2.1 rfl rfl ?_
        refine s_get hX fX10_19 oM0 rfl zcdX10_meet_42.2.2.2.2.2.1 ?_
        refine s_iload_n (k := 2) hX zcdX10_meet_42.2.2.2.2.2.2.1 rfl rfl ?_
        refine e_iald hX aM4 zcdX10_meet_42.2.2.2.2.2.2.2 h (fun h => ?_)
        refine e_callVv hX (t_X10_laysSteps 24 40 aM24 (by decide) (nI 0) (M_4 4 (ix v2)) M_4) mX10_laysSteps lX10_329 (by decide) (by decide) oM0 rfl rfl rfl rfl rfl (Nat.le_of_ble_eq_true rfl) zcdX10_meet_54.1 h (fun M_5 h => ?_)
        refine s_bipush (v := (-2)) hX zcdX10_meet_54.2.1 (by decide) ?_
        refine s_istore (lv' := [(0, .ref (ad 0)), (1, .int v1), (2, .int v2), (3, .int v3), (4, .int (-2))]) hX zcdX10_meet_54.2.2.1 (by decide) rfl ?_
        refine s_bipush (v := (-2)) hX zcdX10_meet_54.2.2.2.1 (by decide) ?_
        refine s_istore (lv' := [(0, .ref (ad 0)), (1, .int v1), (2, .int v2), (3, .int v3), (4, .int (-2)), (5, .int (-2))]) hX zcdX10_meet_54.2.2.2.2.1 (by decide) rfl ?_
        refine s_iconst (v := (nI 0)) hX zcdX10_meet_54.2.2.2.2.2.1 (by decide) ?_
        refine s_istore (lv' := [(0, .ref (ad 0)), (1, .int v1), (2, .int v2), (3, .int v3), (4, .int (-2)), (5, .int (-2)), (6, .int (nI 0))]) hX zcdX10_meet_54.2.2.2.2.2.2.1 (by decide) rfl ?_
        have lp68 : ∀ (N68 : Nat) (y4_68 : Int32) (y5_68 : Int32) (y6_68 : Int32), wlp3 (f_X10_meet_B68 v3 M_5) N68 y4_68 y5_68 y6_68 = some r0 → V X M_5 [(0, .ref (ad 0)), (3, .int v3), (4, .int y4_68), (5, .int y5_68), (6, .int y6_68)] [] 68 := by
          intro N68
          induction N68 with
          | zero => exact fun _ _ _ h => e_none h
          | succ N68 ih68 =>
            intro y4_68 y5_68 y6_68 h
            replace h : f_X10_meet_B68 v3 M_5 (wlp3 (f_X10_meet_B68 v3 M_5) N68) y4_68 y5_68 y6_68 = some r0 := h
            generalize wlp3 (f_X10_meet_B68 v3 M_5) N68 = ag68 at ih68 h
            refine s_iload (k := 4) hX zcdX10_meet_54.2.2.2.2.2.2.2 rfl ?_
            refine s_bipush (v := (nI 40)) hX zcdX10_meet_70.1 (by decide) ?_
            have j150 : f_X10_meet_L150 v3 M_5 y4_68 y5_68 = some r0 → V X M_5 [(3, .int v3), (4, .int y4_68), (5, .int y5_68)] [] 150 := by
              intro  h
              refine s_iload_n (k := 0) hX zcdX10_meet_136.2.2.2.2.2.2.1 rfl rfl ?_
              refine e_if_ne (tgt := 159) hX zcdX10_meet_136.2.2.2.2.2.2.2 (by decide) z_eq h (fun h => ?_) (fun h => ?_)
              · refine s_iload (k := 1) hX zcdX10_meet_154.2.2.1 rfl ?_
                exact e_ireti hX hR zcdX10_meet_154.2.2.2.1 h
              · refine s_iload (k := 2) hX zcdX10_meet_154.1 rfl ?_
                refine s_goto (tgt := 161) hX zcdX10_meet_154.2.1 (by decide) ?_
                exact e_ireti hX hR zcdX10_meet_154.2.2.2.1 h
            refine e_icmp_ge (tgt := 150) hX zcdX10_meet_70.2.1 (by decide) (m_ge (by decide +kernel)) h (fun h => ?_) (fun h => ?_)
            · refine s_loc [1, 2, 3] rfl ?_
              exact j150 h
            · refine s_aload_n (k := 0) hX zcdX10_meet_70.2.2.1 rfl rfl ?_
              refine s_get hX fX10_77 oM0 rfl zcdX10_meet_70.2.2.2.1 ?_
              refine s_iload (k := 4) hX zcdX10_meet_70.2.2.2.2.1 rfl ?_
              refine e_iald hX aM23 zcdX10_meet_70.2.2.2.2.2.1 h (fun h => ?_)
              refine s_iconst (v := (-1)) hX zcdX10_meet_70.2.2.2.2.2.2.1 (by decide) ?_
              refine e_icmp_eq (tgt := 144) hX zcdX10_meet_70.2.2.2.2.2.2.2 (by decide) (m_eq (by decide +kernel)) h (fun h => ?_) (fun h => ?_)
              · refine s_iinc (k := 4) (v := (y6_68 + (nI 1))) (lv' := [(0, .ref (ad 0)), (3, .int v3), (4, .int y4_68), (5, .int y5_68), (6, .int (y6_68 + (nI 1)))]) hX zcdX10_meet_136.2.2.2.2.1 (congrArg (fun z => y6_68 + z) (by decide)) (by decide) rfl rfl ?_
                refine s_goto (tgt := 68) hX zcdX10_meet_136.2.2.2.2.2.1 (by decide) ?_
                exact ih68 y4_68 y5_68 (y6_68 + (nI 1)) h
              · refine s_aload_n (k := 0) hX zcdX10_meet_86.1 rfl rfl ?_
                refine s_get hX fX10_80 oM0 rfl zcdX10_meet_86.2.1 ?_
                refine s_iload (k := 4) hX zcdX10_meet_86.2.2.1 rfl ?_
                refine e_iald hX aM24 zcdX10_meet_86.2.2.2.1 h (fun h => ?_)
                refine s_iconst (v := (-1)) hX zcdX10_meet_86.2.2.2.2.1 (by decide) ?_
                refine e_icmp_ne (tgt := 100) hX zcdX10_meet_86.2.2.2.2.2.1 (by decide) (m_eq (by decide +kernel)) h (fun h => ?_) (fun h => ?_)
                · refine s_aload_n (k := 0) hX zcdX10_meet_86.2.2.2.2.2.2.2 rfl rfl ?_
                  refine s_get hX fX10_77 oM0 rfl zcdX10_meet_101.1 ?_
                  refine s_iload (k := 4) hX zcdX10_meet_101.2.1 rfl ?_
                  refine e_iald hX aM23 zcdX10_meet_101.2.2.1 h (fun h => ?_)
                  refine s_aload_n (k := 0) hX zcdX10_meet_101.2.2.2.1 rfl rfl ?_
                  refine s_get hX fX10_80 oM0 rfl zcdX10_meet_101.2.2.2.2.1 ?_
                  refine s_iload (k := 4) hX zcdX10_meet_101.2.2.2.2.2.1 rfl ?_
                  refine e_iald hX aM24 zcdX10_meet_101.2.2.2.2.2.2.1 h (fun h => ?_)
                  refine e_callSp hX (t_X10_max (M_5 23 (ix y6_68)) (M_5 24 (ix y6_68)) M_5) mX10_max lX10_129 (by decide) (by decide) rfl rfl (Nat.le_of_ble_eq_true rfl) zcdX10_meet_101.2.2.2.2.2.2.2 h (fun r_6 h => ?_)
                  refine s_istore (lv' := [(0, .ref (ad 0)), (3, .int v3), (4, .int y4_68), (5, .int y5_68), (6, .int y6_68), (7, .int r_6)]) hX zcdX10_meet_117.1 (by decide) rfl ?_
                  refine s_iload (k := 2) hX zcdX10_meet_117.2.1 rfl ?_
                  refine s_bipush (v := (-2)) hX zcdX10_meet_117.2.2.1 (by decide) ?_
                  refine e_icmp_eq (tgt := 136) hX zcdX10_meet_117.2.2.2.1 (by decide) (m_eq (by decide +kernel)) h (fun h => ?_) (fun h => ?_)
                  · refine s_iload (k := 4) hX zcdX10_meet_136.1 rfl ?_
                    refine s_istore (lv' := [(0, .ref (ad 0)), (3, .int v3), (5, .int y5_68), (6, .int y6_68), (7, .int r_6), (4, .int y6_68)]) hX zcdX10_meet_136.2.1 (by decide) rfl ?_
                    refine s_iload (k := 4) hX zcdX10_meet_136.2.2.1 rfl ?_
                    refine s_istore (lv' := [(0, .ref (ad 0)), (3, .int v3), (6, .int y6_68), (7, .int r_6), (4, .int y6_68), (5, .int r_6)]) hX zcdX10_meet_136.2.2.2.1 (by decide) rfl ?_
                    refine s_iinc (k := 2) (v := (y6_68 + (nI 1))) (lv' := [(0, .ref (ad 0)), (3, .int v3), (7, .int r_6), (4, .int y6_68), (5, .int r_6), (6, .int (y6_68 + (nI 1)))]) hX zcdX10_meet_136.2.2.2.2.1 (congrArg (fun z => y6_68 + z) (by decide)) (by decide) rfl rfl ?_
                    refine s_goto (tgt := 68) hX zcdX10_meet_136.2.2.2.2.2.1 (by decide) ?_
                    refine s_loc [0, 1, 3, 4, 5] rfl ?_
                    exact ih68 y6_68 r_6 (y6_68 + (nI 1)) h
                  · refine s_iload (k := 5) hX zcdX10_meet_117.2.2.2.2.1 rfl ?_
                    refine s_iload (k := 3) hX zcdX10_meet_117.2.2.2.2.2.1 rfl ?_
                    refine e_icmp_lt (tgt := 136) hX zcdX10_meet_117.2.2.2.2.2.2.1 (by decide) r_lt h (fun h => ?_) (fun h => ?_)
                    · refine s_iload (k := 4) hX zcdX10_meet_136.1 rfl ?_
                      refine s_istore (lv' := [(0, .ref (ad 0)), (3, .int v3), (5, .int y5_68), (6, .int y6_68), (7, .int r_6), (4, .int y6_68)]) hX zcdX10_meet_136.2.1 (by decide) rfl ?_
                      refine s_iload (k := 4) hX zcdX10_meet_136.2.2.1 rfl ?_
                      refine s_istore (lv' := [(0, .ref (ad 0)), (3, .int v3), (6, .int y6_68), (7, .int r_6), (4, .int y6_68), (5, .int r_6)]) hX zcdX10_meet_136.2.2.2.1 (by decide) rfl ?_
                      refine s_iinc (k := 2) (v := (y6_68 + (nI 1))) (lv' := [(0, .ref (ad 0)), (3, .int v3), (7, .int r_6), (4, .int y6_68), (5, .int r_6), (6, .int (y6_68 + (nI 1)))]) hX zcdX10_meet_136.2.2.2.2.1 (congrArg (fun z => y6_68 + z) (by decide)) (by decide) rfl rfl ?_
                      refine s_goto (tgt := 68) hX zcdX10_meet_136.2.2.2.2.2.1 (by decide) ?_
                      refine s_loc [0, 1, 3, 4, 5] rfl ?_
                      exact ih68 y6_68 r_6 (y6_68 + (nI 1)) h
                    · refine s_goto (tgt := 144) hX zcdX10_meet_117.2.2.2.2.2.2.2 (by decide) ?_
                      refine s_iinc (k := 4) (v := (y6_68 + (nI 1))) (lv' := [(0, .ref (ad 0)), (3, .int v3), (4, .int y4_68), (5, .int y5_68), (7, .int r_6), (6, .int (y6_68 + (nI 1)))]) hX zcdX10_meet_136.2.2.2.2.1 (congrArg (fun z => y6_68 + z) (by decide)) (by decide) rfl rfl ?_
                      refine s_goto (tgt := 68) hX zcdX10_meet_136.2.2.2.2.2.1 (by decide) ?_
                      refine s_loc [0, 1, 2, 3, 5] rfl ?_
                      exact ih68 y4_68 y5_68 (y6_68 + (nI 1)) h
                · refine s_goto (tgt := 144) hX zcdX10_meet_86.2.2.2.2.2.2.1 (by decide) ?_
                  refine s_iinc (k := 4) (v := (y6_68 + (nI 1))) (lv' := [(0, .ref (ad 0)), (3, .int v3), (4, .int y4_68), (5, .int y5_68), (6, .int (y6_68 + (nI 1)))]) hX zcdX10_meet_136.2.2.2.2.1 (congrArg (fun z => y6_68 + z) (by decide)) (by decide) rfl rfl ?_
                  refine s_goto (tgt := 68) hX zcdX10_meet_136.2.2.2.2.2.1 (by decide) ?_
                  exact ih68 y4_68 y5_68 (y6_68 + (nI 1)) h
        refine s_loc [0, 3, 4, 5, 6] rfl ?_
        exact lp68 FU (-2) (-2) (nI 0) h
      · refine s_iconst (v := (-1)) hX zcdX10_meet_16.2.2.2.2.2.1 (by decide) ?_
        exact e_ireti hX hR zcdX10_meet_16.2.2.2.2.2.2.1 h
set_option maxHeartbeats 4000000 in
theorem t_X10_mostInLine (M : Mem) : AXp yX10_mostInLine cX10_mostInLine 6 (some .int) 3 39 glM (fun ad => [.ref (ad 0)]) M (f_X10_mostInLine M) := by
  intro r0 h
  refine AM.of (by decide) (fun _ => Nat.le_of_ble_eq_true rfl) (fun X ad cI cZ cB hX hR => ?_)
  show V X M [(0, .ref (ad 0))] [] 0
  refine s_iconst (v := (nI 2)) hX zcdX10_meet_154.2.2.2.2.1 (by decide) ?_
  refine s_aload_n (k := 0) hX zcdX10_meet_154.2.2.2.2.2.1 rfl rfl ?_
  refine s_iconst (v := (nI 0)) hX zcdX10_meet_154.2.2.2.2.2.2.1 (by decide) ?_
  refine e_callVp hX (t_X10_sumOf (nI 0) M) mX10_sumOf lX10_312 (by decide) (by decide) oM0 rfl rfl rfl rfl rfl (Nat.le_of_ble_eq_true rfl) zcdX10_meet_154.2.2.2.2.2.2.2 h (fun r_1 h => ?_)
  refine e_callSp hX (t_X10_min (nI 2) r_1 M) mX10_min lX10_125 (by decide) (by decide) rfl rfl (Nat.le_of_ble_eq_true rfl) zcdX10_mostInLine_6.1 h (fun r_2 h => ?_)
  refine s_istore_n (lv' := [(0, .ref (ad 0)), (1, .int r_2)]) hX zcdX10_mostInLine_6.2.1 rfl (by decide) rfl ?_
  refine s_iconst (v := (nI 0)) hX zcdX10_mostInLine_6.2.2.1 (by decide) ?_
  refine s_istore_n (lv' := [(0, .ref (ad 0)), (1, .int r_2), (2, .int (nI 0))]) hX zcdX10_mostInLine_6.2.2.2.1 rfl (by decide) rfl ?_
  have lp12 : ∀ (N12 : Nat) (y1_12 : Int32) (y2_12 : Int32), wlp2 (f_X10_mostInLine_B12 M) N12 y1_12 y2_12 = some r0 → V X M [(0, .ref (ad 0)), (1, .int y1_12), (2, .int y2_12)] [] 12 := by
    intro N12
    induction N12 with
    | zero => exact fun _ _ h => e_none h
    | succ N12 ih12 =>
      intro y1_12 y2_12 h
      replace h : f_X10_mostInLine_B12 M (wlp2 (f_X10_mostInLine_B12 M) N12) y1_12 y2_12 = some r0 := h
      generalize wlp2 (f_X10_mostInLine_B12 M) N12 = ag12 at ih12 h
      refine s_iload_n (k := 2) hX zcdX10_mostInLine_6.2.2.2.2.1 rfl rfl ?_
      refine s_bipush (v := (nI 40)) hX zcdX10_mostInLine_6.2.2.2.2.2.1 (by decide) ?_
      refine e_icmp_ge (tgt := 108) hX zcdX10_mostInLine_6.2.2.2.2.2.2.1 (by decide) (m_ge (by decide +kernel)) h (fun h => ?_) (fun h => ?_)
      · refine s_iload_n (k := 1) hX zcdX10_mostInLine_96.2.2.2.2.1 rfl rfl ?_
        exact e_iretp hX hR zcdX10_mostInLine_96.2.2.2.2.2.1 h
      · refine s_iconst (v := (nI 0)) hX zcdX10_mostInLine_6.2.2.2.2.2.2.2 (by decide) ?_
        refine s_istore_n (lv' := [(0, .ref (ad 0)), (1, .int y1_12), (2, .int y2_12), (3, .int (nI 0))]) hX zcdX10_mostInLine_19.1 rfl (by decide) rfl ?_
        have lp20 : ∀ (N20 : Nat) (y1_20 : Int32) (y3_20 : Int32), wlp2 (f_X10_mostInLine_B20 M ag12 y2_12) N20 y1_20 y3_20 = some r0 → V X M [(0, .ref (ad 0)), (1, .int y1_20), (2, .int y2_12), (3, .int y3_20)] [] 20 := by
          intro N20
          induction N20 with
          | zero => exact fun _ _ h => e_none h
          | succ N20 ih20 =>
            intro y1_20 y3_20 h
            replace h : f_X10_mostInLine_B20 M ag12 y2_12 (wlp2 (f_X10_mostInLine_B20 M ag12 y2_12) N20) y1_20 y3_20 = some r0 := h
            generalize wlp2 (f_X10_mostInLine_B20 M ag12 y2_12) N20 = ag20 at ih20 h
            refine s_iload_n (k := 3) hX zcdX10_mostInLine_19.2.1 rfl rfl ?_
            refine s_iload_n (k := 2) hX zcdX10_mostInLine_19.2.2.1 rfl rfl ?_
            refine e_icmp_ge (tgt := 102) hX zcdX10_mostInLine_19.2.2.2.1 (by decide) r_le h (fun h => ?_) (fun h => ?_)
            · refine s_iinc (k := 2) (v := (y2_12 + (nI 1))) (lv' := [(0, .ref (ad 0)), (1, .int y1_20), (3, .int y3_20), (2, .int (y2_12 + (nI 1)))]) hX zcdX10_mostInLine_96.2.2.1 (congrArg (fun z => y2_12 + z) (by decide)) (by decide) rfl rfl ?_
              refine s_goto (tgt := 12) hX zcdX10_mostInLine_96.2.2.2.1 (by decide) ?_
              refine s_loc [0, 1, 3] rfl ?_
              exact ih12 y1_20 (y2_12 + (nI 1)) h
            · refine s_aload_n (k := 0) hX zcdX10_mostInLine_19.2.2.2.2.1 rfl rfl ?_
              refine s_iload_n (k := 2) hX zcdX10_mostInLine_19.2.2.2.2.2.1 rfl rfl ?_
              refine e_callVp hX (t_X10_isStone y2_12 M) mX10_isStone lX10_154 (by decide) (by decide) oM0 rfl rfl rfl rfl rfl (Nat.le_of_ble_eq_true rfl) zcdX10_mostInLine_19.2.2.2.2.2.2.1 h (fun r_3 h => ?_)
              refine e_if_eq (tgt := 96) hX zcdX10_mostInLine_19.2.2.2.2.2.2.2 (by decide) z_eq h (fun h => ?_) (fun h => ?_)
              · refine s_iinc (k := 3) (v := (y3_20 + (nI 1))) (lv' := [(0, .ref (ad 0)), (1, .int y1_20), (2, .int y2_12), (3, .int (y3_20 + (nI 1)))]) hX zcdX10_mostInLine_96.1 (congrArg (fun z => y3_20 + z) (by decide)) (by decide) rfl rfl ?_
                refine s_goto (tgt := 20) hX zcdX10_mostInLine_96.2.1 (by decide) ?_
                exact ih20 y1_20 (y3_20 + (nI 1)) h
              · refine s_aload_n (k := 0) hX zcdX10_mostInLine_33.1 rfl rfl ?_
                refine s_iload_n (k := 3) hX zcdX10_mostInLine_33.2.1 rfl rfl ?_
                refine e_callVp hX (t_X10_isStone y3_20 M) mX10_isStone lX10_154 (by decide) (by decide) oM0 rfl rfl rfl rfl rfl (Nat.le_of_ble_eq_true rfl) zcdX10_mostInLine_33.2.2.1 h (fun r_4 h => ?_)
                refine e_if_ne (tgt := 44) hX zcdX10_mostInLine_33.2.2.2.1 (by decide) z_eq h (fun h => ?_) (fun h => ?_)
                · refine s_iconst (v := (nI 0)) hX zcdX10_mostInLine_33.2.2.2.2.2.1 (by decide) ?_
                  refine s_istore (lv' := [(0, .ref (ad 0)), (1, .int y1_20), (2, .int y2_12), (3, .int y3_20), (4, .int (nI 0))]) hX zcdX10_mostInLine_33.2.2.2.2.2.2.1 (by decide) rfl ?_
                  refine s_iconst (v := (nI 0)) hX zcdX10_mostInLine_33.2.2.2.2.2.2.2 (by decide) ?_
                  refine s_istore (lv' := [(0, .ref (ad 0)), (1, .int y1_20), (2, .int y2_12), (3, .int y3_20), (4, .int (nI 0)), (5, .int (nI 0))]) hX zcdX10_mostInLine_48.1 (by decide) rfl ?_
                  have lp50 : ∀ (N50 : Nat) (y4_50 : Int32) (y5_50 : Int32), wlp2 (f_X10_mostInLine_B50 M y2_12 ag20 y1_20 y3_20) N50 y4_50 y5_50 = some r0 → V X M [(0, .ref (ad 0)), (1, .int y1_20), (2, .int y2_12), (3, .int y3_20), (4, .int y4_50), (5, .int y5_50)] [] 50 := by
                    intro N50
                    induction N50 with
                    | zero => exact fun _ _ h => e_none h
                    | succ N50 ih50 =>
                      intro y4_50 y5_50 h
                      replace h : f_X10_mostInLine_B50 M y2_12 ag20 y1_20 y3_20 (wlp2 (f_X10_mostInLine_B50 M y2_12 ag20 y1_20 y3_20) N50) y4_50 y5_50 = some r0 := h
                      generalize wlp2 (f_X10_mostInLine_B50 M y2_12 ag20 y1_20 y3_20) N50 = ag50 at ih50 h
                      refine s_iload (k := 5) hX zcdX10_mostInLine_48.2.1 rfl ?_
                      refine s_bipush (v := (nI 40)) hX zcdX10_mostInLine_48.2.2.1 (by decide) ?_
                      have j89 : f_X10_mostInLine_L89 ag20 y1_20 y3_20 y4_50 = some r0 → V X M [(0, .ref (ad 0)), (1, .int y1_20), (2, .int y2_12), (3, .int y3_20), (4, .int y4_50)] [] 89 := by
                        intro  h
                        refine s_iload_n (k := 1) hX zcdX10_mostInLine_80.2.2.2.2.1 rfl rfl ?_
                        refine s_iload (k := 4) hX zcdX10_mostInLine_80.2.2.2.2.2.1 rfl ?_
                        refine e_callSp hX (t_X10_max y1_20 y4_50 M) mX10_max lX10_129 (by decide) (by decide) rfl rfl (Nat.le_of_ble_eq_true rfl) zcdX10_mostInLine_80.2.2.2.2.2.2.1 h (fun r_5 h => ?_)
                        refine s_istore_n (lv' := [(0, .ref (ad 0)), (2, .int y2_12), (3, .int y3_20), (4, .int y4_50), (1, .int r_5)]) hX zcdX10_mostInLine_80.2.2.2.2.2.2.2 rfl (by decide) rfl ?_
                        refine s_iinc (k := 2) (v := (y3_20 + (nI 1))) (lv' := [(0, .ref (ad 0)), (2, .int y2_12), (4, .int y4_50), (1, .int r_5), (3, .int (y3_20 + (nI 1)))]) hX zcdX10_mostInLine_96.1 (congrArg (fun z => y3_20 + z) (by decide)) (by decide) rfl rfl ?_
                        refine s_goto (tgt := 20) hX zcdX10_mostInLine_96.2.1 (by decide) ?_
                        refine s_loc [0, 3, 1, 4] rfl ?_
                        exact ih20 r_5 (y3_20 + (nI 1)) h
                      refine e_icmp_ge (tgt := 89) hX zcdX10_mostInLine_48.2.2.2.1 (by decide) (m_ge (by decide +kernel)) h (fun h => ?_) (fun h => ?_)
                      · refine s_loc [0, 1, 2, 3, 4] rfl ?_
                        exact j89 h
                      · refine s_aload_n (k := 0) hX zcdX10_mostInLine_48.2.2.2.2.1 rfl rfl ?_
                        refine s_iload (k := 5) hX zcdX10_mostInLine_48.2.2.2.2.2.1 rfl ?_
                        refine e_callVp hX (t_X10_isStone y5_50 M) mX10_isStone lX10_154 (by decide) (by decide) oM0 rfl rfl rfl rfl rfl (Nat.le_of_ble_eq_true rfl) zcdX10_mostInLine_48.2.2.2.2.2.2.1 h (fun r_6 h => ?_)
                        refine e_if_eq (tgt := 83) hX zcdX10_mostInLine_48.2.2.2.2.2.2.2 (by decide) z_eq h (fun h => ?_) (fun h => ?_)
                        · refine s_iinc (k := 5) (v := (y5_50 + (nI 1))) (lv' := [(0, .ref (ad 0)), (1, .int y1_20), (2, .int y2_12), (3, .int y3_20), (4, .int y4_50), (5, .int (y5_50 + (nI 1)))]) hX zcdX10_mostInLine_80.2.2.1 (congrArg (fun z => y5_50 + z) (by decide)) (by decide) rfl rfl ?_
                          refine s_goto (tgt := 50) hX zcdX10_mostInLine_80.2.2.2.1 (by decide) ?_
                          exact ih50 y4_50 (y5_50 + (nI 1)) h
                        · refine s_aload_n (k := 0) hX zcdX10_mostInLine_66.1 rfl rfl ?_
                          refine s_iload_n (k := 2) hX zcdX10_mostInLine_66.2.1 rfl rfl ?_
                          refine s_iload_n (k := 3) hX zcdX10_mostInLine_66.2.2.1 rfl rfl ?_
                          refine s_iload (k := 5) hX zcdX10_mostInLine_66.2.2.2.1 rfl ?_
                          refine e_callVp hX (t_X10_areInLine y2_12 y3_20 y5_50 M) mX10_areInLine lX10_396 (by decide) (by decide) oM0 rfl rfl rfl rfl rfl (Nat.le_of_ble_eq_true rfl) zcdX10_mostInLine_66.2.2.2.2.1 h (fun r_7 h => ?_)
                          refine e_if_eq (tgt := 83) hX zcdX10_mostInLine_66.2.2.2.2.2.1 (by decide) z_eq h (fun h => ?_) (fun h => ?_)
                          · refine s_iinc (k := 5) (v := (y5_50 + (nI 1))) (lv' := [(0, .ref (ad 0)), (1, .int y1_20), (2, .int y2_12), (3, .int y3_20), (4, .int y4_50), (5, .int (y5_50 + (nI 1)))]) hX zcdX10_mostInLine_80.2.2.1 (congrArg (fun z => y5_50 + z) (by decide)) (by decide) rfl rfl ?_
                            refine s_goto (tgt := 50) hX zcdX10_mostInLine_80.2.2.2.1 (by decide) ?_
                            exact ih50 y4_50 (y5_50 + (nI 1)) h
                          · refine s_iload (k := 4) hX zcdX10_mostInLine_66.2.2.2.2.2.2.1 rfl ?_
                            refine s_iconst (v := (nI 1)) hX zcdX10_mostInLine_66.2.2.2.2.2.2.2 (by decide) ?_
                            refine s_iadd hX zcdX10_mostInLine_80.1 ?_
                            refine s_istore (lv' := [(0, .ref (ad 0)), (1, .int y1_20), (2, .int y2_12), (3, .int y3_20), (5, .int y5_50), (4, .int (y4_50 + (nI 1)))]) hX zcdX10_mostInLine_80.2.1 (by decide) rfl ?_
                            refine s_iinc (k := 4) (v := (y5_50 + (nI 1))) (lv' := [(0, .ref (ad 0)), (1, .int y1_20), (2, .int y2_12), (3, .int y3_20), (4, .int (y4_50 + (nI 1))), (5, .int (y5_50 + (nI 1)))]) hX zcdX10_mostInLine_80.2.2.1 (congrArg (fun z => y5_50 + z) (by decide)) (by decide) rfl rfl ?_
                            refine s_goto (tgt := 50) hX zcdX10_mostInLine_80.2.2.2.1 (by decide) ?_
                            exact ih50 (y4_50 + (nI 1)) (y5_50 + (nI 1)) h
                  exact lp50 FU (nI 0) (nI 0) h
                · refine s_goto (tgt := 96) hX zcdX10_mostInLine_33.2.2.2.2.1 (by decide) ?_
                  refine s_iinc (k := 3) (v := (y3_20 + (nI 1))) (lv' := [(0, .ref (ad 0)), (1, .int y1_20), (2, .int y2_12), (3, .int (y3_20 + (nI 1)))]) hX zcdX10_mostInLine_96.1 (congrArg (fun z => y3_20 + z) (by decide)) (by decide) rfl rfl ?_
                  refine s_goto (tgt := 20) hX zcdX10_mostInLine_96.2.1 (by decide) ?_
                  exact ih20 y1_20 (y3_20 + (nI 1)) h
        exact lp20 FU y1_12 (nI 0) h
  exact lp12 FU r_2 (nI 0) h
set_option maxHeartbeats 4000000 in
theorem t_X10_nights (v1 : Int32) (M : Mem) : AXi yX10_nights cX10_nights 2 (some .int) 6 39 glM (fun ad => [.ref (ad 0), .int v1]) M (f_X10_nights M v1) := by
  intro r0 h
  refine AM.of (by decide) (fun _ => Nat.le_of_ble_eq_true rfl) (fun X ad cI cZ cB hX hR => ?_)
  show V X M [(0, .ref (ad 0)), (1, .int v1)] [] 0
  refine s_iload_n (k := 1) hX zcdX10_mostInLine_96.2.2.2.2.2.2.1 rfl rfl ?_
  refine s_iconst (v := (nI 1)) hX zcdX10_mostInLine_96.2.2.2.2.2.2.2 (by decide) ?_
  refine s_bipush (v := (nI 60)) hX zcdX10_nights_2.1 (by decide) ?_
  refine e_callSp hX (t_X10_in v1 (nI 1) (nI 60) M) mX10_in lX10_132 (by decide) (by decide) rfl rfl (Nat.le_of_ble_eq_true rfl) zcdX10_nights_2.2.1 h (fun r_1 h => ?_)
  refine e_if_ne (tgt := 12) hX zcdX10_nights_2.2.2.1 (by decide) z_eq h (fun h => ?_) (fun h => ?_)
  · refine s_aload_n (k := 0) hX zcdX10_nights_2.2.2.2.2.2.1 rfl rfl ?_
    refine s_iload_n (k := 1) hX zcdX10_nights_2.2.2.2.2.2.2.1 rfl rfl ?_
    refine e_callVv hX (t_X10_nightsGo v1 M) mX10_nightsGo lX10_308 (by decide) (by decide) oM0 rfl rfl rfl rfl rfl (Nat.le_of_ble_eq_true rfl) zcdX10_nights_2.2.2.2.2.2.2.2 h (fun M_2 h => ?_)
    refine s_aload_n (k := 0) hX zcdX10_nights_17.1 rfl rfl ?_
    refine s_get hX fX10_293 oM0 rfl zcdX10_nights_17.2.1 ?_
    exact e_ireti hX hR zcdX10_nights_17.2.2.1 h
  · refine s_iconst (v := (-1)) hX zcdX10_nights_2.2.2.2.1 (by decide) ?_
    exact e_ireti hX hR zcdX10_nights_2.2.2.2.2.1 h
set_option maxHeartbeats 4000000 in
theorem t_X10_readsAmount (M : Mem) : AXi yX10_readsAmount cX10_readsAmount 2 (some .boolean) 2 39 glM (fun ad => [.ref (ad 0)]) M (f_X10_readsAmount M) := by
  intro r0 h
  refine AM.of (by decide) (fun _ => Nat.le_of_ble_eq_true rfl) (fun X ad cI cZ cB hX hR => ?_)
  show V X M [(0, .ref (ad 0))] [] 0
  refine s_aload_n (k := 0) hX zcdX10_nights_17.2.2.2.1 rfl rfl ?_
  refine s_get hX fX10_165 oM0 rfl zcdX10_nights_17.2.2.2.2.1 ?_
  refine e_bnd h (fun x_1 h => ?_)
  refine s_istore_n (lv' := [(0, .ref (ad 0)), (1, .int x_1)]) hX zcdX10_nights_17.2.2.2.2.2.1 rfl (by decide) rfl ?_
  refine s_aload_n (k := 0) hX zcdX10_nights_17.2.2.2.2.2.2.1 rfl rfl ?_
  refine e_callVp hX (t_X10_isDigit M) mX10_isDigit lX10_184 (by decide) (by decide) oM0 rfl rfl rfl rfl rfl (Nat.le_of_ble_eq_true rfl) zcdX10_nights_17.2.2.2.2.2.2.2 h (fun r_2 h => ?_)
  refine e_if_ne (tgt := 22) hX zcdX10_readsAmount_9.1 (by decide) z_eq h (fun h => ?_) (fun h => ?_)
  · refine s_aload_n (k := 0) hX zcdX10_readsAmount_9.2.2.2.2.2.2.2 rfl rfl ?_
    refine s_iconst (v := (nI 0)) hX zcdX10_readsAmount_23.1 (by decide) ?_
    refine s_puti (ty := .int) hX fX10_181 oM0 rfl (Nat.le_of_ble_eq_true rfl) ty_10_10 rfl rfl zcdX10_readsAmount_23.2.1 ?_
    refine e_bndM h (fun M_3 h => ?_)
    have lp27 : ∀ (N27 : Nat) (M27 : Mem), wlp1 (f_X10_readsAmount_B27 x_1) N27 M27 = some r0 → V X M27 [(0, .ref (ad 0)), (1, .int x_1)] [] 27 := by
      intro N27
      induction N27 with
      | zero => exact fun _ h => e_none h
      | succ N27 ih27 =>
        intro M27 h
        replace h : f_X10_readsAmount_B27 x_1 (wlp1 (f_X10_readsAmount_B27 x_1) N27) M27 = some r0 := h
        generalize wlp1 (f_X10_readsAmount_B27 x_1) N27 = ag27 at ih27 h
        refine s_aload_n (k := 0) hX zcdX10_readsAmount_23.2.2.1 rfl rfl ?_
        refine e_callVp hX (t_X10_isDigit M27) mX10_isDigit lX10_184 (by decide) (by decide) oM0 rfl rfl rfl rfl rfl (Nat.le_of_ble_eq_true rfl) zcdX10_readsAmount_23.2.2.2.1 h (fun r_4 h => ?_)
        refine e_if_eq (tgt := 86) hX zcdX10_readsAmount_23.2.2.2.2.1 (by decide) z_eq h (fun h => ?_) (fun h => ?_)
        · refine s_iconst (v := (nI 1)) hX zcdX10_readsAmount_79.2.2.2.1 (by decide) ?_
          exact e_zretiL hX hR zcdX10_readsAmount_79.2.2.2.2.1 (by decide) h
        · refine s_aload_n (k := 0) hX zcdX10_readsAmount_23.2.2.2.2.2.1 rfl rfl ?_
          refine s_get hX fX10_165 oM0 rfl zcdX10_readsAmount_23.2.2.2.2.2.2.1 ?_
          refine s_iload_n (k := 1) hX zcdX10_readsAmount_23.2.2.2.2.2.2.2 rfl rfl ?_
          refine s_iconst (v := (nI 2)) hX zcdX10_readsAmount_39.1 (by decide) ?_
          refine s_iadd hX zcdX10_readsAmount_39.2.1 ?_
          have j44 : f_X10_readsAmount_L44 M27 = some r0 → V X M27 [(0, .ref (ad 0))] [] 44 := by
            intro  h
            refine s_aload_n (k := 0) hX zcdX10_readsAmount_39.2.2.2.1 rfl rfl ?_
            refine s_iconst (v := (nI 2)) hX zcdX10_readsAmount_39.2.2.2.2.1 (by decide) ?_
            refine s_aload_n (k := 0) hX zcdX10_readsAmount_39.2.2.2.2.2.1 rfl rfl ?_
            refine s_get hX fX10_165 oM0 rfl zcdX10_readsAmount_39.2.2.2.2.2.2.1 ?_
            refine e_callVi hX (t_X10_wrongAt (nI 2) (M27 0 7) M27) mX10_wrongAt lX10_178 (by decide) (by decide) oM0 rfl rfl rfl rfl rfl (Nat.le_of_ble_eq_true rfl) zcdX10_readsAmount_39.2.2.2.2.2.2.2 h (fun r_5 M_6 h => ?_)
            exact e_zreti hX hR zcdX10_readsAmount_53.1 h
          refine e_icmp_ne (tgt := 54) hX zcdX10_readsAmount_39.2.2.1 (by decide) r_eq h (fun h => ?_) (fun h => ?_)
          · refine s_aload_n (k := 0) hX zcdX10_readsAmount_53.2.1 rfl rfl ?_
            refine s_bipush (v := (nI 10)) hX zcdX10_readsAmount_53.2.2.1 (by decide) ?_
            refine s_aload_n (k := 0) hX zcdX10_readsAmount_53.2.2.2.1 rfl rfl ?_
            refine s_get hX fX10_181 oM0 rfl zcdX10_readsAmount_53.2.2.2.2.1 ?_
            refine s_imul hX zcdX10_readsAmount_53.2.2.2.2.2.1 ?_
            refine s_aload_n (k := 0) hX zcdX10_readsAmount_53.2.2.2.2.2.2.1 rfl rfl ?_
            refine e_callVp hX (t_X10_here M27) mX10_here lX10_171 (by decide) (by decide) oM0 rfl rfl rfl rfl rfl (Nat.le_of_ble_eq_true rfl) zcdX10_readsAmount_53.2.2.2.2.2.2.2 h (fun r_7 h => ?_)
            refine s_iadd hX zcdX10_readsAmount_66.1 ?_
            refine s_bipush (v := (nI 48)) hX zcdX10_readsAmount_66.2.1 (by decide) ?_
            refine s_isub hX zcdX10_readsAmount_66.2.2.1 ?_
            refine s_puti (ty := .int) hX fX10_181 oM0 rfl (Nat.le_of_ble_eq_true rfl) ty_10_10 rfl rfl zcdX10_readsAmount_66.2.2.2.1 ?_
            refine e_bndM h (fun M_8 h => ?_)
            refine s_aload_n (k := 0) hX zcdX10_readsAmount_66.2.2.2.2.1 rfl rfl ?_
            refine s_aload_n (k := 0) hX zcdX10_readsAmount_66.2.2.2.2.2.1 rfl rfl ?_
            refine s_get hX fX10_165 oM0 rfl zcdX10_readsAmount_66.2.2.2.2.2.2.1 ?_
            refine s_iconst (v := (nI 1)) hX zcdX10_readsAmount_66.2.2.2.2.2.2.2 (by decide) ?_
            refine s_iadd hX zcdX10_readsAmount_79.1 ?_
            refine s_puti (ty := .int) hX fX10_165 oM0 rfl (Nat.le_of_ble_eq_true rfl) ty_10_7 rfl rfl zcdX10_readsAmount_79.2.1 ?_
            refine e_bndM h (fun M_9 h => ?_)
            refine s_goto (tgt := 27) hX zcdX10_readsAmount_79.2.2.1 (by decide) ?_
            exact ih27 M_9 h
          · refine s_loc [0] rfl ?_
            exact j44 h
    exact lp27 FU M_3 h
  · refine s_aload_n (k := 0) hX zcdX10_readsAmount_9.2.1 rfl rfl ?_
    refine s_iconst (v := (nI 1)) hX zcdX10_readsAmount_9.2.2.1 (by decide) ?_
    refine s_aload_n (k := 0) hX zcdX10_readsAmount_9.2.2.2.1 rfl rfl ?_
    refine s_get hX fX10_165 oM0 rfl zcdX10_readsAmount_9.2.2.2.2.1 ?_
    refine e_callVi hX (t_X10_wrongAt (nI 1) (M 0 7) M) mX10_wrongAt lX10_178 (by decide) (by decide) oM0 rfl rfl rfl rfl rfl (Nat.le_of_ble_eq_true rfl) zcdX10_readsAmount_9.2.2.2.2.2.1 h (fun r_10 M_11 h => ?_)
    exact e_zreti hX hR zcdX10_readsAmount_9.2.2.2.2.2.2.1 h
set_option maxHeartbeats 4000000 in
theorem t_X10_readsBetween (v1 : Int32) (v2 : Int32) (M : Mem) : AXi yX10_readsBetween cX10_readsBetween 4 (some .boolean) 3 39 glM (fun ad => [.ref (ad 0), .int v1, .int v2]) M (f_X10_readsBetween M v1 v2) := by
  intro r0 h
  refine AM.of (by decide) (fun _ => Nat.le_of_ble_eq_true rfl) (fun X ad cI cZ cB hX hR => ?_)
  show V X M [(0, .ref (ad 0)), (1, .int v1), (2, .int v2)] [] 0
  refine s_aload_n (k := 0) hX zcdX10_readsAmount_79.2.2.2.2.2.1 rfl rfl ?_
  refine s_get hX fX10_165 oM0 rfl zcdX10_readsAmount_79.2.2.2.2.2.2.1 ?_
  refine e_bnd h (fun x_1 h => ?_)
  refine s_istore_n (lv' := [(0, .ref (ad 0)), (1, .int v1), (2, .int v2), (3, .int x_1)]) hX zcdX10_readsAmount_79.2.2.2.2.2.2.2 rfl (by decide) rfl ?_
  refine s_aload_n (k := 0) hX zcdX10_readsBetween_5.1 rfl rfl ?_
  refine e_callVi hX (t_X10_readsAmount M) mX10_readsAmount lX10_271 (by decide) (by decide) oM0 rfl rfl rfl rfl rfl (Nat.le_of_ble_eq_true rfl) zcdX10_readsBetween_5.2.1 h (fun r_2 M_3 h => ?_)
  refine e_if_ne (tgt := 14) hX zcdX10_readsBetween_5.2.2.1 (by decide) z_eq h (fun h => ?_) (fun h => ?_)
  · refine s_aload_n (k := 0) hX zcdX10_readsBetween_5.2.2.2.2.2.1 rfl rfl ?_
    refine s_get hX fX10_181 oM0 rfl zcdX10_readsBetween_5.2.2.2.2.2.2.1 ?_
    refine s_iload_n (k := 1) hX zcdX10_readsBetween_5.2.2.2.2.2.2.2 rfl rfl ?_
    refine s_iload_n (k := 2) hX zcdX10_readsBetween_19.1 rfl rfl ?_
    refine e_callSp hX (t_X10_in (M_3 0 10) v1 v2 M_3) mX10_in lX10_132 (by decide) (by decide) rfl rfl (Nat.le_of_ble_eq_true rfl) zcdX10_readsBetween_19.2.1 h (fun r_4 h => ?_)
    refine e_if_ne (tgt := 35) hX zcdX10_readsBetween_19.2.2.1 (by decide) z_eq h (fun h => ?_) (fun h => ?_)
    · refine s_iconst (v := (nI 1)) hX zcdX10_readsBetween_35.1 (by decide) ?_
      refine s_goto (tgt := 40) hX zcdX10_readsBetween_35.2.1 (by decide) ?_
      exact e_zretiL hX hR zcdX10_readsBetween_35.2.2.2.1 (by decide) h
    · refine s_aload_n (k := 0) hX zcdX10_readsBetween_19.2.2.2.1 rfl rfl ?_
      refine s_iconst (v := (nI 3)) hX zcdX10_readsBetween_19.2.2.2.2.1 (by decide) ?_
      refine s_iload_n (k := 3) hX zcdX10_readsBetween_19.2.2.2.2.2.1 rfl rfl ?_
      refine e_callVi hX (t_X10_wrongAt (nI 3) x_1 M_3) mX10_wrongAt lX10_178 (by decide) (by decide) oM0 rfl rfl rfl rfl rfl (Nat.le_of_ble_eq_true rfl) zcdX10_readsBetween_19.2.2.2.2.2.2.1 h (fun r_5 M_6 h => ?_)
      refine e_if_eq (tgt := 39) hX zcdX10_readsBetween_19.2.2.2.2.2.2.2 (by decide) z_eq h (fun h => ?_) (fun h => ?_)
      · refine s_iconst (v := (nI 0)) hX zcdX10_readsBetween_35.2.2.1 (by decide) ?_
        exact e_zretiL hX hR zcdX10_readsBetween_35.2.2.2.1 (by decide) h
      · refine s_iconst (v := (nI 1)) hX zcdX10_readsBetween_35.1 (by decide) ?_
        refine s_goto (tgt := 40) hX zcdX10_readsBetween_35.2.1 (by decide) ?_
        exact e_zretiL hX hR zcdX10_readsBetween_35.2.2.2.1 (by decide) h
  · refine s_iconst (v := (nI 0)) hX zcdX10_readsBetween_5.2.2.2.1 (by decide) ?_
    exact e_zretiL hX hR zcdX10_readsBetween_5.2.2.2.2.1 (by decide) h
set_option maxHeartbeats 4000000 in
theorem t_X10_readsLine (M : Mem) : AXi yX10_readsLine cX10_readsLine 3 (some .boolean) 4 39 glM (fun ad => [.ref (ad 0)]) M (f_X10_readsLine M) := by
  intro r0 h
  refine AM.of (by decide) (fun _ => Nat.le_of_ble_eq_true rfl) (fun X ad cI cZ cB hX hR => ?_)
  show V X M [(0, .ref (ad 0))] [] 0
  refine s_aload_n (k := 0) hX zcdX10_readsBetween_35.2.2.2.2.1 rfl rfl ?_
  refine s_get hX fX10_165 oM0 rfl zcdX10_readsBetween_35.2.2.2.2.2.1 ?_
  refine e_bnd h (fun x_1 h => ?_)
  refine s_istore_n (lv' := [(0, .ref (ad 0)), (1, .int x_1)]) hX zcdX10_readsBetween_35.2.2.2.2.2.2.1 rfl (by decide) rfl ?_
  refine s_aload_n (k := 0) hX zcdX10_readsBetween_35.2.2.2.2.2.2.2 rfl rfl ?_
  refine e_callVp hX (t_X10_isDigit M) mX10_isDigit lX10_184 (by decide) (by decide) oM0 rfl rfl rfl rfl rfl (Nat.le_of_ble_eq_true rfl) zcdX10_readsLine_6.1 h (fun r_2 h => ?_)
  refine e_if_ne (tgt := 22) hX zcdX10_readsLine_6.2.1 (by decide) z_eq h (fun h => ?_) (fun h => ?_)
  · refine s_aload_n (k := 0) hX zcdX10_readsLine_22.1 rfl rfl ?_
    refine s_get hX fX10_274 oM0 rfl zcdX10_readsLine_22.2.1 ?_
    refine s_bipush (v := (nI 40)) hX zcdX10_readsLine_22.2.2.1 (by decide) ?_
    refine e_icmp_ne (tgt := 41) hX zcdX10_readsLine_22.2.2.2.1 (by decide) (m_eq (by decide +kernel)) h (fun h => ?_) (fun h => ?_)
    · refine s_aload_n (k := 0) hX zcdX10_readsLine_37.2.2.1 rfl rfl ?_
      refine s_iconst (v := (nI 0)) hX zcdX10_readsLine_37.2.2.2.1 (by decide) ?_
      refine s_bipush (v := (nI 39)) hX zcdX10_readsLine_37.2.2.2.2.1 (by decide) ?_
      refine e_callVi hX (t_X10_readsBetween (nI 0) (nI 39) M) mX10_readsBetween lX10_277 (by decide) (by decide) oM0 rfl rfl rfl rfl rfl (Nat.le_of_ble_eq_true rfl) zcdX10_readsLine_37.2.2.2.2.2.1 h (fun r_3 M_4 h => ?_)
      refine e_if_ne (tgt := 53) hX zcdX10_readsLine_37.2.2.2.2.2.2.1 (by decide) z_eq h (fun h => ?_) (fun h => ?_)
      · refine s_aload_n (k := 0) hX zcdX10_readsLine_52.2.1 rfl rfl ?_
        refine s_get hX fX10_65 oM0 rfl zcdX10_readsLine_52.2.2.1 ?_
        refine s_aload_n (k := 0) hX zcdX10_readsLine_52.2.2.2.1 rfl rfl ?_
        refine s_get hX fX10_274 oM0 rfl zcdX10_readsLine_52.2.2.2.2.1 ?_
        refine s_aload_n (k := 0) hX zcdX10_readsLine_52.2.2.2.2.2.1 rfl rfl ?_
        refine s_get hX fX10_181 oM0 rfl zcdX10_readsLine_52.2.2.2.2.2.2.1 ?_
        refine e_iast hX aM19 zcdX10_readsLine_52.2.2.2.2.2.2.2 h (fun h => ?_)
        refine e_bndM h (fun M_5 h => ?_)
        refine s_aload_n (k := 0) hX zcdX10_readsLine_66.1 rfl rfl ?_
        refine s_bipush (v := (nI 44)) hX zcdX10_readsLine_66.2.1 (by decide) ?_
        refine e_callVi hX (t_X10_takesSign (nI 44) M_5) mX10_takesSign lX10_255 (by decide) (by decide) oM0 rfl rfl rfl rfl rfl (Nat.le_of_ble_eq_true rfl) zcdX10_readsLine_66.2.2.1 h (fun r_6 M_7 h => ?_)
        refine e_if_eq (tgt := 85) hX zcdX10_readsLine_66.2.2.2.1 (by decide) z_eq h (fun h => ?_) (fun h => ?_)
        · refine s_iconst (v := (nI 0)) hX zcdX10_readsLine_82.2.1 (by decide) ?_
          exact e_zretiL hX hR zcdX10_readsLine_82.2.2.1 (by decide) h
        · refine s_aload_n (k := 0) hX zcdX10_readsLine_66.2.2.2.2.1 rfl rfl ?_
          refine s_iconst (v := (nI 1)) hX zcdX10_readsLine_66.2.2.2.2.2.1 (by decide) ?_
          refine s_bipush (v := (nI 20)) hX zcdX10_readsLine_66.2.2.2.2.2.2.1 (by decide) ?_
          refine e_callVi hX (t_X10_readsBetween (nI 1) (nI 20) M_7) mX10_readsBetween lX10_277 (by decide) (by decide) oM0 rfl rfl rfl rfl rfl (Nat.le_of_ble_eq_true rfl) zcdX10_readsLine_66.2.2.2.2.2.2.2 h (fun r_8 M_9 h => ?_)
          refine e_if_ne (tgt := 87) hX zcdX10_readsLine_82.1 (by decide) z_eq h (fun h => ?_) (fun h => ?_)
          · refine s_aload_n (k := 0) hX zcdX10_readsLine_82.2.2.2.1 rfl rfl ?_
            refine s_get hX fX10_68 oM0 rfl zcdX10_readsLine_82.2.2.2.2.1 ?_
            refine s_aload_n (k := 0) hX zcdX10_readsLine_82.2.2.2.2.2.1 rfl rfl ?_
            refine s_get hX fX10_274 oM0 rfl zcdX10_readsLine_82.2.2.2.2.2.2.1 ?_
            refine s_aload_n (k := 0) hX zcdX10_readsLine_82.2.2.2.2.2.2.2 rfl rfl ?_
            refine s_get hX fX10_181 oM0 rfl zcdX10_readsLine_96.1 ?_
            refine e_iast hX aM20 zcdX10_readsLine_96.2.1 h (fun h => ?_)
            refine e_bndM h (fun M_10 h => ?_)
            refine s_iconst (v := (nI 0)) hX zcdX10_readsLine_96.2.2.1 (by decide) ?_
            refine s_istore_n (lv' := [(0, .ref (ad 0)), (1, .int x_1), (2, .int (nI 0))]) hX zcdX10_readsLine_96.2.2.2.1 rfl (by decide) rfl ?_
            have lp102 : ∀ (N102 : Nat) (y2_102 : Int32), wlp1 (f_X10_readsLine_B102 x_1 M_10) N102 y2_102 = some r0 → V X M_10 [(0, .ref (ad 0)), (1, .int x_1), (2, .int y2_102)] [] 102 := by
              intro N102
              induction N102 with
              | zero => exact fun _ h => e_none h
              | succ N102 ih102 =>
                intro y2_102 h
                replace h : f_X10_readsLine_B102 x_1 M_10 (wlp1 (f_X10_readsLine_B102 x_1 M_10) N102) y2_102 = some r0 := h
                generalize wlp1 (f_X10_readsLine_B102 x_1 M_10) N102 = ag102 at ih102 h
                refine s_iload_n (k := 2) hX zcdX10_readsLine_96.2.2.2.2.1 rfl rfl ?_
                refine s_aload_n (k := 0) hX zcdX10_readsLine_96.2.2.2.2.2.1 rfl rfl ?_
                refine s_get hX fX10_274 oM0 rfl zcdX10_readsLine_96.2.2.2.2.2.2.1 ?_
                have j160 : f_X10_readsLine_L160 M_10 = some r0 → V X M_10 [(0, .ref (ad 0))] [] 160 := by
                  intro  h
                  refine s_aload_n (k := 0) hX zcdX10_readsLine_153.2.2.2.1 rfl rfl ?_
                  refine s_get hX fX10_71 oM0 rfl zcdX10_readsLine_153.2.2.2.2.1 ?_
                  refine s_aload_n (k := 0) hX zcdX10_readsLine_153.2.2.2.2.2.1 rfl rfl ?_
                  refine s_get hX fX10_274 oM0 rfl zcdX10_readsLine_153.2.2.2.2.2.2.1 ?_
                  refine s_iconst (v := (nI 0)) hX zcdX10_readsLine_153.2.2.2.2.2.2.2 (by decide) ?_
                  refine e_iast hX aM21 zcdX10_readsLine_169.1 h (fun h => ?_)
                  refine e_bndM h (fun M_11 h => ?_)
                  refine s_aload_n (k := 0) hX zcdX10_readsLine_169.2.1 rfl rfl ?_
                  refine s_get hX fX10_74 oM0 rfl zcdX10_readsLine_169.2.2.1 ?_
                  refine s_aload_n (k := 0) hX zcdX10_readsLine_169.2.2.2.1 rfl rfl ?_
                  refine s_get hX fX10_274 oM0 rfl zcdX10_readsLine_169.2.2.2.2.1 ?_
                  refine s_iconst (v := (nI 0)) hX zcdX10_readsLine_169.2.2.2.2.2.1 (by decide) ?_
                  refine e_iast hX aM22 zcdX10_readsLine_169.2.2.2.2.2.2.1 h (fun h => ?_)
                  refine e_bndM h (fun M_12 h => ?_)
                  refine s_aload_n (k := 0) hX zcdX10_readsLine_169.2.2.2.2.2.2.2 rfl rfl ?_
                  refine e_callVp hX (t_X10_here M_12) mX10_here lX10_171 (by decide) (by decide) oM0 rfl rfl rfl rfl rfl (Nat.le_of_ble_eq_true rfl) zcdX10_readsLine_181.1 h (fun r_13 h => ?_)
                  refine s_bipush (v := (nI 115)) hX zcdX10_readsLine_181.2.1 (by decide) ?_
                  have j242 : ∀ (N242 : Mem), f_X10_readsLine_L242 N242 = some r0 → V X N242 [(0, .ref (ad 0))] [] 242 := by
                    intro N242 h
                    refine s_aload_n (k := 0) hX zcdX10_readsLine_239.2.1 rfl rfl ?_
                    refine e_callVp hX (t_X10_here N242) mX10_here lX10_171 (by decide) (by decide) oM0 rfl rfl rfl rfl rfl (Nat.le_of_ble_eq_true rfl) zcdX10_readsLine_239.2.2.1 h (fun r_14 h => ?_)
                    refine s_bipush (v := (nI 117)) hX zcdX10_readsLine_239.2.2.2.1 (by decide) ?_
                    have j271 : ∀ (N271 : Mem), f_X10_readsLine_L271 N271 = some r0 → V X N271 [(0, .ref (ad 0))] [] 271 := by
                      intro N271 h
                      refine s_aload_n (k := 0) hX zcdX10_readsLine_270.2.1 rfl rfl ?_
                      refine s_aload_n (k := 0) hX zcdX10_readsLine_270.2.2.1 rfl rfl ?_
                      refine s_get hX fX10_274 oM0 rfl zcdX10_readsLine_270.2.2.2.1 ?_
                      refine s_iconst (v := (nI 1)) hX zcdX10_readsLine_270.2.2.2.2.1 (by decide) ?_
                      refine s_iadd hX zcdX10_readsLine_270.2.2.2.2.2.1 ?_
                      refine s_puti (ty := .int) hX fX10_274 oM0 rfl (Nat.le_of_ble_eq_true rfl) ty_10_33 rfl rfl zcdX10_readsLine_270.2.2.2.2.2.2.1 ?_
                      refine e_bndM h (fun M_15 h => ?_)
                      refine s_iconst (v := (nI 1)) hX zcdX10_readsLine_270.2.2.2.2.2.2.2 (by decide) ?_
                      exact e_zretiL hX hR zcdX10_readsLine_282.1 (by decide) h
                    refine e_icmp_ne (tgt := 271) hX zcdX10_readsLine_239.2.2.2.2.1 (by decide) (m_eq (by decide +kernel)) h (fun h => ?_) (fun h => ?_)
                    · exact j271 N242 h
                    · refine s_aload_n (k := 0) hX zcdX10_readsLine_239.2.2.2.2.2.1 rfl rfl ?_
                      refine s_aload_n (k := 0) hX zcdX10_readsLine_239.2.2.2.2.2.2.1 rfl rfl ?_
                      refine s_get hX fX10_165 oM0 rfl zcdX10_readsLine_239.2.2.2.2.2.2.2 ?_
                      refine s_iconst (v := (nI 1)) hX zcdX10_readsLine_256.1 (by decide) ?_
                      refine s_iadd hX zcdX10_readsLine_256.2.1 ?_
                      refine s_puti (ty := .int) hX fX10_165 oM0 rfl (Nat.le_of_ble_eq_true rfl) ty_10_7 rfl rfl zcdX10_readsLine_256.2.2.1 ?_
                      refine e_bndM h (fun M_16 h => ?_)
                      refine s_aload_n (k := 0) hX zcdX10_readsLine_256.2.2.2.1 rfl rfl ?_
                      refine s_get hX fX10_74 oM0 rfl zcdX10_readsLine_256.2.2.2.2.1 ?_
                      refine s_aload_n (k := 0) hX zcdX10_readsLine_256.2.2.2.2.2.1 rfl rfl ?_
                      refine s_get hX fX10_274 oM0 rfl zcdX10_readsLine_256.2.2.2.2.2.2.1 ?_
                      refine s_iconst (v := (nI 1)) hX zcdX10_readsLine_256.2.2.2.2.2.2.2 (by decide) ?_
                      refine e_iast hX aM22 zcdX10_readsLine_270.1 h (fun h => ?_)
                      refine e_bndM h (fun M_17 h => ?_)
                      exact j271 M_17 h
                  refine e_icmp_ne (tgt := 242) hX zcdX10_readsLine_181.2.2.1 (by decide) (m_eq (by decide +kernel)) h (fun h => ?_) (fun h => ?_)
                  · exact j242 M_12 h
                  · refine s_aload_n (k := 0) hX zcdX10_readsLine_181.2.2.2.1 rfl rfl ?_
                    refine s_aload_n (k := 0) hX zcdX10_readsLine_181.2.2.2.2.1 rfl rfl ?_
                    refine s_get hX fX10_165 oM0 rfl zcdX10_readsLine_181.2.2.2.2.2.1 ?_
                    refine s_iconst (v := (nI 1)) hX zcdX10_readsLine_181.2.2.2.2.2.2.1 (by decide) ?_
                    refine s_iadd hX zcdX10_readsLine_181.2.2.2.2.2.2.2 ?_
                    refine s_puti (ty := .int) hX fX10_165 oM0 rfl (Nat.le_of_ble_eq_true rfl) ty_10_7 rfl rfl zcdX10_readsLine_196.1 ?_
                    refine e_bndM h (fun M_18 h => ?_)
                    refine s_aload_n (k := 0) hX zcdX10_readsLine_196.2.1 rfl rfl ?_
                    refine e_callVp hX (t_X10_isDigit M_18) mX10_isDigit lX10_184 (by decide) (by decide) oM0 rfl rfl rfl rfl rfl (Nat.le_of_ble_eq_true rfl) zcdX10_readsLine_196.2.2.1 h (fun r_19 h => ?_)
                    refine e_if_ne (tgt := 216) hX zcdX10_readsLine_196.2.2.2.1 (by decide) z_eq h (fun h => ?_) (fun h => ?_)
                    · refine s_aload_n (k := 0) hX zcdX10_readsLine_212.2.2.1 rfl rfl ?_
                      refine s_get hX fX10_71 oM0 rfl zcdX10_readsLine_212.2.2.2.1 ?_
                      refine s_aload_n (k := 0) hX zcdX10_readsLine_212.2.2.2.2.1 rfl rfl ?_
                      refine s_get hX fX10_274 oM0 rfl zcdX10_readsLine_212.2.2.2.2.2.1 ?_
                      refine s_aload_n (k := 0) hX zcdX10_readsLine_212.2.2.2.2.2.2.1 rfl rfl ?_
                      refine e_callVp hX (t_X10_here M_18) mX10_here lX10_171 (by decide) (by decide) oM0 rfl rfl rfl rfl rfl (Nat.le_of_ble_eq_true rfl) zcdX10_readsLine_212.2.2.2.2.2.2.2 h (fun r_20 h => ?_)
                      refine s_bipush (v := (nI 48)) hX zcdX10_readsLine_228.1 (by decide) ?_
                      refine s_isub hX zcdX10_readsLine_228.2.1 ?_
                      refine e_iast hX aM21 zcdX10_readsLine_228.2.2.1 h (fun h => ?_)
                      refine e_bndM h (fun M_21 h => ?_)
                      refine s_aload_n (k := 0) hX zcdX10_readsLine_228.2.2.2.1 rfl rfl ?_
                      refine s_aload_n (k := 0) hX zcdX10_readsLine_228.2.2.2.2.1 rfl rfl ?_
                      refine s_get hX fX10_165 oM0 rfl zcdX10_readsLine_228.2.2.2.2.2.1 ?_
                      refine s_iconst (v := (nI 1)) hX zcdX10_readsLine_228.2.2.2.2.2.2.1 (by decide) ?_
                      refine s_iadd hX zcdX10_readsLine_228.2.2.2.2.2.2.2 ?_
                      refine s_puti (ty := .int) hX fX10_165 oM0 rfl (Nat.le_of_ble_eq_true rfl) ty_10_7 rfl rfl zcdX10_readsLine_239.1 ?_
                      refine e_bndM h (fun M_22 h => ?_)
                      exact j242 M_22 h
                    · refine s_aload_n (k := 0) hX zcdX10_readsLine_196.2.2.2.2.1 rfl rfl ?_
                      refine s_iconst (v := (nI 1)) hX zcdX10_readsLine_196.2.2.2.2.2.1 (by decide) ?_
                      refine s_aload_n (k := 0) hX zcdX10_readsLine_196.2.2.2.2.2.2.1 rfl rfl ?_
                      refine s_get hX fX10_165 oM0 rfl zcdX10_readsLine_196.2.2.2.2.2.2.2 ?_
                      refine e_callVi hX (t_X10_wrongAt (nI 1) (M_18 0 7) M_18) mX10_wrongAt lX10_178 (by decide) (by decide) oM0 rfl rfl rfl rfl rfl (Nat.le_of_ble_eq_true rfl) zcdX10_readsLine_212.1 h (fun r_23 M_24 h => ?_)
                      exact e_zreti hX hR zcdX10_readsLine_212.2.1 h
                refine e_icmp_ge (tgt := 160) hX zcdX10_readsLine_96.2.2.2.2.2.2.2 (by decide) r_le h (fun h => ?_) (fun h => ?_)
                · refine s_loc [0] rfl ?_
                  exact j160 h
                · refine s_aload_n (k := 0) hX zcdX10_readsLine_110.1 rfl rfl ?_
                  refine s_get hX fX10_65 oM0 rfl zcdX10_readsLine_110.2.1 ?_
                  refine s_iload_n (k := 2) hX zcdX10_readsLine_110.2.2.1 rfl rfl ?_
                  refine e_iald hX aM19 zcdX10_readsLine_110.2.2.2.1 h (fun h => ?_)
                  refine s_aload_n (k := 0) hX zcdX10_readsLine_110.2.2.2.2.1 rfl rfl ?_
                  refine s_get hX fX10_65 oM0 rfl zcdX10_readsLine_110.2.2.2.2.2.1 ?_
                  refine s_aload_n (k := 0) hX zcdX10_readsLine_110.2.2.2.2.2.2.1 rfl rfl ?_
                  refine s_get hX fX10_274 oM0 rfl zcdX10_readsLine_110.2.2.2.2.2.2.2 ?_
                  refine e_iald hX aM19 zcdX10_readsLine_124.1 h (fun h => ?_)
                  refine e_icmp_ne (tgt := 154) hX zcdX10_readsLine_124.2.1 (by decide) r_eq h (fun h => ?_) (fun h => ?_)
                  · refine s_iinc (k := 2) (v := (y2_102 + (nI 1))) (lv' := [(0, .ref (ad 0)), (1, .int x_1), (2, .int (y2_102 + (nI 1)))]) hX zcdX10_readsLine_153.2.1 (congrArg (fun z => y2_102 + z) (by decide)) (by decide) rfl rfl ?_
                    refine s_goto (tgt := 102) hX zcdX10_readsLine_153.2.2.1 (by decide) ?_
                    exact ih102 (y2_102 + (nI 1)) h
                  · refine s_aload_n (k := 0) hX zcdX10_readsLine_124.2.2.1 rfl rfl ?_
                    refine s_get hX fX10_68 oM0 rfl zcdX10_readsLine_124.2.2.2.1 ?_
                    refine s_iload_n (k := 2) hX zcdX10_readsLine_124.2.2.2.2.1 rfl rfl ?_
                    refine e_iald hX aM20 zcdX10_readsLine_124.2.2.2.2.2.1 h (fun h => ?_)
                    refine s_aload_n (k := 0) hX zcdX10_readsLine_124.2.2.2.2.2.2.1 rfl rfl ?_
                    refine s_get hX fX10_68 oM0 rfl zcdX10_readsLine_124.2.2.2.2.2.2.2 ?_
                    refine s_aload_n (k := 0) hX zcdX10_readsLine_138.1 rfl rfl ?_
                    refine s_get hX fX10_274 oM0 rfl zcdX10_readsLine_138.2.1 ?_
                    refine e_iald hX aM20 zcdX10_readsLine_138.2.2.1 h (fun h => ?_)
                    have j146 : f_X10_readsLine_L146 x_1 M_10 = some r0 → V X M_10 [(0, .ref (ad 0)), (1, .int x_1)] [] 146 := by
                      intro  h
                      refine s_aload_n (k := 0) hX zcdX10_readsLine_138.2.2.2.2.1 rfl rfl ?_
                      refine s_bipush (v := (nI 6)) hX zcdX10_readsLine_138.2.2.2.2.2.1 (by decide) ?_
                      refine s_iload_n (k := 1) hX zcdX10_readsLine_138.2.2.2.2.2.2.1 rfl rfl ?_
                      refine e_callVi hX (t_X10_wrongAt (nI 6) x_1 M_10) mX10_wrongAt lX10_178 (by decide) (by decide) oM0 rfl rfl rfl rfl rfl (Nat.le_of_ble_eq_true rfl) zcdX10_readsLine_138.2.2.2.2.2.2.2 h (fun r_25 M_26 h => ?_)
                      exact e_zreti hX hR zcdX10_readsLine_153.1 h
                    refine e_icmp_ne (tgt := 154) hX zcdX10_readsLine_138.2.2.2.1 (by decide) r_eq h (fun h => ?_) (fun h => ?_)
                    · refine s_iinc (k := 2) (v := (y2_102 + (nI 1))) (lv' := [(0, .ref (ad 0)), (1, .int x_1), (2, .int (y2_102 + (nI 1)))]) hX zcdX10_readsLine_153.2.1 (congrArg (fun z => y2_102 + z) (by decide)) (by decide) rfl rfl ?_
                      refine s_goto (tgt := 102) hX zcdX10_readsLine_153.2.2.1 (by decide) ?_
                      exact ih102 (y2_102 + (nI 1)) h
                    · refine s_loc [0, 1] rfl ?_
                      exact j146 h
            exact lp102 FU (nI 0) h
          · refine s_iconst (v := (nI 0)) hX zcdX10_readsLine_82.2.1 (by decide) ?_
            exact e_zretiL hX hR zcdX10_readsLine_82.2.2.1 (by decide) h
      · refine s_iconst (v := (nI 0)) hX zcdX10_readsLine_37.2.2.2.2.2.2.2 (by decide) ?_
        exact e_zretiL hX hR zcdX10_readsLine_52.1 (by decide) h
    · refine s_aload_n (k := 0) hX zcdX10_readsLine_22.2.2.2.2.1 rfl rfl ?_
      refine s_iconst (v := (nI 4)) hX zcdX10_readsLine_22.2.2.2.2.2.1 (by decide) ?_
      refine s_aload_n (k := 0) hX zcdX10_readsLine_22.2.2.2.2.2.2.1 rfl rfl ?_
      refine s_get hX fX10_165 oM0 rfl zcdX10_readsLine_22.2.2.2.2.2.2.2 ?_
      refine e_callVi hX (t_X10_wrongAt (nI 4) (M 0 7) M) mX10_wrongAt lX10_178 (by decide) (by decide) oM0 rfl rfl rfl rfl rfl (Nat.le_of_ble_eq_true rfl) zcdX10_readsLine_37.1 h (fun r_27 M_28 h => ?_)
      exact e_zreti hX hR zcdX10_readsLine_37.2.1 h
  · refine s_aload_n (k := 0) hX zcdX10_readsLine_6.2.2.1 rfl rfl ?_
    refine s_iconst (v := (nI 1)) hX zcdX10_readsLine_6.2.2.2.1 (by decide) ?_
    refine s_aload_n (k := 0) hX zcdX10_readsLine_6.2.2.2.2.1 rfl rfl ?_
    refine s_get hX fX10_165 oM0 rfl zcdX10_readsLine_6.2.2.2.2.2.1 ?_
    refine e_callVi hX (t_X10_wrongAt (nI 1) (M 0 7) M) mX10_wrongAt lX10_178 (by decide) (by decide) oM0 rfl rfl rfl rfl rfl (Nat.le_of_ble_eq_true rfl) zcdX10_readsLine_6.2.2.2.2.2.2.1 h (fun r_29 M_30 h => ?_)
    exact e_zreti hX hR zcdX10_readsLine_6.2.2.2.2.2.2.2 h
set_option maxHeartbeats 4000000 in
theorem t_X10_notebook (v1 : Int32) (M : Mem) : AXi yX10_notebook cX10_notebook 4 (some .int) 5 39 glM (fun ad => [.ref (ad 0), .int v1]) M (f_X10_notebook M v1) := by
  intro r0 h
  refine AM.of (by decide) (fun _ => Nat.le_of_ble_eq_true rfl) (fun X ad cI cZ cB hX hR => ?_)
  show V X M [(0, .ref (ad 0)), (1, .int v1)] [] 0
  refine s_iload_n (k := 1) hX zcdX10_readsLine_282.2.1 rfl rfl ?_
  refine s_iconst (v := (nI 1)) hX zcdX10_readsLine_282.2.2.1 (by decide) ?_
  refine s_sipush (v := (nI 200)) hX zcdX10_readsLine_282.2.2.2.1 (by decide) ?_
  refine e_callSp hX (t_X10_in v1 (nI 1) (nI 200) M) mX10_in lX10_132 (by decide) (by decide) rfl rfl (Nat.le_of_ble_eq_true rfl) zcdX10_readsLine_282.2.2.2.2.1 h (fun r_1 h => ?_)
  refine e_if_eq (tgt := 19) hX zcdX10_readsLine_282.2.2.2.2.2.1 (by decide) z_eq h (fun h => ?_) (fun h => ?_)
  · refine s_iconst (v := (-1)) hX zcdX10_notebook_13.2.2.1 (by decide) ?_
    exact e_ireti hX hR zcdX10_notebook_13.2.2.2.1 h
  · refine s_iload_n (k := 1) hX zcdX10_readsLine_282.2.2.2.2.2.2.1 rfl rfl ?_
    refine s_aload_n (k := 0) hX zcdX10_readsLine_282.2.2.2.2.2.2.2 rfl rfl ?_
    refine s_get hX fX10_158 oM0 rfl zcdX10_notebook_13.1 ?_
    refine e_icmp_le (tgt := 21) hX zcdX10_notebook_13.2.1 (by decide) r_le h (fun h => ?_) (fun h => ?_)
    · refine s_aload_n (k := 0) hX zcdX10_notebook_13.2.2.2.2.1 rfl rfl ?_
      refine s_iload_n (k := 1) hX zcdX10_notebook_13.2.2.2.2.2.1 rfl rfl ?_
      refine e_callVv hX (t_X10_beginsText v1 M) mX10_beginsText lX10_249 (by decide) (by decide) oM0 rfl rfl rfl rfl rfl (Nat.le_of_ble_eq_true rfl) zcdX10_notebook_13.2.2.2.2.2.2.1 h (fun M_2 h => ?_)
      refine s_aload_n (k := 0) hX zcdX10_notebook_13.2.2.2.2.2.2.2 rfl rfl ?_
      refine s_iconst (v := (nI 0)) hX zcdX10_notebook_27.1 (by decide) ?_
      refine s_puti (ty := .int) hX fX10_274 oM0 rfl (Nat.le_of_ble_eq_true rfl) ty_10_33 rfl rfl zcdX10_notebook_27.2.1 ?_
      refine e_bndM h (fun M_3 h => ?_)
      refine s_aload_n (k := 0) hX zcdX10_notebook_27.2.2.1 rfl rfl ?_
      refine e_callVi hX (t_X10_readsLine M_3) mX10_readsLine lX10_280 (by decide) (by decide) oM0 rfl rfl rfl rfl rfl (Nat.le_of_ble_eq_true rfl) zcdX10_notebook_27.2.2.2.1 h (fun r_4 M_5 h => ?_)
      refine s_istore_n (lv' := [(0, .ref (ad 0)), (1, .int v1), (2, .int r_4)]) hX zcdX10_notebook_27.2.2.2.2.1 rfl (by decide) rfl ?_
      have lp36 : ∀ (N36 : Nat) (M36 : Mem) (y2_36 : Int32), wlp2 f_X10_notebook_B36 N36 M36 y2_36 = some r0 → V X M36 [(0, .ref (ad 0)), (2, .int y2_36)] [] 36 := by
        intro N36
        induction N36 with
        | zero => exact fun _ _ h => e_none h
        | succ N36 ih36 =>
          intro M36 y2_36 h
          replace h : f_X10_notebook_B36 (wlp2 f_X10_notebook_B36 N36) M36 y2_36 = some r0 := h
          generalize wlp2 f_X10_notebook_B36 N36 = ag36 at ih36 h
          refine s_iload_n (k := 1) hX zcdX10_notebook_27.2.2.2.2.2.1 rfl rfl ?_
          have j76 : f_X10_notebook_L76 M36 y2_36 = some r0 → V X M36 [(0, .ref (ad 0)), (2, .int y2_36)] [] 76 := by
            intro  h
            refine s_aload_n (k := 0) hX zcdX10_notebook_76.1 rfl rfl ?_
            refine s_iconst (v := (nI 0)) hX zcdX10_notebook_76.2.1 (by decide) ?_
            refine s_puti (ty := .int) hX fX10_158 oM0 rfl (Nat.le_of_ble_eq_true rfl) ty_10_6 rfl rfl zcdX10_notebook_76.2.2.1 ?_
            refine e_bndM h (fun M_6 h => ?_)
            refine s_iload_n (k := 1) hX zcdX10_notebook_76.2.2.2.1 rfl rfl ?_
            refine e_if_ne (tgt := 90) hX zcdX10_notebook_76.2.2.2.2.1 (by decide) z_eq h (fun h => ?_) (fun h => ?_)
            · refine s_iconst (v := (nI 0)) hX zcdX10_notebook_90.1 (by decide) ?_
              refine s_istore_n (lv' := [(0, .ref (ad 0)), (2, .int y2_36), (3, .int (nI 0))]) hX zcdX10_notebook_90.2.1 rfl (by decide) rfl ?_
              have lp92 : ∀ (N92 : Nat) (M92 : Mem) (y3_92 : Int32), wlp2 f_X10_notebook_B92 N92 M92 y3_92 = some r0 → V X M92 [(0, .ref (ad 0)), (3, .int y3_92)] [] 92 := by
                intro N92
                induction N92 with
                | zero => exact fun _ _ h => e_none h
                | succ N92 ih92 =>
                  intro M92 y3_92 h
                  replace h : f_X10_notebook_B92 (wlp2 f_X10_notebook_B92 N92) M92 y3_92 = some r0 := h
                  generalize wlp2 f_X10_notebook_B92 N92 = ag92 at ih92 h
                  refine s_iload_n (k := 1) hX zcdX10_notebook_90.2.2.1 rfl rfl ?_
                  refine s_bipush (v := (nI 40)) hX zcdX10_notebook_90.2.2.2.1 (by decide) ?_
                  have j113 : f_X10_notebook_L113 M92 = some r0 → V X M92 [(0, .ref (ad 0))] [] 113 := by
                    intro  h
                    refine s_iconst (v := (nI 0)) hX zcdX10_notebook_103.2.2.2.2.2.2.1 (by decide) ?_
                    refine s_istore_n (lv' := [(0, .ref (ad 0)), (3, .int (nI 0))]) hX zcdX10_notebook_103.2.2.2.2.2.2.2 rfl (by decide) rfl ?_
                    have lp115 : ∀ (N115 : Nat) (M115 : Mem) (y3_115 : Int32), wlp2 f_X10_notebook_B115 N115 M115 y3_115 = some r0 → V X M115 [(0, .ref (ad 0)), (3, .int y3_115)] [] 115 := by
                      intro N115
                      induction N115 with
                      | zero => exact fun _ _ h => e_none h
                      | succ N115 ih115 =>
                        intro M115 y3_115 h
                        replace h : f_X10_notebook_B115 (wlp2 f_X10_notebook_B115 N115) M115 y3_115 = some r0 := h
                        generalize wlp2 f_X10_notebook_B115 N115 = ag115 at ih115 h
                        refine s_iload_n (k := 1) hX zcdX10_notebook_115.1 rfl rfl ?_
                        refine s_aload_n (k := 0) hX zcdX10_notebook_115.2.1 rfl rfl ?_
                        refine s_get hX fX10_274 oM0 rfl zcdX10_notebook_115.2.2.1 ?_
                        refine e_icmp_ge (tgt := 158) hX zcdX10_notebook_115.2.2.2.1 (by decide) r_le h (fun h => ?_) (fun h => ?_)
                        · refine s_aload_n (k := 0) hX zcdX10_notebook_155.2.1 rfl rfl ?_
                          refine s_get hX fX10_274 oM0 rfl zcdX10_notebook_155.2.2.1 ?_
                          exact e_ireti hX hR zcdX10_notebook_155.2.2.2.1 h
                        · refine s_aload_n (k := 0) hX zcdX10_notebook_115.2.2.2.2.1 rfl rfl ?_
                          refine s_iload_n (k := 1) hX zcdX10_notebook_115.2.2.2.2.2.1 rfl rfl ?_
                          refine s_aload_n (k := 0) hX zcdX10_notebook_115.2.2.2.2.2.2.1 rfl rfl ?_
                          refine s_get hX fX10_65 oM0 rfl zcdX10_notebook_115.2.2.2.2.2.2.2 ?_
                          refine s_iload_n (k := 1) hX zcdX10_notebook_129.1 rfl rfl ?_
                          refine e_iald hX aM19 zcdX10_notebook_129.2.1 h (fun h => ?_)
                          refine s_aload_n (k := 0) hX zcdX10_notebook_129.2.2.1 rfl rfl ?_
                          refine s_get hX fX10_68 oM0 rfl zcdX10_notebook_129.2.2.2.1 ?_
                          refine s_iload_n (k := 1) hX zcdX10_notebook_129.2.2.2.2.1 rfl rfl ?_
                          refine e_iald hX aM20 zcdX10_notebook_129.2.2.2.2.2.1 h (fun h => ?_)
                          refine s_aload_n (k := 0) hX zcdX10_notebook_129.2.2.2.2.2.2.1 rfl rfl ?_
                          refine s_get hX fX10_71 oM0 rfl zcdX10_notebook_129.2.2.2.2.2.2.2 ?_
                          refine s_iload_n (k := 1) hX zcdX10_notebook_141.1 rfl rfl ?_
                          refine e_iald hX aM21 zcdX10_notebook_141.2.1 h (fun h => ?_)
                          refine s_aload_n (k := 0) hX zcdX10_notebook_141.2.2.1 rfl rfl ?_
                          refine s_get hX fX10_74 oM0 rfl zcdX10_notebook_141.2.2.2.1 ?_
                          refine s_iload_n (k := 1) hX zcdX10_notebook_141.2.2.2.2.1 rfl rfl ?_
                          refine e_iald hX aM22 zcdX10_notebook_141.2.2.2.2.2.1 h (fun h => ?_)
                          refine e_callVv hX (t_X10_laysStone y3_115 (M115 19 (ix y3_115)) (M115 20 (ix y3_115)) (M115 21 (ix y3_115)) (M115 22 (ix y3_115)) M115) mX10_laysStone lX10_150 (by decide) (by decide) oM0 rfl rfl rfl rfl rfl (Nat.le_of_ble_eq_true rfl) zcdX10_notebook_141.2.2.2.2.2.2.1 h (fun M_7 h => ?_)
                          refine s_iinc (k := 1) (v := (y3_115 + (nI 1))) (lv' := [(0, .ref (ad 0)), (3, .int (y3_115 + (nI 1)))]) hX zcdX10_notebook_141.2.2.2.2.2.2.2 (congrArg (fun z => y3_115 + z) (by decide)) (by decide) rfl rfl ?_
                          refine s_goto (tgt := 115) hX zcdX10_notebook_155.1 (by decide) ?_
                          exact ih115 M_7 (y3_115 + (nI 1)) h
                    exact lp115 FU M92 (nI 0) h
                  refine e_icmp_ge (tgt := 113) hX zcdX10_notebook_90.2.2.2.2.1 (by decide) (m_ge (by decide +kernel)) h (fun h => ?_) (fun h => ?_)
                  · refine s_loc [0] rfl ?_
                    exact j113 h
                  · refine s_aload_n (k := 0) hX zcdX10_notebook_90.2.2.2.2.2.1 rfl rfl ?_
                    refine s_get hX fX10_7 oM0 rfl zcdX10_notebook_90.2.2.2.2.2.2.1 ?_
                    refine s_iconst (v := (nI 0)) hX zcdX10_notebook_90.2.2.2.2.2.2.2 (by decide) ?_
                    refine s_iload_n (k := 1) hX zcdX10_notebook_103.1 rfl rfl ?_
                    refine s_iadd hX zcdX10_notebook_103.2.1 ?_
                    refine s_top (zadd _) ?_
                    refine s_iconst (v := (nI 0)) hX zcdX10_notebook_103.2.2.1 (by decide) ?_
                    refine e_iast hX aM1 zcdX10_notebook_103.2.2.2.1 h (fun h => ?_)
                    refine e_bndM h (fun M_8 h => ?_)
                    refine s_iinc (k := 1) (v := (y3_92 + (nI 1))) (lv' := [(0, .ref (ad 0)), (3, .int (y3_92 + (nI 1)))]) hX zcdX10_notebook_103.2.2.2.2.1 (congrArg (fun z => y3_92 + z) (by decide)) (by decide) rfl rfl ?_
                    refine s_goto (tgt := 92) hX zcdX10_notebook_103.2.2.2.2.2.1 (by decide) ?_
                    exact ih92 M_8 (y3_92 + (nI 1)) h
              refine s_loc [0, 2] rfl ?_
              exact lp92 FU M_6 (nI 0) h
            · refine s_aload_n (k := 0) hX zcdX10_notebook_76.2.2.2.2.2.1 rfl rfl ?_
              refine s_get hX fX10_175 oM0 rfl zcdX10_notebook_76.2.2.2.2.2.2.1 ?_
              exact e_ireti hX hR zcdX10_notebook_76.2.2.2.2.2.2.2 h
          refine e_if_eq (tgt := 76) hX zcdX10_notebook_27.2.2.2.2.2.2.1 (by decide) z_eq h (fun h => ?_) (fun h => ?_)
          · exact j76 h
          · refine s_aload_n (k := 0) hX zcdX10_notebook_27.2.2.2.2.2.2.2 rfl rfl ?_
            refine s_get hX fX10_165 oM0 rfl zcdX10_notebook_41.1 ?_
            refine s_aload_n (k := 0) hX zcdX10_notebook_41.2.1 rfl rfl ?_
            refine s_get hX fX10_168 oM0 rfl zcdX10_notebook_41.2.2.1 ?_
            refine e_icmp_ge (tgt := 76) hX zcdX10_notebook_41.2.2.2.1 (by decide) r_le h (fun h => ?_) (fun h => ?_)
            · exact j76 h
            · refine s_aload_n (k := 0) hX zcdX10_notebook_41.2.2.2.2.1 rfl rfl ?_
              refine s_bipush (v := (nI 59)) hX zcdX10_notebook_41.2.2.2.2.2.1 (by decide) ?_
              refine e_callVi hX (t_X10_takesSign (nI 59) M36) mX10_takesSign lX10_255 (by decide) (by decide) oM0 rfl rfl rfl rfl rfl (Nat.le_of_ble_eq_true rfl) zcdX10_notebook_41.2.2.2.2.2.2.1 h (fun r_9 M_10 h => ?_)
              refine e_if_eq (tgt := 71) hX zcdX10_notebook_41.2.2.2.2.2.2.2 (by decide) z_eq h (fun h => ?_) (fun h => ?_)
              · refine s_iconst (v := (nI 0)) hX zcdX10_notebook_60.2.2.2.2.2.1 (by decide) ?_
                refine s_istore_n (lv' := [(0, .ref (ad 0)), (2, .int (nI 0))]) hX zcdX10_notebook_60.2.2.2.2.2.2.1 rfl (by decide) rfl ?_
                refine s_goto (tgt := 36) hX zcdX10_notebook_60.2.2.2.2.2.2.2 (by decide) ?_
                exact ih36 M_10 (nI 0) h
              · refine s_aload_n (k := 0) hX zcdX10_notebook_60.1 rfl rfl ?_
                refine e_callVi hX (t_X10_readsLine M_10) mX10_readsLine lX10_280 (by decide) (by decide) oM0 rfl rfl rfl rfl rfl (Nat.le_of_ble_eq_true rfl) zcdX10_notebook_60.2.1 h (fun r_11 M_12 h => ?_)
                refine e_if_eq (tgt := 71) hX zcdX10_notebook_60.2.2.1 (by decide) z_eq h (fun h => ?_) (fun h => ?_)
                · refine s_iconst (v := (nI 0)) hX zcdX10_notebook_60.2.2.2.2.2.1 (by decide) ?_
                  refine s_istore_n (lv' := [(0, .ref (ad 0)), (2, .int (nI 0))]) hX zcdX10_notebook_60.2.2.2.2.2.2.1 rfl (by decide) rfl ?_
                  refine s_goto (tgt := 36) hX zcdX10_notebook_60.2.2.2.2.2.2.2 (by decide) ?_
                  exact ih36 M_12 (nI 0) h
                · refine s_iconst (v := (nI 1)) hX zcdX10_notebook_60.2.2.2.1 (by decide) ?_
                  refine s_goto (tgt := 72) hX zcdX10_notebook_60.2.2.2.2.1 (by decide) ?_
                  refine s_istore_n (lv' := [(0, .ref (ad 0)), (2, .int (nI 1))]) hX zcdX10_notebook_60.2.2.2.2.2.2.1 rfl (by decide) rfl ?_
                  refine s_goto (tgt := 36) hX zcdX10_notebook_60.2.2.2.2.2.2.2 (by decide) ?_
                  exact ih36 M_12 (nI 1) h
      refine s_loc [0, 2] rfl ?_
      exact lp36 FU M_5 r_4 h
    · refine s_iconst (v := (-1)) hX zcdX10_notebook_13.2.2.1 (by decide) ?_
      exact e_ireti hX hR zcdX10_notebook_13.2.2.2.1 h
set_option maxHeartbeats 4000000 in
theorem t_X10_wouldDo (v1 : Int32) (v2 : Int32) (v3 : Int32) (M : Mem) : AXp yX10_wouldDo cX10_wouldDo 9 (some .boolean) 1 39 glM (fun ad => [.ref (ad 0), .int v1, .int v2, .int v3]) M (f_X10_wouldDo M v1 v2 v3) := by
  intro r0 h
  refine AM.of (by decide) (fun _ => Nat.le_of_ble_eq_true rfl) (fun X ad cI cZ cB hX hR => ?_)
  show V X M [(0, .ref (ad 0)), (1, .int v1), (2, .int v2), (3, .int v3)] [] 0
  refine s_iload_n (k := 2) hX zcdX10_notebook_155.2.2.2.2.1 rfl rfl ?_
  refine s_iload_n (k := 3) hX zcdX10_notebook_155.2.2.2.2.2.1 rfl rfl ?_
  have j10 : ∀ (t0_10 : Int32), f_X10_wouldDo_L10 M v1 v2 v3 t0_10 = some r0 → V X M [(0, .ref (ad 0)), (1, .int v1), (2, .int v2), (3, .int v3)] [.int t0_10] 10 := by
    intro t0_10 h
    refine s_istore (lv' := [(0, .ref (ad 0)), (1, .int v1), (2, .int v2), (3, .int v3), (4, .int t0_10)]) hX zcdX10_wouldDo_6.2.2.1 (by decide) rfl ?_
    refine s_bipush (v := (nI 21)) hX zcdX10_wouldDo_6.2.2.2.1 (by decide) ?_
    refine s_iload_n (k := 2) hX zcdX10_wouldDo_6.2.2.2.2.1 rfl rfl ?_
    refine s_isub hX zcdX10_wouldDo_6.2.2.2.2.2.1 ?_
    refine s_iload_n (k := 3) hX zcdX10_wouldDo_6.2.2.2.2.2.2.1 rfl rfl ?_
    have j25 : ∀ (t0_25 : Int32), f_X10_wouldDo_L25 M v1 v2 v3 t0_10 t0_25 = some r0 → V X M [(0, .ref (ad 0)), (1, .int v1), (2, .int v2), (3, .int v3), (4, .int t0_10)] [.int t0_25] 25 := by
      intro t0_25 h
      refine s_istore (lv' := [(0, .ref (ad 0)), (1, .int v1), (2, .int v2), (3, .int v3), (4, .int t0_10), (5, .int t0_25)]) hX zcdX10_wouldDo_20.2.2.2.1 (by decide) rfl ?_
      refine s_iconst (v := (nI 0)) hX zcdX10_wouldDo_20.2.2.2.2.1 (by decide) ?_
      refine s_istore (lv' := [(0, .ref (ad 0)), (1, .int v1), (2, .int v2), (3, .int v3), (4, .int t0_10), (5, .int t0_25), (6, .int (nI 0))]) hX zcdX10_wouldDo_20.2.2.2.2.2.1 (by decide) rfl ?_
      have lp30 : ∀ (N30 : Nat) (y4_30 : Int32) (y5_30 : Int32) (y6_30 : Int32), wlp3 (f_X10_wouldDo_B30 M v1 v2 v3) N30 y4_30 y5_30 y6_30 = some r0 → V X M [(0, .ref (ad 0)), (1, .int v1), (2, .int v2), (3, .int v3), (4, .int y4_30), (5, .int y5_30), (6, .int y6_30)] [] 30 := by
        intro N30
        induction N30 with
        | zero => exact fun _ _ _ h => e_none h
        | succ N30 ih30 =>
          intro y4_30 y5_30 y6_30 h
          replace h : f_X10_wouldDo_B30 M v1 v2 v3 (wlp3 (f_X10_wouldDo_B30 M v1 v2 v3) N30) y4_30 y5_30 y6_30 = some r0 := h
          generalize wlp3 (f_X10_wouldDo_B30 M v1 v2 v3) N30 = ag30 at ih30 h
          refine s_iload (k := 6) hX zcdX10_wouldDo_20.2.2.2.2.2.2.1 rfl ?_
          refine s_bipush (v := (nI 40)) hX zcdX10_wouldDo_20.2.2.2.2.2.2.2 (by decide) ?_
          have j149 : f_X10_wouldDo_L149 y4_30 y5_30 = some r0 → V X M [(4, .int y4_30), (5, .int y5_30)] [] 149 := by
            intro  h
            refine s_iload (k := 0) hX zcdX10_wouldDo_136.2.2.2.2.2.2.1 rfl ?_
            refine e_if_eq (tgt := 163) hX zcdX10_wouldDo_136.2.2.2.2.2.2.2 (by decide) z_eq h (fun h => ?_) (fun h => ?_)
            · refine s_iconst (v := (nI 0)) hX zcdX10_wouldDo_154.2.2.2.2.1 (by decide) ?_
              exact e_zretpL hX hR zcdX10_wouldDo_154.2.2.2.2.2 (by decide) h
            · refine s_iload (k := 1) hX zcdX10_wouldDo_154.1 rfl ?_
              refine e_if_eq (tgt := 163) hX zcdX10_wouldDo_154.2.1 (by decide) z_eq h (fun h => ?_) (fun h => ?_)
              · refine s_iconst (v := (nI 0)) hX zcdX10_wouldDo_154.2.2.2.2.1 (by decide) ?_
                exact e_zretpL hX hR zcdX10_wouldDo_154.2.2.2.2.2 (by decide) h
              · refine s_iconst (v := (nI 1)) hX zcdX10_wouldDo_154.2.2.1 (by decide) ?_
                refine s_goto (tgt := 164) hX zcdX10_wouldDo_154.2.2.2.1 (by decide) ?_
                exact e_zretpL hX hR zcdX10_wouldDo_154.2.2.2.2.2 (by decide) h
          refine e_icmp_ge (tgt := 149) hX zcdX10_wouldDo_34.1 (by decide) (m_ge (by decide +kernel)) h (fun h => ?_) (fun h => ?_)
          · refine s_loc [4, 5] rfl ?_
            exact j149 h
          · refine s_aload_n (k := 0) hX zcdX10_wouldDo_34.2.1 rfl rfl ?_
            refine s_iload (k := 6) hX zcdX10_wouldDo_34.2.2.1 rfl ?_
            refine e_callVp hX (t_X10_isDry y6_30 M) mX10_isDry lX10_319 (by decide) (by decide) oM0 rfl rfl rfl rfl rfl (Nat.le_of_ble_eq_true rfl) zcdX10_wouldDo_34.2.2.2.1 h (fun r_1 h => ?_)
            refine e_if_ne (tgt := 49) hX zcdX10_wouldDo_34.2.2.2.2.1 (by decide) z_eq h (fun h => ?_) (fun h => ?_)
            · refine s_aload_n (k := 0) hX zcdX10_wouldDo_34.2.2.2.2.2.2.1 rfl rfl ?_
              refine s_get hX fX10_7 oM0 rfl zcdX10_wouldDo_34.2.2.2.2.2.2.2 ?_
              refine s_bipush (v := (nI 40)) hX zcdX10_wouldDo_53.1 (by decide) ?_
              refine s_iload (k := 6) hX zcdX10_wouldDo_53.2.1 rfl ?_
              refine s_iadd hX zcdX10_wouldDo_53.2.2.1 ?_
              refine e_iald hX aM1 zcdX10_wouldDo_53.2.2.2.1 h (fun h => ?_)
              refine s_iload_n (k := 1) hX zcdX10_wouldDo_53.2.2.2.2.1 rfl rfl ?_
              refine s_isub hX zcdX10_wouldDo_53.2.2.2.2.2.1 ?_
              refine e_bnd h (fun x_2 h => ?_)
              refine s_istore (lv' := [(0, .ref (ad 0)), (1, .int v1), (2, .int v2), (3, .int v3), (4, .int y4_30), (5, .int y5_30), (6, .int y6_30), (7, .int x_2)]) hX zcdX10_wouldDo_53.2.2.2.2.2.2.1 (by decide) rfl ?_
              refine s_aload_n (k := 0) hX zcdX10_wouldDo_53.2.2.2.2.2.2.2 rfl rfl ?_
              refine s_get hX fX10_7 oM0 rfl zcdX10_wouldDo_64.1 ?_
              refine s_bipush (v := (nI 80)) hX zcdX10_wouldDo_64.2.1 (by decide) ?_
              refine s_iload (k := 6) hX zcdX10_wouldDo_64.2.2.1 rfl ?_
              refine s_iadd hX zcdX10_wouldDo_64.2.2.2.1 ?_
              refine e_iald hX aM1 zcdX10_wouldDo_64.2.2.2.2.1 h (fun h => ?_)
              refine s_iload_n (k := 2) hX zcdX10_wouldDo_64.2.2.2.2.2.1 rfl rfl ?_
              refine s_isub hX zcdX10_wouldDo_64.2.2.2.2.2.2.1 ?_
              refine e_bnd h (fun x_3 h => ?_)
              refine s_istore (lv' := [(0, .ref (ad 0)), (1, .int v1), (2, .int v2), (3, .int v3), (4, .int y4_30), (5, .int y5_30), (6, .int y6_30), (7, .int x_2), (8, .int x_3)]) hX zcdX10_wouldDo_64.2.2.2.2.2.2.2 (by decide) rfl ?_
              refine s_iload (k := 7) hX zcdX10_wouldDo_77.1 rfl ?_
              refine s_iload (k := 7) hX zcdX10_wouldDo_77.2.1 rfl ?_
              refine s_imul hX zcdX10_wouldDo_77.2.2.1 ?_
              refine s_iload (k := 8) hX zcdX10_wouldDo_77.2.2.2.1 rfl ?_
              refine s_iload (k := 8) hX zcdX10_wouldDo_77.2.2.2.2.1 rfl ?_
              refine s_imul hX zcdX10_wouldDo_77.2.2.2.2.2.1 ?_
              refine s_iadd hX zcdX10_wouldDo_77.2.2.2.2.2.2.1 ?_
              refine s_iload_n (k := 3) hX zcdX10_wouldDo_77.2.2.2.2.2.2.2 rfl rfl ?_
              refine s_iload_n (k := 3) hX zcdX10_wouldDo_89.1 rfl rfl ?_
              refine s_imul hX zcdX10_wouldDo_89.2.1 ?_
              refine e_icmp_le (tgt := 97) hX zcdX10_wouldDo_89.2.2.1 (by decide) r_le h (fun h => ?_) (fun h => ?_)
              · refine s_iload (k := 4) hX zcdX10_wouldDo_89.2.2.2.2.1 rfl ?_
                have j118 : ∀ (t0_118 : Int32), f_X10_wouldDo_L118 M ag30 y5_30 y6_30 t0_118 = some r0 → V X M [(0, .ref (ad 0)), (1, .int v1), (2, .int v2), (3, .int v3), (5, .int y5_30), (6, .int y6_30)] [.int t0_118] 118 := by
                  intro t0_118 h
                  refine s_istore (lv' := [(0, .ref (ad 0)), (1, .int v1), (2, .int v2), (3, .int v3), (5, .int y5_30), (6, .int y6_30), (4, .int t0_118)]) hX zcdX10_wouldDo_106.2.2.2.2.2.2.2 (by decide) rfl ?_
                  refine s_iload (k := 4) hX zcdX10_wouldDo_120.1 rfl ?_
                  refine e_if_ne (tgt := 136) hX zcdX10_wouldDo_120.2.1 (by decide) z_eq h (fun h => ?_) (fun h => ?_)
                  · refine s_iconst (v := (nI 1)) hX zcdX10_wouldDo_136.1 (by decide) ?_
                    refine s_goto (tgt := 141) hX zcdX10_wouldDo_136.2.1 (by decide) ?_
                    refine s_istore (lv' := [(0, .ref (ad 0)), (1, .int v1), (2, .int v2), (3, .int v3), (6, .int y6_30), (4, .int t0_118), (5, .int (nI 1))]) hX zcdX10_wouldDo_136.2.2.2.1 (by decide) rfl ?_
                    refine s_iinc (k := 4) (v := (y6_30 + (nI 1))) (lv' := [(0, .ref (ad 0)), (1, .int v1), (2, .int v2), (3, .int v3), (4, .int t0_118), (5, .int (nI 1)), (6, .int (y6_30 + (nI 1)))]) hX zcdX10_wouldDo_136.2.2.2.2.1 (congrArg (fun z => y6_30 + z) (by decide)) (by decide) rfl rfl ?_
                    refine s_goto (tgt := 30) hX zcdX10_wouldDo_136.2.2.2.2.2.1 (by decide) ?_
                    exact ih30 t0_118 (nI 1) (y6_30 + (nI 1)) h
                  · refine s_aload_n (k := 0) hX zcdX10_wouldDo_120.2.2.1 rfl rfl ?_
                    refine s_get hX fX10_80 oM0 rfl zcdX10_wouldDo_120.2.2.2.1 ?_
                    refine s_iload (k := 5) hX zcdX10_wouldDo_120.2.2.2.2.1 rfl ?_
                    refine e_iald hX aM24 zcdX10_wouldDo_120.2.2.2.2.2.1 h (fun h => ?_)
                    refine s_iconst (v := (-1)) hX zcdX10_wouldDo_120.2.2.2.2.2.2.1 (by decide) ?_
                    refine e_icmp_eq (tgt := 140) hX zcdX10_wouldDo_120.2.2.2.2.2.2.2 (by decide) (m_eq (by decide +kernel)) h (fun h => ?_) (fun h => ?_)
                    · refine s_iconst (v := (nI 0)) hX zcdX10_wouldDo_136.2.2.1 (by decide) ?_
                      refine s_istore (lv' := [(0, .ref (ad 0)), (1, .int v1), (2, .int v2), (3, .int v3), (6, .int y6_30), (4, .int t0_118), (5, .int (nI 0))]) hX zcdX10_wouldDo_136.2.2.2.1 (by decide) rfl ?_
                      refine s_iinc (k := 4) (v := (y6_30 + (nI 1))) (lv' := [(0, .ref (ad 0)), (1, .int v1), (2, .int v2), (3, .int v3), (4, .int t0_118), (5, .int (nI 0)), (6, .int (y6_30 + (nI 1)))]) hX zcdX10_wouldDo_136.2.2.2.2.1 (congrArg (fun z => y6_30 + z) (by decide)) (by decide) rfl rfl ?_
                      refine s_goto (tgt := 30) hX zcdX10_wouldDo_136.2.2.2.2.2.1 (by decide) ?_
                      exact ih30 t0_118 (nI 0) (y6_30 + (nI 1)) h
                    · refine s_iconst (v := (nI 1)) hX zcdX10_wouldDo_136.1 (by decide) ?_
                      refine s_goto (tgt := 141) hX zcdX10_wouldDo_136.2.1 (by decide) ?_
                      refine s_istore (lv' := [(0, .ref (ad 0)), (1, .int v1), (2, .int v2), (3, .int v3), (6, .int y6_30), (4, .int t0_118), (5, .int (nI 1))]) hX zcdX10_wouldDo_136.2.2.2.1 (by decide) rfl ?_
                      refine s_iinc (k := 4) (v := (y6_30 + (nI 1))) (lv' := [(0, .ref (ad 0)), (1, .int v1), (2, .int v2), (3, .int v3), (4, .int t0_118), (5, .int (nI 1)), (6, .int (y6_30 + (nI 1)))]) hX zcdX10_wouldDo_136.2.2.2.2.1 (congrArg (fun z => y6_30 + z) (by decide)) (by decide) rfl rfl ?_
                      refine s_goto (tgt := 30) hX zcdX10_wouldDo_136.2.2.2.2.2.1 (by decide) ?_
                      exact ih30 t0_118 (nI 1) (y6_30 + (nI 1)) h
                have j113 : f_X10_wouldDo_L113 M ag30 y5_30 y6_30 = some r0 → V X M [(0, .ref (ad 0)), (1, .int v1), (2, .int v2), (3, .int v3), (5, .int y5_30), (6, .int y6_30)] [] 113 := by
                  intro  h
                  refine s_iconst (v := (nI 1)) hX zcdX10_wouldDo_106.2.2.2.2.1 (by decide) ?_
                  refine s_goto (tgt := 118) hX zcdX10_wouldDo_106.2.2.2.2.2.1 (by decide) ?_
                  exact j118 (nI 1) h
                refine e_if_ne (tgt := 113) hX zcdX10_wouldDo_89.2.2.2.2.2.1 (by decide) z_eq h (fun h => ?_) (fun h => ?_)
                · refine s_loc [0, 1, 2, 3, 5, 6] rfl ?_
                  exact j113 h
                · refine s_aload_n (k := 0) hX zcdX10_wouldDo_89.2.2.2.2.2.2.1 rfl rfl ?_
                  refine s_get hX fX10_77 oM0 rfl zcdX10_wouldDo_89.2.2.2.2.2.2.2 ?_
                  refine s_iload (k := 6) hX zcdX10_wouldDo_106.1 rfl ?_
                  refine e_iald hX aM23 zcdX10_wouldDo_106.2.1 h (fun h => ?_)
                  refine s_iconst (v := (-1)) hX zcdX10_wouldDo_106.2.2.1 (by decide) ?_
                  refine e_icmp_eq (tgt := 117) hX zcdX10_wouldDo_106.2.2.2.1 (by decide) (m_eq (by decide +kernel)) h (fun h => ?_) (fun h => ?_)
                  · refine s_iconst (v := (nI 0)) hX zcdX10_wouldDo_106.2.2.2.2.2.2.1 (by decide) ?_
                    refine s_loc [0, 1, 2, 3, 5, 6] rfl ?_
                    exact j118 (nI 0) h
                  · refine s_loc [0, 1, 2, 3, 5, 6] rfl ?_
                    exact j113 h
              · refine s_goto (tgt := 143) hX zcdX10_wouldDo_89.2.2.2.1 (by decide) ?_
                refine s_iinc (k := 6) (v := (y6_30 + (nI 1))) (lv' := [(0, .ref (ad 0)), (1, .int v1), (2, .int v2), (3, .int v3), (4, .int y4_30), (5, .int y5_30), (7, .int x_2), (8, .int x_3), (6, .int (y6_30 + (nI 1)))]) hX zcdX10_wouldDo_136.2.2.2.2.1 (congrArg (fun z => y6_30 + z) (by decide)) (by decide) rfl rfl ?_
                refine s_goto (tgt := 30) hX zcdX10_wouldDo_136.2.2.2.2.2.1 (by decide) ?_
                refine s_loc [0, 1, 2, 3, 4, 5, 8] rfl ?_
                exact ih30 y4_30 y5_30 (y6_30 + (nI 1)) h
            · refine s_goto (tgt := 143) hX zcdX10_wouldDo_34.2.2.2.2.2.1 (by decide) ?_
              refine s_iinc (k := 6) (v := (y6_30 + (nI 1))) (lv' := [(0, .ref (ad 0)), (1, .int v1), (2, .int v2), (3, .int v3), (4, .int y4_30), (5, .int y5_30), (6, .int (y6_30 + (nI 1)))]) hX zcdX10_wouldDo_136.2.2.2.2.1 (congrArg (fun z => y6_30 + z) (by decide)) (by decide) rfl rfl ?_
              refine s_goto (tgt := 30) hX zcdX10_wouldDo_136.2.2.2.2.2.1 (by decide) ?_
              exact ih30 y4_30 y5_30 (y6_30 + (nI 1)) h
      exact lp30 FU t0_10 t0_25 (nI 0) h
    refine e_icmp_gt (tgt := 24) hX zcdX10_wouldDo_6.2.2.2.2.2.2.2 (by decide) r_lt h (fun h => ?_) (fun h => ?_)
    · refine s_iconst (v := (nI 0)) hX zcdX10_wouldDo_20.2.2.1 (by decide) ?_
      exact j25 (nI 0) h
    · refine s_iconst (v := (nI 1)) hX zcdX10_wouldDo_20.1 (by decide) ?_
      refine s_goto (tgt := 25) hX zcdX10_wouldDo_20.2.1 (by decide) ?_
      exact j25 (nI 1) h
  refine e_icmp_gt (tgt := 9) hX zcdX10_notebook_155.2.2.2.2.2.2.1 (by decide) r_lt h (fun h => ?_) (fun h => ?_)
  · refine s_iconst (v := (nI 0)) hX zcdX10_wouldDo_6.2.1 (by decide) ?_
    exact j10 (nI 0) h
  · refine s_iconst (v := (nI 1)) hX zcdX10_notebook_155.2.2.2.2.2.2.2 (by decide) ?_
    refine s_goto (tgt := 10) hX zcdX10_wouldDo_6.1 (by decide) ?_
    exact j10 (nI 1) h
