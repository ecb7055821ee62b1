theorem dX10_oneMore_0 : decode cX10_oneMore 0 = .ok (.aload_n 0, 1) := by decide +kernel
theorem dX10_oneMore_1 : decode cX10_oneMore 1 = .ok (.iload_n 1, 1) := by decide +kernel
theorem dX10_oneMore_2 : decode cX10_oneMore 2 = .ok (.invokevirtual 334, 3) := by decide +kernel
theorem dX10_oneMore_5 : decode cX10_oneMore 5 = .ok (.ifCond .eq 12, 3) := by decide +kernel
theorem dX10_oneMore_8 : decode cX10_oneMore 8 = .ok (.iload_n 2, 1) := by decide +kernel
theorem dX10_oneMore_9 : decode cX10_oneMore 9 = .ok (.iconst 0, 1) := by decide +kernel
theorem dX10_oneMore_10 : decode cX10_oneMore 10 = .ok (.iconst 1, 1) := by decide +kernel
theorem dX10_oneMore_11 : decode cX10_oneMore 11 = .ok (.invokestatic 132, 3) := by decide +kernel
theorem dX10_oneMore_14 : decode cX10_oneMore 14 = .ok (.ifCond .ne 5, 3) := by decide +kernel
theorem dX10_oneMore_17 : decode cX10_oneMore 17 = .ok (.iconst (-1), 1) := by decide +kernel
theorem dX10_oneMore_18 : decode cX10_oneMore 18 = .ok (.ireturn, 1) := by decide +kernel
theorem dX10_oneMore_19 : decode cX10_oneMore 19 = .ok (.aload_n 0, 1) := by decide +kernel
theorem dX10_oneMore_20 : decode cX10_oneMore 20 = .ok (.getfield 19, 3) := by decide +kernel
theorem dX10_oneMore_23 : decode cX10_oneMore 23 = .ok (.iload_n 1, 1) := by decide +kernel
theorem dX10_oneMore_24 : decode cX10_oneMore 24 = .ok (.iaload, 1) := by decide +kernel
theorem dX10_oneMore_25 : decode cX10_oneMore 25 = .ok (.istore_n 3, 1) := by decide +kernel
theorem dX10_oneMore_26 : decode cX10_oneMore 26 = .ok (.aload_n 0, 1) := by decide +kernel
theorem dX10_oneMore_27 : decode cX10_oneMore 27 = .ok (.iload_n 3, 1) := by decide +kernel
theorem dX10_oneMore_28 : decode cX10_oneMore 28 = .ok (.invokevirtual 337, 3) := by decide +kernel
theorem dX10_oneMore_31 : decode cX10_oneMore 31 = .ok (.iconst (-1), 1) := by decide +kernel
theorem dX10_oneMore_32 : decode cX10_oneMore 32 = .ok (.if_icmp .eq 6, 3) := by decide +kernel
theorem dX10_oneMore_35 : decode cX10_oneMore 35 = .ok (.bipush (-3), 2) := by decide +kernel
theorem dX10_oneMore_37 : decode cX10_oneMore 37 = .ok (.ireturn, 1) := by decide +kernel
theorem dX10_oneMore_38 : decode cX10_oneMore 38 = .ok (.aload_n 0, 1) := by decide +kernel
theorem dX10_oneMore_39 : decode cX10_oneMore 39 = .ok (.aload_n 0, 1) := by decide +kernel
theorem dX10_oneMore_40 : decode cX10_oneMore 40 = .ok (.getfield 80, 3) := by decide +kernel
theorem dX10_oneMore_43 : decode cX10_oneMore 43 = .ok (.iconst 0, 1) := by decide +kernel
theorem dX10_oneMore_44 : decode cX10_oneMore 44 = .ok (.iload_n 3, 1) := by decide +kernel
theorem dX10_oneMore_45 : decode cX10_oneMore 45 = .ok (.invokevirtual 329, 3) := by decide +kernel
theorem dX10_oneMore_48 : decode cX10_oneMore 48 = .ok (.iconst 1, 1) := by decide +kernel
theorem dX10_oneMore_49 : decode cX10_oneMore 49 = .ok (.istore 4, 2) := by decide +kernel
theorem dX10_oneMore_51 : decode cX10_oneMore 51 = .ok (.iload 4, 2) := by decide +kernel
theorem dX10_oneMore_53 : decode cX10_oneMore 53 = .ok (.bipush 20, 2) := by decide +kernel
theorem dX10_oneMore_55 : decode cX10_oneMore 55 = .ok (.if_icmp .gt 61, 3) := by decide +kernel
theorem dX10_oneMore_58 : decode cX10_oneMore 58 = .ok (.iconst 0, 1) := by decide +kernel
theorem dX10_oneMore_59 : decode cX10_oneMore 59 = .ok (.istore 5, 2) := by decide +kernel
theorem dX10_oneMore_61 : decode cX10_oneMore 61 = .ok (.iload 5, 2) := by decide +kernel
theorem dX10_oneMore_63 : decode cX10_oneMore 63 = .ok (.bipush 40, 2) := by decide +kernel
theorem dX10_oneMore_65 : decode cX10_oneMore 65 = .ok (.if_icmp .ge 45, 3) := by decide +kernel
theorem dX10_oneMore_68 : decode cX10_oneMore 68 = .ok (.aload_n 0, 1) := by decide +kernel
theorem dX10_oneMore_69 : decode cX10_oneMore 69 = .ok (.iload 5, 2) := by decide +kernel
theorem dX10_oneMore_71 : decode cX10_oneMore 71 = .ok (.iload 4, 2) := by decide +kernel
theorem dX10_oneMore_73 : decode cX10_oneMore 73 = .ok (.invokevirtual 147, 3) := by decide +kernel
theorem dX10_oneMore_76 : decode cX10_oneMore 76 = .ok (.iconst (-1), 1) := by decide +kernel
theorem dX10_oneMore_77 : decode cX10_oneMore 77 = .ok (.if_icmp .ne 27, 3) := by decide +kernel
theorem dX10_oneMore_80 : decode cX10_oneMore 80 = .ok (.aload_n 0, 1) := by decide +kernel
theorem dX10_oneMore_81 : decode cX10_oneMore 81 = .ok (.iload 5, 2) := by decide +kernel
theorem dX10_oneMore_83 : decode cX10_oneMore 83 = .ok (.iload 4, 2) := by decide +kernel
theorem dX10_oneMore_85 : decode cX10_oneMore 85 = .ok (.iload_n 3, 1) := by decide +kernel
theorem dX10_oneMore_86 : decode cX10_oneMore 86 = .ok (.invokevirtual 353, 3) := by decide +kernel
theorem dX10_oneMore_89 : decode cX10_oneMore 89 = .ok (.ifCond .eq 15, 3) := by decide +kernel
theorem dX10_oneMore_92 : decode cX10_oneMore 92 = .ok (.iload_n 2, 1) := by decide +kernel
theorem dX10_oneMore_93 : decode cX10_oneMore 93 = .ok (.ifCond .ne 8, 3) := by decide +kernel
theorem dX10_oneMore_96 : decode cX10_oneMore 96 = .ok (.iload 5, 2) := by decide +kernel
theorem dX10_oneMore_98 : decode cX10_oneMore 98 = .ok (.goto 5, 3) := by decide +kernel
theorem dX10_oneMore_101 : decode cX10_oneMore 101 = .ok (.iload 4, 2) := by decide +kernel
theorem dX10_oneMore_103 : decode cX10_oneMore 103 = .ok (.ireturn, 1) := by decide +kernel
theorem dX10_oneMore_104 : decode cX10_oneMore 104 = .ok (.iinc 5 1, 3) := by decide +kernel
theorem dX10_oneMore_107 : decode cX10_oneMore 107 = .ok (.goto (-46), 3) := by decide +kernel
theorem dX10_oneMore_110 : decode cX10_oneMore 110 = .ok (.iinc 4 1, 3) := by decide +kernel
theorem dX10_oneMore_113 : decode cX10_oneMore 113 = .ok (.goto (-62), 3) := by decide +kernel
theorem dX10_oneMore_116 : decode cX10_oneMore 116 = .ok (.bipush (-2), 2) := by decide +kernel
theorem dX10_oneMore_118 : decode cX10_oneMore 118 = .ok (.ireturn, 1) := by decide +kernel
theorem dX10_pairsOf_0 : decode cX10_pairsOf 0 = .ok (.iconst 0, 1) := by decide +kernel
theorem dX10_pairsOf_1 : decode cX10_pairsOf 1 = .ok (.istore_n 1, 1) := by decide +kernel
theorem dX10_pairsOf_2 : decode cX10_pairsOf 2 = .ok (.iconst 0, 1) := by decide +kernel
theorem dX10_pairsOf_3 : decode cX10_pairsOf 3 = .ok (.istore_n 2, 1) := by decide +kernel
theorem dX10_pairsOf_4 : decode cX10_pairsOf 4 = .ok (.iload_n 2, 1) := by decide +kernel
theorem dX10_pairsOf_5 : decode cX10_pairsOf 5 = .ok (.bipush 40, 2) := by decide +kernel
theorem dX10_pairsOf_7 : decode cX10_pairsOf 7 = .ok (.if_icmp .ge 44, 3) := by decide +kernel
theorem dX10_pairsOf_10 : decode cX10_pairsOf 10 = .ok (.aload_n 0, 1) := by decide +kernel
theorem dX10_pairsOf_11 : decode cX10_pairsOf 11 = .ok (.iload_n 2, 1) := by decide +kernel
theorem dX10_pairsOf_12 : decode cX10_pairsOf 12 = .ok (.invokevirtual 154, 3) := by decide +kernel
theorem dX10_pairsOf_15 : decode cX10_pairsOf 15 = .ok (.ifCond .ne 6, 3) := by decide +kernel
theorem dX10_pairsOf_18 : decode cX10_pairsOf 18 = .ok (.goto 27, 3) := by decide +kernel
theorem dX10_pairsOf_21 : decode cX10_pairsOf 21 = .ok (.aload_n 0, 1) := by decide +kernel
theorem dX10_pairsOf_22 : decode cX10_pairsOf 22 = .ok (.iload_n 2, 1) := by decide +kernel
theorem dX10_pairsOf_23 : decode cX10_pairsOf 23 = .ok (.invokevirtual 399, 3) := by decide +kernel
theorem dX10_pairsOf_26 : decode cX10_pairsOf 26 = .ok (.istore_n 3, 1) := by decide +kernel
theorem dX10_pairsOf_27 : decode cX10_pairsOf 27 = .ok (.iload_n 3, 1) := by decide +kernel
theorem dX10_pairsOf_28 : decode cX10_pairsOf 28 = .ok (.iload_n 2, 1) := by decide +kernel
theorem dX10_pairsOf_29 : decode cX10_pairsOf 29 = .ok (.if_icmp .le 16, 3) := by decide +kernel
theorem dX10_pairsOf_32 : decode cX10_pairsOf 32 = .ok (.aload_n 0, 1) := by decide +kernel
theorem dX10_pairsOf_33 : decode cX10_pairsOf 33 = .ok (.iload_n 3, 1) := by decide +kernel
theorem dX10_pairsOf_34 : decode cX10_pairsOf 34 = .ok (.invokevirtual 399, 3) := by decide +kernel
theorem dX10_pairsOf_37 : decode cX10_pairsOf 37 = .ok (.iload_n 2, 1) := by decide +kernel
theorem dX10_pairsOf_38 : decode cX10_pairsOf 38 = .ok (.if_icmp .ne 7, 3) := by decide +kernel
theorem dX10_pairsOf_41 : decode cX10_pairsOf 41 = .ok (.iload_n 1, 1) := by decide +kernel
theorem dX10_pairsOf_42 : decode cX10_pairsOf 42 = .ok (.iconst 1, 1) := by decide +kernel
theorem dX10_pairsOf_43 : decode cX10_pairsOf 43 = .ok (.iadd, 1) := by decide +kernel
theorem dX10_pairsOf_44 : decode cX10_pairsOf 44 = .ok (.istore_n 1, 1) := by decide +kernel
theorem dX10_pairsOf_45 : decode cX10_pairsOf 45 = .ok (.iinc 2 1, 3) := by decide +kernel
theorem dX10_pairsOf_48 : decode cX10_pairsOf 48 = .ok (.goto (-44), 3) := by decide +kernel
theorem dX10_pairsOf_51 : decode cX10_pairsOf 51 = .ok (.iload_n 1, 1) := by decide +kernel
theorem dX10_pairsOf_52 : decode cX10_pairsOf 52 = .ok (.ireturn, 1) := by decide +kernel
theorem dX10_person_0 : decode cX10_person 0 = .ok (.iload_n 1, 1) := by decide +kernel
theorem dX10_person_1 : decode cX10_person 1 = .ok (.iconst 0, 1) := by decide +kernel
theorem dX10_person_2 : decode cX10_person 2 = .ok (.bipush 7, 2) := by decide +kernel
theorem dX10_person_4 : decode cX10_person 4 = .ok (.invokestatic 132, 3) := by decide +kernel
theorem dX10_person_7 : decode cX10_person 7 = .ok (.ifCond .eq 13, 3) := by decide +kernel
theorem dX10_person_10 : decode cX10_person 10 = .ok (.iload_n 2, 1) := by decide +kernel
theorem dX10_person_11 : decode cX10_person 11 = .ok (.iconst 1, 1) := by decide +kernel
theorem dX10_person_12 : decode cX10_person 12 = .ok (.bipush 30, 2) := by decide +kernel
theorem dX10_person_14 : decode cX10_person 14 = .ok (.invokestatic 132, 3) := by decide +kernel
theorem dX10_person_17 : decode cX10_person 17 = .ok (.ifCond .ne 5, 3) := by decide +kernel
theorem dX10_person_20 : decode cX10_person 20 = .ok (.iconst 0, 1) := by decide +kernel
theorem dX10_person_21 : decode cX10_person 21 = .ok (.ireturn, 1) := by decide +kernel
theorem dX10_person_22 : decode cX10_person 22 = .ok (.aload_n 0, 1) := by decide +kernel
theorem dX10_person_23 : decode cX10_person 23 = .ok (.aload_n 0, 1) := by decide +kernel
theorem dX10_person_24 : decode cX10_person 24 = .ok (.getfield 136, 3) := by decide +kernel
theorem dX10_person_27 : decode cX10_person 27 = .ok (.iconst 1, 1) := by decide +kernel
theorem dX10_person_28 : decode cX10_person 28 = .ok (.iload_n 1, 1) := by decide +kernel
theorem dX10_person_29 : decode cX10_person 29 = .ok (.ishl, 1) := by decide +kernel
theorem dX10_person_30 : decode cX10_person 30 = .ok (.ior, 1) := by decide +kernel
theorem dX10_person_31 : decode cX10_person 31 = .ok (.putfield 136, 3) := by decide +kernel
theorem dX10_person_34 : decode cX10_person 34 = .ok (.aload_n 0, 1) := by decide +kernel
theorem dX10_person_35 : decode cX10_person 35 = .ok (.getfield 19, 3) := by decide +kernel
theorem dX10_person_38 : decode cX10_person 38 = .ok (.iload_n 1, 1) := by decide +kernel
theorem dX10_person_39 : decode cX10_person 39 = .ok (.iload_n 2, 1) := by decide +kernel
theorem dX10_person_40 : decode cX10_person 40 = .ok (.iastore, 1) := by decide +kernel
theorem dX10_person_41 : decode cX10_person 41 = .ok (.iconst 1, 1) := by decide +kernel
theorem dX10_person_42 : decode cX10_person 42 = .ok (.ireturn, 1) := by decide +kernel
theorem dX10_readsHops_0 : decode cX10_readsHops 0 = .ok (.aload_n 0, 1) := by decide +kernel
theorem dX10_readsHops_1 : decode cX10_readsHops 1 = .ok (.getfield 165, 3) := by decide +kernel
theorem dX10_readsHops_4 : decode cX10_readsHops 4 = .ok (.istore_n 1, 1) := by decide +kernel
theorem dX10_readsHops_5 : decode cX10_readsHops 5 = .ok (.iconst 0, 1) := by decide +kernel
theorem dX10_readsHops_6 : decode cX10_readsHops 6 = .ok (.istore_n 2, 1) := by decide +kernel
theorem dX10_readsHops_7 : decode cX10_readsHops 7 = .ok (.iconst 0, 1) := by decide +kernel
theorem dX10_readsHops_8 : decode cX10_readsHops 8 = .ok (.istore_n 3, 1) := by decide +kernel
theorem dX10_readsHops_9 : decode cX10_readsHops 9 = .ok (.iconst 1, 1) := by decide +kernel
theorem dX10_readsHops_10 : decode cX10_readsHops 10 = .ok (.istore 4, 2) := by decide +kernel
theorem dX10_readsHops_12 : decode cX10_readsHops 12 = .ok (.iload 4, 2) := by decide +kernel
theorem dX10_readsHops_14 : decode cX10_readsHops 14 = .ok (.ifCond .eq 190, 3) := by decide +kernel
theorem dX10_readsHops_17 : decode cX10_readsHops 17 = .ok (.aload_n 0, 1) := by decide +kernel
theorem dX10_readsHops_18 : decode cX10_readsHops 18 = .ok (.invokevirtual 171, 3) := by decide +kernel
theorem dX10_readsHops_21 : decode cX10_readsHops 21 = .ok (.istore 5, 2) := by decide +kernel
theorem dX10_readsHops_23 : decode cX10_readsHops 23 = .ok (.iload 5, 2) := by decide +kernel
theorem dX10_readsHops_25 : decode cX10_readsHops 25 = .ok (.bipush 117, 2) := by decide +kernel
theorem dX10_readsHops_27 : decode cX10_readsHops 27 = .ok (.if_icmp .eq 34, 3) := by decide +kernel
theorem dX10_readsHops_30 : decode cX10_readsHops 30 = .ok (.iload 5, 2) := by decide +kernel
theorem dX10_readsHops_32 : decode cX10_readsHops 32 = .ok (.bipush 100, 2) := by decide +kernel
theorem dX10_readsHops_34 : decode cX10_readsHops 34 = .ok (.if_icmp .eq 27, 3) := by decide +kernel
theorem dX10_readsHops_37 : decode cX10_readsHops 37 = .ok (.iload 5, 2) := by decide +kernel
theorem dX10_readsHops_39 : decode cX10_readsHops 39 = .ok (.bipush 111, 2) := by decide +kernel
theorem dX10_readsHops_41 : decode cX10_readsHops 41 = .ok (.if_icmp .eq 20, 3) := by decide +kernel
theorem dX10_readsHops_44 : decode cX10_readsHops 44 = .ok (.iload 5, 2) := by decide +kernel
theorem dX10_readsHops_46 : decode cX10_readsHops 46 = .ok (.bipush 98, 2) := by decide +kernel
theorem dX10_readsHops_48 : decode cX10_readsHops 48 = .ok (.if_icmp .eq 13, 3) := by decide +kernel
theorem dX10_readsHops_51 : decode cX10_readsHops 51 = .ok (.aload_n 0, 1) := by decide +kernel
theorem dX10_readsHops_52 : decode cX10_readsHops 52 = .ok (.iconst 1, 1) := by decide +kernel
theorem dX10_readsHops_53 : decode cX10_readsHops 53 = .ok (.aload_n 0, 1) := by decide +kernel
theorem dX10_readsHops_54 : decode cX10_readsHops 54 = .ok (.getfield 165, 3) := by decide +kernel
theorem dX10_readsHops_57 : decode cX10_readsHops 57 = .ok (.invokevirtual 178, 3) := by decide +kernel
theorem dX10_readsHops_60 : decode cX10_readsHops 60 = .ok (.ireturn, 1) := by decide +kernel
theorem dX10_readsHops_61 : decode cX10_readsHops 61 = .ok (.aload_n 0, 1) := by decide +kernel
theorem dX10_readsHops_62 : decode cX10_readsHops 62 = .ok (.aload_n 0, 1) := by decide +kernel
theorem dX10_readsHops_63 : decode cX10_readsHops 63 = .ok (.getfield 165, 3) := by decide +kernel
theorem dX10_readsHops_66 : decode cX10_readsHops 66 = .ok (.iconst 1, 1) := by decide +kernel
theorem dX10_readsHops_67 : decode cX10_readsHops 67 = .ok (.iadd, 1) := by decide +kernel
theorem dX10_readsHops_68 : decode cX10_readsHops 68 = .ok (.putfield 165, 3) := by decide +kernel
theorem dX10_readsHops_71 : decode cX10_readsHops 71 = .ok (.aload_n 0, 1) := by decide +kernel
theorem dX10_readsHops_72 : decode cX10_readsHops 72 = .ok (.iconst 1, 1) := by decide +kernel
theorem dX10_readsHops_73 : decode cX10_readsHops 73 = .ok (.putfield 181, 3) := by decide +kernel
theorem dX10_readsHops_76 : decode cX10_readsHops 76 = .ok (.aload_n 0, 1) := by decide +kernel
theorem dX10_readsHops_77 : decode cX10_readsHops 77 = .ok (.invokevirtual 184, 3) := by decide +kernel
theorem dX10_readsHops_80 : decode cX10_readsHops 80 = .ok (.ifCond .eq 12, 3) := by decide +kernel
theorem dX10_readsHops_83 : decode cX10_readsHops 83 = .ok (.aload_n 0, 1) := by decide +kernel
theorem dX10_readsHops_84 : decode cX10_readsHops 84 = .ok (.invokevirtual 271, 3) := by decide +kernel
theorem dX10_readsHops_87 : decode cX10_readsHops 87 = .ok (.ifCond .ne 5, 3) := by decide +kernel
theorem dX10_readsHops_90 : decode cX10_readsHops 90 = .ok (.iconst 0, 1) := by decide +kernel
theorem dX10_readsHops_91 : decode cX10_readsHops 91 = .ok (.ireturn, 1) := by decide +kernel
theorem dX10_readsHops_92 : decode cX10_readsHops 92 = .ok (.iload_n 2, 1) := by decide +kernel
theorem dX10_readsHops_93 : decode cX10_readsHops 93 = .ok (.iload 5, 2) := by decide +kernel
theorem dX10_readsHops_95 : decode cX10_readsHops 95 = .ok (.bipush 117, 2) := by decide +kernel
theorem dX10_readsHops_97 : decode cX10_readsHops 97 = .ok (.if_icmp .ne 10, 3) := by decide +kernel
theorem dX10_readsHops_100 : decode cX10_readsHops 100 = .ok (.aload_n 0, 1) := by decide +kernel
theorem dX10_readsHops_101 : decode cX10_readsHops 101 = .ok (.getfield 181, 3) := by decide +kernel
theorem dX10_readsHops_104 : decode cX10_readsHops 104 = .ok (.goto 19, 3) := by decide +kernel
theorem dX10_readsHops_107 : decode cX10_readsHops 107 = .ok (.iload 5, 2) := by decide +kernel
theorem dX10_readsHops_109 : decode cX10_readsHops 109 = .ok (.bipush 100, 2) := by decide +kernel
theorem dX10_readsHops_111 : decode cX10_readsHops 111 = .ok (.if_icmp .ne 11, 3) := by decide +kernel
theorem dX10_readsHops_114 : decode cX10_readsHops 114 = .ok (.aload_n 0, 1) := by decide +kernel
theorem dX10_readsHops_115 : decode cX10_readsHops 115 = .ok (.getfield 181, 3) := by decide +kernel
theorem dX10_readsHops_118 : decode cX10_readsHops 118 = .ok (.ineg, 1) := by decide +kernel
theorem dX10_readsHops_119 : decode cX10_readsHops 119 = .ok (.goto 4, 3) := by decide +kernel
theorem dX10_readsHops_122 : decode cX10_readsHops 122 = .ok (.iconst 0, 1) := by decide +kernel
theorem dX10_readsHops_123 : decode cX10_readsHops 123 = .ok (.iadd, 1) := by decide +kernel
theorem dX10_readsHops_124 : decode cX10_readsHops 124 = .ok (.istore_n 2, 1) := by decide +kernel
theorem dX10_readsHops_125 : decode cX10_readsHops 125 = .ok (.iload_n 3, 1) := by decide +kernel
theorem dX10_readsHops_126 : decode cX10_readsHops 126 = .ok (.iload 5, 2) := by decide +kernel
theorem dX10_readsHops_128 : decode cX10_readsHops 128 = .ok (.bipush 111, 2) := by decide +kernel
theorem dX10_readsHops_130 : decode cX10_readsHops 130 = .ok (.if_icmp .ne 10, 3) := by decide +kernel
theorem dX10_readsHops_133 : decode cX10_readsHops 133 = .ok (.aload_n 0, 1) := by decide +kernel
theorem dX10_readsHops_134 : decode cX10_readsHops 134 = .ok (.getfield 181, 3) := by decide +kernel
theorem dX10_readsHops_137 : decode cX10_readsHops 137 = .ok (.goto 19, 3) := by decide +kernel
theorem dX10_readsHops_140 : decode cX10_readsHops 140 = .ok (.iload 5, 2) := by decide +kernel
theorem dX10_readsHops_142 : decode cX10_readsHops 142 = .ok (.bipush 98, 2) := by decide +kernel
theorem dX10_readsHops_144 : decode cX10_readsHops 144 = .ok (.if_icmp .ne 11, 3) := by decide +kernel
theorem dX10_readsHops_147 : decode cX10_readsHops 147 = .ok (.aload_n 0, 1) := by decide +kernel
theorem dX10_readsHops_148 : decode cX10_readsHops 148 = .ok (.getfield 181, 3) := by decide +kernel
theorem dX10_readsHops_151 : decode cX10_readsHops 151 = .ok (.ineg, 1) := by decide +kernel
theorem dX10_readsHops_152 : decode cX10_readsHops 152 = .ok (.goto 4, 3) := by decide +kernel
theorem dX10_readsHops_155 : decode cX10_readsHops 155 = .ok (.iconst 0, 1) := by decide +kernel
theorem dX10_readsHops_156 : decode cX10_readsHops 156 = .ok (.iadd, 1) := by decide +kernel
theorem dX10_readsHops_157 : decode cX10_readsHops 157 = .ok (.istore_n 3, 1) := by decide +kernel
theorem dX10_readsHops_158 : decode cX10_readsHops 158 = .ok (.aload_n 0, 1) := by decide +kernel
theorem dX10_readsHops_159 : decode cX10_readsHops 159 = .ok (.invokevirtual 171, 3) := by decide +kernel
theorem dX10_readsHops_162 : decode cX10_readsHops 162 = .ok (.bipush 117, 2) := by decide +kernel
theorem dX10_readsHops_164 : decode cX10_readsHops 164 = .ok (.if_icmp .eq 30, 3) := by decide +kernel
theorem dX10_readsHops_167 : decode cX10_readsHops 167 = .ok (.aload_n 0, 1) := by decide +kernel
theorem dX10_readsHops_168 : decode cX10_readsHops 168 = .ok (.invokevirtual 171, 3) := by decide +kernel
theorem dX10_readsHops_171 : decode cX10_readsHops 171 = .ok (.bipush 100, 2) := by decide +kernel
theorem dX10_readsHops_173 : decode cX10_readsHops 173 = .ok (.if_icmp .eq 21, 3) := by decide +kernel
theorem dX10_readsHops_176 : decode cX10_readsHops 176 = .ok (.aload_n 0, 1) := by decide +kernel
theorem dX10_readsHops_177 : decode cX10_readsHops 177 = .ok (.invokevirtual 171, 3) := by decide +kernel
theorem dX10_readsHops_180 : decode cX10_readsHops 180 = .ok (.bipush 111, 2) := by decide +kernel
theorem dX10_readsHops_182 : decode cX10_readsHops 182 = .ok (.if_icmp .eq 12, 3) := by decide +kernel
theorem dX10_readsHops_185 : decode cX10_readsHops 185 = .ok (.aload_n 0, 1) := by decide +kernel
theorem dX10_readsHops_186 : decode cX10_readsHops 186 = .ok (.invokevirtual 171, 3) := by decide +kernel
theorem dX10_readsHops_189 : decode cX10_readsHops 189 = .ok (.bipush 98, 2) := by decide +kernel
theorem dX10_readsHops_191 : decode cX10_readsHops 191 = .ok (.if_icmp .ne 7, 3) := by decide +kernel
theorem dX10_readsHops_194 : decode cX10_readsHops 194 = .ok (.iconst 1, 1) := by decide +kernel
theorem dX10_readsHops_195 : decode cX10_readsHops 195 = .ok (.goto 4, 3) := by decide +kernel
theorem dX10_readsHops_198 : decode cX10_readsHops 198 = .ok (.iconst 0, 1) := by decide +kernel
theorem dX10_readsHops_199 : decode cX10_readsHops 199 = .ok (.istore 4, 2) := by decide +kernel
theorem dX10_readsHops_201 : decode cX10_readsHops 201 = .ok (.goto (-189), 3) := by decide +kernel
theorem dX10_readsHops_204 : decode cX10_readsHops 204 = .ok (.aload_n 0, 1) := by decide +kernel
theorem dX10_readsHops_205 : decode cX10_readsHops 205 = .ok (.getfield 359, 3) := by decide +kernel
theorem dX10_readsHops_208 : decode cX10_readsHops 208 = .ok (.bipush 60, 2) := by decide +kernel
theorem dX10_readsHops_210 : decode cX10_readsHops 210 = .ok (.if_icmp .ne 11, 3) := by decide +kernel
theorem dX10_readsHops_213 : decode cX10_readsHops 213 = .ok (.aload_n 0, 1) := by decide +kernel
theorem dX10_readsHops_214 : decode cX10_readsHops 214 = .ok (.bipush 6, 2) := by decide +kernel
theorem dX10_readsHops_216 : decode cX10_readsHops 216 = .ok (.iload_n 1, 1) := by decide +kernel
theorem dX10_readsHops_217 : decode cX10_readsHops 217 = .ok (.invokevirtual 178, 3) := by decide +kernel
theorem dX10_readsHops_220 : decode cX10_readsHops 220 = .ok (.ireturn, 1) := by decide +kernel
theorem dX10_readsHops_221 : decode cX10_readsHops 221 = .ok (.aload_n 0, 1) := by decide +kernel
theorem dX10_readsHops_222 : decode cX10_readsHops 222 = .ok (.getfield 104, 3) := by decide +kernel
theorem dX10_readsHops_225 : decode cX10_readsHops 225 = .ok (.aload_n 0, 1) := by decide +kernel
theorem dX10_readsHops_226 : decode cX10_readsHops 226 = .ok (.getfield 359, 3) := by decide +kernel
theorem dX10_readsHops_229 : decode cX10_readsHops 229 = .ok (.iload_n 2, 1) := by decide +kernel
theorem dX10_readsHops_230 : decode cX10_readsHops 230 = .ok (.iastore, 1) := by decide +kernel
theorem dX10_readsHops_231 : decode cX10_readsHops 231 = .ok (.aload_n 0, 1) := by decide +kernel
theorem dX10_readsHops_232 : decode cX10_readsHops 232 = .ok (.getfield 107, 3) := by decide +kernel
theorem dX10_readsHops_235 : decode cX10_readsHops 235 = .ok (.aload_n 0, 1) := by decide +kernel
theorem dX10_readsHops_236 : decode cX10_readsHops 236 = .ok (.getfield 359, 3) := by decide +kernel
theorem dX10_readsHops_239 : decode cX10_readsHops 239 = .ok (.iload_n 3, 1) := by decide +kernel
theorem dX10_readsHops_240 : decode cX10_readsHops 240 = .ok (.iastore, 1) := by decide +kernel
theorem dX10_readsHops_241 : decode cX10_readsHops 241 = .ok (.aload_n 0, 1) := by decide +kernel
theorem dX10_readsHops_242 : decode cX10_readsHops 242 = .ok (.aload_n 0, 1) := by decide +kernel
theorem dX10_readsHops_243 : decode cX10_readsHops 243 = .ok (.getfield 359, 3) := by decide +kernel
theorem dX10_readsHops_246 : decode cX10_readsHops 246 = .ok (.iconst 1, 1) := by decide +kernel
theorem dX10_readsHops_247 : decode cX10_readsHops 247 = .ok (.iadd, 1) := by decide +kernel
theorem dX10_readsHops_248 : decode cX10_readsHops 248 = .ok (.putfield 359, 3) := by decide +kernel
theorem dX10_readsHops_251 : decode cX10_readsHops 251 = .ok (.iconst 1, 1) := by decide +kernel
theorem dX10_readsHops_252 : decode cX10_readsHops 252 = .ok (.ireturn, 1) := by decide +kernel
theorem dX10_readsWalk_0 : decode cX10_readsWalk 0 = .ok (.iconst 1, 1) := by decide +kernel
theorem dX10_readsWalk_1 : decode cX10_readsWalk 1 = .ok (.istore_n 1, 1) := by decide +kernel
theorem dX10_readsWalk_2 : decode cX10_readsWalk 2 = .ok (.iload_n 1, 1) := by decide +kernel
theorem dX10_readsWalk_3 : decode cX10_readsWalk 3 = .ok (.ifCond .eq 152, 3) := by decide +kernel
theorem dX10_readsWalk_6 : decode cX10_readsWalk 6 = .ok (.aload_n 0, 1) := by decide +kernel
theorem dX10_readsWalk_7 : decode cX10_readsWalk 7 = .ok (.invokevirtual 171, 3) := by decide +kernel
theorem dX10_readsWalk_10 : decode cX10_readsWalk 10 = .ok (.bipush 40, 2) := by decide +kernel
theorem dX10_readsWalk_12 : decode cX10_readsWalk 12 = .ok (.if_icmp .ne 70, 3) := by decide +kernel
theorem dX10_readsWalk_15 : decode cX10_readsWalk 15 = .ok (.aload_n 0, 1) := by decide +kernel
theorem dX10_readsWalk_16 : decode cX10_readsWalk 16 = .ok (.getfield 362, 3) := by decide +kernel
theorem dX10_readsWalk_19 : decode cX10_readsWalk 19 = .ok (.iconst 2, 1) := by decide +kernel
theorem dX10_readsWalk_20 : decode cX10_readsWalk 20 = .ok (.if_icmp .ne 13, 3) := by decide +kernel
theorem dX10_readsWalk_23 : decode cX10_readsWalk 23 = .ok (.aload_n 0, 1) := by decide +kernel
theorem dX10_readsWalk_24 : decode cX10_readsWalk 24 = .ok (.iconst 5, 1) := by decide +kernel
theorem dX10_readsWalk_25 : decode cX10_readsWalk 25 = .ok (.aload_n 0, 1) := by decide +kernel
theorem dX10_readsWalk_26 : decode cX10_readsWalk 26 = .ok (.getfield 165, 3) := by decide +kernel
theorem dX10_readsWalk_29 : decode cX10_readsWalk 29 = .ok (.invokevirtual 178, 3) := by decide +kernel
theorem dX10_readsWalk_32 : decode cX10_readsWalk 32 = .ok (.ireturn, 1) := by decide +kernel
theorem dX10_readsWalk_33 : decode cX10_readsWalk 33 = .ok (.aload_n 0, 1) := by decide +kernel
theorem dX10_readsWalk_34 : decode cX10_readsWalk 34 = .ok (.getfield 110, 3) := by decide +kernel
theorem dX10_readsWalk_37 : decode cX10_readsWalk 37 = .ok (.aload_n 0, 1) := by decide +kernel
theorem dX10_readsWalk_38 : decode cX10_readsWalk 38 = .ok (.getfield 362, 3) := by decide +kernel
theorem dX10_readsWalk_41 : decode cX10_readsWalk 41 = .ok (.aload_n 0, 1) := by decide +kernel
theorem dX10_readsWalk_42 : decode cX10_readsWalk 42 = .ok (.getfield 165, 3) := by decide +kernel
theorem dX10_readsWalk_45 : decode cX10_readsWalk 45 = .ok (.iastore, 1) := by decide +kernel
theorem dX10_readsWalk_46 : decode cX10_readsWalk 46 = .ok (.aload_n 0, 1) := by decide +kernel
theorem dX10_readsWalk_47 : decode cX10_readsWalk 47 = .ok (.getfield 113, 3) := by decide +kernel
theorem dX10_readsWalk_50 : decode cX10_readsWalk 50 = .ok (.aload_n 0, 1) := by decide +kernel
theorem dX10_readsWalk_51 : decode cX10_readsWalk 51 = .ok (.getfield 362, 3) := by decide +kernel
theorem dX10_readsWalk_54 : decode cX10_readsWalk 54 = .ok (.aload_n 0, 1) := by decide +kernel
theorem dX10_readsWalk_55 : decode cX10_readsWalk 55 = .ok (.getfield 359, 3) := by decide +kernel
theorem dX10_readsWalk_58 : decode cX10_readsWalk 58 = .ok (.iastore, 1) := by decide +kernel
theorem dX10_readsWalk_59 : decode cX10_readsWalk 59 = .ok (.aload_n 0, 1) := by decide +kernel
theorem dX10_readsWalk_60 : decode cX10_readsWalk 60 = .ok (.aload_n 0, 1) := by decide +kernel
theorem dX10_readsWalk_61 : decode cX10_readsWalk 61 = .ok (.getfield 362, 3) := by decide +kernel
theorem dX10_readsWalk_64 : decode cX10_readsWalk 64 = .ok (.iconst 1, 1) := by decide +kernel
theorem dX10_readsWalk_65 : decode cX10_readsWalk 65 = .ok (.iadd, 1) := by decide +kernel
theorem dX10_readsWalk_66 : decode cX10_readsWalk 66 = .ok (.putfield 362, 3) := by decide +kernel
theorem dX10_readsWalk_69 : decode cX10_readsWalk 69 = .ok (.aload_n 0, 1) := by decide +kernel
theorem dX10_readsWalk_70 : decode cX10_readsWalk 70 = .ok (.aload_n 0, 1) := by decide +kernel
theorem dX10_readsWalk_71 : decode cX10_readsWalk 71 = .ok (.getfield 165, 3) := by decide +kernel
theorem dX10_readsWalk_74 : decode cX10_readsWalk 74 = .ok (.iconst 1, 1) := by decide +kernel
theorem dX10_readsWalk_75 : decode cX10_readsWalk 75 = .ok (.iadd, 1) := by decide +kernel
theorem dX10_readsWalk_76 : decode cX10_readsWalk 76 = .ok (.putfield 165, 3) := by decide +kernel
theorem dX10_readsWalk_79 : decode cX10_readsWalk 79 = .ok (.goto (-73), 3) := by decide +kernel
theorem dX10_readsWalk_82 : decode cX10_readsWalk 82 = .ok (.aload_n 0, 1) := by decide +kernel
theorem dX10_readsWalk_83 : decode cX10_readsWalk 83 = .ok (.invokevirtual 365, 3) := by decide +kernel
theorem dX10_readsWalk_86 : decode cX10_readsWalk 86 = .ok (.ifCond .ne 5, 3) := by decide +kernel
theorem dX10_readsWalk_89 : decode cX10_readsWalk 89 = .ok (.iconst 0, 1) := by decide +kernel
theorem dX10_readsWalk_90 : decode cX10_readsWalk 90 = .ok (.ireturn, 1) := by decide +kernel
theorem dX10_readsWalk_91 : decode cX10_readsWalk 91 = .ok (.aload_n 0, 1) := by decide +kernel
theorem dX10_readsWalk_92 : decode cX10_readsWalk 92 = .ok (.invokevirtual 171, 3) := by decide +kernel
theorem dX10_readsWalk_95 : decode cX10_readsWalk 95 = .ok (.bipush 41, 2) := by decide +kernel
theorem dX10_readsWalk_97 : decode cX10_readsWalk 97 = .ok (.if_icmp .ne 19, 3) := by decide +kernel
theorem dX10_readsWalk_100 : decode cX10_readsWalk 100 = .ok (.aload_n 0, 1) := by decide +kernel
theorem dX10_readsWalk_101 : decode cX10_readsWalk 101 = .ok (.getfield 362, 3) := by decide +kernel
theorem dX10_readsWalk_104 : decode cX10_readsWalk 104 = .ok (.ifCond .le 12, 3) := by decide +kernel
theorem dX10_readsWalk_107 : decode cX10_readsWalk 107 = .ok (.aload_n 0, 1) := by decide +kernel
theorem dX10_readsWalk_108 : decode cX10_readsWalk 108 = .ok (.invokevirtual 368, 3) := by decide +kernel
theorem dX10_readsWalk_111 : decode cX10_readsWalk 111 = .ok (.ifCond .ne (-20), 3) := by decide +kernel
theorem dX10_readsWalk_114 : decode cX10_readsWalk 114 = .ok (.iconst 0, 1) := by decide +kernel
theorem dX10_readsWalk_115 : decode cX10_readsWalk 115 = .ok (.ireturn, 1) := by decide +kernel
theorem dX10_readsWalk_116 : decode cX10_readsWalk 116 = .ok (.aload_n 0, 1) := by decide +kernel
theorem dX10_readsWalk_117 : decode cX10_readsWalk 117 = .ok (.getfield 165, 3) := by decide +kernel
theorem dX10_readsWalk_120 : decode cX10_readsWalk 120 = .ok (.aload_n 0, 1) := by decide +kernel
theorem dX10_readsWalk_121 : decode cX10_readsWalk 121 = .ok (.getfield 168, 3) := by decide +kernel
theorem dX10_readsWalk_124 : decode cX10_readsWalk 124 = .ok (.if_icmp .lt 10, 3) := by decide +kernel
theorem dX10_readsWalk_127 : decode cX10_readsWalk 127 = .ok (.aload_n 0, 1) := by decide +kernel
theorem dX10_readsWalk_128 : decode cX10_readsWalk 128 = .ok (.getfield 362, 3) := by decide +kernel
theorem dX10_readsWalk_131 : decode cX10_readsWalk 131 = .ok (.ifCond .le 7, 3) := by decide +kernel
theorem dX10_readsWalk_134 : decode cX10_readsWalk 134 = .ok (.iconst 1, 1) := by decide +kernel
theorem dX10_readsWalk_135 : decode cX10_readsWalk 135 = .ok (.goto 4, 3) := by decide +kernel
theorem dX10_readsWalk_138 : decode cX10_readsWalk 138 = .ok (.iconst 0, 1) := by decide +kernel
theorem dX10_readsWalk_139 : decode cX10_readsWalk 139 = .ok (.istore_n 1, 1) := by decide +kernel
theorem dX10_readsWalk_140 : decode cX10_readsWalk 140 = .ok (.iload_n 1, 1) := by decide +kernel
theorem dX10_readsWalk_141 : decode cX10_readsWalk 141 = .ok (.ifCond .eq (-139), 3) := by decide +kernel
theorem dX10_readsWalk_144 : decode cX10_readsWalk 144 = .ok (.aload_n 0, 1) := by decide +kernel
theorem dX10_readsWalk_145 : decode cX10_readsWalk 145 = .ok (.bipush 44, 2) := by decide +kernel
theorem dX10_readsWalk_147 : decode cX10_readsWalk 147 = .ok (.invokevirtual 255, 3) := by decide +kernel
theorem dX10_readsWalk_150 : decode cX10_readsWalk 150 = .ok (.ifCond .ne (-148), 3) := by decide +kernel
theorem dX10_readsWalk_153 : decode cX10_readsWalk 153 = .ok (.iconst 0, 1) := by decide +kernel
theorem dX10_readsWalk_154 : decode cX10_readsWalk 154 = .ok (.ireturn, 1) := by decide +kernel
theorem dX10_readsWalk_155 : decode cX10_readsWalk 155 = .ok (.iconst 1, 1) := by decide +kernel
theorem dX10_readsWalk_156 : decode cX10_readsWalk 156 = .ok (.ireturn, 1) := by decide +kernel
theorem dX10_seed_0 : decode cX10_seed 0 = .ok (.iload_n 1, 1) := by decide +kernel
theorem dX10_seed_1 : decode cX10_seed 1 = .ok (.iconst 0, 1) := by decide +kernel
theorem dX10_seed_2 : decode cX10_seed 2 = .ok (.ldc_w 414, 3) := by decide +kernel
theorem dX10_seed_5 : decode cX10_seed 5 = .ok (.invokestatic 132, 3) := by decide +kernel
theorem dX10_seed_8 : decode cX10_seed 8 = .ok (.ifCond .ne 5, 3) := by decide +kernel
theorem dX10_seed_11 : decode cX10_seed 11 = .ok (.iconst 0, 1) := by decide +kernel
theorem dX10_seed_12 : decode cX10_seed 12 = .ok (.ireturn, 1) := by decide +kernel
theorem dX10_seed_13 : decode cX10_seed 13 = .ok (.aload_n 0, 1) := by decide +kernel
theorem dX10_seed_14 : decode cX10_seed 14 = .ok (.getfield 7, 3) := by decide +kernel
theorem dX10_seed_17 : decode cX10_seed 17 = .ok (.sipush 201, 3) := by decide +kernel
theorem dX10_seed_20 : decode cX10_seed 20 = .ok (.iload_n 1, 1) := by decide +kernel
theorem dX10_seed_21 : decode cX10_seed 21 = .ok (.iastore, 1) := by decide +kernel
theorem dX10_seed_22 : decode cX10_seed 22 = .ok (.iconst 1, 1) := by decide +kernel
theorem dX10_seed_23 : decode cX10_seed 23 = .ok (.ireturn, 1) := by decide +kernel
theorem dX10_yardRow_0 : decode cX10_yardRow 0 = .ok (.iconst 0, 1) := by decide +kernel
theorem dX10_yardRow_1 : decode cX10_yardRow 1 = .ok (.istore_n 1, 1) := by decide +kernel
theorem dX10_yardRow_2 : decode cX10_yardRow 2 = .ok (.iconst 0, 1) := by decide +kernel
theorem dX10_yardRow_3 : decode cX10_yardRow 3 = .ok (.istore_n 2, 1) := by decide +kernel
theorem dX10_yardRow_4 : decode cX10_yardRow 4 = .ok (.iload_n 2, 1) := by decide +kernel
theorem dX10_yardRow_5 : decode cX10_yardRow 5 = .ok (.bipush 40, 2) := by decide +kernel
theorem dX10_yardRow_7 : decode cX10_yardRow 7 = .ok (.if_icmp .ge 60, 3) := by decide +kernel
theorem dX10_yardRow_10 : decode cX10_yardRow 10 = .ok (.iconst 0, 1) := by decide +kernel
theorem dX10_yardRow_11 : decode cX10_yardRow 11 = .ok (.istore_n 3, 1) := by decide +kernel
theorem dX10_yardRow_12 : decode cX10_yardRow 12 = .ok (.aload_n 0, 1) := by decide +kernel
theorem dX10_yardRow_13 : decode cX10_yardRow 13 = .ok (.iload_n 2, 1) := by decide +kernel
theorem dX10_yardRow_14 : decode cX10_yardRow 14 = .ok (.invokevirtual 154, 3) := by decide +kernel
theorem dX10_yardRow_17 : decode cX10_yardRow 17 = .ok (.ifCond .eq 38, 3) := by decide +kernel
theorem dX10_yardRow_20 : decode cX10_yardRow 20 = .ok (.aload_n 0, 1) := by decide +kernel
theorem dX10_yardRow_21 : decode cX10_yardRow 21 = .ok (.aload_n 0, 1) := by decide +kernel
theorem dX10_yardRow_22 : decode cX10_yardRow 22 = .ok (.getfield 7, 3) := by decide +kernel
theorem dX10_yardRow_25 : decode cX10_yardRow 25 = .ok (.bipush 40, 2) := by decide +kernel
theorem dX10_yardRow_27 : decode cX10_yardRow 27 = .ok (.iload_n 2, 1) := by decide +kernel
theorem dX10_yardRow_28 : decode cX10_yardRow 28 = .ok (.iadd, 1) := by decide +kernel
theorem dX10_yardRow_29 : decode cX10_yardRow 29 = .ok (.iaload, 1) := by decide +kernel
theorem dX10_yardRow_30 : decode cX10_yardRow 30 = .ok (.aload_n 0, 1) := by decide +kernel
theorem dX10_yardRow_31 : decode cX10_yardRow 31 = .ok (.getfield 7, 3) := by decide +kernel
theorem dX10_yardRow_34 : decode cX10_yardRow 34 = .ok (.bipush 80, 2) := by decide +kernel
theorem dX10_yardRow_36 : decode cX10_yardRow 36 = .ok (.iload_n 2, 1) := by decide +kernel
theorem dX10_yardRow_37 : decode cX10_yardRow 37 = .ok (.iadd, 1) := by decide +kernel
theorem dX10_yardRow_38 : decode cX10_yardRow 38 = .ok (.iaload, 1) := by decide +kernel
theorem dX10_yardRow_39 : decode cX10_yardRow 39 = .ok (.iload_n 3, 1) := by decide +kernel
theorem dX10_yardRow_40 : decode cX10_yardRow 40 = .ok (.iadd, 1) := by decide +kernel
theorem dX10_yardRow_41 : decode cX10_yardRow 41 = .ok (.invokevirtual 147, 3) := by decide +kernel
theorem dX10_yardRow_44 : decode cX10_yardRow 44 = .ok (.iconst (-1), 1) := by decide +kernel
theorem dX10_yardRow_45 : decode cX10_yardRow 45 = .ok (.if_icmp .eq 10, 3) := by decide +kernel
theorem dX10_yardRow_48 : decode cX10_yardRow 48 = .ok (.iload_n 3, 1) := by decide +kernel
theorem dX10_yardRow_49 : decode cX10_yardRow 49 = .ok (.iconst 1, 1) := by decide +kernel
theorem dX10_yardRow_50 : decode cX10_yardRow 50 = .ok (.iadd, 1) := by decide +kernel
theorem dX10_yardRow_51 : decode cX10_yardRow 51 = .ok (.istore_n 3, 1) := by decide +kernel
theorem dX10_yardRow_52 : decode cX10_yardRow 52 = .ok (.goto (-40), 3) := by decide +kernel
theorem dX10_yardRow_55 : decode cX10_yardRow 55 = .ok (.iload_n 1, 1) := by decide +kernel
theorem dX10_yardRow_56 : decode cX10_yardRow 56 = .ok (.iload_n 3, 1) := by decide +kernel
theorem dX10_yardRow_57 : decode cX10_yardRow 57 = .ok (.invokestatic 129, 3) := by decide +kernel
theorem dX10_yardRow_60 : decode cX10_yardRow 60 = .ok (.istore_n 1, 1) := by decide +kernel
theorem dX10_yardRow_61 : decode cX10_yardRow 61 = .ok (.iinc 2 1, 3) := by decide +kernel
theorem dX10_yardRow_64 : decode cX10_yardRow 64 = .ok (.goto (-60), 3) := by decide +kernel
theorem dX10_yardRow_67 : decode cX10_yardRow 67 = .ok (.iload_n 1, 1) := by decide +kernel
theorem dX10_yardRow_68 : decode cX10_yardRow 68 = .ok (.ireturn, 1) := by decide +kernel
theorem dX10_shape_0 : decode cX10_shape 0 = .ok (.iload_n 1, 1) := by decide +kernel
theorem dX10_shape_1 : decode cX10_shape 1 = .ok (.tableswitch 51 0 3 #[31, 36, 41, 46], 31) := by decide +kernel
theorem dX10_shape_32 : decode cX10_shape 32 = .ok (.aload_n 0, 1) := by decide +kernel
theorem dX10_shape_33 : decode cX10_shape 33 = .ok (.invokevirtual 402, 3) := by decide +kernel
theorem dX10_shape_36 : decode cX10_shape 36 = .ok (.ireturn, 1) := by decide +kernel
theorem dX10_shape_37 : decode cX10_shape 37 = .ok (.aload_n 0, 1) := by decide +kernel
theorem dX10_shape_38 : decode cX10_shape 38 = .ok (.invokevirtual 405, 3) := by decide +kernel
theorem dX10_shape_41 : decode cX10_shape 41 = .ok (.ireturn, 1) := by decide +kernel
theorem dX10_shape_42 : decode cX10_shape 42 = .ok (.aload_n 0, 1) := by decide +kernel
theorem dX10_shape_43 : decode cX10_shape 43 = .ok (.invokevirtual 408, 3) := by decide +kernel
theorem dX10_shape_46 : decode cX10_shape 46 = .ok (.ireturn, 1) := by decide +kernel
theorem dX10_shape_47 : decode cX10_shape 47 = .ok (.aload_n 0, 1) := by decide +kernel
theorem dX10_shape_48 : decode cX10_shape 48 = .ok (.invokevirtual 411, 3) := by decide +kernel
theorem dX10_shape_51 : decode cX10_shape 51 = .ok (.ireturn, 1) := by decide +kernel
theorem dX10_shape_52 : decode cX10_shape 52 = .ok (.iconst (-1), 1) := by decide +kernel
theorem dX10_shape_53 : decode cX10_shape 53 = .ok (.ireturn, 1) := by decide +kernel
theorem dX10_stone_0 : decode cX10_stone 0 = .ok (.iload_n 1, 1) := by decide +kernel
theorem dX10_stone_1 : decode cX10_stone 1 = .ok (.iconst 0, 1) := by decide +kernel
theorem dX10_stone_2 : decode cX10_stone 2 = .ok (.bipush 39, 2) := by decide +kernel
theorem dX10_stone_4 : decode cX10_stone 4 = .ok (.invokestatic 132, 3) := by decide +kernel
theorem dX10_stone_7 : decode cX10_stone 7 = .ok (.ifCond .eq 34, 3) := by decide +kernel
theorem dX10_stone_10 : decode cX10_stone 10 = .ok (.iload_n 2, 1) := by decide +kernel
theorem dX10_stone_11 : decode cX10_stone 11 = .ok (.iconst 0, 1) := by decide +kernel
theorem dX10_stone_12 : decode cX10_stone 12 = .ok (.bipush 39, 2) := by decide +kernel
theorem dX10_stone_14 : decode cX10_stone 14 = .ok (.invokestatic 132, 3) := by decide +kernel
theorem dX10_stone_17 : decode cX10_stone 17 = .ok (.ifCond .eq 24, 3) := by decide +kernel
theorem dX10_stone_20 : decode cX10_stone 20 = .ok (.iload_n 3, 1) := by decide +kernel
theorem dX10_stone_21 : decode cX10_stone 21 = .ok (.iconst 1, 1) := by decide +kernel
theorem dX10_stone_22 : decode cX10_stone 22 = .ok (.bipush 20, 2) := by decide +kernel
theorem dX10_stone_24 : decode cX10_stone 24 = .ok (.invokestatic 132, 3) := by decide +kernel
theorem dX10_stone_27 : decode cX10_stone 27 = .ok (.ifCond .eq 14, 3) := by decide +kernel
theorem dX10_stone_30 : decode cX10_stone 30 = .ok (.iload 4, 2) := by decide +kernel
theorem dX10_stone_32 : decode cX10_stone 32 = .ok (.iconst 0, 1) := by decide +kernel
theorem dX10_stone_33 : decode cX10_stone 33 = .ok (.bipush 9, 2) := by decide +kernel
theorem dX10_stone_35 : decode cX10_stone 35 = .ok (.invokestatic 132, 3) := by decide +kernel
theorem dX10_stone_38 : decode cX10_stone 38 = .ok (.ifCond .ne 5, 3) := by decide +kernel
theorem dX10_stone_41 : decode cX10_stone 41 = .ok (.iconst 0, 1) := by decide +kernel
theorem dX10_stone_42 : decode cX10_stone 42 = .ok (.ireturn, 1) := by decide +kernel
theorem dX10_stone_43 : decode cX10_stone 43 = .ok (.aload_n 0, 1) := by decide +kernel
theorem dX10_stone_44 : decode cX10_stone 44 = .ok (.iload_n 2, 1) := by decide +kernel
theorem dX10_stone_45 : decode cX10_stone 45 = .ok (.iload_n 3, 1) := by decide +kernel
theorem dX10_stone_46 : decode cX10_stone 46 = .ok (.invokevirtual 147, 3) := by decide +kernel
theorem dX10_stone_49 : decode cX10_stone 49 = .ok (.istore 5, 2) := by decide +kernel
theorem dX10_stone_51 : decode cX10_stone 51 = .ok (.iload 5, 2) := by decide +kernel
theorem dX10_stone_53 : decode cX10_stone 53 = .ok (.iconst (-1), 1) := by decide +kernel
theorem dX10_stone_54 : decode cX10_stone 54 = .ok (.if_icmp .eq 11, 3) := by decide +kernel
theorem dX10_stone_57 : decode cX10_stone 57 = .ok (.iload 5, 2) := by decide +kernel
theorem dX10_stone_59 : decode cX10_stone 59 = .ok (.iload_n 1, 1) := by decide +kernel
theorem dX10_stone_60 : decode cX10_stone 60 = .ok (.if_icmp .eq 5, 3) := by decide +kernel
theorem dX10_stone_63 : decode cX10_stone 63 = .ok (.iconst 0, 1) := by decide +kernel
theorem dX10_stone_64 : decode cX10_stone 64 = .ok (.ireturn, 1) := by decide +kernel
theorem dX10_stone_65 : decode cX10_stone 65 = .ok (.aload_n 0, 1) := by decide +kernel
theorem dX10_stone_66 : decode cX10_stone 66 = .ok (.iload_n 1, 1) := by decide +kernel
theorem dX10_stone_67 : decode cX10_stone 67 = .ok (.iload_n 2, 1) := by decide +kernel
theorem dX10_stone_68 : decode cX10_stone 68 = .ok (.iload_n 3, 1) := by decide +kernel
theorem dX10_stone_69 : decode cX10_stone 69 = .ok (.iload 4, 2) := by decide +kernel
theorem dX10_stone_71 : decode cX10_stone 71 = .ok (.iconst 0, 1) := by decide +kernel
theorem dX10_stone_72 : decode cX10_stone 72 = .ok (.invokevirtual 150, 3) := by decide +kernel
theorem dX10_stone_75 : decode cX10_stone 75 = .ok (.iconst 1, 1) := by decide +kernel
theorem dX10_stone_76 : decode cX10_stone 76 = .ok (.ireturn, 1) := by decide +kernel
theorem dX10_stoneIs_0 : decode cX10_stoneIs 0 = .ok (.aload_n 0, 1) := by decide +kernel
theorem dX10_stoneIs_1 : decode cX10_stoneIs 1 = .ok (.iload_n 1, 1) := by decide +kernel
theorem dX10_stoneIs_2 : decode cX10_stoneIs 2 = .ok (.invokevirtual 154, 3) := by decide +kernel
theorem dX10_stoneIs_5 : decode cX10_stoneIs 5 = .ok (.ifCond .ne 5, 3) := by decide +kernel
theorem dX10_stoneIs_8 : decode cX10_stoneIs 8 = .ok (.iconst (-1), 1) := by decide +kernel
theorem dX10_stoneIs_9 : decode cX10_stoneIs 9 = .ok (.ireturn, 1) := by decide +kernel
theorem dX10_stoneIs_10 : decode cX10_stoneIs 10 = .ok (.iload_n 2, 1) := by decide +kernel
theorem dX10_stoneIs_11 : decode cX10_stoneIs 11 = .ok (.tableswitch 80 0 4 #[33, 43, 53, 63, 74], 33) := by decide +kernel
theorem dX10_stoneIs_44 : decode cX10_stoneIs 44 = .ok (.aload_n 0, 1) := by decide +kernel
theorem dX10_stoneIs_45 : decode cX10_stoneIs 45 = .ok (.getfield 7, 3) := by decide +kernel
theorem dX10_stoneIs_48 : decode cX10_stoneIs 48 = .ok (.bipush 40, 2) := by decide +kernel
theorem dX10_stoneIs_50 : decode cX10_stoneIs 50 = .ok (.iload_n 1, 1) := by decide +kernel
theorem dX10_stoneIs_51 : decode cX10_stoneIs 51 = .ok (.iadd, 1) := by decide +kernel
theorem dX10_stoneIs_52 : decode cX10_stoneIs 52 = .ok (.iaload, 1) := by decide +kernel
theorem dX10_stoneIs_53 : decode cX10_stoneIs 53 = .ok (.ireturn, 1) := by decide +kernel
theorem dX10_stoneIs_54 : decode cX10_stoneIs 54 = .ok (.aload_n 0, 1) := by decide +kernel
theorem dX10_stoneIs_55 : decode cX10_stoneIs 55 = .ok (.getfield 7, 3) := by decide +kernel
theorem dX10_stoneIs_58 : decode cX10_stoneIs 58 = .ok (.bipush 80, 2) := by decide +kernel
theorem dX10_stoneIs_60 : decode cX10_stoneIs 60 = .ok (.iload_n 1, 1) := by decide +kernel
theorem dX10_stoneIs_61 : decode cX10_stoneIs 61 = .ok (.iadd, 1) := by decide +kernel
theorem dX10_stoneIs_62 : decode cX10_stoneIs 62 = .ok (.iaload, 1) := by decide +kernel
theorem dX10_stoneIs_63 : decode cX10_stoneIs 63 = .ok (.ireturn, 1) := by decide +kernel
theorem dX10_stoneIs_64 : decode cX10_stoneIs 64 = .ok (.aload_n 0, 1) := by decide +kernel
theorem dX10_stoneIs_65 : decode cX10_stoneIs 65 = .ok (.getfield 7, 3) := by decide +kernel
theorem dX10_stoneIs_68 : decode cX10_stoneIs 68 = .ok (.bipush 120, 2) := by decide +kernel
theorem dX10_stoneIs_70 : decode cX10_stoneIs 70 = .ok (.iload_n 1, 1) := by decide +kernel
theorem dX10_stoneIs_71 : decode cX10_stoneIs 71 = .ok (.iadd, 1) := by decide +kernel
theorem dX10_stoneIs_72 : decode cX10_stoneIs 72 = .ok (.iaload, 1) := by decide +kernel
theorem dX10_stoneIs_73 : decode cX10_stoneIs 73 = .ok (.ireturn, 1) := by decide +kernel
theorem dX10_stoneIs_74 : decode cX10_stoneIs 74 = .ok (.aload_n 0, 1) := by decide +kernel
theorem dX10_stoneIs_75 : decode cX10_stoneIs 75 = .ok (.getfield 7, 3) := by decide +kernel
theorem dX10_stoneIs_78 : decode cX10_stoneIs 78 = .ok (.sipush 160, 3) := by decide +kernel
theorem dX10_stoneIs_81 : decode cX10_stoneIs 81 = .ok (.iload_n 1, 1) := by decide +kernel
theorem dX10_stoneIs_82 : decode cX10_stoneIs 82 = .ok (.iadd, 1) := by decide +kernel
theorem dX10_stoneIs_83 : decode cX10_stoneIs 83 = .ok (.iaload, 1) := by decide +kernel
theorem dX10_stoneIs_84 : decode cX10_stoneIs 84 = .ok (.ireturn, 1) := by decide +kernel
theorem dX10_stoneIs_85 : decode cX10_stoneIs 85 = .ok (.aload_n 0, 1) := by decide +kernel
theorem dX10_stoneIs_86 : decode cX10_stoneIs 86 = .ok (.iload_n 1, 1) := by decide +kernel
theorem dX10_stoneIs_87 : decode cX10_stoneIs 87 = .ok (.invokevirtual 268, 3) := by decide +kernel
theorem dX10_stoneIs_90 : decode cX10_stoneIs 90 = .ok (.ireturn, 1) := by decide +kernel
theorem dX10_stoneIs_91 : decode cX10_stoneIs 91 = .ok (.iconst (-1), 1) := by decide +kernel
theorem dX10_stoneIs_92 : decode cX10_stoneIs 92 = .ok (.ireturn, 1) := by decide +kernel
theorem dX10_take_0 : decode cX10_take 0 = .ok (.aload_n 0, 1) := by decide +kernel
theorem dX10_take_1 : decode cX10_take 1 = .ok (.iload_n 1, 1) := by decide +kernel
theorem dX10_take_2 : decode cX10_take 2 = .ok (.invokevirtual 154, 3) := by decide +kernel
theorem dX10_take_5 : decode cX10_take 5 = .ok (.ifCond .ne 5, 3) := by decide +kernel
theorem dX10_take_8 : decode cX10_take 8 = .ok (.iconst 0, 1) := by decide +kernel
theorem dX10_take_9 : decode cX10_take 9 = .ok (.ireturn, 1) := by decide +kernel
theorem dX10_take_10 : decode cX10_take 10 = .ok (.aload_n 0, 1) := by decide +kernel
theorem dX10_take_11 : decode cX10_take 11 = .ok (.getfield 7, 3) := by decide +kernel
theorem dX10_take_14 : decode cX10_take 14 = .ok (.iconst 0, 1) := by decide +kernel
theorem dX10_take_15 : decode cX10_take 15 = .ok (.iload_n 1, 1) := by decide +kernel
theorem dX10_take_16 : decode cX10_take 16 = .ok (.iadd, 1) := by decide +kernel
theorem dX10_take_17 : decode cX10_take 17 = .ok (.iconst 0, 1) := by decide +kernel
theorem dX10_take_18 : decode cX10_take 18 = .ok (.iastore, 1) := by decide +kernel
theorem dX10_take_19 : decode cX10_take 19 = .ok (.iconst 1, 1) := by decide +kernel
theorem dX10_take_20 : decode cX10_take 20 = .ok (.ireturn, 1) := by decide +kernel
set_option maxHeartbeats 4000000 in
theorem t_X10_oneMore (v1 : Int32) (v2 : Int32) (M : Mem) : AXi yX10_oneMore cX10_oneMore 6 (some .int) 4 39 glM (fun ad => [.ref (ad 0), .int v1, .int v2]) M (f_X10_oneMore M v1 v2) := by
  intro r0 h
  refine AM.of (by decide) (fun _ => Nat.le_of_ble_eq_true rfl) (fun X ad cI cZ cB hX hR => ?_)
  show V X M [(0, .ref (ad 0)), (1, .int v1), (2, .int v2)] [] 0
  refine s_aload_n (k := 0) hX dX10_oneMore_0 rfl rfl ?_
  refine s_iload_n (k := 1) hX dX10_oneMore_1 rfl rfl ?_
  refine e_callVp hX (t_X10_isPerson v1 M) mX10_isPerson lX10_334 (by decide) (by decide) oM0 rfl rfl rfl rfl rfl (Nat.le_of_ble_eq_true rfl) dX10_oneMore_2 h (fun r_1 h => ?_)
  refine e_if_eq (tgt := 17) hX dX10_oneMore_5 (by decide) z_eq h (fun h => ?_) (fun h => ?_)
  · refine s_iconst (v := (-1)) hX dX10_oneMore_17 (by decide) ?_
    exact e_ireti hX hR dX10_oneMore_18 h
  · refine s_iload_n (k := 2) hX dX10_oneMore_8 rfl rfl ?_
    refine s_iconst (v := (nI 0)) hX dX10_oneMore_9 (by decide) ?_
    refine s_iconst (v := (nI 1)) hX dX10_oneMore_10 (by decide) ?_
    refine e_callSp hX (t_X10_in v2 (nI 0) (nI 1) M) mX10_in lX10_132 (by decide) (by decide) rfl rfl (Nat.le_of_ble_eq_true rfl) dX10_oneMore_11 h (fun r_2 h => ?_)
    refine e_if_ne (tgt := 19) hX dX10_oneMore_14 (by decide) z_eq h (fun h => ?_) (fun h => ?_)
    · refine s_aload_n (k := 0) hX dX10_oneMore_19 rfl rfl ?_
      refine s_get hX fX10_19 oM0 rfl dX10_oneMore_20 ?_
      refine s_iload_n (k := 1) hX dX10_oneMore_23 rfl rfl ?_
      refine e_iald hX aM4 dX10_oneMore_24 h (fun h => ?_)
      refine e_bnd h (fun x_3 h => ?_)
      refine s_istore_n (lv' := [(0, .ref (ad 0)), (1, .int v1), (2, .int v2), (3, .int x_3)]) hX dX10_oneMore_25 rfl (by decide) rfl ?_
      refine s_aload_n (k := 0) hX dX10_oneMore_26 rfl rfl ?_
      refine s_iload_n (k := 3) hX dX10_oneMore_27 rfl rfl ?_
      refine e_callVi hX (t_X10_crossing x_3 M) mX10_crossing lX10_337 (by decide) (by decide) oM0 rfl rfl rfl rfl rfl (Nat.le_of_ble_eq_true rfl) dX10_oneMore_28 h (fun r_4 M_5 h => ?_)
      refine s_iconst (v := (-1)) hX dX10_oneMore_31 (by decide) ?_
      refine e_icmp_eq (tgt := 38) hX dX10_oneMore_32 (by decide) (m_eq (by decide +kernel)) h (fun h => ?_) (fun h => ?_)
      · refine s_aload_n (k := 0) hX dX10_oneMore_38 rfl rfl ?_
        refine s_aload_n (k := 0) hX dX10_oneMore_39 rfl rfl ?_
        refine s_get hX fX10_80 oM0 rfl dX10_oneMore_40 ?_
        refine s_iconst (v := (nI 0)) hX dX10_oneMore_43 (by decide) ?_
        refine s_iload_n (k := 3) hX dX10_oneMore_44 rfl rfl ?_
        refine e_callVv hX (t_X10_laysSteps 24 40 aM24 (by decide) (nI 0) x_3 M_5) mX10_laysSteps lX10_329 (by decide) (by decide) oM0 rfl rfl rfl rfl rfl (Nat.le_of_ble_eq_true rfl) dX10_oneMore_45 h (fun M_6 h => ?_)
        refine s_iconst (v := (nI 1)) hX dX10_oneMore_48 (by decide) ?_
        refine s_istore (lv' := [(0, .ref (ad 0)), (1, .int v1), (2, .int v2), (3, .int x_3), (4, .int (nI 1))]) hX dX10_oneMore_49 (by decide) rfl ?_
        have lp51 : ∀ (N51 : Nat) (y4_51 : Int32), wlp1 (f_X10_oneMore_B51 v2 x_3 M_6) N51 y4_51 = some r0 → V X M_6 [(0, .ref (ad 0)), (2, .int v2), (3, .int x_3), (4, .int y4_51)] [] 51 := by
          intro N51
          induction N51 with
          | zero => exact fun _ h => e_none h
          | succ N51 ih51 =>
            intro y4_51 h
            replace h : f_X10_oneMore_B51 v2 x_3 M_6 (wlp1 (f_X10_oneMore_B51 v2 x_3 M_6) N51) y4_51 = some r0 := h
            generalize wlp1 (f_X10_oneMore_B51 v2 x_3 M_6) N51 = ag51 at ih51 h
            refine s_iload (k := 3) hX dX10_oneMore_51 rfl ?_
            refine s_bipush (v := (nI 20)) hX dX10_oneMore_53 (by decide) ?_
            refine e_icmp_gt (tgt := 116) hX dX10_oneMore_55 (by decide) (m_gt (by decide +kernel)) h (fun h => ?_) (fun h => ?_)
            · refine s_bipush (v := (-2)) hX dX10_oneMore_116 (by decide) ?_
              exact e_ireti hX hR dX10_oneMore_118 h
            · refine s_iconst (v := (nI 0)) hX dX10_oneMore_58 (by decide) ?_
              refine s_istore (lv' := [(0, .ref (ad 0)), (2, .int v2), (3, .int x_3), (4, .int y4_51), (5, .int (nI 0))]) hX dX10_oneMore_59 (by decide) rfl ?_
              have lp61 : ∀ (N61 : Nat) (y5_61 : Int32), wlp1 (f_X10_oneMore_B61 v2 x_3 M_6 ag51 y4_51) N61 y5_61 = some r0 → V X M_6 [(0, .ref (ad 0)), (2, .int v2), (3, .int x_3), (4, .int y4_51), (5, .int y5_61)] [] 61 := by
                intro N61
                induction N61 with
                | zero => exact fun _ h => e_none h
                | succ N61 ih61 =>
                  intro y5_61 h
                  replace h : f_X10_oneMore_B61 v2 x_3 M_6 ag51 y4_51 (wlp1 (f_X10_oneMore_B61 v2 x_3 M_6 ag51 y4_51) N61) y5_61 = some r0 := h
                  generalize wlp1 (f_X10_oneMore_B61 v2 x_3 M_6 ag51 y4_51) N61 = ag61 at ih61 h
                  refine s_iload (k := 4) hX dX10_oneMore_61 rfl ?_
                  refine s_bipush (v := (nI 40)) hX dX10_oneMore_63 (by decide) ?_
                  refine e_icmp_ge (tgt := 110) hX dX10_oneMore_65 (by decide) (m_ge (by decide +kernel)) h (fun h => ?_) (fun h => ?_)
                  · refine s_iinc (k := 3) (v := (y4_51 + (nI 1))) (lv' := [(0, .ref (ad 0)), (2, .int v2), (3, .int x_3), (5, .int y5_61), (4, .int (y4_51 + (nI 1)))]) hX dX10_oneMore_110 (congrArg (fun z => y4_51 + z) (by decide)) (by decide) rfl rfl ?_
                    refine s_goto (tgt := 51) hX dX10_oneMore_113 (by decide) ?_
                    refine s_loc [0, 1, 2, 4] rfl ?_
                    exact ih51 (y4_51 + (nI 1)) h
                  · refine s_aload_n (k := 0) hX dX10_oneMore_68 rfl rfl ?_
                    refine s_iload (k := 4) hX dX10_oneMore_69 rfl ?_
                    refine s_iload (k := 3) hX dX10_oneMore_71 rfl ?_
                    refine e_callVp hX (t_X10_stoneAt y5_61 y4_51 M_6) mX10_stoneAt lX10_147 (by decide) (by decide) oM0 rfl rfl rfl rfl rfl (Nat.le_of_ble_eq_true rfl) dX10_oneMore_73 h (fun r_7 h => ?_)
                    refine s_iconst (v := (-1)) hX dX10_oneMore_76 (by decide) ?_
                    refine e_icmp_ne (tgt := 104) hX dX10_oneMore_77 (by decide) (m_eq (by decide +kernel)) h (fun h => ?_) (fun h => ?_)
                    · refine s_iinc (k := 4) (v := (y5_61 + (nI 1))) (lv' := [(0, .ref (ad 0)), (2, .int v2), (3, .int x_3), (4, .int y4_51), (5, .int (y5_61 + (nI 1)))]) hX dX10_oneMore_104 (congrArg (fun z => y5_61 + z) (by decide)) (by decide) rfl rfl ?_
                      refine s_goto (tgt := 61) hX dX10_oneMore_107 (by decide) ?_
                      exact ih61 (y5_61 + (nI 1)) h
                    · refine s_aload_n (k := 0) hX dX10_oneMore_80 rfl rfl ?_
                      refine s_iload (k := 4) hX dX10_oneMore_81 rfl ?_
                      refine s_iload (k := 3) hX dX10_oneMore_83 rfl ?_
                      refine s_iload_n (k := 2) hX dX10_oneMore_85 rfl rfl ?_
                      refine e_callVp hX (t_X10_wouldDo y5_61 y4_51 x_3 M_6) mX10_wouldDo lX10_353 (by decide) (by decide) oM0 rfl rfl rfl rfl rfl (Nat.le_of_ble_eq_true rfl) dX10_oneMore_86 h (fun r_8 h => ?_)
                      have j92 : f_X10_oneMore_L92 v2 M_6 y4_51 y5_61 = some r0 → V X M_6 [(2, .int v2), (4, .int y4_51), (5, .int y5_61)] [] 92 := by
                        intro  h
                        refine s_iload_n (k := 0) hX dX10_oneMore_92 rfl rfl ?_
                        refine e_if_ne (tgt := 101) hX dX10_oneMore_93 (by decide) z_eq h (fun h => ?_) (fun h => ?_)
                        · refine s_iload (k := 1) hX dX10_oneMore_101 rfl ?_
                          exact e_ireti hX hR dX10_oneMore_103 h
                        · refine s_iload (k := 2) hX dX10_oneMore_96 rfl ?_
                          refine s_goto (tgt := 103) hX dX10_oneMore_98 (by decide) ?_
                          exact e_ireti hX hR dX10_oneMore_103 h
                      refine e_if_eq (tgt := 104) hX dX10_oneMore_89 (by decide) z_eq h (fun h => ?_) (fun h => ?_)
                      · refine s_iinc (k := 4) (v := (y5_61 + (nI 1))) (lv' := [(0, .ref (ad 0)), (2, .int v2), (3, .int x_3), (4, .int y4_51), (5, .int (y5_61 + (nI 1)))]) hX dX10_oneMore_104 (congrArg (fun z => y5_61 + z) (by decide)) (by decide) rfl rfl ?_
                        refine s_goto (tgt := 61) hX dX10_oneMore_107 (by decide) ?_
                        exact ih61 (y5_61 + (nI 1)) h
                      · refine s_loc [1, 3, 4] rfl ?_
                        exact j92 h
              exact lp61 FU (nI 0) h
        refine s_loc [0, 2, 3, 4] rfl ?_
        exact lp51 FU (nI 1) h
      · refine s_bipush (v := (-3)) hX dX10_oneMore_35 (by decide) ?_
        exact e_ireti hX hR dX10_oneMore_37 h
    · refine s_iconst (v := (-1)) hX dX10_oneMore_17 (by decide) ?_
      exact e_ireti hX hR dX10_oneMore_18 h
set_option maxHeartbeats 4000000 in
theorem t_X10_pairsOf (M : Mem) : AXp yX10_pairsOf cX10_pairsOf 4 (some .int) 3 39 glM (fun ad => [.ref (ad 0)]) M (f_X10_pairsOf M) := by
  intro r0 h
  refine AM.of (by decide) (fun _ => Nat.le_of_ble_eq_true rfl) (fun X ad cI cZ cB hX hR => ?_)
  show V X M [(0, .ref (ad 0))] [] 0
  refine s_iconst (v := (nI 0)) hX dX10_pairsOf_0 (by decide) ?_
  refine s_istore_n (lv' := [(0, .ref (ad 0)), (1, .int (nI 0))]) hX dX10_pairsOf_1 rfl (by decide) rfl ?_
  refine s_iconst (v := (nI 0)) hX dX10_pairsOf_2 (by decide) ?_
  refine s_istore_n (lv' := [(0, .ref (ad 0)), (1, .int (nI 0)), (2, .int (nI 0))]) hX dX10_pairsOf_3 rfl (by decide) rfl ?_
  have lp4 : ∀ (N4 : Nat) (y1_4 : Int32) (y2_4 : Int32), wlp2 (f_X10_pairsOf_B4 M) N4 y1_4 y2_4 = some r0 → V X M [(0, .ref (ad 0)), (1, .int y1_4), (2, .int y2_4)] [] 4 := by
    intro N4
    induction N4 with
    | zero => exact fun _ _ h => e_none h
    | succ N4 ih4 =>
      intro y1_4 y2_4 h
      replace h : f_X10_pairsOf_B4 M (wlp2 (f_X10_pairsOf_B4 M) N4) y1_4 y2_4 = some r0 := h
      generalize wlp2 (f_X10_pairsOf_B4 M) N4 = ag4 at ih4 h
      refine s_iload_n (k := 2) hX dX10_pairsOf_4 rfl rfl ?_
      refine s_bipush (v := (nI 40)) hX dX10_pairsOf_5 (by decide) ?_
      refine e_icmp_ge (tgt := 51) hX dX10_pairsOf_7 (by decide) (m_ge (by decide +kernel)) h (fun h => ?_) (fun h => ?_)
      · refine s_iload_n (k := 1) hX dX10_pairsOf_51 rfl rfl ?_
        exact e_iretp hX hR dX10_pairsOf_52 h
      · refine s_aload_n (k := 0) hX dX10_pairsOf_10 rfl rfl ?_
        refine s_iload_n (k := 2) hX dX10_pairsOf_11 rfl rfl ?_
        refine e_callVp hX (t_X10_isStone y2_4 M) mX10_isStone lX10_154 (by decide) (by decide) oM0 rfl rfl rfl rfl rfl (Nat.le_of_ble_eq_true rfl) dX10_pairsOf_12 h (fun r_1 h => ?_)
        refine e_if_ne (tgt := 21) hX dX10_pairsOf_15 (by decide) z_eq h (fun h => ?_) (fun h => ?_)
        · refine s_aload_n (k := 0) hX dX10_pairsOf_21 rfl rfl ?_
          refine s_iload_n (k := 2) hX dX10_pairsOf_22 rfl rfl ?_
          refine e_callVp hX (t_X10_nearestTo y2_4 M) mX10_nearestTo lX10_399 (by decide) (by decide) oM0 rfl rfl rfl rfl rfl (Nat.le_of_ble_eq_true rfl) dX10_pairsOf_23 h (fun r_2 h => ?_)
          refine s_istore_n (lv' := [(0, .ref (ad 0)), (1, .int y1_4), (2, .int y2_4), (3, .int r_2)]) hX dX10_pairsOf_26 rfl (by decide) rfl ?_
          refine s_iload_n (k := 3) hX dX10_pairsOf_27 rfl rfl ?_
          refine s_iload_n (k := 2) hX dX10_pairsOf_28 rfl rfl ?_
          refine e_icmp_le (tgt := 45) hX dX10_pairsOf_29 (by decide) r_le h (fun h => ?_) (fun h => ?_)
          · refine s_iinc (k := 2) (v := (y2_4 + (nI 1))) (lv' := [(0, .ref (ad 0)), (1, .int y1_4), (3, .int r_2), (2, .int (y2_4 + (nI 1)))]) hX dX10_pairsOf_45 (congrArg (fun z => y2_4 + z) (by decide)) (by decide) rfl rfl ?_
            refine s_goto (tgt := 4) hX dX10_pairsOf_48 (by decide) ?_
            refine s_loc [0, 1, 3] rfl ?_
            exact ih4 y1_4 (y2_4 + (nI 1)) h
          · refine s_aload_n (k := 0) hX dX10_pairsOf_32 rfl rfl ?_
            refine s_iload_n (k := 3) hX dX10_pairsOf_33 rfl rfl ?_
            refine e_callVp hX (t_X10_nearestTo r_2 M) mX10_nearestTo lX10_399 (by decide) (by decide) oM0 rfl rfl rfl rfl rfl (Nat.le_of_ble_eq_true rfl) dX10_pairsOf_34 h (fun r_3 h => ?_)
            refine s_iload_n (k := 2) hX dX10_pairsOf_37 rfl rfl ?_
            refine e_icmp_ne (tgt := 45) hX dX10_pairsOf_38 (by decide) r_eq h (fun h => ?_) (fun h => ?_)
            · refine s_iinc (k := 2) (v := (y2_4 + (nI 1))) (lv' := [(0, .ref (ad 0)), (1, .int y1_4), (3, .int r_2), (2, .int (y2_4 + (nI 1)))]) hX dX10_pairsOf_45 (congrArg (fun z => y2_4 + z) (by decide)) (by decide) rfl rfl ?_
              refine s_goto (tgt := 4) hX dX10_pairsOf_48 (by decide) ?_
              refine s_loc [0, 1, 3] rfl ?_
              exact ih4 y1_4 (y2_4 + (nI 1)) h
            · refine s_iload_n (k := 1) hX dX10_pairsOf_41 rfl rfl ?_
              refine s_iconst (v := (nI 1)) hX dX10_pairsOf_42 (by decide) ?_
              refine s_iadd hX dX10_pairsOf_43 ?_
              refine s_istore_n (lv' := [(0, .ref (ad 0)), (2, .int y2_4), (3, .int r_2), (1, .int (y1_4 + (nI 1)))]) hX dX10_pairsOf_44 rfl (by decide) rfl ?_
              refine s_iinc (k := 1) (v := (y2_4 + (nI 1))) (lv' := [(0, .ref (ad 0)), (3, .int r_2), (1, .int (y1_4 + (nI 1))), (2, .int (y2_4 + (nI 1)))]) hX dX10_pairsOf_45 (congrArg (fun z => y2_4 + z) (by decide)) (by decide) rfl rfl ?_
              refine s_goto (tgt := 4) hX dX10_pairsOf_48 (by decide) ?_
              refine s_loc [0, 2, 3] rfl ?_
              exact ih4 (y1_4 + (nI 1)) (y2_4 + (nI 1)) h
        · refine s_goto (tgt := 45) hX dX10_pairsOf_18 (by decide) ?_
          refine s_iinc (k := 2) (v := (y2_4 + (nI 1))) (lv' := [(0, .ref (ad 0)), (1, .int y1_4), (2, .int (y2_4 + (nI 1)))]) hX dX10_pairsOf_45 (congrArg (fun z => y2_4 + z) (by decide)) (by decide) rfl rfl ?_
          refine s_goto (tgt := 4) hX dX10_pairsOf_48 (by decide) ?_
          exact ih4 y1_4 (y2_4 + (nI 1)) h
  exact lp4 FU (nI 0) (nI 0) h
set_option maxHeartbeats 4000000 in
theorem t_X10_person (v1 : Int32) (v2 : Int32) (M : Mem) : AXi yX10_person cX10_person 3 (some .boolean) 1 39 glM (fun ad => [.ref (ad 0), .int v1, .int v2]) M (f_X10_person M v1 v2) := by
  intro r0 h
  refine AM.of (by decide) (fun _ => Nat.le_of_ble_eq_true rfl) (fun X ad cI cZ cB hX hR => ?_)
  show V X M [(0, .ref (ad 0)), (1, .int v1), (2, .int v2)] [] 0
  refine s_iload_n (k := 1) hX dX10_person_0 rfl rfl ?_
  refine s_iconst (v := (nI 0)) hX dX10_person_1 (by decide) ?_
  refine s_bipush (v := (nI 7)) hX dX10_person_2 (by decide) ?_
  refine e_callSp hX (t_X10_in v1 (nI 0) (nI 7) M) mX10_in lX10_132 (by decide) (by decide) rfl rfl (Nat.le_of_ble_eq_true rfl) dX10_person_4 h (fun r_1 h => ?_)
  refine e_if_eq (tgt := 20) hX dX10_person_7 (by decide) z_eq h (fun h => ?_) (fun h => ?_)
  · refine s_iconst (v := (nI 0)) hX dX10_person_20 (by decide) ?_
    exact e_zretiL hX hR dX10_person_21 (by decide) h
  · refine s_iload_n (k := 2) hX dX10_person_10 rfl rfl ?_
    refine s_iconst (v := (nI 1)) hX dX10_person_11 (by decide) ?_
    refine s_bipush (v := (nI 30)) hX dX10_person_12 (by decide) ?_
    refine e_callSp hX (t_X10_in v2 (nI 1) (nI 30) M) mX10_in lX10_132 (by decide) (by decide) rfl rfl (Nat.le_of_ble_eq_true rfl) dX10_person_14 h (fun r_2 h => ?_)
    refine e_if_ne (tgt := 22) hX dX10_person_17 (by decide) z_eq h (fun h => ?_) (fun h => ?_)
    · refine s_aload_n (k := 0) hX dX10_person_22 rfl rfl ?_
      refine s_aload_n (k := 0) hX dX10_person_23 rfl rfl ?_
      refine s_get hX fX10_136 oM0 rfl dX10_person_24 ?_
      refine s_iconst (v := (nI 1)) hX dX10_person_27 (by decide) ?_
      refine s_iload_n (k := 1) hX dX10_person_28 rfl rfl ?_
      refine e_ishl hX dX10_person_29 ?_
      refine s_ior hX dX10_person_30 ?_
      refine s_puti (ty := .int) hX fX10_136 oM0 rfl (Nat.le_of_ble_eq_true rfl) ty_10_4 rfl rfl dX10_person_31 ?_
      refine e_bndM h (fun M_3 h => ?_)
      refine s_aload_n (k := 0) hX dX10_person_34 rfl rfl ?_
      refine s_get hX fX10_19 oM0 rfl dX10_person_35 ?_
      refine s_iload_n (k := 1) hX dX10_person_38 rfl rfl ?_
      refine s_iload_n (k := 2) hX dX10_person_39 rfl rfl ?_
      refine e_iast hX aM4 dX10_person_40 h (fun h => ?_)
      refine e_bndM h (fun M_4 h => ?_)
      refine s_iconst (v := (nI 1)) hX dX10_person_41 (by decide) ?_
      exact e_zretiL hX hR dX10_person_42 (by decide) h
    · refine s_iconst (v := (nI 0)) hX dX10_person_20 (by decide) ?_
      exact e_zretiL hX hR dX10_person_21 (by decide) h
set_option maxHeartbeats 4000000 in
theorem t_X10_readsHops (M : Mem) : AXi yX10_readsHops cX10_readsHops 6 (some .boolean) 3 39 glM (fun ad => [.ref (ad 0)]) M (f_X10_readsHops M) := by
  intro r0 h
  refine AM.of (by decide) (fun _ => Nat.le_of_ble_eq_true rfl) (fun X ad cI cZ cB hX hR => ?_)
  show V X M [(0, .ref (ad 0))] [] 0
  refine s_aload_n (k := 0) hX dX10_readsHops_0 rfl rfl ?_
  refine s_get hX fX10_165 oM0 rfl dX10_readsHops_1 ?_
  refine e_bnd h (fun x_1 h => ?_)
  refine s_istore_n (lv' := [(0, .ref (ad 0)), (1, .int x_1)]) hX dX10_readsHops_4 rfl (by decide) rfl ?_
  refine s_iconst (v := (nI 0)) hX dX10_readsHops_5 (by decide) ?_
  refine s_istore_n (lv' := [(0, .ref (ad 0)), (1, .int x_1), (2, .int (nI 0))]) hX dX10_readsHops_6 rfl (by decide) rfl ?_
  refine s_iconst (v := (nI 0)) hX dX10_readsHops_7 (by decide) ?_
  refine s_istore_n (lv' := [(0, .ref (ad 0)), (1, .int x_1), (2, .int (nI 0)), (3, .int (nI 0))]) hX dX10_readsHops_8 rfl (by decide) rfl ?_
  refine s_iconst (v := (nI 1)) hX dX10_readsHops_9 (by decide) ?_
  refine s_istore (lv' := [(0, .ref (ad 0)), (1, .int x_1), (2, .int (nI 0)), (3, .int (nI 0)), (4, .int (nI 1))]) hX dX10_readsHops_10 (by decide) rfl ?_
  have lp12 : ∀ (N12 : Nat) (M12 : Mem) (y2_12 : Int32) (y3_12 : Int32) (y4_12 : Int32), wlp4 (f_X10_readsHops_B12 x_1) N12 M12 y2_12 y3_12 y4_12 = some r0 → V X M12 [(0, .ref (ad 0)), (1, .int x_1), (2, .int y2_12), (3, .int y3_12), (4, .int y4_12)] [] 12 := by
    intro N12
    induction N12 with
    | zero => exact fun _ _ _ _ h => e_none h
    | succ N12 ih12 =>
      intro M12 y2_12 y3_12 y4_12 h
      replace h : f_X10_readsHops_B12 x_1 (wlp4 (f_X10_readsHops_B12 x_1) N12) M12 y2_12 y3_12 y4_12 = some r0 := h
      generalize wlp4 (f_X10_readsHops_B12 x_1) N12 = ag12 at ih12 h
      refine s_iload (k := 4) hX dX10_readsHops_12 rfl ?_
      have j204 : f_X10_readsHops_L204 x_1 M12 y2_12 y3_12 = some r0 → V X M12 [(0, .ref (ad 0)), (1, .int x_1), (2, .int y2_12), (3, .int y3_12)] [] 204 := by
        intro  h
        refine s_aload_n (k := 0) hX dX10_readsHops_204 rfl rfl ?_
        refine s_get hX fX10_359 oM0 rfl dX10_readsHops_205 ?_
        refine s_bipush (v := (nI 60)) hX dX10_readsHops_208 (by decide) ?_
        refine e_icmp_ne (tgt := 221) hX dX10_readsHops_210 (by decide) (m_eq (by decide +kernel)) h (fun h => ?_) (fun h => ?_)
        · refine s_aload_n (k := 0) hX dX10_readsHops_221 rfl rfl ?_
          refine s_get hX fX10_104 oM0 rfl dX10_readsHops_222 ?_
          refine s_aload_n (k := 0) hX dX10_readsHops_225 rfl rfl ?_
          refine s_get hX fX10_359 oM0 rfl dX10_readsHops_226 ?_
          refine s_iload_n (k := 2) hX dX10_readsHops_229 rfl rfl ?_
          refine e_iast hX aM32 dX10_readsHops_230 h (fun h => ?_)
          refine e_bndM h (fun M_2 h => ?_)
          refine s_aload_n (k := 0) hX dX10_readsHops_231 rfl rfl ?_
          refine s_get hX fX10_107 oM0 rfl dX10_readsHops_232 ?_
          refine s_aload_n (k := 0) hX dX10_readsHops_235 rfl rfl ?_
          refine s_get hX fX10_359 oM0 rfl dX10_readsHops_236 ?_
          refine s_iload_n (k := 3) hX dX10_readsHops_239 rfl rfl ?_
          refine e_iast hX aM33 dX10_readsHops_240 h (fun h => ?_)
          refine e_bndM h (fun M_3 h => ?_)
          refine s_aload_n (k := 0) hX dX10_readsHops_241 rfl rfl ?_
          refine s_aload_n (k := 0) hX dX10_readsHops_242 rfl rfl ?_
          refine s_get hX fX10_359 oM0 rfl dX10_readsHops_243 ?_
          refine s_iconst (v := (nI 1)) hX dX10_readsHops_246 (by decide) ?_
          refine s_iadd hX dX10_readsHops_247 ?_
          refine s_puti (ty := .int) hX fX10_359 oM0 rfl (Nat.le_of_ble_eq_true rfl) ty_10_49 rfl rfl dX10_readsHops_248 ?_
          refine e_bndM h (fun M_4 h => ?_)
          refine s_iconst (v := (nI 1)) hX dX10_readsHops_251 (by decide) ?_
          exact e_zretiL hX hR dX10_readsHops_252 (by decide) h
        · refine s_aload_n (k := 0) hX dX10_readsHops_213 rfl rfl ?_
          refine s_bipush (v := (nI 6)) hX dX10_readsHops_214 (by decide) ?_
          refine s_iload_n (k := 1) hX dX10_readsHops_216 rfl rfl ?_
          refine e_callVi hX (t_X10_wrongAt (nI 6) x_1 M12) mX10_wrongAt lX10_178 (by decide) (by decide) oM0 rfl rfl rfl rfl rfl (Nat.le_of_ble_eq_true rfl) dX10_readsHops_217 h (fun r_5 M_6 h => ?_)
          exact e_zreti hX hR dX10_readsHops_220 h
      refine e_if_eq (tgt := 204) hX dX10_readsHops_14 (by decide) z_eq h (fun h => ?_) (fun h => ?_)
      · refine s_loc [0, 1, 2, 3] rfl ?_
        exact j204 h
      · refine s_aload_n (k := 0) hX dX10_readsHops_17 rfl rfl ?_
        refine e_callVp hX (t_X10_here M12) mX10_here lX10_171 (by decide) (by decide) oM0 rfl rfl rfl rfl rfl (Nat.le_of_ble_eq_true rfl) dX10_readsHops_18 h (fun r_7 h => ?_)
        refine s_istore (lv' := [(0, .ref (ad 0)), (1, .int x_1), (2, .int y2_12), (3, .int y3_12), (4, .int y4_12), (5, .int r_7)]) hX dX10_readsHops_21 (by decide) rfl ?_
        refine s_iload (k := 5) hX dX10_readsHops_23 rfl ?_
        refine s_bipush (v := (nI 117)) hX dX10_readsHops_25 (by decide) ?_
        have j61 : f_X10_readsHops_L61 ag12 M12 y2_12 y3_12 r_7 = some r0 → V X M12 [(0, .ref (ad 0)), (1, .int x_1), (2, .int y2_12), (3, .int y3_12), (5, .int r_7)] [] 61 := by
          intro  h
          refine s_aload_n (k := 0) hX dX10_readsHops_61 rfl rfl ?_
          refine s_aload_n (k := 0) hX dX10_readsHops_62 rfl rfl ?_
          refine s_get hX fX10_165 oM0 rfl dX10_readsHops_63 ?_
          refine s_iconst (v := (nI 1)) hX dX10_readsHops_66 (by decide) ?_
          refine s_iadd hX dX10_readsHops_67 ?_
          refine s_puti (ty := .int) hX fX10_165 oM0 rfl (Nat.le_of_ble_eq_true rfl) ty_10_7 rfl rfl dX10_readsHops_68 ?_
          refine e_bndM h (fun M_8 h => ?_)
          refine s_aload_n (k := 0) hX dX10_readsHops_71 rfl rfl ?_
          refine s_iconst (v := (nI 1)) hX dX10_readsHops_72 (by decide) ?_
          refine s_puti (ty := .int) hX fX10_181 oM0 rfl (Nat.le_of_ble_eq_true rfl) ty_10_10 rfl rfl dX10_readsHops_73 ?_
          refine e_bndM h (fun M_9 h => ?_)
          refine s_aload_n (k := 0) hX dX10_readsHops_76 rfl rfl ?_
          refine e_callVp hX (t_X10_isDigit M_9) mX10_isDigit lX10_184 (by decide) (by decide) oM0 rfl rfl rfl rfl rfl (Nat.le_of_ble_eq_true rfl) dX10_readsHops_77 h (fun r_10 h => ?_)
          have j92 : ∀ (N92 : Mem), f_X10_readsHops_L92 ag12 y2_12 y3_12 r_7 N92 = some r0 → V X N92 [(0, .ref (ad 0)), (1, .int x_1), (2, .int y2_12), (3, .int y3_12), (5, .int r_7)] [] 92 := by
            intro N92 h
            refine s_iload_n (k := 2) hX dX10_readsHops_92 rfl rfl ?_
            refine s_iload (k := 4) hX dX10_readsHops_93 rfl ?_
            refine s_bipush (v := (nI 117)) hX dX10_readsHops_95 (by decide) ?_
            have j123 : ∀ (t0_123 : Int32), f_X10_readsHops_L123 ag12 y2_12 y3_12 r_7 N92 t0_123 = some r0 → V X N92 [(0, .ref (ad 0)), (1, .int x_1), (3, .int y3_12), (5, .int r_7)] [.int t0_123, .int y2_12] 123 := by
              intro t0_123 h
              refine s_iadd hX dX10_readsHops_123 ?_
              refine e_bnd h (fun x_11 h => ?_)
              refine s_istore_n (lv' := [(0, .ref (ad 0)), (1, .int x_1), (3, .int y3_12), (5, .int r_7), (2, .int x_11)]) hX dX10_readsHops_124 rfl (by decide) rfl ?_
              refine s_iload_n (k := 2) hX dX10_readsHops_125 rfl rfl ?_
              refine s_iload (k := 3) hX dX10_readsHops_126 rfl ?_
              refine s_bipush (v := (nI 111)) hX dX10_readsHops_128 (by decide) ?_
              have j156 : ∀ (t0_156 : Int32), f_X10_readsHops_L156 ag12 y3_12 N92 x_11 t0_156 = some r0 → V X N92 [(0, .ref (ad 0)), (1, .int x_1), (2, .int x_11)] [.int t0_156, .int y3_12] 156 := by
                intro t0_156 h
                refine s_iadd hX dX10_readsHops_156 ?_
                refine e_bnd h (fun x_12 h => ?_)
                refine s_istore_n (lv' := [(0, .ref (ad 0)), (1, .int x_1), (2, .int x_11), (3, .int x_12)]) hX dX10_readsHops_157 rfl (by decide) rfl ?_
                refine s_aload_n (k := 0) hX dX10_readsHops_158 rfl rfl ?_
                refine e_callVp hX (t_X10_here N92) mX10_here lX10_171 (by decide) (by decide) oM0 rfl rfl rfl rfl rfl (Nat.le_of_ble_eq_true rfl) dX10_readsHops_159 h (fun r_13 h => ?_)
                refine s_bipush (v := (nI 117)) hX dX10_readsHops_162 (by decide) ?_
                refine e_icmp_eq (tgt := 194) hX dX10_readsHops_164 (by decide) (m_eq (by decide +kernel)) h (fun h => ?_) (fun h => ?_)
                · refine s_iconst (v := (nI 1)) hX dX10_readsHops_194 (by decide) ?_
                  refine s_goto (tgt := 199) hX dX10_readsHops_195 (by decide) ?_
                  refine s_istore (lv' := [(0, .ref (ad 0)), (1, .int x_1), (2, .int x_11), (3, .int x_12), (4, .int (nI 1))]) hX dX10_readsHops_199 (by decide) rfl ?_
                  refine s_goto (tgt := 12) hX dX10_readsHops_201 (by decide) ?_
                  exact ih12 N92 x_11 x_12 (nI 1) h
                · refine s_aload_n (k := 0) hX dX10_readsHops_167 rfl rfl ?_
                  refine e_callVp hX (t_X10_here N92) mX10_here lX10_171 (by decide) (by decide) oM0 rfl rfl rfl rfl rfl (Nat.le_of_ble_eq_true rfl) dX10_readsHops_168 h (fun r_14 h => ?_)
                  refine s_bipush (v := (nI 100)) hX dX10_readsHops_171 (by decide) ?_
                  refine e_icmp_eq (tgt := 194) hX dX10_readsHops_173 (by decide) (m_eq (by decide +kernel)) h (fun h => ?_) (fun h => ?_)
                  · refine s_iconst (v := (nI 1)) hX dX10_readsHops_194 (by decide) ?_
                    refine s_goto (tgt := 199) hX dX10_readsHops_195 (by decide) ?_
                    refine s_istore (lv' := [(0, .ref (ad 0)), (1, .int x_1), (2, .int x_11), (3, .int x_12), (4, .int (nI 1))]) hX dX10_readsHops_199 (by decide) rfl ?_
                    refine s_goto (tgt := 12) hX dX10_readsHops_201 (by decide) ?_
                    exact ih12 N92 x_11 x_12 (nI 1) h
                  · refine s_aload_n (k := 0) hX dX10_readsHops_176 rfl rfl ?_
                    refine e_callVp hX (t_X10_here N92) mX10_here lX10_171 (by decide) (by decide) oM0 rfl rfl rfl rfl rfl (Nat.le_of_ble_eq_true rfl) dX10_readsHops_177 h (fun r_15 h => ?_)
                    refine s_bipush (v := (nI 111)) hX dX10_readsHops_180 (by decide) ?_
                    refine e_icmp_eq (tgt := 194) hX dX10_readsHops_182 (by decide) (m_eq (by decide +kernel)) h (fun h => ?_) (fun h => ?_)
                    · refine s_iconst (v := (nI 1)) hX dX10_readsHops_194 (by decide) ?_
                      refine s_goto (tgt := 199) hX dX10_readsHops_195 (by decide) ?_
                      refine s_istore (lv' := [(0, .ref (ad 0)), (1, .int x_1), (2, .int x_11), (3, .int x_12), (4, .int (nI 1))]) hX dX10_readsHops_199 (by decide) rfl ?_
                      refine s_goto (tgt := 12) hX dX10_readsHops_201 (by decide) ?_
                      exact ih12 N92 x_11 x_12 (nI 1) h
                    · refine s_aload_n (k := 0) hX dX10_readsHops_185 rfl rfl ?_
                      refine e_callVp hX (t_X10_here N92) mX10_here lX10_171 (by decide) (by decide) oM0 rfl rfl rfl rfl rfl (Nat.le_of_ble_eq_true rfl) dX10_readsHops_186 h (fun r_16 h => ?_)
                      refine s_bipush (v := (nI 98)) hX dX10_readsHops_189 (by decide) ?_
                      refine e_icmp_ne (tgt := 198) hX dX10_readsHops_191 (by decide) (m_eq (by decide +kernel)) h (fun h => ?_) (fun h => ?_)
                      · refine s_iconst (v := (nI 0)) hX dX10_readsHops_198 (by decide) ?_
                        refine s_istore (lv' := [(0, .ref (ad 0)), (1, .int x_1), (2, .int x_11), (3, .int x_12), (4, .int (nI 0))]) hX dX10_readsHops_199 (by decide) rfl ?_
                        refine s_goto (tgt := 12) hX dX10_readsHops_201 (by decide) ?_
                        exact ih12 N92 x_11 x_12 (nI 0) h
                      · refine s_iconst (v := (nI 1)) hX dX10_readsHops_194 (by decide) ?_
                        refine s_goto (tgt := 199) hX dX10_readsHops_195 (by decide) ?_
                        refine s_istore (lv' := [(0, .ref (ad 0)), (1, .int x_1), (2, .int x_11), (3, .int x_12), (4, .int (nI 1))]) hX dX10_readsHops_199 (by decide) rfl ?_
                        refine s_goto (tgt := 12) hX dX10_readsHops_201 (by decide) ?_
                        exact ih12 N92 x_11 x_12 (nI 1) h
              refine e_icmp_ne (tgt := 140) hX dX10_readsHops_130 (by decide) (m_eq (by decide +kernel)) h (fun h => ?_) (fun h => ?_)
              · refine s_iload (k := 3) hX dX10_readsHops_140 rfl ?_
                refine s_bipush (v := (nI 98)) hX dX10_readsHops_142 (by decide) ?_
                refine e_icmp_ne (tgt := 155) hX dX10_readsHops_144 (by decide) (m_eq (by decide +kernel)) h (fun h => ?_) (fun h => ?_)
                · refine s_iconst (v := (nI 0)) hX dX10_readsHops_155 (by decide) ?_
                  refine s_loc [0, 1, 4] rfl ?_
                  exact j156 (nI 0) h
                · refine s_aload_n (k := 0) hX dX10_readsHops_147 rfl rfl ?_
                  refine s_get hX fX10_181 oM0 rfl dX10_readsHops_148 ?_
                  refine s_ineg hX dX10_readsHops_151 ?_
                  refine s_goto (tgt := 156) hX dX10_readsHops_152 (by decide) ?_
                  refine s_loc [0, 1, 4] rfl ?_
                  exact j156 (-(N92 0 10)) h
              · refine s_aload_n (k := 0) hX dX10_readsHops_133 rfl rfl ?_
                refine s_get hX fX10_181 oM0 rfl dX10_readsHops_134 ?_
                refine s_goto (tgt := 156) hX dX10_readsHops_137 (by decide) ?_
                refine s_loc [0, 1, 4] rfl ?_
                exact j156 (N92 0 10) h
            refine e_icmp_ne (tgt := 107) hX dX10_readsHops_97 (by decide) (m_eq (by decide +kernel)) h (fun h => ?_) (fun h => ?_)
            · refine s_iload (k := 4) hX dX10_readsHops_107 rfl ?_
              refine s_bipush (v := (nI 100)) hX dX10_readsHops_109 (by decide) ?_
              refine e_icmp_ne (tgt := 122) hX dX10_readsHops_111 (by decide) (m_eq (by decide +kernel)) h (fun h => ?_) (fun h => ?_)
              · refine s_iconst (v := (nI 0)) hX dX10_readsHops_122 (by decide) ?_
                refine s_loc [0, 1, 3, 4] rfl ?_
                exact j123 (nI 0) h
              · refine s_aload_n (k := 0) hX dX10_readsHops_114 rfl rfl ?_
                refine s_get hX fX10_181 oM0 rfl dX10_readsHops_115 ?_
                refine s_ineg hX dX10_readsHops_118 ?_
                refine s_goto (tgt := 123) hX dX10_readsHops_119 (by decide) ?_
                refine s_loc [0, 1, 3, 4] rfl ?_
                exact j123 (-(N92 0 10)) h
            · refine s_aload_n (k := 0) hX dX10_readsHops_100 rfl rfl ?_
              refine s_get hX fX10_181 oM0 rfl dX10_readsHops_101 ?_
              refine s_goto (tgt := 123) hX dX10_readsHops_104 (by decide) ?_
              refine s_loc [0, 1, 3, 4] rfl ?_
              exact j123 (N92 0 10) h
          refine e_if_eq (tgt := 92) hX dX10_readsHops_80 (by decide) z_eq h (fun h => ?_) (fun h => ?_)
          · exact j92 M_9 h
          · refine s_aload_n (k := 0) hX dX10_readsHops_83 rfl rfl ?_
            refine e_callVi hX (t_X10_readsAmount M_9) mX10_readsAmount lX10_271 (by decide) (by decide) oM0 rfl rfl rfl rfl rfl (Nat.le_of_ble_eq_true rfl) dX10_readsHops_84 h (fun r_17 M_18 h => ?_)
            refine e_if_ne (tgt := 92) hX dX10_readsHops_87 (by decide) z_eq h (fun h => ?_) (fun h => ?_)
            · exact j92 M_18 h
            · refine s_iconst (v := (nI 0)) hX dX10_readsHops_90 (by decide) ?_
              exact e_zretiL hX hR dX10_readsHops_91 (by decide) h
        refine e_icmp_eq (tgt := 61) hX dX10_readsHops_27 (by decide) (m_eq (by decide +kernel)) h (fun h => ?_) (fun h => ?_)
        · refine s_loc [0, 1, 2, 3, 5] rfl ?_
          exact j61 h
        · refine s_iload (k := 5) hX dX10_readsHops_30 rfl ?_
          refine s_bipush (v := (nI 100)) hX dX10_readsHops_32 (by decide) ?_
          refine e_icmp_eq (tgt := 61) hX dX10_readsHops_34 (by decide) (m_eq (by decide +kernel)) h (fun h => ?_) (fun h => ?_)
          · refine s_loc [0, 1, 2, 3, 5] rfl ?_
            exact j61 h
          · refine s_iload (k := 5) hX dX10_readsHops_37 rfl ?_
            refine s_bipush (v := (nI 111)) hX dX10_readsHops_39 (by decide) ?_
            refine e_icmp_eq (tgt := 61) hX dX10_readsHops_41 (by decide) (m_eq (by decide +kernel)) h (fun h => ?_) (fun h => ?_)
            · refine s_loc [0, 1, 2, 3, 5] rfl ?_
              exact j61 h
            · refine s_iload (k := 5) hX dX10_readsHops_44 rfl ?_
              refine s_bipush (v := (nI 98)) hX dX10_readsHops_46 (by decide) ?_
              have j51 : f_X10_readsHops_L51 M12 = some r0 → V X M12 [(0, .ref (ad 0))] [] 51 := by
                intro  h
                refine s_aload_n (k := 0) hX dX10_readsHops_51 rfl rfl ?_
                refine s_iconst (v := (nI 1)) hX dX10_readsHops_52 (by decide) ?_
                refine s_aload_n (k := 0) hX dX10_readsHops_53 rfl rfl ?_
                refine s_get hX fX10_165 oM0 rfl dX10_readsHops_54 ?_
                refine e_callVi hX (t_X10_wrongAt (nI 1) (M12 0 7) M12) mX10_wrongAt lX10_178 (by decide) (by decide) oM0 rfl rfl rfl rfl rfl (Nat.le_of_ble_eq_true rfl) dX10_readsHops_57 h (fun r_19 M_20 h => ?_)
                exact e_zreti hX hR dX10_readsHops_60 h
              refine e_icmp_eq (tgt := 61) hX dX10_readsHops_48 (by decide) (m_eq (by decide +kernel)) h (fun h => ?_) (fun h => ?_)
              · refine s_loc [0, 1, 2, 3, 5] rfl ?_
                exact j61 h
              · refine s_loc [0] rfl ?_
                exact j51 h
  exact lp12 FU M (nI 0) (nI 0) (nI 1) h
set_option maxHeartbeats 4000000 in
theorem t_X10_readsWalk (M : Mem) : AXi yX10_readsWalk cX10_readsWalk 2 (some .boolean) 4 39 glM (fun ad => [.ref (ad 0)]) M (f_X10_readsWalk M) := by
  intro r0 h
  refine AM.of (by decide) (fun _ => Nat.le_of_ble_eq_true rfl) (fun X ad cI cZ cB hX hR => ?_)
  show V X M [(0, .ref (ad 0))] [] 0
  refine s_iconst (v := (nI 1)) hX dX10_readsWalk_0 (by decide) ?_
  refine s_istore_n (lv' := [(0, .ref (ad 0)), (1, .int (nI 1))]) hX dX10_readsWalk_1 rfl (by decide) rfl ?_
  have lp2 : ∀ (N2 : Nat) (M2 : Mem) (y1_2 : Int32), wlp2 f_X10_readsWalk_B2 N2 M2 y1_2 = some r0 → V X M2 [(0, .ref (ad 0)), (1, .int y1_2)] [] 2 := by
    intro N2
    induction N2 with
    | zero => exact fun _ _ h => e_none h
    | succ N2 ih2 =>
      intro M2 y1_2 h
      replace h : f_X10_readsWalk_B2 (wlp2 f_X10_readsWalk_B2 N2) M2 y1_2 = some r0 := h
      generalize wlp2 f_X10_readsWalk_B2 N2 = ag2 at ih2 h
      refine s_iload_n (k := 1) hX dX10_readsWalk_2 rfl rfl ?_
      refine e_if_eq (tgt := 155) hX dX10_readsWalk_3 (by decide) z_eq h (fun h => ?_) (fun h => ?_)
      · refine s_iconst (v := (nI 1)) hX dX10_readsWalk_155 (by decide) ?_
        exact e_zretiL hX hR dX10_readsWalk_156 (by decide) h
      · have lp6 : ∀ (N6 : Nat) (M6 : Mem), wlp1 (f_X10_readsWalk_B6 ag2) N6 M6 = some r0 → V X M6 [(0, .ref (ad 0))] [] 6 := by
          intro N6
          induction N6 with
          | zero => exact fun _ h => e_none h
          | succ N6 ih6 =>
            intro M6 h
            replace h : f_X10_readsWalk_B6 ag2 (wlp1 (f_X10_readsWalk_B6 ag2) N6) M6 = some r0 := h
            generalize wlp1 (f_X10_readsWalk_B6 ag2) N6 = ag6 at ih6 h
            refine s_aload_n (k := 0) hX dX10_readsWalk_6 rfl rfl ?_
            refine e_callVp hX (t_X10_here M6) mX10_here lX10_171 (by decide) (by decide) oM0 rfl rfl rfl rfl rfl (Nat.le_of_ble_eq_true rfl) dX10_readsWalk_7 h (fun r_1 h => ?_)
            refine s_bipush (v := (nI 40)) hX dX10_readsWalk_10 (by decide) ?_
            have j82 : f_X10_readsWalk_L82 ag2 M6 = some r0 → V X M6 [(0, .ref (ad 0))] [] 82 := by
              intro  h
              refine s_aload_n (k := 0) hX dX10_readsWalk_82 rfl rfl ?_
              refine e_callVi hX (t_X10_readsHops M6) mX10_readsHops lX10_365 (by decide) (by decide) oM0 rfl rfl rfl rfl rfl (Nat.le_of_ble_eq_true rfl) dX10_readsWalk_83 h (fun r_2 M_3 h => ?_)
              refine e_if_ne (tgt := 91) hX dX10_readsWalk_86 (by decide) z_eq h (fun h => ?_) (fun h => ?_)
              · have lp91 : ∀ (N91 : Nat) (M91 : Mem), wlp1 (f_X10_readsWalk_B91 ag2) N91 M91 = some r0 → V X M91 [(0, .ref (ad 0))] [] 91 := by
                  intro N91
                  induction N91 with
                  | zero => exact fun _ h => e_none h
                  | succ N91 ih91 =>
                    intro M91 h
                    replace h : f_X10_readsWalk_B91 ag2 (wlp1 (f_X10_readsWalk_B91 ag2) N91) M91 = some r0 := h
                    generalize wlp1 (f_X10_readsWalk_B91 ag2) N91 = ag91 at ih91 h
                    refine s_aload_n (k := 0) hX dX10_readsWalk_91 rfl rfl ?_
                    refine e_callVp hX (t_X10_here M91) mX10_here lX10_171 (by decide) (by decide) oM0 rfl rfl rfl rfl rfl (Nat.le_of_ble_eq_true rfl) dX10_readsWalk_92 h (fun r_4 h => ?_)
                    refine s_bipush (v := (nI 41)) hX dX10_readsWalk_95 (by decide) ?_
                    have j116 : f_X10_readsWalk_L116 ag2 M91 = some r0 → V X M91 [(0, .ref (ad 0))] [] 116 := by
                      intro  h
                      refine s_aload_n (k := 0) hX dX10_readsWalk_116 rfl rfl ?_
                      refine s_get hX fX10_165 oM0 rfl dX10_readsWalk_117 ?_
                      refine s_aload_n (k := 0) hX dX10_readsWalk_120 rfl rfl ?_
                      refine s_get hX fX10_168 oM0 rfl dX10_readsWalk_121 ?_
                      have j139 : ∀ (t0_139 : Int32), f_X10_readsWalk_L139 ag2 M91 t0_139 = some r0 → V X M91 [(0, .ref (ad 0))] [.int t0_139] 139 := by
                        intro t0_139 h
                        refine s_istore_n (lv' := [(0, .ref (ad 0)), (1, .int t0_139)]) hX dX10_readsWalk_139 rfl (by decide) rfl ?_
                        refine s_iload_n (k := 1) hX dX10_readsWalk_140 rfl rfl ?_
                        refine e_if_eq (tgt := 2) hX dX10_readsWalk_141 (by decide) z_eq h (fun h => ?_) (fun h => ?_)
                        · exact ih2 M91 t0_139 h
                        · refine s_aload_n (k := 0) hX dX10_readsWalk_144 rfl rfl ?_
                          refine s_bipush (v := (nI 44)) hX dX10_readsWalk_145 (by decide) ?_
                          refine e_callVi hX (t_X10_takesSign (nI 44) M91) mX10_takesSign lX10_255 (by decide) (by decide) oM0 rfl rfl rfl rfl rfl (Nat.le_of_ble_eq_true rfl) dX10_readsWalk_147 h (fun r_5 M_6 h => ?_)
                          refine e_if_ne (tgt := 2) hX dX10_readsWalk_150 (by decide) z_eq h (fun h => ?_) (fun h => ?_)
                          · exact ih2 M_6 t0_139 h
                          · refine s_iconst (v := (nI 0)) hX dX10_readsWalk_153 (by decide) ?_
                            exact e_zretiL hX hR dX10_readsWalk_154 (by decide) h
                      have j134 : f_X10_readsWalk_L134 ag2 M91 = some r0 → V X M91 [(0, .ref (ad 0))] [] 134 := by
                        intro  h
                        refine s_iconst (v := (nI 1)) hX dX10_readsWalk_134 (by decide) ?_
                        refine s_goto (tgt := 139) hX dX10_readsWalk_135 (by decide) ?_
                        exact j139 (nI 1) h
                      refine e_icmp_lt (tgt := 134) hX dX10_readsWalk_124 (by decide) r_lt h (fun h => ?_) (fun h => ?_)
                      · exact j134 h
                      · refine s_aload_n (k := 0) hX dX10_readsWalk_127 rfl rfl ?_
                        refine s_get hX fX10_362 oM0 rfl dX10_readsWalk_128 ?_
                        refine e_if_le (tgt := 138) hX dX10_readsWalk_131 (by decide) z_le h (fun h => ?_) (fun h => ?_)
                        · refine s_iconst (v := (nI 0)) hX dX10_readsWalk_138 (by decide) ?_
                          exact j139 (nI 0) h
                        · exact j134 h
                    refine e_icmp_ne (tgt := 116) hX dX10_readsWalk_97 (by decide) (m_eq (by decide +kernel)) h (fun h => ?_) (fun h => ?_)
                    · exact j116 h
                    · refine s_aload_n (k := 0) hX dX10_readsWalk_100 rfl rfl ?_
                      refine s_get hX fX10_362 oM0 rfl dX10_readsWalk_101 ?_
                      refine e_if_le (tgt := 116) hX dX10_readsWalk_104 (by decide) z_le h (fun h => ?_) (fun h => ?_)
                      · exact j116 h
                      · refine s_aload_n (k := 0) hX dX10_readsWalk_107 rfl rfl ?_
                        refine e_callVi hX (t_X10_endsRound M91) mX10_endsRound lX10_368 (by decide) (by decide) oM0 rfl rfl rfl rfl rfl (Nat.le_of_ble_eq_true rfl) dX10_readsWalk_108 h (fun r_7 M_8 h => ?_)
                        refine e_if_ne (tgt := 91) hX dX10_readsWalk_111 (by decide) z_eq h (fun h => ?_) (fun h => ?_)
                        · exact ih91 M_8 h
                        · refine s_iconst (v := (nI 0)) hX dX10_readsWalk_114 (by decide) ?_
                          exact e_zretiL hX hR dX10_readsWalk_115 (by decide) h
                exact lp91 FU M_3 h
              · refine s_iconst (v := (nI 0)) hX dX10_readsWalk_89 (by decide) ?_
                exact e_zretiL hX hR dX10_readsWalk_90 (by decide) h
            refine e_icmp_ne (tgt := 82) hX dX10_readsWalk_12 (by decide) (m_eq (by decide +kernel)) h (fun h => ?_) (fun h => ?_)
            · exact j82 h
            · refine s_aload_n (k := 0) hX dX10_readsWalk_15 rfl rfl ?_
              refine s_get hX fX10_362 oM0 rfl dX10_readsWalk_16 ?_
              refine s_iconst (v := (nI 2)) hX dX10_readsWalk_19 (by decide) ?_
              have j23 : f_X10_readsWalk_L23 M6 = some r0 → V X M6 [(0, .ref (ad 0))] [] 23 := by
                intro  h
                refine s_aload_n (k := 0) hX dX10_readsWalk_23 rfl rfl ?_
                refine s_iconst (v := (nI 5)) hX dX10_readsWalk_24 (by decide) ?_
                refine s_aload_n (k := 0) hX dX10_readsWalk_25 rfl rfl ?_
                refine s_get hX fX10_165 oM0 rfl dX10_readsWalk_26 ?_
                refine e_callVi hX (t_X10_wrongAt (nI 5) (M6 0 7) M6) mX10_wrongAt lX10_178 (by decide) (by decide) oM0 rfl rfl rfl rfl rfl (Nat.le_of_ble_eq_true rfl) dX10_readsWalk_29 h (fun r_9 M_10 h => ?_)
                exact e_zreti hX hR dX10_readsWalk_32 h
              refine e_icmp_ne (tgt := 33) hX dX10_readsWalk_20 (by decide) (m_eq (by decide +kernel)) h (fun h => ?_) (fun h => ?_)
              · refine s_aload_n (k := 0) hX dX10_readsWalk_33 rfl rfl ?_
                refine s_get hX fX10_110 oM0 rfl dX10_readsWalk_34 ?_
                refine s_aload_n (k := 0) hX dX10_readsWalk_37 rfl rfl ?_
                refine s_get hX fX10_362 oM0 rfl dX10_readsWalk_38 ?_
                refine s_aload_n (k := 0) hX dX10_readsWalk_41 rfl rfl ?_
                refine s_get hX fX10_165 oM0 rfl dX10_readsWalk_42 ?_
                refine e_iast hX aM34 dX10_readsWalk_45 h (fun h => ?_)
                refine e_bndM h (fun M_11 h => ?_)
                refine s_aload_n (k := 0) hX dX10_readsWalk_46 rfl rfl ?_
                refine s_get hX fX10_113 oM0 rfl dX10_readsWalk_47 ?_
                refine s_aload_n (k := 0) hX dX10_readsWalk_50 rfl rfl ?_
                refine s_get hX fX10_362 oM0 rfl dX10_readsWalk_51 ?_
                refine s_aload_n (k := 0) hX dX10_readsWalk_54 rfl rfl ?_
                refine s_get hX fX10_359 oM0 rfl dX10_readsWalk_55 ?_
                refine e_iast hX aM35 dX10_readsWalk_58 h (fun h => ?_)
                refine e_bndM h (fun M_12 h => ?_)
                refine s_aload_n (k := 0) hX dX10_readsWalk_59 rfl rfl ?_
                refine s_aload_n (k := 0) hX dX10_readsWalk_60 rfl rfl ?_
                refine s_get hX fX10_362 oM0 rfl dX10_readsWalk_61 ?_
                refine s_iconst (v := (nI 1)) hX dX10_readsWalk_64 (by decide) ?_
                refine s_iadd hX dX10_readsWalk_65 ?_
                refine s_puti (ty := .int) hX fX10_362 oM0 rfl (Nat.le_of_ble_eq_true rfl) ty_10_50 rfl rfl dX10_readsWalk_66 ?_
                refine e_bndM h (fun M_13 h => ?_)
                refine s_aload_n (k := 0) hX dX10_readsWalk_69 rfl rfl ?_
                refine s_aload_n (k := 0) hX dX10_readsWalk_70 rfl rfl ?_
                refine s_get hX fX10_165 oM0 rfl dX10_readsWalk_71 ?_
                refine s_iconst (v := (nI 1)) hX dX10_readsWalk_74 (by decide) ?_
                refine s_iadd hX dX10_readsWalk_75 ?_
                refine s_puti (ty := .int) hX fX10_165 oM0 rfl (Nat.le_of_ble_eq_true rfl) ty_10_7 rfl rfl dX10_readsWalk_76 ?_
                refine e_bndM h (fun M_14 h => ?_)
                refine s_goto (tgt := 6) hX dX10_readsWalk_79 (by decide) ?_
                exact ih6 M_14 h
              · exact j23 h
        refine s_loc [0] rfl ?_
        exact lp6 FU M2 h
  exact lp2 FU M (nI 1) h
set_option maxHeartbeats 4000000 in
theorem t_X10_seed (v1 : Int32) (M : Mem) : AXi yX10_seed cX10_seed 2 (some .boolean) 1 39 glM (fun ad => [.ref (ad 0), .int v1]) M (f_X10_seed M v1) := by
  intro r0 h
  refine AM.of (by decide) (fun _ => Nat.le_of_ble_eq_true rfl) (fun X ad cI cZ cB hX hR => ?_)
  show V X M [(0, .ref (ad 0)), (1, .int v1)] [] 0
  refine s_iload_n (k := 1) hX dX10_seed_0 rfl rfl ?_
  refine s_iconst (v := (nI 0)) hX dX10_seed_1 (by decide) ?_
  refine s_ldcw (v := (nI 65535)) hX kX10_414 dX10_seed_2 ?_
  refine e_callSp hX (t_X10_in v1 (nI 0) (nI 65535) M) mX10_in lX10_132 (by decide) (by decide) rfl rfl (Nat.le_of_ble_eq_true rfl) dX10_seed_5 h (fun r_1 h => ?_)
  refine e_if_ne (tgt := 13) hX dX10_seed_8 (by decide) z_eq h (fun h => ?_) (fun h => ?_)
  · refine s_aload_n (k := 0) hX dX10_seed_13 rfl rfl ?_
    refine s_get hX fX10_7 oM0 rfl dX10_seed_14 ?_
    refine s_sipush (v := (nI 201)) hX dX10_seed_17 (by decide) ?_
    refine s_iload_n (k := 1) hX dX10_seed_20 rfl rfl ?_
    refine s_iastN hX aM1 (by decide) dX10_seed_21 ?_
    refine e_bndM h (fun M_2 h => ?_)
    refine s_iconst (v := (nI 1)) hX dX10_seed_22 (by decide) ?_
    exact e_zretiL hX hR dX10_seed_23 (by decide) h
  · refine s_iconst (v := (nI 0)) hX dX10_seed_11 (by decide) ?_
    exact e_zretiL hX hR dX10_seed_12 (by decide) h
set_option maxHeartbeats 4000000 in
theorem t_X10_yardRow (M : Mem) : AXp yX10_yardRow cX10_yardRow 4 (some .int) 2 39 glM (fun ad => [.ref (ad 0)]) M (f_X10_yardRow M) := by
  intro r0 h
  refine AM.of (by decide) (fun _ => Nat.le_of_ble_eq_true rfl) (fun X ad cI cZ cB hX hR => ?_)
  show V X M [(0, .ref (ad 0))] [] 0
  refine s_iconst (v := (nI 0)) hX dX10_yardRow_0 (by decide) ?_
  refine s_istore_n (lv' := [(0, .ref (ad 0)), (1, .int (nI 0))]) hX dX10_yardRow_1 rfl (by decide) rfl ?_
  refine s_iconst (v := (nI 0)) hX dX10_yardRow_2 (by decide) ?_
  refine s_istore_n (lv' := [(0, .ref (ad 0)), (1, .int (nI 0)), (2, .int (nI 0))]) hX dX10_yardRow_3 rfl (by decide) rfl ?_
  have lp4 : ∀ (N4 : Nat) (y1_4 : Int32) (y2_4 : Int32), wlp2 (f_X10_yardRow_B4 M) N4 y1_4 y2_4 = some r0 → V X M [(0, .ref (ad 0)), (1, .int y1_4), (2, .int y2_4)] [] 4 := by
    intro N4
    induction N4 with
    | zero => exact fun _ _ h => e_none h
    | succ N4 ih4 =>
      intro y1_4 y2_4 h
      replace h : f_X10_yardRow_B4 M (wlp2 (f_X10_yardRow_B4 M) N4) y1_4 y2_4 = some r0 := h
      generalize wlp2 (f_X10_yardRow_B4 M) N4 = ag4 at ih4 h
      refine s_iload_n (k := 2) hX dX10_yardRow_4 rfl rfl ?_
      refine s_bipush (v := (nI 40)) hX dX10_yardRow_5 (by decide) ?_
      refine e_icmp_ge (tgt := 67) hX dX10_yardRow_7 (by decide) (m_ge (by decide +kernel)) h (fun h => ?_) (fun h => ?_)
      · refine s_iload_n (k := 1) hX dX10_yardRow_67 rfl rfl ?_
        exact e_iretp hX hR dX10_yardRow_68 h
      · refine s_iconst (v := (nI 0)) hX dX10_yardRow_10 (by decide) ?_
        refine s_istore_n (lv' := [(0, .ref (ad 0)), (1, .int y1_4), (2, .int y2_4), (3, .int (nI 0))]) hX dX10_yardRow_11 rfl (by decide) rfl ?_
        have lp12 : ∀ (N12 : Nat) (y3_12 : Int32), wlp1 (f_X10_yardRow_B12 M ag4 y1_4 y2_4) N12 y3_12 = some r0 → V X M [(0, .ref (ad 0)), (1, .int y1_4), (2, .int y2_4), (3, .int y3_12)] [] 12 := by
          intro N12
          induction N12 with
          | zero => exact fun _ h => e_none h
          | succ N12 ih12 =>
            intro y3_12 h
            replace h : f_X10_yardRow_B12 M ag4 y1_4 y2_4 (wlp1 (f_X10_yardRow_B12 M ag4 y1_4 y2_4) N12) y3_12 = some r0 := h
            generalize wlp1 (f_X10_yardRow_B12 M ag4 y1_4 y2_4) N12 = ag12 at ih12 h
            refine s_aload_n (k := 0) hX dX10_yardRow_12 rfl rfl ?_
            refine s_iload_n (k := 2) hX dX10_yardRow_13 rfl rfl ?_
            refine e_callVp hX (t_X10_isStone y2_4 M) mX10_isStone lX10_154 (by decide) (by decide) oM0 rfl rfl rfl rfl rfl (Nat.le_of_ble_eq_true rfl) dX10_yardRow_14 h (fun r_1 h => ?_)
            have j55 : f_X10_yardRow_L55 ag4 y1_4 y2_4 y3_12 = some r0 → V X M [(0, .ref (ad 0)), (1, .int y1_4), (2, .int y2_4), (3, .int y3_12)] [] 55 := by
              intro  h
              refine s_iload_n (k := 1) hX dX10_yardRow_55 rfl rfl ?_
              refine s_iload_n (k := 3) hX dX10_yardRow_56 rfl rfl ?_
              refine e_callSp hX (t_X10_max y1_4 y3_12 M) mX10_max lX10_129 (by decide) (by decide) rfl rfl (Nat.le_of_ble_eq_true rfl) dX10_yardRow_57 h (fun r_2 h => ?_)
              refine s_istore_n (lv' := [(0, .ref (ad 0)), (2, .int y2_4), (3, .int y3_12), (1, .int r_2)]) hX dX10_yardRow_60 rfl (by decide) rfl ?_
              refine s_iinc (k := 1) (v := (y2_4 + (nI 1))) (lv' := [(0, .ref (ad 0)), (3, .int y3_12), (1, .int r_2), (2, .int (y2_4 + (nI 1)))]) hX dX10_yardRow_61 (congrArg (fun z => y2_4 + z) (by decide)) (by decide) rfl rfl ?_
              refine s_goto (tgt := 4) hX dX10_yardRow_64 (by decide) ?_
              refine s_loc [0, 2, 3] rfl ?_
              exact ih4 r_2 (y2_4 + (nI 1)) h
            refine e_if_eq (tgt := 55) hX dX10_yardRow_17 (by decide) z_eq h (fun h => ?_) (fun h => ?_)
            · exact j55 h
            · refine s_aload_n (k := 0) hX dX10_yardRow_20 rfl rfl ?_
              refine s_aload_n (k := 0) hX dX10_yardRow_21 rfl rfl ?_
              refine s_get hX fX10_7 oM0 rfl dX10_yardRow_22 ?_
              refine s_bipush (v := (nI 40)) hX dX10_yardRow_25 (by decide) ?_
              refine s_iload_n (k := 2) hX dX10_yardRow_27 rfl rfl ?_
              refine s_iadd hX dX10_yardRow_28 ?_
              refine e_iald hX aM1 dX10_yardRow_29 h (fun h => ?_)
              refine s_aload_n (k := 0) hX dX10_yardRow_30 rfl rfl ?_
              refine s_get hX fX10_7 oM0 rfl dX10_yardRow_31 ?_
              refine s_bipush (v := (nI 80)) hX dX10_yardRow_34 (by decide) ?_
              refine s_iload_n (k := 2) hX dX10_yardRow_36 rfl rfl ?_
              refine s_iadd hX dX10_yardRow_37 ?_
              refine e_iald hX aM1 dX10_yardRow_38 h (fun h => ?_)
              refine s_iload_n (k := 3) hX dX10_yardRow_39 rfl rfl ?_
              refine s_iadd hX dX10_yardRow_40 ?_
              refine e_callVp hX (t_X10_stoneAt (M 1 (ix ((nI 40) + y2_4))) ((M 1 (ix ((nI 80) + y2_4))) + y3_12) M) mX10_stoneAt lX10_147 (by decide) (by decide) oM0 rfl rfl rfl rfl rfl (Nat.le_of_ble_eq_true rfl) dX10_yardRow_41 h (fun r_3 h => ?_)
              refine s_iconst (v := (-1)) hX dX10_yardRow_44 (by decide) ?_
              refine e_icmp_eq (tgt := 55) hX dX10_yardRow_45 (by decide) (m_eq (by decide +kernel)) h (fun h => ?_) (fun h => ?_)
              · exact j55 h
              · refine s_iload_n (k := 3) hX dX10_yardRow_48 rfl rfl ?_
                refine s_iconst (v := (nI 1)) hX dX10_yardRow_49 (by decide) ?_
                refine s_iadd hX dX10_yardRow_50 ?_
                refine s_istore_n (lv' := [(0, .ref (ad 0)), (1, .int y1_4), (2, .int y2_4), (3, .int (y3_12 + (nI 1)))]) hX dX10_yardRow_51 rfl (by decide) rfl ?_
                refine s_goto (tgt := 12) hX dX10_yardRow_52 (by decide) ?_
                exact ih12 (y3_12 + (nI 1)) h
        exact lp12 FU (nI 0) h
  exact lp4 FU (nI 0) (nI 0) h
set_option maxHeartbeats 4000000 in
theorem t_X10_shape (v1 : Int32) (M : Mem) : AXp yX10_shape cX10_shape 2 (some .int) 4 39 glM (fun ad => [.ref (ad 0), .int v1]) M (f_X10_shape M v1) := by
  intro r0 h
  refine AM.of (by decide) (fun _ => Nat.le_of_ble_eq_true rfl) (fun X ad cI cZ cB hX hR => ?_)
  show V X M [(0, .ref (ad 0)), (1, .int v1)] [] 0
  refine s_iload_n (k := 1) hX dX10_shape_0 rfl rfl ?_
  refine e_if h (fun c0 h => ?_) (fun c0 h => ?_)
  · refine s_tabIn (tgt := 32) (off := 31) hX dX10_shape_1 (by omega) (by omega) (by rw [c0]; rfl) (by decide) ?_
    refine s_aload_n (k := 0) hX dX10_shape_32 rfl rfl ?_
    refine e_callVp hX (t_X10_mostInLine M) mX10_mostInLine lX10_402 (by decide) (by decide) oM0 rfl rfl rfl rfl rfl (Nat.le_of_ble_eq_true rfl) dX10_shape_33 h (fun r_1 h => ?_)
    exact e_iretp hX hR dX10_shape_36 h
  refine e_if h (fun c1 h => ?_) (fun c1 h => ?_)
  · refine s_tabIn (tgt := 37) (off := 36) hX dX10_shape_1 (by omega) (by omega) (by rw [c1]; rfl) (by decide) ?_
    refine s_aload_n (k := 0) hX dX10_shape_37 rfl rfl ?_
    refine e_callVp hX (t_X10_yardRow M) mX10_yardRow lX10_405 (by decide) (by decide) oM0 rfl rfl rfl rfl rfl (Nat.le_of_ble_eq_true rfl) dX10_shape_38 h (fun r_2 h => ?_)
    exact e_iretp hX hR dX10_shape_41 h
  refine e_if h (fun c2 h => ?_) (fun c2 h => ?_)
  · refine s_tabIn (tgt := 42) (off := 41) hX dX10_shape_1 (by omega) (by omega) (by rw [c2]; rfl) (by decide) ?_
    refine s_aload_n (k := 0) hX dX10_shape_42 rfl rfl ?_
    refine e_callVp hX (t_X10_pairsOf M) mX10_pairsOf lX10_408 (by decide) (by decide) oM0 rfl rfl rfl rfl rfl (Nat.le_of_ble_eq_true rfl) dX10_shape_43 h (fun r_3 h => ?_)
    exact e_iretp hX hR dX10_shape_46 h
  refine e_if h (fun c3 h => ?_) (fun c3 h => ?_)
  · refine s_tabIn (tgt := 47) (off := 46) hX dX10_shape_1 (by omega) (by omega) (by rw [c3]; rfl) (by decide) ?_
    refine s_aload_n (k := 0) hX dX10_shape_47 rfl rfl ?_
    refine e_callVp hX (t_X10_closest M) mX10_closest lX10_411 (by decide) (by decide) oM0 rfl rfl rfl rfl rfl (Nat.le_of_ble_eq_true rfl) dX10_shape_48 h (fun r_4 h => ?_)
    exact e_iretp hX hR dX10_shape_51 h
  refine s_tabOut (tgt := 52) hX dX10_shape_1 (by omega) (by decide) ?_
  refine s_iconst (v := (-1)) hX dX10_shape_52 (by decide) ?_
  exact e_iretp hX hR dX10_shape_53 h
set_option maxHeartbeats 4000000 in
theorem t_X10_stone (v1 : Int32) (v2 : Int32) (v3 : Int32) (v4 : Int32) (M : Mem) : AXi yX10_stone cX10_stone 6 (some .boolean) 1 39 glM (fun ad => [.ref (ad 0), .int v1, .int v2, .int v3, .int v4]) M (f_X10_stone M v1 v2 v3 v4) := by
  intro r0 h
  refine AM.of (by decide) (fun _ => Nat.le_of_ble_eq_true rfl) (fun X ad cI cZ cB hX hR => ?_)
  show V X M [(0, .ref (ad 0)), (1, .int v1), (2, .int v2), (3, .int v3), (4, .int v4)] [] 0
  refine s_iload_n (k := 1) hX dX10_stone_0 rfl rfl ?_
  refine s_iconst (v := (nI 0)) hX dX10_stone_1 (by decide) ?_
  refine s_bipush (v := (nI 39)) hX dX10_stone_2 (by decide) ?_
  refine e_callSp hX (t_X10_in v1 (nI 0) (nI 39) M) mX10_in lX10_132 (by decide) (by decide) rfl rfl (Nat.le_of_ble_eq_true rfl) dX10_stone_4 h (fun r_1 h => ?_)
  refine e_if_eq (tgt := 41) hX dX10_stone_7 (by decide) z_eq h (fun h => ?_) (fun h => ?_)
  · refine s_iconst (v := (nI 0)) hX dX10_stone_41 (by decide) ?_
    exact e_zretiL hX hR dX10_stone_42 (by decide) h
  · refine s_iload_n (k := 2) hX dX10_stone_10 rfl rfl ?_
    refine s_iconst (v := (nI 0)) hX dX10_stone_11 (by decide) ?_
    refine s_bipush (v := (nI 39)) hX dX10_stone_12 (by decide) ?_
    refine e_callSp hX (t_X10_in v2 (nI 0) (nI 39) M) mX10_in lX10_132 (by decide) (by decide) rfl rfl (Nat.le_of_ble_eq_true rfl) dX10_stone_14 h (fun r_2 h => ?_)
    refine e_if_eq (tgt := 41) hX dX10_stone_17 (by decide) z_eq h (fun h => ?_) (fun h => ?_)
    · refine s_iconst (v := (nI 0)) hX dX10_stone_41 (by decide) ?_
      exact e_zretiL hX hR dX10_stone_42 (by decide) h
    · refine s_iload_n (k := 3) hX dX10_stone_20 rfl rfl ?_
      refine s_iconst (v := (nI 1)) hX dX10_stone_21 (by decide) ?_
      refine s_bipush (v := (nI 20)) hX dX10_stone_22 (by decide) ?_
      refine e_callSp hX (t_X10_in v3 (nI 1) (nI 20) M) mX10_in lX10_132 (by decide) (by decide) rfl rfl (Nat.le_of_ble_eq_true rfl) dX10_stone_24 h (fun r_3 h => ?_)
      refine e_if_eq (tgt := 41) hX dX10_stone_27 (by decide) z_eq h (fun h => ?_) (fun h => ?_)
      · refine s_iconst (v := (nI 0)) hX dX10_stone_41 (by decide) ?_
        exact e_zretiL hX hR dX10_stone_42 (by decide) h
      · refine s_iload (k := 4) hX dX10_stone_30 rfl ?_
        refine s_iconst (v := (nI 0)) hX dX10_stone_32 (by decide) ?_
        refine s_bipush (v := (nI 9)) hX dX10_stone_33 (by decide) ?_
        refine e_callSp hX (t_X10_in v4 (nI 0) (nI 9) M) mX10_in lX10_132 (by decide) (by decide) rfl rfl (Nat.le_of_ble_eq_true rfl) dX10_stone_35 h (fun r_4 h => ?_)
        refine e_if_ne (tgt := 43) hX dX10_stone_38 (by decide) z_eq h (fun h => ?_) (fun h => ?_)
        · refine s_aload_n (k := 0) hX dX10_stone_43 rfl rfl ?_
          refine s_iload_n (k := 2) hX dX10_stone_44 rfl rfl ?_
          refine s_iload_n (k := 3) hX dX10_stone_45 rfl rfl ?_
          refine e_callVp hX (t_X10_stoneAt v2 v3 M) mX10_stoneAt lX10_147 (by decide) (by decide) oM0 rfl rfl rfl rfl rfl (Nat.le_of_ble_eq_true rfl) dX10_stone_46 h (fun r_5 h => ?_)
          refine s_istore (lv' := [(0, .ref (ad 0)), (1, .int v1), (2, .int v2), (3, .int v3), (4, .int v4), (5, .int r_5)]) hX dX10_stone_49 (by decide) rfl ?_
          refine s_iload (k := 5) hX dX10_stone_51 rfl ?_
          refine s_iconst (v := (-1)) hX dX10_stone_53 (by decide) ?_
          have j65 : f_X10_stone_L65 M v1 v2 v3 v4 = some r0 → V X M [(0, .ref (ad 0)), (1, .int v1), (2, .int v2), (3, .int v3), (4, .int v4)] [] 65 := by
            intro  h
            refine s_aload_n (k := 0) hX dX10_stone_65 rfl rfl ?_
            refine s_iload_n (k := 1) hX dX10_stone_66 rfl rfl ?_
            refine s_iload_n (k := 2) hX dX10_stone_67 rfl rfl ?_
            refine s_iload_n (k := 3) hX dX10_stone_68 rfl rfl ?_
            refine s_iload (k := 4) hX dX10_stone_69 rfl ?_
            refine s_iconst (v := (nI 0)) hX dX10_stone_71 (by decide) ?_
            refine e_callVv hX (t_X10_laysStone v1 v2 v3 v4 (nI 0) M) mX10_laysStone lX10_150 (by decide) (by decide) oM0 rfl rfl rfl rfl rfl (Nat.le_of_ble_eq_true rfl) dX10_stone_72 h (fun M_6 h => ?_)
            refine s_iconst (v := (nI 1)) hX dX10_stone_75 (by decide) ?_
            exact e_zretiL hX hR dX10_stone_76 (by decide) h
          refine e_icmp_eq (tgt := 65) hX dX10_stone_54 (by decide) (m_eq (by decide +kernel)) h (fun h => ?_) (fun h => ?_)
          · refine s_loc [0, 1, 2, 3, 4] rfl ?_
            exact j65 h
          · refine s_iload (k := 5) hX dX10_stone_57 rfl ?_
            refine s_iload_n (k := 1) hX dX10_stone_59 rfl rfl ?_
            refine e_icmp_eq (tgt := 65) hX dX10_stone_60 (by decide) r_eq h (fun h => ?_) (fun h => ?_)
            · refine s_loc [0, 1, 2, 3, 4] rfl ?_
              exact j65 h
            · refine s_iconst (v := (nI 0)) hX dX10_stone_63 (by decide) ?_
              exact e_zretiL hX hR dX10_stone_64 (by decide) h
        · refine s_iconst (v := (nI 0)) hX dX10_stone_41 (by decide) ?_
          exact e_zretiL hX hR dX10_stone_42 (by decide) h
set_option maxHeartbeats 4000000 in
theorem t_X10_stoneIs (v1 : Int32) (v2 : Int32) (M : Mem) : AXp yX10_stoneIs cX10_stoneIs 3 (some .int) 2 39 glM (fun ad => [.ref (ad 0), .int v1, .int v2]) M (f_X10_stoneIs M v1 v2) := by
  intro r0 h
  refine AM.of (by decide) (fun _ => Nat.le_of_ble_eq_true rfl) (fun X ad cI cZ cB hX hR => ?_)
  show V X M [(0, .ref (ad 0)), (1, .int v1), (2, .int v2)] [] 0
  refine s_aload_n (k := 0) hX dX10_stoneIs_0 rfl rfl ?_
  refine s_iload_n (k := 1) hX dX10_stoneIs_1 rfl rfl ?_
  refine e_callVp hX (t_X10_isStone v1 M) mX10_isStone lX10_154 (by decide) (by decide) oM0 rfl rfl rfl rfl rfl (Nat.le_of_ble_eq_true rfl) dX10_stoneIs_2 h (fun r_1 h => ?_)
  refine e_if_ne (tgt := 10) hX dX10_stoneIs_5 (by decide) z_eq h (fun h => ?_) (fun h => ?_)
  · refine s_iload_n (k := 2) hX dX10_stoneIs_10 rfl rfl ?_
    refine e_if h (fun c0 h => ?_) (fun c0 h => ?_)
    · refine s_tabIn (tgt := 44) (off := 33) hX dX10_stoneIs_11 (by omega) (by omega) (by rw [c0]; rfl) (by decide) ?_
      refine s_aload_n (k := 0) hX dX10_stoneIs_44 rfl rfl ?_
      refine s_get hX fX10_7 oM0 rfl dX10_stoneIs_45 ?_
      refine s_bipush (v := (nI 40)) hX dX10_stoneIs_48 (by decide) ?_
      refine s_iload_n (k := 1) hX dX10_stoneIs_50 rfl rfl ?_
      refine s_iadd hX dX10_stoneIs_51 ?_
      refine e_iald hX aM1 dX10_stoneIs_52 h (fun h => ?_)
      exact e_iretp hX hR dX10_stoneIs_53 h
    refine e_if h (fun c1 h => ?_) (fun c1 h => ?_)
    · refine s_tabIn (tgt := 54) (off := 43) hX dX10_stoneIs_11 (by omega) (by omega) (by rw [c1]; rfl) (by decide) ?_
      refine s_aload_n (k := 0) hX dX10_stoneIs_54 rfl rfl ?_
      refine s_get hX fX10_7 oM0 rfl dX10_stoneIs_55 ?_
      refine s_bipush (v := (nI 80)) hX dX10_stoneIs_58 (by decide) ?_
      refine s_iload_n (k := 1) hX dX10_stoneIs_60 rfl rfl ?_
      refine s_iadd hX dX10_stoneIs_61 ?_
      refine e_iald hX aM1 dX10_stoneIs_62 h (fun h => ?_)
      exact e_iretp hX hR dX10_stoneIs_63 h
    refine e_if h (fun c2 h => ?_) (fun c2 h => ?_)
    · refine s_tabIn (tgt := 64) (off := 53) hX dX10_stoneIs_11 (by omega) (by omega) (by rw [c2]; rfl) (by decide) ?_
      refine s_aload_n (k := 0) hX dX10_stoneIs_64 rfl rfl ?_
      refine s_get hX fX10_7 oM0 rfl dX10_stoneIs_65 ?_
      refine s_bipush (v := (nI 120)) hX dX10_stoneIs_68 (by decide) ?_
      refine s_iload_n (k := 1) hX dX10_stoneIs_70 rfl rfl ?_
      refine s_iadd hX dX10_stoneIs_71 ?_
      refine e_iald hX aM1 dX10_stoneIs_72 h (fun h => ?_)
      exact e_iretp hX hR dX10_stoneIs_73 h
    refine e_if h (fun c3 h => ?_) (fun c3 h => ?_)
    · refine s_tabIn (tgt := 74) (off := 63) hX dX10_stoneIs_11 (by omega) (by omega) (by rw [c3]; rfl) (by decide) ?_
      refine s_aload_n (k := 0) hX dX10_stoneIs_74 rfl rfl ?_
      refine s_get hX fX10_7 oM0 rfl dX10_stoneIs_75 ?_
      refine s_sipush (v := (nI 160)) hX dX10_stoneIs_78 (by decide) ?_
      refine s_iload_n (k := 1) hX dX10_stoneIs_81 rfl rfl ?_
      refine s_iadd hX dX10_stoneIs_82 ?_
      refine e_iald hX aM1 dX10_stoneIs_83 h (fun h => ?_)
      exact e_iretp hX hR dX10_stoneIs_84 h
    refine e_if h (fun c4 h => ?_) (fun c4 h => ?_)
    · refine s_tabIn (tgt := 85) (off := 74) hX dX10_stoneIs_11 (by omega) (by omega) (by rw [c4]; rfl) (by decide) ?_
      refine s_aload_n (k := 0) hX dX10_stoneIs_85 rfl rfl ?_
      refine s_iload_n (k := 1) hX dX10_stoneIs_86 rfl rfl ?_
      refine e_callVp hX (t_X10_nearTo v1 M) mX10_nearTo lX10_268 (by decide) (by decide) oM0 rfl rfl rfl rfl rfl (Nat.le_of_ble_eq_true rfl) dX10_stoneIs_87 h (fun r_2 h => ?_)
      exact e_iretp hX hR dX10_stoneIs_90 h
    refine s_tabOut (tgt := 91) hX dX10_stoneIs_11 (by omega) (by decide) ?_
    refine s_iconst (v := (-1)) hX dX10_stoneIs_91 (by decide) ?_
    exact e_iretp hX hR dX10_stoneIs_92 h
  · refine s_iconst (v := (-1)) hX dX10_stoneIs_8 (by decide) ?_
    exact e_iretp hX hR dX10_stoneIs_9 h
set_option maxHeartbeats 4000000 in
theorem t_X10_take (v1 : Int32) (M : Mem) : AXi yX10_take cX10_take 2 (some .boolean) 2 39 glM (fun ad => [.ref (ad 0), .int v1]) M (f_X10_take M v1) := by
  intro r0 h
  refine AM.of (by decide) (fun _ => Nat.le_of_ble_eq_true rfl) (fun X ad cI cZ cB hX hR => ?_)
  show V X M [(0, .ref (ad 0)), (1, .int v1)] [] 0
  refine s_aload_n (k := 0) hX dX10_take_0 rfl rfl ?_
  refine s_iload_n (k := 1) hX dX10_take_1 rfl rfl ?_
  refine e_callVp hX (t_X10_isStone v1 M) mX10_isStone lX10_154 (by decide) (by decide) oM0 rfl rfl rfl rfl rfl (Nat.le_of_ble_eq_true rfl) dX10_take_2 h (fun r_1 h => ?_)
  refine e_if_ne (tgt := 10) hX dX10_take_5 (by decide) z_eq h (fun h => ?_) (fun h => ?_)
  · refine s_aload_n (k := 0) hX dX10_take_10 rfl rfl ?_
    refine s_get hX fX10_7 oM0 rfl dX10_take_11 ?_
    refine s_iconst (v := (nI 0)) hX dX10_take_14 (by decide) ?_
    refine s_iload_n (k := 1) hX dX10_take_15 rfl rfl ?_
    refine s_iadd hX dX10_take_16 ?_
    refine s_top (zadd _) ?_
    refine s_iconst (v := (nI 0)) hX dX10_take_17 (by decide) ?_
    refine e_iast hX aM1 dX10_take_18 h (fun h => ?_)
    refine e_bndM h (fun M_2 h => ?_)
    refine s_iconst (v := (nI 1)) hX dX10_take_19 (by decide) ?_
    exact e_zretiL hX hR dX10_take_20 (by decide) h
  · refine s_iconst (v := (nI 0)) hX dX10_take_8 (by decide) ?_
    exact e_zretiL hX hR dX10_take_9 (by decide) h
