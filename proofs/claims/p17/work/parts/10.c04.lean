theorem dX4_go_0 : decode cX4_go 0 = .ok (.aload_n 0, 1) := by decide +kernel
theorem dX4_go_1 : decode cX4_go 1 = .ok (.iconst 0, 1) := by decide +kernel
theorem dX4_go_2 : decode cX4_go 2 = .ok (.putfield 22, 3) := by decide +kernel
theorem dX4_go_5 : decode cX4_go 5 = .ok (.aload_n 0, 1) := by decide +kernel
theorem dX4_go_6 : decode cX4_go 6 = .ok (.iload_n 3, 1) := by decide +kernel
theorem dX4_go_7 : decode cX4_go 7 = .ok (.putfield 25, 3) := by decide +kernel
theorem dX4_go_10 : decode cX4_go 10 = .ok (.aload_n 0, 1) := by decide +kernel
theorem dX4_go_11 : decode cX4_go 11 = .ok (.iconst 0, 1) := by decide +kernel
theorem dX4_go_12 : decode cX4_go 12 = .ok (.putfield 28, 3) := by decide +kernel
theorem dX4_go_15 : decode cX4_go 15 = .ok (.iconst 0, 1) := by decide +kernel
theorem dX4_go_16 : decode cX4_go 16 = .ok (.istore 4, 2) := by decide +kernel
theorem dX4_go_18 : decode cX4_go 18 = .ok (.iload 4, 2) := by decide +kernel
theorem dX4_go_20 : decode cX4_go 20 = .ok (.aload_n 0, 1) := by decide +kernel
theorem dX4_go_21 : decode cX4_go 21 = .ok (.getfield 18, 3) := by decide +kernel
theorem dX4_go_24 : decode cX4_go 24 = .ok (.if_icmp .ge 145, 3) := by decide +kernel
theorem dX4_go_27 : decode cX4_go 27 = .ok (.iload 4, 2) := by decide +kernel
theorem dX4_go_29 : decode cX4_go 29 = .ok (.bipush 60, 2) := by decide +kernel
theorem dX4_go_31 : decode cX4_go 31 = .ok (.if_icmp .ge 138, 3) := by decide +kernel
theorem dX4_go_34 : decode cX4_go 34 = .ok (.aload_n 0, 1) := by decide +kernel
theorem dX4_go_35 : decode cX4_go 35 = .ok (.getfield 28, 3) := by decide +kernel
theorem dX4_go_38 : decode cX4_go 38 = .ok (.bipush 21, 2) := by decide +kernel
theorem dX4_go_40 : decode cX4_go 40 = .ok (.if_icmp .ge 129, 3) := by decide +kernel
theorem dX4_go_43 : decode cX4_go 43 = .ok (.aload_n 0, 1) := by decide +kernel
theorem dX4_go_44 : decode cX4_go 44 = .ok (.getfield 25, 3) := by decide +kernel
theorem dX4_go_47 : decode cX4_go 47 = .ok (.aload_n 0, 1) := by decide +kernel
theorem dX4_go_48 : decode cX4_go 48 = .ok (.getfield 9, 3) := by decide +kernel
theorem dX4_go_51 : decode cX4_go 51 = .ok (.iload 4, 2) := by decide +kernel
theorem dX4_go_53 : decode cX4_go 53 = .ok (.iaload, 1) := by decide +kernel
theorem dX4_go_54 : decode cX4_go 54 = .ok (.iadd, 1) := by decide +kernel
theorem dX4_go_55 : decode cX4_go 55 = .ok (.istore 5, 2) := by decide +kernel
theorem dX4_go_57 : decode cX4_go 57 = .ok (.iconst 0, 1) := by decide +kernel
theorem dX4_go_58 : decode cX4_go 58 = .ok (.bipush 21, 2) := by decide +kernel
theorem dX4_go_60 : decode cX4_go 60 = .ok (.aload_n 0, 1) := by decide +kernel
theorem dX4_go_61 : decode cX4_go 61 = .ok (.getfield 28, 3) := by decide +kernel
theorem dX4_go_64 : decode cX4_go 64 = .ok (.aload_n 0, 1) := by decide +kernel
theorem dX4_go_65 : decode cX4_go 65 = .ok (.getfield 15, 3) := by decide +kernel
theorem dX4_go_68 : decode cX4_go 68 = .ok (.iload 4, 2) := by decide +kernel
theorem dX4_go_70 : decode cX4_go 70 = .ok (.iaload, 1) := by decide +kernel
theorem dX4_go_71 : decode cX4_go 71 = .ok (.iadd, 1) := by decide +kernel
theorem dX4_go_72 : decode cX4_go 72 = .ok (.invokestatic 72, 3) := by decide +kernel
theorem dX4_go_75 : decode cX4_go 75 = .ok (.invokestatic 78, 3) := by decide +kernel
theorem dX4_go_78 : decode cX4_go 78 = .ok (.istore 6, 2) := by decide +kernel
theorem dX4_go_80 : decode cX4_go 80 = .ok (.aload_n 0, 1) := by decide +kernel
theorem dX4_go_81 : decode cX4_go 81 = .ok (.getfield 9, 3) := by decide +kernel
theorem dX4_go_84 : decode cX4_go 84 = .ok (.iload 4, 2) := by decide +kernel
theorem dX4_go_86 : decode cX4_go 86 = .ok (.iaload, 1) := by decide +kernel
theorem dX4_go_87 : decode cX4_go 87 = .ok (.aload_n 0, 1) := by decide +kernel
theorem dX4_go_88 : decode cX4_go 88 = .ok (.getfield 9, 3) := by decide +kernel
theorem dX4_go_91 : decode cX4_go 91 = .ok (.iload 4, 2) := by decide +kernel
theorem dX4_go_93 : decode cX4_go 93 = .ok (.iaload, 1) := by decide +kernel
theorem dX4_go_94 : decode cX4_go 94 = .ok (.imul, 1) := by decide +kernel
theorem dX4_go_95 : decode cX4_go 95 = .ok (.aload_n 0, 1) := by decide +kernel
theorem dX4_go_96 : decode cX4_go 96 = .ok (.getfield 15, 3) := by decide +kernel
theorem dX4_go_99 : decode cX4_go 99 = .ok (.iload 4, 2) := by decide +kernel
theorem dX4_go_101 : decode cX4_go 101 = .ok (.iaload, 1) := by decide +kernel
theorem dX4_go_102 : decode cX4_go 102 = .ok (.aload_n 0, 1) := by decide +kernel
theorem dX4_go_103 : decode cX4_go 103 = .ok (.getfield 15, 3) := by decide +kernel
theorem dX4_go_106 : decode cX4_go 106 = .ok (.iload 4, 2) := by decide +kernel
theorem dX4_go_108 : decode cX4_go 108 = .ok (.iaload, 1) := by decide +kernel
theorem dX4_go_109 : decode cX4_go 109 = .ok (.imul, 1) := by decide +kernel
theorem dX4_go_110 : decode cX4_go 110 = .ok (.iadd, 1) := by decide +kernel
theorem dX4_go_111 : decode cX4_go 111 = .ok (.iload_n 2, 1) := by decide +kernel
theorem dX4_go_112 : decode cX4_go 112 = .ok (.iload_n 2, 1) := by decide +kernel
theorem dX4_go_113 : decode cX4_go 113 = .ok (.imul, 1) := by decide +kernel
theorem dX4_go_114 : decode cX4_go 114 = .ok (.if_icmp .gt 7, 3) := by decide +kernel
theorem dX4_go_117 : decode cX4_go 117 = .ok (.iconst 1, 1) := by decide +kernel
theorem dX4_go_118 : decode cX4_go 118 = .ok (.goto 4, 3) := by decide +kernel
theorem dX4_go_121 : decode cX4_go 121 = .ok (.iconst 0, 1) := by decide +kernel
theorem dX4_go_122 : decode cX4_go 122 = .ok (.istore 7, 2) := by decide +kernel
theorem dX4_go_124 : decode cX4_go 124 = .ok (.iload 7, 2) := by decide +kernel
theorem dX4_go_126 : decode cX4_go 126 = .ok (.ifCond .eq 14, 3) := by decide +kernel
theorem dX4_go_129 : decode cX4_go 129 = .ok (.aload_n 1, 1) := by decide +kernel
theorem dX4_go_130 : decode cX4_go 130 = .ok (.iload 5, 2) := by decide +kernel
theorem dX4_go_132 : decode cX4_go 132 = .ok (.iload 6, 2) := by decide +kernel
theorem dX4_go_134 : decode cX4_go 134 = .ok (.invokestatic 81, 3) := by decide +kernel
theorem dX4_go_137 : decode cX4_go 137 = .ok (.ifCond .ne 4, 3) := by decide +kernel
theorem dX4_go_140 : decode cX4_go 140 = .ok (.return_, 1) := by decide +kernel
theorem dX4_go_141 : decode cX4_go 141 = .ok (.aload_n 0, 1) := by decide +kernel
theorem dX4_go_142 : decode cX4_go 142 = .ok (.iload 5, 2) := by decide +kernel
theorem dX4_go_144 : decode cX4_go 144 = .ok (.putfield 25, 3) := by decide +kernel
theorem dX4_go_147 : decode cX4_go 147 = .ok (.aload_n 0, 1) := by decide +kernel
theorem dX4_go_148 : decode cX4_go 148 = .ok (.iload 6, 2) := by decide +kernel
theorem dX4_go_150 : decode cX4_go 150 = .ok (.putfield 28, 3) := by decide +kernel
theorem dX4_go_153 : decode cX4_go 153 = .ok (.aload_n 0, 1) := by decide +kernel
theorem dX4_go_154 : decode cX4_go 154 = .ok (.dup, 1) := by decide +kernel
theorem dX4_go_155 : decode cX4_go 155 = .ok (.getfield 22, 3) := by decide +kernel
theorem dX4_go_158 : decode cX4_go 158 = .ok (.iconst 1, 1) := by decide +kernel
theorem dX4_go_159 : decode cX4_go 159 = .ok (.iadd, 1) := by decide +kernel
theorem dX4_go_160 : decode cX4_go 160 = .ok (.putfield 22, 3) := by decide +kernel
theorem dX4_go_163 : decode cX4_go 163 = .ok (.iinc 4 1, 3) := by decide +kernel
theorem dX4_go_166 : decode cX4_go 166 = .ok (.goto (-148), 3) := by decide +kernel
theorem dX4_go_169 : decode cX4_go 169 = .ok (.return_, 1) := by decide +kernel
theorem dX4_isHop_0 : decode cX4_isHop 0 = .ok (.iload_n 0, 1) := by decide +kernel
theorem dX4_isHop_1 : decode cX4_isHop 1 = .ok (.bipush 117, 2) := by decide +kernel
theorem dX4_isHop_3 : decode cX4_isHop 3 = .ok (.if_icmp .eq 21, 3) := by decide +kernel
theorem dX4_isHop_6 : decode cX4_isHop 6 = .ok (.iload_n 0, 1) := by decide +kernel
theorem dX4_isHop_7 : decode cX4_isHop 7 = .ok (.bipush 100, 2) := by decide +kernel
theorem dX4_isHop_9 : decode cX4_isHop 9 = .ok (.if_icmp .eq 15, 3) := by decide +kernel
theorem dX4_isHop_12 : decode cX4_isHop 12 = .ok (.iload_n 0, 1) := by decide +kernel
theorem dX4_isHop_13 : decode cX4_isHop 13 = .ok (.bipush 111, 2) := by decide +kernel
theorem dX4_isHop_15 : decode cX4_isHop 15 = .ok (.if_icmp .eq 9, 3) := by decide +kernel
theorem dX4_isHop_18 : decode cX4_isHop 18 = .ok (.iload_n 0, 1) := by decide +kernel
theorem dX4_isHop_19 : decode cX4_isHop 19 = .ok (.bipush 98, 2) := by decide +kernel
theorem dX4_isHop_21 : decode cX4_isHop 21 = .ok (.if_icmp .ne 7, 3) := by decide +kernel
theorem dX4_isHop_24 : decode cX4_isHop 24 = .ok (.iconst 1, 1) := by decide +kernel
theorem dX4_isHop_25 : decode cX4_isHop 25 = .ok (.goto 4, 3) := by decide +kernel
theorem dX4_isHop_28 : decode cX4_isHop 28 = .ok (.iconst 0, 1) := by decide +kernel
theorem dX4_isHop_29 : decode cX4_isHop 29 = .ok (.ireturn, 1) := by decide +kernel
theorem dX4_repeat_0 : decode cX4_repeat 0 = .ok (.aload_n 0, 1) := by decide +kernel
theorem dX4_repeat_1 : decode cX4_repeat 1 = .ok (.getfield 18, 3) := by decide +kernel
theorem dX4_repeat_4 : decode cX4_repeat 4 = .ok (.iload_n 1, 1) := by decide +kernel
theorem dX4_repeat_5 : decode cX4_repeat 5 = .ok (.isub, 1) := by decide +kernel
theorem dX4_repeat_6 : decode cX4_repeat 6 = .ok (.istore_n 3, 1) := by decide +kernel
theorem dX4_repeat_7 : decode cX4_repeat 7 = .ok (.aload_n 0, 1) := by decide +kernel
theorem dX4_repeat_8 : decode cX4_repeat 8 = .ok (.getfield 18, 3) := by decide +kernel
theorem dX4_repeat_11 : decode cX4_repeat 11 = .ok (.iload_n 3, 1) := by decide +kernel
theorem dX4_repeat_12 : decode cX4_repeat 12 = .ok (.iload_n 2, 1) := by decide +kernel
theorem dX4_repeat_13 : decode cX4_repeat 13 = .ok (.imul, 1) := by decide +kernel
theorem dX4_repeat_14 : decode cX4_repeat 14 = .ok (.iadd, 1) := by decide +kernel
theorem dX4_repeat_15 : decode cX4_repeat 15 = .ok (.istore 4, 2) := by decide +kernel
theorem dX4_repeat_17 : decode cX4_repeat 17 = .ok (.iload_n 1, 1) := by decide +kernel
theorem dX4_repeat_18 : decode cX4_repeat 18 = .ok (.ifCond .lt 14, 3) := by decide +kernel
theorem dX4_repeat_21 : decode cX4_repeat 21 = .ok (.iload_n 3, 1) := by decide +kernel
theorem dX4_repeat_22 : decode cX4_repeat 22 = .ok (.ifCond .lt 10, 3) := by decide +kernel
theorem dX4_repeat_25 : decode cX4_repeat 25 = .ok (.iload 4, 2) := by decide +kernel
theorem dX4_repeat_27 : decode cX4_repeat 27 = .ok (.bipush 60, 2) := by decide +kernel
theorem dX4_repeat_29 : decode cX4_repeat 29 = .ok (.if_icmp .le 5, 3) := by decide +kernel
theorem dX4_repeat_32 : decode cX4_repeat 32 = .ok (.iconst 0, 1) := by decide +kernel
theorem dX4_repeat_33 : decode cX4_repeat 33 = .ok (.ireturn, 1) := by decide +kernel
theorem dX4_repeat_34 : decode cX4_repeat 34 = .ok (.aload_n 0, 1) := by decide +kernel
theorem dX4_repeat_35 : decode cX4_repeat 35 = .ok (.getfield 18, 3) := by decide +kernel
theorem dX4_repeat_38 : decode cX4_repeat 38 = .ok (.istore 5, 2) := by decide +kernel
theorem dX4_repeat_40 : decode cX4_repeat 40 = .ok (.iload 5, 2) := by decide +kernel
theorem dX4_repeat_42 : decode cX4_repeat 42 = .ok (.iload 4, 2) := by decide +kernel
theorem dX4_repeat_44 : decode cX4_repeat 44 = .ok (.if_icmp .ge 41, 3) := by decide +kernel
theorem dX4_repeat_47 : decode cX4_repeat 47 = .ok (.aload_n 0, 1) := by decide +kernel
theorem dX4_repeat_48 : decode cX4_repeat 48 = .ok (.getfield 9, 3) := by decide +kernel
theorem dX4_repeat_51 : decode cX4_repeat 51 = .ok (.iload 5, 2) := by decide +kernel
theorem dX4_repeat_53 : decode cX4_repeat 53 = .ok (.aload_n 0, 1) := by decide +kernel
theorem dX4_repeat_54 : decode cX4_repeat 54 = .ok (.getfield 9, 3) := by decide +kernel
theorem dX4_repeat_57 : decode cX4_repeat 57 = .ok (.iload 5, 2) := by decide +kernel
theorem dX4_repeat_59 : decode cX4_repeat 59 = .ok (.iload_n 3, 1) := by decide +kernel
theorem dX4_repeat_60 : decode cX4_repeat 60 = .ok (.isub, 1) := by decide +kernel
theorem dX4_repeat_61 : decode cX4_repeat 61 = .ok (.iaload, 1) := by decide +kernel
theorem dX4_repeat_62 : decode cX4_repeat 62 = .ok (.iastore, 1) := by decide +kernel
theorem dX4_repeat_63 : decode cX4_repeat 63 = .ok (.aload_n 0, 1) := by decide +kernel
theorem dX4_repeat_64 : decode cX4_repeat 64 = .ok (.getfield 15, 3) := by decide +kernel
theorem dX4_repeat_67 : decode cX4_repeat 67 = .ok (.iload 5, 2) := by decide +kernel
theorem dX4_repeat_69 : decode cX4_repeat 69 = .ok (.aload_n 0, 1) := by decide +kernel
theorem dX4_repeat_70 : decode cX4_repeat 70 = .ok (.getfield 15, 3) := by decide +kernel
theorem dX4_repeat_73 : decode cX4_repeat 73 = .ok (.iload 5, 2) := by decide +kernel
theorem dX4_repeat_75 : decode cX4_repeat 75 = .ok (.iload_n 3, 1) := by decide +kernel
theorem dX4_repeat_76 : decode cX4_repeat 76 = .ok (.isub, 1) := by decide +kernel
theorem dX4_repeat_77 : decode cX4_repeat 77 = .ok (.iaload, 1) := by decide +kernel
theorem dX4_repeat_78 : decode cX4_repeat 78 = .ok (.iastore, 1) := by decide +kernel
theorem dX4_repeat_79 : decode cX4_repeat 79 = .ok (.iinc 5 1, 3) := by decide +kernel
theorem dX4_repeat_82 : decode cX4_repeat 82 = .ok (.goto (-42), 3) := by decide +kernel
theorem dX4_repeat_85 : decode cX4_repeat 85 = .ok (.aload_n 0, 1) := by decide +kernel
theorem dX4_repeat_86 : decode cX4_repeat 86 = .ok (.iload 4, 2) := by decide +kernel
theorem dX4_repeat_88 : decode cX4_repeat 88 = .ok (.putfield 18, 3) := by decide +kernel
theorem dX4_repeat_91 : decode cX4_repeat 91 = .ok (.iconst 1, 1) := by decide +kernel
theorem dX4_repeat_92 : decode cX4_repeat 92 = .ok (.ireturn, 1) := by decide +kernel
theorem dX4_readHops_0 : decode cX4_readHops 0 = .ok (.aload_n 1, 1) := by decide +kernel
theorem dX4_readHops_1 : decode cX4_readHops 1 = .ok (.getfield 41, 3) := by decide +kernel
theorem dX4_readHops_4 : decode cX4_readHops 4 = .ok (.istore_n 2, 1) := by decide +kernel
theorem dX4_readHops_5 : decode cX4_readHops 5 = .ok (.iconst 0, 1) := by decide +kernel
theorem dX4_readHops_6 : decode cX4_readHops 6 = .ok (.istore_n 3, 1) := by decide +kernel
theorem dX4_readHops_7 : decode cX4_readHops 7 = .ok (.iconst 0, 1) := by decide +kernel
theorem dX4_readHops_8 : decode cX4_readHops 8 = .ok (.istore 4, 2) := by decide +kernel
theorem dX4_readHops_10 : decode cX4_readHops 10 = .ok (.iconst 0, 1) := by decide +kernel
theorem dX4_readHops_11 : decode cX4_readHops 11 = .ok (.istore 5, 2) := by decide +kernel
theorem dX4_readHops_13 : decode cX4_readHops 13 = .ok (.iload 5, 2) := by decide +kernel
theorem dX4_readHops_15 : decode cX4_readHops 15 = .ok (.bipush 60, 2) := by decide +kernel
theorem dX4_readHops_17 : decode cX4_readHops 17 = .ok (.if_icmp .ge 124, 3) := by decide +kernel
theorem dX4_readHops_20 : decode cX4_readHops 20 = .ok (.aload_n 1, 1) := by decide +kernel
theorem dX4_readHops_21 : decode cX4_readHops 21 = .ok (.invokevirtual 35, 3) := by decide +kernel
theorem dX4_readHops_24 : decode cX4_readHops 24 = .ok (.invokestatic 62, 3) := by decide +kernel
theorem dX4_readHops_27 : decode cX4_readHops 27 = .ok (.ifCond .eq 114, 3) := by decide +kernel
theorem dX4_readHops_30 : decode cX4_readHops 30 = .ok (.aload_n 1, 1) := by decide +kernel
theorem dX4_readHops_31 : decode cX4_readHops 31 = .ok (.invokevirtual 35, 3) := by decide +kernel
theorem dX4_readHops_34 : decode cX4_readHops 34 = .ok (.istore 6, 2) := by decide +kernel
theorem dX4_readHops_36 : decode cX4_readHops 36 = .ok (.aload_n 1, 1) := by decide +kernel
theorem dX4_readHops_37 : decode cX4_readHops 37 = .ok (.dup, 1) := by decide +kernel
theorem dX4_readHops_38 : decode cX4_readHops 38 = .ok (.getfield 41, 3) := by decide +kernel
theorem dX4_readHops_41 : decode cX4_readHops 41 = .ok (.iconst 1, 1) := by decide +kernel
theorem dX4_readHops_42 : decode cX4_readHops 42 = .ok (.iadd, 1) := by decide +kernel
theorem dX4_readHops_43 : decode cX4_readHops 43 = .ok (.putfield 41, 3) := by decide +kernel
theorem dX4_readHops_46 : decode cX4_readHops 46 = .ok (.aload_n 1, 1) := by decide +kernel
theorem dX4_readHops_47 : decode cX4_readHops 47 = .ok (.invokevirtual 35, 3) := by decide +kernel
theorem dX4_readHops_50 : decode cX4_readHops 50 = .ok (.invokestatic 65, 3) := by decide +kernel
theorem dX4_readHops_53 : decode cX4_readHops 53 = .ok (.ifCond .eq 11, 3) := by decide +kernel
theorem dX4_readHops_56 : decode cX4_readHops 56 = .ok (.aload_n 1, 1) := by decide +kernel
theorem dX4_readHops_57 : decode cX4_readHops 57 = .ok (.iconst 2, 1) := by decide +kernel
theorem dX4_readHops_58 : decode cX4_readHops 58 = .ok (.invokevirtual 68, 3) := by decide +kernel
theorem dX4_readHops_61 : decode cX4_readHops 61 = .ok (.goto 4, 3) := by decide +kernel
theorem dX4_readHops_64 : decode cX4_readHops 64 = .ok (.iconst 1, 1) := by decide +kernel
theorem dX4_readHops_65 : decode cX4_readHops 65 = .ok (.istore 7, 2) := by decide +kernel
theorem dX4_readHops_67 : decode cX4_readHops 67 = .ok (.iload 7, 2) := by decide +kernel
theorem dX4_readHops_69 : decode cX4_readHops 69 = .ok (.iconst (-1), 1) := by decide +kernel
theorem dX4_readHops_70 : decode cX4_readHops 70 = .ok (.if_icmp .ne 5, 3) := by decide +kernel
theorem dX4_readHops_73 : decode cX4_readHops 73 = .ok (.iconst 0, 1) := by decide +kernel
theorem dX4_readHops_74 : decode cX4_readHops 74 = .ok (.ireturn, 1) := by decide +kernel
theorem dX4_readHops_75 : decode cX4_readHops 75 = .ok (.iload_n 3, 1) := by decide +kernel
theorem dX4_readHops_76 : decode cX4_readHops 76 = .ok (.iload 6, 2) := by decide +kernel
theorem dX4_readHops_78 : decode cX4_readHops 78 = .ok (.bipush 117, 2) := by decide +kernel
theorem dX4_readHops_80 : decode cX4_readHops 80 = .ok (.if_icmp .ne 8, 3) := by decide +kernel
theorem dX4_readHops_83 : decode cX4_readHops 83 = .ok (.iload 7, 2) := by decide +kernel
theorem dX4_readHops_85 : decode cX4_readHops 85 = .ok (.goto 17, 3) := by decide +kernel
theorem dX4_readHops_88 : decode cX4_readHops 88 = .ok (.iload 6, 2) := by decide +kernel
theorem dX4_readHops_90 : decode cX4_readHops 90 = .ok (.bipush 100, 2) := by decide +kernel
theorem dX4_readHops_92 : decode cX4_readHops 92 = .ok (.if_icmp .ne 9, 3) := by decide +kernel
theorem dX4_readHops_95 : decode cX4_readHops 95 = .ok (.iload 7, 2) := by decide +kernel
theorem dX4_readHops_97 : decode cX4_readHops 97 = .ok (.ineg, 1) := by decide +kernel
theorem dX4_readHops_98 : decode cX4_readHops 98 = .ok (.goto 4, 3) := by decide +kernel
theorem dX4_readHops_101 : decode cX4_readHops 101 = .ok (.iconst 0, 1) := by decide +kernel
theorem dX4_readHops_102 : decode cX4_readHops 102 = .ok (.iadd, 1) := by decide +kernel
theorem dX4_readHops_103 : decode cX4_readHops 103 = .ok (.istore_n 3, 1) := by decide +kernel
theorem dX4_readHops_104 : decode cX4_readHops 104 = .ok (.iload 4, 2) := by decide +kernel
theorem dX4_readHops_106 : decode cX4_readHops 106 = .ok (.iload 6, 2) := by decide +kernel
theorem dX4_readHops_108 : decode cX4_readHops 108 = .ok (.bipush 111, 2) := by decide +kernel
theorem dX4_readHops_110 : decode cX4_readHops 110 = .ok (.if_icmp .ne 8, 3) := by decide +kernel
theorem dX4_readHops_113 : decode cX4_readHops 113 = .ok (.iload 7, 2) := by decide +kernel
theorem dX4_readHops_115 : decode cX4_readHops 115 = .ok (.goto 17, 3) := by decide +kernel
theorem dX4_readHops_118 : decode cX4_readHops 118 = .ok (.iload 6, 2) := by decide +kernel
theorem dX4_readHops_120 : decode cX4_readHops 120 = .ok (.bipush 98, 2) := by decide +kernel
theorem dX4_readHops_122 : decode cX4_readHops 122 = .ok (.if_icmp .ne 9, 3) := by decide +kernel
theorem dX4_readHops_125 : decode cX4_readHops 125 = .ok (.iload 7, 2) := by decide +kernel
theorem dX4_readHops_127 : decode cX4_readHops 127 = .ok (.ineg, 1) := by decide +kernel
theorem dX4_readHops_128 : decode cX4_readHops 128 = .ok (.goto 4, 3) := by decide +kernel
theorem dX4_readHops_131 : decode cX4_readHops 131 = .ok (.iconst 0, 1) := by decide +kernel
theorem dX4_readHops_132 : decode cX4_readHops 132 = .ok (.iadd, 1) := by decide +kernel
theorem dX4_readHops_133 : decode cX4_readHops 133 = .ok (.istore 4, 2) := by decide +kernel
theorem dX4_readHops_135 : decode cX4_readHops 135 = .ok (.iinc 5 1, 3) := by decide +kernel
theorem dX4_readHops_138 : decode cX4_readHops 138 = .ok (.goto (-125), 3) := by decide +kernel
theorem dX4_readHops_141 : decode cX4_readHops 141 = .ok (.aload_n 1, 1) := by decide +kernel
theorem dX4_readHops_142 : decode cX4_readHops 142 = .ok (.getfield 41, 3) := by decide +kernel
theorem dX4_readHops_145 : decode cX4_readHops 145 = .ok (.iload_n 2, 1) := by decide +kernel
theorem dX4_readHops_146 : decode cX4_readHops 146 = .ok (.if_icmp .ne 10, 3) := by decide +kernel
theorem dX4_readHops_149 : decode cX4_readHops 149 = .ok (.aload_n 1, 1) := by decide +kernel
theorem dX4_readHops_150 : decode cX4_readHops 150 = .ok (.iconst 1, 1) := by decide +kernel
theorem dX4_readHops_151 : decode cX4_readHops 151 = .ok (.iload_n 2, 1) := by decide +kernel
theorem dX4_readHops_152 : decode cX4_readHops 152 = .ok (.invokevirtual 44, 3) := by decide +kernel
theorem dX4_readHops_155 : decode cX4_readHops 155 = .ok (.ireturn, 1) := by decide +kernel
theorem dX4_readHops_156 : decode cX4_readHops 156 = .ok (.aload_n 0, 1) := by decide +kernel
theorem dX4_readHops_157 : decode cX4_readHops 157 = .ok (.getfield 18, 3) := by decide +kernel
theorem dX4_readHops_160 : decode cX4_readHops 160 = .ok (.ifCond .lt 12, 3) := by decide +kernel
theorem dX4_readHops_163 : decode cX4_readHops 163 = .ok (.aload_n 0, 1) := by decide +kernel
theorem dX4_readHops_164 : decode cX4_readHops 164 = .ok (.getfield 18, 3) := by decide +kernel
theorem dX4_readHops_167 : decode cX4_readHops 167 = .ok (.bipush 60, 2) := by decide +kernel
theorem dX4_readHops_169 : decode cX4_readHops 169 = .ok (.if_icmp .lt 11, 3) := by decide +kernel
theorem dX4_readHops_172 : decode cX4_readHops 172 = .ok (.aload_n 1, 1) := by decide +kernel
theorem dX4_readHops_173 : decode cX4_readHops 173 = .ok (.bipush 6, 2) := by decide +kernel
theorem dX4_readHops_175 : decode cX4_readHops 175 = .ok (.iload_n 2, 1) := by decide +kernel
theorem dX4_readHops_176 : decode cX4_readHops 176 = .ok (.invokevirtual 44, 3) := by decide +kernel
theorem dX4_readHops_179 : decode cX4_readHops 179 = .ok (.ireturn, 1) := by decide +kernel
theorem dX4_readHops_180 : decode cX4_readHops 180 = .ok (.aload_n 0, 1) := by decide +kernel
theorem dX4_readHops_181 : decode cX4_readHops 181 = .ok (.getfield 9, 3) := by decide +kernel
theorem dX4_readHops_184 : decode cX4_readHops 184 = .ok (.aload_n 0, 1) := by decide +kernel
theorem dX4_readHops_185 : decode cX4_readHops 185 = .ok (.getfield 18, 3) := by decide +kernel
theorem dX4_readHops_188 : decode cX4_readHops 188 = .ok (.iload_n 3, 1) := by decide +kernel
theorem dX4_readHops_189 : decode cX4_readHops 189 = .ok (.iastore, 1) := by decide +kernel
theorem dX4_readHops_190 : decode cX4_readHops 190 = .ok (.aload_n 0, 1) := by decide +kernel
theorem dX4_readHops_191 : decode cX4_readHops 191 = .ok (.getfield 15, 3) := by decide +kernel
theorem dX4_readHops_194 : decode cX4_readHops 194 = .ok (.aload_n 0, 1) := by decide +kernel
theorem dX4_readHops_195 : decode cX4_readHops 195 = .ok (.getfield 18, 3) := by decide +kernel
theorem dX4_readHops_198 : decode cX4_readHops 198 = .ok (.iload 4, 2) := by decide +kernel
theorem dX4_readHops_200 : decode cX4_readHops 200 = .ok (.iastore, 1) := by decide +kernel
theorem dX4_readHops_201 : decode cX4_readHops 201 = .ok (.aload_n 0, 1) := by decide +kernel
theorem dX4_readHops_202 : decode cX4_readHops 202 = .ok (.dup, 1) := by decide +kernel
theorem dX4_readHops_203 : decode cX4_readHops 203 = .ok (.getfield 18, 3) := by decide +kernel
theorem dX4_readHops_206 : decode cX4_readHops 206 = .ok (.iconst 1, 1) := by decide +kernel
theorem dX4_readHops_207 : decode cX4_readHops 207 = .ok (.iadd, 1) := by decide +kernel
theorem dX4_readHops_208 : decode cX4_readHops 208 = .ok (.putfield 18, 3) := by decide +kernel
theorem dX4_readHops_211 : decode cX4_readHops 211 = .ok (.iconst 1, 1) := by decide +kernel
theorem dX4_readHops_212 : decode cX4_readHops 212 = .ok (.ireturn, 1) := by decide +kernel
theorem dX4_readSteps_0 : decode cX4_readSteps 0 = .ok (.iconst 0, 1) := by decide +kernel
theorem dX4_readSteps_1 : decode cX4_readSteps 1 = .ok (.istore_n 3, 1) := by decide +kernel
theorem dX4_readSteps_2 : decode cX4_readSteps 2 = .ok (.iload_n 3, 1) := by decide +kernel
theorem dX4_readSteps_3 : decode cX4_readSteps 3 = .ok (.bipush 60, 2) := by decide +kernel
theorem dX4_readSteps_5 : decode cX4_readSteps 5 = .ok (.if_icmp .ge 62, 3) := by decide +kernel
theorem dX4_readSteps_8 : decode cX4_readSteps 8 = .ok (.aload_n 1, 1) := by decide +kernel
theorem dX4_readSteps_9 : decode cX4_readSteps 9 = .ok (.invokevirtual 35, 3) := by decide +kernel
theorem dX4_readSteps_12 : decode cX4_readSteps 12 = .ok (.bipush 40, 2) := by decide +kernel
theorem dX4_readSteps_14 : decode cX4_readSteps 14 = .ok (.if_icmp .ne 12, 3) := by decide +kernel
theorem dX4_readSteps_17 : decode cX4_readSteps 17 = .ok (.aload_n 0, 1) := by decide +kernel
theorem dX4_readSteps_18 : decode cX4_readSteps 18 = .ok (.aload_n 1, 1) := by decide +kernel
theorem dX4_readSteps_19 : decode cX4_readSteps 19 = .ok (.iload_n 2, 1) := by decide +kernel
theorem dX4_readSteps_20 : decode cX4_readSteps 20 = .ok (.invokevirtual 48, 3) := by decide +kernel
theorem dX4_readSteps_23 : decode cX4_readSteps 23 = .ok (.goto 8, 3) := by decide +kernel
theorem dX4_readSteps_26 : decode cX4_readSteps 26 = .ok (.aload_n 0, 1) := by decide +kernel
theorem dX4_readSteps_27 : decode cX4_readSteps 27 = .ok (.aload_n 1, 1) := by decide +kernel
theorem dX4_readSteps_28 : decode cX4_readSteps 28 = .ok (.invokevirtual 51, 3) := by decide +kernel
theorem dX4_readSteps_31 : decode cX4_readSteps 31 = .ok (.istore 4, 2) := by decide +kernel
theorem dX4_readSteps_33 : decode cX4_readSteps 33 = .ok (.iload 4, 2) := by decide +kernel
theorem dX4_readSteps_35 : decode cX4_readSteps 35 = .ok (.ifCond .ne 5, 3) := by decide +kernel
theorem dX4_readSteps_38 : decode cX4_readSteps 38 = .ok (.iconst 0, 1) := by decide +kernel
theorem dX4_readSteps_39 : decode cX4_readSteps 39 = .ok (.ireturn, 1) := by decide +kernel
theorem dX4_readSteps_40 : decode cX4_readSteps 40 = .ok (.aload_n 1, 1) := by decide +kernel
theorem dX4_readSteps_41 : decode cX4_readSteps 41 = .ok (.invokevirtual 35, 3) := by decide +kernel
theorem dX4_readSteps_44 : decode cX4_readSteps 44 = .ok (.bipush 44, 2) := by decide +kernel
theorem dX4_readSteps_46 : decode cX4_readSteps 46 = .ok (.if_icmp .eq 5, 3) := by decide +kernel
theorem dX4_readSteps_49 : decode cX4_readSteps 49 = .ok (.iconst 1, 1) := by decide +kernel
theorem dX4_readSteps_50 : decode cX4_readSteps 50 = .ok (.ireturn, 1) := by decide +kernel
theorem dX4_readSteps_51 : decode cX4_readSteps 51 = .ok (.aload_n 1, 1) := by decide +kernel
theorem dX4_readSteps_52 : decode cX4_readSteps 52 = .ok (.dup, 1) := by decide +kernel
theorem dX4_readSteps_53 : decode cX4_readSteps 53 = .ok (.getfield 41, 3) := by decide +kernel
theorem dX4_readSteps_56 : decode cX4_readSteps 56 = .ok (.iconst 1, 1) := by decide +kernel
theorem dX4_readSteps_57 : decode cX4_readSteps 57 = .ok (.iadd, 1) := by decide +kernel
theorem dX4_readSteps_58 : decode cX4_readSteps 58 = .ok (.putfield 41, 3) := by decide +kernel
theorem dX4_readSteps_61 : decode cX4_readSteps 61 = .ok (.iinc 3 1, 3) := by decide +kernel
theorem dX4_readSteps_64 : decode cX4_readSteps 64 = .ok (.goto (-62), 3) := by decide +kernel
theorem dX4_readSteps_67 : decode cX4_readSteps 67 = .ok (.aload_n 1, 1) := by decide +kernel
theorem dX4_readSteps_68 : decode cX4_readSteps 68 = .ok (.iconst 1, 1) := by decide +kernel
theorem dX4_readSteps_69 : decode cX4_readSteps 69 = .ok (.aload_n 1, 1) := by decide +kernel
theorem dX4_readSteps_70 : decode cX4_readSteps 70 = .ok (.getfield 41, 3) := by decide +kernel
theorem dX4_readSteps_73 : decode cX4_readSteps 73 = .ok (.invokevirtual 44, 3) := by decide +kernel
theorem dX4_readSteps_76 : decode cX4_readSteps 76 = .ok (.ireturn, 1) := by decide +kernel
theorem dX4_readRound_0 : decode cX4_readRound 0 = .ok (.aload_n 1, 1) := by decide +kernel
theorem dX4_readRound_1 : decode cX4_readRound 1 = .ok (.getfield 41, 3) := by decide +kernel
theorem dX4_readRound_4 : decode cX4_readRound 4 = .ok (.istore_n 3, 1) := by decide +kernel
theorem dX4_readRound_5 : decode cX4_readRound 5 = .ok (.aload_n 0, 1) := by decide +kernel
theorem dX4_readRound_6 : decode cX4_readRound 6 = .ok (.getfield 18, 3) := by decide +kernel
theorem dX4_readRound_9 : decode cX4_readRound 9 = .ok (.istore 4, 2) := by decide +kernel
theorem dX4_readRound_11 : decode cX4_readRound 11 = .ok (.iload_n 2, 1) := by decide +kernel
theorem dX4_readRound_12 : decode cX4_readRound 12 = .ok (.iconst 2, 1) := by decide +kernel
theorem dX4_readRound_13 : decode cX4_readRound 13 = .ok (.if_icmp .lt 10, 3) := by decide +kernel
theorem dX4_readRound_16 : decode cX4_readRound 16 = .ok (.aload_n 1, 1) := by decide +kernel
theorem dX4_readRound_17 : decode cX4_readRound 17 = .ok (.iconst 5, 1) := by decide +kernel
theorem dX4_readRound_18 : decode cX4_readRound 18 = .ok (.iload_n 3, 1) := by decide +kernel
theorem dX4_readRound_19 : decode cX4_readRound 19 = .ok (.invokevirtual 44, 3) := by decide +kernel
theorem dX4_readRound_22 : decode cX4_readRound 22 = .ok (.ireturn, 1) := by decide +kernel
theorem dX4_readRound_23 : decode cX4_readRound 23 = .ok (.aload_n 1, 1) := by decide +kernel
theorem dX4_readRound_24 : decode cX4_readRound 24 = .ok (.dup, 1) := by decide +kernel
theorem dX4_readRound_25 : decode cX4_readRound 25 = .ok (.getfield 41, 3) := by decide +kernel
theorem dX4_readRound_28 : decode cX4_readRound 28 = .ok (.iconst 1, 1) := by decide +kernel
theorem dX4_readRound_29 : decode cX4_readRound 29 = .ok (.iadd, 1) := by decide +kernel
theorem dX4_readRound_30 : decode cX4_readRound 30 = .ok (.putfield 41, 3) := by decide +kernel
theorem dX4_readRound_33 : decode cX4_readRound 33 = .ok (.aload_n 0, 1) := by decide +kernel
theorem dX4_readRound_34 : decode cX4_readRound 34 = .ok (.aload_n 1, 1) := by decide +kernel
theorem dX4_readRound_35 : decode cX4_readRound 35 = .ok (.iload_n 2, 1) := by decide +kernel
theorem dX4_readRound_36 : decode cX4_readRound 36 = .ok (.iconst 1, 1) := by decide +kernel
theorem dX4_readRound_37 : decode cX4_readRound 37 = .ok (.iadd, 1) := by decide +kernel
theorem dX4_readRound_38 : decode cX4_readRound 38 = .ok (.invokevirtual 31, 3) := by decide +kernel
theorem dX4_readRound_41 : decode cX4_readRound 41 = .ok (.ifCond .eq 12, 3) := by decide +kernel
theorem dX4_readRound_44 : decode cX4_readRound 44 = .ok (.aload_n 1, 1) := by decide +kernel
theorem dX4_readRound_45 : decode cX4_readRound 45 = .ok (.bipush 41, 2) := by decide +kernel
theorem dX4_readRound_47 : decode cX4_readRound 47 = .ok (.invokevirtual 55, 3) := by decide +kernel
theorem dX4_readRound_50 : decode cX4_readRound 50 = .ok (.ifCond .ne 5, 3) := by decide +kernel
theorem dX4_readRound_53 : decode cX4_readRound 53 = .ok (.iconst 0, 1) := by decide +kernel
theorem dX4_readRound_54 : decode cX4_readRound 54 = .ok (.ireturn, 1) := by decide +kernel
theorem dX4_readRound_55 : decode cX4_readRound 55 = .ok (.aload_n 1, 1) := by decide +kernel
theorem dX4_readRound_56 : decode cX4_readRound 56 = .ok (.invokevirtual 35, 3) := by decide +kernel
theorem dX4_readRound_59 : decode cX4_readRound 59 = .ok (.bipush 120, 2) := by decide +kernel
theorem dX4_readRound_61 : decode cX4_readRound 61 = .ok (.if_icmp .eq 5, 3) := by decide +kernel
theorem dX4_readRound_64 : decode cX4_readRound 64 = .ok (.iconst 1, 1) := by decide +kernel
theorem dX4_readRound_65 : decode cX4_readRound 65 = .ok (.ireturn, 1) := by decide +kernel
theorem dX4_readRound_66 : decode cX4_readRound 66 = .ok (.aload_n 1, 1) := by decide +kernel
theorem dX4_readRound_67 : decode cX4_readRound 67 = .ok (.dup, 1) := by decide +kernel
theorem dX4_readRound_68 : decode cX4_readRound 68 = .ok (.getfield 41, 3) := by decide +kernel
theorem dX4_readRound_71 : decode cX4_readRound 71 = .ok (.iconst 1, 1) := by decide +kernel
theorem dX4_readRound_72 : decode cX4_readRound 72 = .ok (.iadd, 1) := by decide +kernel
theorem dX4_readRound_73 : decode cX4_readRound 73 = .ok (.putfield 41, 3) := by decide +kernel
theorem dX4_readRound_76 : decode cX4_readRound 76 = .ok (.aload_n 1, 1) := by decide +kernel
theorem dX4_readRound_77 : decode cX4_readRound 77 = .ok (.invokevirtual 35, 3) := by decide +kernel
theorem dX4_readRound_80 : decode cX4_readRound 80 = .ok (.istore 5, 2) := by decide +kernel
theorem dX4_readRound_82 : decode cX4_readRound 82 = .ok (.iload 5, 2) := by decide +kernel
theorem dX4_readRound_84 : decode cX4_readRound 84 = .ok (.bipush 50, 2) := by decide +kernel
theorem dX4_readRound_86 : decode cX4_readRound 86 = .ok (.if_icmp .lt 10, 3) := by decide +kernel
theorem dX4_readRound_89 : decode cX4_readRound 89 = .ok (.iload 5, 2) := by decide +kernel
theorem dX4_readRound_91 : decode cX4_readRound 91 = .ok (.bipush 57, 2) := by decide +kernel
theorem dX4_readRound_93 : decode cX4_readRound 93 = .ok (.if_icmp .le 13, 3) := by decide +kernel
theorem dX4_readRound_96 : decode cX4_readRound 96 = .ok (.aload_n 1, 1) := by decide +kernel
theorem dX4_readRound_97 : decode cX4_readRound 97 = .ok (.iconst 1, 1) := by decide +kernel
theorem dX4_readRound_98 : decode cX4_readRound 98 = .ok (.aload_n 1, 1) := by decide +kernel
theorem dX4_readRound_99 : decode cX4_readRound 99 = .ok (.getfield 41, 3) := by decide +kernel
theorem dX4_readRound_102 : decode cX4_readRound 102 = .ok (.invokevirtual 44, 3) := by decide +kernel
theorem dX4_readRound_105 : decode cX4_readRound 105 = .ok (.ireturn, 1) := by decide +kernel
theorem dX4_readRound_106 : decode cX4_readRound 106 = .ok (.aload_n 1, 1) := by decide +kernel
theorem dX4_readRound_107 : decode cX4_readRound 107 = .ok (.dup, 1) := by decide +kernel
theorem dX4_readRound_108 : decode cX4_readRound 108 = .ok (.getfield 41, 3) := by decide +kernel
theorem dX4_readRound_111 : decode cX4_readRound 111 = .ok (.iconst 1, 1) := by decide +kernel
theorem dX4_readRound_112 : decode cX4_readRound 112 = .ok (.iadd, 1) := by decide +kernel
theorem dX4_readRound_113 : decode cX4_readRound 113 = .ok (.putfield 41, 3) := by decide +kernel
theorem dX4_readRound_116 : decode cX4_readRound 116 = .ok (.aload_n 0, 1) := by decide +kernel
theorem dX4_readRound_117 : decode cX4_readRound 117 = .ok (.iload 4, 2) := by decide +kernel
theorem dX4_readRound_119 : decode cX4_readRound 119 = .ok (.iload 5, 2) := by decide +kernel
theorem dX4_readRound_121 : decode cX4_readRound 121 = .ok (.bipush 49, 2) := by decide +kernel
theorem dX4_readRound_123 : decode cX4_readRound 123 = .ok (.isub, 1) := by decide +kernel
theorem dX4_readRound_124 : decode cX4_readRound 124 = .ok (.invokevirtual 59, 3) := by decide +kernel
theorem dX4_readRound_127 : decode cX4_readRound 127 = .ok (.ifCond .ne 13, 3) := by decide +kernel
theorem dX4_readRound_130 : decode cX4_readRound 130 = .ok (.aload_n 1, 1) := by decide +kernel
theorem dX4_readRound_131 : decode cX4_readRound 131 = .ok (.bipush 6, 2) := by decide +kernel
theorem dX4_readRound_133 : decode cX4_readRound 133 = .ok (.iload_n 3, 1) := by decide +kernel
theorem dX4_readRound_134 : decode cX4_readRound 134 = .ok (.invokevirtual 44, 3) := by decide +kernel
theorem dX4_readRound_137 : decode cX4_readRound 137 = .ok (.ifCond .eq 7, 3) := by decide +kernel
theorem dX4_readRound_140 : decode cX4_readRound 140 = .ok (.iconst 1, 1) := by decide +kernel
theorem dX4_readRound_141 : decode cX4_readRound 141 = .ok (.goto 4, 3) := by decide +kernel
theorem dX4_readRound_144 : decode cX4_readRound 144 = .ok (.iconst 0, 1) := by decide +kernel
theorem dX4_readRound_145 : decode cX4_readRound 145 = .ok (.ireturn, 1) := by decide +kernel
theorem dX4_read_0 : decode cX4_read 0 = .ok (.aload_n 0, 1) := by decide +kernel
theorem dX4_read_1 : decode cX4_read 1 = .ok (.iconst 0, 1) := by decide +kernel
theorem dX4_read_2 : decode cX4_read 2 = .ok (.putfield 18, 3) := by decide +kernel
theorem dX4_read_5 : decode cX4_read 5 = .ok (.aload_n 0, 1) := by decide +kernel
theorem dX4_read_6 : decode cX4_read 6 = .ok (.aload_n 1, 1) := by decide +kernel
theorem dX4_read_7 : decode cX4_read 7 = .ok (.iconst 0, 1) := by decide +kernel
theorem dX4_read_8 : decode cX4_read 8 = .ok (.invokevirtual 31, 3) := by decide +kernel
theorem dX4_read_11 : decode cX4_read 11 = .ok (.ifCond .ne 5, 3) := by decide +kernel
theorem dX4_read_14 : decode cX4_read 14 = .ok (.iconst 0, 1) := by decide +kernel
theorem dX4_read_15 : decode cX4_read 15 = .ok (.ireturn, 1) := by decide +kernel
theorem dX4_read_16 : decode cX4_read 16 = .ok (.aload_n 1, 1) := by decide +kernel
theorem dX4_read_17 : decode cX4_read 17 = .ok (.invokevirtual 35, 3) := by decide +kernel
theorem dX4_read_20 : decode cX4_read 20 = .ok (.iconst (-1), 1) := by decide +kernel
theorem dX4_read_21 : decode cX4_read 21 = .ok (.if_icmp .eq 15, 3) := by decide +kernel
theorem dX4_read_24 : decode cX4_read 24 = .ok (.aload_n 1, 1) := by decide +kernel
theorem dX4_read_25 : decode cX4_read 25 = .ok (.iconst 1, 1) := by decide +kernel
theorem dX4_read_26 : decode cX4_read 26 = .ok (.aload_n 1, 1) := by decide +kernel
theorem dX4_read_27 : decode cX4_read 27 = .ok (.getfield 41, 3) := by decide +kernel
theorem dX4_read_30 : decode cX4_read 30 = .ok (.invokevirtual 44, 3) := by decide +kernel
theorem dX4_read_33 : decode cX4_read 33 = .ok (.ifCond .eq 7, 3) := by decide +kernel
theorem dX4_read_36 : decode cX4_read 36 = .ok (.iconst 1, 1) := by decide +kernel
theorem dX4_read_37 : decode cX4_read 37 = .ok (.goto 4, 3) := by decide +kernel
theorem dX4_read_40 : decode cX4_read 40 = .ok (.iconst 0, 1) := by decide +kernel
theorem dX4_read_41 : decode cX4_read 41 = .ok (.ireturn, 1) := by decide +kernel
theorem dX5_look_0 : decode cX5_look 0 = .ok (.aload_n 1, 1) := by decide +kernel
theorem dX5_look_1 : decode cX5_look 1 = .ok (.iload_n 3, 1) := by decide +kernel
theorem dX5_look_2 : decode cX5_look 2 = .ok (.invokevirtual 35, 3) := by decide +kernel
theorem dX5_look_5 : decode cX5_look 5 = .ok (.ifCond .ne 4, 3) := by decide +kernel
theorem dX5_look_8 : decode cX5_look 8 = .ok (.return_, 1) := by decide +kernel
theorem dX5_look_9 : decode cX5_look 9 = .ok (.aload_n 0, 1) := by decide +kernel
theorem dX5_look_10 : decode cX5_look 10 = .ok (.getfield 11, 3) := by decide +kernel
theorem dX5_look_13 : decode cX5_look 13 = .ok (.iconst 0, 1) := by decide +kernel
theorem dX5_look_14 : decode cX5_look 14 = .ok (.iload_n 3, 1) := by decide +kernel
theorem dX5_look_15 : decode cX5_look 15 = .ok (.iastore, 1) := by decide +kernel
theorem dX5_look_16 : decode cX5_look 16 = .ok (.aload_n 0, 1) := by decide +kernel
theorem dX5_look_17 : decode cX5_look 17 = .ok (.getfield 11, 3) := by decide +kernel
theorem dX5_look_20 : decode cX5_look 20 = .ok (.iconst 1, 1) := by decide +kernel
theorem dX5_look_21 : decode cX5_look 21 = .ok (.aload_n 1, 1) := by decide +kernel
theorem dX5_look_22 : decode cX5_look 22 = .ok (.getfield 63, 3) := by decide +kernel
theorem dX5_look_25 : decode cX5_look 25 = .ok (.iload_n 3, 1) := by decide +kernel
theorem dX5_look_26 : decode cX5_look 26 = .ok (.iaload, 1) := by decide +kernel
theorem dX5_look_27 : decode cX5_look 27 = .ok (.iastore, 1) := by decide +kernel
theorem dX5_look_28 : decode cX5_look 28 = .ok (.aload_n 0, 1) := by decide +kernel
theorem dX5_look_29 : decode cX5_look 29 = .ok (.getfield 11, 3) := by decide +kernel
theorem dX5_look_32 : decode cX5_look 32 = .ok (.iconst 2, 1) := by decide +kernel
theorem dX5_look_33 : decode cX5_look 33 = .ok (.aload_n 1, 1) := by decide +kernel
theorem dX5_look_34 : decode cX5_look 34 = .ok (.getfield 66, 3) := by decide +kernel
theorem dX5_look_37 : decode cX5_look 37 = .ok (.iload_n 3, 1) := by decide +kernel
theorem dX5_look_38 : decode cX5_look 38 = .ok (.iaload, 1) := by decide +kernel
theorem dX5_look_39 : decode cX5_look 39 = .ok (.iastore, 1) := by decide +kernel
theorem dX5_look_40 : decode cX5_look 40 = .ok (.aload_n 0, 1) := by decide +kernel
theorem dX5_look_41 : decode cX5_look 41 = .ok (.getfield 11, 3) := by decide +kernel
theorem dX5_look_44 : decode cX5_look 44 = .ok (.iconst 3, 1) := by decide +kernel
theorem dX5_look_45 : decode cX5_look 45 = .ok (.aload_n 1, 1) := by decide +kernel
theorem dX5_look_46 : decode cX5_look 46 = .ok (.getfield 69, 3) := by decide +kernel
theorem dX5_look_49 : decode cX5_look 49 = .ok (.iload_n 3, 1) := by decide +kernel
theorem dX5_look_50 : decode cX5_look 50 = .ok (.iaload, 1) := by decide +kernel
theorem dX5_look_51 : decode cX5_look 51 = .ok (.iastore, 1) := by decide +kernel
theorem dX5_look_52 : decode cX5_look 52 = .ok (.aload_n 0, 1) := by decide +kernel
theorem dX5_look_53 : decode cX5_look 53 = .ok (.getfield 11, 3) := by decide +kernel
theorem dX5_look_56 : decode cX5_look 56 = .ok (.iconst 4, 1) := by decide +kernel
theorem dX5_look_57 : decode cX5_look 57 = .ok (.aload_n 1, 1) := by decide +kernel
theorem dX5_look_58 : decode cX5_look 58 = .ok (.getfield 56, 3) := by decide +kernel
theorem dX5_look_61 : decode cX5_look 61 = .ok (.iload_n 3, 1) := by decide +kernel
theorem dX5_look_62 : decode cX5_look 62 = .ok (.baload, 1) := by decide +kernel
theorem dX5_look_63 : decode cX5_look 63 = .ok (.ifCond .eq 7, 3) := by decide +kernel
theorem dX5_look_66 : decode cX5_look 66 = .ok (.iconst 1, 1) := by decide +kernel
theorem dX5_look_67 : decode cX5_look 67 = .ok (.goto 4, 3) := by decide +kernel
theorem dX5_look_70 : decode cX5_look 70 = .ok (.iconst 0, 1) := by decide +kernel
theorem dX5_look_71 : decode cX5_look 71 = .ok (.iastore, 1) := by decide +kernel
theorem dX5_look_72 : decode cX5_look 72 = .ok (.aload_n 0, 1) := by decide +kernel
theorem dX5_look_73 : decode cX5_look 73 = .ok (.getfield 11, 3) := by decide +kernel
theorem dX5_look_76 : decode cX5_look 76 = .ok (.iconst 5, 1) := by decide +kernel
theorem dX5_look_77 : decode cX5_look 77 = .ok (.aload_n 2, 1) := by decide +kernel
theorem dX5_look_78 : decode cX5_look 78 = .ok (.getfield 72, 3) := by decide +kernel
theorem dX5_look_81 : decode cX5_look 81 = .ok (.ifCond .eq 11, 3) := by decide +kernel
theorem dX5_look_84 : decode cX5_look 84 = .ok (.aload_n 1, 1) := by decide +kernel
theorem dX5_look_85 : decode cX5_look 85 = .ok (.iload_n 3, 1) := by decide +kernel
theorem dX5_look_86 : decode cX5_look 86 = .ok (.invokevirtual 76, 3) := by decide +kernel
theorem dX5_look_89 : decode cX5_look 89 = .ok (.goto 4, 3) := by decide +kernel
theorem dX5_look_92 : decode cX5_look 92 = .ok (.iconst 0, 1) := by decide +kernel
theorem dX5_look_93 : decode cX5_look 93 = .ok (.iastore, 1) := by decide +kernel
theorem dX5_look_94 : decode cX5_look 94 = .ok (.aload_n 0, 1) := by decide +kernel
theorem dX5_look_95 : decode cX5_look 95 = .ok (.getfield 11, 3) := by decide +kernel
theorem dX5_look_98 : decode cX5_look 98 = .ok (.bipush 7, 2) := by decide +kernel
theorem dX5_look_100 : decode cX5_look 100 = .ok (.aload_n 1, 1) := by decide +kernel
theorem dX5_look_101 : decode cX5_look 101 = .ok (.getfield 22, 3) := by decide +kernel
theorem dX5_look_104 : decode cX5_look 104 = .ok (.bipush 100, 2) := by decide +kernel
theorem dX5_look_106 : decode cX5_look 106 = .ok (.irem, 1) := by decide +kernel
theorem dX5_look_107 : decode cX5_look 107 = .ok (.iastore, 1) := by decide +kernel
theorem dX5_look_108 : decode cX5_look 108 = .ok (.return_, 1) := by decide +kernel
theorem dX5_shift_0 : decode cX5_shift 0 = .ok (.aload_n 1, 1) := by decide +kernel
theorem dX5_shift_1 : decode cX5_shift 1 = .ok (.iload_n 2, 1) := by decide +kernel
theorem dX5_shift_2 : decode cX5_shift 2 = .ok (.invokevirtual 35, 3) := by decide +kernel
theorem dX5_shift_5 : decode cX5_shift 5 = .ok (.ifCond .ne 4, 3) := by decide +kernel
theorem dX5_shift_8 : decode cX5_shift 8 = .ok (.return_, 1) := by decide +kernel
theorem dX5_shift_9 : decode cX5_shift 9 = .ok (.iconst 0, 1) := by decide +kernel
theorem dX5_shift_10 : decode cX5_shift 10 = .ok (.bipush 39, 2) := by decide +kernel
theorem dX5_shift_12 : decode cX5_shift 12 = .ok (.aload_n 1, 1) := by decide +kernel
theorem dX5_shift_13 : decode cX5_shift 13 = .ok (.getfield 63, 3) := by decide +kernel
theorem dX5_shift_16 : decode cX5_shift 16 = .ok (.iload_n 2, 1) := by decide +kernel
theorem dX5_shift_17 : decode cX5_shift 17 = .ok (.iaload, 1) := by decide +kernel
theorem dX5_shift_18 : decode cX5_shift 18 = .ok (.iload_n 3, 1) := by decide +kernel
theorem dX5_shift_19 : decode cX5_shift 19 = .ok (.iadd, 1) := by decide +kernel
theorem dX5_shift_20 : decode cX5_shift 20 = .ok (.invokestatic 80, 3) := by decide +kernel
theorem dX5_shift_23 : decode cX5_shift 23 = .ok (.invokestatic 86, 3) := by decide +kernel
theorem dX5_shift_26 : decode cX5_shift 26 = .ok (.istore 5, 2) := by decide +kernel
theorem dX5_shift_28 : decode cX5_shift 28 = .ok (.iconst 1, 1) := by decide +kernel
theorem dX5_shift_29 : decode cX5_shift 29 = .ok (.bipush 20, 2) := by decide +kernel
theorem dX5_shift_31 : decode cX5_shift 31 = .ok (.aload_n 1, 1) := by decide +kernel
theorem dX5_shift_32 : decode cX5_shift 32 = .ok (.getfield 66, 3) := by decide +kernel
theorem dX5_shift_35 : decode cX5_shift 35 = .ok (.iload_n 2, 1) := by decide +kernel
theorem dX5_shift_36 : decode cX5_shift 36 = .ok (.iaload, 1) := by decide +kernel
theorem dX5_shift_37 : decode cX5_shift 37 = .ok (.iload 4, 2) := by decide +kernel
theorem dX5_shift_39 : decode cX5_shift 39 = .ok (.iadd, 1) := by decide +kernel
theorem dX5_shift_40 : decode cX5_shift 40 = .ok (.invokestatic 80, 3) := by decide +kernel
theorem dX5_shift_43 : decode cX5_shift 43 = .ok (.invokestatic 86, 3) := by decide +kernel
theorem dX5_shift_46 : decode cX5_shift 46 = .ok (.istore 6, 2) := by decide +kernel
theorem dX5_shift_48 : decode cX5_shift 48 = .ok (.iload 5, 2) := by decide +kernel
theorem dX5_shift_50 : decode cX5_shift 50 = .ok (.aload_n 1, 1) := by decide +kernel
theorem dX5_shift_51 : decode cX5_shift 51 = .ok (.getfield 63, 3) := by decide +kernel
theorem dX5_shift_54 : decode cX5_shift 54 = .ok (.iload_n 2, 1) := by decide +kernel
theorem dX5_shift_55 : decode cX5_shift 55 = .ok (.iaload, 1) := by decide +kernel
theorem dX5_shift_56 : decode cX5_shift 56 = .ok (.if_icmp .ne 15, 3) := by decide +kernel
theorem dX5_shift_59 : decode cX5_shift 59 = .ok (.iload 6, 2) := by decide +kernel
theorem dX5_shift_61 : decode cX5_shift 61 = .ok (.aload_n 1, 1) := by decide +kernel
theorem dX5_shift_62 : decode cX5_shift 62 = .ok (.getfield 66, 3) := by decide +kernel
theorem dX5_shift_65 : decode cX5_shift 65 = .ok (.iload_n 2, 1) := by decide +kernel
theorem dX5_shift_66 : decode cX5_shift 66 = .ok (.iaload, 1) := by decide +kernel
theorem dX5_shift_67 : decode cX5_shift 67 = .ok (.if_icmp .ne 4, 3) := by decide +kernel
theorem dX5_shift_70 : decode cX5_shift 70 = .ok (.return_, 1) := by decide +kernel
theorem dX5_shift_71 : decode cX5_shift 71 = .ok (.aload_n 1, 1) := by decide +kernel
theorem dX5_shift_72 : decode cX5_shift 72 = .ok (.iload 5, 2) := by decide +kernel
theorem dX5_shift_74 : decode cX5_shift 74 = .ok (.iload 6, 2) := by decide +kernel
theorem dX5_shift_76 : decode cX5_shift 76 = .ok (.invokevirtual 89, 3) := by decide +kernel
theorem dX5_shift_79 : decode cX5_shift 79 = .ok (.iconst (-1), 1) := by decide +kernel
theorem dX5_shift_80 : decode cX5_shift 80 = .ok (.if_icmp .eq 14, 3) := by decide +kernel
theorem dX5_shift_83 : decode cX5_shift 83 = .ok (.aload_n 0, 1) := by decide +kernel
theorem dX5_shift_84 : decode cX5_shift 84 = .ok (.dup, 1) := by decide +kernel
theorem dX5_shift_85 : decode cX5_shift 85 = .ok (.getfield 19, 3) := by decide +kernel
theorem dX5_shift_88 : decode cX5_shift 88 = .ok (.iconst 1, 1) := by decide +kernel
theorem dX5_shift_89 : decode cX5_shift 89 = .ok (.iadd, 1) := by decide +kernel
theorem dX5_shift_90 : decode cX5_shift 90 = .ok (.putfield 19, 3) := by decide +kernel
theorem dX5_shift_93 : decode cX5_shift 93 = .ok (.return_, 1) := by decide +kernel
theorem dX5_shift_94 : decode cX5_shift 94 = .ok (.aload_n 1, 1) := by decide +kernel
theorem dX5_shift_95 : decode cX5_shift 95 = .ok (.getfield 63, 3) := by decide +kernel
theorem dX5_shift_98 : decode cX5_shift 98 = .ok (.iload_n 2, 1) := by decide +kernel
theorem dX5_shift_99 : decode cX5_shift 99 = .ok (.iload 5, 2) := by decide +kernel
theorem dX5_shift_101 : decode cX5_shift 101 = .ok (.iastore, 1) := by decide +kernel
theorem dX5_shift_102 : decode cX5_shift 102 = .ok (.aload_n 1, 1) := by decide +kernel
theorem dX5_shift_103 : decode cX5_shift 103 = .ok (.getfield 66, 3) := by decide +kernel
theorem dX5_shift_106 : decode cX5_shift 106 = .ok (.iload_n 2, 1) := by decide +kernel
theorem dX5_shift_107 : decode cX5_shift 107 = .ok (.iload 6, 2) := by decide +kernel
theorem dX5_shift_109 : decode cX5_shift 109 = .ok (.iastore, 1) := by decide +kernel
theorem dX5_shift_110 : decode cX5_shift 110 = .ok (.aload_n 0, 1) := by decide +kernel
theorem dX5_shift_111 : decode cX5_shift 111 = .ok (.dup, 1) := by decide +kernel
theorem dX5_shift_112 : decode cX5_shift 112 = .ok (.getfield 15, 3) := by decide +kernel
theorem dX5_shift_115 : decode cX5_shift 115 = .ok (.iconst 1, 1) := by decide +kernel
theorem dX5_shift_116 : decode cX5_shift 116 = .ok (.iadd, 1) := by decide +kernel
theorem dX5_shift_117 : decode cX5_shift 117 = .ok (.putfield 15, 3) := by decide +kernel
theorem dX5_shift_120 : decode cX5_shift 120 = .ok (.return_, 1) := by decide +kernel
set_option maxHeartbeats 4000000 in
theorem t_X4_go (b : Nat) (hb : isF b) (v2 : Int32) (v3 : Int32) (M : Mem) : AXv yX4_go cX4_go 8 none 2 60 glC (fun ad => [.ref (ad 34), .ref (ad b), .int v2, .int v3]) M (f_X4_go b M v2 v3) := by
  intro r0 h
  refine AM.of (by decide) (fun _ => Nat.le_of_ble_eq_true rfl) (fun X ad cI cZ cB hX hR => ?_)
  show V X M [(0, .ref (ad 34)), (1, .ref (ad b)), (2, .int v2), (3, .int v3)] [] 0
  refine s_aload_n (k := 0) hX dX4_go_0 rfl rfl ?_
  refine s_iconst (v := (nI 0)) hX dX4_go_1 (by decide) ?_
  refine s_puti (ty := .int) hX fX4_22 oC34 rfl (Nat.le_of_ble_eq_true rfl) ty_4_3 rfl rfl dX4_go_2 ?_
  refine e_bndM h (fun M_1 h => ?_)
  refine s_aload_n (k := 0) hX dX4_go_5 rfl rfl ?_
  refine s_iload_n (k := 3) hX dX4_go_6 rfl rfl ?_
  refine s_puti (ty := .int) hX fX4_25 oC34 rfl (Nat.le_of_ble_eq_true rfl) ty_4_4 rfl rfl dX4_go_7 ?_
  refine e_bndM h (fun M_2 h => ?_)
  refine s_aload_n (k := 0) hX dX4_go_10 rfl rfl ?_
  refine s_iconst (v := (nI 0)) hX dX4_go_11 (by decide) ?_
  refine s_puti (ty := .int) hX fX4_28 oC34 rfl (Nat.le_of_ble_eq_true rfl) ty_4_5 rfl rfl dX4_go_12 ?_
  refine e_bndM h (fun M_3 h => ?_)
  refine s_iconst (v := (nI 0)) hX dX4_go_15 (by decide) ?_
  refine s_istore (lv' := [(0, .ref (ad 34)), (1, .ref (ad b)), (2, .int v2), (3, .int v3), (4, .int (nI 0))]) hX dX4_go_16 (by decide) rfl ?_
  have lp18 : ∀ (N18 : Nat) (M18 : Mem) (y4_18 : Int32), wlp2 (f_X4_go_B18 b v2) N18 M18 y4_18 = some r0 → V X M18 [(0, .ref (ad 34)), (1, .ref (ad b)), (2, .int v2), (4, .int y4_18)] [] 18 := by
    intro N18
    induction N18 with
    | zero => exact fun _ _ h => e_none h
    | succ N18 ih18 =>
      intro M18 y4_18 h
      replace h : f_X4_go_B18 b v2 (wlp2 (f_X4_go_B18 b v2) N18) M18 y4_18 = some r0 := h
      generalize wlp2 (f_X4_go_B18 b v2) N18 = ag18 at ih18 h
      refine s_iload (k := 3) hX dX4_go_18 rfl ?_
      refine s_aload_n (k := 0) hX dX4_go_20 rfl rfl ?_
      refine s_get hX fX4_18 oC34 rfl dX4_go_21 ?_
      refine e_icmp_ge (tgt := 169) hX dX4_go_24 (by decide) r_le h (fun h => ?_) (fun h => ?_)
      · exact e_vret hX hR dX4_go_169 h
      · refine s_iload (k := 3) hX dX4_go_27 rfl ?_
        refine s_bipush (v := (nI 60)) hX dX4_go_29 (by decide) ?_
        refine e_icmp_ge (tgt := 169) hX dX4_go_31 (by decide) (m_ge (by decide +kernel)) h (fun h => ?_) (fun h => ?_)
        · exact e_vret hX hR dX4_go_169 h
        · refine s_aload_n (k := 0) hX dX4_go_34 rfl rfl ?_
          refine s_get hX fX4_28 oC34 rfl dX4_go_35 ?_
          refine s_bipush (v := (nI 21)) hX dX4_go_38 (by decide) ?_
          refine e_icmp_ge (tgt := 169) hX dX4_go_40 (by decide) (m_ge (by decide +kernel)) h (fun h => ?_) (fun h => ?_)
          · exact e_vret hX hR dX4_go_169 h
          · refine s_aload_n (k := 0) hX dX4_go_43 rfl rfl ?_
            refine s_get hX fX4_25 oC34 rfl dX4_go_44 ?_
            refine s_aload_n (k := 0) hX dX4_go_47 rfl rfl ?_
            refine s_get hX fX4_9 oC34 rfl dX4_go_48 ?_
            refine s_iload (k := 3) hX dX4_go_51 rfl ?_
            refine e_iald hX aC35 dX4_go_53 h (fun h => ?_)
            refine s_iadd hX dX4_go_54 ?_
            refine e_bnd h (fun x_4 h => ?_)
            refine s_istore (lv' := [(0, .ref (ad 34)), (1, .ref (ad b)), (2, .int v2), (4, .int y4_18), (5, .int x_4)]) hX dX4_go_55 (by decide) rfl ?_
            refine s_iconst (v := (nI 0)) hX dX4_go_57 (by decide) ?_
            refine s_bipush (v := (nI 21)) hX dX4_go_58 (by decide) ?_
            refine s_aload_n (k := 0) hX dX4_go_60 rfl rfl ?_
            refine s_get hX fX4_28 oC34 rfl dX4_go_61 ?_
            refine s_aload_n (k := 0) hX dX4_go_64 rfl rfl ?_
            refine s_get hX fX4_15 oC34 rfl dX4_go_65 ?_
            refine s_iload (k := 3) hX dX4_go_68 rfl ?_
            refine e_iald hX aC36 dX4_go_70 h (fun h => ?_)
            refine s_iadd hX dX4_go_71 ?_
            refine e_mmin hX lX4_72 mJ9_min (by omega) (Nat.le_of_ble_eq_true rfl) dX4_go_72 ?_
            refine e_mmax hX lX4_78 mJ9_max (by omega) (Nat.le_of_ble_eq_true rfl) dX4_go_75 ?_
            refine e_bnd h (fun x_5 h => ?_)
            refine s_istore (lv' := [(0, .ref (ad 34)), (1, .ref (ad b)), (2, .int v2), (4, .int y4_18), (5, .int x_4), (6, .int x_5)]) hX dX4_go_78 (by decide) rfl ?_
            refine s_aload_n (k := 0) hX dX4_go_80 rfl rfl ?_
            refine s_get hX fX4_9 oC34 rfl dX4_go_81 ?_
            refine s_iload (k := 3) hX dX4_go_84 rfl ?_
            refine e_iald hX aC35 dX4_go_86 h (fun h => ?_)
            refine s_aload_n (k := 0) hX dX4_go_87 rfl rfl ?_
            refine s_get hX fX4_9 oC34 rfl dX4_go_88 ?_
            refine s_iload (k := 3) hX dX4_go_91 rfl ?_
            refine e_iald hX aC35 dX4_go_93 h (fun h => ?_)
            refine s_imul hX dX4_go_94 ?_
            refine s_aload_n (k := 0) hX dX4_go_95 rfl rfl ?_
            refine s_get hX fX4_15 oC34 rfl dX4_go_96 ?_
            refine s_iload (k := 3) hX dX4_go_99 rfl ?_
            refine e_iald hX aC36 dX4_go_101 h (fun h => ?_)
            refine s_aload_n (k := 0) hX dX4_go_102 rfl rfl ?_
            refine s_get hX fX4_15 oC34 rfl dX4_go_103 ?_
            refine s_iload (k := 3) hX dX4_go_106 rfl ?_
            refine e_iald hX aC36 dX4_go_108 h (fun h => ?_)
            refine s_imul hX dX4_go_109 ?_
            refine s_iadd hX dX4_go_110 ?_
            refine s_iload_n (k := 2) hX dX4_go_111 rfl rfl ?_
            refine s_iload_n (k := 2) hX dX4_go_112 rfl rfl ?_
            refine s_imul hX dX4_go_113 ?_
            have j122 : ∀ (t0_122 : Int32), f_X4_go_L122 b ag18 M18 y4_18 x_4 x_5 t0_122 = some r0 → V X M18 [(0, .ref (ad 34)), (1, .ref (ad b)), (2, .int v2), (4, .int y4_18), (5, .int x_4), (6, .int x_5)] [.int t0_122] 122 := by
              intro t0_122 h
              refine s_istore (lv' := [(0, .ref (ad 34)), (1, .ref (ad b)), (2, .int v2), (4, .int y4_18), (5, .int x_4), (6, .int x_5), (7, .int t0_122)]) hX dX4_go_122 (by decide) rfl ?_
              refine s_iload (k := 6) hX dX4_go_124 rfl ?_
              refine e_if_eq (tgt := 140) hX dX4_go_126 (by decide) z_eq h (fun h => ?_) (fun h => ?_)
              · exact e_vret hX hR dX4_go_140 h
              · refine s_aload_n (k := 1) hX dX4_go_129 rfl rfl ?_
                refine s_iload (k := 4) hX dX4_go_130 rfl ?_
                refine s_iload (k := 5) hX dX4_go_132 rfl ?_
                refine e_callSp hX (t_X4_isFooting b hb x_4 x_5 M18) mX4_isFooting lX4_81 (by decide) (by decide) rfl rfl (Nat.le_of_ble_eq_true rfl) dX4_go_134 h (fun r_6 h => ?_)
                refine e_if_ne (tgt := 141) hX dX4_go_137 (by decide) z_eq h (fun h => ?_) (fun h => ?_)
                · refine s_aload_n (k := 0) hX dX4_go_141 rfl rfl ?_
                  refine s_iload (k := 4) hX dX4_go_142 rfl ?_
                  refine s_puti (ty := .int) hX fX4_25 oC34 rfl (Nat.le_of_ble_eq_true rfl) ty_4_4 rfl rfl dX4_go_144 ?_
                  refine e_bndM h (fun M_7 h => ?_)
                  refine s_aload_n (k := 0) hX dX4_go_147 rfl rfl ?_
                  refine s_iload (k := 5) hX dX4_go_148 rfl ?_
                  refine s_puti (ty := .int) hX fX4_28 oC34 rfl (Nat.le_of_ble_eq_true rfl) ty_4_5 rfl rfl dX4_go_150 ?_
                  refine e_bndM h (fun M_8 h => ?_)
                  refine s_aload_n (k := 0) hX dX4_go_153 rfl rfl ?_
                  refine s_dup hX dX4_go_154 rfl ?_
                  refine s_get hX fX4_22 oC34 rfl dX4_go_155 ?_
                  refine s_iconst (v := (nI 1)) hX dX4_go_158 (by decide) ?_
                  refine s_iadd hX dX4_go_159 ?_
                  refine s_puti (ty := .int) hX fX4_22 oC34 rfl (Nat.le_of_ble_eq_true rfl) ty_4_3 rfl rfl dX4_go_160 ?_
                  refine e_bndM h (fun M_9 h => ?_)
                  refine s_iinc (k := 3) (v := (y4_18 + (nI 1))) (lv' := [(0, .ref (ad 34)), (1, .ref (ad b)), (2, .int v2), (5, .int x_4), (6, .int x_5), (7, .int t0_122), (4, .int (y4_18 + (nI 1)))]) hX dX4_go_163 (congrArg (fun z => y4_18 + z) (by decide)) (by decide) rfl rfl ?_
                  refine s_goto (tgt := 18) hX dX4_go_166 (by decide) ?_
                  refine s_loc [0, 1, 2, 6] rfl ?_
                  exact ih18 M_9 (y4_18 + (nI 1)) h
                · exact e_vret hX hR dX4_go_140 h
            refine e_icmp_gt (tgt := 121) hX dX4_go_114 (by decide) r_lt h (fun h => ?_) (fun h => ?_)
            · refine s_iconst (v := (nI 0)) hX dX4_go_121 (by decide) ?_
              exact j122 (nI 0) h
            · refine s_iconst (v := (nI 1)) hX dX4_go_117 (by decide) ?_
              refine s_goto (tgt := 122) hX dX4_go_118 (by decide) ?_
              exact j122 (nI 1) h
  refine s_loc [0, 1, 2, 4] rfl ?_
  exact lp18 FU M_3 (nI 0) h
set_option maxHeartbeats 4000000 in
theorem t_X4_isHop (v0 : Int32) (M : Mem) : AXp yX4_isHop cX4_isHop 1 (some .boolean) 0 60 glC (fun ad => [.int v0]) M (f_X4_isHop v0) := by
  intro r0 h
  refine AM.of (by decide) (fun _ => Nat.le_of_ble_eq_true rfl) (fun X ad cI cZ cB hX hR => ?_)
  show V X M [(0, .int v0)] [] 0
  refine s_iload_n (k := 0) hX dX4_isHop_0 rfl rfl ?_
  refine s_bipush (v := (nI 117)) hX dX4_isHop_1 (by decide) ?_
  refine e_icmp_eq (tgt := 24) hX dX4_isHop_3 (by decide) (m_eq (by decide +kernel)) h (fun h => ?_) (fun h => ?_)
  · refine s_iconst (v := (nI 1)) hX dX4_isHop_24 (by decide) ?_
    refine s_goto (tgt := 29) hX dX4_isHop_25 (by decide) ?_
    exact e_zretpL hX hR dX4_isHop_29 (by decide) h
  · refine s_iload_n (k := 0) hX dX4_isHop_6 rfl rfl ?_
    refine s_bipush (v := (nI 100)) hX dX4_isHop_7 (by decide) ?_
    refine e_icmp_eq (tgt := 24) hX dX4_isHop_9 (by decide) (m_eq (by decide +kernel)) h (fun h => ?_) (fun h => ?_)
    · refine s_iconst (v := (nI 1)) hX dX4_isHop_24 (by decide) ?_
      refine s_goto (tgt := 29) hX dX4_isHop_25 (by decide) ?_
      exact e_zretpL hX hR dX4_isHop_29 (by decide) h
    · refine s_iload_n (k := 0) hX dX4_isHop_12 rfl rfl ?_
      refine s_bipush (v := (nI 111)) hX dX4_isHop_13 (by decide) ?_
      refine e_icmp_eq (tgt := 24) hX dX4_isHop_15 (by decide) (m_eq (by decide +kernel)) h (fun h => ?_) (fun h => ?_)
      · refine s_iconst (v := (nI 1)) hX dX4_isHop_24 (by decide) ?_
        refine s_goto (tgt := 29) hX dX4_isHop_25 (by decide) ?_
        exact e_zretpL hX hR dX4_isHop_29 (by decide) h
      · refine s_iload_n (k := 0) hX dX4_isHop_18 rfl rfl ?_
        refine s_bipush (v := (nI 98)) hX dX4_isHop_19 (by decide) ?_
        refine e_icmp_ne (tgt := 28) hX dX4_isHop_21 (by decide) (m_eq (by decide +kernel)) h (fun h => ?_) (fun h => ?_)
        · refine s_iconst (v := (nI 0)) hX dX4_isHop_28 (by decide) ?_
          exact e_zretpL hX hR dX4_isHop_29 (by decide) h
        · refine s_iconst (v := (nI 1)) hX dX4_isHop_24 (by decide) ?_
          refine s_goto (tgt := 29) hX dX4_isHop_25 (by decide) ?_
          exact e_zretpL hX hR dX4_isHop_29 (by decide) h
set_option maxHeartbeats 4000000 in
theorem t_X4_repeat (v1 : Int32) (v2 : Int32) (M : Mem) : AXi yX4_repeat cX4_repeat 6 (some .boolean) 0 60 glC (fun ad => [.ref (ad 34), .int v1, .int v2]) M (f_X4_repeat M v1 v2) := by
  intro r0 h
  refine AM.of (by decide) (fun _ => Nat.le_of_ble_eq_true rfl) (fun X ad cI cZ cB hX hR => ?_)
  show V X M [(0, .ref (ad 34)), (1, .int v1), (2, .int v2)] [] 0
  refine s_aload_n (k := 0) hX dX4_repeat_0 rfl rfl ?_
  refine s_get hX fX4_18 oC34 rfl dX4_repeat_1 ?_
  refine s_iload_n (k := 1) hX dX4_repeat_4 rfl rfl ?_
  refine s_isub hX dX4_repeat_5 ?_
  refine e_bnd h (fun x_1 h => ?_)
  refine s_istore_n (lv' := [(0, .ref (ad 34)), (1, .int v1), (2, .int v2), (3, .int x_1)]) hX dX4_repeat_6 rfl (by decide) rfl ?_
  refine s_aload_n (k := 0) hX dX4_repeat_7 rfl rfl ?_
  refine s_get hX fX4_18 oC34 rfl dX4_repeat_8 ?_
  refine s_iload_n (k := 3) hX dX4_repeat_11 rfl rfl ?_
  refine s_iload_n (k := 2) hX dX4_repeat_12 rfl rfl ?_
  refine s_imul hX dX4_repeat_13 ?_
  refine s_iadd hX dX4_repeat_14 ?_
  refine e_bnd h (fun x_2 h => ?_)
  refine s_istore (lv' := [(0, .ref (ad 34)), (1, .int v1), (2, .int v2), (3, .int x_1), (4, .int x_2)]) hX dX4_repeat_15 (by decide) rfl ?_
  refine s_iload_n (k := 1) hX dX4_repeat_17 rfl rfl ?_
  refine e_if_lt (tgt := 32) hX dX4_repeat_18 (by decide) z_lt h (fun h => ?_) (fun h => ?_)
  · refine s_iconst (v := (nI 0)) hX dX4_repeat_32 (by decide) ?_
    exact e_zretiL hX hR dX4_repeat_33 (by decide) h
  · refine s_iload_n (k := 3) hX dX4_repeat_21 rfl rfl ?_
    refine e_if_lt (tgt := 32) hX dX4_repeat_22 (by decide) z_lt h (fun h => ?_) (fun h => ?_)
    · refine s_iconst (v := (nI 0)) hX dX4_repeat_32 (by decide) ?_
      exact e_zretiL hX hR dX4_repeat_33 (by decide) h
    · refine s_iload (k := 4) hX dX4_repeat_25 rfl ?_
      refine s_bipush (v := (nI 60)) hX dX4_repeat_27 (by decide) ?_
      refine e_icmp_le (tgt := 34) hX dX4_repeat_29 (by decide) (m_le (by decide +kernel)) h (fun h => ?_) (fun h => ?_)
      · refine s_aload_n (k := 0) hX dX4_repeat_34 rfl rfl ?_
        refine s_get hX fX4_18 oC34 rfl dX4_repeat_35 ?_
        refine e_bnd h (fun x_3 h => ?_)
        refine s_istore (lv' := [(0, .ref (ad 34)), (1, .int v1), (2, .int v2), (3, .int x_1), (4, .int x_2), (5, .int x_3)]) hX dX4_repeat_38 (by decide) rfl ?_
        have lp40 : ∀ (N40 : Nat) (M40 : Mem) (y5_40 : Int32), wlp2 (f_X4_repeat_B40 x_1 x_2) N40 M40 y5_40 = some r0 → V X M40 [(0, .ref (ad 34)), (3, .int x_1), (4, .int x_2), (5, .int y5_40)] [] 40 := by
          intro N40
          induction N40 with
          | zero => exact fun _ _ h => e_none h
          | succ N40 ih40 =>
            intro M40 y5_40 h
            replace h : f_X4_repeat_B40 x_1 x_2 (wlp2 (f_X4_repeat_B40 x_1 x_2) N40) M40 y5_40 = some r0 := h
            generalize wlp2 (f_X4_repeat_B40 x_1 x_2) N40 = ag40 at ih40 h
            refine s_iload (k := 3) hX dX4_repeat_40 rfl ?_
            refine s_iload (k := 2) hX dX4_repeat_42 rfl ?_
            refine e_icmp_ge (tgt := 85) hX dX4_repeat_44 (by decide) r_le h (fun h => ?_) (fun h => ?_)
            · refine s_aload_n (k := 0) hX dX4_repeat_85 rfl rfl ?_
              refine s_iload (k := 2) hX dX4_repeat_86 rfl ?_
              refine s_puti (ty := .int) hX fX4_18 oC34 rfl (Nat.le_of_ble_eq_true rfl) ty_4_2 rfl rfl dX4_repeat_88 ?_
              refine e_bndM h (fun M_4 h => ?_)
              refine s_iconst (v := (nI 1)) hX dX4_repeat_91 (by decide) ?_
              exact e_zretiL hX hR dX4_repeat_92 (by decide) h
            · refine s_aload_n (k := 0) hX dX4_repeat_47 rfl rfl ?_
              refine s_get hX fX4_9 oC34 rfl dX4_repeat_48 ?_
              refine s_iload (k := 3) hX dX4_repeat_51 rfl ?_
              refine s_aload_n (k := 0) hX dX4_repeat_53 rfl rfl ?_
              refine s_get hX fX4_9 oC34 rfl dX4_repeat_54 ?_
              refine s_iload (k := 3) hX dX4_repeat_57 rfl ?_
              refine s_iload_n (k := 1) hX dX4_repeat_59 rfl rfl ?_
              refine s_isub hX dX4_repeat_60 ?_
              refine e_iald hX aC35 dX4_repeat_61 h (fun h => ?_)
              refine e_iast hX aC35 dX4_repeat_62 h (fun h => ?_)
              refine e_bndM h (fun M_5 h => ?_)
              refine s_aload_n (k := 0) hX dX4_repeat_63 rfl rfl ?_
              refine s_get hX fX4_15 oC34 rfl dX4_repeat_64 ?_
              refine s_iload (k := 3) hX dX4_repeat_67 rfl ?_
              refine s_aload_n (k := 0) hX dX4_repeat_69 rfl rfl ?_
              refine s_get hX fX4_15 oC34 rfl dX4_repeat_70 ?_
              refine s_iload (k := 3) hX dX4_repeat_73 rfl ?_
              refine s_iload_n (k := 1) hX dX4_repeat_75 rfl rfl ?_
              refine s_isub hX dX4_repeat_76 ?_
              refine e_iald hX aC36 dX4_repeat_77 h (fun h => ?_)
              refine e_iast hX aC36 dX4_repeat_78 h (fun h => ?_)
              refine e_bndM h (fun M_6 h => ?_)
              refine s_iinc (k := 3) (v := (y5_40 + (nI 1))) (lv' := [(0, .ref (ad 34)), (3, .int x_1), (4, .int x_2), (5, .int (y5_40 + (nI 1)))]) hX dX4_repeat_79 (congrArg (fun z => y5_40 + z) (by decide)) (by decide) rfl rfl ?_
              refine s_goto (tgt := 40) hX dX4_repeat_82 (by decide) ?_
              exact ih40 M_6 (y5_40 + (nI 1)) h
        refine s_loc [0, 3, 4, 5] rfl ?_
        exact lp40 FU M x_3 h
      · refine s_iconst (v := (nI 0)) hX dX4_repeat_32 (by decide) ?_
        exact e_zretiL hX hR dX4_repeat_33 (by decide) h
set_option maxHeartbeats 4000000 in
theorem t_X4_readHops (M : Mem) : AXi yX4_readHops cX4_readHops 8 (some .boolean) 2 60 glC (fun ad => [.ref (ad 34), .ref (ad 19)]) M (f_X4_readHops M) := by
  intro r0 h
  refine AM.of (by decide) (fun _ => Nat.le_of_ble_eq_true rfl) (fun X ad cI cZ cB hX hR => ?_)
  show V X M [(0, .ref (ad 34)), (1, .ref (ad 19))] [] 0
  refine s_aload_n (k := 1) hX dX4_readHops_0 rfl rfl ?_
  refine s_get hX fX4_41 oC19 rfl dX4_readHops_1 ?_
  refine e_bnd h (fun x_1 h => ?_)
  refine s_istore_n (lv' := [(0, .ref (ad 34)), (1, .ref (ad 19)), (2, .int x_1)]) hX dX4_readHops_4 rfl (by decide) rfl ?_
  refine s_iconst (v := (nI 0)) hX dX4_readHops_5 (by decide) ?_
  refine s_istore_n (lv' := [(0, .ref (ad 34)), (1, .ref (ad 19)), (2, .int x_1), (3, .int (nI 0))]) hX dX4_readHops_6 rfl (by decide) rfl ?_
  refine s_iconst (v := (nI 0)) hX dX4_readHops_7 (by decide) ?_
  refine s_istore (lv' := [(0, .ref (ad 34)), (1, .ref (ad 19)), (2, .int x_1), (3, .int (nI 0)), (4, .int (nI 0))]) hX dX4_readHops_8 (by decide) rfl ?_
  refine s_iconst (v := (nI 0)) hX dX4_readHops_10 (by decide) ?_
  refine s_istore (lv' := [(0, .ref (ad 34)), (1, .ref (ad 19)), (2, .int x_1), (3, .int (nI 0)), (4, .int (nI 0)), (5, .int (nI 0))]) hX dX4_readHops_11 (by decide) rfl ?_
  have lp13 : ∀ (N13 : Nat) (M13 : Mem) (y3_13 : Int32) (y4_13 : Int32) (y5_13 : Int32), wlp4 (f_X4_readHops_B13 x_1) N13 M13 y3_13 y4_13 y5_13 = some r0 → V X M13 [(0, .ref (ad 34)), (1, .ref (ad 19)), (2, .int x_1), (3, .int y3_13), (4, .int y4_13), (5, .int y5_13)] [] 13 := by
    intro N13
    induction N13 with
    | zero => exact fun _ _ _ _ h => e_none h
    | succ N13 ih13 =>
      intro M13 y3_13 y4_13 y5_13 h
      replace h : f_X4_readHops_B13 x_1 (wlp4 (f_X4_readHops_B13 x_1) N13) M13 y3_13 y4_13 y5_13 = some r0 := h
      generalize wlp4 (f_X4_readHops_B13 x_1) N13 = ag13 at ih13 h
      refine s_iload (k := 5) hX dX4_readHops_13 rfl ?_
      refine s_bipush (v := (nI 60)) hX dX4_readHops_15 (by decide) ?_
      have j141 : f_X4_readHops_L141 x_1 M13 y3_13 y4_13 = some r0 → V X M13 [(0, .ref (ad 34)), (1, .ref (ad 19)), (2, .int x_1), (3, .int y3_13), (4, .int y4_13)] [] 141 := by
        intro  h
        refine s_aload_n (k := 1) hX dX4_readHops_141 rfl rfl ?_
        refine s_get hX fX4_41 oC19 rfl dX4_readHops_142 ?_
        refine s_iload_n (k := 2) hX dX4_readHops_145 rfl rfl ?_
        refine e_icmp_ne (tgt := 156) hX dX4_readHops_146 (by decide) r_eq h (fun h => ?_) (fun h => ?_)
        · refine s_aload_n (k := 0) hX dX4_readHops_156 rfl rfl ?_
          refine s_get hX fX4_18 oC34 rfl dX4_readHops_157 ?_
          have j172 : f_X4_readHops_L172 x_1 M13 = some r0 → V X M13 [(1, .ref (ad 19)), (2, .int x_1)] [] 172 := by
            intro  h
            refine s_aload_n (k := 0) hX dX4_readHops_172 rfl rfl ?_
            refine s_bipush (v := (nI 6)) hX dX4_readHops_173 (by decide) ?_
            refine s_iload_n (k := 1) hX dX4_readHops_175 rfl rfl ?_
            refine e_callVi hX (t_X7_refuse (nI 6) x_1 M13) mX7_refuse lX4_44 (by decide) (by decide) oC19 rfl rfl rfl rfl rfl (Nat.le_of_ble_eq_true rfl) dX4_readHops_176 h (fun r_2 M_3 h => ?_)
            exact e_zreti hX hR dX4_readHops_179 h
          refine e_if_lt (tgt := 172) hX dX4_readHops_160 (by decide) z_lt h (fun h => ?_) (fun h => ?_)
          · refine s_loc [1, 2] rfl ?_
            exact j172 h
          · refine s_aload_n (k := 0) hX dX4_readHops_163 rfl rfl ?_
            refine s_get hX fX4_18 oC34 rfl dX4_readHops_164 ?_
            refine s_bipush (v := (nI 60)) hX dX4_readHops_167 (by decide) ?_
            refine e_icmp_lt (tgt := 180) hX dX4_readHops_169 (by decide) (m_lt (by decide +kernel)) h (fun h => ?_) (fun h => ?_)
            · refine s_aload_n (k := 0) hX dX4_readHops_180 rfl rfl ?_
              refine s_get hX fX4_9 oC34 rfl dX4_readHops_181 ?_
              refine s_aload_n (k := 0) hX dX4_readHops_184 rfl rfl ?_
              refine s_get hX fX4_18 oC34 rfl dX4_readHops_185 ?_
              refine s_iload_n (k := 3) hX dX4_readHops_188 rfl rfl ?_
              refine e_iast hX aC35 dX4_readHops_189 h (fun h => ?_)
              refine e_bndM h (fun M_4 h => ?_)
              refine s_aload_n (k := 0) hX dX4_readHops_190 rfl rfl ?_
              refine s_get hX fX4_15 oC34 rfl dX4_readHops_191 ?_
              refine s_aload_n (k := 0) hX dX4_readHops_194 rfl rfl ?_
              refine s_get hX fX4_18 oC34 rfl dX4_readHops_195 ?_
              refine s_iload (k := 4) hX dX4_readHops_198 rfl ?_
              refine e_iast hX aC36 dX4_readHops_200 h (fun h => ?_)
              refine e_bndM h (fun M_5 h => ?_)
              refine s_aload_n (k := 0) hX dX4_readHops_201 rfl rfl ?_
              refine s_dup hX dX4_readHops_202 rfl ?_
              refine s_get hX fX4_18 oC34 rfl dX4_readHops_203 ?_
              refine s_iconst (v := (nI 1)) hX dX4_readHops_206 (by decide) ?_
              refine s_iadd hX dX4_readHops_207 ?_
              refine s_puti (ty := .int) hX fX4_18 oC34 rfl (Nat.le_of_ble_eq_true rfl) ty_4_2 rfl rfl dX4_readHops_208 ?_
              refine e_bndM h (fun M_6 h => ?_)
              refine s_iconst (v := (nI 1)) hX dX4_readHops_211 (by decide) ?_
              exact e_zretiL hX hR dX4_readHops_212 (by decide) h
            · refine s_loc [1, 2] rfl ?_
              exact j172 h
        · refine s_aload_n (k := 1) hX dX4_readHops_149 rfl rfl ?_
          refine s_iconst (v := (nI 1)) hX dX4_readHops_150 (by decide) ?_
          refine s_iload_n (k := 2) hX dX4_readHops_151 rfl rfl ?_
          refine e_callVi hX (t_X7_refuse (nI 1) x_1 M13) mX7_refuse lX4_44 (by decide) (by decide) oC19 rfl rfl rfl rfl rfl (Nat.le_of_ble_eq_true rfl) dX4_readHops_152 h (fun r_7 M_8 h => ?_)
          exact e_zreti hX hR dX4_readHops_155 h
      refine e_icmp_ge (tgt := 141) hX dX4_readHops_17 (by decide) (m_ge (by decide +kernel)) h (fun h => ?_) (fun h => ?_)
      · refine s_loc [0, 1, 2, 3, 4] rfl ?_
        exact j141 h
      · refine s_aload_n (k := 1) hX dX4_readHops_20 rfl rfl ?_
        refine e_callVp hX (t_X7_here M13) mX7_here lX4_35 (by decide) (by decide) oC19 rfl rfl rfl rfl rfl (Nat.le_of_ble_eq_true rfl) dX4_readHops_21 h (fun r_9 h => ?_)
        refine e_callSp hX (t_X4_isHop r_9 M13) mX4_isHop lX4_62 (by decide) (by decide) rfl rfl (Nat.le_of_ble_eq_true rfl) dX4_readHops_24 h (fun r_10 h => ?_)
        refine e_if_eq (tgt := 141) hX dX4_readHops_27 (by decide) z_eq h (fun h => ?_) (fun h => ?_)
        · refine s_loc [0, 1, 2, 3, 4] rfl ?_
          exact j141 h
        · refine s_aload_n (k := 1) hX dX4_readHops_30 rfl rfl ?_
          refine e_callVp hX (t_X7_here M13) mX7_here lX4_35 (by decide) (by decide) oC19 rfl rfl rfl rfl rfl (Nat.le_of_ble_eq_true rfl) dX4_readHops_31 h (fun r_11 h => ?_)
          refine s_istore (lv' := [(0, .ref (ad 34)), (1, .ref (ad 19)), (2, .int x_1), (3, .int y3_13), (4, .int y4_13), (5, .int y5_13), (6, .int r_11)]) hX dX4_readHops_34 (by decide) rfl ?_
          refine s_aload_n (k := 1) hX dX4_readHops_36 rfl rfl ?_
          refine s_dup hX dX4_readHops_37 rfl ?_
          refine s_get hX fX4_41 oC19 rfl dX4_readHops_38 ?_
          refine s_iconst (v := (nI 1)) hX dX4_readHops_41 (by decide) ?_
          refine s_iadd hX dX4_readHops_42 ?_
          refine s_puti (ty := .int) hX fX4_41 oC19 rfl (Nat.le_of_ble_eq_true rfl) ty_7_3 rfl rfl dX4_readHops_43 ?_
          refine e_bndM h (fun M_12 h => ?_)
          refine s_aload_n (k := 1) hX dX4_readHops_46 rfl rfl ?_
          refine e_callVp hX (t_X7_here M_12) mX7_here lX4_35 (by decide) (by decide) oC19 rfl rfl rfl rfl rfl (Nat.le_of_ble_eq_true rfl) dX4_readHops_47 h (fun r_13 h => ?_)
          refine e_callSp hX (t_X7_isDigit r_13 M_12) mX7_isDigit lX4_65 (by decide) (by decide) rfl rfl (Nat.le_of_ble_eq_true rfl) dX4_readHops_50 h (fun r_14 h => ?_)
          have j65 : ∀ (N65 : Mem) (t0_65 : Int32), f_X4_readHops_L65 ag13 y3_13 y4_13 y5_13 r_11 N65 t0_65 = some r0 → V X N65 [(0, .ref (ad 34)), (1, .ref (ad 19)), (2, .int x_1), (3, .int y3_13), (4, .int y4_13), (5, .int y5_13), (6, .int r_11)] [.int t0_65] 65 := by
            intro N65 t0_65 h
            refine s_istore (lv' := [(0, .ref (ad 34)), (1, .ref (ad 19)), (2, .int x_1), (3, .int y3_13), (4, .int y4_13), (5, .int y5_13), (6, .int r_11), (7, .int t0_65)]) hX dX4_readHops_65 (by decide) rfl ?_
            refine s_iload (k := 7) hX dX4_readHops_67 rfl ?_
            refine s_iconst (v := (-1)) hX dX4_readHops_69 (by decide) ?_
            refine e_icmp_ne (tgt := 75) hX dX4_readHops_70 (by decide) (m_eq (by decide +kernel)) h (fun h => ?_) (fun h => ?_)
            · refine s_iload_n (k := 3) hX dX4_readHops_75 rfl rfl ?_
              refine s_iload (k := 6) hX dX4_readHops_76 rfl ?_
              refine s_bipush (v := (nI 117)) hX dX4_readHops_78 (by decide) ?_
              have j102 : ∀ (t0_102 : Int32), f_X4_readHops_L102 ag13 y3_13 y4_13 y5_13 r_11 N65 t0_65 t0_102 = some r0 → V X N65 [(0, .ref (ad 34)), (1, .ref (ad 19)), (2, .int x_1), (4, .int y4_13), (5, .int y5_13), (6, .int r_11), (7, .int t0_65)] [.int t0_102, .int y3_13] 102 := by
                intro t0_102 h
                refine s_iadd hX dX4_readHops_102 ?_
                refine e_bnd h (fun x_15 h => ?_)
                refine s_istore_n (lv' := [(0, .ref (ad 34)), (1, .ref (ad 19)), (2, .int x_1), (4, .int y4_13), (5, .int y5_13), (6, .int r_11), (7, .int t0_65), (3, .int x_15)]) hX dX4_readHops_103 rfl (by decide) rfl ?_
                refine s_iload (k := 3) hX dX4_readHops_104 rfl ?_
                refine s_iload (k := 5) hX dX4_readHops_106 rfl ?_
                refine s_bipush (v := (nI 111)) hX dX4_readHops_108 (by decide) ?_
                refine e_icmp_ne (tgt := 118) hX dX4_readHops_110 (by decide) (m_eq (by decide +kernel)) h (fun h => ?_) (fun h => ?_)
                · refine s_iload (k := 5) hX dX4_readHops_118 rfl ?_
                  refine s_bipush (v := (nI 98)) hX dX4_readHops_120 (by decide) ?_
                  refine e_icmp_ne (tgt := 131) hX dX4_readHops_122 (by decide) (m_eq (by decide +kernel)) h (fun h => ?_) (fun h => ?_)
                  · refine s_iconst (v := (nI 0)) hX dX4_readHops_131 (by decide) ?_
                    refine s_iadd hX dX4_readHops_132 ?_
                    refine s_istore (lv' := [(0, .ref (ad 34)), (1, .ref (ad 19)), (2, .int x_1), (5, .int y5_13), (6, .int r_11), (7, .int t0_65), (3, .int x_15), (4, .int (y4_13 + (nI 0)))]) hX dX4_readHops_133 (by decide) rfl ?_
                    refine s_iinc (k := 3) (v := (y5_13 + (nI 1))) (lv' := [(0, .ref (ad 34)), (1, .ref (ad 19)), (2, .int x_1), (6, .int r_11), (7, .int t0_65), (3, .int x_15), (4, .int (y4_13 + (nI 0))), (5, .int (y5_13 + (nI 1)))]) hX dX4_readHops_135 (congrArg (fun z => y5_13 + z) (by decide)) (by decide) rfl rfl ?_
                    refine s_goto (tgt := 13) hX dX4_readHops_138 (by decide) ?_
                    refine s_loc [0, 1, 2, 5, 6, 7] rfl ?_
                    exact ih13 N65 x_15 (y4_13 + (nI 0)) (y5_13 + (nI 1)) h
                  · refine s_iload (k := 6) hX dX4_readHops_125 rfl ?_
                    refine s_ineg hX dX4_readHops_127 ?_
                    refine s_goto (tgt := 132) hX dX4_readHops_128 (by decide) ?_
                    refine s_iadd hX dX4_readHops_132 ?_
                    refine e_bnd h (fun x_16 h => ?_)
                    refine s_istore (lv' := [(0, .ref (ad 34)), (1, .ref (ad 19)), (2, .int x_1), (5, .int y5_13), (6, .int r_11), (7, .int t0_65), (3, .int x_15), (4, .int x_16)]) hX dX4_readHops_133 (by decide) rfl ?_
                    refine s_iinc (k := 3) (v := (y5_13 + (nI 1))) (lv' := [(0, .ref (ad 34)), (1, .ref (ad 19)), (2, .int x_1), (6, .int r_11), (7, .int t0_65), (3, .int x_15), (4, .int x_16), (5, .int (y5_13 + (nI 1)))]) hX dX4_readHops_135 (congrArg (fun z => y5_13 + z) (by decide)) (by decide) rfl rfl ?_
                    refine s_goto (tgt := 13) hX dX4_readHops_138 (by decide) ?_
                    refine s_loc [0, 1, 2, 5, 6, 7] rfl ?_
                    exact ih13 N65 x_15 x_16 (y5_13 + (nI 1)) h
                · refine s_iload (k := 6) hX dX4_readHops_113 rfl ?_
                  refine s_goto (tgt := 132) hX dX4_readHops_115 (by decide) ?_
                  refine s_iadd hX dX4_readHops_132 ?_
                  refine e_bnd h (fun x_17 h => ?_)
                  refine s_istore (lv' := [(0, .ref (ad 34)), (1, .ref (ad 19)), (2, .int x_1), (5, .int y5_13), (6, .int r_11), (7, .int t0_65), (3, .int x_15), (4, .int x_17)]) hX dX4_readHops_133 (by decide) rfl ?_
                  refine s_iinc (k := 3) (v := (y5_13 + (nI 1))) (lv' := [(0, .ref (ad 34)), (1, .ref (ad 19)), (2, .int x_1), (6, .int r_11), (7, .int t0_65), (3, .int x_15), (4, .int x_17), (5, .int (y5_13 + (nI 1)))]) hX dX4_readHops_135 (congrArg (fun z => y5_13 + z) (by decide)) (by decide) rfl rfl ?_
                  refine s_goto (tgt := 13) hX dX4_readHops_138 (by decide) ?_
                  refine s_loc [0, 1, 2, 5, 6, 7] rfl ?_
                  exact ih13 N65 x_15 x_17 (y5_13 + (nI 1)) h
              refine e_icmp_ne (tgt := 88) hX dX4_readHops_80 (by decide) (m_eq (by decide +kernel)) h (fun h => ?_) (fun h => ?_)
              · refine s_iload (k := 6) hX dX4_readHops_88 rfl ?_
                refine s_bipush (v := (nI 100)) hX dX4_readHops_90 (by decide) ?_
                refine e_icmp_ne (tgt := 101) hX dX4_readHops_92 (by decide) (m_eq (by decide +kernel)) h (fun h => ?_) (fun h => ?_)
                · refine s_iconst (v := (nI 0)) hX dX4_readHops_101 (by decide) ?_
                  refine s_loc [0, 1, 2, 4, 5, 6, 7] rfl ?_
                  exact j102 (nI 0) h
                · refine s_iload (k := 7) hX dX4_readHops_95 rfl ?_
                  refine s_ineg hX dX4_readHops_97 ?_
                  refine s_goto (tgt := 102) hX dX4_readHops_98 (by decide) ?_
                  refine s_loc [0, 1, 2, 4, 5, 6, 7] rfl ?_
                  exact j102 (-t0_65) h
              · refine s_iload (k := 7) hX dX4_readHops_83 rfl ?_
                refine s_goto (tgt := 102) hX dX4_readHops_85 (by decide) ?_
                refine s_loc [0, 1, 2, 4, 5, 6, 7] rfl ?_
                exact j102 t0_65 h
            · refine s_iconst (v := (nI 0)) hX dX4_readHops_73 (by decide) ?_
              exact e_zretiL hX hR dX4_readHops_74 (by decide) h
          refine e_if_eq (tgt := 64) hX dX4_readHops_53 (by decide) z_eq h (fun h => ?_) (fun h => ?_)
          · refine s_iconst (v := (nI 1)) hX dX4_readHops_64 (by decide) ?_
            exact j65 M_12 (nI 1) h
          · refine s_aload_n (k := 1) hX dX4_readHops_56 rfl rfl ?_
            refine s_iconst (v := (nI 2)) hX dX4_readHops_57 (by decide) ?_
            refine e_callVi hX (t_X7_number (nI 2) M_12) mX7_number lX4_68 (by decide) (by decide) oC19 rfl rfl rfl rfl rfl (Nat.le_of_ble_eq_true rfl) dX4_readHops_58 h (fun r_18 M_19 h => ?_)
            refine s_goto (tgt := 65) hX dX4_readHops_61 (by decide) ?_
            exact j65 M_19 r_18 h
  exact lp13 FU M (nI 0) (nI 0) (nI 0) h
set_option maxHeartbeats 4000000 in
theorem t_X4_readSteps (dS : Nat) (S_X4_readRound : Mem → Int32 → Option (Int32 × Mem)) (hS_X4_readRound : ∀ (v2 : Int32) (M : Mem), AXi yX4_readRound cX4_readRound 6 (some .boolean) dS 60 glC (fun ad => [.ref (ad 34), .ref (ad 19), .int v2]) M (S_X4_readRound M v2)) (v2 : Int32) (M : Mem) : AXi yX4_readSteps cX4_readSteps 5 (some .boolean) (dS + 3) 60 glC (fun ad => [.ref (ad 34), .ref (ad 19), .int v2]) M (f_X4_readSteps S_X4_readRound M v2) := by
  intro r0 h
  refine AM.of (by decide) (fun _ => Nat.le_of_ble_eq_true rfl) (fun X ad cI cZ cB hX hR => ?_)
  show V X M [(0, .ref (ad 34)), (1, .ref (ad 19)), (2, .int v2)] [] 0
  refine s_iconst (v := (nI 0)) hX dX4_readSteps_0 (by decide) ?_
  refine s_istore_n (lv' := [(0, .ref (ad 34)), (1, .ref (ad 19)), (2, .int v2), (3, .int (nI 0))]) hX dX4_readSteps_1 rfl (by decide) rfl ?_
  have lp2 : ∀ (N2 : Nat) (M2 : Mem) (y3_2 : Int32), wlp2 (f_X4_readSteps_B2 S_X4_readRound v2) N2 M2 y3_2 = some r0 → V X M2 [(0, .ref (ad 34)), (1, .ref (ad 19)), (2, .int v2), (3, .int y3_2)] [] 2 := by
    intro N2
    induction N2 with
    | zero => exact fun _ _ h => e_none h
    | succ N2 ih2 =>
      intro M2 y3_2 h
      replace h : f_X4_readSteps_B2 S_X4_readRound v2 (wlp2 (f_X4_readSteps_B2 S_X4_readRound v2) N2) M2 y3_2 = some r0 := h
      generalize wlp2 (f_X4_readSteps_B2 S_X4_readRound v2) N2 = ag2 at ih2 h
      refine s_iload_n (k := 3) hX dX4_readSteps_2 rfl rfl ?_
      refine s_bipush (v := (nI 60)) hX dX4_readSteps_3 (by decide) ?_
      have j67 : f_X4_readSteps_L67 M2 = some r0 → V X M2 [(1, .ref (ad 19))] [] 67 := by
        intro  h
        refine s_aload_n (k := 0) hX dX4_readSteps_67 rfl rfl ?_
        refine s_iconst (v := (nI 1)) hX dX4_readSteps_68 (by decide) ?_
        refine s_aload_n (k := 0) hX dX4_readSteps_69 rfl rfl ?_
        refine s_get hX fX4_41 oC19 rfl dX4_readSteps_70 ?_
        refine e_callVi hX (t_X7_refuse (nI 1) (M2 19 3) M2) mX7_refuse lX4_44 (by omega) (by decide) oC19 rfl rfl rfl rfl rfl (Nat.le_of_ble_eq_true rfl) dX4_readSteps_73 h (fun r_1 M_2 h => ?_)
        exact e_zreti hX hR dX4_readSteps_76 h
      refine e_icmp_ge (tgt := 67) hX dX4_readSteps_5 (by decide) (m_ge (by decide +kernel)) h (fun h => ?_) (fun h => ?_)
      · refine s_loc [1] rfl ?_
        exact j67 h
      · refine s_aload_n (k := 1) hX dX4_readSteps_8 rfl rfl ?_
        refine e_callVp hX (t_X7_here M2) mX7_here lX4_35 (by omega) (by decide) oC19 rfl rfl rfl rfl rfl (Nat.le_of_ble_eq_true rfl) dX4_readSteps_9 h (fun r_3 h => ?_)
        refine s_bipush (v := (nI 40)) hX dX4_readSteps_12 (by decide) ?_
        have j31 : ∀ (N31 : Mem) (t0_31 : Int32), f_X4_readSteps_L31 ag2 y3_2 N31 t0_31 = some r0 → V X N31 [(0, .ref (ad 34)), (1, .ref (ad 19)), (2, .int v2), (3, .int y3_2)] [.int t0_31] 31 := by
          intro N31 t0_31 h
          refine s_istore (lv' := [(0, .ref (ad 34)), (1, .ref (ad 19)), (2, .int v2), (3, .int y3_2), (4, .int t0_31)]) hX dX4_readSteps_31 (by decide) rfl ?_
          refine s_iload (k := 4) hX dX4_readSteps_33 rfl ?_
          refine e_if_ne (tgt := 40) hX dX4_readSteps_35 (by decide) z_eq h (fun h => ?_) (fun h => ?_)
          · refine s_aload_n (k := 1) hX dX4_readSteps_40 rfl rfl ?_
            refine e_callVp hX (t_X7_here N31) mX7_here lX4_35 (by omega) (by decide) oC19 rfl rfl rfl rfl rfl (Nat.le_of_ble_eq_true rfl) dX4_readSteps_41 h (fun r_4 h => ?_)
            refine s_bipush (v := (nI 44)) hX dX4_readSteps_44 (by decide) ?_
            refine e_icmp_eq (tgt := 51) hX dX4_readSteps_46 (by decide) (m_eq (by decide +kernel)) h (fun h => ?_) (fun h => ?_)
            · refine s_aload_n (k := 1) hX dX4_readSteps_51 rfl rfl ?_
              refine s_dup hX dX4_readSteps_52 rfl ?_
              refine s_get hX fX4_41 oC19 rfl dX4_readSteps_53 ?_
              refine s_iconst (v := (nI 1)) hX dX4_readSteps_56 (by decide) ?_
              refine s_iadd hX dX4_readSteps_57 ?_
              refine s_puti (ty := .int) hX fX4_41 oC19 rfl (Nat.le_of_ble_eq_true rfl) ty_7_3 rfl rfl dX4_readSteps_58 ?_
              refine e_bndM h (fun M_5 h => ?_)
              refine s_iinc (k := 3) (v := (y3_2 + (nI 1))) (lv' := [(0, .ref (ad 34)), (1, .ref (ad 19)), (2, .int v2), (4, .int t0_31), (3, .int (y3_2 + (nI 1)))]) hX dX4_readSteps_61 (congrArg (fun z => y3_2 + z) (by decide)) (by decide) rfl rfl ?_
              refine s_goto (tgt := 2) hX dX4_readSteps_64 (by decide) ?_
              refine s_loc [0, 1, 2, 4] rfl ?_
              exact ih2 M_5 (y3_2 + (nI 1)) h
            · refine s_iconst (v := (nI 1)) hX dX4_readSteps_49 (by decide) ?_
              exact e_zretiL hX hR dX4_readSteps_50 (by decide) h
          · refine s_iconst (v := (nI 0)) hX dX4_readSteps_38 (by decide) ?_
            exact e_zretiL hX hR dX4_readSteps_39 (by decide) h
        refine e_icmp_ne (tgt := 26) hX dX4_readSteps_14 (by decide) (m_eq (by decide +kernel)) h (fun h => ?_) (fun h => ?_)
        · refine s_aload_n (k := 0) hX dX4_readSteps_26 rfl rfl ?_
          refine s_aload_n (k := 1) hX dX4_readSteps_27 rfl rfl ?_
          refine e_callVi hX (t_X4_readHops M2) mX4_readHops lX4_51 (by omega) (by decide) oC34 rfl rfl rfl rfl rfl (Nat.le_of_ble_eq_true rfl) dX4_readSteps_28 h (fun r_6 M_7 h => ?_)
          exact j31 M_7 r_6 h
        · refine s_aload_n (k := 0) hX dX4_readSteps_17 rfl rfl ?_
          refine s_aload_n (k := 1) hX dX4_readSteps_18 rfl rfl ?_
          refine s_iload_n (k := 2) hX dX4_readSteps_19 rfl rfl ?_
          refine e_callVi hX (hS_X4_readRound v2 M2) mX4_readRound lX4_48 (by omega) (by decide) oC34 rfl rfl rfl rfl rfl (Nat.le_of_ble_eq_true rfl) dX4_readSteps_20 h (fun r_8 M_9 h => ?_)
          refine s_goto (tgt := 31) hX dX4_readSteps_23 (by decide) ?_
          exact j31 M_9 r_8 h
  exact lp2 FU M (nI 0) h
set_option maxHeartbeats 4000000 in
theorem t_X4_readRound (dS : Nat) (S_X4_readSteps : Mem → Int32 → Option (Int32 × Mem)) (hS_X4_readSteps : ∀ (v2 : Int32) (M : Mem), AXi yX4_readSteps cX4_readSteps 5 (some .boolean) dS 60 glC (fun ad => [.ref (ad 34), .ref (ad 19), .int v2]) M (S_X4_readSteps M v2)) (v2 : Int32) (M : Mem) : AXi yX4_readRound cX4_readRound 6 (some .boolean) (dS + 2) 60 glC (fun ad => [.ref (ad 34), .ref (ad 19), .int v2]) M (f_X4_readRound S_X4_readSteps M v2) := by
  intro r0 h
  refine AM.of (by decide) (fun _ => Nat.le_of_ble_eq_true rfl) (fun X ad cI cZ cB hX hR => ?_)
  show V X M [(0, .ref (ad 34)), (1, .ref (ad 19)), (2, .int v2)] [] 0
  refine s_aload_n (k := 1) hX dX4_readRound_0 rfl rfl ?_
  refine s_get hX fX4_41 oC19 rfl dX4_readRound_1 ?_
  refine e_bnd h (fun x_1 h => ?_)
  refine s_istore_n (lv' := [(0, .ref (ad 34)), (1, .ref (ad 19)), (2, .int v2), (3, .int x_1)]) hX dX4_readRound_4 rfl (by decide) rfl ?_
  refine s_aload_n (k := 0) hX dX4_readRound_5 rfl rfl ?_
  refine s_get hX fX4_18 oC34 rfl dX4_readRound_6 ?_
  refine e_bnd h (fun x_2 h => ?_)
  refine s_istore (lv' := [(0, .ref (ad 34)), (1, .ref (ad 19)), (2, .int v2), (3, .int x_1), (4, .int x_2)]) hX dX4_readRound_9 (by decide) rfl ?_
  refine s_iload_n (k := 2) hX dX4_readRound_11 rfl rfl ?_
  refine s_iconst (v := (nI 2)) hX dX4_readRound_12 (by decide) ?_
  refine e_icmp_lt (tgt := 23) hX dX4_readRound_13 (by decide) (m_lt (by decide +kernel)) h (fun h => ?_) (fun h => ?_)
  · refine s_aload_n (k := 1) hX dX4_readRound_23 rfl rfl ?_
    refine s_dup hX dX4_readRound_24 rfl ?_
    refine s_get hX fX4_41 oC19 rfl dX4_readRound_25 ?_
    refine s_iconst (v := (nI 1)) hX dX4_readRound_28 (by decide) ?_
    refine s_iadd hX dX4_readRound_29 ?_
    refine s_puti (ty := .int) hX fX4_41 oC19 rfl (Nat.le_of_ble_eq_true rfl) ty_7_3 rfl rfl dX4_readRound_30 ?_
    refine e_bndM h (fun M_3 h => ?_)
    refine s_aload_n (k := 0) hX dX4_readRound_33 rfl rfl ?_
    refine s_aload_n (k := 1) hX dX4_readRound_34 rfl rfl ?_
    refine s_iload_n (k := 2) hX dX4_readRound_35 rfl rfl ?_
    refine s_iconst (v := (nI 1)) hX dX4_readRound_36 (by decide) ?_
    refine s_iadd hX dX4_readRound_37 ?_
    refine e_callVi hX (hS_X4_readSteps (v2 + (nI 1)) M_3) mX4_readSteps lX4_31 (by omega) (by decide) oC34 rfl rfl rfl rfl rfl (Nat.le_of_ble_eq_true rfl) dX4_readRound_38 h (fun r_4 M_5 h => ?_)
    refine e_if_eq (tgt := 53) hX dX4_readRound_41 (by decide) z_eq h (fun h => ?_) (fun h => ?_)
    · refine s_iconst (v := (nI 0)) hX dX4_readRound_53 (by decide) ?_
      exact e_zretiL hX hR dX4_readRound_54 (by decide) h
    · refine s_aload_n (k := 1) hX dX4_readRound_44 rfl rfl ?_
      refine s_bipush (v := (nI 41)) hX dX4_readRound_45 (by decide) ?_
      refine e_callVi hX (t_X7_skip (nI 41) M_5) mX7_skip lX4_55 (by omega) (by decide) oC19 rfl rfl rfl rfl rfl (Nat.le_of_ble_eq_true rfl) dX4_readRound_47 h (fun r_6 M_7 h => ?_)
      refine e_if_ne (tgt := 55) hX dX4_readRound_50 (by decide) z_eq h (fun h => ?_) (fun h => ?_)
      · refine s_aload_n (k := 1) hX dX4_readRound_55 rfl rfl ?_
        refine e_callVp hX (t_X7_here M_7) mX7_here lX4_35 (by omega) (by decide) oC19 rfl rfl rfl rfl rfl (Nat.le_of_ble_eq_true rfl) dX4_readRound_56 h (fun r_8 h => ?_)
        refine s_bipush (v := (nI 120)) hX dX4_readRound_59 (by decide) ?_
        refine e_icmp_eq (tgt := 66) hX dX4_readRound_61 (by decide) (m_eq (by decide +kernel)) h (fun h => ?_) (fun h => ?_)
        · refine s_aload_n (k := 1) hX dX4_readRound_66 rfl rfl ?_
          refine s_dup hX dX4_readRound_67 rfl ?_
          refine s_get hX fX4_41 oC19 rfl dX4_readRound_68 ?_
          refine s_iconst (v := (nI 1)) hX dX4_readRound_71 (by decide) ?_
          refine s_iadd hX dX4_readRound_72 ?_
          refine s_puti (ty := .int) hX fX4_41 oC19 rfl (Nat.le_of_ble_eq_true rfl) ty_7_3 rfl rfl dX4_readRound_73 ?_
          refine e_bndM h (fun M_9 h => ?_)
          refine s_aload_n (k := 1) hX dX4_readRound_76 rfl rfl ?_
          refine e_callVp hX (t_X7_here M_9) mX7_here lX4_35 (by omega) (by decide) oC19 rfl rfl rfl rfl rfl (Nat.le_of_ble_eq_true rfl) dX4_readRound_77 h (fun r_10 h => ?_)
          refine s_istore (lv' := [(0, .ref (ad 34)), (1, .ref (ad 19)), (2, .int v2), (3, .int x_1), (4, .int x_2), (5, .int r_10)]) hX dX4_readRound_80 (by decide) rfl ?_
          refine s_iload (k := 5) hX dX4_readRound_82 rfl ?_
          refine s_bipush (v := (nI 50)) hX dX4_readRound_84 (by decide) ?_
          have j96 : f_X4_readRound_L96 M_9 = some r0 → V X M_9 [(1, .ref (ad 19))] [] 96 := by
            intro  h
            refine s_aload_n (k := 0) hX dX4_readRound_96 rfl rfl ?_
            refine s_iconst (v := (nI 1)) hX dX4_readRound_97 (by decide) ?_
            refine s_aload_n (k := 0) hX dX4_readRound_98 rfl rfl ?_
            refine s_get hX fX4_41 oC19 rfl dX4_readRound_99 ?_
            refine e_callVi hX (t_X7_refuse (nI 1) (M_9 19 3) M_9) mX7_refuse lX4_44 (by omega) (by decide) oC19 rfl rfl rfl rfl rfl (Nat.le_of_ble_eq_true rfl) dX4_readRound_102 h (fun r_11 M_12 h => ?_)
            exact e_zreti hX hR dX4_readRound_105 h
          refine e_icmp_lt (tgt := 96) hX dX4_readRound_86 (by decide) (m_lt (by decide +kernel)) h (fun h => ?_) (fun h => ?_)
          · refine s_loc [1] rfl ?_
            exact j96 h
          · refine s_iload (k := 5) hX dX4_readRound_89 rfl ?_
            refine s_bipush (v := (nI 57)) hX dX4_readRound_91 (by decide) ?_
            refine e_icmp_le (tgt := 106) hX dX4_readRound_93 (by decide) (m_le (by decide +kernel)) h (fun h => ?_) (fun h => ?_)
            · refine s_aload_n (k := 1) hX dX4_readRound_106 rfl rfl ?_
              refine s_dup hX dX4_readRound_107 rfl ?_
              refine s_get hX fX4_41 oC19 rfl dX4_readRound_108 ?_
              refine s_iconst (v := (nI 1)) hX dX4_readRound_111 (by decide) ?_
              refine s_iadd hX dX4_readRound_112 ?_
              refine s_puti (ty := .int) hX fX4_41 oC19 rfl (Nat.le_of_ble_eq_true rfl) ty_7_3 rfl rfl dX4_readRound_113 ?_
              refine e_bndM h (fun M_13 h => ?_)
              refine s_aload_n (k := 0) hX dX4_readRound_116 rfl rfl ?_
              refine s_iload (k := 4) hX dX4_readRound_117 rfl ?_
              refine s_iload (k := 5) hX dX4_readRound_119 rfl ?_
              refine s_bipush (v := (nI 49)) hX dX4_readRound_121 (by decide) ?_
              refine s_isub hX dX4_readRound_123 ?_
              refine e_callVi hX (t_X4_repeat x_2 (r_10 - (nI 49)) M_13) mX4_repeat lX4_59 (by omega) (by decide) oC34 rfl rfl rfl rfl rfl (Nat.le_of_ble_eq_true rfl) dX4_readRound_124 h (fun r_14 M_15 h => ?_)
              refine e_if_ne (tgt := 140) hX dX4_readRound_127 (by decide) z_eq h (fun h => ?_) (fun h => ?_)
              · refine s_iconst (v := (nI 1)) hX dX4_readRound_140 (by decide) ?_
                refine s_goto (tgt := 145) hX dX4_readRound_141 (by decide) ?_
                exact e_zretiL hX hR dX4_readRound_145 (by decide) h
              · refine s_aload_n (k := 1) hX dX4_readRound_130 rfl rfl ?_
                refine s_bipush (v := (nI 6)) hX dX4_readRound_131 (by decide) ?_
                refine s_iload_n (k := 3) hX dX4_readRound_133 rfl rfl ?_
                refine e_callVi hX (t_X7_refuse (nI 6) x_1 M_15) mX7_refuse lX4_44 (by omega) (by decide) oC19 rfl rfl rfl rfl rfl (Nat.le_of_ble_eq_true rfl) dX4_readRound_134 h (fun r_16 M_17 h => ?_)
                refine e_if_eq (tgt := 144) hX dX4_readRound_137 (by decide) z_eq h (fun h => ?_) (fun h => ?_)
                · refine s_iconst (v := (nI 0)) hX dX4_readRound_144 (by decide) ?_
                  exact e_zretiL hX hR dX4_readRound_145 (by decide) h
                · refine s_iconst (v := (nI 1)) hX dX4_readRound_140 (by decide) ?_
                  refine s_goto (tgt := 145) hX dX4_readRound_141 (by decide) ?_
                  exact e_zretiL hX hR dX4_readRound_145 (by decide) h
            · refine s_loc [1] rfl ?_
              exact j96 h
        · refine s_iconst (v := (nI 1)) hX dX4_readRound_64 (by decide) ?_
          exact e_zretiL hX hR dX4_readRound_65 (by decide) h
      · refine s_iconst (v := (nI 0)) hX dX4_readRound_53 (by decide) ?_
        exact e_zretiL hX hR dX4_readRound_54 (by decide) h
  · refine s_aload_n (k := 1) hX dX4_readRound_16 rfl rfl ?_
    refine s_iconst (v := (nI 5)) hX dX4_readRound_17 (by decide) ?_
    refine s_iload_n (k := 3) hX dX4_readRound_18 rfl rfl ?_
    refine e_callVi hX (t_X7_refuse (nI 5) x_1 M) mX7_refuse lX4_44 (by omega) (by decide) oC19 rfl rfl rfl rfl rfl (Nat.le_of_ble_eq_true rfl) dX4_readRound_19 h (fun r_18 M_19 h => ?_)
    exact e_zreti hX hR dX4_readRound_22 h
theorem tg_steps : ∀ (n : Nat) (v2 : Int32) (M : Mem), AXi yX4_readSteps cX4_readSteps 5 (some .boolean) (5 * n) 60 glC (fun ad => [.ref (ad 34), .ref (ad 19), .int v2]) M (g_steps n M v2)
  | 0 => fun _ _ r0 h => nomatch h
  | n + 1 => fun v2 M => by
    have e : 5 * (n + 1) = 5 * n + 2 + 3 := by omega
    rw [e]
    exact t_X4_readSteps (5 * n + 2) _ (t_X4_readRound (5 * n) _ (tg_steps n)) v2 M
set_option maxHeartbeats 4000000 in
theorem t_X4_read (M : Mem) : AXi yX4_read cX4_read 2 (some .boolean) 21 60 glC (fun ad => [.ref (ad 34), .ref (ad 19)]) M (f_X4_read M) := by
  intro r0 h
  refine AM.of (by decide) (fun _ => Nat.le_of_ble_eq_true rfl) (fun X ad cI cZ cB hX hR => ?_)
  show V X M [(0, .ref (ad 34)), (1, .ref (ad 19))] [] 0
  refine s_aload_n (k := 0) hX dX4_read_0 rfl rfl ?_
  refine s_iconst (v := (nI 0)) hX dX4_read_1 (by decide) ?_
  refine s_puti (ty := .int) hX fX4_18 oC34 rfl (Nat.le_of_ble_eq_true rfl) ty_4_2 rfl rfl dX4_read_2 ?_
  refine e_bndM h (fun M_1 h => ?_)
  refine s_aload_n (k := 0) hX dX4_read_5 rfl rfl ?_
  refine s_aload_n (k := 1) hX dX4_read_6 rfl rfl ?_
  refine s_iconst (v := (nI 0)) hX dX4_read_7 (by decide) ?_
  refine e_callVi hX (tg_steps 4 (nI 0) M_1) mX4_readSteps lX4_31 (by decide) (by decide) oC34 rfl rfl rfl rfl rfl (Nat.le_of_ble_eq_true rfl) dX4_read_8 h (fun r_2 M_3 h => ?_)
  refine e_if_ne (tgt := 16) hX dX4_read_11 (by decide) z_eq h (fun h => ?_) (fun h => ?_)
  · refine s_aload_n (k := 1) hX dX4_read_16 rfl rfl ?_
    refine e_callVp hX (t_X7_here M_3) mX7_here lX4_35 (by decide) (by decide) oC19 rfl rfl rfl rfl rfl (Nat.le_of_ble_eq_true rfl) dX4_read_17 h (fun r_4 h => ?_)
    refine s_iconst (v := (-1)) hX dX4_read_20 (by decide) ?_
    refine e_icmp_eq (tgt := 36) hX dX4_read_21 (by decide) (m_eq (by decide +kernel)) h (fun h => ?_) (fun h => ?_)
    · refine s_iconst (v := (nI 1)) hX dX4_read_36 (by decide) ?_
      refine s_goto (tgt := 41) hX dX4_read_37 (by decide) ?_
      exact e_zretiL hX hR dX4_read_41 (by decide) h
    · refine s_aload_n (k := 1) hX dX4_read_24 rfl rfl ?_
      refine s_iconst (v := (nI 1)) hX dX4_read_25 (by decide) ?_
      refine s_aload_n (k := 1) hX dX4_read_26 rfl rfl ?_
      refine s_get hX fX4_41 oC19 rfl dX4_read_27 ?_
      refine e_callVi hX (t_X7_refuse (nI 1) (M_3 19 3) M_3) mX7_refuse lX4_44 (by decide) (by decide) oC19 rfl rfl rfl rfl rfl (Nat.le_of_ble_eq_true rfl) dX4_read_30 h (fun r_5 M_6 h => ?_)
      refine e_if_eq (tgt := 40) hX dX4_read_33 (by decide) z_eq h (fun h => ?_) (fun h => ?_)
      · refine s_iconst (v := (nI 0)) hX dX4_read_40 (by decide) ?_
        exact e_zretiL hX hR dX4_read_41 (by decide) h
      · refine s_iconst (v := (nI 1)) hX dX4_read_36 (by decide) ?_
        refine s_goto (tgt := 41) hX dX4_read_37 (by decide) ?_
        exact e_zretiL hX hR dX4_read_41 (by decide) h
  · refine s_iconst (v := (nI 0)) hX dX4_read_14 (by decide) ?_
    exact e_zretiL hX hR dX4_read_15 (by decide) h
set_option maxHeartbeats 4000000 in
theorem t_X5_look (b : Nat) (hb : isF b) (c : Nat) (hc : isL c) (v3 : Int32) (M : Mem) : AXv yX5_look cX5_look 4 none 3 60 glC (fun ad => [.ref (ad 21), .ref (ad b), .ref (ad c), .int v3]) M (f_X5_look b c M v3) := by
  intro r0 h
  refine AM.of (by decide) (fun _ => Nat.le_of_ble_eq_true rfl) (fun X ad cI cZ cB hX hR => ?_)
  show V X M [(0, .ref (ad 21)), (1, .ref (ad b)), (2, .ref (ad c)), (3, .int v3)] [] 0
  refine s_aload_n (k := 1) hX dX5_look_0 rfl rfl ?_
  refine s_iload_n (k := 3) hX dX5_look_1 rfl rfl ?_
  refine e_callVp hX (t_X2_isTold b hb v3 M) mX2_isTold lX5_35 (by decide) (by decide) (oF hb) rfl rfl rfl rfl rfl (Nat.le_of_ble_eq_true rfl) dX5_look_2 h (fun r_1 h => ?_)
  refine e_if_ne (tgt := 9) hX dX5_look_5 (by decide) z_eq h (fun h => ?_) (fun h => ?_)
  · refine s_aload_n (k := 0) hX dX5_look_9 rfl rfl ?_
    refine s_get hX fX5_11 oC21 rfl dX5_look_10 ?_
    refine s_iconst (v := (nI 0)) hX dX5_look_13 (by decide) ?_
    refine s_iload_n (k := 3) hX dX5_look_14 rfl rfl ?_
    refine s_iastN hX aC22 (by decide) dX5_look_15 ?_
    refine e_bndM h (fun M_2 h => ?_)
    refine s_aload_n (k := 0) hX dX5_look_16 rfl rfl ?_
    refine s_get hX fX5_11 oC21 rfl dX5_look_17 ?_
    refine s_iconst (v := (nI 1)) hX dX5_look_20 (by decide) ?_
    refine s_aload_n (k := 1) hX dX5_look_21 rfl rfl ?_
    refine s_get hX fX5_63 (oF hb) rfl dX5_look_22 ?_
    refine s_iload_n (k := 3) hX dX5_look_25 rfl rfl ?_
    refine e_iald hX (aF1 hb) dX5_look_26 h (fun h => ?_)
    refine s_iastN hX aC22 (by decide) dX5_look_27 ?_
    refine e_bndM h (fun M_3 h => ?_)
    refine s_aload_n (k := 0) hX dX5_look_28 rfl rfl ?_
    refine s_get hX fX5_11 oC21 rfl dX5_look_29 ?_
    refine s_iconst (v := (nI 2)) hX dX5_look_32 (by decide) ?_
    refine s_aload_n (k := 1) hX dX5_look_33 rfl rfl ?_
    refine s_get hX fX5_66 (oF hb) rfl dX5_look_34 ?_
    refine s_iload_n (k := 3) hX dX5_look_37 rfl rfl ?_
    refine e_iald hX (aF2 hb) dX5_look_38 h (fun h => ?_)
    refine s_iastN hX aC22 (by decide) dX5_look_39 ?_
    refine e_bndM h (fun M_4 h => ?_)
    refine s_aload_n (k := 0) hX dX5_look_40 rfl rfl ?_
    refine s_get hX fX5_11 oC21 rfl dX5_look_41 ?_
    refine s_iconst (v := (nI 3)) hX dX5_look_44 (by decide) ?_
    refine s_aload_n (k := 1) hX dX5_look_45 rfl rfl ?_
    refine s_get hX fX5_69 (oF hb) rfl dX5_look_46 ?_
    refine s_iload_n (k := 3) hX dX5_look_49 rfl rfl ?_
    refine e_iald hX (aF3 hb) dX5_look_50 h (fun h => ?_)
    refine s_iastN hX aC22 (by decide) dX5_look_51 ?_
    refine e_bndM h (fun M_5 h => ?_)
    refine s_aload_n (k := 0) hX dX5_look_52 rfl rfl ?_
    refine s_get hX fX5_11 oC21 rfl dX5_look_53 ?_
    refine s_iconst (v := (nI 4)) hX dX5_look_56 (by decide) ?_
    refine s_aload_n (k := 1) hX dX5_look_57 rfl rfl ?_
    refine s_get hX fX5_56 (oF hb) rfl dX5_look_58 ?_
    refine s_iload_n (k := 3) hX dX5_look_61 rfl rfl ?_
    refine e_zald hX (aF5 hb) dX5_look_62 h (fun h => ?_)
    have j71 : ∀ (t0_71 : Int32), f_X5_look_L71 b c v3 M_5 t0_71 = some r0 → V X M_5 [(0, .ref (ad 21)), (1, .ref (ad b)), (2, .ref (ad c)), (3, .int v3)] [.int t0_71, .int (nI 4), .ref (ad 22)] 71 := by
      intro t0_71 h
      refine s_iastN hX aC22 (by decide) dX5_look_71 ?_
      refine e_bndM h (fun M_6 h => ?_)
      refine s_aload_n (k := 0) hX dX5_look_72 rfl rfl ?_
      refine s_get hX fX5_11 oC21 rfl dX5_look_73 ?_
      refine s_iconst (v := (nI 5)) hX dX5_look_76 (by decide) ?_
      refine s_aload_n (k := 2) hX dX5_look_77 rfl rfl ?_
      refine s_get hX fX5_72 (oL hc) rfl dX5_look_78 ?_
      have j93 : ∀ (t0_93 : Int32), f_X5_look_L93 b M_6 t0_93 = some r0 → V X M_6 [(0, .ref (ad 21)), (1, .ref (ad b))] [.int t0_93, .int (nI 5), .ref (ad 22)] 93 := by
        intro t0_93 h
        refine s_iastN hX aC22 (by decide) dX5_look_93 ?_
        refine e_bndM h (fun M_7 h => ?_)
        refine s_aload_n (k := 0) hX dX5_look_94 rfl rfl ?_
        refine s_get hX fX5_11 oC21 rfl dX5_look_95 ?_
        refine s_bipush (v := (nI 7)) hX dX5_look_98 (by decide) ?_
        refine s_aload_n (k := 1) hX dX5_look_100 rfl rfl ?_
        refine s_get hX fX5_22 (oF hb) rfl dX5_look_101 ?_
        refine s_bipush (v := (nI 100)) hX dX5_look_104 (by decide) ?_
        refine s_iremL hX dX5_look_106 (by decide) ?_
        refine s_iastN hX aC22 (by decide) dX5_look_107 ?_
        refine e_bndM h (fun M_8 h => ?_)
        exact e_vret hX hR dX5_look_108 h
      refine e_if_eq (tgt := 92) hX dX5_look_81 (by decide) z_eq h (fun h => ?_) (fun h => ?_)
      · refine s_iconst (v := (nI 0)) hX dX5_look_92 (by decide) ?_
        refine s_loc [0, 1] rfl ?_
        exact j93 (nI 0) h
      · refine s_aload_n (k := 1) hX dX5_look_84 rfl rfl ?_
        refine s_iload_n (k := 3) hX dX5_look_85 rfl rfl ?_
        refine e_callVp hX (t_X2_countClose b hb v3 M_6) mX2_countClose lX5_76 (by decide) (by decide) (oF hb) rfl rfl rfl rfl rfl (Nat.le_of_ble_eq_true rfl) dX5_look_86 h (fun r_9 h => ?_)
        refine s_goto (tgt := 93) hX dX5_look_89 (by decide) ?_
        refine s_loc [0, 1] rfl ?_
        exact j93 r_9 h
    refine e_if_eq (tgt := 70) hX dX5_look_63 (by decide) z_eq h (fun h => ?_) (fun h => ?_)
    · refine s_iconst (v := (nI 0)) hX dX5_look_70 (by decide) ?_
      exact j71 (nI 0) h
    · refine s_iconst (v := (nI 1)) hX dX5_look_66 (by decide) ?_
      refine s_goto (tgt := 71) hX dX5_look_67 (by decide) ?_
      exact j71 (nI 1) h
  · exact e_vret hX hR dX5_look_8 h
set_option maxHeartbeats 4000000 in
theorem t_X5_shift (b : Nat) (hb : isF b) (v2 : Int32) (v3 : Int32) (v4 : Int32) (M : Mem) : AXv yX5_shift cX5_shift 7 none 1 60 glC (fun ad => [.ref (ad 21), .ref (ad b), .int v2, .int v3, .int v4]) M (f_X5_shift b M v2 v3 v4) := by
  intro r0 h
  refine AM.of (by decide) (fun _ => Nat.le_of_ble_eq_true rfl) (fun X ad cI cZ cB hX hR => ?_)
  show V X M [(0, .ref (ad 21)), (1, .ref (ad b)), (2, .int v2), (3, .int v3), (4, .int v4)] [] 0
  refine s_aload_n (k := 1) hX dX5_shift_0 rfl rfl ?_
  refine s_iload_n (k := 2) hX dX5_shift_1 rfl rfl ?_
  refine e_callVp hX (t_X2_isTold b hb v2 M) mX2_isTold lX5_35 (by decide) (by decide) (oF hb) rfl rfl rfl rfl rfl (Nat.le_of_ble_eq_true rfl) dX5_shift_2 h (fun r_1 h => ?_)
  refine e_if_ne (tgt := 9) hX dX5_shift_5 (by decide) z_eq h (fun h => ?_) (fun h => ?_)
  · refine s_iconst (v := (nI 0)) hX dX5_shift_9 (by decide) ?_
    refine s_bipush (v := (nI 39)) hX dX5_shift_10 (by decide) ?_
    refine s_aload_n (k := 1) hX dX5_shift_12 rfl rfl ?_
    refine s_get hX fX5_63 (oF hb) rfl dX5_shift_13 ?_
    refine s_iload_n (k := 2) hX dX5_shift_16 rfl rfl ?_
    refine e_iald hX (aF1 hb) dX5_shift_17 h (fun h => ?_)
    refine s_iload_n (k := 3) hX dX5_shift_18 rfl rfl ?_
    refine s_iadd hX dX5_shift_19 ?_
    refine e_mmin hX lX5_80 mJ9_min (by omega) (Nat.le_of_ble_eq_true rfl) dX5_shift_20 ?_
    refine e_mmax hX lX5_86 mJ9_max (by omega) (Nat.le_of_ble_eq_true rfl) dX5_shift_23 ?_
    refine e_bnd h (fun x_2 h => ?_)
    refine s_istore (lv' := [(0, .ref (ad 21)), (1, .ref (ad b)), (2, .int v2), (3, .int v3), (4, .int v4), (5, .int x_2)]) hX dX5_shift_26 (by decide) rfl ?_
    refine s_iconst (v := (nI 1)) hX dX5_shift_28 (by decide) ?_
    refine s_bipush (v := (nI 20)) hX dX5_shift_29 (by decide) ?_
    refine s_aload_n (k := 1) hX dX5_shift_31 rfl rfl ?_
    refine s_get hX fX5_66 (oF hb) rfl dX5_shift_32 ?_
    refine s_iload_n (k := 2) hX dX5_shift_35 rfl rfl ?_
    refine e_iald hX (aF2 hb) dX5_shift_36 h (fun h => ?_)
    refine s_iload (k := 4) hX dX5_shift_37 rfl ?_
    refine s_iadd hX dX5_shift_39 ?_
    refine e_mmin hX lX5_80 mJ9_min (by omega) (Nat.le_of_ble_eq_true rfl) dX5_shift_40 ?_
    refine e_mmax hX lX5_86 mJ9_max (by omega) (Nat.le_of_ble_eq_true rfl) dX5_shift_43 ?_
    refine e_bnd h (fun x_3 h => ?_)
    refine s_istore (lv' := [(0, .ref (ad 21)), (1, .ref (ad b)), (2, .int v2), (3, .int v3), (4, .int v4), (5, .int x_2), (6, .int x_3)]) hX dX5_shift_46 (by decide) rfl ?_
    refine s_iload (k := 5) hX dX5_shift_48 rfl ?_
    refine s_aload_n (k := 1) hX dX5_shift_50 rfl rfl ?_
    refine s_get hX fX5_63 (oF hb) rfl dX5_shift_51 ?_
    refine s_iload_n (k := 2) hX dX5_shift_54 rfl rfl ?_
    refine e_iald hX (aF1 hb) dX5_shift_55 h (fun h => ?_)
    have j71 : f_X5_shift_L71 b M v2 x_2 x_3 = some r0 → V X M [(0, .ref (ad 21)), (1, .ref (ad b)), (2, .int v2), (5, .int x_2), (6, .int x_3)] [] 71 := by
      intro  h
      refine s_aload_n (k := 1) hX dX5_shift_71 rfl rfl ?_
      refine s_iload (k := 3) hX dX5_shift_72 rfl ?_
      refine s_iload (k := 4) hX dX5_shift_74 rfl ?_
      refine e_callVp hX (t_X2_stoneAt b hb x_2 x_3 M) mX2_stoneAt lX5_89 (by decide) (by decide) (oF hb) rfl rfl rfl rfl rfl (Nat.le_of_ble_eq_true rfl) dX5_shift_76 h (fun r_4 h => ?_)
      refine s_iconst (v := (-1)) hX dX5_shift_79 (by decide) ?_
      refine e_icmp_eq (tgt := 94) hX dX5_shift_80 (by decide) (m_eq (by decide +kernel)) h (fun h => ?_) (fun h => ?_)
      · refine s_aload_n (k := 1) hX dX5_shift_94 rfl rfl ?_
        refine s_get hX fX5_63 (oF hb) rfl dX5_shift_95 ?_
        refine s_iload_n (k := 2) hX dX5_shift_98 rfl rfl ?_
        refine s_iload (k := 3) hX dX5_shift_99 rfl ?_
        refine e_iast hX (aF1 hb) dX5_shift_101 h (fun h => ?_)
        refine e_bndM h (fun M_5 h => ?_)
        refine s_aload_n (k := 1) hX dX5_shift_102 rfl rfl ?_
        refine s_get hX fX5_66 (oF hb) rfl dX5_shift_103 ?_
        refine s_iload_n (k := 2) hX dX5_shift_106 rfl rfl ?_
        refine s_iload (k := 4) hX dX5_shift_107 rfl ?_
        refine e_iast hX (aF2 hb) dX5_shift_109 h (fun h => ?_)
        refine e_bndM h (fun M_6 h => ?_)
        refine s_aload_n (k := 0) hX dX5_shift_110 rfl rfl ?_
        refine s_dup hX dX5_shift_111 rfl ?_
        refine s_get hX fX5_15 oC21 rfl dX5_shift_112 ?_
        refine s_iconst (v := (nI 1)) hX dX5_shift_115 (by decide) ?_
        refine s_iadd hX dX5_shift_116 ?_
        refine s_puti (ty := .int) hX fX5_15 oC21 rfl (Nat.le_of_ble_eq_true rfl) ty_5_1 rfl rfl dX5_shift_117 ?_
        refine e_bndM h (fun M_7 h => ?_)
        exact e_vret hX hR dX5_shift_120 h
      · refine s_aload_n (k := 0) hX dX5_shift_83 rfl rfl ?_
        refine s_dup hX dX5_shift_84 rfl ?_
        refine s_get hX fX5_19 oC21 rfl dX5_shift_85 ?_
        refine s_iconst (v := (nI 1)) hX dX5_shift_88 (by decide) ?_
        refine s_iadd hX dX5_shift_89 ?_
        refine s_puti (ty := .int) hX fX5_19 oC21 rfl (Nat.le_of_ble_eq_true rfl) ty_5_2 rfl rfl dX5_shift_90 ?_
        refine e_bndM h (fun M_8 h => ?_)
        exact e_vret hX hR dX5_shift_93 h
    refine e_icmp_ne (tgt := 71) hX dX5_shift_56 (by decide) r_eq h (fun h => ?_) (fun h => ?_)
    · refine s_loc [0, 1, 2, 5, 6] rfl ?_
      exact j71 h
    · refine s_iload (k := 6) hX dX5_shift_59 rfl ?_
      refine s_aload_n (k := 1) hX dX5_shift_61 rfl rfl ?_
      refine s_get hX fX5_66 (oF hb) rfl dX5_shift_62 ?_
      refine s_iload_n (k := 2) hX dX5_shift_65 rfl rfl ?_
      refine e_iald hX (aF2 hb) dX5_shift_66 h (fun h => ?_)
      refine e_icmp_ne (tgt := 71) hX dX5_shift_67 (by decide) r_eq h (fun h => ?_) (fun h => ?_)
      · refine s_loc [0, 1, 2, 5, 6] rfl ?_
        exact j71 h
      · exact e_vret hX hR dX5_shift_70 h
  · exact e_vret hX hR dX5_shift_8 h
