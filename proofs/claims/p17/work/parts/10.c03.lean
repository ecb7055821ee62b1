theorem dX3_compileSum_0 : decode cX3_compileSum 0 = .ok (.iconst 0, 1) := by decide +kernel
theorem dX3_compileSum_1 : decode cX3_compileSum 1 = .ok (.istore_n 3, 1) := by decide +kernel
theorem dX3_compileSum_2 : decode cX3_compileSum 2 = .ok (.iconst 0, 1) := by decide +kernel
theorem dX3_compileSum_3 : decode cX3_compileSum 3 = .ok (.istore 4, 2) := by decide +kernel
theorem dX3_compileSum_5 : decode cX3_compileSum 5 = .ok (.iconst 0, 1) := by decide +kernel
theorem dX3_compileSum_6 : decode cX3_compileSum 6 = .ok (.istore 5, 2) := by decide +kernel
theorem dX3_compileSum_8 : decode cX3_compileSum 8 = .ok (.iload 5, 2) := by decide +kernel
theorem dX3_compileSum_10 : decode cX3_compileSum 10 = .ok (.sipush 240, 3) := by decide +kernel
theorem dX3_compileSum_13 : decode cX3_compileSum 13 = .ok (.if_icmp .ge 111, 3) := by decide +kernel
theorem dX3_compileSum_16 : decode cX3_compileSum 16 = .ok (.aload_n 0, 1) := by decide +kernel
theorem dX3_compileSum_17 : decode cX3_compileSum 17 = .ok (.aload_n 1, 1) := by decide +kernel
theorem dX3_compileSum_18 : decode cX3_compileSum 18 = .ok (.iload_n 2, 1) := by decide +kernel
theorem dX3_compileSum_19 : decode cX3_compileSum 19 = .ok (.invokevirtual 85, 3) := by decide +kernel
theorem dX3_compileSum_22 : decode cX3_compileSum 22 = .ok (.ifCond .ne 5, 3) := by decide +kernel
theorem dX3_compileSum_25 : decode cX3_compileSum 25 = .ok (.iconst 0, 1) := by decide +kernel
theorem dX3_compileSum_26 : decode cX3_compileSum 26 = .ok (.ireturn, 1) := by decide +kernel
theorem dX3_compileSum_27 : decode cX3_compileSum 27 = .ok (.iload 4, 2) := by decide +kernel
theorem dX3_compileSum_29 : decode cX3_compileSum 29 = .ok (.ifCond .eq 10, 3) := by decide +kernel
theorem dX3_compileSum_32 : decode cX3_compileSum 32 = .ok (.aload_n 0, 1) := by decide +kernel
theorem dX3_compileSum_33 : decode cX3_compileSum 33 = .ok (.iload 4, 2) := by decide +kernel
theorem dX3_compileSum_35 : decode cX3_compileSum 35 = .ok (.iconst 0, 1) := by decide +kernel
theorem dX3_compileSum_36 : decode cX3_compileSum 36 = .ok (.invokevirtual 81, 3) := by decide +kernel
theorem dX3_compileSum_39 : decode cX3_compileSum 39 = .ok (.aload_n 1, 1) := by decide +kernel
theorem dX3_compileSum_40 : decode cX3_compileSum 40 = .ok (.invokevirtual 44, 3) := by decide +kernel
theorem dX3_compileSum_43 : decode cX3_compileSum 43 = .ok (.istore 6, 2) := by decide +kernel
theorem dX3_compileSum_45 : decode cX3_compileSum 45 = .ok (.iload 6, 2) := by decide +kernel
theorem dX3_compileSum_47 : decode cX3_compileSum 47 = .ok (.bipush 42, 2) := by decide +kernel
theorem dX3_compileSum_49 : decode cX3_compileSum 49 = .ok (.if_icmp .eq 17, 3) := by decide +kernel
theorem dX3_compileSum_52 : decode cX3_compileSum 52 = .ok (.iload 6, 2) := by decide +kernel
theorem dX3_compileSum_54 : decode cX3_compileSum 54 = .ok (.bipush 47, 2) := by decide +kernel
theorem dX3_compileSum_56 : decode cX3_compileSum 56 = .ok (.if_icmp .eq 10, 3) := by decide +kernel
theorem dX3_compileSum_59 : decode cX3_compileSum 59 = .ok (.iload 6, 2) := by decide +kernel
theorem dX3_compileSum_61 : decode cX3_compileSum 61 = .ok (.bipush 37, 2) := by decide +kernel
theorem dX3_compileSum_63 : decode cX3_compileSum 63 = .ok (.if_icmp .ne 8, 3) := by decide +kernel
theorem dX3_compileSum_66 : decode cX3_compileSum 66 = .ok (.iload 6, 2) := by decide +kernel
theorem dX3_compileSum_68 : decode cX3_compileSum 68 = .ok (.goto 4, 3) := by decide +kernel
theorem dX3_compileSum_71 : decode cX3_compileSum 71 = .ok (.iconst 0, 1) := by decide +kernel
theorem dX3_compileSum_72 : decode cX3_compileSum 72 = .ok (.istore 4, 2) := by decide +kernel
theorem dX3_compileSum_74 : decode cX3_compileSum 74 = .ok (.iload 4, 2) := by decide +kernel
theorem dX3_compileSum_76 : decode cX3_compileSum 76 = .ok (.ifCond .ne 32, 3) := by decide +kernel
theorem dX3_compileSum_79 : decode cX3_compileSum 79 = .ok (.iload_n 3, 1) := by decide +kernel
theorem dX3_compileSum_80 : decode cX3_compileSum 80 = .ok (.ifCond .eq 9, 3) := by decide +kernel
theorem dX3_compileSum_83 : decode cX3_compileSum 83 = .ok (.aload_n 0, 1) := by decide +kernel
theorem dX3_compileSum_84 : decode cX3_compileSum 84 = .ok (.iload_n 3, 1) := by decide +kernel
theorem dX3_compileSum_85 : decode cX3_compileSum 85 = .ok (.iconst 0, 1) := by decide +kernel
theorem dX3_compileSum_86 : decode cX3_compileSum 86 = .ok (.invokevirtual 81, 3) := by decide +kernel
theorem dX3_compileSum_89 : decode cX3_compileSum 89 = .ok (.iload 6, 2) := by decide +kernel
theorem dX3_compileSum_91 : decode cX3_compileSum 91 = .ok (.bipush 43, 2) := by decide +kernel
theorem dX3_compileSum_93 : decode cX3_compileSum 93 = .ok (.if_icmp .eq 12, 3) := by decide +kernel
theorem dX3_compileSum_96 : decode cX3_compileSum 96 = .ok (.iload 6, 2) := by decide +kernel
theorem dX3_compileSum_98 : decode cX3_compileSum 98 = .ok (.bipush 45, 2) := by decide +kernel
theorem dX3_compileSum_100 : decode cX3_compileSum 100 = .ok (.if_icmp .eq 5, 3) := by decide +kernel
theorem dX3_compileSum_103 : decode cX3_compileSum 103 = .ok (.iconst 1, 1) := by decide +kernel
theorem dX3_compileSum_104 : decode cX3_compileSum 104 = .ok (.ireturn, 1) := by decide +kernel
theorem dX3_compileSum_105 : decode cX3_compileSum 105 = .ok (.iload 6, 2) := by decide +kernel
theorem dX3_compileSum_107 : decode cX3_compileSum 107 = .ok (.istore_n 3, 1) := by decide +kernel
theorem dX3_compileSum_108 : decode cX3_compileSum 108 = .ok (.aload_n 1, 1) := by decide +kernel
theorem dX3_compileSum_109 : decode cX3_compileSum 109 = .ok (.dup, 1) := by decide +kernel
theorem dX3_compileSum_110 : decode cX3_compileSum 110 = .ok (.getfield 54, 3) := by decide +kernel
theorem dX3_compileSum_113 : decode cX3_compileSum 113 = .ok (.iconst 1, 1) := by decide +kernel
theorem dX3_compileSum_114 : decode cX3_compileSum 114 = .ok (.iadd, 1) := by decide +kernel
theorem dX3_compileSum_115 : decode cX3_compileSum 115 = .ok (.putfield 54, 3) := by decide +kernel
theorem dX3_compileSum_118 : decode cX3_compileSum 118 = .ok (.iinc 5 1, 3) := by decide +kernel
theorem dX3_compileSum_121 : decode cX3_compileSum 121 = .ok (.goto (-113), 3) := by decide +kernel
theorem dX3_compileSum_124 : decode cX3_compileSum 124 = .ok (.aload_n 1, 1) := by decide +kernel
theorem dX3_compileSum_125 : decode cX3_compileSum 125 = .ok (.iconst 1, 1) := by decide +kernel
theorem dX3_compileSum_126 : decode cX3_compileSum 126 = .ok (.aload_n 1, 1) := by decide +kernel
theorem dX3_compileSum_127 : decode cX3_compileSum 127 = .ok (.getfield 54, 3) := by decide +kernel
theorem dX3_compileSum_130 : decode cX3_compileSum 130 = .ok (.invokevirtual 57, 3) := by decide +kernel
theorem dX3_compileSum_133 : decode cX3_compileSum 133 = .ok (.ireturn, 1) := by decide +kernel
theorem dX3_compileFactor_0 : decode cX3_compileFactor 0 = .ok (.aload_n 1, 1) := by decide +kernel
theorem dX3_compileFactor_1 : decode cX3_compileFactor 1 = .ok (.invokevirtual 44, 3) := by decide +kernel
theorem dX3_compileFactor_4 : decode cX3_compileFactor 4 = .ok (.istore_n 3, 1) := by decide +kernel
theorem dX3_compileFactor_5 : decode cX3_compileFactor 5 = .ok (.iload_n 3, 1) := by decide +kernel
theorem dX3_compileFactor_6 : decode cX3_compileFactor 6 = .ok (.bipush 91, 2) := by decide +kernel
theorem dX3_compileFactor_8 : decode cX3_compileFactor 8 = .ok (.if_icmp .ne 55, 3) := by decide +kernel
theorem dX3_compileFactor_11 : decode cX3_compileFactor 11 = .ok (.iload_n 2, 1) := by decide +kernel
theorem dX3_compileFactor_12 : decode cX3_compileFactor 12 = .ok (.bipush 6, 2) := by decide +kernel
theorem dX3_compileFactor_14 : decode cX3_compileFactor 14 = .ok (.if_icmp .lt 13, 3) := by decide +kernel
theorem dX3_compileFactor_17 : decode cX3_compileFactor 17 = .ok (.aload_n 1, 1) := by decide +kernel
theorem dX3_compileFactor_18 : decode cX3_compileFactor 18 = .ok (.iconst 5, 1) := by decide +kernel
theorem dX3_compileFactor_19 : decode cX3_compileFactor 19 = .ok (.aload_n 1, 1) := by decide +kernel
theorem dX3_compileFactor_20 : decode cX3_compileFactor 20 = .ok (.getfield 54, 3) := by decide +kernel
theorem dX3_compileFactor_23 : decode cX3_compileFactor 23 = .ok (.invokevirtual 57, 3) := by decide +kernel
theorem dX3_compileFactor_26 : decode cX3_compileFactor 26 = .ok (.ireturn, 1) := by decide +kernel
theorem dX3_compileFactor_27 : decode cX3_compileFactor 27 = .ok (.aload_n 1, 1) := by decide +kernel
theorem dX3_compileFactor_28 : decode cX3_compileFactor 28 = .ok (.dup, 1) := by decide +kernel
theorem dX3_compileFactor_29 : decode cX3_compileFactor 29 = .ok (.getfield 54, 3) := by decide +kernel
theorem dX3_compileFactor_32 : decode cX3_compileFactor 32 = .ok (.iconst 1, 1) := by decide +kernel
theorem dX3_compileFactor_33 : decode cX3_compileFactor 33 = .ok (.iadd, 1) := by decide +kernel
theorem dX3_compileFactor_34 : decode cX3_compileFactor 34 = .ok (.putfield 54, 3) := by decide +kernel
theorem dX3_compileFactor_37 : decode cX3_compileFactor 37 = .ok (.aload_n 0, 1) := by decide +kernel
theorem dX3_compileFactor_38 : decode cX3_compileFactor 38 = .ok (.aload_n 1, 1) := by decide +kernel
theorem dX3_compileFactor_39 : decode cX3_compileFactor 39 = .ok (.iload_n 2, 1) := by decide +kernel
theorem dX3_compileFactor_40 : decode cX3_compileFactor 40 = .ok (.iconst 1, 1) := by decide +kernel
theorem dX3_compileFactor_41 : decode cX3_compileFactor 41 = .ok (.iadd, 1) := by decide +kernel
theorem dX3_compileFactor_42 : decode cX3_compileFactor 42 = .ok (.invokevirtual 64, 3) := by decide +kernel
theorem dX3_compileFactor_45 : decode cX3_compileFactor 45 = .ok (.ifCond .eq 16, 3) := by decide +kernel
theorem dX3_compileFactor_48 : decode cX3_compileFactor 48 = .ok (.aload_n 1, 1) := by decide +kernel
theorem dX3_compileFactor_49 : decode cX3_compileFactor 49 = .ok (.bipush 93, 2) := by decide +kernel
theorem dX3_compileFactor_51 : decode cX3_compileFactor 51 = .ok (.invokevirtual 68, 3) := by decide +kernel
theorem dX3_compileFactor_54 : decode cX3_compileFactor 54 = .ok (.ifCond .eq 7, 3) := by decide +kernel
theorem dX3_compileFactor_57 : decode cX3_compileFactor 57 = .ok (.iconst 1, 1) := by decide +kernel
theorem dX3_compileFactor_58 : decode cX3_compileFactor 58 = .ok (.goto 4, 3) := by decide +kernel
theorem dX3_compileFactor_61 : decode cX3_compileFactor 61 = .ok (.iconst 0, 1) := by decide +kernel
theorem dX3_compileFactor_62 : decode cX3_compileFactor 62 = .ok (.ireturn, 1) := by decide +kernel
theorem dX3_compileFactor_63 : decode cX3_compileFactor 63 = .ok (.iload_n 3, 1) := by decide +kernel
theorem dX3_compileFactor_64 : decode cX3_compileFactor 64 = .ok (.invokestatic 88, 3) := by decide +kernel
theorem dX3_compileFactor_67 : decode cX3_compileFactor 67 = .ok (.ifCond .eq 30, 3) := by decide +kernel
theorem dX3_compileFactor_70 : decode cX3_compileFactor 70 = .ok (.aload_n 1, 1) := by decide +kernel
theorem dX3_compileFactor_71 : decode cX3_compileFactor 71 = .ok (.iconst 5, 1) := by decide +kernel
theorem dX3_compileFactor_72 : decode cX3_compileFactor 72 = .ok (.invokevirtual 91, 3) := by decide +kernel
theorem dX3_compileFactor_75 : decode cX3_compileFactor 75 = .ok (.istore 4, 2) := by decide +kernel
theorem dX3_compileFactor_77 : decode cX3_compileFactor 77 = .ok (.aload_n 0, 1) := by decide +kernel
theorem dX3_compileFactor_78 : decode cX3_compileFactor 78 = .ok (.bipush 48, 2) := by decide +kernel
theorem dX3_compileFactor_80 : decode cX3_compileFactor 80 = .ok (.iload 4, 2) := by decide +kernel
theorem dX3_compileFactor_82 : decode cX3_compileFactor 82 = .ok (.invokevirtual 81, 3) := by decide +kernel
theorem dX3_compileFactor_85 : decode cX3_compileFactor 85 = .ok (.iload 4, 2) := by decide +kernel
theorem dX3_compileFactor_87 : decode cX3_compileFactor 87 = .ok (.iconst (-1), 1) := by decide +kernel
theorem dX3_compileFactor_88 : decode cX3_compileFactor 88 = .ok (.if_icmp .eq 7, 3) := by decide +kernel
theorem dX3_compileFactor_91 : decode cX3_compileFactor 91 = .ok (.iconst 1, 1) := by decide +kernel
theorem dX3_compileFactor_92 : decode cX3_compileFactor 92 = .ok (.goto 4, 3) := by decide +kernel
theorem dX3_compileFactor_95 : decode cX3_compileFactor 95 = .ok (.iconst 0, 1) := by decide +kernel
theorem dX3_compileFactor_96 : decode cX3_compileFactor 96 = .ok (.ireturn, 1) := by decide +kernel
theorem dX3_compileFactor_97 : decode cX3_compileFactor 97 = .ok (.iload_n 3, 1) := by decide +kernel
theorem dX3_compileFactor_98 : decode cX3_compileFactor 98 = .ok (.invokestatic 95, 3) := by decide +kernel
theorem dX3_compileFactor_101 : decode cX3_compileFactor 101 = .ok (.istore 4, 2) := by decide +kernel
theorem dX3_compileFactor_103 : decode cX3_compileFactor 103 = .ok (.iload 4, 2) := by decide +kernel
theorem dX3_compileFactor_105 : decode cX3_compileFactor 105 = .ok (.iconst (-1), 1) := by decide +kernel
theorem dX3_compileFactor_106 : decode cX3_compileFactor 106 = .ok (.if_icmp .ne 13, 3) := by decide +kernel
theorem dX3_compileFactor_109 : decode cX3_compileFactor 109 = .ok (.aload_n 1, 1) := by decide +kernel
theorem dX3_compileFactor_110 : decode cX3_compileFactor 110 = .ok (.iconst 1, 1) := by decide +kernel
theorem dX3_compileFactor_111 : decode cX3_compileFactor 111 = .ok (.aload_n 1, 1) := by decide +kernel
theorem dX3_compileFactor_112 : decode cX3_compileFactor 112 = .ok (.getfield 54, 3) := by decide +kernel
theorem dX3_compileFactor_115 : decode cX3_compileFactor 115 = .ok (.invokevirtual 57, 3) := by decide +kernel
theorem dX3_compileFactor_118 : decode cX3_compileFactor 118 = .ok (.ireturn, 1) := by decide +kernel
theorem dX3_compileFactor_119 : decode cX3_compileFactor 119 = .ok (.aload_n 0, 1) := by decide +kernel
theorem dX3_compileFactor_120 : decode cX3_compileFactor 120 = .ok (.dup, 1) := by decide +kernel
theorem dX3_compileFactor_121 : decode cX3_compileFactor 121 = .ok (.getfield 40, 3) := by decide +kernel
theorem dX3_compileFactor_124 : decode cX3_compileFactor 124 = .ok (.iload 4, 2) := by decide +kernel
theorem dX3_compileFactor_126 : decode cX3_compileFactor 126 = .ok (.iconst 5, 1) := by decide +kernel
theorem dX3_compileFactor_127 : decode cX3_compileFactor 127 = .ok (.if_icmp .ne 7, 3) := by decide +kernel
theorem dX3_compileFactor_130 : decode cX3_compileFactor 130 = .ok (.iconst 1, 1) := by decide +kernel
theorem dX3_compileFactor_131 : decode cX3_compileFactor 131 = .ok (.goto 4, 3) := by decide +kernel
theorem dX3_compileFactor_134 : decode cX3_compileFactor 134 = .ok (.iconst 0, 1) := by decide +kernel
theorem dX3_compileFactor_135 : decode cX3_compileFactor 135 = .ok (.ior, 1) := by decide +kernel
theorem dX3_compileFactor_136 : decode cX3_compileFactor 136 = .ok (.putfield 40, 3) := by decide +kernel
theorem dX3_compileFactor_139 : decode cX3_compileFactor 139 = .ok (.aload_n 1, 1) := by decide +kernel
theorem dX3_compileFactor_140 : decode cX3_compileFactor 140 = .ok (.dup, 1) := by decide +kernel
theorem dX3_compileFactor_141 : decode cX3_compileFactor 141 = .ok (.getfield 54, 3) := by decide +kernel
theorem dX3_compileFactor_144 : decode cX3_compileFactor 144 = .ok (.iconst 1, 1) := by decide +kernel
theorem dX3_compileFactor_145 : decode cX3_compileFactor 145 = .ok (.iadd, 1) := by decide +kernel
theorem dX3_compileFactor_146 : decode cX3_compileFactor 146 = .ok (.putfield 54, 3) := by decide +kernel
theorem dX3_compileFactor_149 : decode cX3_compileFactor 149 = .ok (.aload_n 0, 1) := by decide +kernel
theorem dX3_compileFactor_150 : decode cX3_compileFactor 150 = .ok (.bipush 97, 2) := by decide +kernel
theorem dX3_compileFactor_152 : decode cX3_compileFactor 152 = .ok (.iload 4, 2) := by decide +kernel
theorem dX3_compileFactor_154 : decode cX3_compileFactor 154 = .ok (.invokevirtual 81, 3) := by decide +kernel
theorem dX3_compileFactor_157 : decode cX3_compileFactor 157 = .ok (.iconst 1, 1) := by decide +kernel
theorem dX3_compileFactor_158 : decode cX3_compileFactor 158 = .ok (.ireturn, 1) := by decide +kernel
theorem dX3_landHere_0 : decode cX3_landHere 0 = .ok (.iload_n 1, 1) := by decide +kernel
theorem dX3_landHere_1 : decode cX3_landHere 1 = .ok (.ifCond .lt 28, 3) := by decide +kernel
theorem dX3_landHere_4 : decode cX3_landHere 4 = .ok (.iload_n 1, 1) := by decide +kernel
theorem dX3_landHere_5 : decode cX3_landHere 5 = .ok (.aload_n 0, 1) := by decide +kernel
theorem dX3_landHere_6 : decode cX3_landHere 6 = .ok (.getfield 33, 3) := by decide +kernel
theorem dX3_landHere_9 : decode cX3_landHere 9 = .ok (.if_icmp .ge 20, 3) := by decide +kernel
theorem dX3_landHere_12 : decode cX3_landHere 12 = .ok (.iload_n 1, 1) := by decide +kernel
theorem dX3_landHere_13 : decode cX3_landHere 13 = .ok (.sipush 240, 3) := by decide +kernel
theorem dX3_landHere_16 : decode cX3_landHere 16 = .ok (.if_icmp .ge 13, 3) := by decide +kernel
theorem dX3_landHere_19 : decode cX3_landHere 19 = .ok (.aload_n 0, 1) := by decide +kernel
theorem dX3_landHere_20 : decode cX3_landHere 20 = .ok (.getfield 15, 3) := by decide +kernel
theorem dX3_landHere_23 : decode cX3_landHere 23 = .ok (.iload_n 1, 1) := by decide +kernel
theorem dX3_landHere_24 : decode cX3_landHere 24 = .ok (.aload_n 0, 1) := by decide +kernel
theorem dX3_landHere_25 : decode cX3_landHere 25 = .ok (.getfield 33, 3) := by decide +kernel
theorem dX3_landHere_28 : decode cX3_landHere 28 = .ok (.iastore, 1) := by decide +kernel
theorem dX3_landHere_29 : decode cX3_landHere 29 = .ok (.return_, 1) := by decide +kernel
theorem dX3_compileChoice_0 : decode cX3_compileChoice 0 = .ok (.iconst (-1), 1) := by decide +kernel
theorem dX3_compileChoice_1 : decode cX3_compileChoice 1 = .ok (.istore_n 3, 1) := by decide +kernel
theorem dX3_compileChoice_2 : decode cX3_compileChoice 2 = .ok (.iconst (-1), 1) := by decide +kernel
theorem dX3_compileChoice_3 : decode cX3_compileChoice 3 = .ok (.istore 4, 2) := by decide +kernel
theorem dX3_compileChoice_5 : decode cX3_compileChoice 5 = .ok (.iconst 0, 1) := by decide +kernel
theorem dX3_compileChoice_6 : decode cX3_compileChoice 6 = .ok (.istore 5, 2) := by decide +kernel
theorem dX3_compileChoice_8 : decode cX3_compileChoice 8 = .ok (.iload 5, 2) := by decide +kernel
theorem dX3_compileChoice_10 : decode cX3_compileChoice 10 = .ok (.sipush 240, 3) := by decide +kernel
theorem dX3_compileChoice_13 : decode cX3_compileChoice 13 = .ok (.if_icmp .ge 86, 3) := by decide +kernel
theorem dX3_compileChoice_16 : decode cX3_compileChoice 16 = .ok (.aload_n 0, 1) := by decide +kernel
theorem dX3_compileChoice_17 : decode cX3_compileChoice 17 = .ok (.aload_n 1, 1) := by decide +kernel
theorem dX3_compileChoice_18 : decode cX3_compileChoice 18 = .ok (.iload_n 2, 1) := by decide +kernel
theorem dX3_compileChoice_19 : decode cX3_compileChoice 19 = .ok (.invokevirtual 74, 3) := by decide +kernel
theorem dX3_compileChoice_22 : decode cX3_compileChoice 22 = .ok (.ifCond .ne 5, 3) := by decide +kernel
theorem dX3_compileChoice_25 : decode cX3_compileChoice 25 = .ok (.iconst 0, 1) := by decide +kernel
theorem dX3_compileChoice_26 : decode cX3_compileChoice 26 = .ok (.ireturn, 1) := by decide +kernel
theorem dX3_compileChoice_27 : decode cX3_compileChoice 27 = .ok (.aload_n 0, 1) := by decide +kernel
theorem dX3_compileChoice_28 : decode cX3_compileChoice 28 = .ok (.iload_n 3, 1) := by decide +kernel
theorem dX3_compileChoice_29 : decode cX3_compileChoice 29 = .ok (.invokevirtual 77, 3) := by decide +kernel
theorem dX3_compileChoice_32 : decode cX3_compileChoice 32 = .ok (.iconst (-1), 1) := by decide +kernel
theorem dX3_compileChoice_33 : decode cX3_compileChoice 33 = .ok (.istore_n 3, 1) := by decide +kernel
theorem dX3_compileChoice_34 : decode cX3_compileChoice 34 = .ok (.aload_n 1, 1) := by decide +kernel
theorem dX3_compileChoice_35 : decode cX3_compileChoice 35 = .ok (.invokevirtual 44, 3) := by decide +kernel
theorem dX3_compileChoice_38 : decode cX3_compileChoice 38 = .ok (.istore 6, 2) := by decide +kernel
theorem dX3_compileChoice_40 : decode cX3_compileChoice 40 = .ok (.iload 6, 2) := by decide +kernel
theorem dX3_compileChoice_42 : decode cX3_compileChoice 42 = .ok (.bipush 38, 2) := by decide +kernel
theorem dX3_compileChoice_44 : decode cX3_compileChoice 44 = .ok (.if_icmp .ne 11, 3) := by decide +kernel
theorem dX3_compileChoice_47 : decode cX3_compileChoice 47 = .ok (.aload_n 0, 1) := by decide +kernel
theorem dX3_compileChoice_48 : decode cX3_compileChoice 48 = .ok (.getfield 33, 3) := by decide +kernel
theorem dX3_compileChoice_51 : decode cX3_compileChoice 51 = .ok (.istore_n 3, 1) := by decide +kernel
theorem dX3_compileChoice_52 : decode cX3_compileChoice 52 = .ok (.goto 24, 3) := by decide +kernel
theorem dX3_compileChoice_55 : decode cX3_compileChoice 55 = .ok (.aload_n 0, 1) := by decide +kernel
theorem dX3_compileChoice_56 : decode cX3_compileChoice 56 = .ok (.iload 4, 2) := by decide +kernel
theorem dX3_compileChoice_58 : decode cX3_compileChoice 58 = .ok (.invokevirtual 77, 3) := by decide +kernel
theorem dX3_compileChoice_61 : decode cX3_compileChoice 61 = .ok (.aload_n 0, 1) := by decide +kernel
theorem dX3_compileChoice_62 : decode cX3_compileChoice 62 = .ok (.getfield 33, 3) := by decide +kernel
theorem dX3_compileChoice_65 : decode cX3_compileChoice 65 = .ok (.istore 4, 2) := by decide +kernel
theorem dX3_compileChoice_67 : decode cX3_compileChoice 67 = .ok (.iload 6, 2) := by decide +kernel
theorem dX3_compileChoice_69 : decode cX3_compileChoice 69 = .ok (.bipush 124, 2) := by decide +kernel
theorem dX3_compileChoice_71 : decode cX3_compileChoice 71 = .ok (.if_icmp .eq 5, 3) := by decide +kernel
theorem dX3_compileChoice_74 : decode cX3_compileChoice 74 = .ok (.iconst 1, 1) := by decide +kernel
theorem dX3_compileChoice_75 : decode cX3_compileChoice 75 = .ok (.ireturn, 1) := by decide +kernel
theorem dX3_compileChoice_76 : decode cX3_compileChoice 76 = .ok (.aload_n 0, 1) := by decide +kernel
theorem dX3_compileChoice_77 : decode cX3_compileChoice 77 = .ok (.iload 6, 2) := by decide +kernel
theorem dX3_compileChoice_79 : decode cX3_compileChoice 79 = .ok (.iconst 0, 1) := by decide +kernel
theorem dX3_compileChoice_80 : decode cX3_compileChoice 80 = .ok (.invokevirtual 81, 3) := by decide +kernel
theorem dX3_compileChoice_83 : decode cX3_compileChoice 83 = .ok (.aload_n 1, 1) := by decide +kernel
theorem dX3_compileChoice_84 : decode cX3_compileChoice 84 = .ok (.dup, 1) := by decide +kernel
theorem dX3_compileChoice_85 : decode cX3_compileChoice 85 = .ok (.getfield 54, 3) := by decide +kernel
theorem dX3_compileChoice_88 : decode cX3_compileChoice 88 = .ok (.iconst 1, 1) := by decide +kernel
theorem dX3_compileChoice_89 : decode cX3_compileChoice 89 = .ok (.iadd, 1) := by decide +kernel
theorem dX3_compileChoice_90 : decode cX3_compileChoice 90 = .ok (.putfield 54, 3) := by decide +kernel
theorem dX3_compileChoice_93 : decode cX3_compileChoice 93 = .ok (.iinc 5 1, 3) := by decide +kernel
theorem dX3_compileChoice_96 : decode cX3_compileChoice 96 = .ok (.goto (-88), 3) := by decide +kernel
theorem dX3_compileChoice_99 : decode cX3_compileChoice 99 = .ok (.aload_n 1, 1) := by decide +kernel
theorem dX3_compileChoice_100 : decode cX3_compileChoice 100 = .ok (.iconst 1, 1) := by decide +kernel
theorem dX3_compileChoice_101 : decode cX3_compileChoice 101 = .ok (.aload_n 1, 1) := by decide +kernel
theorem dX3_compileChoice_102 : decode cX3_compileChoice 102 = .ok (.getfield 54, 3) := by decide +kernel
theorem dX3_compileChoice_105 : decode cX3_compileChoice 105 = .ok (.invokevirtual 57, 3) := by decide +kernel
theorem dX3_compileChoice_108 : decode cX3_compileChoice 108 = .ok (.ireturn, 1) := by decide +kernel
theorem dX3_compileTest_0 : decode cX3_compileTest 0 = .ok (.aload_n 1, 1) := by decide +kernel
theorem dX3_compileTest_1 : decode cX3_compileTest 1 = .ok (.invokevirtual 44, 3) := by decide +kernel
theorem dX3_compileTest_4 : decode cX3_compileTest 4 = .ok (.istore_n 3, 1) := by decide +kernel
theorem dX3_compileTest_5 : decode cX3_compileTest 5 = .ok (.iload_n 3, 1) := by decide +kernel
theorem dX3_compileTest_6 : decode cX3_compileTest 6 = .ok (.bipush 33, 2) := by decide +kernel
theorem dX3_compileTest_8 : decode cX3_compileTest 8 = .ok (.if_icmp .eq 9, 3) := by decide +kernel
theorem dX3_compileTest_11 : decode cX3_compileTest 11 = .ok (.iload_n 3, 1) := by decide +kernel
theorem dX3_compileTest_12 : decode cX3_compileTest 12 = .ok (.bipush 40, 2) := by decide +kernel
theorem dX3_compileTest_14 : decode cX3_compileTest 14 = .ok (.if_icmp .ne 83, 3) := by decide +kernel
theorem dX3_compileTest_17 : decode cX3_compileTest 17 = .ok (.iload_n 2, 1) := by decide +kernel
theorem dX3_compileTest_18 : decode cX3_compileTest 18 = .ok (.bipush 6, 2) := by decide +kernel
theorem dX3_compileTest_20 : decode cX3_compileTest 20 = .ok (.if_icmp .lt 13, 3) := by decide +kernel
theorem dX3_compileTest_23 : decode cX3_compileTest 23 = .ok (.aload_n 1, 1) := by decide +kernel
theorem dX3_compileTest_24 : decode cX3_compileTest 24 = .ok (.iconst 5, 1) := by decide +kernel
theorem dX3_compileTest_25 : decode cX3_compileTest 25 = .ok (.aload_n 1, 1) := by decide +kernel
theorem dX3_compileTest_26 : decode cX3_compileTest 26 = .ok (.getfield 54, 3) := by decide +kernel
theorem dX3_compileTest_29 : decode cX3_compileTest 29 = .ok (.invokevirtual 57, 3) := by decide +kernel
theorem dX3_compileTest_32 : decode cX3_compileTest 32 = .ok (.ireturn, 1) := by decide +kernel
theorem dX3_compileTest_33 : decode cX3_compileTest 33 = .ok (.aload_n 1, 1) := by decide +kernel
theorem dX3_compileTest_34 : decode cX3_compileTest 34 = .ok (.dup, 1) := by decide +kernel
theorem dX3_compileTest_35 : decode cX3_compileTest 35 = .ok (.getfield 54, 3) := by decide +kernel
theorem dX3_compileTest_38 : decode cX3_compileTest 38 = .ok (.iconst 1, 1) := by decide +kernel
theorem dX3_compileTest_39 : decode cX3_compileTest 39 = .ok (.iadd, 1) := by decide +kernel
theorem dX3_compileTest_40 : decode cX3_compileTest 40 = .ok (.putfield 54, 3) := by decide +kernel
theorem dX3_compileTest_43 : decode cX3_compileTest 43 = .ok (.iload_n 3, 1) := by decide +kernel
theorem dX3_compileTest_44 : decode cX3_compileTest 44 = .ok (.bipush 40, 2) := by decide +kernel
theorem dX3_compileTest_46 : decode cX3_compileTest 46 = .ok (.if_icmp .ne 29, 3) := by decide +kernel
theorem dX3_compileTest_49 : decode cX3_compileTest 49 = .ok (.aload_n 0, 1) := by decide +kernel
theorem dX3_compileTest_50 : decode cX3_compileTest 50 = .ok (.aload_n 1, 1) := by decide +kernel
theorem dX3_compileTest_51 : decode cX3_compileTest 51 = .ok (.iload_n 2, 1) := by decide +kernel
theorem dX3_compileTest_52 : decode cX3_compileTest 52 = .ok (.iconst 1, 1) := by decide +kernel
theorem dX3_compileTest_53 : decode cX3_compileTest 53 = .ok (.iadd, 1) := by decide +kernel
theorem dX3_compileTest_54 : decode cX3_compileTest 54 = .ok (.invokevirtual 71, 3) := by decide +kernel
theorem dX3_compileTest_57 : decode cX3_compileTest 57 = .ok (.ifCond .eq 16, 3) := by decide +kernel
theorem dX3_compileTest_60 : decode cX3_compileTest 60 = .ok (.aload_n 1, 1) := by decide +kernel
theorem dX3_compileTest_61 : decode cX3_compileTest 61 = .ok (.bipush 41, 2) := by decide +kernel
theorem dX3_compileTest_63 : decode cX3_compileTest 63 = .ok (.invokevirtual 68, 3) := by decide +kernel
theorem dX3_compileTest_66 : decode cX3_compileTest 66 = .ok (.ifCond .eq 7, 3) := by decide +kernel
theorem dX3_compileTest_69 : decode cX3_compileTest 69 = .ok (.iconst 1, 1) := by decide +kernel
theorem dX3_compileTest_70 : decode cX3_compileTest 70 = .ok (.goto 4, 3) := by decide +kernel
theorem dX3_compileTest_73 : decode cX3_compileTest 73 = .ok (.iconst 0, 1) := by decide +kernel
theorem dX3_compileTest_74 : decode cX3_compileTest 74 = .ok (.ireturn, 1) := by decide +kernel
theorem dX3_compileTest_75 : decode cX3_compileTest 75 = .ok (.aload_n 0, 1) := by decide +kernel
theorem dX3_compileTest_76 : decode cX3_compileTest 76 = .ok (.aload_n 1, 1) := by decide +kernel
theorem dX3_compileTest_77 : decode cX3_compileTest 77 = .ok (.iload_n 2, 1) := by decide +kernel
theorem dX3_compileTest_78 : decode cX3_compileTest 78 = .ok (.iconst 1, 1) := by decide +kernel
theorem dX3_compileTest_79 : decode cX3_compileTest 79 = .ok (.iadd, 1) := by decide +kernel
theorem dX3_compileTest_80 : decode cX3_compileTest 80 = .ok (.invokevirtual 74, 3) := by decide +kernel
theorem dX3_compileTest_83 : decode cX3_compileTest 83 = .ok (.ifCond .ne 5, 3) := by decide +kernel
theorem dX3_compileTest_86 : decode cX3_compileTest 86 = .ok (.iconst 0, 1) := by decide +kernel
theorem dX3_compileTest_87 : decode cX3_compileTest 87 = .ok (.ireturn, 1) := by decide +kernel
theorem dX3_compileTest_88 : decode cX3_compileTest 88 = .ok (.aload_n 0, 1) := by decide +kernel
theorem dX3_compileTest_89 : decode cX3_compileTest 89 = .ok (.bipush 33, 2) := by decide +kernel
theorem dX3_compileTest_91 : decode cX3_compileTest 91 = .ok (.iconst 0, 1) := by decide +kernel
theorem dX3_compileTest_92 : decode cX3_compileTest 92 = .ok (.invokevirtual 81, 3) := by decide +kernel
theorem dX3_compileTest_95 : decode cX3_compileTest 95 = .ok (.iconst 1, 1) := by decide +kernel
theorem dX3_compileTest_96 : decode cX3_compileTest 96 = .ok (.ireturn, 1) := by decide +kernel
theorem dX3_compileTest_97 : decode cX3_compileTest 97 = .ok (.aload_n 0, 1) := by decide +kernel
theorem dX3_compileTest_98 : decode cX3_compileTest 98 = .ok (.aload_n 1, 1) := by decide +kernel
theorem dX3_compileTest_99 : decode cX3_compileTest 99 = .ok (.iload_n 2, 1) := by decide +kernel
theorem dX3_compileTest_100 : decode cX3_compileTest 100 = .ok (.invokevirtual 64, 3) := by decide +kernel
theorem dX3_compileTest_103 : decode cX3_compileTest 103 = .ok (.ifCond .ne 5, 3) := by decide +kernel
theorem dX3_compileTest_106 : decode cX3_compileTest 106 = .ok (.iconst 0, 1) := by decide +kernel
theorem dX3_compileTest_107 : decode cX3_compileTest 107 = .ok (.ireturn, 1) := by decide +kernel
theorem dX3_compileTest_108 : decode cX3_compileTest 108 = .ok (.aload_n 1, 1) := by decide +kernel
theorem dX3_compileTest_109 : decode cX3_compileTest 109 = .ok (.invokevirtual 44, 3) := by decide +kernel
theorem dX3_compileTest_112 : decode cX3_compileTest 112 = .ok (.istore 4, 2) := by decide +kernel
theorem dX3_compileTest_114 : decode cX3_compileTest 114 = .ok (.iload 4, 2) := by decide +kernel
theorem dX3_compileTest_116 : decode cX3_compileTest 116 = .ok (.bipush 60, 2) := by decide +kernel
theorem dX3_compileTest_118 : decode cX3_compileTest 118 = .ok (.if_icmp .eq 27, 3) := by decide +kernel
theorem dX3_compileTest_121 : decode cX3_compileTest 121 = .ok (.iload 4, 2) := by decide +kernel
theorem dX3_compileTest_123 : decode cX3_compileTest 123 = .ok (.bipush 62, 2) := by decide +kernel
theorem dX3_compileTest_125 : decode cX3_compileTest 125 = .ok (.if_icmp .eq 20, 3) := by decide +kernel
theorem dX3_compileTest_128 : decode cX3_compileTest 128 = .ok (.iload 4, 2) := by decide +kernel
theorem dX3_compileTest_130 : decode cX3_compileTest 130 = .ok (.bipush 61, 2) := by decide +kernel
theorem dX3_compileTest_132 : decode cX3_compileTest 132 = .ok (.if_icmp .eq 13, 3) := by decide +kernel
theorem dX3_compileTest_135 : decode cX3_compileTest 135 = .ok (.aload_n 1, 1) := by decide +kernel
theorem dX3_compileTest_136 : decode cX3_compileTest 136 = .ok (.iconst 1, 1) := by decide +kernel
theorem dX3_compileTest_137 : decode cX3_compileTest 137 = .ok (.aload_n 1, 1) := by decide +kernel
theorem dX3_compileTest_138 : decode cX3_compileTest 138 = .ok (.getfield 54, 3) := by decide +kernel
theorem dX3_compileTest_141 : decode cX3_compileTest 141 = .ok (.invokevirtual 57, 3) := by decide +kernel
theorem dX3_compileTest_144 : decode cX3_compileTest 144 = .ok (.ireturn, 1) := by decide +kernel
theorem dX3_compileTest_145 : decode cX3_compileTest 145 = .ok (.aload_n 1, 1) := by decide +kernel
theorem dX3_compileTest_146 : decode cX3_compileTest 146 = .ok (.dup, 1) := by decide +kernel
theorem dX3_compileTest_147 : decode cX3_compileTest 147 = .ok (.getfield 54, 3) := by decide +kernel
theorem dX3_compileTest_150 : decode cX3_compileTest 150 = .ok (.iconst 1, 1) := by decide +kernel
theorem dX3_compileTest_151 : decode cX3_compileTest 151 = .ok (.iadd, 1) := by decide +kernel
theorem dX3_compileTest_152 : decode cX3_compileTest 152 = .ok (.putfield 54, 3) := by decide +kernel
theorem dX3_compileTest_155 : decode cX3_compileTest 155 = .ok (.aload_n 0, 1) := by decide +kernel
theorem dX3_compileTest_156 : decode cX3_compileTest 156 = .ok (.aload_n 1, 1) := by decide +kernel
theorem dX3_compileTest_157 : decode cX3_compileTest 157 = .ok (.iload_n 2, 1) := by decide +kernel
theorem dX3_compileTest_158 : decode cX3_compileTest 158 = .ok (.invokevirtual 64, 3) := by decide +kernel
theorem dX3_compileTest_161 : decode cX3_compileTest 161 = .ok (.ifCond .ne 5, 3) := by decide +kernel
theorem dX3_compileTest_164 : decode cX3_compileTest 164 = .ok (.iconst 0, 1) := by decide +kernel
theorem dX3_compileTest_165 : decode cX3_compileTest 165 = .ok (.ireturn, 1) := by decide +kernel
theorem dX3_compileTest_166 : decode cX3_compileTest 166 = .ok (.aload_n 0, 1) := by decide +kernel
theorem dX3_compileTest_167 : decode cX3_compileTest 167 = .ok (.iload 4, 2) := by decide +kernel
theorem dX3_compileTest_169 : decode cX3_compileTest 169 = .ok (.iconst 0, 1) := by decide +kernel
theorem dX3_compileTest_170 : decode cX3_compileTest 170 = .ok (.invokevirtual 81, 3) := by decide +kernel
theorem dX3_compileTest_173 : decode cX3_compileTest 173 = .ok (.iconst 1, 1) := by decide +kernel
theorem dX3_compileTest_174 : decode cX3_compileTest 174 = .ok (.ireturn, 1) := by decide +kernel
theorem dX3_compile_0 : decode cX3_compile 0 = .ok (.aload_n 0, 1) := by decide +kernel
theorem dX3_compile_1 : decode cX3_compile 1 = .ok (.iconst 0, 1) := by decide +kernel
theorem dX3_compile_2 : decode cX3_compile 2 = .ok (.putfield 33, 3) := by decide +kernel
theorem dX3_compile_5 : decode cX3_compile 5 = .ok (.aload_n 0, 1) := by decide +kernel
theorem dX3_compile_6 : decode cX3_compile 6 = .ok (.iconst 0, 1) := by decide +kernel
theorem dX3_compile_7 : decode cX3_compile 7 = .ok (.putfield 37, 3) := by decide +kernel
theorem dX3_compile_10 : decode cX3_compile 10 = .ok (.aload_n 0, 1) := by decide +kernel
theorem dX3_compile_11 : decode cX3_compile 11 = .ok (.iconst 0, 1) := by decide +kernel
theorem dX3_compile_12 : decode cX3_compile 12 = .ok (.putfield 40, 3) := by decide +kernel
theorem dX3_compile_15 : decode cX3_compile 15 = .ok (.iconst 0, 1) := by decide +kernel
theorem dX3_compile_16 : decode cX3_compile 16 = .ok (.istore_n 2, 1) := by decide +kernel
theorem dX3_compile_17 : decode cX3_compile 17 = .ok (.iload_n 2, 1) := by decide +kernel
theorem dX3_compile_18 : decode cX3_compile 18 = .ok (.bipush 16, 2) := by decide +kernel
theorem dX3_compile_20 : decode cX3_compile 20 = .ok (.if_icmp .gt 190, 3) := by decide +kernel
theorem dX3_compile_23 : decode cX3_compile 23 = .ok (.aload_n 1, 1) := by decide +kernel
theorem dX3_compile_24 : decode cX3_compile 24 = .ok (.invokevirtual 44, 3) := by decide +kernel
theorem dX3_compile_27 : decode cX3_compile 27 = .ok (.istore_n 3, 1) := by decide +kernel
theorem dX3_compile_28 : decode cX3_compile 28 = .ok (.iload_n 3, 1) := by decide +kernel
theorem dX3_compile_29 : decode cX3_compile 29 = .ok (.invokestatic 50, 3) := by decide +kernel
theorem dX3_compile_32 : decode cX3_compile 32 = .ok (.ifCond .ne 18, 3) := by decide +kernel
theorem dX3_compile_35 : decode cX3_compile 35 = .ok (.aload_n 1, 1) := by decide +kernel
theorem dX3_compile_36 : decode cX3_compile 36 = .ok (.iconst 1, 1) := by decide +kernel
theorem dX3_compile_37 : decode cX3_compile 37 = .ok (.aload_n 1, 1) := by decide +kernel
theorem dX3_compile_38 : decode cX3_compile 38 = .ok (.getfield 54, 3) := by decide +kernel
theorem dX3_compile_41 : decode cX3_compile 41 = .ok (.invokevirtual 57, 3) := by decide +kernel
theorem dX3_compile_44 : decode cX3_compile 44 = .ok (.pop, 1) := by decide +kernel
theorem dX3_compile_45 : decode cX3_compile 45 = .ok (.aload_n 1, 1) := by decide +kernel
theorem dX3_compile_46 : decode cX3_compile 46 = .ok (.getfield 61, 3) := by decide +kernel
theorem dX3_compile_49 : decode cX3_compile 49 = .ok (.ireturn, 1) := by decide +kernel
theorem dX3_compile_50 : decode cX3_compile 50 = .ok (.iload_n 2, 1) := by decide +kernel
theorem dX3_compile_51 : decode cX3_compile 51 = .ok (.bipush 16, 2) := by decide +kernel
theorem dX3_compile_53 : decode cX3_compile 53 = .ok (.if_icmp .ne 18, 3) := by decide +kernel
theorem dX3_compile_56 : decode cX3_compile 56 = .ok (.aload_n 1, 1) := by decide +kernel
theorem dX3_compile_57 : decode cX3_compile 57 = .ok (.iconst 4, 1) := by decide +kernel
theorem dX3_compile_58 : decode cX3_compile 58 = .ok (.aload_n 1, 1) := by decide +kernel
theorem dX3_compile_59 : decode cX3_compile 59 = .ok (.getfield 54, 3) := by decide +kernel
theorem dX3_compile_62 : decode cX3_compile 62 = .ok (.invokevirtual 57, 3) := by decide +kernel
theorem dX3_compile_65 : decode cX3_compile 65 = .ok (.pop, 1) := by decide +kernel
theorem dX3_compile_66 : decode cX3_compile 66 = .ok (.aload_n 1, 1) := by decide +kernel
theorem dX3_compile_67 : decode cX3_compile 67 = .ok (.getfield 61, 3) := by decide +kernel
theorem dX3_compile_70 : decode cX3_compile 70 = .ok (.ireturn, 1) := by decide +kernel
theorem dX3_compile_71 : decode cX3_compile 71 = .ok (.aload_n 1, 1) := by decide +kernel
theorem dX3_compile_72 : decode cX3_compile 72 = .ok (.dup, 1) := by decide +kernel
theorem dX3_compile_73 : decode cX3_compile 73 = .ok (.getfield 54, 3) := by decide +kernel
theorem dX3_compile_76 : decode cX3_compile 76 = .ok (.iconst 1, 1) := by decide +kernel
theorem dX3_compile_77 : decode cX3_compile 77 = .ok (.iadd, 1) := by decide +kernel
theorem dX3_compile_78 : decode cX3_compile 78 = .ok (.putfield 54, 3) := by decide +kernel
theorem dX3_compile_81 : decode cX3_compile 81 = .ok (.aload_n 0, 1) := by decide +kernel
theorem dX3_compile_82 : decode cX3_compile 82 = .ok (.getfield 21, 3) := by decide +kernel
theorem dX3_compile_85 : decode cX3_compile 85 = .ok (.iload_n 2, 1) := by decide +kernel
theorem dX3_compile_86 : decode cX3_compile 86 = .ok (.iload_n 3, 1) := by decide +kernel
theorem dX3_compile_87 : decode cX3_compile 87 = .ok (.iastore, 1) := by decide +kernel
theorem dX3_compile_88 : decode cX3_compile 88 = .ok (.aload_n 0, 1) := by decide +kernel
theorem dX3_compile_89 : decode cX3_compile 89 = .ok (.getfield 24, 3) := by decide +kernel
theorem dX3_compile_92 : decode cX3_compile 92 = .ok (.iload_n 2, 1) := by decide +kernel
theorem dX3_compile_93 : decode cX3_compile 93 = .ok (.aload_n 0, 1) := by decide +kernel
theorem dX3_compile_94 : decode cX3_compile 94 = .ok (.getfield 33, 3) := by decide +kernel
theorem dX3_compile_97 : decode cX3_compile 97 = .ok (.iastore, 1) := by decide +kernel
theorem dX3_compile_98 : decode cX3_compile 98 = .ok (.iload_n 3, 1) := by decide +kernel
theorem dX3_compile_99 : decode cX3_compile 99 = .ok (.bipush 120, 2) := by decide +kernel
theorem dX3_compile_101 : decode cX3_compile 101 = .ok (.if_icmp .eq 17, 3) := by decide +kernel
theorem dX3_compile_104 : decode cX3_compile 104 = .ok (.aload_n 0, 1) := by decide +kernel
theorem dX3_compile_105 : decode cX3_compile 105 = .ok (.aload_n 1, 1) := by decide +kernel
theorem dX3_compile_106 : decode cX3_compile 106 = .ok (.iconst 0, 1) := by decide +kernel
theorem dX3_compile_107 : decode cX3_compile 107 = .ok (.invokevirtual 64, 3) := by decide +kernel
theorem dX3_compile_110 : decode cX3_compile 110 = .ok (.ifCond .ne 8, 3) := by decide +kernel
theorem dX3_compile_113 : decode cX3_compile 113 = .ok (.aload_n 1, 1) := by decide +kernel
theorem dX3_compile_114 : decode cX3_compile 114 = .ok (.getfield 61, 3) := by decide +kernel
theorem dX3_compile_117 : decode cX3_compile 117 = .ok (.ireturn, 1) := by decide +kernel
theorem dX3_compile_118 : decode cX3_compile 118 = .ok (.aload_n 0, 1) := by decide +kernel
theorem dX3_compile_119 : decode cX3_compile 119 = .ok (.getfield 27, 3) := by decide +kernel
theorem dX3_compile_122 : decode cX3_compile 122 = .ok (.iload_n 2, 1) := by decide +kernel
theorem dX3_compile_123 : decode cX3_compile 123 = .ok (.aload_n 0, 1) := by decide +kernel
theorem dX3_compile_124 : decode cX3_compile 124 = .ok (.getfield 33, 3) := by decide +kernel
theorem dX3_compile_127 : decode cX3_compile 127 = .ok (.iastore, 1) := by decide +kernel
theorem dX3_compile_128 : decode cX3_compile 128 = .ok (.aload_n 1, 1) := by decide +kernel
theorem dX3_compile_129 : decode cX3_compile 129 = .ok (.bipush 40, 2) := by decide +kernel
theorem dX3_compile_131 : decode cX3_compile 131 = .ok (.invokevirtual 68, 3) := by decide +kernel
theorem dX3_compile_134 : decode cX3_compile 134 = .ok (.ifCond .eq 21, 3) := by decide +kernel
theorem dX3_compile_137 : decode cX3_compile 137 = .ok (.aload_n 0, 1) := by decide +kernel
theorem dX3_compile_138 : decode cX3_compile 138 = .ok (.aload_n 1, 1) := by decide +kernel
theorem dX3_compile_139 : decode cX3_compile 139 = .ok (.iconst 1, 1) := by decide +kernel
theorem dX3_compile_140 : decode cX3_compile 140 = .ok (.invokevirtual 71, 3) := by decide +kernel
theorem dX3_compile_143 : decode cX3_compile 143 = .ok (.ifCond .eq 12, 3) := by decide +kernel
theorem dX3_compile_146 : decode cX3_compile 146 = .ok (.aload_n 1, 1) := by decide +kernel
theorem dX3_compile_147 : decode cX3_compile 147 = .ok (.bipush 41, 2) := by decide +kernel
theorem dX3_compile_149 : decode cX3_compile 149 = .ok (.invokevirtual 68, 3) := by decide +kernel
theorem dX3_compile_152 : decode cX3_compile 152 = .ok (.ifCond .ne 8, 3) := by decide +kernel
theorem dX3_compile_155 : decode cX3_compile 155 = .ok (.aload_n 1, 1) := by decide +kernel
theorem dX3_compile_156 : decode cX3_compile 156 = .ok (.getfield 61, 3) := by decide +kernel
theorem dX3_compile_159 : decode cX3_compile 159 = .ok (.ireturn, 1) := by decide +kernel
theorem dX3_compile_160 : decode cX3_compile 160 = .ok (.aload_n 0, 1) := by decide +kernel
theorem dX3_compile_161 : decode cX3_compile 161 = .ok (.getfield 30, 3) := by decide +kernel
theorem dX3_compile_164 : decode cX3_compile 164 = .ok (.iload_n 2, 1) := by decide +kernel
theorem dX3_compile_165 : decode cX3_compile 165 = .ok (.aload_n 0, 1) := by decide +kernel
theorem dX3_compile_166 : decode cX3_compile 166 = .ok (.getfield 33, 3) := by decide +kernel
theorem dX3_compile_169 : decode cX3_compile 169 = .ok (.iastore, 1) := by decide +kernel
theorem dX3_compile_170 : decode cX3_compile 170 = .ok (.aload_n 0, 1) := by decide +kernel
theorem dX3_compile_171 : decode cX3_compile 171 = .ok (.iload_n 2, 1) := by decide +kernel
theorem dX3_compile_172 : decode cX3_compile 172 = .ok (.iconst 1, 1) := by decide +kernel
theorem dX3_compile_173 : decode cX3_compile 173 = .ok (.iadd, 1) := by decide +kernel
theorem dX3_compile_174 : decode cX3_compile 174 = .ok (.putfield 37, 3) := by decide +kernel
theorem dX3_compile_177 : decode cX3_compile 177 = .ok (.aload_n 1, 1) := by decide +kernel
theorem dX3_compile_178 : decode cX3_compile 178 = .ok (.invokevirtual 44, 3) := by decide +kernel
theorem dX3_compile_181 : decode cX3_compile 181 = .ok (.iconst (-1), 1) := by decide +kernel
theorem dX3_compile_182 : decode cX3_compile 182 = .ok (.if_icmp .ne 8, 3) := by decide +kernel
theorem dX3_compile_185 : decode cX3_compile 185 = .ok (.aload_n 0, 1) := by decide +kernel
theorem dX3_compile_186 : decode cX3_compile 186 = .ok (.getfield 37, 3) := by decide +kernel
theorem dX3_compile_189 : decode cX3_compile 189 = .ok (.ireturn, 1) := by decide +kernel
theorem dX3_compile_190 : decode cX3_compile 190 = .ok (.aload_n 1, 1) := by decide +kernel
theorem dX3_compile_191 : decode cX3_compile 191 = .ok (.bipush 59, 2) := by decide +kernel
theorem dX3_compile_193 : decode cX3_compile 193 = .ok (.invokevirtual 68, 3) := by decide +kernel
theorem dX3_compile_196 : decode cX3_compile 196 = .ok (.ifCond .ne 8, 3) := by decide +kernel
theorem dX3_compile_199 : decode cX3_compile 199 = .ok (.aload_n 1, 1) := by decide +kernel
theorem dX3_compile_200 : decode cX3_compile 200 = .ok (.getfield 61, 3) := by decide +kernel
theorem dX3_compile_203 : decode cX3_compile 203 = .ok (.ireturn, 1) := by decide +kernel
theorem dX3_compile_204 : decode cX3_compile 204 = .ok (.iinc 2 1, 3) := by decide +kernel
theorem dX3_compile_207 : decode cX3_compile 207 = .ok (.goto (-190), 3) := by decide +kernel
theorem dX3_compile_210 : decode cX3_compile 210 = .ok (.aload_n 1, 1) := by decide +kernel
theorem dX3_compile_211 : decode cX3_compile 211 = .ok (.getfield 61, 3) := by decide +kernel
theorem dX3_compile_214 : decode cX3_compile 214 = .ok (.ireturn, 1) := by decide +kernel
theorem dX3_doesSink_0 : decode cX3_doesSink 0 = .ok (.iconst 0, 1) := by decide +kernel
theorem dX3_doesSink_1 : decode cX3_doesSink 1 = .ok (.istore_n 2, 1) := by decide +kernel
theorem dX3_doesSink_2 : decode cX3_doesSink 2 = .ok (.iload_n 2, 1) := by decide +kernel
theorem dX3_doesSink_3 : decode cX3_doesSink 3 = .ok (.aload_n 0, 1) := by decide +kernel
theorem dX3_doesSink_4 : decode cX3_doesSink 4 = .ok (.getfield 37, 3) := by decide +kernel
theorem dX3_doesSink_7 : decode cX3_doesSink 7 = .ok (.if_icmp .ge 37, 3) := by decide +kernel
theorem dX3_doesSink_10 : decode cX3_doesSink 10 = .ok (.iload_n 2, 1) := by decide +kernel
theorem dX3_doesSink_11 : decode cX3_doesSink 11 = .ok (.bipush 16, 2) := by decide +kernel
theorem dX3_doesSink_13 : decode cX3_doesSink 13 = .ok (.if_icmp .ge 31, 3) := by decide +kernel
theorem dX3_doesSink_16 : decode cX3_doesSink 16 = .ok (.aload_n 0, 1) := by decide +kernel
theorem dX3_doesSink_17 : decode cX3_doesSink 17 = .ok (.getfield 21, 3) := by decide +kernel
theorem dX3_doesSink_20 : decode cX3_doesSink 20 = .ok (.iload_n 2, 1) := by decide +kernel
theorem dX3_doesSink_21 : decode cX3_doesSink 21 = .ok (.iaload, 1) := by decide +kernel
theorem dX3_doesSink_22 : decode cX3_doesSink 22 = .ok (.bipush 120, 2) := by decide +kernel
theorem dX3_doesSink_24 : decode cX3_doesSink 24 = .ok (.if_icmp .ne 14, 3) := by decide +kernel
theorem dX3_doesSink_27 : decode cX3_doesSink 27 = .ok (.aload_n 0, 1) := by decide +kernel
theorem dX3_doesSink_28 : decode cX3_doesSink 28 = .ok (.iload_n 2, 1) := by decide +kernel
theorem dX3_doesSink_29 : decode cX3_doesSink 29 = .ok (.aload_n 1, 1) := by decide +kernel
theorem dX3_doesSink_30 : decode cX3_doesSink 30 = .ok (.invokevirtual 100, 3) := by decide +kernel
theorem dX3_doesSink_33 : decode cX3_doesSink 33 = .ok (.ifCond .eq 5, 3) := by decide +kernel
theorem dX3_doesSink_36 : decode cX3_doesSink 36 = .ok (.iconst 1, 1) := by decide +kernel
theorem dX3_doesSink_37 : decode cX3_doesSink 37 = .ok (.ireturn, 1) := by decide +kernel
theorem dX3_doesSink_38 : decode cX3_doesSink 38 = .ok (.iinc 2 1, 3) := by decide +kernel
theorem dX3_doesSink_41 : decode cX3_doesSink 41 = .ok (.goto (-39), 3) := by decide +kernel
theorem dX3_doesSink_44 : decode cX3_doesSink 44 = .ok (.iconst 0, 1) := by decide +kernel
theorem dX3_doesSink_45 : decode cX3_doesSink 45 = .ok (.ireturn, 1) := by decide +kernel
theorem dX4_isFooting_0 : decode cX4_isFooting 0 = .ok (.iload_n 2, 1) := by decide +kernel
theorem dX4_isFooting_1 : decode cX4_isFooting 1 = .ok (.ifCond .eq 9, 3) := by decide +kernel
theorem dX4_isFooting_4 : decode cX4_isFooting 4 = .ok (.iload_n 2, 1) := by decide +kernel
theorem dX4_isFooting_5 : decode cX4_isFooting 5 = .ok (.bipush 21, 2) := by decide +kernel
theorem dX4_isFooting_7 : decode cX4_isFooting 7 = .ok (.if_icmp .ne 19, 3) := by decide +kernel
theorem dX4_isFooting_10 : decode cX4_isFooting 10 = .ok (.iload_n 1, 1) := by decide +kernel
theorem dX4_isFooting_11 : decode cX4_isFooting 11 = .ok (.ifCond .lt 13, 3) := by decide +kernel
theorem dX4_isFooting_14 : decode cX4_isFooting 14 = .ok (.iload_n 1, 1) := by decide +kernel
theorem dX4_isFooting_15 : decode cX4_isFooting 15 = .ok (.bipush 39, 2) := by decide +kernel
theorem dX4_isFooting_17 : decode cX4_isFooting 17 = .ok (.if_icmp .gt 7, 3) := by decide +kernel
theorem dX4_isFooting_20 : decode cX4_isFooting 20 = .ok (.iconst 1, 1) := by decide +kernel
theorem dX4_isFooting_21 : decode cX4_isFooting 21 = .ok (.goto 4, 3) := by decide +kernel
theorem dX4_isFooting_24 : decode cX4_isFooting 24 = .ok (.iconst 0, 1) := by decide +kernel
theorem dX4_isFooting_25 : decode cX4_isFooting 25 = .ok (.ireturn, 1) := by decide +kernel
theorem dX4_isFooting_26 : decode cX4_isFooting 26 = .ok (.aload_n 0, 1) := by decide +kernel
theorem dX4_isFooting_27 : decode cX4_isFooting 27 = .ok (.aload_n 0, 1) := by decide +kernel
theorem dX4_isFooting_28 : decode cX4_isFooting 28 = .ok (.iload_n 1, 1) := by decide +kernel
theorem dX4_isFooting_29 : decode cX4_isFooting 29 = .ok (.iload_n 2, 1) := by decide +kernel
theorem dX4_isFooting_30 : decode cX4_isFooting 30 = .ok (.invokevirtual 85, 3) := by decide +kernel
theorem dX4_isFooting_33 : decode cX4_isFooting 33 = .ok (.invokevirtual 90, 3) := by decide +kernel
theorem dX4_isFooting_36 : decode cX4_isFooting 36 = .ok (.ireturn, 1) := by decide +kernel
set_option maxHeartbeats 4000000 in
theorem t_X3_compileSum (c : Nat) (hc : isL c) (dS : Nat) (S_X3_compileFactor : Mem → Int32 → Option (Int32 × Mem)) (hS_X3_compileFactor : ∀ (v2 : Int32) (M : Mem), AXi yX3_compileFactor cX3_compileFactor 5 (some .boolean) dS 60 glC (fun ad => [.ref (ad c), .ref (ad 19), .int v2]) M (S_X3_compileFactor M v2)) (v2 : Int32) (M : Mem) : AXi yX3_compileSum cX3_compileSum 7 (some .boolean) (dS + 1) 60 glC (fun ad => [.ref (ad c), .ref (ad 19), .int v2]) M (f_X3_compileSum S_X3_compileFactor c M v2) := by
  intro r0 h
  refine AM.of (by decide) (fun _ => Nat.le_of_ble_eq_true rfl) (fun X ad cI cZ cB hX hR => ?_)
  show V X M [(0, .ref (ad c)), (1, .ref (ad 19)), (2, .int v2)] [] 0
  refine s_iconst (v := (nI 0)) hX dX3_compileSum_0 (by decide) ?_
  refine s_istore_n (lv' := [(0, .ref (ad c)), (1, .ref (ad 19)), (2, .int v2), (3, .int (nI 0))]) hX dX3_compileSum_1 rfl (by decide) rfl ?_
  refine s_iconst (v := (nI 0)) hX dX3_compileSum_2 (by decide) ?_
  refine s_istore (lv' := [(0, .ref (ad c)), (1, .ref (ad 19)), (2, .int v2), (3, .int (nI 0)), (4, .int (nI 0))]) hX dX3_compileSum_3 (by decide) rfl ?_
  refine s_iconst (v := (nI 0)) hX dX3_compileSum_5 (by decide) ?_
  refine s_istore (lv' := [(0, .ref (ad c)), (1, .ref (ad 19)), (2, .int v2), (3, .int (nI 0)), (4, .int (nI 0)), (5, .int (nI 0))]) hX dX3_compileSum_6 (by decide) rfl ?_
  have lp8 : ∀ (N8 : Nat) (M8 : Mem) (y3_8 : Int32) (y4_8 : Int32) (y5_8 : Int32), wlp4 (f_X3_compileSum_B8 S_X3_compileFactor c v2) N8 M8 y3_8 y4_8 y5_8 = some r0 → V X M8 [(0, .ref (ad c)), (1, .ref (ad 19)), (2, .int v2), (3, .int y3_8), (4, .int y4_8), (5, .int y5_8)] [] 8 := by
    intro N8
    induction N8 with
    | zero => exact fun _ _ _ _ h => e_none h
    | succ N8 ih8 =>
      intro M8 y3_8 y4_8 y5_8 h
      replace h : f_X3_compileSum_B8 S_X3_compileFactor c v2 (wlp4 (f_X3_compileSum_B8 S_X3_compileFactor c v2) N8) M8 y3_8 y4_8 y5_8 = some r0 := h
      generalize wlp4 (f_X3_compileSum_B8 S_X3_compileFactor c v2) N8 = ag8 at ih8 h
      refine s_iload (k := 5) hX dX3_compileSum_8 rfl ?_
      refine s_sipush (v := (nI 240)) hX dX3_compileSum_10 (by decide) ?_
      have j124 : f_X3_compileSum_L124 M8 = some r0 → V X M8 [(1, .ref (ad 19))] [] 124 := by
        intro  h
        refine s_aload_n (k := 0) hX dX3_compileSum_124 rfl rfl ?_
        refine s_iconst (v := (nI 1)) hX dX3_compileSum_125 (by decide) ?_
        refine s_aload_n (k := 0) hX dX3_compileSum_126 rfl rfl ?_
        refine s_get hX fX3_54 oC19 rfl dX3_compileSum_127 ?_
        refine e_callVi hX (t_X7_refuse (nI 1) (M8 19 3) M8) mX7_refuse lX3_57 (by omega) (by decide) oC19 rfl rfl rfl rfl rfl (Nat.le_of_ble_eq_true rfl) dX3_compileSum_130 h (fun r_1 M_2 h => ?_)
        exact e_zreti hX hR dX3_compileSum_133 h
      refine e_icmp_ge (tgt := 124) hX dX3_compileSum_13 (by decide) (m_ge (by decide +kernel)) h (fun h => ?_) (fun h => ?_)
      · refine s_loc [1] rfl ?_
        exact j124 h
      · refine s_aload_n (k := 0) hX dX3_compileSum_16 rfl rfl ?_
        refine s_aload_n (k := 1) hX dX3_compileSum_17 rfl rfl ?_
        refine s_iload_n (k := 2) hX dX3_compileSum_18 rfl rfl ?_
        refine e_callVi hX (hS_X3_compileFactor v2 M8) mX3_compileFactor lX3_85 (by omega) (by decide) (oL hc) rfl rfl rfl rfl rfl (Nat.le_of_ble_eq_true rfl) dX3_compileSum_19 h (fun r_3 M_4 h => ?_)
        refine e_if_ne (tgt := 27) hX dX3_compileSum_22 (by decide) z_eq h (fun h => ?_) (fun h => ?_)
        · refine s_iload (k := 4) hX dX3_compileSum_27 rfl ?_
          have j39 : ∀ (N39 : Mem), f_X3_compileSum_L39 c ag8 y3_8 y5_8 N39 = some r0 → V X N39 [(0, .ref (ad c)), (1, .ref (ad 19)), (2, .int v2), (3, .int y3_8), (5, .int y5_8)] [] 39 := by
            intro N39 h
            refine s_aload_n (k := 1) hX dX3_compileSum_39 rfl rfl ?_
            refine e_callVp hX (t_X7_here N39) mX7_here lX3_44 (by omega) (by decide) oC19 rfl rfl rfl rfl rfl (Nat.le_of_ble_eq_true rfl) dX3_compileSum_40 h (fun r_5 h => ?_)
            refine s_istore (lv' := [(0, .ref (ad c)), (1, .ref (ad 19)), (2, .int v2), (3, .int y3_8), (5, .int y5_8), (6, .int r_5)]) hX dX3_compileSum_43 (by decide) rfl ?_
            refine s_iload (k := 5) hX dX3_compileSum_45 rfl ?_
            refine s_bipush (v := (nI 42)) hX dX3_compileSum_47 (by decide) ?_
            have j72 : ∀ (t0_72 : Int32), f_X3_compileSum_L72 c ag8 y3_8 y5_8 N39 r_5 t0_72 = some r0 → V X N39 [(0, .ref (ad c)), (1, .ref (ad 19)), (2, .int v2), (3, .int y3_8), (5, .int y5_8), (6, .int r_5)] [.int t0_72] 72 := by
              intro t0_72 h
              refine s_istore (lv' := [(0, .ref (ad c)), (1, .ref (ad 19)), (2, .int v2), (3, .int y3_8), (5, .int y5_8), (6, .int r_5), (4, .int t0_72)]) hX dX3_compileSum_72 (by decide) rfl ?_
              refine s_iload (k := 6) hX dX3_compileSum_74 rfl ?_
              have j108 : ∀ (N108 : Mem) (z3_108 : Int32), f_X3_compileSum_L108 ag8 y5_8 t0_72 N108 z3_108 = some r0 → V X N108 [(0, .ref (ad c)), (1, .ref (ad 19)), (2, .int v2), (3, .int z3_108), (4, .int t0_72), (5, .int y5_8)] [] 108 := by
                intro N108 z3_108 h
                refine s_aload_n (k := 1) hX dX3_compileSum_108 rfl rfl ?_
                refine s_dup hX dX3_compileSum_109 rfl ?_
                refine s_get hX fX3_54 oC19 rfl dX3_compileSum_110 ?_
                refine s_iconst (v := (nI 1)) hX dX3_compileSum_113 (by decide) ?_
                refine s_iadd hX dX3_compileSum_114 ?_
                refine s_puti (ty := .int) hX fX3_54 oC19 rfl (Nat.le_of_ble_eq_true rfl) ty_7_3 rfl rfl dX3_compileSum_115 ?_
                refine e_bndM h (fun M_6 h => ?_)
                refine s_iinc (k := 5) (v := (y5_8 + (nI 1))) (lv' := [(0, .ref (ad c)), (1, .ref (ad 19)), (2, .int v2), (3, .int z3_108), (4, .int t0_72), (5, .int (y5_8 + (nI 1)))]) hX dX3_compileSum_118 (congrArg (fun z => y5_8 + z) (by decide)) (by decide) rfl rfl ?_
                refine s_goto (tgt := 8) hX dX3_compileSum_121 (by decide) ?_
                exact ih8 M_6 z3_108 t0_72 (y5_8 + (nI 1)) h
              refine e_if_ne (tgt := 108) hX dX3_compileSum_76 (by decide) z_eq h (fun h => ?_) (fun h => ?_)
              · refine s_loc [0, 1, 2, 3, 6, 4] rfl ?_
                exact j108 N39 y3_8 h
              · refine s_iload_n (k := 3) hX dX3_compileSum_79 rfl rfl ?_
                have j89 : ∀ (N89 : Mem), f_X3_compileSum_L89 ag8 y5_8 r_5 t0_72 N89 = some r0 → V X N89 [(0, .ref (ad c)), (1, .ref (ad 19)), (2, .int v2), (4, .int t0_72), (5, .int y5_8), (6, .int r_5)] [] 89 := by
                  intro N89 h
                  refine s_iload (k := 5) hX dX3_compileSum_89 rfl ?_
                  refine s_bipush (v := (nI 43)) hX dX3_compileSum_91 (by decide) ?_
                  have j105 : f_X3_compileSum_L105 ag8 y5_8 r_5 t0_72 N89 = some r0 → V X N89 [(0, .ref (ad c)), (1, .ref (ad 19)), (2, .int v2), (4, .int t0_72), (5, .int y5_8), (6, .int r_5)] [] 105 := by
                    intro  h
                    refine s_iload (k := 5) hX dX3_compileSum_105 rfl ?_
                    refine s_istore_n (lv' := [(0, .ref (ad c)), (1, .ref (ad 19)), (2, .int v2), (4, .int t0_72), (5, .int y5_8), (6, .int r_5), (3, .int r_5)]) hX dX3_compileSum_107 rfl (by decide) rfl ?_
                    refine s_loc [0, 1, 2, 6, 3, 4] rfl ?_
                    exact j108 N89 r_5 h
                  refine e_icmp_eq (tgt := 105) hX dX3_compileSum_93 (by decide) (m_eq (by decide +kernel)) h (fun h => ?_) (fun h => ?_)
                  · exact j105 h
                  · refine s_iload (k := 5) hX dX3_compileSum_96 rfl ?_
                    refine s_bipush (v := (nI 45)) hX dX3_compileSum_98 (by decide) ?_
                    refine e_icmp_eq (tgt := 105) hX dX3_compileSum_100 (by decide) (m_eq (by decide +kernel)) h (fun h => ?_) (fun h => ?_)
                    · exact j105 h
                    · refine s_iconst (v := (nI 1)) hX dX3_compileSum_103 (by decide) ?_
                      exact e_zretiL hX hR dX3_compileSum_104 (by decide) h
                refine e_if_eq (tgt := 89) hX dX3_compileSum_80 (by decide) z_eq h (fun h => ?_) (fun h => ?_)
                · refine s_loc [0, 1, 2, 6, 4, 5] rfl ?_
                  exact j89 N39 h
                · refine s_aload_n (k := 0) hX dX3_compileSum_83 rfl rfl ?_
                  refine s_iload_n (k := 3) hX dX3_compileSum_84 rfl rfl ?_
                  refine s_iconst (v := (nI 0)) hX dX3_compileSum_85 (by decide) ?_
                  refine e_callVv hX (t_X3_order c hc y3_8 (nI 0) N39) mX3_order lX3_81 (by omega) (by decide) (oL hc) rfl rfl rfl rfl rfl (Nat.le_of_ble_eq_true rfl) dX3_compileSum_86 h (fun M_7 h => ?_)
                  refine s_loc [0, 1, 2, 6, 4, 5] rfl ?_
                  exact j89 M_7 h
            have j66 : f_X3_compileSum_L66 c ag8 y3_8 y5_8 N39 r_5 = some r0 → V X N39 [(0, .ref (ad c)), (1, .ref (ad 19)), (2, .int v2), (3, .int y3_8), (5, .int y5_8), (6, .int r_5)] [] 66 := by
              intro  h
              refine s_iload (k := 5) hX dX3_compileSum_66 rfl ?_
              refine s_goto (tgt := 72) hX dX3_compileSum_68 (by decide) ?_
              exact j72 r_5 h
            refine e_icmp_eq (tgt := 66) hX dX3_compileSum_49 (by decide) (m_eq (by decide +kernel)) h (fun h => ?_) (fun h => ?_)
            · exact j66 h
            · refine s_iload (k := 5) hX dX3_compileSum_52 rfl ?_
              refine s_bipush (v := (nI 47)) hX dX3_compileSum_54 (by decide) ?_
              refine e_icmp_eq (tgt := 66) hX dX3_compileSum_56 (by decide) (m_eq (by decide +kernel)) h (fun h => ?_) (fun h => ?_)
              · exact j66 h
              · refine s_iload (k := 5) hX dX3_compileSum_59 rfl ?_
                refine s_bipush (v := (nI 37)) hX dX3_compileSum_61 (by decide) ?_
                refine e_icmp_ne (tgt := 71) hX dX3_compileSum_63 (by decide) (m_eq (by decide +kernel)) h (fun h => ?_) (fun h => ?_)
                · refine s_iconst (v := (nI 0)) hX dX3_compileSum_71 (by decide) ?_
                  exact j72 (nI 0) h
                · exact j66 h
          refine e_if_eq (tgt := 39) hX dX3_compileSum_29 (by decide) z_eq h (fun h => ?_) (fun h => ?_)
          · refine s_loc [0, 1, 2, 3, 5] rfl ?_
            exact j39 M_4 h
          · refine s_aload_n (k := 0) hX dX3_compileSum_32 rfl rfl ?_
            refine s_iload (k := 4) hX dX3_compileSum_33 rfl ?_
            refine s_iconst (v := (nI 0)) hX dX3_compileSum_35 (by decide) ?_
            refine e_callVv hX (t_X3_order c hc y4_8 (nI 0) M_4) mX3_order lX3_81 (by omega) (by decide) (oL hc) rfl rfl rfl rfl rfl (Nat.le_of_ble_eq_true rfl) dX3_compileSum_36 h (fun M_8 h => ?_)
            refine s_loc [0, 1, 2, 3, 5] rfl ?_
            exact j39 M_8 h
        · refine s_iconst (v := (nI 0)) hX dX3_compileSum_25 (by decide) ?_
          exact e_zretiL hX hR dX3_compileSum_26 (by decide) h
  exact lp8 FU M (nI 0) (nI 0) (nI 0) h
set_option maxHeartbeats 4000000 in
theorem t_X3_compileFactor (c : Nat) (hc : isL c) (dS : Nat) (S_X3_compileSum : Mem → Int32 → Option (Int32 × Mem)) (hS_X3_compileSum : ∀ (v2 : Int32) (M : Mem), AXi yX3_compileSum cX3_compileSum 7 (some .boolean) dS 60 glC (fun ad => [.ref (ad c), .ref (ad 19), .int v2]) M (S_X3_compileSum M v2)) (v2 : Int32) (M : Mem) : AXi yX3_compileFactor cX3_compileFactor 5 (some .boolean) (dS + 2) 60 glC (fun ad => [.ref (ad c), .ref (ad 19), .int v2]) M (f_X3_compileFactor S_X3_compileSum c M v2) := by
  intro r0 h
  refine AM.of (by decide) (fun _ => Nat.le_of_ble_eq_true rfl) (fun X ad cI cZ cB hX hR => ?_)
  show V X M [(0, .ref (ad c)), (1, .ref (ad 19)), (2, .int v2)] [] 0
  refine s_aload_n (k := 1) hX dX3_compileFactor_0 rfl rfl ?_
  refine e_callVp hX (t_X7_here M) mX7_here lX3_44 (by omega) (by decide) oC19 rfl rfl rfl rfl rfl (Nat.le_of_ble_eq_true rfl) dX3_compileFactor_1 h (fun r_1 h => ?_)
  refine s_istore_n (lv' := [(0, .ref (ad c)), (1, .ref (ad 19)), (2, .int v2), (3, .int r_1)]) hX dX3_compileFactor_4 rfl (by decide) rfl ?_
  refine s_iload_n (k := 3) hX dX3_compileFactor_5 rfl rfl ?_
  refine s_bipush (v := (nI 91)) hX dX3_compileFactor_6 (by decide) ?_
  refine e_icmp_ne (tgt := 63) hX dX3_compileFactor_8 (by decide) (m_eq (by decide +kernel)) h (fun h => ?_) (fun h => ?_)
  · refine s_iload_n (k := 3) hX dX3_compileFactor_63 rfl rfl ?_
    refine e_callSp hX (t_X7_isDigit r_1 M) mX7_isDigit lX3_88 (by omega) (by decide) rfl rfl (Nat.le_of_ble_eq_true rfl) dX3_compileFactor_64 h (fun r_2 h => ?_)
    refine e_if_eq (tgt := 97) hX dX3_compileFactor_67 (by decide) z_eq h (fun h => ?_) (fun h => ?_)
    · refine s_iload_n (k := 3) hX dX3_compileFactor_97 rfl rfl ?_
      refine e_callSp hX (t_X5_indexOf r_1 M) mX5_indexOf lX3_95 (by omega) (by decide) rfl rfl (Nat.le_of_ble_eq_true rfl) dX3_compileFactor_98 h (fun r_3 h => ?_)
      refine s_istore (lv' := [(0, .ref (ad c)), (1, .ref (ad 19)), (2, .int v2), (3, .int r_1), (4, .int r_3)]) hX dX3_compileFactor_101 (by decide) rfl ?_
      refine s_iload (k := 4) hX dX3_compileFactor_103 rfl ?_
      refine s_iconst (v := (-1)) hX dX3_compileFactor_105 (by decide) ?_
      refine e_icmp_ne (tgt := 119) hX dX3_compileFactor_106 (by decide) (m_eq (by decide +kernel)) h (fun h => ?_) (fun h => ?_)
      · refine s_aload_n (k := 0) hX dX3_compileFactor_119 rfl rfl ?_
        refine s_dup hX dX3_compileFactor_120 rfl ?_
        refine s_get hX fX3_40 (oL hc) rfl dX3_compileFactor_121 ?_
        refine s_iload (k := 4) hX dX3_compileFactor_124 rfl ?_
        refine s_iconst (v := (nI 5)) hX dX3_compileFactor_126 (by decide) ?_
        have j135 : ∀ (t0_135 : Int32), f_X3_compileFactor_L135 c M r_3 t0_135 = some r0 → V X M [(0, .ref (ad c)), (1, .ref (ad 19)), (4, .int r_3)] [.int t0_135, .int (M c 9), .ref (ad c)] 135 := by
          intro t0_135 h
          refine s_ior hX dX3_compileFactor_135 ?_
          refine e_putz hX fX3_40 (oL hc) rfl (Nat.le_of_ble_eq_true rfl) ty_3_9 dX3_compileFactor_136 h (fun h => ?_)
          refine e_bndM h (fun M_4 h => ?_)
          refine s_aload_n (k := 1) hX dX3_compileFactor_139 rfl rfl ?_
          refine s_dup hX dX3_compileFactor_140 rfl ?_
          refine s_get hX fX3_54 oC19 rfl dX3_compileFactor_141 ?_
          refine s_iconst (v := (nI 1)) hX dX3_compileFactor_144 (by decide) ?_
          refine s_iadd hX dX3_compileFactor_145 ?_
          refine s_puti (ty := .int) hX fX3_54 oC19 rfl (Nat.le_of_ble_eq_true rfl) ty_7_3 rfl rfl dX3_compileFactor_146 ?_
          refine e_bndM h (fun M_5 h => ?_)
          refine s_aload_n (k := 0) hX dX3_compileFactor_149 rfl rfl ?_
          refine s_bipush (v := (nI 97)) hX dX3_compileFactor_150 (by decide) ?_
          refine s_iload (k := 2) hX dX3_compileFactor_152 rfl ?_
          refine e_callVv hX (t_X3_order c hc (nI 97) r_3 M_5) mX3_order lX3_81 (by omega) (by decide) (oL hc) rfl rfl rfl rfl rfl (Nat.le_of_ble_eq_true rfl) dX3_compileFactor_154 h (fun M_6 h => ?_)
          refine s_iconst (v := (nI 1)) hX dX3_compileFactor_157 (by decide) ?_
          exact e_zretiL hX hR dX3_compileFactor_158 (by decide) h
        refine e_icmp_ne (tgt := 134) hX dX3_compileFactor_127 (by decide) (m_eq (by decide +kernel)) h (fun h => ?_) (fun h => ?_)
        · refine s_iconst (v := (nI 0)) hX dX3_compileFactor_134 (by decide) ?_
          refine s_loc [0, 1, 4] rfl ?_
          exact j135 (nI 0) h
        · refine s_iconst (v := (nI 1)) hX dX3_compileFactor_130 (by decide) ?_
          refine s_goto (tgt := 135) hX dX3_compileFactor_131 (by decide) ?_
          refine s_loc [0, 1, 4] rfl ?_
          exact j135 (nI 1) h
      · refine s_aload_n (k := 1) hX dX3_compileFactor_109 rfl rfl ?_
        refine s_iconst (v := (nI 1)) hX dX3_compileFactor_110 (by decide) ?_
        refine s_aload_n (k := 1) hX dX3_compileFactor_111 rfl rfl ?_
        refine s_get hX fX3_54 oC19 rfl dX3_compileFactor_112 ?_
        refine e_callVi hX (t_X7_refuse (nI 1) (M 19 3) M) mX7_refuse lX3_57 (by omega) (by decide) oC19 rfl rfl rfl rfl rfl (Nat.le_of_ble_eq_true rfl) dX3_compileFactor_115 h (fun r_7 M_8 h => ?_)
        exact e_zreti hX hR dX3_compileFactor_118 h
    · refine s_aload_n (k := 1) hX dX3_compileFactor_70 rfl rfl ?_
      refine s_iconst (v := (nI 5)) hX dX3_compileFactor_71 (by decide) ?_
      refine e_callVi hX (t_X7_number (nI 5) M) mX7_number lX3_91 (by omega) (by decide) oC19 rfl rfl rfl rfl rfl (Nat.le_of_ble_eq_true rfl) dX3_compileFactor_72 h (fun r_9 M_10 h => ?_)
      refine s_istore (lv' := [(0, .ref (ad c)), (1, .ref (ad 19)), (2, .int v2), (3, .int r_1), (4, .int r_9)]) hX dX3_compileFactor_75 (by decide) rfl ?_
      refine s_aload_n (k := 0) hX dX3_compileFactor_77 rfl rfl ?_
      refine s_bipush (v := (nI 48)) hX dX3_compileFactor_78 (by decide) ?_
      refine s_iload (k := 4) hX dX3_compileFactor_80 rfl ?_
      refine e_callVv hX (t_X3_order c hc (nI 48) r_9 M_10) mX3_order lX3_81 (by omega) (by decide) (oL hc) rfl rfl rfl rfl rfl (Nat.le_of_ble_eq_true rfl) dX3_compileFactor_82 h (fun M_11 h => ?_)
      refine s_iload (k := 4) hX dX3_compileFactor_85 rfl ?_
      refine s_iconst (v := (-1)) hX dX3_compileFactor_87 (by decide) ?_
      refine e_icmp_eq (tgt := 95) hX dX3_compileFactor_88 (by decide) (m_eq (by decide +kernel)) h (fun h => ?_) (fun h => ?_)
      · refine s_iconst (v := (nI 0)) hX dX3_compileFactor_95 (by decide) ?_
        exact e_zretiL hX hR dX3_compileFactor_96 (by decide) h
      · refine s_iconst (v := (nI 1)) hX dX3_compileFactor_91 (by decide) ?_
        refine s_goto (tgt := 96) hX dX3_compileFactor_92 (by decide) ?_
        exact e_zretiL hX hR dX3_compileFactor_96 (by decide) h
  · refine s_iload_n (k := 2) hX dX3_compileFactor_11 rfl rfl ?_
    refine s_bipush (v := (nI 6)) hX dX3_compileFactor_12 (by decide) ?_
    refine e_icmp_lt (tgt := 27) hX dX3_compileFactor_14 (by decide) (m_lt (by decide +kernel)) h (fun h => ?_) (fun h => ?_)
    · refine s_aload_n (k := 1) hX dX3_compileFactor_27 rfl rfl ?_
      refine s_dup hX dX3_compileFactor_28 rfl ?_
      refine s_get hX fX3_54 oC19 rfl dX3_compileFactor_29 ?_
      refine s_iconst (v := (nI 1)) hX dX3_compileFactor_32 (by decide) ?_
      refine s_iadd hX dX3_compileFactor_33 ?_
      refine s_puti (ty := .int) hX fX3_54 oC19 rfl (Nat.le_of_ble_eq_true rfl) ty_7_3 rfl rfl dX3_compileFactor_34 ?_
      refine e_bndM h (fun M_12 h => ?_)
      refine s_aload_n (k := 0) hX dX3_compileFactor_37 rfl rfl ?_
      refine s_aload_n (k := 1) hX dX3_compileFactor_38 rfl rfl ?_
      refine s_iload_n (k := 2) hX dX3_compileFactor_39 rfl rfl ?_
      refine s_iconst (v := (nI 1)) hX dX3_compileFactor_40 (by decide) ?_
      refine s_iadd hX dX3_compileFactor_41 ?_
      refine e_callVi hX (hS_X3_compileSum (v2 + (nI 1)) M_12) mX3_compileSum lX3_64 (by omega) (by decide) (oL hc) rfl rfl rfl rfl rfl (Nat.le_of_ble_eq_true rfl) dX3_compileFactor_42 h (fun r_13 M_14 h => ?_)
      refine e_if_eq (tgt := 61) hX dX3_compileFactor_45 (by decide) z_eq h (fun h => ?_) (fun h => ?_)
      · refine s_iconst (v := (nI 0)) hX dX3_compileFactor_61 (by decide) ?_
        exact e_zretiL hX hR dX3_compileFactor_62 (by decide) h
      · refine s_aload_n (k := 1) hX dX3_compileFactor_48 rfl rfl ?_
        refine s_bipush (v := (nI 93)) hX dX3_compileFactor_49 (by decide) ?_
        refine e_callVi hX (t_X7_skip (nI 93) M_14) mX7_skip lX3_68 (by omega) (by decide) oC19 rfl rfl rfl rfl rfl (Nat.le_of_ble_eq_true rfl) dX3_compileFactor_51 h (fun r_15 M_16 h => ?_)
        refine e_if_eq (tgt := 61) hX dX3_compileFactor_54 (by decide) z_eq h (fun h => ?_) (fun h => ?_)
        · refine s_iconst (v := (nI 0)) hX dX3_compileFactor_61 (by decide) ?_
          exact e_zretiL hX hR dX3_compileFactor_62 (by decide) h
        · refine s_iconst (v := (nI 1)) hX dX3_compileFactor_57 (by decide) ?_
          refine s_goto (tgt := 62) hX dX3_compileFactor_58 (by decide) ?_
          exact e_zretiL hX hR dX3_compileFactor_62 (by decide) h
    · refine s_aload_n (k := 1) hX dX3_compileFactor_17 rfl rfl ?_
      refine s_iconst (v := (nI 5)) hX dX3_compileFactor_18 (by decide) ?_
      refine s_aload_n (k := 1) hX dX3_compileFactor_19 rfl rfl ?_
      refine s_get hX fX3_54 oC19 rfl dX3_compileFactor_20 ?_
      refine e_callVi hX (t_X7_refuse (nI 5) (M 19 3) M) mX7_refuse lX3_57 (by omega) (by decide) oC19 rfl rfl rfl rfl rfl (Nat.le_of_ble_eq_true rfl) dX3_compileFactor_23 h (fun r_17 M_18 h => ?_)
      exact e_zreti hX hR dX3_compileFactor_26 h
theorem tg_sum (c : Nat) (hc : isL c) : ∀ (n : Nat) (v2 : Int32) (M : Mem), AXi yX3_compileSum cX3_compileSum 7 (some .boolean) (3 * n) 60 glC (fun ad => [.ref (ad c), .ref (ad 19), .int v2]) M (g_sum c n M v2)
  | 0 => fun _ _ r0 h => nomatch h
  | n + 1 => fun v2 M => by
    have e : 3 * (n + 1) = 3 * n + 2 + 1 := by omega
    rw [e]
    exact t_X3_compileSum c hc (3 * n + 2) _ (t_X3_compileFactor c hc (3 * n) _ (tg_sum c hc n)) v2 M
set_option maxHeartbeats 4000000 in
theorem t_X3_landHere (c : Nat) (hc : isL c) (v1 : Int32) (M : Mem) : AXv yX3_landHere cX3_landHere 2 none 0 60 glC (fun ad => [.ref (ad c), .int v1]) M (f_X3_landHere c M v1) := by
  intro r0 h
  refine AM.of (by decide) (fun _ => Nat.le_of_ble_eq_true rfl) (fun X ad cI cZ cB hX hR => ?_)
  show V X M [(0, .ref (ad c)), (1, .int v1)] [] 0
  refine s_iload_n (k := 1) hX dX3_landHere_0 rfl rfl ?_
  refine e_if_lt (tgt := 29) hX dX3_landHere_1 (by decide) z_lt h (fun h => ?_) (fun h => ?_)
  · exact e_vret hX hR dX3_landHere_29 h
  · refine s_iload_n (k := 1) hX dX3_landHere_4 rfl rfl ?_
    refine s_aload_n (k := 0) hX dX3_landHere_5 rfl rfl ?_
    refine s_get hX fX3_33 (oL hc) rfl dX3_landHere_6 ?_
    refine e_icmp_ge (tgt := 29) hX dX3_landHere_9 (by decide) r_le h (fun h => ?_) (fun h => ?_)
    · exact e_vret hX hR dX3_landHere_29 h
    · refine s_iload_n (k := 1) hX dX3_landHere_12 rfl rfl ?_
      refine s_sipush (v := (nI 240)) hX dX3_landHere_13 (by decide) ?_
      refine e_icmp_ge (tgt := 29) hX dX3_landHere_16 (by decide) (m_ge (by decide +kernel)) h (fun h => ?_) (fun h => ?_)
      · exact e_vret hX hR dX3_landHere_29 h
      · refine s_aload_n (k := 0) hX dX3_landHere_19 rfl rfl ?_
        refine s_get hX fX3_15 (oL hc) rfl dX3_landHere_20 ?_
        refine s_iload_n (k := 1) hX dX3_landHere_23 rfl rfl ?_
        refine s_aload_n (k := 0) hX dX3_landHere_24 rfl rfl ?_
        refine s_get hX fX3_33 (oL hc) rfl dX3_landHere_25 ?_
        refine e_iast hX (aL2 hc) dX3_landHere_28 h (fun h => ?_)
        refine e_bndM h (fun M_1 h => ?_)
        exact e_vret hX hR dX3_landHere_29 h
set_option maxHeartbeats 4000000 in
theorem t_X3_compileChoice (c : Nat) (hc : isL c) (dS : Nat) (S_X3_compileTest : Mem → Int32 → Option (Int32 × Mem)) (hS_X3_compileTest : ∀ (v2 : Int32) (M : Mem), AXi yX3_compileTest cX3_compileTest 5 (some .boolean) dS 60 glC (fun ad => [.ref (ad c), .ref (ad 19), .int v2]) M (S_X3_compileTest M v2)) (v2 : Int32) (M : Mem) : AXi yX3_compileChoice cX3_compileChoice 7 (some .boolean) (dS + 1) 60 glC (fun ad => [.ref (ad c), .ref (ad 19), .int v2]) M (f_X3_compileChoice S_X3_compileTest c M v2) := by
  intro r0 h
  refine AM.of (by decide) (fun _ => Nat.le_of_ble_eq_true rfl) (fun X ad cI cZ cB hX hR => ?_)
  show V X M [(0, .ref (ad c)), (1, .ref (ad 19)), (2, .int v2)] [] 0
  refine s_iconst (v := (-1)) hX dX3_compileChoice_0 (by decide) ?_
  refine s_istore_n (lv' := [(0, .ref (ad c)), (1, .ref (ad 19)), (2, .int v2), (3, .int (-1))]) hX dX3_compileChoice_1 rfl (by decide) rfl ?_
  refine s_iconst (v := (-1)) hX dX3_compileChoice_2 (by decide) ?_
  refine s_istore (lv' := [(0, .ref (ad c)), (1, .ref (ad 19)), (2, .int v2), (3, .int (-1)), (4, .int (-1))]) hX dX3_compileChoice_3 (by decide) rfl ?_
  refine s_iconst (v := (nI 0)) hX dX3_compileChoice_5 (by decide) ?_
  refine s_istore (lv' := [(0, .ref (ad c)), (1, .ref (ad 19)), (2, .int v2), (3, .int (-1)), (4, .int (-1)), (5, .int (nI 0))]) hX dX3_compileChoice_6 (by decide) rfl ?_
  have lp8 : ∀ (N8 : Nat) (M8 : Mem) (y3_8 : Int32) (y4_8 : Int32) (y5_8 : Int32), wlp4 (f_X3_compileChoice_B8 S_X3_compileTest c v2) N8 M8 y3_8 y4_8 y5_8 = some r0 → V X M8 [(0, .ref (ad c)), (1, .ref (ad 19)), (2, .int v2), (3, .int y3_8), (4, .int y4_8), (5, .int y5_8)] [] 8 := by
    intro N8
    induction N8 with
    | zero => exact fun _ _ _ _ h => e_none h
    | succ N8 ih8 =>
      intro M8 y3_8 y4_8 y5_8 h
      replace h : f_X3_compileChoice_B8 S_X3_compileTest c v2 (wlp4 (f_X3_compileChoice_B8 S_X3_compileTest c v2) N8) M8 y3_8 y4_8 y5_8 = some r0 := h
      generalize wlp4 (f_X3_compileChoice_B8 S_X3_compileTest c v2) N8 = ag8 at ih8 h
      refine s_iload (k := 5) hX dX3_compileChoice_8 rfl ?_
      refine s_sipush (v := (nI 240)) hX dX3_compileChoice_10 (by decide) ?_
      have j99 : f_X3_compileChoice_L99 M8 = some r0 → V X M8 [(1, .ref (ad 19))] [] 99 := by
        intro  h
        refine s_aload_n (k := 0) hX dX3_compileChoice_99 rfl rfl ?_
        refine s_iconst (v := (nI 1)) hX dX3_compileChoice_100 (by decide) ?_
        refine s_aload_n (k := 0) hX dX3_compileChoice_101 rfl rfl ?_
        refine s_get hX fX3_54 oC19 rfl dX3_compileChoice_102 ?_
        refine e_callVi hX (t_X7_refuse (nI 1) (M8 19 3) M8) mX7_refuse lX3_57 (by omega) (by decide) oC19 rfl rfl rfl rfl rfl (Nat.le_of_ble_eq_true rfl) dX3_compileChoice_105 h (fun r_1 M_2 h => ?_)
        exact e_zreti hX hR dX3_compileChoice_108 h
      refine e_icmp_ge (tgt := 99) hX dX3_compileChoice_13 (by decide) (m_ge (by decide +kernel)) h (fun h => ?_) (fun h => ?_)
      · refine s_loc [1] rfl ?_
        exact j99 h
      · refine s_aload_n (k := 0) hX dX3_compileChoice_16 rfl rfl ?_
        refine s_aload_n (k := 1) hX dX3_compileChoice_17 rfl rfl ?_
        refine s_iload_n (k := 2) hX dX3_compileChoice_18 rfl rfl ?_
        refine e_callVi hX (hS_X3_compileTest v2 M8) mX3_compileTest lX3_74 (by omega) (by decide) (oL hc) rfl rfl rfl rfl rfl (Nat.le_of_ble_eq_true rfl) dX3_compileChoice_19 h (fun r_3 M_4 h => ?_)
        refine e_if_ne (tgt := 27) hX dX3_compileChoice_22 (by decide) z_eq h (fun h => ?_) (fun h => ?_)
        · refine s_aload_n (k := 0) hX dX3_compileChoice_27 rfl rfl ?_
          refine s_iload_n (k := 3) hX dX3_compileChoice_28 rfl rfl ?_
          refine e_callVv hX (t_X3_landHere c hc y3_8 M_4) mX3_landHere lX3_77 (by omega) (by decide) (oL hc) rfl rfl rfl rfl rfl (Nat.le_of_ble_eq_true rfl) dX3_compileChoice_29 h (fun M_5 h => ?_)
          refine s_iconst (v := (-1)) hX dX3_compileChoice_32 (by decide) ?_
          refine s_istore_n (lv' := [(0, .ref (ad c)), (1, .ref (ad 19)), (2, .int v2), (4, .int y4_8), (5, .int y5_8), (3, .int (-1))]) hX dX3_compileChoice_33 rfl (by decide) rfl ?_
          refine s_aload_n (k := 1) hX dX3_compileChoice_34 rfl rfl ?_
          refine e_callVp hX (t_X7_here M_5) mX7_here lX3_44 (by omega) (by decide) oC19 rfl rfl rfl rfl rfl (Nat.le_of_ble_eq_true rfl) dX3_compileChoice_35 h (fun r_6 h => ?_)
          refine s_istore (lv' := [(0, .ref (ad c)), (1, .ref (ad 19)), (2, .int v2), (4, .int y4_8), (5, .int y5_8), (3, .int (-1)), (6, .int r_6)]) hX dX3_compileChoice_38 (by decide) rfl ?_
          refine s_iload (k := 6) hX dX3_compileChoice_40 rfl ?_
          refine s_bipush (v := (nI 38)) hX dX3_compileChoice_42 (by decide) ?_
          have j76 : ∀ (N76 : Mem) (z3_76 : Int32) (z4_76 : Int32), f_X3_compileChoice_L76 c ag8 y5_8 r_6 N76 z3_76 z4_76 = some r0 → V X N76 [(0, .ref (ad c)), (1, .ref (ad 19)), (2, .int v2), (3, .int z3_76), (4, .int z4_76), (5, .int y5_8), (6, .int r_6)] [] 76 := by
            intro N76 z3_76 z4_76 h
            refine s_aload_n (k := 0) hX dX3_compileChoice_76 rfl rfl ?_
            refine s_iload (k := 6) hX dX3_compileChoice_77 rfl ?_
            refine s_iconst (v := (nI 0)) hX dX3_compileChoice_79 (by decide) ?_
            refine e_callVv hX (t_X3_order c hc r_6 (nI 0) N76) mX3_order lX3_81 (by omega) (by decide) (oL hc) rfl rfl rfl rfl rfl (Nat.le_of_ble_eq_true rfl) dX3_compileChoice_80 h (fun M_7 h => ?_)
            refine s_aload_n (k := 1) hX dX3_compileChoice_83 rfl rfl ?_
            refine s_dup hX dX3_compileChoice_84 rfl ?_
            refine s_get hX fX3_54 oC19 rfl dX3_compileChoice_85 ?_
            refine s_iconst (v := (nI 1)) hX dX3_compileChoice_88 (by decide) ?_
            refine s_iadd hX dX3_compileChoice_89 ?_
            refine s_puti (ty := .int) hX fX3_54 oC19 rfl (Nat.le_of_ble_eq_true rfl) ty_7_3 rfl rfl dX3_compileChoice_90 ?_
            refine e_bndM h (fun M_8 h => ?_)
            refine s_iinc (k := 5) (v := (y5_8 + (nI 1))) (lv' := [(0, .ref (ad c)), (1, .ref (ad 19)), (2, .int v2), (3, .int z3_76), (4, .int z4_76), (6, .int r_6), (5, .int (y5_8 + (nI 1)))]) hX dX3_compileChoice_93 (congrArg (fun z => y5_8 + z) (by decide)) (by decide) rfl rfl ?_
            refine s_goto (tgt := 8) hX dX3_compileChoice_96 (by decide) ?_
            refine s_loc [0, 1, 2, 3, 4, 6] rfl ?_
            exact ih8 M_8 z3_76 z4_76 (y5_8 + (nI 1)) h
          refine e_icmp_ne (tgt := 55) hX dX3_compileChoice_44 (by decide) (m_eq (by decide +kernel)) h (fun h => ?_) (fun h => ?_)
          · refine s_aload_n (k := 0) hX dX3_compileChoice_55 rfl rfl ?_
            refine s_iload (k := 3) hX dX3_compileChoice_56 rfl ?_
            refine e_callVv hX (t_X3_landHere c hc y4_8 M_5) mX3_landHere lX3_77 (by omega) (by decide) (oL hc) rfl rfl rfl rfl rfl (Nat.le_of_ble_eq_true rfl) dX3_compileChoice_58 h (fun M_9 h => ?_)
            refine s_aload_n (k := 0) hX dX3_compileChoice_61 rfl rfl ?_
            refine s_get hX fX3_33 (oL hc) rfl dX3_compileChoice_62 ?_
            refine e_bnd h (fun x_10 h => ?_)
            refine s_istore (lv' := [(0, .ref (ad c)), (1, .ref (ad 19)), (2, .int v2), (5, .int y5_8), (3, .int (-1)), (6, .int r_6), (4, .int x_10)]) hX dX3_compileChoice_65 (by decide) rfl ?_
            refine s_iload (k := 5) hX dX3_compileChoice_67 rfl ?_
            refine s_bipush (v := (nI 124)) hX dX3_compileChoice_69 (by decide) ?_
            refine e_icmp_eq (tgt := 76) hX dX3_compileChoice_71 (by decide) (m_eq (by decide +kernel)) h (fun h => ?_) (fun h => ?_)
            · refine s_loc [0, 1, 2, 4, 6, 3, 5] rfl ?_
              exact j76 M_9 (-1) x_10 h
            · refine s_iconst (v := (nI 1)) hX dX3_compileChoice_74 (by decide) ?_
              exact e_zretiL hX hR dX3_compileChoice_75 (by decide) h
          · refine s_aload_n (k := 0) hX dX3_compileChoice_47 rfl rfl ?_
            refine s_get hX fX3_33 (oL hc) rfl dX3_compileChoice_48 ?_
            refine e_bnd h (fun x_11 h => ?_)
            refine s_istore_n (lv' := [(0, .ref (ad c)), (1, .ref (ad 19)), (2, .int v2), (4, .int y4_8), (5, .int y5_8), (6, .int r_6), (3, .int x_11)]) hX dX3_compileChoice_51 rfl (by decide) rfl ?_
            refine s_goto (tgt := 76) hX dX3_compileChoice_52 (by decide) ?_
            refine s_loc [0, 1, 2, 6, 3, 4, 5] rfl ?_
            exact j76 M_5 x_11 y4_8 h
        · refine s_iconst (v := (nI 0)) hX dX3_compileChoice_25 (by decide) ?_
          exact e_zretiL hX hR dX3_compileChoice_26 (by decide) h
  exact lp8 FU M (-1) (-1) (nI 0) h
set_option maxHeartbeats 4000000 in
theorem t_X3_compileTest (c : Nat) (hc : isL c) (dS dA : Nat) (hdA : dA ≤ dS) (S_X3_compileChoice : Mem → Int32 → Option (Int32 × Mem)) (hS_X3_compileChoice : ∀ (v2 : Int32) (M : Mem), AXi yX3_compileChoice cX3_compileChoice 7 (some .boolean) dS 60 glC (fun ad => [.ref (ad c), .ref (ad 19), .int v2]) M (S_X3_compileChoice M v2)) (S_X3_compileTest : Mem → Int32 → Option (Int32 × Mem)) (hS_X3_compileTest : ∀ (v2 : Int32) (M : Mem), AXi yX3_compileTest cX3_compileTest 5 (some .boolean) dA 60 glC (fun ad => [.ref (ad c), .ref (ad 19), .int v2]) M (S_X3_compileTest M v2)) (v2 : Int32) (M : Mem) : AXi yX3_compileTest cX3_compileTest 5 (some .boolean) (dS + 25) 60 glC (fun ad => [.ref (ad c), .ref (ad 19), .int v2]) M (f_X3_compileTest S_X3_compileTest S_X3_compileChoice c M v2) := by
  intro r0 h
  refine AM.of (by decide) (fun _ => Nat.le_of_ble_eq_true rfl) (fun X ad cI cZ cB hX hR => ?_)
  show V X M [(0, .ref (ad c)), (1, .ref (ad 19)), (2, .int v2)] [] 0
  refine s_aload_n (k := 1) hX dX3_compileTest_0 rfl rfl ?_
  refine e_callVp hX (t_X7_here M) mX7_here lX3_44 (by omega) (by decide) oC19 rfl rfl rfl rfl rfl (Nat.le_of_ble_eq_true rfl) dX3_compileTest_1 h (fun r_1 h => ?_)
  refine s_istore_n (lv' := [(0, .ref (ad c)), (1, .ref (ad 19)), (2, .int v2), (3, .int r_1)]) hX dX3_compileTest_4 rfl (by decide) rfl ?_
  refine s_iload_n (k := 3) hX dX3_compileTest_5 rfl rfl ?_
  refine s_bipush (v := (nI 33)) hX dX3_compileTest_6 (by decide) ?_
  have j17 : f_X3_compileTest_L17 S_X3_compileTest S_X3_compileChoice c M v2 r_1 = some r0 → V X M [(0, .ref (ad c)), (1, .ref (ad 19)), (2, .int v2), (3, .int r_1)] [] 17 := by
    intro  h
    refine s_iload_n (k := 2) hX dX3_compileTest_17 rfl rfl ?_
    refine s_bipush (v := (nI 6)) hX dX3_compileTest_18 (by decide) ?_
    refine e_icmp_lt (tgt := 33) hX dX3_compileTest_20 (by decide) (m_lt (by decide +kernel)) h (fun h => ?_) (fun h => ?_)
    · refine s_aload_n (k := 1) hX dX3_compileTest_33 rfl rfl ?_
      refine s_dup hX dX3_compileTest_34 rfl ?_
      refine s_get hX fX3_54 oC19 rfl dX3_compileTest_35 ?_
      refine s_iconst (v := (nI 1)) hX dX3_compileTest_38 (by decide) ?_
      refine s_iadd hX dX3_compileTest_39 ?_
      refine s_puti (ty := .int) hX fX3_54 oC19 rfl (Nat.le_of_ble_eq_true rfl) ty_7_3 rfl rfl dX3_compileTest_40 ?_
      refine e_bndM h (fun M_2 h => ?_)
      refine s_iload_n (k := 3) hX dX3_compileTest_43 rfl rfl ?_
      refine s_bipush (v := (nI 40)) hX dX3_compileTest_44 (by decide) ?_
      refine e_icmp_ne (tgt := 75) hX dX3_compileTest_46 (by decide) (m_eq (by decide +kernel)) h (fun h => ?_) (fun h => ?_)
      · refine s_aload_n (k := 0) hX dX3_compileTest_75 rfl rfl ?_
        refine s_aload_n (k := 1) hX dX3_compileTest_76 rfl rfl ?_
        refine s_iload_n (k := 2) hX dX3_compileTest_77 rfl rfl ?_
        refine s_iconst (v := (nI 1)) hX dX3_compileTest_78 (by decide) ?_
        refine s_iadd hX dX3_compileTest_79 ?_
        refine e_callVi hX (hS_X3_compileTest (v2 + (nI 1)) M_2) mX3_compileTest lX3_74 (by omega) (by decide) (oL hc) rfl rfl rfl rfl rfl (Nat.le_of_ble_eq_true rfl) dX3_compileTest_80 h (fun r_3 M_4 h => ?_)
        refine e_if_ne (tgt := 88) hX dX3_compileTest_83 (by decide) z_eq h (fun h => ?_) (fun h => ?_)
        · refine s_aload_n (k := 0) hX dX3_compileTest_88 rfl rfl ?_
          refine s_bipush (v := (nI 33)) hX dX3_compileTest_89 (by decide) ?_
          refine s_iconst (v := (nI 0)) hX dX3_compileTest_91 (by decide) ?_
          refine e_callVv hX (t_X3_order c hc (nI 33) (nI 0) M_4) mX3_order lX3_81 (by omega) (by decide) (oL hc) rfl rfl rfl rfl rfl (Nat.le_of_ble_eq_true rfl) dX3_compileTest_92 h (fun M_5 h => ?_)
          refine s_iconst (v := (nI 1)) hX dX3_compileTest_95 (by decide) ?_
          exact e_zretiL hX hR dX3_compileTest_96 (by decide) h
        · refine s_iconst (v := (nI 0)) hX dX3_compileTest_86 (by decide) ?_
          exact e_zretiL hX hR dX3_compileTest_87 (by decide) h
      · refine s_aload_n (k := 0) hX dX3_compileTest_49 rfl rfl ?_
        refine s_aload_n (k := 1) hX dX3_compileTest_50 rfl rfl ?_
        refine s_iload_n (k := 2) hX dX3_compileTest_51 rfl rfl ?_
        refine s_iconst (v := (nI 1)) hX dX3_compileTest_52 (by decide) ?_
        refine s_iadd hX dX3_compileTest_53 ?_
        refine e_callVi hX (hS_X3_compileChoice (v2 + (nI 1)) M_2) mX3_compileChoice lX3_71 (by omega) (by decide) (oL hc) rfl rfl rfl rfl rfl (Nat.le_of_ble_eq_true rfl) dX3_compileTest_54 h (fun r_6 M_7 h => ?_)
        refine e_if_eq (tgt := 73) hX dX3_compileTest_57 (by decide) z_eq h (fun h => ?_) (fun h => ?_)
        · refine s_iconst (v := (nI 0)) hX dX3_compileTest_73 (by decide) ?_
          exact e_zretiL hX hR dX3_compileTest_74 (by decide) h
        · refine s_aload_n (k := 1) hX dX3_compileTest_60 rfl rfl ?_
          refine s_bipush (v := (nI 41)) hX dX3_compileTest_61 (by decide) ?_
          refine e_callVi hX (t_X7_skip (nI 41) M_7) mX7_skip lX3_68 (by omega) (by decide) oC19 rfl rfl rfl rfl rfl (Nat.le_of_ble_eq_true rfl) dX3_compileTest_63 h (fun r_8 M_9 h => ?_)
          refine e_if_eq (tgt := 73) hX dX3_compileTest_66 (by decide) z_eq h (fun h => ?_) (fun h => ?_)
          · refine s_iconst (v := (nI 0)) hX dX3_compileTest_73 (by decide) ?_
            exact e_zretiL hX hR dX3_compileTest_74 (by decide) h
          · refine s_iconst (v := (nI 1)) hX dX3_compileTest_69 (by decide) ?_
            refine s_goto (tgt := 74) hX dX3_compileTest_70 (by decide) ?_
            exact e_zretiL hX hR dX3_compileTest_74 (by decide) h
    · refine s_aload_n (k := 1) hX dX3_compileTest_23 rfl rfl ?_
      refine s_iconst (v := (nI 5)) hX dX3_compileTest_24 (by decide) ?_
      refine s_aload_n (k := 1) hX dX3_compileTest_25 rfl rfl ?_
      refine s_get hX fX3_54 oC19 rfl dX3_compileTest_26 ?_
      refine e_callVi hX (t_X7_refuse (nI 5) (M 19 3) M) mX7_refuse lX3_57 (by omega) (by decide) oC19 rfl rfl rfl rfl rfl (Nat.le_of_ble_eq_true rfl) dX3_compileTest_29 h (fun r_10 M_11 h => ?_)
      exact e_zreti hX hR dX3_compileTest_32 h
  refine e_icmp_eq (tgt := 17) hX dX3_compileTest_8 (by decide) (m_eq (by decide +kernel)) h (fun h => ?_) (fun h => ?_)
  · exact j17 h
  · refine s_iload_n (k := 3) hX dX3_compileTest_11 rfl rfl ?_
    refine s_bipush (v := (nI 40)) hX dX3_compileTest_12 (by decide) ?_
    refine e_icmp_ne (tgt := 97) hX dX3_compileTest_14 (by decide) (m_eq (by decide +kernel)) h (fun h => ?_) (fun h => ?_)
    · refine s_aload_n (k := 0) hX dX3_compileTest_97 rfl rfl ?_
      refine s_aload_n (k := 1) hX dX3_compileTest_98 rfl rfl ?_
      refine s_iload_n (k := 2) hX dX3_compileTest_99 rfl rfl ?_
      refine e_callVi hX (tg_sum c hc 8 v2 M) mX3_compileSum lX3_64 (by omega) (by decide) (oL hc) rfl rfl rfl rfl rfl (Nat.le_of_ble_eq_true rfl) dX3_compileTest_100 h (fun r_12 M_13 h => ?_)
      refine e_if_ne (tgt := 108) hX dX3_compileTest_103 (by decide) z_eq h (fun h => ?_) (fun h => ?_)
      · refine s_aload_n (k := 1) hX dX3_compileTest_108 rfl rfl ?_
        refine e_callVp hX (t_X7_here M_13) mX7_here lX3_44 (by omega) (by decide) oC19 rfl rfl rfl rfl rfl (Nat.le_of_ble_eq_true rfl) dX3_compileTest_109 h (fun r_14 h => ?_)
        refine s_istore (lv' := [(0, .ref (ad c)), (1, .ref (ad 19)), (2, .int v2), (3, .int r_1), (4, .int r_14)]) hX dX3_compileTest_112 (by decide) rfl ?_
        refine s_iload (k := 4) hX dX3_compileTest_114 rfl ?_
        refine s_bipush (v := (nI 60)) hX dX3_compileTest_116 (by decide) ?_
        have j145 : f_X3_compileTest_L145 c v2 M_13 r_14 = some r0 → V X M_13 [(0, .ref (ad c)), (1, .ref (ad 19)), (2, .int v2), (4, .int r_14)] [] 145 := by
          intro  h
          refine s_aload_n (k := 1) hX dX3_compileTest_145 rfl rfl ?_
          refine s_dup hX dX3_compileTest_146 rfl ?_
          refine s_get hX fX3_54 oC19 rfl dX3_compileTest_147 ?_
          refine s_iconst (v := (nI 1)) hX dX3_compileTest_150 (by decide) ?_
          refine s_iadd hX dX3_compileTest_151 ?_
          refine s_puti (ty := .int) hX fX3_54 oC19 rfl (Nat.le_of_ble_eq_true rfl) ty_7_3 rfl rfl dX3_compileTest_152 ?_
          refine e_bndM h (fun M_15 h => ?_)
          refine s_aload_n (k := 0) hX dX3_compileTest_155 rfl rfl ?_
          refine s_aload_n (k := 1) hX dX3_compileTest_156 rfl rfl ?_
          refine s_iload_n (k := 2) hX dX3_compileTest_157 rfl rfl ?_
          refine e_callVi hX (tg_sum c hc 8 v2 M_15) mX3_compileSum lX3_64 (by omega) (by decide) (oL hc) rfl rfl rfl rfl rfl (Nat.le_of_ble_eq_true rfl) dX3_compileTest_158 h (fun r_16 M_17 h => ?_)
          refine e_if_ne (tgt := 166) hX dX3_compileTest_161 (by decide) z_eq h (fun h => ?_) (fun h => ?_)
          · refine s_aload_n (k := 0) hX dX3_compileTest_166 rfl rfl ?_
            refine s_iload (k := 3) hX dX3_compileTest_167 rfl ?_
            refine s_iconst (v := (nI 0)) hX dX3_compileTest_169 (by decide) ?_
            refine e_callVv hX (t_X3_order c hc r_14 (nI 0) M_17) mX3_order lX3_81 (by omega) (by decide) (oL hc) rfl rfl rfl rfl rfl (Nat.le_of_ble_eq_true rfl) dX3_compileTest_170 h (fun M_18 h => ?_)
            refine s_iconst (v := (nI 1)) hX dX3_compileTest_173 (by decide) ?_
            exact e_zretiL hX hR dX3_compileTest_174 (by decide) h
          · refine s_iconst (v := (nI 0)) hX dX3_compileTest_164 (by decide) ?_
            exact e_zretiL hX hR dX3_compileTest_165 (by decide) h
        refine e_icmp_eq (tgt := 145) hX dX3_compileTest_118 (by decide) (m_eq (by decide +kernel)) h (fun h => ?_) (fun h => ?_)
        · refine s_loc [0, 1, 2, 4] rfl ?_
          exact j145 h
        · refine s_iload (k := 4) hX dX3_compileTest_121 rfl ?_
          refine s_bipush (v := (nI 62)) hX dX3_compileTest_123 (by decide) ?_
          refine e_icmp_eq (tgt := 145) hX dX3_compileTest_125 (by decide) (m_eq (by decide +kernel)) h (fun h => ?_) (fun h => ?_)
          · refine s_loc [0, 1, 2, 4] rfl ?_
            exact j145 h
          · refine s_iload (k := 4) hX dX3_compileTest_128 rfl ?_
            refine s_bipush (v := (nI 61)) hX dX3_compileTest_130 (by decide) ?_
            refine e_icmp_eq (tgt := 145) hX dX3_compileTest_132 (by decide) (m_eq (by decide +kernel)) h (fun h => ?_) (fun h => ?_)
            · refine s_loc [0, 1, 2, 4] rfl ?_
              exact j145 h
            · refine s_aload_n (k := 1) hX dX3_compileTest_135 rfl rfl ?_
              refine s_iconst (v := (nI 1)) hX dX3_compileTest_136 (by decide) ?_
              refine s_aload_n (k := 1) hX dX3_compileTest_137 rfl rfl ?_
              refine s_get hX fX3_54 oC19 rfl dX3_compileTest_138 ?_
              refine e_callVi hX (t_X7_refuse (nI 1) (M_13 19 3) M_13) mX7_refuse lX3_57 (by omega) (by decide) oC19 rfl rfl rfl rfl rfl (Nat.le_of_ble_eq_true rfl) dX3_compileTest_141 h (fun r_19 M_20 h => ?_)
              exact e_zreti hX hR dX3_compileTest_144 h
      · refine s_iconst (v := (nI 0)) hX dX3_compileTest_106 (by decide) ?_
        exact e_zretiL hX hR dX3_compileTest_107 (by decide) h
    · exact j17 h
theorem tg_test (c : Nat) (hc : isL c) : ∀ (n : Nat) (v2 : Int32) (M : Mem), AXi yX3_compileTest cX3_compileTest 5 (some .boolean) (26 * n) 60 glC (fun ad => [.ref (ad c), .ref (ad 19), .int v2]) M (g_test c n M v2)
  | 0 => fun _ _ r0 h => nomatch h
  | n + 1 => fun v2 M => by
    have e : 26 * (n + 1) = 26 * n + 1 + 25 := by omega
    rw [e]
    exact t_X3_compileTest c hc (26 * n + 1) (26 * n) (by omega) _ (t_X3_compileChoice c hc (26 * n) _ (tg_test c hc n)) _ (tg_test c hc n) v2 M
theorem tg_choice (c : Nat) (hc : isL c) (n : Nat) (v2 : Int32) (M : Mem) : AXi yX3_compileChoice cX3_compileChoice 7 (some .boolean) (26 * n + 1) 60 glC (fun ad => [.ref (ad c), .ref (ad 19), .int v2]) M (g_choice c n M v2) := t_X3_compileChoice c hc (26 * n) _ (tg_test c hc n) v2 M
set_option maxHeartbeats 4000000 in
theorem t_X3_compile (c : Nat) (hc : isL c) (M : Mem) : AXi yX3_compile cX3_compile 4 (some .int) 210 60 glC (fun ad => [.ref (ad c), .ref (ad 19)]) M (f_X3_compile c M) := by
  intro r0 h
  refine AM.of (by decide) (fun _ => Nat.le_of_ble_eq_true rfl) (fun X ad cI cZ cB hX hR => ?_)
  show V X M [(0, .ref (ad c)), (1, .ref (ad 19))] [] 0
  refine s_aload_n (k := 0) hX dX3_compile_0 rfl rfl ?_
  refine s_iconst (v := (nI 0)) hX dX3_compile_1 (by decide) ?_
  refine s_puti (ty := .int) hX fX3_33 (oL hc) rfl (Nat.le_of_ble_eq_true rfl) ty_3_7 rfl rfl dX3_compile_2 ?_
  refine e_bndM h (fun M_1 h => ?_)
  refine s_aload_n (k := 0) hX dX3_compile_5 rfl rfl ?_
  refine s_iconst (v := (nI 0)) hX dX3_compile_6 (by decide) ?_
  refine s_puti (ty := .int) hX fX3_37 (oL hc) rfl (Nat.le_of_ble_eq_true rfl) ty_3_8 rfl rfl dX3_compile_7 ?_
  refine e_bndM h (fun M_2 h => ?_)
  refine s_aload_n (k := 0) hX dX3_compile_10 rfl rfl ?_
  refine s_iconst (v := (nI 0)) hX dX3_compile_11 (by decide) ?_
  refine s_puti (ty := .boolean) hX fX3_40 (oL hc) rfl (Nat.le_of_ble_eq_true rfl) ty_3_9 rfl rfl dX3_compile_12 ?_
  refine e_bndM h (fun M_3 h => ?_)
  refine s_iconst (v := (nI 0)) hX dX3_compile_15 (by decide) ?_
  refine s_istore_n (lv' := [(0, .ref (ad c)), (1, .ref (ad 19)), (2, .int (nI 0))]) hX dX3_compile_16 rfl (by decide) rfl ?_
  have lp17 : ∀ (N17 : Nat) (M17 : Mem) (y2_17 : Int32), wlp2 (f_X3_compile_B17 c) N17 M17 y2_17 = some r0 → V X M17 [(0, .ref (ad c)), (1, .ref (ad 19)), (2, .int y2_17)] [] 17 := by
    intro N17
    induction N17 with
    | zero => exact fun _ _ h => e_none h
    | succ N17 ih17 =>
      intro M17 y2_17 h
      replace h : f_X3_compile_B17 c (wlp2 (f_X3_compile_B17 c) N17) M17 y2_17 = some r0 := h
      generalize wlp2 (f_X3_compile_B17 c) N17 = ag17 at ih17 h
      refine s_iload_n (k := 2) hX dX3_compile_17 rfl rfl ?_
      refine s_bipush (v := (nI 16)) hX dX3_compile_18 (by decide) ?_
      refine e_icmp_gt (tgt := 210) hX dX3_compile_20 (by decide) (m_gt (by decide +kernel)) h (fun h => ?_) (fun h => ?_)
      · refine s_aload_n (k := 1) hX dX3_compile_210 rfl rfl ?_
        refine s_get hX fX3_61 oC19 rfl dX3_compile_211 ?_
        exact e_ireti hX hR dX3_compile_214 h
      · refine s_aload_n (k := 1) hX dX3_compile_23 rfl rfl ?_
        refine e_callVp hX (t_X7_here M17) mX7_here lX3_44 (by decide) (by decide) oC19 rfl rfl rfl rfl rfl (Nat.le_of_ble_eq_true rfl) dX3_compile_24 h (fun r_4 h => ?_)
        refine s_istore_n (lv' := [(0, .ref (ad c)), (1, .ref (ad 19)), (2, .int y2_17), (3, .int r_4)]) hX dX3_compile_27 rfl (by decide) rfl ?_
        refine s_iload_n (k := 3) hX dX3_compile_28 rfl rfl ?_
        refine e_callSp hX (t_X3_isRuleLetter r_4 M17) mX3_isRuleLetter lX3_50 (by decide) (by decide) rfl rfl (Nat.le_of_ble_eq_true rfl) dX3_compile_29 h (fun r_5 h => ?_)
        have j35 : f_X3_compile_L35 M17 = some r0 → V X M17 [(1, .ref (ad 19))] [] 35 := by
          intro  h
          refine s_aload_n (k := 0) hX dX3_compile_35 rfl rfl ?_
          refine s_iconst (v := (nI 1)) hX dX3_compile_36 (by decide) ?_
          refine s_aload_n (k := 0) hX dX3_compile_37 rfl rfl ?_
          refine s_get hX fX3_54 oC19 rfl dX3_compile_38 ?_
          refine e_callVi hX (t_X7_refuse (nI 1) (M17 19 3) M17) mX7_refuse lX3_57 (by decide) (by decide) oC19 rfl rfl rfl rfl rfl (Nat.le_of_ble_eq_true rfl) dX3_compile_41 h (fun r_6 M_7 h => ?_)
          refine s_pop hX dX3_compile_44 rfl ?_
          refine s_aload_n (k := 0) hX dX3_compile_45 rfl rfl ?_
          refine s_get hX fX3_61 oC19 rfl dX3_compile_46 ?_
          exact e_ireti hX hR dX3_compile_49 h
        refine e_if_ne (tgt := 50) hX dX3_compile_32 (by decide) z_eq h (fun h => ?_) (fun h => ?_)
        · refine s_iload_n (k := 2) hX dX3_compile_50 rfl rfl ?_
          refine s_bipush (v := (nI 16)) hX dX3_compile_51 (by decide) ?_
          have j56 : f_X3_compile_L56 M17 = some r0 → V X M17 [(1, .ref (ad 19))] [] 56 := by
            intro  h
            refine s_aload_n (k := 0) hX dX3_compile_56 rfl rfl ?_
            refine s_iconst (v := (nI 4)) hX dX3_compile_57 (by decide) ?_
            refine s_aload_n (k := 0) hX dX3_compile_58 rfl rfl ?_
            refine s_get hX fX3_54 oC19 rfl dX3_compile_59 ?_
            refine e_callVi hX (t_X7_refuse (nI 4) (M17 19 3) M17) mX7_refuse lX3_57 (by decide) (by decide) oC19 rfl rfl rfl rfl rfl (Nat.le_of_ble_eq_true rfl) dX3_compile_62 h (fun r_8 M_9 h => ?_)
            refine s_pop hX dX3_compile_65 rfl ?_
            refine s_aload_n (k := 0) hX dX3_compile_66 rfl rfl ?_
            refine s_get hX fX3_61 oC19 rfl dX3_compile_67 ?_
            exact e_ireti hX hR dX3_compile_70 h
          refine e_icmp_ne (tgt := 71) hX dX3_compile_53 (by decide) (m_eq (by decide +kernel)) h (fun h => ?_) (fun h => ?_)
          · refine s_aload_n (k := 1) hX dX3_compile_71 rfl rfl ?_
            refine s_dup hX dX3_compile_72 rfl ?_
            refine s_get hX fX3_54 oC19 rfl dX3_compile_73 ?_
            refine s_iconst (v := (nI 1)) hX dX3_compile_76 (by decide) ?_
            refine s_iadd hX dX3_compile_77 ?_
            refine s_puti (ty := .int) hX fX3_54 oC19 rfl (Nat.le_of_ble_eq_true rfl) ty_7_3 rfl rfl dX3_compile_78 ?_
            refine e_bndM h (fun M_10 h => ?_)
            refine s_aload_n (k := 0) hX dX3_compile_81 rfl rfl ?_
            refine s_get hX fX3_21 (oL hc) rfl dX3_compile_82 ?_
            refine s_iload_n (k := 2) hX dX3_compile_85 rfl rfl ?_
            refine s_iload_n (k := 3) hX dX3_compile_86 rfl rfl ?_
            refine e_iast hX (aL4 hc) dX3_compile_87 h (fun h => ?_)
            refine e_bndM h (fun M_11 h => ?_)
            refine s_aload_n (k := 0) hX dX3_compile_88 rfl rfl ?_
            refine s_get hX fX3_24 (oL hc) rfl dX3_compile_89 ?_
            refine s_iload_n (k := 2) hX dX3_compile_92 rfl rfl ?_
            refine s_aload_n (k := 0) hX dX3_compile_93 rfl rfl ?_
            refine s_get hX fX3_33 (oL hc) rfl dX3_compile_94 ?_
            refine e_iast hX (aL5 hc) dX3_compile_97 h (fun h => ?_)
            refine e_bndM h (fun M_12 h => ?_)
            refine s_iload_n (k := 3) hX dX3_compile_98 rfl rfl ?_
            refine s_bipush (v := (nI 120)) hX dX3_compile_99 (by decide) ?_
            have j118 : ∀ (N118 : Mem), f_X3_compile_L118 c ag17 y2_17 N118 = some r0 → V X N118 [(0, .ref (ad c)), (1, .ref (ad 19)), (2, .int y2_17)] [] 118 := by
              intro N118 h
              refine s_aload_n (k := 0) hX dX3_compile_118 rfl rfl ?_
              refine s_get hX fX3_27 (oL hc) rfl dX3_compile_119 ?_
              refine s_iload_n (k := 2) hX dX3_compile_122 rfl rfl ?_
              refine s_aload_n (k := 0) hX dX3_compile_123 rfl rfl ?_
              refine s_get hX fX3_33 (oL hc) rfl dX3_compile_124 ?_
              refine e_iast hX (aL6 hc) dX3_compile_127 h (fun h => ?_)
              refine e_bndM h (fun M_13 h => ?_)
              refine s_aload_n (k := 1) hX dX3_compile_128 rfl rfl ?_
              refine s_bipush (v := (nI 40)) hX dX3_compile_129 (by decide) ?_
              refine e_callVi hX (t_X7_skip (nI 40) M_13) mX7_skip lX3_68 (by decide) (by decide) oC19 rfl rfl rfl rfl rfl (Nat.le_of_ble_eq_true rfl) dX3_compile_131 h (fun r_14 M_15 h => ?_)
              refine e_if_eq (tgt := 155) hX dX3_compile_134 (by decide) z_eq h (fun h => ?_) (fun h => ?_)
              · refine s_aload_n (k := 1) hX dX3_compile_155 rfl rfl ?_
                refine s_get hX fX3_61 oC19 rfl dX3_compile_156 ?_
                exact e_ireti hX hR dX3_compile_159 h
              · refine s_aload_n (k := 0) hX dX3_compile_137 rfl rfl ?_
                refine s_aload_n (k := 1) hX dX3_compile_138 rfl rfl ?_
                refine s_iconst (v := (nI 1)) hX dX3_compile_139 (by decide) ?_
                refine e_callVi hX (tg_choice c hc 8 (nI 1) M_15) mX3_compileChoice lX3_71 (by decide) (by decide) (oL hc) rfl rfl rfl rfl rfl (Nat.le_of_ble_eq_true rfl) dX3_compile_140 h (fun r_16 M_17 h => ?_)
                refine e_if_eq (tgt := 155) hX dX3_compile_143 (by decide) z_eq h (fun h => ?_) (fun h => ?_)
                · refine s_aload_n (k := 1) hX dX3_compile_155 rfl rfl ?_
                  refine s_get hX fX3_61 oC19 rfl dX3_compile_156 ?_
                  exact e_ireti hX hR dX3_compile_159 h
                · refine s_aload_n (k := 1) hX dX3_compile_146 rfl rfl ?_
                  refine s_bipush (v := (nI 41)) hX dX3_compile_147 (by decide) ?_
                  refine e_callVi hX (t_X7_skip (nI 41) M_17) mX7_skip lX3_68 (by decide) (by decide) oC19 rfl rfl rfl rfl rfl (Nat.le_of_ble_eq_true rfl) dX3_compile_149 h (fun r_18 M_19 h => ?_)
                  refine e_if_ne (tgt := 160) hX dX3_compile_152 (by decide) z_eq h (fun h => ?_) (fun h => ?_)
                  · refine s_aload_n (k := 0) hX dX3_compile_160 rfl rfl ?_
                    refine s_get hX fX3_30 (oL hc) rfl dX3_compile_161 ?_
                    refine s_iload_n (k := 2) hX dX3_compile_164 rfl rfl ?_
                    refine s_aload_n (k := 0) hX dX3_compile_165 rfl rfl ?_
                    refine s_get hX fX3_33 (oL hc) rfl dX3_compile_166 ?_
                    refine e_iast hX (aL7 hc) dX3_compile_169 h (fun h => ?_)
                    refine e_bndM h (fun M_20 h => ?_)
                    refine s_aload_n (k := 0) hX dX3_compile_170 rfl rfl ?_
                    refine s_iload_n (k := 2) hX dX3_compile_171 rfl rfl ?_
                    refine s_iconst (v := (nI 1)) hX dX3_compile_172 (by decide) ?_
                    refine s_iadd hX dX3_compile_173 ?_
                    refine s_puti (ty := .int) hX fX3_37 (oL hc) rfl (Nat.le_of_ble_eq_true rfl) ty_3_8 rfl rfl dX3_compile_174 ?_
                    refine e_bndM h (fun M_21 h => ?_)
                    refine s_aload_n (k := 1) hX dX3_compile_177 rfl rfl ?_
                    refine e_callVp hX (t_X7_here M_21) mX7_here lX3_44 (by decide) (by decide) oC19 rfl rfl rfl rfl rfl (Nat.le_of_ble_eq_true rfl) dX3_compile_178 h (fun r_22 h => ?_)
                    refine s_iconst (v := (-1)) hX dX3_compile_181 (by decide) ?_
                    refine e_icmp_ne (tgt := 190) hX dX3_compile_182 (by decide) (m_eq (by decide +kernel)) h (fun h => ?_) (fun h => ?_)
                    · refine s_aload_n (k := 1) hX dX3_compile_190 rfl rfl ?_
                      refine s_bipush (v := (nI 59)) hX dX3_compile_191 (by decide) ?_
                      refine e_callVi hX (t_X7_skip (nI 59) M_21) mX7_skip lX3_68 (by decide) (by decide) oC19 rfl rfl rfl rfl rfl (Nat.le_of_ble_eq_true rfl) dX3_compile_193 h (fun r_23 M_24 h => ?_)
                      refine e_if_ne (tgt := 204) hX dX3_compile_196 (by decide) z_eq h (fun h => ?_) (fun h => ?_)
                      · refine s_iinc (k := 2) (v := (y2_17 + (nI 1))) (lv' := [(0, .ref (ad c)), (1, .ref (ad 19)), (2, .int (y2_17 + (nI 1)))]) hX dX3_compile_204 (congrArg (fun z => y2_17 + z) (by decide)) (by decide) rfl rfl ?_
                        refine s_goto (tgt := 17) hX dX3_compile_207 (by decide) ?_
                        exact ih17 M_24 (y2_17 + (nI 1)) h
                      · refine s_aload_n (k := 1) hX dX3_compile_199 rfl rfl ?_
                        refine s_get hX fX3_61 oC19 rfl dX3_compile_200 ?_
                        exact e_ireti hX hR dX3_compile_203 h
                    · refine s_aload_n (k := 0) hX dX3_compile_185 rfl rfl ?_
                      refine s_get hX fX3_37 (oL hc) rfl dX3_compile_186 ?_
                      exact e_ireti hX hR dX3_compile_189 h
                  · refine s_aload_n (k := 1) hX dX3_compile_155 rfl rfl ?_
                    refine s_get hX fX3_61 oC19 rfl dX3_compile_156 ?_
                    exact e_ireti hX hR dX3_compile_159 h
            refine e_icmp_eq (tgt := 118) hX dX3_compile_101 (by decide) (m_eq (by decide +kernel)) h (fun h => ?_) (fun h => ?_)
            · refine s_loc [0, 1, 2] rfl ?_
              exact j118 M_12 h
            · refine s_aload_n (k := 0) hX dX3_compile_104 rfl rfl ?_
              refine s_aload_n (k := 1) hX dX3_compile_105 rfl rfl ?_
              refine s_iconst (v := (nI 0)) hX dX3_compile_106 (by decide) ?_
              refine e_callVi hX (tg_sum c hc 8 (nI 0) M_12) mX3_compileSum lX3_64 (by decide) (by decide) (oL hc) rfl rfl rfl rfl rfl (Nat.le_of_ble_eq_true rfl) dX3_compile_107 h (fun r_25 M_26 h => ?_)
              refine e_if_ne (tgt := 118) hX dX3_compile_110 (by decide) z_eq h (fun h => ?_) (fun h => ?_)
              · refine s_loc [0, 1, 2] rfl ?_
                exact j118 M_26 h
              · refine s_aload_n (k := 1) hX dX3_compile_113 rfl rfl ?_
                refine s_get hX fX3_61 oC19 rfl dX3_compile_114 ?_
                exact e_ireti hX hR dX3_compile_117 h
          · refine s_loc [1] rfl ?_
            exact j56 h
        · refine s_loc [1] rfl ?_
          exact j35 h
  exact lp17 FU M_3 (nI 0) h
set_option maxHeartbeats 4000000 in
theorem t_X3_doesSink (c : Nat) (hc : isL c) (M : Mem) : AXi yX3_doesSink cX3_doesSink 3 (some .boolean) 3 60 glC (fun ad => [.ref (ad c), .ref (ad 22)]) M (f_X3_doesSink c M) := by
  intro r0 h
  refine AM.of (by decide) (fun _ => Nat.le_of_ble_eq_true rfl) (fun X ad cI cZ cB hX hR => ?_)
  show V X M [(0, .ref (ad c)), (1, .ref (ad 22))] [] 0
  refine s_iconst (v := (nI 0)) hX dX3_doesSink_0 (by decide) ?_
  refine s_istore_n (lv' := [(0, .ref (ad c)), (1, .ref (ad 22)), (2, .int (nI 0))]) hX dX3_doesSink_1 rfl (by decide) rfl ?_
  have lp2 : ∀ (N2 : Nat) (M2 : Mem) (y2_2 : Int32), wlp2 (f_X3_doesSink_B2 c) N2 M2 y2_2 = some r0 → V X M2 [(0, .ref (ad c)), (1, .ref (ad 22)), (2, .int y2_2)] [] 2 := by
    intro N2
    induction N2 with
    | zero => exact fun _ _ h => e_none h
    | succ N2 ih2 =>
      intro M2 y2_2 h
      replace h : f_X3_doesSink_B2 c (wlp2 (f_X3_doesSink_B2 c) N2) M2 y2_2 = some r0 := h
      generalize wlp2 (f_X3_doesSink_B2 c) N2 = ag2 at ih2 h
      refine s_iload_n (k := 2) hX dX3_doesSink_2 rfl rfl ?_
      refine s_aload_n (k := 0) hX dX3_doesSink_3 rfl rfl ?_
      refine s_get hX fX3_37 (oL hc) rfl dX3_doesSink_4 ?_
      refine e_icmp_ge (tgt := 44) hX dX3_doesSink_7 (by decide) r_le h (fun h => ?_) (fun h => ?_)
      · refine s_iconst (v := (nI 0)) hX dX3_doesSink_44 (by decide) ?_
        exact e_zretiL hX hR dX3_doesSink_45 (by decide) h
      · refine s_iload_n (k := 2) hX dX3_doesSink_10 rfl rfl ?_
        refine s_bipush (v := (nI 16)) hX dX3_doesSink_11 (by decide) ?_
        refine e_icmp_ge (tgt := 44) hX dX3_doesSink_13 (by decide) (m_ge (by decide +kernel)) h (fun h => ?_) (fun h => ?_)
        · refine s_iconst (v := (nI 0)) hX dX3_doesSink_44 (by decide) ?_
          exact e_zretiL hX hR dX3_doesSink_45 (by decide) h
        · refine s_aload_n (k := 0) hX dX3_doesSink_16 rfl rfl ?_
          refine s_get hX fX3_21 (oL hc) rfl dX3_doesSink_17 ?_
          refine s_iload_n (k := 2) hX dX3_doesSink_20 rfl rfl ?_
          refine e_iald hX (aL4 hc) dX3_doesSink_21 h (fun h => ?_)
          refine s_bipush (v := (nI 120)) hX dX3_doesSink_22 (by decide) ?_
          refine e_icmp_ne (tgt := 38) hX dX3_doesSink_24 (by decide) (m_eq (by decide +kernel)) h (fun h => ?_) (fun h => ?_)
          · refine s_iinc (k := 2) (v := (y2_2 + (nI 1))) (lv' := [(0, .ref (ad c)), (1, .ref (ad 22)), (2, .int (y2_2 + (nI 1)))]) hX dX3_doesSink_38 (congrArg (fun z => y2_2 + z) (by decide)) (by decide) rfl rfl ?_
            refine s_goto (tgt := 2) hX dX3_doesSink_41 (by decide) ?_
            exact ih2 M2 (y2_2 + (nI 1)) h
          · refine s_aload_n (k := 0) hX dX3_doesSink_27 rfl rfl ?_
            refine s_iload_n (k := 2) hX dX3_doesSink_28 rfl rfl ?_
            refine s_aload_n (k := 1) hX dX3_doesSink_29 rfl rfl ?_
            refine e_callVi hX (t_X3_doesHold c hc y2_2 M2) mX3_doesHold lX3_100 (by decide) (by decide) (oL hc) rfl rfl rfl rfl rfl (Nat.le_of_ble_eq_true rfl) dX3_doesSink_30 h (fun r_1 M_2 h => ?_)
            refine e_if_eq (tgt := 38) hX dX3_doesSink_33 (by decide) z_eq h (fun h => ?_) (fun h => ?_)
            · refine s_iinc (k := 2) (v := (y2_2 + (nI 1))) (lv' := [(0, .ref (ad c)), (1, .ref (ad 22)), (2, .int (y2_2 + (nI 1)))]) hX dX3_doesSink_38 (congrArg (fun z => y2_2 + z) (by decide)) (by decide) rfl rfl ?_
              refine s_goto (tgt := 2) hX dX3_doesSink_41 (by decide) ?_
              exact ih2 M_2 (y2_2 + (nI 1)) h
            · refine s_iconst (v := (nI 1)) hX dX3_doesSink_36 (by decide) ?_
              exact e_zretiL hX hR dX3_doesSink_37 (by decide) h
  exact lp2 FU M (nI 0) h
set_option maxHeartbeats 4000000 in
theorem t_X4_isFooting (b : Nat) (hb : isF b) (v1 : Int32) (v2 : Int32) (M : Mem) : AXp yX4_isFooting cX4_isFooting 3 (some .boolean) 1 60 glC (fun ad => [.ref (ad b), .int v1, .int v2]) M (f_X4_isFooting b M v1 v2) := by
  intro r0 h
  refine AM.of (by decide) (fun _ => Nat.le_of_ble_eq_true rfl) (fun X ad cI cZ cB hX hR => ?_)
  show V X M [(0, .ref (ad b)), (1, .int v1), (2, .int v2)] [] 0
  refine s_iload_n (k := 2) hX dX4_isFooting_0 rfl rfl ?_
  have j10 : f_X4_isFooting_L10 v1 = some r0 → V X M [(1, .int v1)] [] 10 := by
    intro  h
    refine s_iload_n (k := 0) hX dX4_isFooting_10 rfl rfl ?_
    refine e_if_lt (tgt := 24) hX dX4_isFooting_11 (by decide) z_lt h (fun h => ?_) (fun h => ?_)
    · refine s_iconst (v := (nI 0)) hX dX4_isFooting_24 (by decide) ?_
      exact e_zretpL hX hR dX4_isFooting_25 (by decide) h
    · refine s_iload_n (k := 0) hX dX4_isFooting_14 rfl rfl ?_
      refine s_bipush (v := (nI 39)) hX dX4_isFooting_15 (by decide) ?_
      refine e_icmp_gt (tgt := 24) hX dX4_isFooting_17 (by decide) (m_gt (by decide +kernel)) h (fun h => ?_) (fun h => ?_)
      · refine s_iconst (v := (nI 0)) hX dX4_isFooting_24 (by decide) ?_
        exact e_zretpL hX hR dX4_isFooting_25 (by decide) h
      · refine s_iconst (v := (nI 1)) hX dX4_isFooting_20 (by decide) ?_
        refine s_goto (tgt := 25) hX dX4_isFooting_21 (by decide) ?_
        exact e_zretpL hX hR dX4_isFooting_25 (by decide) h
  refine e_if_eq (tgt := 10) hX dX4_isFooting_1 (by decide) z_eq h (fun h => ?_) (fun h => ?_)
  · refine s_loc [1] rfl ?_
    exact j10 h
  · refine s_iload_n (k := 2) hX dX4_isFooting_4 rfl rfl ?_
    refine s_bipush (v := (nI 21)) hX dX4_isFooting_5 (by decide) ?_
    refine e_icmp_ne (tgt := 26) hX dX4_isFooting_7 (by decide) (m_eq (by decide +kernel)) h (fun h => ?_) (fun h => ?_)
    · refine s_aload_n (k := 0) hX dX4_isFooting_26 rfl rfl ?_
      refine s_aload_n (k := 0) hX dX4_isFooting_27 rfl rfl ?_
      refine s_iload_n (k := 1) hX dX4_isFooting_28 rfl rfl ?_
      refine s_iload_n (k := 2) hX dX4_isFooting_29 rfl rfl ?_
      refine e_callVp hX (t_X2_stoneAt b hb v1 v2 M) mX2_stoneAt lX4_85 (by decide) (by decide) (oF hb) rfl rfl rfl rfl rfl (Nat.le_of_ble_eq_true rfl) dX4_isFooting_30 h (fun r_1 h => ?_)
      refine e_callVp hX (t_X2_isDry b hb r_1 M) mX2_isDry lX4_90 (by decide) (by decide) (oF hb) rfl rfl rfl rfl rfl (Nat.le_of_ble_eq_true rfl) dX4_isFooting_33 h (fun r_2 h => ?_)
      exact e_zretp hX hR dX4_isFooting_36 h
    · refine s_loc [1] rfl ?_
      exact j10 h
