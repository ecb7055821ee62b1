theorem zcdX3_compileSum_0 : decode cX3_compileSum 0 = .ok (.iconst 0, 1) ∧ decode cX3_compileSum 1 = .ok (.istore_n 3, 1) ∧ decode cX3_compileSum 2 = .ok (.iconst 0, 1) ∧ decode cX3_compileSum 3 = .ok (.istore 4, 2) ∧ decode cX3_compileSum 5 = .ok (.iconst 0, 1) ∧ decode cX3_compileSum 6 = .ok (.istore 5, 2) ∧ decode cX3_compileSum 8 = .ok (.iload 5, 2) ∧ decode cX3_compileSum 10 = .ok (.sipush 240, 3) := by decide +kernel
theorem zcdX3_compileSum_13 : decode cX3_compileSum 13 = .ok (.if_icmp .ge 111, 3) ∧ decode cX3_compileSum 16 = .ok (.aload_n 0, 1) ∧ decode cX3_compileSum 17 = .ok (.aload_n 1, 1) ∧ decode cX3_compileSum 18 = .ok (.iload_n 2, 1) ∧ decode cX3_compileSum 19 = .ok (.invokevirtual 85, 3) ∧ decode cX3_compileSum 22 = .ok (.ifCond .ne 5, 3) ∧ decode cX3_compileSum 25 = .ok (.iconst 0, 1) ∧ decode cX3_compileSum 26 = .ok (.ireturn, 1) := by decide +kernel
theorem zcdX3_compileSum_27 : decode cX3_compileSum 27 = .ok (.iload 4, 2) ∧ decode cX3_compileSum 29 = .ok (.ifCond .eq 10, 3) ∧ decode cX3_compileSum 32 = .ok (.aload_n 0, 1) ∧ decode cX3_compileSum 33 = .ok (.iload 4, 2) ∧ decode cX3_compileSum 35 = .ok (.iconst 0, 1) ∧ decode cX3_compileSum 36 = .ok (.invokevirtual 81, 3) ∧ decode cX3_compileSum 39 = .ok (.aload_n 1, 1) ∧ decode cX3_compileSum 40 = .ok (.invokevirtual 44, 3) := by decide +kernel
theorem zcdX3_compileSum_43 : decode cX3_compileSum 43 = .ok (.istore 6, 2) ∧ decode cX3_compileSum 45 = .ok (.iload 6, 2) ∧ decode cX3_compileSum 47 = .ok (.bipush 42, 2) ∧ decode cX3_compileSum 49 = .ok (.if_icmp .eq 17, 3) ∧ decode cX3_compileSum 52 = .ok (.iload 6, 2) ∧ decode cX3_compileSum 54 = .ok (.bipush 47, 2) ∧ decode cX3_compileSum 56 = .ok (.if_icmp .eq 10, 3) ∧ decode cX3_compileSum 59 = .ok (.iload 6, 2) := by decide +kernel
theorem zcdX3_compileSum_61 : decode cX3_compileSum 61 = .ok (.bipush 37, 2) ∧ decode cX3_compileSum 63 = .ok (.if_icmp .ne 8, 3) ∧ decode cX3_compileSum 66 = .ok (.iload 6, 2) ∧ decode cX3_compileSum 68 = .ok (.goto 4, 3) ∧ decode cX3_compileSum 71 = .ok (.iconst 0, 1) ∧ decode cX3_compileSum 72 = .ok (.istore 4, 2) ∧ decode cX3_compileSum 74 = .ok (.iload 4, 2) ∧ decode cX3_compileSum 76 = .ok (.ifCond .ne 32, 3) := by decide +kernel
theorem zcdX3_compileSum_79 : decode cX3_compileSum 79 = .ok (.iload_n 3, 1) ∧ decode cX3_compileSum 80 = .ok (.ifCond .eq 9, 3) ∧ decode cX3_compileSum 83 = .ok (.aload_n 0, 1) ∧ decode cX3_compileSum 84 = .ok (.iload_n 3, 1) ∧ decode cX3_compileSum 85 = .ok (.iconst 0, 1) ∧ decode cX3_compileSum 86 = .ok (.invokevirtual 81, 3) ∧ decode cX3_compileSum 89 = .ok (.iload 6, 2) ∧ decode cX3_compileSum 91 = .ok (.bipush 43, 2) := by decide +kernel
theorem zcdX3_compileSum_93 : decode cX3_compileSum 93 = .ok (.if_icmp .eq 12, 3) ∧ decode cX3_compileSum 96 = .ok (.iload 6, 2) ∧ decode cX3_compileSum 98 = .ok (.bipush 45, 2) ∧ decode cX3_compileSum 100 = .ok (.if_icmp .eq 5, 3) ∧ decode cX3_compileSum 103 = .ok (.iconst 1, 1) ∧ decode cX3_compileSum 104 = .ok (.ireturn, 1) ∧ decode cX3_compileSum 105 = .ok (.iload 6, 2) ∧ decode cX3_compileSum 107 = .ok (.istore_n 3, 1) := by decide +kernel
theorem zcdX3_compileSum_108 : decode cX3_compileSum 108 = .ok (.aload_n 1, 1) ∧ decode cX3_compileSum 109 = .ok (.dup, 1) ∧ decode cX3_compileSum 110 = .ok (.getfield 54, 3) ∧ decode cX3_compileSum 113 = .ok (.iconst 1, 1) ∧ decode cX3_compileSum 114 = .ok (.iadd, 1) ∧ decode cX3_compileSum 115 = .ok (.putfield 54, 3) ∧ decode cX3_compileSum 118 = .ok (.iinc 5 1, 3) ∧ decode cX3_compileSum 121 = .ok (.goto (-113), 3) := by decide +kernel
theorem zcdX3_compileSum_124 : decode cX3_compileSum 124 = .ok (.aload_n 1, 1) ∧ decode cX3_compileSum 125 = .ok (.iconst 1, 1) ∧ decode cX3_compileSum 126 = .ok (.aload_n 1, 1) ∧ decode cX3_compileSum 127 = .ok (.getfield 54, 3) ∧ decode cX3_compileSum 130 = .ok (.invokevirtual 57, 3) ∧ decode cX3_compileSum 133 = .ok (.ireturn, 1) ∧ decode cX3_compileFactor 0 = .ok (.aload_n 1, 1) ∧ decode cX3_compileFactor 1 = .ok (.invokevirtual 44, 3) := by decide +kernel
theorem zcdX3_compileFactor_4 : decode cX3_compileFactor 4 = .ok (.istore_n 3, 1) ∧ decode cX3_compileFactor 5 = .ok (.iload_n 3, 1) ∧ decode cX3_compileFactor 6 = .ok (.bipush 91, 2) ∧ decode cX3_compileFactor 8 = .ok (.if_icmp .ne 55, 3) ∧ decode cX3_compileFactor 11 = .ok (.iload_n 2, 1) ∧ decode cX3_compileFactor 12 = .ok (.bipush 6, 2) ∧ decode cX3_compileFactor 14 = .ok (.if_icmp .lt 13, 3) ∧ decode cX3_compileFactor 17 = .ok (.aload_n 1, 1) := by decide +kernel
theorem zcdX3_compileFactor_18 : decode cX3_compileFactor 18 = .ok (.iconst 5, 1) ∧ decode cX3_compileFactor 19 = .ok (.aload_n 1, 1) ∧ decode cX3_compileFactor 20 = .ok (.getfield 54, 3) ∧ decode cX3_compileFactor 23 = .ok (.invokevirtual 57, 3) ∧ decode cX3_compileFactor 26 = .ok (.ireturn, 1) ∧ decode cX3_compileFactor 27 = .ok (.aload_n 1, 1) ∧ decode cX3_compileFactor 28 = .ok (.dup, 1) ∧ decode cX3_compileFactor 29 = .ok (.getfield 54, 3) := by decide +kernel
theorem zcdX3_compileFactor_32 : decode cX3_compileFactor 32 = .ok (.iconst 1, 1) ∧ decode cX3_compileFactor 33 = .ok (.iadd, 1) ∧ decode cX3_compileFactor 34 = .ok (.putfield 54, 3) ∧ decode cX3_compileFactor 37 = .ok (.aload_n 0, 1) ∧ decode cX3_compileFactor 38 = .ok (.aload_n 1, 1) ∧ decode cX3_compileFactor 39 = .ok (.iload_n 2, 1) ∧ decode cX3_compileFactor 40 = .ok (.iconst 1, 1) ∧ decode cX3_compileFactor 41 = .ok (.iadd, 1) := by decide +kernel
theorem zcdX3_compileFactor_42 : decode cX3_compileFactor 42 = .ok (.invokevirtual 64, 3) ∧ decode cX3_compileFactor 45 = .ok (.ifCond .eq 16, 3) ∧ decode cX3_compileFactor 48 = .ok (.aload_n 1, 1) ∧ decode cX3_compileFactor 49 = .ok (.bipush 93, 2) ∧ decode cX3_compileFactor 51 = .ok (.invokevirtual 68, 3) ∧ decode cX3_compileFactor 54 = .ok (.ifCond .eq 7, 3) ∧ decode cX3_compileFactor 57 = .ok (.iconst 1, 1) ∧ decode cX3_compileFactor 58 = .ok (.goto 4, 3) := by decide +kernel
theorem zcdX3_compileFactor_61 : decode cX3_compileFactor 61 = .ok (.iconst 0, 1) ∧ decode cX3_compileFactor 62 = .ok (.ireturn, 1) ∧ decode cX3_compileFactor 63 = .ok (.iload_n 3, 1) ∧ decode cX3_compileFactor 64 = .ok (.invokestatic 88, 3) ∧ decode cX3_compileFactor 67 = .ok (.ifCond .eq 30, 3) ∧ decode cX3_compileFactor 70 = .ok (.aload_n 1, 1) ∧ decode cX3_compileFactor 71 = .ok (.iconst 5, 1) ∧ decode cX3_compileFactor 72 = .ok (.invokevirtual 91, 3) := by decide +kernel
theorem zcdX3_compileFactor_75 : decode cX3_compileFactor 75 = .ok (.istore 4, 2) ∧ decode cX3_compileFactor 77 = .ok (.aload_n 0, 1) ∧ decode cX3_compileFactor 78 = .ok (.bipush 48, 2) ∧ decode cX3_compileFactor 80 = .ok (.iload 4, 2) ∧ decode cX3_compileFactor 82 = .ok (.invokevirtual 81, 3) ∧ decode cX3_compileFactor 85 = .ok (.iload 4, 2) ∧ decode cX3_compileFactor 87 = .ok (.iconst (-1), 1) ∧ decode cX3_compileFactor 88 = .ok (.if_icmp .eq 7, 3) := by decide +kernel
theorem zcdX3_compileFactor_91 : decode cX3_compileFactor 91 = .ok (.iconst 1, 1) ∧ decode cX3_compileFactor 92 = .ok (.goto 4, 3) ∧ decode cX3_compileFactor 95 = .ok (.iconst 0, 1) ∧ decode cX3_compileFactor 96 = .ok (.ireturn, 1) ∧ decode cX3_compileFactor 97 = .ok (.iload_n 3, 1) ∧ decode cX3_compileFactor 98 = .ok (.invokestatic 95, 3) ∧ decode cX3_compileFactor 101 = .ok (.istore 4, 2) ∧ decode cX3_compileFactor 103 = .ok (.iload 4, 2) := by decide +kernel
theorem zcdX3_compileFactor_105 : decode cX3_compileFactor 105 = .ok (.iconst (-1), 1) ∧ decode cX3_compileFactor 106 = .ok (.if_icmp .ne 13, 3) ∧ decode cX3_compileFactor 109 = .ok (.aload_n 1, 1) ∧ decode cX3_compileFactor 110 = .ok (.iconst 1, 1) ∧ decode cX3_compileFactor 111 = .ok (.aload_n 1, 1) ∧ decode cX3_compileFactor 112 = .ok (.getfield 54, 3) ∧ decode cX3_compileFactor 115 = .ok (.invokevirtual 57, 3) ∧ decode cX3_compileFactor 118 = .ok (.ireturn, 1) := by decide +kernel
theorem zcdX3_compileFactor_119 : decode cX3_compileFactor 119 = .ok (.aload_n 0, 1) ∧ decode cX3_compileFactor 120 = .ok (.dup, 1) ∧ decode cX3_compileFactor 121 = .ok (.getfield 40, 3) ∧ decode cX3_compileFactor 124 = .ok (.iload 4, 2) ∧ decode cX3_compileFactor 126 = .ok (.iconst 5, 1) ∧ decode cX3_compileFactor 127 = .ok (.if_icmp .ne 7, 3) ∧ decode cX3_compileFactor 130 = .ok (.iconst 1, 1) ∧ decode cX3_compileFactor 131 = .ok (.goto 4, 3) := by decide +kernel
theorem zcdX3_compileFactor_134 : decode cX3_compileFactor 134 = .ok (.iconst 0, 1) ∧ decode cX3_compileFactor 135 = .ok (.ior, 1) ∧ decode cX3_compileFactor 136 = .ok (.putfield 40, 3) ∧ decode cX3_compileFactor 139 = .ok (.aload_n 1, 1) ∧ decode cX3_compileFactor 140 = .ok (.dup, 1) ∧ decode cX3_compileFactor 141 = .ok (.getfield 54, 3) ∧ decode cX3_compileFactor 144 = .ok (.iconst 1, 1) ∧ decode cX3_compileFactor 145 = .ok (.iadd, 1) := by decide +kernel
theorem zcdX3_compileFactor_146 : decode cX3_compileFactor 146 = .ok (.putfield 54, 3) ∧ decode cX3_compileFactor 149 = .ok (.aload_n 0, 1) ∧ decode cX3_compileFactor 150 = .ok (.bipush 97, 2) ∧ decode cX3_compileFactor 152 = .ok (.iload 4, 2) ∧ decode cX3_compileFactor 154 = .ok (.invokevirtual 81, 3) ∧ decode cX3_compileFactor 157 = .ok (.iconst 1, 1) ∧ decode cX3_compileFactor 158 = .ok (.ireturn, 1) ∧ decode cX3_landHere 0 = .ok (.iload_n 1, 1) := by decide +kernel
theorem zcdX3_landHere_1 : decode cX3_landHere 1 = .ok (.ifCond .lt 28, 3) ∧ decode cX3_landHere 4 = .ok (.iload_n 1, 1) ∧ decode cX3_landHere 5 = .ok (.aload_n 0, 1) ∧ decode cX3_landHere 6 = .ok (.getfield 33, 3) ∧ decode cX3_landHere 9 = .ok (.if_icmp .ge 20, 3) ∧ decode cX3_landHere 12 = .ok (.iload_n 1, 1) ∧ decode cX3_landHere 13 = .ok (.sipush 240, 3) ∧ decode cX3_landHere 16 = .ok (.if_icmp .ge 13, 3) := by decide +kernel
theorem zcdX3_landHere_19 : decode cX3_landHere 19 = .ok (.aload_n 0, 1) ∧ decode cX3_landHere 20 = .ok (.getfield 15, 3) ∧ decode cX3_landHere 23 = .ok (.iload_n 1, 1) ∧ decode cX3_landHere 24 = .ok (.aload_n 0, 1) ∧ decode cX3_landHere 25 = .ok (.getfield 33, 3) ∧ decode cX3_landHere 28 = .ok (.iastore, 1) ∧ decode cX3_landHere 29 = .ok (.return_, 1) ∧ decode cX3_compileChoice 0 = .ok (.iconst (-1), 1) := by decide +kernel
theorem zcdX3_compileChoice_1 : decode cX3_compileChoice 1 = .ok (.istore_n 3, 1) ∧ decode cX3_compileChoice 2 = .ok (.iconst (-1), 1) ∧ decode cX3_compileChoice 3 = .ok (.istore 4, 2) ∧ decode cX3_compileChoice 5 = .ok (.iconst 0, 1) ∧ decode cX3_compileChoice 6 = .ok (.istore 5, 2) ∧ decode cX3_compileChoice 8 = .ok (.iload 5, 2) ∧ decode cX3_compileChoice 10 = .ok (.sipush 240, 3) ∧ decode cX3_compileChoice 13 = .ok (.if_icmp .ge 86, 3) := by decide +kernel
theorem zcdX3_compileChoice_16 : decode cX3_compileChoice 16 = .ok (.aload_n 0, 1) ∧ decode cX3_compileChoice 17 = .ok (.aload_n 1, 1) ∧ decode cX3_compileChoice 18 = .ok (.iload_n 2, 1) ∧ decode cX3_compileChoice 19 = .ok (.invokevirtual 74, 3) ∧ decode cX3_compileChoice 22 = .ok (.ifCond .ne 5, 3) ∧ decode cX3_compileChoice 25 = .ok (.iconst 0, 1) ∧ decode cX3_compileChoice 26 = .ok (.ireturn, 1) ∧ decode cX3_compileChoice 27 = .ok (.aload_n 0, 1) := by decide +kernel
theorem zcdX3_compileChoice_28 : decode cX3_compileChoice 28 = .ok (.iload_n 3, 1) ∧ decode cX3_compileChoice 29 = .ok (.invokevirtual 77, 3) ∧ decode cX3_compileChoice 32 = .ok (.iconst (-1), 1) ∧ decode cX3_compileChoice 33 = .ok (.istore_n 3, 1) ∧ decode cX3_compileChoice 34 = .ok (.aload_n 1, 1) ∧ decode cX3_compileChoice 35 = .ok (.invokevirtual 44, 3) ∧ decode cX3_compileChoice 38 = .ok (.istore 6, 2) ∧ decode cX3_compileChoice 40 = .ok (.iload 6, 2) := by decide +kernel
theorem zcdX3_compileChoice_42 : decode cX3_compileChoice 42 = .ok (.bipush 38, 2) ∧ decode cX3_compileChoice 44 = .ok (.if_icmp .ne 11, 3) ∧ decode cX3_compileChoice 47 = .ok (.aload_n 0, 1) ∧ decode cX3_compileChoice 48 = .ok (.getfield 33, 3) ∧ decode cX3_compileChoice 51 = .ok (.istore_n 3, 1) ∧ decode cX3_compileChoice 52 = .ok (.goto 24, 3) ∧ decode cX3_compileChoice 55 = .ok (.aload_n 0, 1) ∧ decode cX3_compileChoice 56 = .ok (.iload 4, 2) := by decide +kernel
theorem zcdX3_compileChoice_58 : decode cX3_compileChoice 58 = .ok (.invokevirtual 77, 3) ∧ decode cX3_compileChoice 61 = .ok (.aload_n 0, 1) ∧ decode cX3_compileChoice 62 = .ok (.getfield 33, 3) ∧ decode cX3_compileChoice 65 = .ok (.istore 4, 2) ∧ decode cX3_compileChoice 67 = .ok (.iload 6, 2) ∧ decode cX3_compileChoice 69 = .ok (.bipush 124, 2) ∧ decode cX3_compileChoice 71 = .ok (.if_icmp .eq 5, 3) ∧ decode cX3_compileChoice 74 = .ok (.iconst 1, 1) := by decide +kernel
theorem zcdX3_compileChoice_75 : decode cX3_compileChoice 75 = .ok (.ireturn, 1) ∧ decode cX3_compileChoice 76 = .ok (.aload_n 0, 1) ∧ decode cX3_compileChoice 77 = .ok (.iload 6, 2) ∧ decode cX3_compileChoice 79 = .ok (.iconst 0, 1) ∧ decode cX3_compileChoice 80 = .ok (.invokevirtual 81, 3) ∧ decode cX3_compileChoice 83 = .ok (.aload_n 1, 1) ∧ decode cX3_compileChoice 84 = .ok (.dup, 1) ∧ decode cX3_compileChoice 85 = .ok (.getfield 54, 3) := by decide +kernel
theorem zcdX3_compileChoice_88 : decode cX3_compileChoice 88 = .ok (.iconst 1, 1) ∧ decode cX3_compileChoice 89 = .ok (.iadd, 1) ∧ decode cX3_compileChoice 90 = .ok (.putfield 54, 3) ∧ decode cX3_compileChoice 93 = .ok (.iinc 5 1, 3) ∧ decode cX3_compileChoice 96 = .ok (.goto (-88), 3) ∧ decode cX3_compileChoice 99 = .ok (.aload_n 1, 1) ∧ decode cX3_compileChoice 100 = .ok (.iconst 1, 1) ∧ decode cX3_compileChoice 101 = .ok (.aload_n 1, 1) := by decide +kernel
theorem zcdX3_compileChoice_102 : decode cX3_compileChoice 102 = .ok (.getfield 54, 3) ∧ decode cX3_compileChoice 105 = .ok (.invokevirtual 57, 3) ∧ decode cX3_compileChoice 108 = .ok (.ireturn, 1) ∧ decode cX3_compileTest 0 = .ok (.aload_n 1, 1) ∧ decode cX3_compileTest 1 = .ok (.invokevirtual 44, 3) ∧ decode cX3_compileTest 4 = .ok (.istore_n 3, 1) ∧ decode cX3_compileTest 5 = .ok (.iload_n 3, 1) ∧ decode cX3_compileTest 6 = .ok (.bipush 33, 2) := by decide +kernel
theorem zcdX3_compileTest_8 : decode cX3_compileTest 8 = .ok (.if_icmp .eq 9, 3) ∧ decode cX3_compileTest 11 = .ok (.iload_n 3, 1) ∧ decode cX3_compileTest 12 = .ok (.bipush 40, 2) ∧ decode cX3_compileTest 14 = .ok (.if_icmp .ne 83, 3) ∧ decode cX3_compileTest 17 = .ok (.iload_n 2, 1) ∧ decode cX3_compileTest 18 = .ok (.bipush 6, 2) ∧ decode cX3_compileTest 20 = .ok (.if_icmp .lt 13, 3) ∧ decode cX3_compileTest 23 = .ok (.aload_n 1, 1) := by decide +kernel
theorem zcdX3_compileTest_24 : decode cX3_compileTest 24 = .ok (.iconst 5, 1) ∧ decode cX3_compileTest 25 = .ok (.aload_n 1, 1) ∧ decode cX3_compileTest 26 = .ok (.getfield 54, 3) ∧ decode cX3_compileTest 29 = .ok (.invokevirtual 57, 3) ∧ decode cX3_compileTest 32 = .ok (.ireturn, 1) ∧ decode cX3_compileTest 33 = .ok (.aload_n 1, 1) ∧ decode cX3_compileTest 34 = .ok (.dup, 1) ∧ decode cX3_compileTest 35 = .ok (.getfield 54, 3) := by decide +kernel
theorem zcdX3_compileTest_38 : decode cX3_compileTest 38 = .ok (.iconst 1, 1) ∧ decode cX3_compileTest 39 = .ok (.iadd, 1) ∧ decode cX3_compileTest 40 = .ok (.putfield 54, 3) ∧ decode cX3_compileTest 43 = .ok (.iload_n 3, 1) ∧ decode cX3_compileTest 44 = .ok (.bipush 40, 2) ∧ decode cX3_compileTest 46 = .ok (.if_icmp .ne 29, 3) ∧ decode cX3_compileTest 49 = .ok (.aload_n 0, 1) ∧ decode cX3_compileTest 50 = .ok (.aload_n 1, 1) := by decide +kernel
theorem zcdX3_compileTest_51 : decode cX3_compileTest 51 = .ok (.iload_n 2, 1) ∧ decode cX3_compileTest 52 = .ok (.iconst 1, 1) ∧ decode cX3_compileTest 53 = .ok (.iadd, 1) ∧ decode cX3_compileTest 54 = .ok (.invokevirtual 71, 3) ∧ decode cX3_compileTest 57 = .ok (.ifCond .eq 16, 3) ∧ decode cX3_compileTest 60 = .ok (.aload_n 1, 1) ∧ decode cX3_compileTest 61 = .ok (.bipush 41, 2) ∧ decode cX3_compileTest 63 = .ok (.invokevirtual 68, 3) := by decide +kernel
theorem zcdX3_compileTest_66 : decode cX3_compileTest 66 = .ok (.ifCond .eq 7, 3) ∧ decode cX3_compileTest 69 = .ok (.iconst 1, 1) ∧ decode cX3_compileTest 70 = .ok (.goto 4, 3) ∧ decode cX3_compileTest 73 = .ok (.iconst 0, 1) ∧ decode cX3_compileTest 74 = .ok (.ireturn, 1) ∧ decode cX3_compileTest 75 = .ok (.aload_n 0, 1) ∧ decode cX3_compileTest 76 = .ok (.aload_n 1, 1) ∧ decode cX3_compileTest 77 = .ok (.iload_n 2, 1) := by decide +kernel
theorem zcdX3_compileTest_78 : decode cX3_compileTest 78 = .ok (.iconst 1, 1) ∧ decode cX3_compileTest 79 = .ok (.iadd, 1) ∧ decode cX3_compileTest 80 = .ok (.invokevirtual 74, 3) ∧ decode cX3_compileTest 83 = .ok (.ifCond .ne 5, 3) ∧ decode cX3_compileTest 86 = .ok (.iconst 0, 1) ∧ decode cX3_compileTest 87 = .ok (.ireturn, 1) ∧ decode cX3_compileTest 88 = .ok (.aload_n 0, 1) ∧ decode cX3_compileTest 89 = .ok (.bipush 33, 2) := by decide +kernel
theorem zcdX3_compileTest_91 : decode cX3_compileTest 91 = .ok (.iconst 0, 1) ∧ decode cX3_compileTest 92 = .ok (.invokevirtual 81, 3) ∧ decode cX3_compileTest 95 = .ok (.iconst 1, 1) ∧ decode cX3_compileTest 96 = .ok (.ireturn, 1) ∧ decode cX3_compileTest 97 = .ok (.aload_n 0, 1) ∧ decode cX3_compileTest 98 = .ok (.aload_n 1, 1) ∧ decode cX3_compileTest 99 = .ok (.iload_n 2, 1) ∧ decode cX3_compileTest 100 = .ok (.invokevirtual 64, 3) := by decide +kernel
theorem zcdX3_compileTest_103 : decode cX3_compileTest 103 = .ok (.ifCond .ne 5, 3) ∧ decode cX3_compileTest 106 = .ok (.iconst 0, 1) ∧ decode cX3_compileTest 107 = .ok (.ireturn, 1) ∧ decode cX3_compileTest 108 = .ok (.aload_n 1, 1) ∧ decode cX3_compileTest 109 = .ok (.invokevirtual 44, 3) ∧ decode cX3_compileTest 112 = .ok (.istore 4, 2) ∧ decode cX3_compileTest 114 = .ok (.iload 4, 2) ∧ decode cX3_compileTest 116 = .ok (.bipush 60, 2) := by decide +kernel
theorem zcdX3_compileTest_118 : decode cX3_compileTest 118 = .ok (.if_icmp .eq 27, 3) ∧ decode cX3_compileTest 121 = .ok (.iload 4, 2) ∧ decode cX3_compileTest 123 = .ok (.bipush 62, 2) ∧ decode cX3_compileTest 125 = .ok (.if_icmp .eq 20, 3) ∧ decode cX3_compileTest 128 = .ok (.iload 4, 2) ∧ decode cX3_compileTest 130 = .ok (.bipush 61, 2) ∧ decode cX3_compileTest 132 = .ok (.if_icmp .eq 13, 3) ∧ decode cX3_compileTest 135 = .ok (.aload_n 1, 1) := by decide +kernel
theorem zcdX3_compileTest_136 : decode cX3_compileTest 136 = .ok (.iconst 1, 1) ∧ decode cX3_compileTest 137 = .ok (.aload_n 1, 1) ∧ decode cX3_compileTest 138 = .ok (.getfield 54, 3) ∧ decode cX3_compileTest 141 = .ok (.invokevirtual 57, 3) ∧ decode cX3_compileTest 144 = .ok (.ireturn, 1) ∧ decode cX3_compileTest 145 = .ok (.aload_n 1, 1) ∧ decode cX3_compileTest 146 = .ok (.dup, 1) ∧ decode cX3_compileTest 147 = .ok (.getfield 54, 3) := by decide +kernel
theorem zcdX3_compileTest_150 : decode cX3_compileTest 150 = .ok (.iconst 1, 1) ∧ decode cX3_compileTest 151 = .ok (.iadd, 1) ∧ decode cX3_compileTest 152 = .ok (.putfield 54, 3) ∧ decode cX3_compileTest 155 = .ok (.aload_n 0, 1) ∧ decode cX3_compileTest 156 = .ok (.aload_n 1, 1) ∧ decode cX3_compileTest 157 = .ok (.iload_n 2, 1) ∧ decode cX3_compileTest 158 = .ok (.invokevirtual 64, 3) ∧ decode cX3_compileTest 161 = .ok (.ifCond .ne 5, 3) := by decide +kernel
theorem zcdX3_compileTest_164 : decode cX3_compileTest 164 = .ok (.iconst 0, 1) ∧ decode cX3_compileTest 165 = .ok (.ireturn, 1) ∧ decode cX3_compileTest 166 = .ok (.aload_n 0, 1) ∧ decode cX3_compileTest 167 = .ok (.iload 4, 2) ∧ decode cX3_compileTest 169 = .ok (.iconst 0, 1) ∧ decode cX3_compileTest 170 = .ok (.invokevirtual 81, 3) ∧ decode cX3_compileTest 173 = .ok (.iconst 1, 1) ∧ decode cX3_compileTest 174 = .ok (.ireturn, 1) := by decide +kernel
theorem zcdX3_compile_0 : decode cX3_compile 0 = .ok (.aload_n 0, 1) ∧ decode cX3_compile 1 = .ok (.iconst 0, 1) ∧ decode cX3_compile 2 = .ok (.putfield 33, 3) ∧ decode cX3_compile 5 = .ok (.aload_n 0, 1) ∧ decode cX3_compile 6 = .ok (.iconst 0, 1) ∧ decode cX3_compile 7 = .ok (.putfield 37, 3) ∧ decode cX3_compile 10 = .ok (.aload_n 0, 1) ∧ decode cX3_compile 11 = .ok (.iconst 0, 1) := by decide +kernel
theorem zcdX3_compile_12 : decode cX3_compile 12 = .ok (.putfield 40, 3) ∧ decode cX3_compile 15 = .ok (.iconst 0, 1) ∧ decode cX3_compile 16 = .ok (.istore_n 2, 1) ∧ decode cX3_compile 17 = .ok (.iload_n 2, 1) ∧ decode cX3_compile 18 = .ok (.bipush 16, 2) ∧ decode cX3_compile 20 = .ok (.if_icmp .gt 190, 3) ∧ decode cX3_compile 23 = .ok (.aload_n 1, 1) ∧ decode cX3_compile 24 = .ok (.invokevirtual 44, 3) := by decide +kernel
theorem zcdX3_compile_27 : decode cX3_compile 27 = .ok (.istore_n 3, 1) ∧ decode cX3_compile 28 = .ok (.iload_n 3, 1) ∧ decode cX3_compile 29 = .ok (.invokestatic 50, 3) ∧ decode cX3_compile 32 = .ok (.ifCond .ne 18, 3) ∧ decode cX3_compile 35 = .ok (.aload_n 1, 1) ∧ decode cX3_compile 36 = .ok (.iconst 1, 1) ∧ decode cX3_compile 37 = .ok (.aload_n 1, 1) ∧ decode cX3_compile 38 = .ok (.getfield 54, 3) := by decide +kernel
theorem zcdX3_compile_41 : decode cX3_compile 41 = .ok (.invokevirtual 57, 3) ∧ decode cX3_compile 44 = .ok (.pop, 1) ∧ decode cX3_compile 45 = .ok (.aload_n 1, 1) ∧ decode cX3_compile 46 = .ok (.getfield 61, 3) ∧ decode cX3_compile 49 = .ok (.ireturn, 1) ∧ decode cX3_compile 50 = .ok (.iload_n 2, 1) ∧ decode cX3_compile 51 = .ok (.bipush 16, 2) ∧ decode cX3_compile 53 = .ok (.if_icmp .ne 18, 3) := by decide +kernel
theorem zcdX3_compile_56 : decode cX3_compile 56 = .ok (.aload_n 1, 1) ∧ decode cX3_compile 57 = .ok (.iconst 4, 1) ∧ decode cX3_compile 58 = .ok (.aload_n 1, 1) ∧ decode cX3_compile 59 = .ok (.getfield 54, 3) ∧ decode cX3_compile 62 = .ok (.invokevirtual 57, 3) ∧ decode cX3_compile 65 = .ok (.pop, 1) ∧ decode cX3_compile 66 = .ok (.aload_n 1, 1) ∧ decode cX3_compile 67 = .ok (.getfield 61, 3) := by decide +kernel
theorem zcdX3_compile_70 : decode cX3_compile 70 = .ok (.ireturn, 1) ∧ decode cX3_compile 71 = .ok (.aload_n 1, 1) ∧ decode cX3_compile 72 = .ok (.dup, 1) ∧ decode cX3_compile 73 = .ok (.getfield 54, 3) ∧ decode cX3_compile 76 = .ok (.iconst 1, 1) ∧ decode cX3_compile 77 = .ok (.iadd, 1) ∧ decode cX3_compile 78 = .ok (.putfield 54, 3) ∧ decode cX3_compile 81 = .ok (.aload_n 0, 1) := by decide +kernel
theorem zcdX3_compile_82 : decode cX3_compile 82 = .ok (.getfield 21, 3) ∧ decode cX3_compile 85 = .ok (.iload_n 2, 1) ∧ decode cX3_compile 86 = .ok (.iload_n 3, 1) ∧ decode cX3_compile 87 = .ok (.iastore, 1) ∧ decode cX3_compile 88 = .ok (.aload_n 0, 1) ∧ decode cX3_compile 89 = .ok (.getfield 24, 3) ∧ decode cX3_compile 92 = .ok (.iload_n 2, 1) ∧ decode cX3_compile 93 = .ok (.aload_n 0, 1) := by decide +kernel
theorem zcdX3_compile_94 : decode cX3_compile 94 = .ok (.getfield 33, 3) ∧ decode cX3_compile 97 = .ok (.iastore, 1) ∧ decode cX3_compile 98 = .ok (.iload_n 3, 1) ∧ decode cX3_compile 99 = .ok (.bipush 120, 2) ∧ decode cX3_compile 101 = .ok (.if_icmp .eq 17, 3) ∧ decode cX3_compile 104 = .ok (.aload_n 0, 1) ∧ decode cX3_compile 105 = .ok (.aload_n 1, 1) ∧ decode cX3_compile 106 = .ok (.iconst 0, 1) := by decide +kernel
theorem zcdX3_compile_107 : decode cX3_compile 107 = .ok (.invokevirtual 64, 3) ∧ decode cX3_compile 110 = .ok (.ifCond .ne 8, 3) ∧ decode cX3_compile 113 = .ok (.aload_n 1, 1) ∧ decode cX3_compile 114 = .ok (.getfield 61, 3) ∧ decode cX3_compile 117 = .ok (.ireturn, 1) ∧ decode cX3_compile 118 = .ok (.aload_n 0, 1) ∧ decode cX3_compile 119 = .ok (.getfield 27, 3) ∧ decode cX3_compile 122 = .ok (.iload_n 2, 1) := by decide +kernel
theorem zcdX3_compile_123 : decode cX3_compile 123 = .ok (.aload_n 0, 1) ∧ decode cX3_compile 124 = .ok (.getfield 33, 3) ∧ decode cX3_compile 127 = .ok (.iastore, 1) ∧ decode cX3_compile 128 = .ok (.aload_n 1, 1) ∧ decode cX3_compile 129 = .ok (.bipush 40, 2) ∧ decode cX3_compile 131 = .ok (.invokevirtual 68, 3) ∧ decode cX3_compile 134 = .ok (.ifCond .eq 21, 3) ∧ decode cX3_compile 137 = .ok (.aload_n 0, 1) := by decide +kernel
theorem zcdX3_compile_138 : decode cX3_compile 138 = .ok (.aload_n 1, 1) ∧ decode cX3_compile 139 = .ok (.iconst 1, 1) ∧ decode cX3_compile 140 = .ok (.invokevirtual 71, 3) ∧ decode cX3_compile 143 = .ok (.ifCond .eq 12, 3) ∧ decode cX3_compile 146 = .ok (.aload_n 1, 1) ∧ decode cX3_compile 147 = .ok (.bipush 41, 2) ∧ decode cX3_compile 149 = .ok (.invokevirtual 68, 3) ∧ decode cX3_compile 152 = .ok (.ifCond .ne 8, 3) := by decide +kernel
theorem zcdX3_compile_155 : decode cX3_compile 155 = .ok (.aload_n 1, 1) ∧ decode cX3_compile 156 = .ok (.getfield 61, 3) ∧ decode cX3_compile 159 = .ok (.ireturn, 1) ∧ decode cX3_compile 160 = .ok (.aload_n 0, 1) ∧ decode cX3_compile 161 = .ok (.getfield 30, 3) ∧ decode cX3_compile 164 = .ok (.iload_n 2, 1) ∧ decode cX3_compile 165 = .ok (.aload_n 0, 1) ∧ decode cX3_compile 166 = .ok (.getfield 33, 3) := by decide +kernel
theorem zcdX3_compile_169 : decode cX3_compile 169 = .ok (.iastore, 1) ∧ decode cX3_compile 170 = .ok (.aload_n 0, 1) ∧ decode cX3_compile 171 = .ok (.iload_n 2, 1) ∧ decode cX3_compile 172 = .ok (.iconst 1, 1) ∧ decode cX3_compile 173 = .ok (.iadd, 1) ∧ decode cX3_compile 174 = .ok (.putfield 37, 3) ∧ decode cX3_compile 177 = .ok (.aload_n 1, 1) ∧ decode cX3_compile 178 = .ok (.invokevirtual 44, 3) := by decide +kernel
theorem zcdX3_compile_181 : decode cX3_compile 181 = .ok (.iconst (-1), 1) ∧ decode cX3_compile 182 = .ok (.if_icmp .ne 8, 3) ∧ decode cX3_compile 185 = .ok (.aload_n 0, 1) ∧ decode cX3_compile 186 = .ok (.getfield 37, 3) ∧ decode cX3_compile 189 = .ok (.ireturn, 1) ∧ decode cX3_compile 190 = .ok (.aload_n 1, 1) ∧ decode cX3_compile 191 = .ok (.bipush 59, 2) ∧ decode cX3_compile 193 = .ok (.invokevirtual 68, 3) := by decide +kernel
theorem zcdX3_compile_196 : decode cX3_compile 196 = .ok (.ifCond .ne 8, 3) ∧ decode cX3_compile 199 = .ok (.aload_n 1, 1) ∧ decode cX3_compile 200 = .ok (.getfield 61, 3) ∧ decode cX3_compile 203 = .ok (.ireturn, 1) ∧ decode cX3_compile 204 = .ok (.iinc 2 1, 3) ∧ decode cX3_compile 207 = .ok (.goto (-190), 3) ∧ decode cX3_compile 210 = .ok (.aload_n 1, 1) ∧ decode cX3_compile 211 = .ok (.getfield 61, 3) := by decide +kernel
theorem zcdX3_compile_214 : decode cX3_compile 214 = .ok (.ireturn, 1) ∧ decode cX3_doesSink 0 = .ok (.iconst 0, 1) ∧ decode cX3_doesSink 1 = .ok (.istore_n 2, 1) ∧ decode cX3_doesSink 2 = .ok (.iload_n 2, 1) ∧ decode cX3_doesSink 3 = .ok (.aload_n 0, 1) ∧ decode cX3_doesSink 4 = .ok (.getfield 37, 3) ∧ decode cX3_doesSink 7 = .ok (.if_icmp .ge 37, 3) ∧ decode cX3_doesSink 10 = .ok (.iload_n 2, 1) := by decide +kernel
theorem zcdX3_doesSink_11 : decode cX3_doesSink 11 = .ok (.bipush 16, 2) ∧ decode cX3_doesSink 13 = .ok (.if_icmp .ge 31, 3) ∧ decode cX3_doesSink 16 = .ok (.aload_n 0, 1) ∧ decode cX3_doesSink 17 = .ok (.getfield 21, 3) ∧ decode cX3_doesSink 20 = .ok (.iload_n 2, 1) ∧ decode cX3_doesSink 21 = .ok (.iaload, 1) ∧ decode cX3_doesSink 22 = .ok (.bipush 120, 2) ∧ decode cX3_doesSink 24 = .ok (.if_icmp .ne 14, 3) := by decide +kernel
theorem zcdX3_doesSink_27 : decode cX3_doesSink 27 = .ok (.aload_n 0, 1) ∧ decode cX3_doesSink 28 = .ok (.iload_n 2, 1) ∧ decode cX3_doesSink 29 = .ok (.aload_n 1, 1) ∧ decode cX3_doesSink 30 = .ok (.invokevirtual 100, 3) ∧ decode cX3_doesSink 33 = .ok (.ifCond .eq 5, 3) ∧ decode cX3_doesSink 36 = .ok (.iconst 1, 1) ∧ decode cX3_doesSink 37 = .ok (.ireturn, 1) ∧ decode cX3_doesSink 38 = .ok (.iinc 2 1, 3) := by decide +kernel
theorem zcdX3_doesSink_41 : decode cX3_doesSink 41 = .ok (.goto (-39), 3) ∧ decode cX3_doesSink 44 = .ok (.iconst 0, 1) ∧ decode cX3_doesSink 45 = .ok (.ireturn, 1) ∧ decode cX4_isFooting 0 = .ok (.iload_n 2, 1) ∧ decode cX4_isFooting 1 = .ok (.ifCond .eq 9, 3) ∧ decode cX4_isFooting 4 = .ok (.iload_n 2, 1) ∧ decode cX4_isFooting 5 = .ok (.bipush 21, 2) ∧ decode cX4_isFooting 7 = .ok (.if_icmp .ne 19, 3) := by decide +kernel
theorem zcdX4_isFooting_10 : decode cX4_isFooting 10 = .ok (.iload_n 1, 1) ∧ decode cX4_isFooting 11 = .ok (.ifCond .lt 13, 3) ∧ decode cX4_isFooting 14 = .ok (.iload_n 1, 1) ∧ decode cX4_isFooting 15 = .ok (.bipush 39, 2) ∧ decode cX4_isFooting 17 = .ok (.if_icmp .gt 7, 3) ∧ decode cX4_isFooting 20 = .ok (.iconst 1, 1) ∧ decode cX4_isFooting 21 = .ok (.goto 4, 3) ∧ decode cX4_isFooting 24 = .ok (.iconst 0, 1) := by decide +kernel
theorem zcdX4_isFooting_25 : decode cX4_isFooting 25 = .ok (.ireturn, 1) ∧ decode cX4_isFooting 26 = .ok (.aload_n 0, 1) ∧ decode cX4_isFooting 27 = .ok (.aload_n 0, 1) ∧ decode cX4_isFooting 28 = .ok (.iload_n 1, 1) ∧ decode cX4_isFooting 29 = .ok (.iload_n 2, 1) ∧ decode cX4_isFooting 30 = .ok (.invokevirtual 85, 3) ∧ decode cX4_isFooting 33 = .ok (.invokevirtual 90, 3) ∧ decode cX4_isFooting 36 = .ok (.ireturn, 1) := by decide +kernel
set_option maxHeartbeats 4000000 in
theorem t_X3_compileSum (c : Nat) (hc : isL c) (dS : Nat) (S_X3_compileFactor : Mem → Int32 → Option (Int32 × Mem)) (hS_X3_compileFactor : ∀ (v2 : Int32) (M : Mem), AXi yX3_compileFactor cX3_compileFactor 5 (some .boolean) dS 60 glC (fun ad => [.ref (ad c), .ref (ad 19), .int v2]) M (S_X3_compileFactor M v2)) (v2 : Int32) (M : Mem) : AXi yX3_compileSum cX3_compileSum 7 (some .boolean) (dS + 1) 60 glC (fun ad => [.ref (ad c), .ref (ad 19), .int v2]) M (f_X3_compileSum S_X3_compileFactor c M v2) := by
  intro r0 h
  refine AM.of (by decide) (fun _ => Nat.le_of_ble_eq_true rfl) (fun X ad cI cZ cB hX hR => ?_)
  show V X M [(0, .ref (ad c)), (1, .ref (ad 19)), (2, .int v2)] [] 0
  refine s_iconst (v := (nI 0)) hX zcdX3_compileSum_0.1 (by decide) ?_
  refine s_istore_n (lv' := [(0, .ref (ad c)), (1, .ref (ad 19)), (2, .int v2), (3, .int (nI 0))]) hX zcdX3_compileSum_0.2.1 rfl (by decide) rfl ?_
  refine s_iconst (v := (nI 0)) hX zcdX3_compileSum_0.2.2.1 (by decide) ?_
  refine s_istore (lv' := [(0, .ref (ad c)), (1, .ref (ad 19)), (2, .int v2), (3, .int (nI 0)), (4, .int (nI 0))]) hX zcdX3_compileSum_0.2.2.2.1 (by decide) rfl ?_
  refine s_iconst (v := (nI 0)) hX zcdX3_compileSum_0.2.2.2.2.1 (by decide) ?_
  refine s_istore (lv' := [(0, .ref (ad c)), (1, .ref (ad 19)), (2, .int v2), (3, .int (nI 0)), (4, .int (nI 0)), (5, .int (nI 0))]) hX zcdX3_compileSum_0.2.2.2.2.2.1 (by decide) rfl ?_
  have lp8 : ∀ (N8 : Nat) (M8 : Mem) (y3_8 : Int32) (y4_8 : Int32) (y5_8 : Int32), wlp4 (f_X3_compileSum_B8 S_X3_compileFactor c v2) N8 M8 y3_8 y4_8 y5_8 = some r0 → V X M8 [(0, .ref (ad c)), (1, .ref (ad 19)), (2, .int v2), (3, .int y3_8), (4, .int y4_8), (5, .int y5_8)] [] 8 := by
    intro N8
    induction N8 with
    | zero => exact fun _ _ _ _ h => e_none h
    | succ N8 ih8 =>
      intro M8 y3_8 y4_8 y5_8 h
      replace h : f_X3_compileSum_B8 S_X3_compileFactor c v2 (wlp4 (f_X3_compileSum_B8 S_X3_compileFactor c v2) N8) M8 y3_8 y4_8 y5_8 = some r0 := h
      generalize wlp4 (f_X3_compileSum_B8 S_X3_compileFactor c v2) N8 = ag8 at ih8 h
      refine s_iload (k := 5) hX zcdX3_compileSum_0.2.2.2.2.2.2.1 rfl ?_
      refine s_sipush (v := (nI 240)) hX zcdX3_compileSum_0.2.2.2.2.2.2.2 (by decide) ?_
      have j124 : f_X3_compileSum_L124 M8 = some r0 → V X M8 [(1, .ref (ad 19))] [] 124 := by
        intro  h
        refine s_aload_n (k := 0) hX zcdX3_compileSum_124.1 rfl rfl ?_
        refine s_iconst (v := (nI 1)) hX zcdX3_compileSum_124.2.1 (by decide) ?_
        refine s_aload_n (k := 0) hX zcdX3_compileSum_124.2.2.1 rfl rfl ?_
        refine s_get hX fX3_54 oC19 rfl zcdX3_compileSum_124.2.2.2.1 ?_
        refine e_callVi hX (t_X7_refuse (nI 1) (M8 19 3) M8) mX7_refuse lX3_57 (by omega) (by decide) oC19 rfl rfl rfl rfl rfl (Nat.le_of_ble_eq_true rfl) zcdX3_compileSum_124.2.2.2.2.1 h (fun r_1 M_2 h => ?_)
        exact e_zreti hX hR zcdX3_compileSum_124.2.2.2.2.2.1 h
      refine e_icmp_ge (tgt := 124) hX zcdX3_compileSum_13.1 (by decide) (m_ge (by decide +kernel)) h (fun h => ?_) (fun h => ?_)
      · refine s_loc [1] rfl ?_
        exact j124 h
      · refine s_aload_n (k := 0) hX zcdX3_compileSum_13.2.1 rfl rfl ?_
        refine s_aload_n (k := 1) hX zcdX3_compileSum_13.2.2.1 rfl rfl ?_
        refine s_iload_n (k := 2) hX zcdX3_compileSum_13.2.2.2.1 rfl rfl ?_
        refine e_callVi hX (hS_X3_compileFactor v2 M8) mX3_compileFactor lX3_85 (by omega) (by decide) (oL hc) rfl rfl rfl rfl rfl (Nat.le_of_ble_eq_true rfl) zcdX3_compileSum_13.2.2.2.2.1 h (fun r_3 M_4 h => ?_)
        refine e_if_ne (tgt := 27) hX zcdX3_compileSum_13.2.2.2.2.2.1 (by decide) z_eq h (fun h => ?_) (fun h => ?_)
        · refine s_iload (k := 4) hX zcdX3_compileSum_27.1 rfl ?_
          have j39 : ∀ (N39 : Mem), f_X3_compileSum_L39 c ag8 y3_8 y5_8 N39 = some r0 → V X N39 [(0, .ref (ad c)), (1, .ref (ad 19)), (2, .int v2), (3, .int y3_8), (5, .int y5_8)] [] 39 := by
            intro N39 h
            refine s_aload_n (k := 1) hX zcdX3_compileSum_27.2.2.2.2.2.2.1 rfl rfl ?_
            refine e_callVp hX (t_X7_here N39) mX7_here lX3_44 (by omega) (by decide) oC19 rfl rfl rfl rfl rfl (Nat.le_of_ble_eq_true rfl) zcdX3_compileSum_27.2.2.2.2.2.2.2 h (fun r_5 h => ?_)
            refine s_istore (lv' := [(0, .ref (ad c)), (1, .ref (ad 19)), (2, .int v2), (3, .int y3_8), (5, .int y5_8), (6, .int r_5)]) hX zcdX3_compileSum_43.1 (by decide) rfl ?_
            refine s_iload (k := 5) hX zcdX3_compileSum_43.2.1 rfl ?_
            refine s_bipush (v := (nI 42)) hX zcdX3_compileSum_43.2.2.1 (by decide) ?_
            have j72 : ∀ (t0_72 : Int32), f_X3_compileSum_L72 c ag8 y3_8 y5_8 N39 r_5 t0_72 = some r0 → V X N39 [(0, .ref (ad c)), (1, .ref (ad 19)), (2, .int v2), (3, .int y3_8), (5, .int y5_8), (6, .int r_5)] [.int t0_72] 72 := by
              intro t0_72 h
              refine s_istore (lv' := [(0, .ref (ad c)), (1, .ref (ad 19)), (2, .int v2), (3, .int y3_8), (5, .int y5_8), (6, .int r_5), (4, .int t0_72)]) hX zcdX3_compileSum_61.2.2.2.2.2.1 (by decide) rfl ?_
              refine s_iload (k := 6) hX zcdX3_compileSum_61.2.2.2.2.2.2.1 rfl ?_
              have j108 : ∀ (N108 : Mem) (z3_108 : Int32), f_X3_compileSum_L108 ag8 y5_8 t0_72 N108 z3_108 = some r0 → V X N108 [(0, .ref (ad c)), (1, .ref (ad 19)), (2, .int v2), (3, .int z3_108), (4, .int t0_72), (5, .int y5_8)] [] 108 := by
                intro N108 z3_108 h
                refine s_aload_n (k := 1) hX zcdX3_compileSum_108.1 rfl rfl ?_
                refine s_dup hX zcdX3_compileSum_108.2.1 rfl ?_
                refine s_get hX fX3_54 oC19 rfl zcdX3_compileSum_108.2.2.1 ?_
                refine s_iconst (v := (nI 1)) hX zcdX3_compileSum_108.2.2.2.1 (by decide) ?_
                refine s_iadd hX zcdX3_compileSum_108.2.2.2.2.1 ?_
                refine s_puti (ty := .int) hX fX3_54 oC19 rfl (Nat.le_of_ble_eq_true rfl) ty_7_3 rfl rfl zcdX3_compileSum_108.2.2.2.2.2.1 ?_
                refine e_bndM h (fun M_6 h => ?_)
                refine s_iinc (k := 5) (v := (y5_8 + (nI 1))) (lv' := [(0, .ref (ad c)), (1, .ref (ad 19)), (2, .int v2), (3, .int z3_108), (4, .int t0_72), (5, .int (y5_8 + (nI 1)))]) hX zcdX3_compileSum_108.2.2.2.2.2.2.1 (congrArg (fun z => y5_8 + z) (by decide)) (by decide) rfl rfl ?_
                refine s_goto (tgt := 8) hX zcdX3_compileSum_108.2.2.2.2.2.2.2 (by decide) ?_
                exact ih8 M_6 z3_108 t0_72 (y5_8 + (nI 1)) h
              refine e_if_ne (tgt := 108) hX zcdX3_compileSum_61.2.2.2.2.2.2.2 (by decide) z_eq h (fun h => ?_) (fun h => ?_)
              · refine s_loc [0, 1, 2, 3, 6, 4] rfl ?_
                exact j108 N39 y3_8 h
              · refine s_iload_n (k := 3) hX zcdX3_compileSum_79.1 rfl rfl ?_
                have j89 : ∀ (N89 : Mem), f_X3_compileSum_L89 ag8 y5_8 r_5 t0_72 N89 = some r0 → V X N89 [(0, .ref (ad c)), (1, .ref (ad 19)), (2, .int v2), (4, .int t0_72), (5, .int y5_8), (6, .int r_5)] [] 89 := by
                  intro N89 h
                  refine s_iload (k := 5) hX zcdX3_compileSum_79.2.2.2.2.2.2.1 rfl ?_
                  refine s_bipush (v := (nI 43)) hX zcdX3_compileSum_79.2.2.2.2.2.2.2 (by decide) ?_
                  have j105 : f_X3_compileSum_L105 ag8 y5_8 r_5 t0_72 N89 = some r0 → V X N89 [(0, .ref (ad c)), (1, .ref (ad 19)), (2, .int v2), (4, .int t0_72), (5, .int y5_8), (6, .int r_5)] [] 105 := by
                    intro  h
                    refine s_iload (k := 5) hX zcdX3_compileSum_93.2.2.2.2.2.2.1 rfl ?_
                    refine s_istore_n (lv' := [(0, .ref (ad c)), (1, .ref (ad 19)), (2, .int v2), (4, .int t0_72), (5, .int y5_8), (6, .int r_5), (3, .int r_5)]) hX zcdX3_compileSum_93.2.2.2.2.2.2.2 rfl (by decide) rfl ?_
                    refine s_loc [0, 1, 2, 6, 3, 4] rfl ?_
                    exact j108 N89 r_5 h
                  refine e_icmp_eq (tgt := 105) hX zcdX3_compileSum_93.1 (by decide) (m_eq (by decide +kernel)) h (fun h => ?_) (fun h => ?_)
                  · exact j105 h
                  · refine s_iload (k := 5) hX zcdX3_compileSum_93.2.1 rfl ?_
                    refine s_bipush (v := (nI 45)) hX zcdX3_compileSum_93.2.2.1 (by decide) ?_
                    refine e_icmp_eq (tgt := 105) hX zcdX3_compileSum_93.2.2.2.1 (by decide) (m_eq (by decide +kernel)) h (fun h => ?_) (fun h => ?_)
                    · exact j105 h
                    · refine s_iconst (v := (nI 1)) hX zcdX3_compileSum_93.2.2.2.2.1 (by decide) ?_
                      exact e_zretiL hX hR zcdX3_compileSum_93.2.2.2.2.2.1 (by decide) h
                refine e_if_eq (tgt := 89) hX zcdX3_compileSum_79.2.1 (by decide) z_eq h (fun h => ?_) (fun h => ?_)
                · refine s_loc [0, 1, 2, 6, 4, 5] rfl ?_
                  exact j89 N39 h
                · refine s_aload_n (k := 0) hX zcdX3_compileSum_79.2.2.1 rfl rfl ?_
                  refine s_iload_n (k := 3) hX zcdX3_compileSum_79.2.2.2.1 rfl rfl ?_
                  refine s_iconst (v := (nI 0)) hX zcdX3_compileSum_79.2.2.2.2.1 (by decide) ?_
                  refine e_callVv hX (t_X3_order c hc y3_8 (nI 0) N39) mX3_order lX3_81 (by omega) (by decide) (oL hc) rfl rfl rfl rfl rfl (Nat.le_of_ble_eq_true rfl) zcdX3_compileSum_79.2.2.2.2.2.1 h (fun M_7 h => ?_)
                  refine s_loc [0, 1, 2, 6, 4, 5] rfl ?_
                  exact j89 M_7 h
            have j66 : f_X3_compileSum_L66 c ag8 y3_8 y5_8 N39 r_5 = some r0 → V X N39 [(0, .ref (ad c)), (1, .ref (ad 19)), (2, .int v2), (3, .int y3_8), (5, .int y5_8), (6, .int r_5)] [] 66 := by
              intro  h
              refine s_iload (k := 5) hX zcdX3_compileSum_61.2.2.1 rfl ?_
              refine s_goto (tgt := 72) hX zcdX3_compileSum_61.2.2.2.1 (by decide) ?_
              exact j72 r_5 h
            refine e_icmp_eq (tgt := 66) hX zcdX3_compileSum_43.2.2.2.1 (by decide) (m_eq (by decide +kernel)) h (fun h => ?_) (fun h => ?_)
            · exact j66 h
            · refine s_iload (k := 5) hX zcdX3_compileSum_43.2.2.2.2.1 rfl ?_
              refine s_bipush (v := (nI 47)) hX zcdX3_compileSum_43.2.2.2.2.2.1 (by decide) ?_
              refine e_icmp_eq (tgt := 66) hX zcdX3_compileSum_43.2.2.2.2.2.2.1 (by decide) (m_eq (by decide +kernel)) h (fun h => ?_) (fun h => ?_)
              · exact j66 h
              · refine s_iload (k := 5) hX zcdX3_compileSum_43.2.2.2.2.2.2.2 rfl ?_
                refine s_bipush (v := (nI 37)) hX zcdX3_compileSum_61.1 (by decide) ?_
                refine e_icmp_ne (tgt := 71) hX zcdX3_compileSum_61.2.1 (by decide) (m_eq (by decide +kernel)) h (fun h => ?_) (fun h => ?_)
                · refine s_iconst (v := (nI 0)) hX zcdX3_compileSum_61.2.2.2.2.1 (by decide) ?_
                  exact j72 (nI 0) h
                · exact j66 h
          refine e_if_eq (tgt := 39) hX zcdX3_compileSum_27.2.1 (by decide) z_eq h (fun h => ?_) (fun h => ?_)
          · refine s_loc [0, 1, 2, 3, 5] rfl ?_
            exact j39 M_4 h
          · refine s_aload_n (k := 0) hX zcdX3_compileSum_27.2.2.1 rfl rfl ?_
            refine s_iload (k := 4) hX zcdX3_compileSum_27.2.2.2.1 rfl ?_
            refine s_iconst (v := (nI 0)) hX zcdX3_compileSum_27.2.2.2.2.1 (by decide) ?_
            refine e_callVv hX (t_X3_order c hc y4_8 (nI 0) M_4) mX3_order lX3_81 (by omega) (by decide) (oL hc) rfl rfl rfl rfl rfl (Nat.le_of_ble_eq_true rfl) zcdX3_compileSum_27.2.2.2.2.2.1 h (fun M_8 h => ?_)
            refine s_loc [0, 1, 2, 3, 5] rfl ?_
            exact j39 M_8 h
        · refine s_iconst (v := (nI 0)) hX zcdX3_compileSum_13.2.2.2.2.2.2.1 (by decide) ?_
          exact e_zretiL hX hR zcdX3_compileSum_13.2.2.2.2.2.2.2 (by decide) h
  exact lp8 FU M (nI 0) (nI 0) (nI 0) h
set_option maxHeartbeats 4000000 in
theorem t_X3_compileFactor (c : Nat) (hc : isL c) (dS : Nat) (S_X3_compileSum : Mem → Int32 → Option (Int32 × Mem)) (hS_X3_compileSum : ∀ (v2 : Int32) (M : Mem), AXi yX3_compileSum cX3_compileSum 7 (some .boolean) dS 60 glC (fun ad => [.ref (ad c), .ref (ad 19), .int v2]) M (S_X3_compileSum M v2)) (v2 : Int32) (M : Mem) : AXi yX3_compileFactor cX3_compileFactor 5 (some .boolean) (dS + 2) 60 glC (fun ad => [.ref (ad c), .ref (ad 19), .int v2]) M (f_X3_compileFactor S_X3_compileSum c M v2) := by
  intro r0 h
  refine AM.of (by decide) (fun _ => Nat.le_of_ble_eq_true rfl) (fun X ad cI cZ cB hX hR => ?_)
  show V X M [(0, .ref (ad c)), (1, .ref (ad 19)), (2, .int v2)] [] 0
  refine s_aload_n (k := 1) hX zcdX3_compileSum_124.2.2.2.2.2.2.1 rfl rfl ?_
  refine e_callVp hX (t_X7_here M) mX7_here lX3_44 (by omega) (by decide) oC19 rfl rfl rfl rfl rfl (Nat.le_of_ble_eq_true rfl) zcdX3_compileSum_124.2.2.2.2.2.2.2 h (fun r_1 h => ?_)
  refine s_istore_n (lv' := [(0, .ref (ad c)), (1, .ref (ad 19)), (2, .int v2), (3, .int r_1)]) hX zcdX3_compileFactor_4.1 rfl (by decide) rfl ?_
  refine s_iload_n (k := 3) hX zcdX3_compileFactor_4.2.1 rfl rfl ?_
  refine s_bipush (v := (nI 91)) hX zcdX3_compileFactor_4.2.2.1 (by decide) ?_
  refine e_icmp_ne (tgt := 63) hX zcdX3_compileFactor_4.2.2.2.1 (by decide) (m_eq (by decide +kernel)) h (fun h => ?_) (fun h => ?_)
  · refine s_iload_n (k := 3) hX zcdX3_compileFactor_61.2.2.1 rfl rfl ?_
    refine e_callSp hX (t_X7_isDigit r_1 M) mX7_isDigit lX3_88 (by omega) (by decide) rfl rfl (Nat.le_of_ble_eq_true rfl) zcdX3_compileFactor_61.2.2.2.1 h (fun r_2 h => ?_)
    refine e_if_eq (tgt := 97) hX zcdX3_compileFactor_61.2.2.2.2.1 (by decide) z_eq h (fun h => ?_) (fun h => ?_)
    · refine s_iload_n (k := 3) hX zcdX3_compileFactor_91.2.2.2.2.1 rfl rfl ?_
      refine e_callSp hX (t_X5_indexOf r_1 M) mX5_indexOf lX3_95 (by omega) (by decide) rfl rfl (Nat.le_of_ble_eq_true rfl) zcdX3_compileFactor_91.2.2.2.2.2.1 h (fun r_3 h => ?_)
      refine s_istore (lv' := [(0, .ref (ad c)), (1, .ref (ad 19)), (2, .int v2), (3, .int r_1), (4, .int r_3)]) hX zcdX3_compileFactor_91.2.2.2.2.2.2.1 (by decide) rfl ?_
      refine s_iload (k := 4) hX zcdX3_compileFactor_91.2.2.2.2.2.2.2 rfl ?_
      refine s_iconst (v := (-1)) hX zcdX3_compileFactor_105.1 (by decide) ?_
      refine e_icmp_ne (tgt := 119) hX zcdX3_compileFactor_105.2.1 (by decide) (m_eq (by decide +kernel)) h (fun h => ?_) (fun h => ?_)
      · refine s_aload_n (k := 0) hX zcdX3_compileFactor_119.1 rfl rfl ?_
        refine s_dup hX zcdX3_compileFactor_119.2.1 rfl ?_
        refine s_get hX fX3_40 (oL hc) rfl zcdX3_compileFactor_119.2.2.1 ?_
        refine s_iload (k := 4) hX zcdX3_compileFactor_119.2.2.2.1 rfl ?_
        refine s_iconst (v := (nI 5)) hX zcdX3_compileFactor_119.2.2.2.2.1 (by decide) ?_
        have j135 : ∀ (t0_135 : Int32), f_X3_compileFactor_L135 c M r_3 t0_135 = some r0 → V X M [(0, .ref (ad c)), (1, .ref (ad 19)), (4, .int r_3)] [.int t0_135, .int (M c 9), .ref (ad c)] 135 := by
          intro t0_135 h
          refine s_ior hX zcdX3_compileFactor_134.2.1 ?_
          refine e_putz hX fX3_40 (oL hc) rfl (Nat.le_of_ble_eq_true rfl) ty_3_9 zcdX3_compileFactor_134.2.2.1 h (fun h => ?_)
          refine e_bndM h (fun M_4 h => ?_)
          refine s_aload_n (k := 1) hX zcdX3_compileFactor_134.2.2.2.1 rfl rfl ?_
          refine s_dup hX zcdX3_compileFactor_134.2.2.2.2.1 rfl ?_
          refine s_get hX fX3_54 oC19 rfl zcdX3_compileFactor_134.2.2.2.2.2.1 ?_
          refine s_iconst (v := (nI 1)) hX zcdX3_compileFactor_134.2.2.2.2.2.2.1 (by decide) ?_
          refine s_iadd hX zcdX3_compileFactor_134.2.2.2.2.2.2.2 ?_
          refine s_puti (ty := .int) hX fX3_54 oC19 rfl (Nat.le_of_ble_eq_true rfl) ty_7_3 rfl rfl zcdX3_compileFactor_146.1 ?_
          refine e_bndM h (fun M_5 h => ?_)
          refine s_aload_n (k := 0) hX zcdX3_compileFactor_146.2.1 rfl rfl ?_
          refine s_bipush (v := (nI 97)) hX zcdX3_compileFactor_146.2.2.1 (by decide) ?_
          refine s_iload (k := 2) hX zcdX3_compileFactor_146.2.2.2.1 rfl ?_
          refine e_callVv hX (t_X3_order c hc (nI 97) r_3 M_5) mX3_order lX3_81 (by omega) (by decide) (oL hc) rfl rfl rfl rfl rfl (Nat.le_of_ble_eq_true rfl) zcdX3_compileFactor_146.2.2.2.2.1 h (fun M_6 h => ?_)
          refine s_iconst (v := (nI 1)) hX zcdX3_compileFactor_146.2.2.2.2.2.1 (by decide) ?_
          exact e_zretiL hX hR zcdX3_compileFactor_146.2.2.2.2.2.2.1 (by decide) h
        refine e_icmp_ne (tgt := 134) hX zcdX3_compileFactor_119.2.2.2.2.2.1 (by decide) (m_eq (by decide +kernel)) h (fun h => ?_) (fun h => ?_)
        · refine s_iconst (v := (nI 0)) hX zcdX3_compileFactor_134.1 (by decide) ?_
          refine s_loc [0, 1, 4] rfl ?_
          exact j135 (nI 0) h
        · refine s_iconst (v := (nI 1)) hX zcdX3_compileFactor_119.2.2.2.2.2.2.1 (by decide) ?_
          refine s_goto (tgt := 135) hX zcdX3_compileFactor_119.2.2.2.2.2.2.2 (by decide) ?_
          refine s_loc [0, 1, 4] rfl ?_
          exact j135 (nI 1) h
      · refine s_aload_n (k := 1) hX zcdX3_compileFactor_105.2.2.1 rfl rfl ?_
        refine s_iconst (v := (nI 1)) hX zcdX3_compileFactor_105.2.2.2.1 (by decide) ?_
        refine s_aload_n (k := 1) hX zcdX3_compileFactor_105.2.2.2.2.1 rfl rfl ?_
        refine s_get hX fX3_54 oC19 rfl zcdX3_compileFactor_105.2.2.2.2.2.1 ?_
        refine e_callVi hX (t_X7_refuse (nI 1) (M 19 3) M) mX7_refuse lX3_57 (by omega) (by decide) oC19 rfl rfl rfl rfl rfl (Nat.le_of_ble_eq_true rfl) zcdX3_compileFactor_105.2.2.2.2.2.2.1 h (fun r_7 M_8 h => ?_)
        exact e_zreti hX hR zcdX3_compileFactor_105.2.2.2.2.2.2.2 h
    · refine s_aload_n (k := 1) hX zcdX3_compileFactor_61.2.2.2.2.2.1 rfl rfl ?_
      refine s_iconst (v := (nI 5)) hX zcdX3_compileFactor_61.2.2.2.2.2.2.1 (by decide) ?_
      refine e_callVi hX (t_X7_number (nI 5) M) mX7_number lX3_91 (by omega) (by decide) oC19 rfl rfl rfl rfl rfl (Nat.le_of_ble_eq_true rfl) zcdX3_compileFactor_61.2.2.2.2.2.2.2 h (fun r_9 M_10 h => ?_)
      refine s_istore (lv' := [(0, .ref (ad c)), (1, .ref (ad 19)), (2, .int v2), (3, .int r_1), (4, .int r_9)]) hX zcdX3_compileFactor_75.1 (by decide) rfl ?_
      refine s_aload_n (k := 0) hX zcdX3_compileFactor_75.2.1 rfl rfl ?_
      refine s_bipush (v := (nI 48)) hX zcdX3_compileFactor_75.2.2.1 (by decide) ?_
      refine s_iload (k := 4) hX zcdX3_compileFactor_75.2.2.2.1 rfl ?_
      refine e_callVv hX (t_X3_order c hc (nI 48) r_9 M_10) mX3_order lX3_81 (by omega) (by decide) (oL hc) rfl rfl rfl rfl rfl (Nat.le_of_ble_eq_true rfl) zcdX3_compileFactor_75.2.2.2.2.1 h (fun M_11 h => ?_)
      refine s_iload (k := 4) hX zcdX3_compileFactor_75.2.2.2.2.2.1 rfl ?_
      refine s_iconst (v := (-1)) hX zcdX3_compileFactor_75.2.2.2.2.2.2.1 (by decide) ?_
      refine e_icmp_eq (tgt := 95) hX zcdX3_compileFactor_75.2.2.2.2.2.2.2 (by decide) (m_eq (by decide +kernel)) h (fun h => ?_) (fun h => ?_)
      · refine s_iconst (v := (nI 0)) hX zcdX3_compileFactor_91.2.2.1 (by decide) ?_
        exact e_zretiL hX hR zcdX3_compileFactor_91.2.2.2.1 (by decide) h
      · refine s_iconst (v := (nI 1)) hX zcdX3_compileFactor_91.1 (by decide) ?_
        refine s_goto (tgt := 96) hX zcdX3_compileFactor_91.2.1 (by decide) ?_
        exact e_zretiL hX hR zcdX3_compileFactor_91.2.2.2.1 (by decide) h
  · refine s_iload_n (k := 2) hX zcdX3_compileFactor_4.2.2.2.2.1 rfl rfl ?_
    refine s_bipush (v := (nI 6)) hX zcdX3_compileFactor_4.2.2.2.2.2.1 (by decide) ?_
    refine e_icmp_lt (tgt := 27) hX zcdX3_compileFactor_4.2.2.2.2.2.2.1 (by decide) (m_lt (by decide +kernel)) h (fun h => ?_) (fun h => ?_)
    · refine s_aload_n (k := 1) hX zcdX3_compileFactor_18.2.2.2.2.2.1 rfl rfl ?_
      refine s_dup hX zcdX3_compileFactor_18.2.2.2.2.2.2.1 rfl ?_
      refine s_get hX fX3_54 oC19 rfl zcdX3_compileFactor_18.2.2.2.2.2.2.2 ?_
      refine s_iconst (v := (nI 1)) hX zcdX3_compileFactor_32.1 (by decide) ?_
      refine s_iadd hX zcdX3_compileFactor_32.2.1 ?_
      refine s_puti (ty := .int) hX fX3_54 oC19 rfl (Nat.le_of_ble_eq_true rfl) ty_7_3 rfl rfl zcdX3_compileFactor_32.2.2.1 ?_
      refine e_bndM h (fun M_12 h => ?_)
      refine s_aload_n (k := 0) hX zcdX3_compileFactor_32.2.2.2.1 rfl rfl ?_
      refine s_aload_n (k := 1) hX zcdX3_compileFactor_32.2.2.2.2.1 rfl rfl ?_
      refine s_iload_n (k := 2) hX zcdX3_compileFactor_32.2.2.2.2.2.1 rfl rfl ?_
      refine s_iconst (v := (nI 1)) hX zcdX3_compileFactor_32.2.2.2.2.2.2.1 (by decide) ?_
      refine s_iadd hX zcdX3_compileFactor_32.2.2.2.2.2.2.2 ?_
      refine e_callVi hX (hS_X3_compileSum (v2 + (nI 1)) M_12) mX3_compileSum lX3_64 (by omega) (by decide) (oL hc) rfl rfl rfl rfl rfl (Nat.le_of_ble_eq_true rfl) zcdX3_compileFactor_42.1 h (fun r_13 M_14 h => ?_)
      refine e_if_eq (tgt := 61) hX zcdX3_compileFactor_42.2.1 (by decide) z_eq h (fun h => ?_) (fun h => ?_)
      · refine s_iconst (v := (nI 0)) hX zcdX3_compileFactor_61.1 (by decide) ?_
        exact e_zretiL hX hR zcdX3_compileFactor_61.2.1 (by decide) h
      · refine s_aload_n (k := 1) hX zcdX3_compileFactor_42.2.2.1 rfl rfl ?_
        refine s_bipush (v := (nI 93)) hX zcdX3_compileFactor_42.2.2.2.1 (by decide) ?_
        refine e_callVi hX (t_X7_skip (nI 93) M_14) mX7_skip lX3_68 (by omega) (by decide) oC19 rfl rfl rfl rfl rfl (Nat.le_of_ble_eq_true rfl) zcdX3_compileFactor_42.2.2.2.2.1 h (fun r_15 M_16 h => ?_)
        refine e_if_eq (tgt := 61) hX zcdX3_compileFactor_42.2.2.2.2.2.1 (by decide) z_eq h (fun h => ?_) (fun h => ?_)
        · refine s_iconst (v := (nI 0)) hX zcdX3_compileFactor_61.1 (by decide) ?_
          exact e_zretiL hX hR zcdX3_compileFactor_61.2.1 (by decide) h
        · refine s_iconst (v := (nI 1)) hX zcdX3_compileFactor_42.2.2.2.2.2.2.1 (by decide) ?_
          refine s_goto (tgt := 62) hX zcdX3_compileFactor_42.2.2.2.2.2.2.2 (by decide) ?_
          exact e_zretiL hX hR zcdX3_compileFactor_61.2.1 (by decide) h
    · refine s_aload_n (k := 1) hX zcdX3_compileFactor_4.2.2.2.2.2.2.2 rfl rfl ?_
      refine s_iconst (v := (nI 5)) hX zcdX3_compileFactor_18.1 (by decide) ?_
      refine s_aload_n (k := 1) hX zcdX3_compileFactor_18.2.1 rfl rfl ?_
      refine s_get hX fX3_54 oC19 rfl zcdX3_compileFactor_18.2.2.1 ?_
      refine e_callVi hX (t_X7_refuse (nI 5) (M 19 3) M) mX7_refuse lX3_57 (by omega) (by decide) oC19 rfl rfl rfl rfl rfl (Nat.le_of_ble_eq_true rfl) zcdX3_compileFactor_18.2.2.2.1 h (fun r_17 M_18 h => ?_)
      exact e_zreti hX hR zcdX3_compileFactor_18.2.2.2.2.1 h
theorem tg_sum (c : Nat) (hc : isL c) : ∀ (n : Nat) (v2 : Int32) (M : Mem), AXi yX3_compileSum cX3_compileSum 7 (some .boolean) (3 * n) 60 glC (fun ad => [.ref (ad c), .ref (ad 19), .int v2]) M (g_sum c n M v2)
  | 0 => fun _ _ r0 h => nomatch h
  | n + 1 => fun v2 M => by
    have e : 3 * (n + 1) = 3 * n + 2 + 1 := by omega
    rw [e]
    exact t_X3_compileSum c hc (3 * n + 2) _ (t_X3_compileFactor c hc (3 * n) _ (tg_sum c hc n)) v2 M
set_option maxHeartbeats 4000000 in
theorem t_X3_landHere (c : Nat) (hc : isL c) (v1 : Int32) (M : Mem) : AXv yX3_landHere cX3_landHere 2 none 0 60 glC (fun ad => [.ref (ad c), .int v1]) M (f_X3_landHere c M v1) := by
  intro r0 h
  refine AM.of (by decide) (fun _ => Nat.le_of_ble_eq_true rfl) (fun X ad cI cZ cB hX hR => ?_)
  show V X M [(0, .ref (ad c)), (1, .int v1)] [] 0
  refine s_iload_n (k := 1) hX zcdX3_compileFactor_146.2.2.2.2.2.2.2 rfl rfl ?_
  refine e_if_lt (tgt := 29) hX zcdX3_landHere_1.1 (by decide) z_lt h (fun h => ?_) (fun h => ?_)
  · exact e_vret hX hR zcdX3_landHere_19.2.2.2.2.2.2.1 h
  · refine s_iload_n (k := 1) hX zcdX3_landHere_1.2.1 rfl rfl ?_
    refine s_aload_n (k := 0) hX zcdX3_landHere_1.2.2.1 rfl rfl ?_
    refine s_get hX fX3_33 (oL hc) rfl zcdX3_landHere_1.2.2.2.1 ?_
    refine e_icmp_ge (tgt := 29) hX zcdX3_landHere_1.2.2.2.2.1 (by decide) r_le h (fun h => ?_) (fun h => ?_)
    · exact e_vret hX hR zcdX3_landHere_19.2.2.2.2.2.2.1 h
    · refine s_iload_n (k := 1) hX zcdX3_landHere_1.2.2.2.2.2.1 rfl rfl ?_
      refine s_sipush (v := (nI 240)) hX zcdX3_landHere_1.2.2.2.2.2.2.1 (by decide) ?_
      refine e_icmp_ge (tgt := 29) hX zcdX3_landHere_1.2.2.2.2.2.2.2 (by decide) (m_ge (by decide +kernel)) h (fun h => ?_) (fun h => ?_)
      · exact e_vret hX hR zcdX3_landHere_19.2.2.2.2.2.2.1 h
      · refine s_aload_n (k := 0) hX zcdX3_landHere_19.1 rfl rfl ?_
        refine s_get hX fX3_15 (oL hc) rfl zcdX3_landHere_19.2.1 ?_
        refine s_iload_n (k := 1) hX zcdX3_landHere_19.2.2.1 rfl rfl ?_
        refine s_aload_n (k := 0) hX zcdX3_landHere_19.2.2.2.1 rfl rfl ?_
        refine s_get hX fX3_33 (oL hc) rfl zcdX3_landHere_19.2.2.2.2.1 ?_
        refine e_iast hX (aL2 hc) zcdX3_landHere_19.2.2.2.2.2.1 h (fun h => ?_)
        refine e_bndM h (fun M_1 h => ?_)
        exact e_vret hX hR zcdX3_landHere_19.2.2.2.2.2.2.1 h
set_option maxHeartbeats 4000000 in
theorem t_X3_compileChoice (c : Nat) (hc : isL c) (dS : Nat) (S_X3_compileTest : Mem → Int32 → Option (Int32 × Mem)) (hS_X3_compileTest : ∀ (v2 : Int32) (M : Mem), AXi yX3_compileTest cX3_compileTest 5 (some .boolean) dS 60 glC (fun ad => [.ref (ad c), .ref (ad 19), .int v2]) M (S_X3_compileTest M v2)) (v2 : Int32) (M : Mem) : AXi yX3_compileChoice cX3_compileChoice 7 (some .boolean) (dS + 1) 60 glC (fun ad => [.ref (ad c), .ref (ad 19), .int v2]) M (f_X3_compileChoice S_X3_compileTest c M v2) := by
  intro r0 h
  refine AM.of (by decide) (fun _ => Nat.le_of_ble_eq_true rfl) (fun X ad cI cZ cB hX hR => ?_)
  show V X M [(0, .ref (ad c)), (1, .ref (ad 19)), (2, .int v2)] [] 0
  refine s_iconst (v := (-1)) hX zcdX3_landHere_19.2.2.2.2.2.2.2 (by decide) ?_
  refine s_istore_n (lv' := [(0, .ref (ad c)), (1, .ref (ad 19)), (2, .int v2), (3, .int (-1))]) hX zcdX3_compileChoice_1.1 rfl (by decide) rfl ?_
  refine s_iconst (v := (-1)) hX zcdX3_compileChoice_1.2.1 (by decide) ?_
  refine s_istore (lv' := [(0, .ref (ad c)), (1, .ref (ad 19)), (2, .int v2), (3, .int (-1)), (4, .int (-1))]) hX zcdX3_compileChoice_1.2.2.1 (by decide) rfl ?_
  refine s_iconst (v := (nI 0)) hX zcdX3_compileChoice_1.2.2.2.1 (by decide) ?_
  refine s_istore (lv' := [(0, .ref (ad c)), (1, .ref (ad 19)), (2, .int v2), (3, .int (-1)), (4, .int (-1)), (5, .int (nI 0))]) hX zcdX3_compileChoice_1.2.2.2.2.1 (by decide) rfl ?_
  have lp8 : ∀ (N8 : Nat) (M8 : Mem) (y3_8 : Int32) (y4_8 : Int32) (y5_8 : Int32), wlp4 (f_X3_compileChoice_B8 S_X3_compileTest c v2) N8 M8 y3_8 y4_8 y5_8 = some r0 → V X M8 [(0, .ref (ad c)), (1, .ref (ad 19)), (2, .int v2), (3, .int y3_8), (4, .int y4_8), (5, .int y5_8)] [] 8 := by
    intro N8
    induction N8 with
    | zero => exact fun _ _ _ _ h => e_none h
    | succ N8 ih8 =>
      intro M8 y3_8 y4_8 y5_8 h
      replace h : f_X3_compileChoice_B8 S_X3_compileTest c v2 (wlp4 (f_X3_compileChoice_B8 S_X3_compileTest c v2) N8) M8 y3_8 y4_8 y5_8 = some r0 := h
      generalize wlp4 (f_X3_compileChoice_B8 S_X3_compileTest c v2) N8 = ag8 at ih8 h
      refine s_iload (k := 5) hX zcdX3_compileChoice_1.2.2.2.2.2.1 rfl ?_
      refine s_sipush (v := (nI 240)) hX zcdX3_compileChoice_1.2.2.2.2.2.2.1 (by decide) ?_
      have j99 : f_X3_compileChoice_L99 M8 = some r0 → V X M8 [(1, .ref (ad 19))] [] 99 := by
        intro  h
        refine s_aload_n (k := 0) hX zcdX3_compileChoice_88.2.2.2.2.2.1 rfl rfl ?_
        refine s_iconst (v := (nI 1)) hX zcdX3_compileChoice_88.2.2.2.2.2.2.1 (by decide) ?_
        refine s_aload_n (k := 0) hX zcdX3_compileChoice_88.2.2.2.2.2.2.2 rfl rfl ?_
        refine s_get hX fX3_54 oC19 rfl zcdX3_compileChoice_102.1 ?_
        refine e_callVi hX (t_X7_refuse (nI 1) (M8 19 3) M8) mX7_refuse lX3_57 (by omega) (by decide) oC19 rfl rfl rfl rfl rfl (Nat.le_of_ble_eq_true rfl) zcdX3_compileChoice_102.2.1 h (fun r_1 M_2 h => ?_)
        exact e_zreti hX hR zcdX3_compileChoice_102.2.2.1 h
      refine e_icmp_ge (tgt := 99) hX zcdX3_compileChoice_1.2.2.2.2.2.2.2 (by decide) (m_ge (by decide +kernel)) h (fun h => ?_) (fun h => ?_)
      · refine s_loc [1] rfl ?_
        exact j99 h
      · refine s_aload_n (k := 0) hX zcdX3_compileChoice_16.1 rfl rfl ?_
        refine s_aload_n (k := 1) hX zcdX3_compileChoice_16.2.1 rfl rfl ?_
        refine s_iload_n (k := 2) hX zcdX3_compileChoice_16.2.2.1 rfl rfl ?_
        refine e_callVi hX (hS_X3_compileTest v2 M8) mX3_compileTest lX3_74 (by omega) (by decide) (oL hc) rfl rfl rfl rfl rfl (Nat.le_of_ble_eq_true rfl) zcdX3_compileChoice_16.2.2.2.1 h (fun r_3 M_4 h => ?_)
        refine e_if_ne (tgt := 27) hX zcdX3_compileChoice_16.2.2.2.2.1 (by decide) z_eq h (fun h => ?_) (fun h => ?_)
        · refine s_aload_n (k := 0) hX zcdX3_compileChoice_16.2.2.2.2.2.2.2 rfl rfl ?_
          refine s_iload_n (k := 3) hX zcdX3_compileChoice_28.1 rfl rfl ?_
          refine e_callVv hX (t_X3_landHere c hc y3_8 M_4) mX3_landHere lX3_77 (by omega) (by decide) (oL hc) rfl rfl rfl rfl rfl (Nat.le_of_ble_eq_true rfl) zcdX3_compileChoice_28.2.1 h (fun M_5 h => ?_)
          refine s_iconst (v := (-1)) hX zcdX3_compileChoice_28.2.2.1 (by decide) ?_
          refine s_istore_n (lv' := [(0, .ref (ad c)), (1, .ref (ad 19)), (2, .int v2), (4, .int y4_8), (5, .int y5_8), (3, .int (-1))]) hX zcdX3_compileChoice_28.2.2.2.1 rfl (by decide) rfl ?_
          refine s_aload_n (k := 1) hX zcdX3_compileChoice_28.2.2.2.2.1 rfl rfl ?_
          refine e_callVp hX (t_X7_here M_5) mX7_here lX3_44 (by omega) (by decide) oC19 rfl rfl rfl rfl rfl (Nat.le_of_ble_eq_true rfl) zcdX3_compileChoice_28.2.2.2.2.2.1 h (fun r_6 h => ?_)
          refine s_istore (lv' := [(0, .ref (ad c)), (1, .ref (ad 19)), (2, .int v2), (4, .int y4_8), (5, .int y5_8), (3, .int (-1)), (6, .int r_6)]) hX zcdX3_compileChoice_28.2.2.2.2.2.2.1 (by decide) rfl ?_
          refine s_iload (k := 6) hX zcdX3_compileChoice_28.2.2.2.2.2.2.2 rfl ?_
          refine s_bipush (v := (nI 38)) hX zcdX3_compileChoice_42.1 (by decide) ?_
          have j76 : ∀ (N76 : Mem) (z3_76 : Int32) (z4_76 : Int32), f_X3_compileChoice_L76 c ag8 y5_8 r_6 N76 z3_76 z4_76 = some r0 → V X N76 [(0, .ref (ad c)), (1, .ref (ad 19)), (2, .int v2), (3, .int z3_76), (4, .int z4_76), (5, .int y5_8), (6, .int r_6)] [] 76 := by
            intro N76 z3_76 z4_76 h
            refine s_aload_n (k := 0) hX zcdX3_compileChoice_75.2.1 rfl rfl ?_
            refine s_iload (k := 6) hX zcdX3_compileChoice_75.2.2.1 rfl ?_
            refine s_iconst (v := (nI 0)) hX zcdX3_compileChoice_75.2.2.2.1 (by decide) ?_
            refine e_callVv hX (t_X3_order c hc r_6 (nI 0) N76) mX3_order lX3_81 (by omega) (by decide) (oL hc) rfl rfl rfl rfl rfl (Nat.le_of_ble_eq_true rfl) zcdX3_compileChoice_75.2.2.2.2.1 h (fun M_7 h => ?_)
            refine s_aload_n (k := 1) hX zcdX3_compileChoice_75.2.2.2.2.2.1 rfl rfl ?_
            refine s_dup hX zcdX3_compileChoice_75.2.2.2.2.2.2.1 rfl ?_
            refine s_get hX fX3_54 oC19 rfl zcdX3_compileChoice_75.2.2.2.2.2.2.2 ?_
            refine s_iconst (v := (nI 1)) hX zcdX3_compileChoice_88.1 (by decide) ?_
            refine s_iadd hX zcdX3_compileChoice_88.2.1 ?_
            refine s_puti (ty := .int) hX fX3_54 oC19 rfl (Nat.le_of_ble_eq_true rfl) ty_7_3 rfl rfl zcdX3_compileChoice_88.2.2.1 ?_
            refine e_bndM h (fun M_8 h => ?_)
            refine s_iinc (k := 5) (v := (y5_8 + (nI 1))) (lv' := [(0, .ref (ad c)), (1, .ref (ad 19)), (2, .int v2), (3, .int z3_76), (4, .int z4_76), (6, .int r_6), (5, .int (y5_8 + (nI 1)))]) hX zcdX3_compileChoice_88.2.2.2.1 (congrArg (fun z => y5_8 + z) (by decide)) (by decide) rfl rfl ?_
            refine s_goto (tgt := 8) hX zcdX3_compileChoice_88.2.2.2.2.1 (by decide) ?_
            refine s_loc [0, 1, 2, 3, 4, 6] rfl ?_
            exact ih8 M_8 z3_76 z4_76 (y5_8 + (nI 1)) h
          refine e_icmp_ne (tgt := 55) hX zcdX3_compileChoice_42.2.1 (by decide) (m_eq (by decide +kernel)) h (fun h => ?_) (fun h => ?_)
          · refine s_aload_n (k := 0) hX zcdX3_compileChoice_42.2.2.2.2.2.2.1 rfl rfl ?_
            refine s_iload (k := 3) hX zcdX3_compileChoice_42.2.2.2.2.2.2.2 rfl ?_
            refine e_callVv hX (t_X3_landHere c hc y4_8 M_5) mX3_landHere lX3_77 (by omega) (by decide) (oL hc) rfl rfl rfl rfl rfl (Nat.le_of_ble_eq_true rfl) zcdX3_compileChoice_58.1 h (fun M_9 h => ?_)
            refine s_aload_n (k := 0) hX zcdX3_compileChoice_58.2.1 rfl rfl ?_
            refine s_get hX fX3_33 (oL hc) rfl zcdX3_compileChoice_58.2.2.1 ?_
            refine e_bnd h (fun x_10 h => ?_)
            refine s_istore (lv' := [(0, .ref (ad c)), (1, .ref (ad 19)), (2, .int v2), (5, .int y5_8), (3, .int (-1)), (6, .int r_6), (4, .int x_10)]) hX zcdX3_compileChoice_58.2.2.2.1 (by decide) rfl ?_
            refine s_iload (k := 5) hX zcdX3_compileChoice_58.2.2.2.2.1 rfl ?_
            refine s_bipush (v := (nI 124)) hX zcdX3_compileChoice_58.2.2.2.2.2.1 (by decide) ?_
            refine e_icmp_eq (tgt := 76) hX zcdX3_compileChoice_58.2.2.2.2.2.2.1 (by decide) (m_eq (by decide +kernel)) h (fun h => ?_) (fun h => ?_)
            · refine s_loc [0, 1, 2, 4, 6, 3, 5] rfl ?_
              exact j76 M_9 (-1) x_10 h
            · refine s_iconst (v := (nI 1)) hX zcdX3_compileChoice_58.2.2.2.2.2.2.2 (by decide) ?_
              exact e_zretiL hX hR zcdX3_compileChoice_75.1 (by decide) h
          · refine s_aload_n (k := 0) hX zcdX3_compileChoice_42.2.2.1 rfl rfl ?_
            refine s_get hX fX3_33 (oL hc) rfl zcdX3_compileChoice_42.2.2.2.1 ?_
            refine e_bnd h (fun x_11 h => ?_)
            refine s_istore_n (lv' := [(0, .ref (ad c)), (1, .ref (ad 19)), (2, .int v2), (4, .int y4_8), (5, .int y5_8), (6, .int r_6), (3, .int x_11)]) hX zcdX3_compileChoice_42.2.2.2.2.1 rfl (by decide) rfl ?_
            refine s_goto (tgt := 76) hX zcdX3_compileChoice_42.2.2.2.2.2.1 (by decide) ?_
            refine s_loc [0, 1, 2, 6, 3, 4, 5] rfl ?_
            exact j76 M_5 x_11 y4_8 h
        · refine s_iconst (v := (nI 0)) hX zcdX3_compileChoice_16.2.2.2.2.2.1 (by decide) ?_
          exact e_zretiL hX hR zcdX3_compileChoice_16.2.2.2.2.2.2.1 (by decide) h
  exact lp8 FU M (-1) (-1) (nI 0) h
set_option maxHeartbeats 4000000 in
theorem t_X3_compileTest (c : Nat) (hc : isL c) (dS dA : Nat) (hdA : dA ≤ dS) (S_X3_compileChoice : Mem → Int32 → Option (Int32 × Mem)) (hS_X3_compileChoice : ∀ (v2 : Int32) (M : Mem), AXi yX3_compileChoice cX3_compileChoice 7 (some .boolean) dS 60 glC (fun ad => [.ref (ad c), .ref (ad 19), .int v2]) M (S_X3_compileChoice M v2)) (S_X3_compileTest : Mem → Int32 → Option (Int32 × Mem)) (hS_X3_compileTest : ∀ (v2 : Int32) (M : Mem), AXi yX3_compileTest cX3_compileTest 5 (some .boolean) dA 60 glC (fun ad => [.ref (ad c), .ref (ad 19), .int v2]) M (S_X3_compileTest M v2)) (v2 : Int32) (M : Mem) : AXi yX3_compileTest cX3_compileTest 5 (some .boolean) (dS + 25) 60 glC (fun ad => [.ref (ad c), .ref (ad 19), .int v2]) M (f_X3_compileTest S_X3_compileTest S_X3_compileChoice c M v2) := by
  intro r0 h
  refine AM.of (by decide) (fun _ => Nat.le_of_ble_eq_true rfl) (fun X ad cI cZ cB hX hR => ?_)
  show V X M [(0, .ref (ad c)), (1, .ref (ad 19)), (2, .int v2)] [] 0
  refine s_aload_n (k := 1) hX zcdX3_compileChoice_102.2.2.2.1 rfl rfl ?_
  refine e_callVp hX (t_X7_here M) mX7_here lX3_44 (by omega) (by decide) oC19 rfl rfl rfl rfl rfl (Nat.le_of_ble_eq_true rfl) zcdX3_compileChoice_102.2.2.2.2.1 h (fun r_1 h => ?_)
  refine s_istore_n (lv' := [(0, .ref (ad c)), (1, .ref (ad 19)), (2, .int v2), (3, .int r_1)]) hX zcdX3_compileChoice_102.2.2.2.2.2.1 rfl (by decide) rfl ?_
  refine s_iload_n (k := 3) hX zcdX3_compileChoice_102.2.2.2.2.2.2.1 rfl rfl ?_
  refine s_bipush (v := (nI 33)) hX zcdX3_compileChoice_102.2.2.2.2.2.2.2 (by decide) ?_
  have j17 : f_X3_compileTest_L17 S_X3_compileTest S_X3_compileChoice c M v2 r_1 = some r0 → V X M [(0, .ref (ad c)), (1, .ref (ad 19)), (2, .int v2), (3, .int r_1)] [] 17 := by
    intro  h
    refine s_iload_n (k := 2) hX zcdX3_compileTest_8.2.2.2.2.1 rfl rfl ?_
    refine s_bipush (v := (nI 6)) hX zcdX3_compileTest_8.2.2.2.2.2.1 (by decide) ?_
    refine e_icmp_lt (tgt := 33) hX zcdX3_compileTest_8.2.2.2.2.2.2.1 (by decide) (m_lt (by decide +kernel)) h (fun h => ?_) (fun h => ?_)
    · refine s_aload_n (k := 1) hX zcdX3_compileTest_24.2.2.2.2.2.1 rfl rfl ?_
      refine s_dup hX zcdX3_compileTest_24.2.2.2.2.2.2.1 rfl ?_
      refine s_get hX fX3_54 oC19 rfl zcdX3_compileTest_24.2.2.2.2.2.2.2 ?_
      refine s_iconst (v := (nI 1)) hX zcdX3_compileTest_38.1 (by decide) ?_
      refine s_iadd hX zcdX3_compileTest_38.2.1 ?_
      refine s_puti (ty := .int) hX fX3_54 oC19 rfl (Nat.le_of_ble_eq_true rfl) ty_7_3 rfl rfl zcdX3_compileTest_38.2.2.1 ?_
      refine e_bndM h (fun M_2 h => ?_)
      refine s_iload_n (k := 3) hX zcdX3_compileTest_38.2.2.2.1 rfl rfl ?_
      refine s_bipush (v := (nI 40)) hX zcdX3_compileTest_38.2.2.2.2.1 (by decide) ?_
      refine e_icmp_ne (tgt := 75) hX zcdX3_compileTest_38.2.2.2.2.2.1 (by decide) (m_eq (by decide +kernel)) h (fun h => ?_) (fun h => ?_)
      · refine s_aload_n (k := 0) hX zcdX3_compileTest_66.2.2.2.2.2.1 rfl rfl ?_
        refine s_aload_n (k := 1) hX zcdX3_compileTest_66.2.2.2.2.2.2.1 rfl rfl ?_
        refine s_iload_n (k := 2) hX zcdX3_compileTest_66.2.2.2.2.2.2.2 rfl rfl ?_
        refine s_iconst (v := (nI 1)) hX zcdX3_compileTest_78.1 (by decide) ?_
        refine s_iadd hX zcdX3_compileTest_78.2.1 ?_
        refine e_callVi hX (hS_X3_compileTest (v2 + (nI 1)) M_2) mX3_compileTest lX3_74 (by omega) (by decide) (oL hc) rfl rfl rfl rfl rfl (Nat.le_of_ble_eq_true rfl) zcdX3_compileTest_78.2.2.1 h (fun r_3 M_4 h => ?_)
        refine e_if_ne (tgt := 88) hX zcdX3_compileTest_78.2.2.2.1 (by decide) z_eq h (fun h => ?_) (fun h => ?_)
        · refine s_aload_n (k := 0) hX zcdX3_compileTest_78.2.2.2.2.2.2.1 rfl rfl ?_
          refine s_bipush (v := (nI 33)) hX zcdX3_compileTest_78.2.2.2.2.2.2.2 (by decide) ?_
          refine s_iconst (v := (nI 0)) hX zcdX3_compileTest_91.1 (by decide) ?_
          refine e_callVv hX (t_X3_order c hc (nI 33) (nI 0) M_4) mX3_order lX3_81 (by omega) (by decide) (oL hc) rfl rfl rfl rfl rfl (Nat.le_of_ble_eq_true rfl) zcdX3_compileTest_91.2.1 h (fun M_5 h => ?_)
          refine s_iconst (v := (nI 1)) hX zcdX3_compileTest_91.2.2.1 (by decide) ?_
          exact e_zretiL hX hR zcdX3_compileTest_91.2.2.2.1 (by decide) h
        · refine s_iconst (v := (nI 0)) hX zcdX3_compileTest_78.2.2.2.2.1 (by decide) ?_
          exact e_zretiL hX hR zcdX3_compileTest_78.2.2.2.2.2.1 (by decide) h
      · refine s_aload_n (k := 0) hX zcdX3_compileTest_38.2.2.2.2.2.2.1 rfl rfl ?_
        refine s_aload_n (k := 1) hX zcdX3_compileTest_38.2.2.2.2.2.2.2 rfl rfl ?_
        refine s_iload_n (k := 2) hX zcdX3_compileTest_51.1 rfl rfl ?_
        refine s_iconst (v := (nI 1)) hX zcdX3_compileTest_51.2.1 (by decide) ?_
        refine s_iadd hX zcdX3_compileTest_51.2.2.1 ?_
        refine e_callVi hX (hS_X3_compileChoice (v2 + (nI 1)) M_2) mX3_compileChoice lX3_71 (by omega) (by decide) (oL hc) rfl rfl rfl rfl rfl (Nat.le_of_ble_eq_true rfl) zcdX3_compileTest_51.2.2.2.1 h (fun r_6 M_7 h => ?_)
        refine e_if_eq (tgt := 73) hX zcdX3_compileTest_51.2.2.2.2.1 (by decide) z_eq h (fun h => ?_) (fun h => ?_)
        · refine s_iconst (v := (nI 0)) hX zcdX3_compileTest_66.2.2.2.1 (by decide) ?_
          exact e_zretiL hX hR zcdX3_compileTest_66.2.2.2.2.1 (by decide) h
        · refine s_aload_n (k := 1) hX zcdX3_compileTest_51.2.2.2.2.2.1 rfl rfl ?_
          refine s_bipush (v := (nI 41)) hX zcdX3_compileTest_51.2.2.2.2.2.2.1 (by decide) ?_
          refine e_callVi hX (t_X7_skip (nI 41) M_7) mX7_skip lX3_68 (by omega) (by decide) oC19 rfl rfl rfl rfl rfl (Nat.le_of_ble_eq_true rfl) zcdX3_compileTest_51.2.2.2.2.2.2.2 h (fun r_8 M_9 h => ?_)
          refine e_if_eq (tgt := 73) hX zcdX3_compileTest_66.1 (by decide) z_eq h (fun h => ?_) (fun h => ?_)
          · refine s_iconst (v := (nI 0)) hX zcdX3_compileTest_66.2.2.2.1 (by decide) ?_
            exact e_zretiL hX hR zcdX3_compileTest_66.2.2.2.2.1 (by decide) h
          · refine s_iconst (v := (nI 1)) hX zcdX3_compileTest_66.2.1 (by decide) ?_
            refine s_goto (tgt := 74) hX zcdX3_compileTest_66.2.2.1 (by decide) ?_
            exact e_zretiL hX hR zcdX3_compileTest_66.2.2.2.2.1 (by decide) h
    · refine s_aload_n (k := 1) hX zcdX3_compileTest_8.2.2.2.2.2.2.2 rfl rfl ?_
      refine s_iconst (v := (nI 5)) hX zcdX3_compileTest_24.1 (by decide) ?_
      refine s_aload_n (k := 1) hX zcdX3_compileTest_24.2.1 rfl rfl ?_
      refine s_get hX fX3_54 oC19 rfl zcdX3_compileTest_24.2.2.1 ?_
      refine e_callVi hX (t_X7_refuse (nI 5) (M 19 3) M) mX7_refuse lX3_57 (by omega) (by decide) oC19 rfl rfl rfl rfl rfl (Nat.le_of_ble_eq_true rfl) zcdX3_compileTest_24.2.2.2.1 h (fun r_10 M_11 h => ?_)
      exact e_zreti hX hR zcdX3_compileTest_24.2.2.2.2.1 h
  refine e_icmp_eq (tgt := 17) hX zcdX3_compileTest_8.1 (by decide) (m_eq (by decide +kernel)) h (fun h => ?_) (fun h => ?_)
  · exact j17 h
  · refine s_iload_n (k := 3) hX zcdX3_compileTest_8.2.1 rfl rfl ?_
    refine s_bipush (v := (nI 40)) hX zcdX3_compileTest_8.2.2.1 (by decide) ?_
    refine e_icmp_ne (tgt := 97) hX zcdX3_compileTest_8.2.2.2.1 (by decide) (m_eq (by decide +kernel)) h (fun h => ?_) (fun h => ?_)
    · refine s_aload_n (k := 0) hX zcdX3_compileTest_91.2.2.2.2.1 rfl rfl ?_
      refine s_aload_n (k := 1) hX zcdX3_compileTest_91.2.2.2.2.2.1 rfl rfl ?_
      refine s_iload_n (k := 2) hX zcdX3_compileTest_91.2.2.2.2.2.2.1 rfl rfl ?_
      refine e_callVi hX (tg_sum c hc 8 v2 M) mX3_compileSum lX3_64 (by omega) (by decide) (oL hc) rfl rfl rfl rfl rfl (Nat.le_of_ble_eq_true rfl) zcdX3_compileTest_91.2.2.2.2.2.2.2 h (fun r_12 M_13 h => ?_)
      refine e_if_ne (tgt := 108) hX zcdX3_compileTest_103.1 (by decide) z_eq h (fun h => ?_) (fun h => ?_)
      · refine s_aload_n (k := 1) hX zcdX3_compileTest_103.2.2.2.1 rfl rfl ?_
        refine e_callVp hX (t_X7_here M_13) mX7_here lX3_44 (by omega) (by decide) oC19 rfl rfl rfl rfl rfl (Nat.le_of_ble_eq_true rfl) zcdX3_compileTest_103.2.2.2.2.1 h (fun r_14 h => ?_)
        refine s_istore (lv' := [(0, .ref (ad c)), (1, .ref (ad 19)), (2, .int v2), (3, .int r_1), (4, .int r_14)]) hX zcdX3_compileTest_103.2.2.2.2.2.1 (by decide) rfl ?_
        refine s_iload (k := 4) hX zcdX3_compileTest_103.2.2.2.2.2.2.1 rfl ?_
        refine s_bipush (v := (nI 60)) hX zcdX3_compileTest_103.2.2.2.2.2.2.2 (by decide) ?_
        have j145 : f_X3_compileTest_L145 c v2 M_13 r_14 = some r0 → V X M_13 [(0, .ref (ad c)), (1, .ref (ad 19)), (2, .int v2), (4, .int r_14)] [] 145 := by
          intro  h
          refine s_aload_n (k := 1) hX zcdX3_compileTest_136.2.2.2.2.2.1 rfl rfl ?_
          refine s_dup hX zcdX3_compileTest_136.2.2.2.2.2.2.1 rfl ?_
          refine s_get hX fX3_54 oC19 rfl zcdX3_compileTest_136.2.2.2.2.2.2.2 ?_
          refine s_iconst (v := (nI 1)) hX zcdX3_compileTest_150.1 (by decide) ?_
          refine s_iadd hX zcdX3_compileTest_150.2.1 ?_
          refine s_puti (ty := .int) hX fX3_54 oC19 rfl (Nat.le_of_ble_eq_true rfl) ty_7_3 rfl rfl zcdX3_compileTest_150.2.2.1 ?_
          refine e_bndM h (fun M_15 h => ?_)
          refine s_aload_n (k := 0) hX zcdX3_compileTest_150.2.2.2.1 rfl rfl ?_
          refine s_aload_n (k := 1) hX zcdX3_compileTest_150.2.2.2.2.1 rfl rfl ?_
          refine s_iload_n (k := 2) hX zcdX3_compileTest_150.2.2.2.2.2.1 rfl rfl ?_
          refine e_callVi hX (tg_sum c hc 8 v2 M_15) mX3_compileSum lX3_64 (by omega) (by decide) (oL hc) rfl rfl rfl rfl rfl (Nat.le_of_ble_eq_true rfl) zcdX3_compileTest_150.2.2.2.2.2.2.1 h (fun r_16 M_17 h => ?_)
          refine e_if_ne (tgt := 166) hX zcdX3_compileTest_150.2.2.2.2.2.2.2 (by decide) z_eq h (fun h => ?_) (fun h => ?_)
          · refine s_aload_n (k := 0) hX zcdX3_compileTest_164.2.2.1 rfl rfl ?_
            refine s_iload (k := 3) hX zcdX3_compileTest_164.2.2.2.1 rfl ?_
            refine s_iconst (v := (nI 0)) hX zcdX3_compileTest_164.2.2.2.2.1 (by decide) ?_
            refine e_callVv hX (t_X3_order c hc r_14 (nI 0) M_17) mX3_order lX3_81 (by omega) (by decide) (oL hc) rfl rfl rfl rfl rfl (Nat.le_of_ble_eq_true rfl) zcdX3_compileTest_164.2.2.2.2.2.1 h (fun M_18 h => ?_)
            refine s_iconst (v := (nI 1)) hX zcdX3_compileTest_164.2.2.2.2.2.2.1 (by decide) ?_
            exact e_zretiL hX hR zcdX3_compileTest_164.2.2.2.2.2.2.2 (by decide) h
          · refine s_iconst (v := (nI 0)) hX zcdX3_compileTest_164.1 (by decide) ?_
            exact e_zretiL hX hR zcdX3_compileTest_164.2.1 (by decide) h
        refine e_icmp_eq (tgt := 145) hX zcdX3_compileTest_118.1 (by decide) (m_eq (by decide +kernel)) h (fun h => ?_) (fun h => ?_)
        · refine s_loc [0, 1, 2, 4] rfl ?_
          exact j145 h
        · refine s_iload (k := 4) hX zcdX3_compileTest_118.2.1 rfl ?_
          refine s_bipush (v := (nI 62)) hX zcdX3_compileTest_118.2.2.1 (by decide) ?_
          refine e_icmp_eq (tgt := 145) hX zcdX3_compileTest_118.2.2.2.1 (by decide) (m_eq (by decide +kernel)) h (fun h => ?_) (fun h => ?_)
          · refine s_loc [0, 1, 2, 4] rfl ?_
            exact j145 h
          · refine s_iload (k := 4) hX zcdX3_compileTest_118.2.2.2.2.1 rfl ?_
            refine s_bipush (v := (nI 61)) hX zcdX3_compileTest_118.2.2.2.2.2.1 (by decide) ?_
            refine e_icmp_eq (tgt := 145) hX zcdX3_compileTest_118.2.2.2.2.2.2.1 (by decide) (m_eq (by decide +kernel)) h (fun h => ?_) (fun h => ?_)
            · refine s_loc [0, 1, 2, 4] rfl ?_
              exact j145 h
            · refine s_aload_n (k := 1) hX zcdX3_compileTest_118.2.2.2.2.2.2.2 rfl rfl ?_
              refine s_iconst (v := (nI 1)) hX zcdX3_compileTest_136.1 (by decide) ?_
              refine s_aload_n (k := 1) hX zcdX3_compileTest_136.2.1 rfl rfl ?_
              refine s_get hX fX3_54 oC19 rfl zcdX3_compileTest_136.2.2.1 ?_
              refine e_callVi hX (t_X7_refuse (nI 1) (M_13 19 3) M_13) mX7_refuse lX3_57 (by omega) (by decide) oC19 rfl rfl rfl rfl rfl (Nat.le_of_ble_eq_true rfl) zcdX3_compileTest_136.2.2.2.1 h (fun r_19 M_20 h => ?_)
              exact e_zreti hX hR zcdX3_compileTest_136.2.2.2.2.1 h
      · refine s_iconst (v := (nI 0)) hX zcdX3_compileTest_103.2.1 (by decide) ?_
        exact e_zretiL hX hR zcdX3_compileTest_103.2.2.1 (by decide) h
    · exact j17 h
theorem tg_test (c : Nat) (hc : isL c) : ∀ (n : Nat) (v2 : Int32) (M : Mem), AXi yX3_compileTest cX3_compileTest 5 (some .boolean) (26 * n) 60 glC (fun ad => [.ref (ad c), .ref (ad 19), .int v2]) M (g_test c n M v2)
  | 0 => fun _ _ r0 h => nomatch h
  | n + 1 => fun v2 M => by
    have e : 26 * (n + 1) = 26 * n + 1 + 25 := by omega
    rw [e]
    exact t_X3_compileTest c hc (26 * n + 1) (26 * n) (by omega) _ (t_X3_compileChoice c hc (26 * n) _ (tg_test c hc n)) _ (tg_test c hc n) v2 M
theorem tg_choice (c : Nat) (hc : isL c) (n : Nat) (v2 : Int32) (M : Mem) : AXi yX3_compileChoice cX3_compileChoice 7 (some .boolean) (26 * n + 1) 60 glC (fun ad => [.ref (ad c), .ref (ad 19), .int v2]) M (g_choice c n M v2) := t_X3_compileChoice c hc (26 * n) _ (tg_test c hc n) v2 M
set_option maxHeartbeats 4000000 in
theorem t_X3_compile (c : Nat) (hc : isL c) (M : Mem) : AXi yX3_compile cX3_compile 4 (some .int) 210 60 glC (fun ad => [.ref (ad c), .ref (ad 19)]) M (f_X3_compile c M) := by
  intro r0 h
  refine AM.of (by decide) (fun _ => Nat.le_of_ble_eq_true rfl) (fun X ad cI cZ cB hX hR => ?_)
  show V X M [(0, .ref (ad c)), (1, .ref (ad 19))] [] 0
  refine s_aload_n (k := 0) hX zcdX3_compile_0.1 rfl rfl ?_
  refine s_iconst (v := (nI 0)) hX zcdX3_compile_0.2.1 (by decide) ?_
  refine s_puti (ty := .int) hX fX3_33 (oL hc) rfl (Nat.le_of_ble_eq_true rfl) ty_3_7 rfl rfl zcdX3_compile_0.2.2.1 ?_
  refine e_bndM h (fun M_1 h => ?_)
  refine s_aload_n (k := 0) hX zcdX3_compile_0.2.2.2.1 rfl rfl ?_
  refine s_iconst (v := (nI 0)) hX zcdX3_compile_0.2.2.2.2.1 (by decide) ?_
  refine s_puti (ty := .int) hX fX3_37 (oL hc) rfl (Nat.le_of_ble_eq_true rfl) ty_3_8 rfl rfl zcdX3_compile_0.2.2.2.2.2.1 ?_
  refine e_bndM h (fun M_2 h => ?_)
  refine s_aload_n (k := 0) hX zcdX3_compile_0.2.2.2.2.2.2.1 rfl rfl ?_
  refine s_iconst (v := (nI 0)) hX zcdX3_compile_0.2.2.2.2.2.2.2 (by decide) ?_
  refine s_puti (ty := .boolean) hX fX3_40 (oL hc) rfl (Nat.le_of_ble_eq_true rfl) ty_3_9 rfl rfl zcdX3_compile_12.1 ?_
  refine e_bndM h (fun M_3 h => ?_)
  refine s_iconst (v := (nI 0)) hX zcdX3_compile_12.2.1 (by decide) ?_
  refine s_istore_n (lv' := [(0, .ref (ad c)), (1, .ref (ad 19)), (2, .int (nI 0))]) hX zcdX3_compile_12.2.2.1 rfl (by decide) rfl ?_
  have lp17 : ∀ (N17 : Nat) (M17 : Mem) (y2_17 : Int32), wlp2 (f_X3_compile_B17 c) N17 M17 y2_17 = some r0 → V X M17 [(0, .ref (ad c)), (1, .ref (ad 19)), (2, .int y2_17)] [] 17 := by
    intro N17
    induction N17 with
    | zero => exact fun _ _ h => e_none h
    | succ N17 ih17 =>
      intro M17 y2_17 h
      replace h : f_X3_compile_B17 c (wlp2 (f_X3_compile_B17 c) N17) M17 y2_17 = some r0 := h
      generalize wlp2 (f_X3_compile_B17 c) N17 = ag17 at ih17 h
      refine s_iload_n (k := 2) hX zcdX3_compile_12.2.2.2.1 rfl rfl ?_
      refine s_bipush (v := (nI 16)) hX zcdX3_compile_12.2.2.2.2.1 (by decide) ?_
      refine e_icmp_gt (tgt := 210) hX zcdX3_compile_12.2.2.2.2.2.1 (by decide) (m_gt (by decide +kernel)) h (fun h => ?_) (fun h => ?_)
      · refine s_aload_n (k := 1) hX zcdX3_compile_196.2.2.2.2.2.2.1 rfl rfl ?_
        refine s_get hX fX3_61 oC19 rfl zcdX3_compile_196.2.2.2.2.2.2.2 ?_
        exact e_ireti hX hR zcdX3_compile_214.1 h
      · refine s_aload_n (k := 1) hX zcdX3_compile_12.2.2.2.2.2.2.1 rfl rfl ?_
        refine e_callVp hX (t_X7_here M17) mX7_here lX3_44 (by decide) (by decide) oC19 rfl rfl rfl rfl rfl (Nat.le_of_ble_eq_true rfl) zcdX3_compile_12.2.2.2.2.2.2.2 h (fun r_4 h => ?_)
        refine s_istore_n (lv' := [(0, .ref (ad c)), (1, .ref (ad 19)), (2, .int y2_17), (3, .int r_4)]) hX zcdX3_compile_27.1 rfl (by decide) rfl ?_
        refine s_iload_n (k := 3) hX zcdX3_compile_27.2.1 rfl rfl ?_
        refine e_callSp hX (t_X3_isRuleLetter r_4 M17) mX3_isRuleLetter lX3_50 (by decide) (by decide) rfl rfl (Nat.le_of_ble_eq_true rfl) zcdX3_compile_27.2.2.1 h (fun r_5 h => ?_)
        have j35 : f_X3_compile_L35 M17 = some r0 → V X M17 [(1, .ref (ad 19))] [] 35 := by
          intro  h
          refine s_aload_n (k := 0) hX zcdX3_compile_27.2.2.2.2.1 rfl rfl ?_
          refine s_iconst (v := (nI 1)) hX zcdX3_compile_27.2.2.2.2.2.1 (by decide) ?_
          refine s_aload_n (k := 0) hX zcdX3_compile_27.2.2.2.2.2.2.1 rfl rfl ?_
          refine s_get hX fX3_54 oC19 rfl zcdX3_compile_27.2.2.2.2.2.2.2 ?_
          refine e_callVi hX (t_X7_refuse (nI 1) (M17 19 3) M17) mX7_refuse lX3_57 (by decide) (by decide) oC19 rfl rfl rfl rfl rfl (Nat.le_of_ble_eq_true rfl) zcdX3_compile_41.1 h (fun r_6 M_7 h => ?_)
          refine s_pop hX zcdX3_compile_41.2.1 rfl ?_
          refine s_aload_n (k := 0) hX zcdX3_compile_41.2.2.1 rfl rfl ?_
          refine s_get hX fX3_61 oC19 rfl zcdX3_compile_41.2.2.2.1 ?_
          exact e_ireti hX hR zcdX3_compile_41.2.2.2.2.1 h
        refine e_if_ne (tgt := 50) hX zcdX3_compile_27.2.2.2.1 (by decide) z_eq h (fun h => ?_) (fun h => ?_)
        · refine s_iload_n (k := 2) hX zcdX3_compile_41.2.2.2.2.2.1 rfl rfl ?_
          refine s_bipush (v := (nI 16)) hX zcdX3_compile_41.2.2.2.2.2.2.1 (by decide) ?_
          have j56 : f_X3_compile_L56 M17 = some r0 → V X M17 [(1, .ref (ad 19))] [] 56 := by
            intro  h
            refine s_aload_n (k := 0) hX zcdX3_compile_56.1 rfl rfl ?_
            refine s_iconst (v := (nI 4)) hX zcdX3_compile_56.2.1 (by decide) ?_
            refine s_aload_n (k := 0) hX zcdX3_compile_56.2.2.1 rfl rfl ?_
            refine s_get hX fX3_54 oC19 rfl zcdX3_compile_56.2.2.2.1 ?_
            refine e_callVi hX (t_X7_refuse (nI 4) (M17 19 3) M17) mX7_refuse lX3_57 (by decide) (by decide) oC19 rfl rfl rfl rfl rfl (Nat.le_of_ble_eq_true rfl) zcdX3_compile_56.2.2.2.2.1 h (fun r_8 M_9 h => ?_)
            refine s_pop hX zcdX3_compile_56.2.2.2.2.2.1 rfl ?_
            refine s_aload_n (k := 0) hX zcdX3_compile_56.2.2.2.2.2.2.1 rfl rfl ?_
            refine s_get hX fX3_61 oC19 rfl zcdX3_compile_56.2.2.2.2.2.2.2 ?_
            exact e_ireti hX hR zcdX3_compile_70.1 h
          refine e_icmp_ne (tgt := 71) hX zcdX3_compile_41.2.2.2.2.2.2.2 (by decide) (m_eq (by decide +kernel)) h (fun h => ?_) (fun h => ?_)
          · refine s_aload_n (k := 1) hX zcdX3_compile_70.2.1 rfl rfl ?_
            refine s_dup hX zcdX3_compile_70.2.2.1 rfl ?_
            refine s_get hX fX3_54 oC19 rfl zcdX3_compile_70.2.2.2.1 ?_
            refine s_iconst (v := (nI 1)) hX zcdX3_compile_70.2.2.2.2.1 (by decide) ?_
            refine s_iadd hX zcdX3_compile_70.2.2.2.2.2.1 ?_
            refine s_puti (ty := .int) hX fX3_54 oC19 rfl (Nat.le_of_ble_eq_true rfl) ty_7_3 rfl rfl zcdX3_compile_70.2.2.2.2.2.2.1 ?_
            refine e_bndM h (fun M_10 h => ?_)
            refine s_aload_n (k := 0) hX zcdX3_compile_70.2.2.2.2.2.2.2 rfl rfl ?_
            refine s_get hX fX3_21 (oL hc) rfl zcdX3_compile_82.1 ?_
            refine s_iload_n (k := 2) hX zcdX3_compile_82.2.1 rfl rfl ?_
            refine s_iload_n (k := 3) hX zcdX3_compile_82.2.2.1 rfl rfl ?_
            refine e_iast hX (aL4 hc) zcdX3_compile_82.2.2.2.1 h (fun h => ?_)
            refine e_bndM h (fun M_11 h => ?_)
            refine s_aload_n (k := 0) hX zcdX3_compile_82.2.2.2.2.1 rfl rfl ?_
            refine s_get hX fX3_24 (oL hc) rfl zcdX3_compile_82.2.2.2.2.2.1 ?_
            refine s_iload_n (k := 2) hX zcdX3_compile_82.2.2.2.2.2.2.1 rfl rfl ?_
            refine s_aload_n (k := 0) hX zcdX3_compile_82.2.2.2.2.2.2.2 rfl rfl ?_
            refine s_get hX fX3_33 (oL hc) rfl zcdX3_compile_94.1 ?_
            refine e_iast hX (aL5 hc) zcdX3_compile_94.2.1 h (fun h => ?_)
            refine e_bndM h (fun M_12 h => ?_)
            refine s_iload_n (k := 3) hX zcdX3_compile_94.2.2.1 rfl rfl ?_
            refine s_bipush (v := (nI 120)) hX zcdX3_compile_94.2.2.2.1 (by decide) ?_
            have j118 : ∀ (N118 : Mem), f_X3_compile_L118 c ag17 y2_17 N118 = some r0 → V X N118 [(0, .ref (ad c)), (1, .ref (ad 19)), (2, .int y2_17)] [] 118 := by
              intro N118 h
              refine s_aload_n (k := 0) hX zcdX3_compile_107.2.2.2.2.2.1 rfl rfl ?_
              refine s_get hX fX3_27 (oL hc) rfl zcdX3_compile_107.2.2.2.2.2.2.1 ?_
              refine s_iload_n (k := 2) hX zcdX3_compile_107.2.2.2.2.2.2.2 rfl rfl ?_
              refine s_aload_n (k := 0) hX zcdX3_compile_123.1 rfl rfl ?_
              refine s_get hX fX3_33 (oL hc) rfl zcdX3_compile_123.2.1 ?_
              refine e_iast hX (aL6 hc) zcdX3_compile_123.2.2.1 h (fun h => ?_)
              refine e_bndM h (fun M_13 h => ?_)
              refine s_aload_n (k := 1) hX zcdX3_compile_123.2.2.2.1 rfl rfl ?_
              refine s_bipush (v := (nI 40)) hX zcdX3_compile_123.2.2.2.2.1 (by decide) ?_
              refine e_callVi hX (t_X7_skip (nI 40) M_13) mX7_skip lX3_68 (by decide) (by decide) oC19 rfl rfl rfl rfl rfl (Nat.le_of_ble_eq_true rfl) zcdX3_compile_123.2.2.2.2.2.1 h (fun r_14 M_15 h => ?_)
              refine e_if_eq (tgt := 155) hX zcdX3_compile_123.2.2.2.2.2.2.1 (by decide) z_eq h (fun h => ?_) (fun h => ?_)
              · refine s_aload_n (k := 1) hX zcdX3_compile_155.1 rfl rfl ?_
                refine s_get hX fX3_61 oC19 rfl zcdX3_compile_155.2.1 ?_
                exact e_ireti hX hR zcdX3_compile_155.2.2.1 h
              · refine s_aload_n (k := 0) hX zcdX3_compile_123.2.2.2.2.2.2.2 rfl rfl ?_
                refine s_aload_n (k := 1) hX zcdX3_compile_138.1 rfl rfl ?_
                refine s_iconst (v := (nI 1)) hX zcdX3_compile_138.2.1 (by decide) ?_
                refine e_callVi hX (tg_choice c hc 8 (nI 1) M_15) mX3_compileChoice lX3_71 (by decide) (by decide) (oL hc) rfl rfl rfl rfl rfl (Nat.le_of_ble_eq_true rfl) zcdX3_compile_138.2.2.1 h (fun r_16 M_17 h => ?_)
                refine e_if_eq (tgt := 155) hX zcdX3_compile_138.2.2.2.1 (by decide) z_eq h (fun h => ?_) (fun h => ?_)
                · refine s_aload_n (k := 1) hX zcdX3_compile_155.1 rfl rfl ?_
                  refine s_get hX fX3_61 oC19 rfl zcdX3_compile_155.2.1 ?_
                  exact e_ireti hX hR zcdX3_compile_155.2.2.1 h
                · refine s_aload_n (k := 1) hX zcdX3_compile_138.2.2.2.2.1 rfl rfl ?_
                  refine s_bipush (v := (nI 41)) hX zcdX3_compile_138.2.2.2.2.2.1 (by decide) ?_
                  refine e_callVi hX (t_X7_skip (nI 41) M_17) mX7_skip lX3_68 (by decide) (by decide) oC19 rfl rfl rfl rfl rfl (Nat.le_of_ble_eq_true rfl) zcdX3_compile_138.2.2.2.2.2.2.1 h (fun r_18 M_19 h => ?_)
                  refine e_if_ne (tgt := 160) hX zcdX3_compile_138.2.2.2.2.2.2.2 (by decide) z_eq h (fun h => ?_) (fun h => ?_)
                  · refine s_aload_n (k := 0) hX zcdX3_compile_155.2.2.2.1 rfl rfl ?_
                    refine s_get hX fX3_30 (oL hc) rfl zcdX3_compile_155.2.2.2.2.1 ?_
                    refine s_iload_n (k := 2) hX zcdX3_compile_155.2.2.2.2.2.1 rfl rfl ?_
                    refine s_aload_n (k := 0) hX zcdX3_compile_155.2.2.2.2.2.2.1 rfl rfl ?_
                    refine s_get hX fX3_33 (oL hc) rfl zcdX3_compile_155.2.2.2.2.2.2.2 ?_
                    refine e_iast hX (aL7 hc) zcdX3_compile_169.1 h (fun h => ?_)
                    refine e_bndM h (fun M_20 h => ?_)
                    refine s_aload_n (k := 0) hX zcdX3_compile_169.2.1 rfl rfl ?_
                    refine s_iload_n (k := 2) hX zcdX3_compile_169.2.2.1 rfl rfl ?_
                    refine s_iconst (v := (nI 1)) hX zcdX3_compile_169.2.2.2.1 (by decide) ?_
                    refine s_iadd hX zcdX3_compile_169.2.2.2.2.1 ?_
                    refine s_puti (ty := .int) hX fX3_37 (oL hc) rfl (Nat.le_of_ble_eq_true rfl) ty_3_8 rfl rfl zcdX3_compile_169.2.2.2.2.2.1 ?_
                    refine e_bndM h (fun M_21 h => ?_)
                    refine s_aload_n (k := 1) hX zcdX3_compile_169.2.2.2.2.2.2.1 rfl rfl ?_
                    refine e_callVp hX (t_X7_here M_21) mX7_here lX3_44 (by decide) (by decide) oC19 rfl rfl rfl rfl rfl (Nat.le_of_ble_eq_true rfl) zcdX3_compile_169.2.2.2.2.2.2.2 h (fun r_22 h => ?_)
                    refine s_iconst (v := (-1)) hX zcdX3_compile_181.1 (by decide) ?_
                    refine e_icmp_ne (tgt := 190) hX zcdX3_compile_181.2.1 (by decide) (m_eq (by decide +kernel)) h (fun h => ?_) (fun h => ?_)
                    · refine s_aload_n (k := 1) hX zcdX3_compile_181.2.2.2.2.2.1 rfl rfl ?_
                      refine s_bipush (v := (nI 59)) hX zcdX3_compile_181.2.2.2.2.2.2.1 (by decide) ?_
                      refine e_callVi hX (t_X7_skip (nI 59) M_21) mX7_skip lX3_68 (by decide) (by decide) oC19 rfl rfl rfl rfl rfl (Nat.le_of_ble_eq_true rfl) zcdX3_compile_181.2.2.2.2.2.2.2 h (fun r_23 M_24 h => ?_)
                      refine e_if_ne (tgt := 204) hX zcdX3_compile_196.1 (by decide) z_eq h (fun h => ?_) (fun h => ?_)
                      · refine s_iinc (k := 2) (v := (y2_17 + (nI 1))) (lv' := [(0, .ref (ad c)), (1, .ref (ad 19)), (2, .int (y2_17 + (nI 1)))]) hX zcdX3_compile_196.2.2.2.2.1 (congrArg (fun z => y2_17 + z) (by decide)) (by decide) rfl rfl ?_
                        refine s_goto (tgt := 17) hX zcdX3_compile_196.2.2.2.2.2.1 (by decide) ?_
                        exact ih17 M_24 (y2_17 + (nI 1)) h
                      · refine s_aload_n (k := 1) hX zcdX3_compile_196.2.1 rfl rfl ?_
                        refine s_get hX fX3_61 oC19 rfl zcdX3_compile_196.2.2.1 ?_
                        exact e_ireti hX hR zcdX3_compile_196.2.2.2.1 h
                    · refine s_aload_n (k := 0) hX zcdX3_compile_181.2.2.1 rfl rfl ?_
                      refine s_get hX fX3_37 (oL hc) rfl zcdX3_compile_181.2.2.2.1 ?_
                      exact e_ireti hX hR zcdX3_compile_181.2.2.2.2.1 h
                  · refine s_aload_n (k := 1) hX zcdX3_compile_155.1 rfl rfl ?_
                    refine s_get hX fX3_61 oC19 rfl zcdX3_compile_155.2.1 ?_
                    exact e_ireti hX hR zcdX3_compile_155.2.2.1 h
            refine e_icmp_eq (tgt := 118) hX zcdX3_compile_94.2.2.2.2.1 (by decide) (m_eq (by decide +kernel)) h (fun h => ?_) (fun h => ?_)
            · refine s_loc [0, 1, 2] rfl ?_
              exact j118 M_12 h
            · refine s_aload_n (k := 0) hX zcdX3_compile_94.2.2.2.2.2.1 rfl rfl ?_
              refine s_aload_n (k := 1) hX zcdX3_compile_94.2.2.2.2.2.2.1 rfl rfl ?_
              refine s_iconst (v := (nI 0)) hX zcdX3_compile_94.2.2.2.2.2.2.2 (by decide) ?_
              refine e_callVi hX (tg_sum c hc 8 (nI 0) M_12) mX3_compileSum lX3_64 (by decide) (by decide) (oL hc) rfl rfl rfl rfl rfl (Nat.le_of_ble_eq_true rfl) zcdX3_compile_107.1 h (fun r_25 M_26 h => ?_)
              refine e_if_ne (tgt := 118) hX zcdX3_compile_107.2.1 (by decide) z_eq h (fun h => ?_) (fun h => ?_)
              · refine s_loc [0, 1, 2] rfl ?_
                exact j118 M_26 h
              · refine s_aload_n (k := 1) hX zcdX3_compile_107.2.2.1 rfl rfl ?_
                refine s_get hX fX3_61 oC19 rfl zcdX3_compile_107.2.2.2.1 ?_
                exact e_ireti hX hR zcdX3_compile_107.2.2.2.2.1 h
          · refine s_loc [1] rfl ?_
            exact j56 h
        · refine s_loc [1] rfl ?_
          exact j35 h
  exact lp17 FU M_3 (nI 0) h
set_option maxHeartbeats 4000000 in
theorem t_X3_doesSink (c : Nat) (hc : isL c) (M : Mem) : AXi yX3_doesSink cX3_doesSink 3 (some .boolean) 3 60 glC (fun ad => [.ref (ad c), .ref (ad 22)]) M (f_X3_doesSink c M) := by
  intro r0 h
  refine AM.of (by decide) (fun _ => Nat.le_of_ble_eq_true rfl) (fun X ad cI cZ cB hX hR => ?_)
  show V X M [(0, .ref (ad c)), (1, .ref (ad 22))] [] 0
  refine s_iconst (v := (nI 0)) hX zcdX3_compile_214.2.1 (by decide) ?_
  refine s_istore_n (lv' := [(0, .ref (ad c)), (1, .ref (ad 22)), (2, .int (nI 0))]) hX zcdX3_compile_214.2.2.1 rfl (by decide) rfl ?_
  have lp2 : ∀ (N2 : Nat) (M2 : Mem) (y2_2 : Int32), wlp2 (f_X3_doesSink_B2 c) N2 M2 y2_2 = some r0 → V X M2 [(0, .ref (ad c)), (1, .ref (ad 22)), (2, .int y2_2)] [] 2 := by
    intro N2
    induction N2 with
    | zero => exact fun _ _ h => e_none h
    | succ N2 ih2 =>
      intro M2 y2_2 h
      replace h : f_X3_doesSink_B2 c (wlp2 (f_X3_doesSink_B2 c) N2) M2 y2_2 = some r0 := h
      generalize wlp2 (f_X3_doesSink_B2 c) N2 = ag2 at ih2 h
      refine s_iload_n (k := 2) hX zcdX3_compile_214.2.2.2.1 rfl rfl ?_
      refine s_aload_n (k := 0) hX zcdX3_compile_214.2.2.2.2.1 rfl rfl ?_
      refine s_get hX fX3_37 (oL hc) rfl zcdX3_compile_214.2.2.2.2.2.1 ?_
      refine e_icmp_ge (tgt := 44) hX zcdX3_compile_214.2.2.2.2.2.2.1 (by decide) r_le h (fun h => ?_) (fun h => ?_)
      · refine s_iconst (v := (nI 0)) hX zcdX3_doesSink_41.2.1 (by decide) ?_
        exact e_zretiL hX hR zcdX3_doesSink_41.2.2.1 (by decide) h
      · refine s_iload_n (k := 2) hX zcdX3_compile_214.2.2.2.2.2.2.2 rfl rfl ?_
        refine s_bipush (v := (nI 16)) hX zcdX3_doesSink_11.1 (by decide) ?_
        refine e_icmp_ge (tgt := 44) hX zcdX3_doesSink_11.2.1 (by decide) (m_ge (by decide +kernel)) h (fun h => ?_) (fun h => ?_)
        · refine s_iconst (v := (nI 0)) hX zcdX3_doesSink_41.2.1 (by decide) ?_
          exact e_zretiL hX hR zcdX3_doesSink_41.2.2.1 (by decide) h
        · refine s_aload_n (k := 0) hX zcdX3_doesSink_11.2.2.1 rfl rfl ?_
          refine s_get hX fX3_21 (oL hc) rfl zcdX3_doesSink_11.2.2.2.1 ?_
          refine s_iload_n (k := 2) hX zcdX3_doesSink_11.2.2.2.2.1 rfl rfl ?_
          refine e_iald hX (aL4 hc) zcdX3_doesSink_11.2.2.2.2.2.1 h (fun h => ?_)
          refine s_bipush (v := (nI 120)) hX zcdX3_doesSink_11.2.2.2.2.2.2.1 (by decide) ?_
          refine e_icmp_ne (tgt := 38) hX zcdX3_doesSink_11.2.2.2.2.2.2.2 (by decide) (m_eq (by decide +kernel)) h (fun h => ?_) (fun h => ?_)
          · refine s_iinc (k := 2) (v := (y2_2 + (nI 1))) (lv' := [(0, .ref (ad c)), (1, .ref (ad 22)), (2, .int (y2_2 + (nI 1)))]) hX zcdX3_doesSink_27.2.2.2.2.2.2.2 (congrArg (fun z => y2_2 + z) (by decide)) (by decide) rfl rfl ?_
            refine s_goto (tgt := 2) hX zcdX3_doesSink_41.1 (by decide) ?_
            exact ih2 M2 (y2_2 + (nI 1)) h
          · refine s_aload_n (k := 0) hX zcdX3_doesSink_27.1 rfl rfl ?_
            refine s_iload_n (k := 2) hX zcdX3_doesSink_27.2.1 rfl rfl ?_
            refine s_aload_n (k := 1) hX zcdX3_doesSink_27.2.2.1 rfl rfl ?_
            refine e_callVi hX (t_X3_doesHold c hc y2_2 M2) mX3_doesHold lX3_100 (by decide) (by decide) (oL hc) rfl rfl rfl rfl rfl (Nat.le_of_ble_eq_true rfl) zcdX3_doesSink_27.2.2.2.1 h (fun r_1 M_2 h => ?_)
            refine e_if_eq (tgt := 38) hX zcdX3_doesSink_27.2.2.2.2.1 (by decide) z_eq h (fun h => ?_) (fun h => ?_)
            · refine s_iinc (k := 2) (v := (y2_2 + (nI 1))) (lv' := [(0, .ref (ad c)), (1, .ref (ad 22)), (2, .int (y2_2 + (nI 1)))]) hX zcdX3_doesSink_27.2.2.2.2.2.2.2 (congrArg (fun z => y2_2 + z) (by decide)) (by decide) rfl rfl ?_
              refine s_goto (tgt := 2) hX zcdX3_doesSink_41.1 (by decide) ?_
              exact ih2 M_2 (y2_2 + (nI 1)) h
            · refine s_iconst (v := (nI 1)) hX zcdX3_doesSink_27.2.2.2.2.2.1 (by decide) ?_
              exact e_zretiL hX hR zcdX3_doesSink_27.2.2.2.2.2.2.1 (by decide) h
  exact lp2 FU M (nI 0) h
set_option maxHeartbeats 4000000 in
theorem t_X4_isFooting (b : Nat) (hb : isF b) (v1 : Int32) (v2 : Int32) (M : Mem) : AXp yX4_isFooting cX4_isFooting 3 (some .boolean) 1 60 glC (fun ad => [.ref (ad b), .int v1, .int v2]) M (f_X4_isFooting b M v1 v2) := by
  intro r0 h
  refine AM.of (by decide) (fun _ => Nat.le_of_ble_eq_true rfl) (fun X ad cI cZ cB hX hR => ?_)
  show V X M [(0, .ref (ad b)), (1, .int v1), (2, .int v2)] [] 0
  refine s_iload_n (k := 2) hX zcdX3_doesSink_41.2.2.2.1 rfl rfl ?_
  have j10 : f_X4_isFooting_L10 v1 = some r0 → V X M [(1, .int v1)] [] 10 := by
    intro  h
    refine s_iload_n (k := 0) hX zcdX4_isFooting_10.1 rfl rfl ?_
    refine e_if_lt (tgt := 24) hX zcdX4_isFooting_10.2.1 (by decide) z_lt h (fun h => ?_) (fun h => ?_)
    · refine s_iconst (v := (nI 0)) hX zcdX4_isFooting_10.2.2.2.2.2.2.2 (by decide) ?_
      exact e_zretpL hX hR zcdX4_isFooting_25.1 (by decide) h
    · refine s_iload_n (k := 0) hX zcdX4_isFooting_10.2.2.1 rfl rfl ?_
      refine s_bipush (v := (nI 39)) hX zcdX4_isFooting_10.2.2.2.1 (by decide) ?_
      refine e_icmp_gt (tgt := 24) hX zcdX4_isFooting_10.2.2.2.2.1 (by decide) (m_gt (by decide +kernel)) h (fun h => ?_) (fun h => ?_)
      · refine s_iconst (v := (nI 0)) hX zcdX4_isFooting_10.2.2.2.2.2.2.2 (by decide) ?_
        exact e_zretpL hX hR zcdX4_isFooting_25.1 (by decide) h
      · refine s_iconst (v := (nI 1)) hX zcdX4_isFooting_10.2.2.2.2.2.1 (by decide) ?_
        refine s_goto (tgt := 25) hX zcdX4_isFooting_10.2.2.2.2.2.2.1 (by decide) ?_
        exact e_zretpL hX hR zcdX4_isFooting_25.1 (by decide) h
  refine e_if_eq (tgt := 10) hX zcdX3_doesSink_41.2.2.2.2.1 (by decide) z_eq h (fun h => ?_) (fun h => ?_)
  · refine s_loc [1] rfl ?_
    exact j10 h
  · refine s_iload_n (k := 2) hX zcdX3_doesSink_41.2.2.2.2.2.1 rfl rfl ?_
    refine s_bipush (v := (nI 21)) hX zcdX3_doesSink_41.2.2.2.2.2.2.1 (by decide) ?_
    refine e_icmp_ne (tgt := 26) hX zcdX3_doesSink_41.2.2.2.2.2.2.2 (by decide) (m_eq (by decide +kernel)) h (fun h => ?_) (fun h => ?_)
    · refine s_aload_n (k := 0) hX zcdX4_isFooting_25.2.1 rfl rfl ?_
      refine s_aload_n (k := 0) hX zcdX4_isFooting_25.2.2.1 rfl rfl ?_
      refine s_iload_n (k := 1) hX zcdX4_isFooting_25.2.2.2.1 rfl rfl ?_
      refine s_iload_n (k := 2) hX zcdX4_isFooting_25.2.2.2.2.1 rfl rfl ?_
      refine e_callVp hX (t_X2_stoneAt b hb v1 v2 M) mX2_stoneAt lX4_85 (by decide) (by decide) (oF hb) rfl rfl rfl rfl rfl (Nat.le_of_ble_eq_true rfl) zcdX4_isFooting_25.2.2.2.2.2.1 h (fun r_1 h => ?_)
      refine e_callVp hX (t_X2_isDry b hb r_1 M) mX2_isDry lX4_90 (by decide) (by decide) (oF hb) rfl rfl rfl rfl rfl (Nat.le_of_ble_eq_true rfl) zcdX4_isFooting_25.2.2.2.2.2.2.1 h (fun r_2 h => ?_)
      exact e_zretp hX hR zcdX4_isFooting_25.2.2.2.2.2.2.2 h
    · refine s_loc [1] rfl ?_
      exact j10 h
