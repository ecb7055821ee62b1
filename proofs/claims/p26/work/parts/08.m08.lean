theorem zcdX10_oneMore_0 : decode cX10_oneMore 0 = .ok (.aload_n 0, 1) ∧ decode cX10_oneMore 1 = .ok (.iload_n 1, 1) ∧ decode cX10_oneMore 2 = .ok (.invokevirtual 334, 3) ∧ decode cX10_oneMore 5 = .ok (.ifCond .eq 12, 3) ∧ decode cX10_oneMore 8 = .ok (.iload_n 2, 1) ∧ decode cX10_oneMore 9 = .ok (.iconst 0, 1) ∧ decode cX10_oneMore 10 = .ok (.iconst 1, 1) ∧ decode cX10_oneMore 11 = .ok (.invokestatic 132, 3) := by decide +kernel
theorem zcdX10_oneMore_14 : decode cX10_oneMore 14 = .ok (.ifCond .ne 5, 3) ∧ decode cX10_oneMore 17 = .ok (.iconst (-1), 1) ∧ decode cX10_oneMore 18 = .ok (.ireturn, 1) ∧ decode cX10_oneMore 19 = .ok (.aload_n 0, 1) ∧ decode cX10_oneMore 20 = .ok (.getfield 19, 3) ∧ decode cX10_oneMore 23 = .ok (.iload_n 1, 1) ∧ decode cX10_oneMore 24 = .ok (.iaload, 1) ∧ decode cX10_oneMore 25 = .ok (.istore_n 3, 1) := by decide +kernel
theorem zcdX10_oneMore_26 : decode cX10_oneMore 26 = .ok (.aload_n 0, 1) ∧ decode cX10_oneMore 27 = .ok (.iload_n 3, 1) ∧ decode cX10_oneMore 28 = .ok (.invokevirtual 337, 3) ∧ decode cX10_oneMore 31 = .ok (.iconst (-1), 1) ∧ decode cX10_oneMore 32 = .ok (.if_icmp .eq 6, 3) ∧ decode cX10_oneMore 35 = .ok (.bipush (-3), 2) ∧ decode cX10_oneMore 37 = .ok (.ireturn, 1) ∧ decode cX10_oneMore 38 = .ok (.aload_n 0, 1) := by decide +kernel
theorem zcdX10_oneMore_39 : decode cX10_oneMore 39 = .ok (.aload_n 0, 1) ∧ decode cX10_oneMore 40 = .ok (.getfield 80, 3) ∧ decode cX10_oneMore 43 = .ok (.iconst 0, 1) ∧ decode cX10_oneMore 44 = .ok (.iload_n 3, 1) ∧ decode cX10_oneMore 45 = .ok (.invokevirtual 329, 3) ∧ decode cX10_oneMore 48 = .ok (.iconst 1, 1) ∧ decode cX10_oneMore 49 = .ok (.istore 4, 2) ∧ decode cX10_oneMore 51 = .ok (.iload 4, 2) := by decide +kernel
theorem zcdX10_oneMore_53 : decode cX10_oneMore 53 = .ok (.bipush 20, 2) ∧ decode cX10_oneMore 55 = .ok (.if_icmp .gt 61, 3) ∧ decode cX10_oneMore 58 = .ok (.iconst 0, 1) ∧ decode cX10_oneMore 59 = .ok (.istore 5, 2) ∧ decode cX10_oneMore 61 = .ok (.iload 5, 2) ∧ decode cX10_oneMore 63 = .ok (.bipush 40, 2) ∧ decode cX10_oneMore 65 = .ok (.if_icmp .ge 45, 3) ∧ decode cX10_oneMore 68 = .ok (.aload_n 0, 1) := by decide +kernel
theorem zcdX10_oneMore_69 : decode cX10_oneMore 69 = .ok (.iload 5, 2) ∧ decode cX10_oneMore 71 = .ok (.iload 4, 2) ∧ decode cX10_oneMore 73 = .ok (.invokevirtual 147, 3) ∧ decode cX10_oneMore 76 = .ok (.iconst (-1), 1) ∧ decode cX10_oneMore 77 = .ok (.if_icmp .ne 27, 3) ∧ decode cX10_oneMore 80 = .ok (.aload_n 0, 1) ∧ decode cX10_oneMore 81 = .ok (.iload 5, 2) ∧ decode cX10_oneMore 83 = .ok (.iload 4, 2) := by decide +kernel
theorem zcdX10_oneMore_85 : decode cX10_oneMore 85 = .ok (.iload_n 3, 1) ∧ decode cX10_oneMore 86 = .ok (.invokevirtual 353, 3) ∧ decode cX10_oneMore 89 = .ok (.ifCond .eq 15, 3) ∧ decode cX10_oneMore 92 = .ok (.iload_n 2, 1) ∧ decode cX10_oneMore 93 = .ok (.ifCond .ne 8, 3) ∧ decode cX10_oneMore 96 = .ok (.iload 5, 2) ∧ decode cX10_oneMore 98 = .ok (.goto 5, 3) ∧ decode cX10_oneMore 101 = .ok (.iload 4, 2) := by decide +kernel
theorem zcdX10_oneMore_103 : decode cX10_oneMore 103 = .ok (.ireturn, 1) ∧ decode cX10_oneMore 104 = .ok (.iinc 5 1, 3) ∧ decode cX10_oneMore 107 = .ok (.goto (-46), 3) ∧ decode cX10_oneMore 110 = .ok (.iinc 4 1, 3) ∧ decode cX10_oneMore 113 = .ok (.goto (-62), 3) ∧ decode cX10_oneMore 116 = .ok (.bipush (-2), 2) ∧ decode cX10_oneMore 118 = .ok (.ireturn, 1) ∧ decode cX10_pairsOf 0 = .ok (.iconst 0, 1) := by decide +kernel
theorem zcdX10_pairsOf_1 : decode cX10_pairsOf 1 = .ok (.istore_n 1, 1) ∧ decode cX10_pairsOf 2 = .ok (.iconst 0, 1) ∧ decode cX10_pairsOf 3 = .ok (.istore_n 2, 1) ∧ decode cX10_pairsOf 4 = .ok (.iload_n 2, 1) ∧ decode cX10_pairsOf 5 = .ok (.bipush 40, 2) ∧ decode cX10_pairsOf 7 = .ok (.if_icmp .ge 44, 3) ∧ decode cX10_pairsOf 10 = .ok (.aload_n 0, 1) ∧ decode cX10_pairsOf 11 = .ok (.iload_n 2, 1) := by decide +kernel
theorem zcdX10_pairsOf_12 : decode cX10_pairsOf 12 = .ok (.invokevirtual 154, 3) ∧ decode cX10_pairsOf 15 = .ok (.ifCond .ne 6, 3) ∧ decode cX10_pairsOf 18 = .ok (.goto 27, 3) ∧ decode cX10_pairsOf 21 = .ok (.aload_n 0, 1) ∧ decode cX10_pairsOf 22 = .ok (.iload_n 2, 1) ∧ decode cX10_pairsOf 23 = .ok (.invokevirtual 399, 3) ∧ decode cX10_pairsOf 26 = .ok (.istore_n 3, 1) ∧ decode cX10_pairsOf 27 = .ok (.iload_n 3, 1) := by decide +kernel
theorem zcdX10_pairsOf_28 : decode cX10_pairsOf 28 = .ok (.iload_n 2, 1) ∧ decode cX10_pairsOf 29 = .ok (.if_icmp .le 16, 3) ∧ decode cX10_pairsOf 32 = .ok (.aload_n 0, 1) ∧ decode cX10_pairsOf 33 = .ok (.iload_n 3, 1) ∧ decode cX10_pairsOf 34 = .ok (.invokevirtual 399, 3) ∧ decode cX10_pairsOf 37 = .ok (.iload_n 2, 1) ∧ decode cX10_pairsOf 38 = .ok (.if_icmp .ne 7, 3) ∧ decode cX10_pairsOf 41 = .ok (.iload_n 1, 1) := by decide +kernel
theorem zcdX10_pairsOf_42 : decode cX10_pairsOf 42 = .ok (.iconst 1, 1) ∧ decode cX10_pairsOf 43 = .ok (.iadd, 1) ∧ decode cX10_pairsOf 44 = .ok (.istore_n 1, 1) ∧ decode cX10_pairsOf 45 = .ok (.iinc 2 1, 3) ∧ decode cX10_pairsOf 48 = .ok (.goto (-44), 3) ∧ decode cX10_pairsOf 51 = .ok (.iload_n 1, 1) ∧ decode cX10_pairsOf 52 = .ok (.ireturn, 1) ∧ decode cX10_person 0 = .ok (.iload_n 1, 1) := by decide +kernel
theorem zcdX10_person_1 : decode cX10_person 1 = .ok (.iconst 0, 1) ∧ decode cX10_person 2 = .ok (.bipush 7, 2) ∧ decode cX10_person 4 = .ok (.invokestatic 132, 3) ∧ decode cX10_person 7 = .ok (.ifCond .eq 13, 3) ∧ decode cX10_person 10 = .ok (.iload_n 2, 1) ∧ decode cX10_person 11 = .ok (.iconst 1, 1) ∧ decode cX10_person 12 = .ok (.bipush 30, 2) ∧ decode cX10_person 14 = .ok (.invokestatic 132, 3) := by decide +kernel
theorem zcdX10_person_17 : decode cX10_person 17 = .ok (.ifCond .ne 5, 3) ∧ decode cX10_person 20 = .ok (.iconst 0, 1) ∧ decode cX10_person 21 = .ok (.ireturn, 1) ∧ decode cX10_person 22 = .ok (.aload_n 0, 1) ∧ decode cX10_person 23 = .ok (.aload_n 0, 1) ∧ decode cX10_person 24 = .ok (.getfield 136, 3) ∧ decode cX10_person 27 = .ok (.iconst 1, 1) ∧ decode cX10_person 28 = .ok (.iload_n 1, 1) := by decide +kernel
theorem zcdX10_person_29 : decode cX10_person 29 = .ok (.ishl, 1) ∧ decode cX10_person 30 = .ok (.ior, 1) ∧ decode cX10_person 31 = .ok (.putfield 136, 3) ∧ decode cX10_person 34 = .ok (.aload_n 0, 1) ∧ decode cX10_person 35 = .ok (.getfield 19, 3) ∧ decode cX10_person 38 = .ok (.iload_n 1, 1) ∧ decode cX10_person 39 = .ok (.iload_n 2, 1) ∧ decode cX10_person 40 = .ok (.iastore, 1) := by decide +kernel
theorem zcdX10_person_41 : decode cX10_person 41 = .ok (.iconst 1, 1) ∧ decode cX10_person 42 = .ok (.ireturn, 1) ∧ decode cX10_readsHops 0 = .ok (.aload_n 0, 1) ∧ decode cX10_readsHops 1 = .ok (.getfield 165, 3) ∧ decode cX10_readsHops 4 = .ok (.istore_n 1, 1) ∧ decode cX10_readsHops 5 = .ok (.iconst 0, 1) ∧ decode cX10_readsHops 6 = .ok (.istore_n 2, 1) ∧ decode cX10_readsHops 7 = .ok (.iconst 0, 1) := by decide +kernel
theorem zcdX10_readsHops_8 : decode cX10_readsHops 8 = .ok (.istore_n 3, 1) ∧ decode cX10_readsHops 9 = .ok (.iconst 1, 1) ∧ decode cX10_readsHops 10 = .ok (.istore 4, 2) ∧ decode cX10_readsHops 12 = .ok (.iload 4, 2) ∧ decode cX10_readsHops 14 = .ok (.ifCond .eq 190, 3) ∧ decode cX10_readsHops 17 = .ok (.aload_n 0, 1) ∧ decode cX10_readsHops 18 = .ok (.invokevirtual 171, 3) ∧ decode cX10_readsHops 21 = .ok (.istore 5, 2) := by decide +kernel
theorem zcdX10_readsHops_23 : decode cX10_readsHops 23 = .ok (.iload 5, 2) ∧ decode cX10_readsHops 25 = .ok (.bipush 117, 2) ∧ decode cX10_readsHops 27 = .ok (.if_icmp .eq 34, 3) ∧ decode cX10_readsHops 30 = .ok (.iload 5, 2) ∧ decode cX10_readsHops 32 = .ok (.bipush 100, 2) ∧ decode cX10_readsHops 34 = .ok (.if_icmp .eq 27, 3) ∧ decode cX10_readsHops 37 = .ok (.iload 5, 2) ∧ decode cX10_readsHops 39 = .ok (.bipush 111, 2) := by decide +kernel
theorem zcdX10_readsHops_41 : decode cX10_readsHops 41 = .ok (.if_icmp .eq 20, 3) ∧ decode cX10_readsHops 44 = .ok (.iload 5, 2) ∧ decode cX10_readsHops 46 = .ok (.bipush 98, 2) ∧ decode cX10_readsHops 48 = .ok (.if_icmp .eq 13, 3) ∧ decode cX10_readsHops 51 = .ok (.aload_n 0, 1) ∧ decode cX10_readsHops 52 = .ok (.iconst 1, 1) ∧ decode cX10_readsHops 53 = .ok (.aload_n 0, 1) ∧ decode cX10_readsHops 54 = .ok (.getfield 165, 3) := by decide +kernel
theorem zcdX10_readsHops_57 : decode cX10_readsHops 57 = .ok (.invokevirtual 178, 3) ∧ decode cX10_readsHops 60 = .ok (.ireturn, 1) ∧ decode cX10_readsHops 61 = .ok (.aload_n 0, 1) ∧ decode cX10_readsHops 62 = .ok (.aload_n 0, 1) ∧ decode cX10_readsHops 63 = .ok (.getfield 165, 3) ∧ decode cX10_readsHops 66 = .ok (.iconst 1, 1) ∧ decode cX10_readsHops 67 = .ok (.iadd, 1) ∧ decode cX10_readsHops 68 = .ok (.putfield 165, 3) := by decide +kernel
theorem zcdX10_readsHops_71 : decode cX10_readsHops 71 = .ok (.aload_n 0, 1) ∧ decode cX10_readsHops 72 = .ok (.iconst 1, 1) ∧ decode cX10_readsHops 73 = .ok (.putfield 181, 3) ∧ decode cX10_readsHops 76 = .ok (.aload_n 0, 1) ∧ decode cX10_readsHops 77 = .ok (.invokevirtual 184, 3) ∧ decode cX10_readsHops 80 = .ok (.ifCond .eq 12, 3) ∧ decode cX10_readsHops 83 = .ok (.aload_n 0, 1) ∧ decode cX10_readsHops 84 = .ok (.invokevirtual 271, 3) := by decide +kernel
theorem zcdX10_readsHops_87 : decode cX10_readsHops 87 = .ok (.ifCond .ne 5, 3) ∧ decode cX10_readsHops 90 = .ok (.iconst 0, 1) ∧ decode cX10_readsHops 91 = .ok (.ireturn, 1) ∧ decode cX10_readsHops 92 = .ok (.iload_n 2, 1) ∧ decode cX10_readsHops 93 = .ok (.iload 5, 2) ∧ decode cX10_readsHops 95 = .ok (.bipush 117, 2) ∧ decode cX10_readsHops 97 = .ok (.if_icmp .ne 10, 3) ∧ decode cX10_readsHops 100 = .ok (.aload_n 0, 1) := by decide +kernel
theorem zcdX10_readsHops_101 : decode cX10_readsHops 101 = .ok (.getfield 181, 3) ∧ decode cX10_readsHops 104 = .ok (.goto 19, 3) ∧ decode cX10_readsHops 107 = .ok (.iload 5, 2) ∧ decode cX10_readsHops 109 = .ok (.bipush 100, 2) ∧ decode cX10_readsHops 111 = .ok (.if_icmp .ne 11, 3) ∧ decode cX10_readsHops 114 = .ok (.aload_n 0, 1) ∧ decode cX10_readsHops 115 = .ok (.getfield 181, 3) ∧ decode cX10_readsHops 118 = .ok (.ineg, 1) := by decide +kernel
theorem zcdX10_readsHops_119 : decode cX10_readsHops 119 = .ok (.goto 4, 3) ∧ decode cX10_readsHops 122 = .ok (.iconst 0, 1) ∧ decode cX10_readsHops 123 = .ok (.iadd, 1) ∧ decode cX10_readsHops 124 = .ok (.istore_n 2, 1) ∧ decode cX10_readsHops 125 = .ok (.iload_n 3, 1) ∧ decode cX10_readsHops 126 = .ok (.iload 5, 2) ∧ decode cX10_readsHops 128 = .ok (.bipush 111, 2) ∧ decode cX10_readsHops 130 = .ok (.if_icmp .ne 10, 3) := by decide +kernel
theorem zcdX10_readsHops_133 : decode cX10_readsHops 133 = .ok (.aload_n 0, 1) ∧ decode cX10_readsHops 134 = .ok (.getfield 181, 3) ∧ decode cX10_readsHops 137 = .ok (.goto 19, 3) ∧ decode cX10_readsHops 140 = .ok (.iload 5, 2) ∧ decode cX10_readsHops 142 = .ok (.bipush 98, 2) ∧ decode cX10_readsHops 144 = .ok (.if_icmp .ne 11, 3) ∧ decode cX10_readsHops 147 = .ok (.aload_n 0, 1) ∧ decode cX10_readsHops 148 = .ok (.getfield 181, 3) := by decide +kernel
theorem zcdX10_readsHops_151 : decode cX10_readsHops 151 = .ok (.ineg, 1) ∧ decode cX10_readsHops 152 = .ok (.goto 4, 3) ∧ decode cX10_readsHops 155 = .ok (.iconst 0, 1) ∧ decode cX10_readsHops 156 = .ok (.iadd, 1) ∧ decode cX10_readsHops 157 = .ok (.istore_n 3, 1) ∧ decode cX10_readsHops 158 = .ok (.aload_n 0, 1) ∧ decode cX10_readsHops 159 = .ok (.invokevirtual 171, 3) ∧ decode cX10_readsHops 162 = .ok (.bipush 117, 2) := by decide +kernel
theorem zcdX10_readsHops_164 : decode cX10_readsHops 164 = .ok (.if_icmp .eq 30, 3) ∧ decode cX10_readsHops 167 = .ok (.aload_n 0, 1) ∧ decode cX10_readsHops 168 = .ok (.invokevirtual 171, 3) ∧ decode cX10_readsHops 171 = .ok (.bipush 100, 2) ∧ decode cX10_readsHops 173 = .ok (.if_icmp .eq 21, 3) ∧ decode cX10_readsHops 176 = .ok (.aload_n 0, 1) ∧ decode cX10_readsHops 177 = .ok (.invokevirtual 171, 3) ∧ decode cX10_readsHops 180 = .ok (.bipush 111, 2) := by decide +kernel
theorem zcdX10_readsHops_182 : decode cX10_readsHops 182 = .ok (.if_icmp .eq 12, 3) ∧ decode cX10_readsHops 185 = .ok (.aload_n 0, 1) ∧ decode cX10_readsHops 186 = .ok (.invokevirtual 171, 3) ∧ decode cX10_readsHops 189 = .ok (.bipush 98, 2) ∧ decode cX10_readsHops 191 = .ok (.if_icmp .ne 7, 3) ∧ decode cX10_readsHops 194 = .ok (.iconst 1, 1) ∧ decode cX10_readsHops 195 = .ok (.goto 4, 3) ∧ decode cX10_readsHops 198 = .ok (.iconst 0, 1) := by decide +kernel
theorem zcdX10_readsHops_199 : decode cX10_readsHops 199 = .ok (.istore 4, 2) ∧ decode cX10_readsHops 201 = .ok (.goto (-189), 3) ∧ decode cX10_readsHops 204 = .ok (.aload_n 0, 1) ∧ decode cX10_readsHops 205 = .ok (.getfield 359, 3) ∧ decode cX10_readsHops 208 = .ok (.bipush 60, 2) ∧ decode cX10_readsHops 210 = .ok (.if_icmp .ne 11, 3) ∧ decode cX10_readsHops 213 = .ok (.aload_n 0, 1) ∧ decode cX10_readsHops 214 = .ok (.bipush 6, 2) := by decide +kernel
theorem zcdX10_readsHops_216 : decode cX10_readsHops 216 = .ok (.iload_n 1, 1) ∧ decode cX10_readsHops 217 = .ok (.invokevirtual 178, 3) ∧ decode cX10_readsHops 220 = .ok (.ireturn, 1) ∧ decode cX10_readsHops 221 = .ok (.aload_n 0, 1) ∧ decode cX10_readsHops 222 = .ok (.getfield 104, 3) ∧ decode cX10_readsHops 225 = .ok (.aload_n 0, 1) ∧ decode cX10_readsHops 226 = .ok (.getfield 359, 3) ∧ decode cX10_readsHops 229 = .ok (.iload_n 2, 1) := by decide +kernel
theorem zcdX10_readsHops_230 : decode cX10_readsHops 230 = .ok (.iastore, 1) ∧ decode cX10_readsHops 231 = .ok (.aload_n 0, 1) ∧ decode cX10_readsHops 232 = .ok (.getfield 107, 3) ∧ decode cX10_readsHops 235 = .ok (.aload_n 0, 1) ∧ decode cX10_readsHops 236 = .ok (.getfield 359, 3) ∧ decode cX10_readsHops 239 = .ok (.iload_n 3, 1) ∧ decode cX10_readsHops 240 = .ok (.iastore, 1) ∧ decode cX10_readsHops 241 = .ok (.aload_n 0, 1) := by decide +kernel
theorem zcdX10_readsHops_242 : decode cX10_readsHops 242 = .ok (.aload_n 0, 1) ∧ decode cX10_readsHops 243 = .ok (.getfield 359, 3) ∧ decode cX10_readsHops 246 = .ok (.iconst 1, 1) ∧ decode cX10_readsHops 247 = .ok (.iadd, 1) ∧ decode cX10_readsHops 248 = .ok (.putfield 359, 3) ∧ decode cX10_readsHops 251 = .ok (.iconst 1, 1) ∧ decode cX10_readsHops 252 = .ok (.ireturn, 1) ∧ decode cX10_readsWalk 0 = .ok (.iconst 1, 1) := by decide +kernel
theorem zcdX10_readsWalk_1 : decode cX10_readsWalk 1 = .ok (.istore_n 1, 1) ∧ decode cX10_readsWalk 2 = .ok (.iload_n 1, 1) ∧ decode cX10_readsWalk 3 = .ok (.ifCond .eq 152, 3) ∧ decode cX10_readsWalk 6 = .ok (.aload_n 0, 1) ∧ decode cX10_readsWalk 7 = .ok (.invokevirtual 171, 3) ∧ decode cX10_readsWalk 10 = .ok (.bipush 40, 2) ∧ decode cX10_readsWalk 12 = .ok (.if_icmp .ne 70, 3) ∧ decode cX10_readsWalk 15 = .ok (.aload_n 0, 1) := by decide +kernel
theorem zcdX10_readsWalk_16 : decode cX10_readsWalk 16 = .ok (.getfield 362, 3) ∧ decode cX10_readsWalk 19 = .ok (.iconst 2, 1) ∧ decode cX10_readsWalk 20 = .ok (.if_icmp .ne 13, 3) ∧ decode cX10_readsWalk 23 = .ok (.aload_n 0, 1) ∧ decode cX10_readsWalk 24 = .ok (.iconst 5, 1) ∧ decode cX10_readsWalk 25 = .ok (.aload_n 0, 1) ∧ decode cX10_readsWalk 26 = .ok (.getfield 165, 3) ∧ decode cX10_readsWalk 29 = .ok (.invokevirtual 178, 3) := by decide +kernel
theorem zcdX10_readsWalk_32 : decode cX10_readsWalk 32 = .ok (.ireturn, 1) ∧ decode cX10_readsWalk 33 = .ok (.aload_n 0, 1) ∧ decode cX10_readsWalk 34 = .ok (.getfield 110, 3) ∧ decode cX10_readsWalk 37 = .ok (.aload_n 0, 1) ∧ decode cX10_readsWalk 38 = .ok (.getfield 362, 3) ∧ decode cX10_readsWalk 41 = .ok (.aload_n 0, 1) ∧ decode cX10_readsWalk 42 = .ok (.getfield 165, 3) ∧ decode cX10_readsWalk 45 = .ok (.iastore, 1) := by decide +kernel
theorem zcdX10_readsWalk_46 : decode cX10_readsWalk 46 = .ok (.aload_n 0, 1) ∧ decode cX10_readsWalk 47 = .ok (.getfield 113, 3) ∧ decode cX10_readsWalk 50 = .ok (.aload_n 0, 1) ∧ decode cX10_readsWalk 51 = .ok (.getfield 362, 3) ∧ decode cX10_readsWalk 54 = .ok (.aload_n 0, 1) ∧ decode cX10_readsWalk 55 = .ok (.getfield 359, 3) ∧ decode cX10_readsWalk 58 = .ok (.iastore, 1) ∧ decode cX10_readsWalk 59 = .ok (.aload_n 0, 1) := by decide +kernel
theorem zcdX10_readsWalk_60 : decode cX10_readsWalk 60 = .ok (.aload_n 0, 1) ∧ decode cX10_readsWalk 61 = .ok (.getfield 362, 3) ∧ decode cX10_readsWalk 64 = .ok (.iconst 1, 1) ∧ decode cX10_readsWalk 65 = .ok (.iadd, 1) ∧ decode cX10_readsWalk 66 = .ok (.putfield 362, 3) ∧ decode cX10_readsWalk 69 = .ok (.aload_n 0, 1) ∧ decode cX10_readsWalk 70 = .ok (.aload_n 0, 1) ∧ decode cX10_readsWalk 71 = .ok (.getfield 165, 3) := by decide +kernel
theorem zcdX10_readsWalk_74 : decode cX10_readsWalk 74 = .ok (.iconst 1, 1) ∧ decode cX10_readsWalk 75 = .ok (.iadd, 1) ∧ decode cX10_readsWalk 76 = .ok (.putfield 165, 3) ∧ decode cX10_readsWalk 79 = .ok (.goto (-73), 3) ∧ decode cX10_readsWalk 82 = .ok (.aload_n 0, 1) ∧ decode cX10_readsWalk 83 = .ok (.invokevirtual 365, 3) ∧ decode cX10_readsWalk 86 = .ok (.ifCond .ne 5, 3) ∧ decode cX10_readsWalk 89 = .ok (.iconst 0, 1) := by decide +kernel
theorem zcdX10_readsWalk_90 : decode cX10_readsWalk 90 = .ok (.ireturn, 1) ∧ decode cX10_readsWalk 91 = .ok (.aload_n 0, 1) ∧ decode cX10_readsWalk 92 = .ok (.invokevirtual 171, 3) ∧ decode cX10_readsWalk 95 = .ok (.bipush 41, 2) ∧ decode cX10_readsWalk 97 = .ok (.if_icmp .ne 19, 3) ∧ decode cX10_readsWalk 100 = .ok (.aload_n 0, 1) ∧ decode cX10_readsWalk 101 = .ok (.getfield 362, 3) ∧ decode cX10_readsWalk 104 = .ok (.ifCond .le 12, 3) := by decide +kernel
theorem zcdX10_readsWalk_107 : decode cX10_readsWalk 107 = .ok (.aload_n 0, 1) ∧ decode cX10_readsWalk 108 = .ok (.invokevirtual 368, 3) ∧ decode cX10_readsWalk 111 = .ok (.ifCond .ne (-20), 3) ∧ decode cX10_readsWalk 114 = .ok (.iconst 0, 1) ∧ decode cX10_readsWalk 115 = .ok (.ireturn, 1) ∧ decode cX10_readsWalk 116 = .ok (.aload_n 0, 1) ∧ decode cX10_readsWalk 117 = .ok (.getfield 165, 3) ∧ decode cX10_readsWalk 120 = .ok (.aload_n 0, 1) := by decide +kernel
theorem zcdX10_readsWalk_121 : decode cX10_readsWalk 121 = .ok (.getfield 168, 3) ∧ decode cX10_readsWalk 124 = .ok (.if_icmp .lt 10, 3) ∧ decode cX10_readsWalk 127 = .ok (.aload_n 0, 1) ∧ decode cX10_readsWalk 128 = .ok (.getfield 362, 3) ∧ decode cX10_readsWalk 131 = .ok (.ifCond .le 7, 3) ∧ decode cX10_readsWalk 134 = .ok (.iconst 1, 1) ∧ decode cX10_readsWalk 135 = .ok (.goto 4, 3) ∧ decode cX10_readsWalk 138 = .ok (.iconst 0, 1) := by decide +kernel
theorem zcdX10_readsWalk_139 : decode cX10_readsWalk 139 = .ok (.istore_n 1, 1) ∧ decode cX10_readsWalk 140 = .ok (.iload_n 1, 1) ∧ decode cX10_readsWalk 141 = .ok (.ifCond .eq (-139), 3) ∧ decode cX10_readsWalk 144 = .ok (.aload_n 0, 1) ∧ decode cX10_readsWalk 145 = .ok (.bipush 44, 2) ∧ decode cX10_readsWalk 147 = .ok (.invokevirtual 255, 3) ∧ decode cX10_readsWalk 150 = .ok (.ifCond .ne (-148), 3) ∧ decode cX10_readsWalk 153 = .ok (.iconst 0, 1) := by decide +kernel
theorem zcdX10_readsWalk_154 : decode cX10_readsWalk 154 = .ok (.ireturn, 1) ∧ decode cX10_readsWalk 155 = .ok (.iconst 1, 1) ∧ decode cX10_readsWalk 156 = .ok (.ireturn, 1) ∧ decode cX10_seed 0 = .ok (.iload_n 1, 1) ∧ decode cX10_seed 1 = .ok (.iconst 0, 1) ∧ decode cX10_seed 2 = .ok (.ldc_w 414, 3) ∧ decode cX10_seed 5 = .ok (.invokestatic 132, 3) ∧ decode cX10_seed 8 = .ok (.ifCond .ne 5, 3) := by decide +kernel
theorem zcdX10_seed_11 : decode cX10_seed 11 = .ok (.iconst 0, 1) ∧ decode cX10_seed 12 = .ok (.ireturn, 1) ∧ decode cX10_seed 13 = .ok (.aload_n 0, 1) ∧ decode cX10_seed 14 = .ok (.getfield 7, 3) ∧ decode cX10_seed 17 = .ok (.sipush 201, 3) ∧ decode cX10_seed 20 = .ok (.iload_n 1, 1) ∧ decode cX10_seed 21 = .ok (.iastore, 1) ∧ decode cX10_seed 22 = .ok (.iconst 1, 1) := by decide +kernel
theorem zcdX10_seed_23 : decode cX10_seed 23 = .ok (.ireturn, 1) ∧ decode cX10_yardRow 0 = .ok (.iconst 0, 1) ∧ decode cX10_yardRow 1 = .ok (.istore_n 1, 1) ∧ decode cX10_yardRow 2 = .ok (.iconst 0, 1) ∧ decode cX10_yardRow 3 = .ok (.istore_n 2, 1) ∧ decode cX10_yardRow 4 = .ok (.iload_n 2, 1) ∧ decode cX10_yardRow 5 = .ok (.bipush 40, 2) ∧ decode cX10_yardRow 7 = .ok (.if_icmp .ge 60, 3) := by decide +kernel
theorem zcdX10_yardRow_10 : decode cX10_yardRow 10 = .ok (.iconst 0, 1) ∧ decode cX10_yardRow 11 = .ok (.istore_n 3, 1) ∧ decode cX10_yardRow 12 = .ok (.aload_n 0, 1) ∧ decode cX10_yardRow 13 = .ok (.iload_n 2, 1) ∧ decode cX10_yardRow 14 = .ok (.invokevirtual 154, 3) ∧ decode cX10_yardRow 17 = .ok (.ifCond .eq 38, 3) ∧ decode cX10_yardRow 20 = .ok (.aload_n 0, 1) ∧ decode cX10_yardRow 21 = .ok (.aload_n 0, 1) := by decide +kernel
theorem zcdX10_yardRow_22 : decode cX10_yardRow 22 = .ok (.getfield 7, 3) ∧ decode cX10_yardRow 25 = .ok (.bipush 40, 2) ∧ decode cX10_yardRow 27 = .ok (.iload_n 2, 1) ∧ decode cX10_yardRow 28 = .ok (.iadd, 1) ∧ decode cX10_yardRow 29 = .ok (.iaload, 1) ∧ decode cX10_yardRow 30 = .ok (.aload_n 0, 1) ∧ decode cX10_yardRow 31 = .ok (.getfield 7, 3) ∧ decode cX10_yardRow 34 = .ok (.bipush 80, 2) := by decide +kernel
theorem zcdX10_yardRow_36 : decode cX10_yardRow 36 = .ok (.iload_n 2, 1) ∧ decode cX10_yardRow 37 = .ok (.iadd, 1) ∧ decode cX10_yardRow 38 = .ok (.iaload, 1) ∧ decode cX10_yardRow 39 = .ok (.iload_n 3, 1) ∧ decode cX10_yardRow 40 = .ok (.iadd, 1) ∧ decode cX10_yardRow 41 = .ok (.invokevirtual 147, 3) ∧ decode cX10_yardRow 44 = .ok (.iconst (-1), 1) ∧ decode cX10_yardRow 45 = .ok (.if_icmp .eq 10, 3) := by decide +kernel
theorem zcdX10_yardRow_48 : decode cX10_yardRow 48 = .ok (.iload_n 3, 1) ∧ decode cX10_yardRow 49 = .ok (.iconst 1, 1) ∧ decode cX10_yardRow 50 = .ok (.iadd, 1) ∧ decode cX10_yardRow 51 = .ok (.istore_n 3, 1) ∧ decode cX10_yardRow 52 = .ok (.goto (-40), 3) ∧ decode cX10_yardRow 55 = .ok (.iload_n 1, 1) ∧ decode cX10_yardRow 56 = .ok (.iload_n 3, 1) ∧ decode cX10_yardRow 57 = .ok (.invokestatic 129, 3) := by decide +kernel
theorem zcdX10_yardRow_60 : decode cX10_yardRow 60 = .ok (.istore_n 1, 1) ∧ decode cX10_yardRow 61 = .ok (.iinc 2 1, 3) ∧ decode cX10_yardRow 64 = .ok (.goto (-60), 3) ∧ decode cX10_yardRow 67 = .ok (.iload_n 1, 1) ∧ decode cX10_yardRow 68 = .ok (.ireturn, 1) ∧ decode cX10_shape 0 = .ok (.iload_n 1, 1) ∧ decode cX10_shape 1 = .ok (.tableswitch 51 0 3 #[31, 36, 41, 46], 31) ∧ decode cX10_shape 32 = .ok (.aload_n 0, 1) := by decide +kernel
theorem zcdX10_shape_33 : decode cX10_shape 33 = .ok (.invokevirtual 402, 3) ∧ decode cX10_shape 36 = .ok (.ireturn, 1) ∧ decode cX10_shape 37 = .ok (.aload_n 0, 1) ∧ decode cX10_shape 38 = .ok (.invokevirtual 405, 3) ∧ decode cX10_shape 41 = .ok (.ireturn, 1) ∧ decode cX10_shape 42 = .ok (.aload_n 0, 1) ∧ decode cX10_shape 43 = .ok (.invokevirtual 408, 3) ∧ decode cX10_shape 46 = .ok (.ireturn, 1) := by decide +kernel
theorem zcdX10_shape_47 : decode cX10_shape 47 = .ok (.aload_n 0, 1) ∧ decode cX10_shape 48 = .ok (.invokevirtual 411, 3) ∧ decode cX10_shape 51 = .ok (.ireturn, 1) ∧ decode cX10_shape 52 = .ok (.iconst (-1), 1) ∧ decode cX10_shape 53 = .ok (.ireturn, 1) ∧ decode cX10_stone 0 = .ok (.iload_n 1, 1) ∧ decode cX10_stone 1 = .ok (.iconst 0, 1) ∧ decode cX10_stone 2 = .ok (.bipush 39, 2) := by decide +kernel
theorem zcdX10_stone_4 : decode cX10_stone 4 = .ok (.invokestatic 132, 3) ∧ decode cX10_stone 7 = .ok (.ifCond .eq 34, 3) ∧ decode cX10_stone 10 = .ok (.iload_n 2, 1) ∧ decode cX10_stone 11 = .ok (.iconst 0, 1) ∧ decode cX10_stone 12 = .ok (.bipush 39, 2) ∧ decode cX10_stone 14 = .ok (.invokestatic 132, 3) ∧ decode cX10_stone 17 = .ok (.ifCond .eq 24, 3) ∧ decode cX10_stone 20 = .ok (.iload_n 3, 1) := by decide +kernel
theorem zcdX10_stone_21 : decode cX10_stone 21 = .ok (.iconst 1, 1) ∧ decode cX10_stone 22 = .ok (.bipush 20, 2) ∧ decode cX10_stone 24 = .ok (.invokestatic 132, 3) ∧ decode cX10_stone 27 = .ok (.ifCond .eq 14, 3) ∧ decode cX10_stone 30 = .ok (.iload 4, 2) ∧ decode cX10_stone 32 = .ok (.iconst 0, 1) ∧ decode cX10_stone 33 = .ok (.bipush 9, 2) ∧ decode cX10_stone 35 = .ok (.invokestatic 132, 3) := by decide +kernel
theorem zcdX10_stone_38 : decode cX10_stone 38 = .ok (.ifCond .ne 5, 3) ∧ decode cX10_stone 41 = .ok (.iconst 0, 1) ∧ decode cX10_stone 42 = .ok (.ireturn, 1) ∧ decode cX10_stone 43 = .ok (.aload_n 0, 1) ∧ decode cX10_stone 44 = .ok (.iload_n 2, 1) ∧ decode cX10_stone 45 = .ok (.iload_n 3, 1) ∧ decode cX10_stone 46 = .ok (.invokevirtual 147, 3) ∧ decode cX10_stone 49 = .ok (.istore 5, 2) := by decide +kernel
theorem zcdX10_stone_51 : decode cX10_stone 51 = .ok (.iload 5, 2) ∧ decode cX10_stone 53 = .ok (.iconst (-1), 1) ∧ decode cX10_stone 54 = .ok (.if_icmp .eq 11, 3) ∧ decode cX10_stone 57 = .ok (.iload 5, 2) ∧ decode cX10_stone 59 = .ok (.iload_n 1, 1) ∧ decode cX10_stone 60 = .ok (.if_icmp .eq 5, 3) ∧ decode cX10_stone 63 = .ok (.iconst 0, 1) ∧ decode cX10_stone 64 = .ok (.ireturn, 1) := by decide +kernel
theorem zcdX10_stone_65 : decode cX10_stone 65 = .ok (.aload_n 0, 1) ∧ decode cX10_stone 66 = .ok (.iload_n 1, 1) ∧ decode cX10_stone 67 = .ok (.iload_n 2, 1) ∧ decode cX10_stone 68 = .ok (.iload_n 3, 1) ∧ decode cX10_stone 69 = .ok (.iload 4, 2) ∧ decode cX10_stone 71 = .ok (.iconst 0, 1) ∧ decode cX10_stone 72 = .ok (.invokevirtual 150, 3) ∧ decode cX10_stone 75 = .ok (.iconst 1, 1) := by decide +kernel
theorem zcdX10_stone_76 : decode cX10_stone 76 = .ok (.ireturn, 1) ∧ decode cX10_stoneIs 0 = .ok (.aload_n 0, 1) ∧ decode cX10_stoneIs 1 = .ok (.iload_n 1, 1) ∧ decode cX10_stoneIs 2 = .ok (.invokevirtual 154, 3) ∧ decode cX10_stoneIs 5 = .ok (.ifCond .ne 5, 3) ∧ decode cX10_stoneIs 8 = .ok (.iconst (-1), 1) ∧ decode cX10_stoneIs 9 = .ok (.ireturn, 1) ∧ decode cX10_stoneIs 10 = .ok (.iload_n 2, 1) := by decide +kernel
theorem zcdX10_stoneIs_11 : decode cX10_stoneIs 11 = .ok (.tableswitch 80 0 4 #[33, 43, 53, 63, 74], 33) ∧ decode cX10_stoneIs 44 = .ok (.aload_n 0, 1) ∧ decode cX10_stoneIs 45 = .ok (.getfield 7, 3) ∧ decode cX10_stoneIs 48 = .ok (.bipush 40, 2) ∧ decode cX10_stoneIs 50 = .ok (.iload_n 1, 1) ∧ decode cX10_stoneIs 51 = .ok (.iadd, 1) ∧ decode cX10_stoneIs 52 = .ok (.iaload, 1) ∧ decode cX10_stoneIs 53 = .ok (.ireturn, 1) := by decide +kernel
theorem zcdX10_stoneIs_54 : decode cX10_stoneIs 54 = .ok (.aload_n 0, 1) ∧ decode cX10_stoneIs 55 = .ok (.getfield 7, 3) ∧ decode cX10_stoneIs 58 = .ok (.bipush 80, 2) ∧ decode cX10_stoneIs 60 = .ok (.iload_n 1, 1) ∧ decode cX10_stoneIs 61 = .ok (.iadd, 1) ∧ decode cX10_stoneIs 62 = .ok (.iaload, 1) ∧ decode cX10_stoneIs 63 = .ok (.ireturn, 1) ∧ decode cX10_stoneIs 64 = .ok (.aload_n 0, 1) := by decide +kernel
theorem zcdX10_stoneIs_65 : decode cX10_stoneIs 65 = .ok (.getfield 7, 3) ∧ decode cX10_stoneIs 68 = .ok (.bipush 120, 2) ∧ decode cX10_stoneIs 70 = .ok (.iload_n 1, 1) ∧ decode cX10_stoneIs 71 = .ok (.iadd, 1) ∧ decode cX10_stoneIs 72 = .ok (.iaload, 1) ∧ decode cX10_stoneIs 73 = .ok (.ireturn, 1) ∧ decode cX10_stoneIs 74 = .ok (.aload_n 0, 1) ∧ decode cX10_stoneIs 75 = .ok (.getfield 7, 3) := by decide +kernel
theorem zcdX10_stoneIs_78 : decode cX10_stoneIs 78 = .ok (.sipush 160, 3) ∧ decode cX10_stoneIs 81 = .ok (.iload_n 1, 1) ∧ decode cX10_stoneIs 82 = .ok (.iadd, 1) ∧ decode cX10_stoneIs 83 = .ok (.iaload, 1) ∧ decode cX10_stoneIs 84 = .ok (.ireturn, 1) ∧ decode cX10_stoneIs 85 = .ok (.aload_n 0, 1) ∧ decode cX10_stoneIs 86 = .ok (.iload_n 1, 1) ∧ decode cX10_stoneIs 87 = .ok (.invokevirtual 268, 3) := by decide +kernel
theorem zcdX10_stoneIs_90 : decode cX10_stoneIs 90 = .ok (.ireturn, 1) ∧ decode cX10_stoneIs 91 = .ok (.iconst (-1), 1) ∧ decode cX10_stoneIs 92 = .ok (.ireturn, 1) ∧ decode cX10_take 0 = .ok (.aload_n 0, 1) ∧ decode cX10_take 1 = .ok (.iload_n 1, 1) ∧ decode cX10_take 2 = .ok (.invokevirtual 154, 3) ∧ decode cX10_take 5 = .ok (.ifCond .ne 5, 3) ∧ decode cX10_take 8 = .ok (.iconst 0, 1) := by decide +kernel
theorem zcdX10_take_9 : decode cX10_take 9 = .ok (.ireturn, 1) ∧ decode cX10_take 10 = .ok (.aload_n 0, 1) ∧ decode cX10_take 11 = .ok (.getfield 7, 3) ∧ decode cX10_take 14 = .ok (.iconst 0, 1) ∧ decode cX10_take 15 = .ok (.iload_n 1, 1) ∧ decode cX10_take 16 = .ok (.iadd, 1) ∧ decode cX10_take 17 = .ok (.iconst 0, 1) ∧ decode cX10_take 18 = .ok (.iastore, 1) := by decide +kernel
theorem zcdX10_take_19 : decode cX10_take 19 = .ok (.iconst 1, 1) ∧ decode cX10_take 20 = .ok (.ireturn, 1) := by decide +kernel
set_option maxHeartbeats 4000000 in
theorem t_X10_oneMore (v1 : Int32) (v2 : Int32) (M : Mem) : AXi yX10_oneMore cX10_oneMore 6 (some .int) 4 39 glM (fun ad => [.ref (ad 0), .int v1, .int v2]) M (f_X10_oneMore M v1 v2) := by
  intro r0 h
  refine AM.of (by decide) (fun _ => Nat.le_of_ble_eq_true rfl) (fun X ad cI cZ cB hX hR => ?_)
  show V X M [(0, .ref (ad 0)), (1, .int v1), (2, .int v2)] [] 0
  refine s_aload_n (k := 0) hX zcdX10_oneMore_0.1 rfl rfl ?_
  refine s_iload_n (k := 1) hX zcdX10_oneMore_0.2.1 rfl rfl ?_
  refine e_callVp hX (t_X10_isPerson v1 M) mX10_isPerson lX10_334 (by decide) (by decide) oM0 rfl rfl rfl rfl rfl (Nat.le_of_ble_eq_true rfl) zcdX10_oneMore_0.2.2.1 h (fun r_1 h => ?_)
  refine e_if_eq (tgt := 17) hX zcdX10_oneMore_0.2.2.2.1 (by decide) z_eq h (fun h => ?_) (fun h => ?_)
  · refine s_iconst (v := (-1)) hX zcdX10_oneMore_14.2.1 (by decide) ?_
    exact e_ireti hX hR zcdX10_oneMore_14.2.2.1 h
  · refine s_iload_n (k := 2) hX zcdX10_oneMore_0.2.2.2.2.1 rfl rfl ?_
    refine s_iconst (v := (nI 0)) hX zcdX10_oneMore_0.2.2.2.2.2.1 (by decide) ?_
    refine s_iconst (v := (nI 1)) hX zcdX10_oneMore_0.2.2.2.2.2.2.1 (by decide) ?_
    refine e_callSp hX (t_X10_in v2 (nI 0) (nI 1) M) mX10_in lX10_132 (by decide) (by decide) rfl rfl (Nat.le_of_ble_eq_true rfl) zcdX10_oneMore_0.2.2.2.2.2.2.2 h (fun r_2 h => ?_)
    refine e_if_ne (tgt := 19) hX zcdX10_oneMore_14.1 (by decide) z_eq h (fun h => ?_) (fun h => ?_)
    · refine s_aload_n (k := 0) hX zcdX10_oneMore_14.2.2.2.1 rfl rfl ?_
      refine s_get hX fX10_19 oM0 rfl zcdX10_oneMore_14.2.2.2.2.1 ?_
      refine s_iload_n (k := 1) hX zcdX10_oneMore_14.2.2.2.2.2.1 rfl rfl ?_
      refine e_iald hX aM4 zcdX10_oneMore_14.2.2.2.2.2.2.1 h (fun h => ?_)
      refine e_bnd h (fun x_3 h => ?_)
      refine s_istore_n (lv' := [(0, .ref (ad 0)), (1, .int v1), (2, .int v2), (3, .int x_3)]) hX zcdX10_oneMore_14.2.2.2.2.2.2.2 rfl (by decide) rfl ?_
      refine s_aload_n (k := 0) hX zcdX10_oneMore_26.1 rfl rfl ?_
      refine s_iload_n (k := 3) hX zcdX10_oneMore_26.2.1 rfl rfl ?_
      refine e_callVi hX (t_X10_crossing x_3 M) mX10_crossing lX10_337 (by decide) (by decide) oM0 rfl rfl rfl rfl rfl (Nat.le_of_ble_eq_true rfl) zcdX10_oneMore_26.2.2.1 h (fun r_4 M_5 h => ?_)
      refine s_iconst (v := (-1)) hX zcdX10_oneMore_26.2.2.2.1 (by decide) ?_
      refine e_icmp_eq (tgt := 38) hX zcdX10_oneMore_26.2.2.2.2.1 (by decide) (m_eq (by decide +kernel)) h (fun h => ?_) (fun h => ?_)
      · refine s_aload_n (k := 0) hX zcdX10_oneMore_26.2.2.2.2.2.2.2 rfl rfl ?_
        refine s_aload_n (k := 0) hX zcdX10_oneMore_39.1 rfl rfl ?_
        refine s_get hX fX10_80 oM0 rfl zcdX10_oneMore_39.2.1 ?_
        refine s_iconst (v := (nI 0)) hX zcdX10_oneMore_39.2.2.1 (by decide) ?_
        refine s_iload_n (k := 3) hX zcdX10_oneMore_39.2.2.2.1 rfl rfl ?_
        refine e_callVv hX (t_X10_laysSteps 24 40 aM24 (by decide) (nI 0) x_3 M_5) mX10_laysSteps lX10_329 (by decide) (by decide) oM0 rfl rfl rfl rfl rfl (Nat.le_of_ble_eq_true rfl) zcdX10_oneMore_39.2.2.2.2.1 h (fun M_6 h => ?_)
        refine s_iconst (v := (nI 1)) hX zcdX10_oneMore_39.2.2.2.2.2.1 (by decide) ?_
        refine s_istore (lv' := [(0, .ref (ad 0)), (1, .int v1), (2, .int v2), (3, .int x_3), (4, .int (nI 1))]) hX zcdX10_oneMore_39.2.2.2.2.2.2.1 (by decide) rfl ?_
        have lp51 : ∀ (N51 : Nat) (y4_51 : Int32), wlp1 (f_X10_oneMore_B51 v2 x_3 M_6) N51 y4_51 = some r0 → V X M_6 [(0, .ref (ad 0)), (2, .int v2), (3, .int x_3), (4, .int y4_51)] [] 51 := by
          intro N51
          induction N51 with
          | zero => exact fun _ h => e_none h
          | succ N51 ih51 =>
            intro y4_51 h
            replace h : f_X10_oneMore_B51 v2 x_3 M_6 (wlp1 (f_X10_oneMore_B51 v2 x_3 M_6) N51) y4_51 = some r0 := h
            generalize wlp1 (f_X10_oneMore_B51 v2 x_3 M_6) N51 = ag51 at ih51 h
            refine s_iload (k := 3) hX zcdX10_oneMore_39.2.2.2.2.2.2.2 rfl ?_
            refine s_bipush (v := (nI 20)) hX zcdX10_oneMore_53.1 (by decide) ?_
            refine e_icmp_gt (tgt := 116) hX zcdX10_oneMore_53.2.1 (by decide) (m_gt (by decide +kernel)) h (fun h => ?_) (fun h => ?_)
            · refine s_bipush (v := (-2)) hX zcdX10_oneMore_103.2.2.2.2.2.1 (by decide) ?_
              exact e_ireti hX hR zcdX10_oneMore_103.2.2.2.2.2.2.1 h
            · refine s_iconst (v := (nI 0)) hX zcdX10_oneMore_53.2.2.1 (by decide) ?_
              refine s_istore (lv' := [(0, .ref (ad 0)), (2, .int v2), (3, .int x_3), (4, .int y4_51), (5, .int (nI 0))]) hX zcdX10_oneMore_53.2.2.2.1 (by decide) rfl ?_
              have lp61 : ∀ (N61 : Nat) (y5_61 : Int32), wlp1 (f_X10_oneMore_B61 v2 x_3 M_6 ag51 y4_51) N61 y5_61 = some r0 → V X M_6 [(0, .ref (ad 0)), (2, .int v2), (3, .int x_3), (4, .int y4_51), (5, .int y5_61)] [] 61 := by
                intro N61
                induction N61 with
                | zero => exact fun _ h => e_none h
                | succ N61 ih61 =>
                  intro y5_61 h
                  replace h : f_X10_oneMore_B61 v2 x_3 M_6 ag51 y4_51 (wlp1 (f_X10_oneMore_B61 v2 x_3 M_6 ag51 y4_51) N61) y5_61 = some r0 := h
                  generalize wlp1 (f_X10_oneMore_B61 v2 x_3 M_6 ag51 y4_51) N61 = ag61 at ih61 h
                  refine s_iload (k := 4) hX zcdX10_oneMore_53.2.2.2.2.1 rfl ?_
                  refine s_bipush (v := (nI 40)) hX zcdX10_oneMore_53.2.2.2.2.2.1 (by decide) ?_
                  refine e_icmp_ge (tgt := 110) hX zcdX10_oneMore_53.2.2.2.2.2.2.1 (by decide) (m_ge (by decide +kernel)) h (fun h => ?_) (fun h => ?_)
                  · refine s_iinc (k := 3) (v := (y4_51 + (nI 1))) (lv' := [(0, .ref (ad 0)), (2, .int v2), (3, .int x_3), (5, .int y5_61), (4, .int (y4_51 + (nI 1)))]) hX zcdX10_oneMore_103.2.2.2.1 (congrArg (fun z => y4_51 + z) (by decide)) (by decide) rfl rfl ?_
                    refine s_goto (tgt := 51) hX zcdX10_oneMore_103.2.2.2.2.1 (by decide) ?_
                    refine s_loc [0, 1, 2, 4] rfl ?_
                    exact ih51 (y4_51 + (nI 1)) h
                  · refine s_aload_n (k := 0) hX zcdX10_oneMore_53.2.2.2.2.2.2.2 rfl rfl ?_
                    refine s_iload (k := 4) hX zcdX10_oneMore_69.1 rfl ?_
                    refine s_iload (k := 3) hX zcdX10_oneMore_69.2.1 rfl ?_
                    refine e_callVp hX (t_X10_stoneAt y5_61 y4_51 M_6) mX10_stoneAt lX10_147 (by decide) (by decide) oM0 rfl rfl rfl rfl rfl (Nat.le_of_ble_eq_true rfl) zcdX10_oneMore_69.2.2.1 h (fun r_7 h => ?_)
                    refine s_iconst (v := (-1)) hX zcdX10_oneMore_69.2.2.2.1 (by decide) ?_
                    refine e_icmp_ne (tgt := 104) hX zcdX10_oneMore_69.2.2.2.2.1 (by decide) (m_eq (by decide +kernel)) h (fun h => ?_) (fun h => ?_)
                    · refine s_iinc (k := 4) (v := (y5_61 + (nI 1))) (lv' := [(0, .ref (ad 0)), (2, .int v2), (3, .int x_3), (4, .int y4_51), (5, .int (y5_61 + (nI 1)))]) hX zcdX10_oneMore_103.2.1 (congrArg (fun z => y5_61 + z) (by decide)) (by decide) rfl rfl ?_
                      refine s_goto (tgt := 61) hX zcdX10_oneMore_103.2.2.1 (by decide) ?_
                      exact ih61 (y5_61 + (nI 1)) h
                    · refine s_aload_n (k := 0) hX zcdX10_oneMore_69.2.2.2.2.2.1 rfl rfl ?_
                      refine s_iload (k := 4) hX zcdX10_oneMore_69.2.2.2.2.2.2.1 rfl ?_
                      refine s_iload (k := 3) hX zcdX10_oneMore_69.2.2.2.2.2.2.2 rfl ?_
                      refine s_iload_n (k := 2) hX zcdX10_oneMore_85.1 rfl rfl ?_
                      refine e_callVp hX (t_X10_wouldDo y5_61 y4_51 x_3 M_6) mX10_wouldDo lX10_353 (by decide) (by decide) oM0 rfl rfl rfl rfl rfl (Nat.le_of_ble_eq_true rfl) zcdX10_oneMore_85.2.1 h (fun r_8 h => ?_)
                      have j92 : f_X10_oneMore_L92 v2 M_6 y4_51 y5_61 = some r0 → V X M_6 [(2, .int v2), (4, .int y4_51), (5, .int y5_61)] [] 92 := by
                        intro  h
                        refine s_iload_n (k := 0) hX zcdX10_oneMore_85.2.2.2.1 rfl rfl ?_
                        refine e_if_ne (tgt := 101) hX zcdX10_oneMore_85.2.2.2.2.1 (by decide) z_eq h (fun h => ?_) (fun h => ?_)
                        · refine s_iload (k := 1) hX zcdX10_oneMore_85.2.2.2.2.2.2.2 rfl ?_
                          exact e_ireti hX hR zcdX10_oneMore_103.1 h
                        · refine s_iload (k := 2) hX zcdX10_oneMore_85.2.2.2.2.2.1 rfl ?_
                          refine s_goto (tgt := 103) hX zcdX10_oneMore_85.2.2.2.2.2.2.1 (by decide) ?_
                          exact e_ireti hX hR zcdX10_oneMore_103.1 h
                      refine e_if_eq (tgt := 104) hX zcdX10_oneMore_85.2.2.1 (by decide) z_eq h (fun h => ?_) (fun h => ?_)
                      · refine s_iinc (k := 4) (v := (y5_61 + (nI 1))) (lv' := [(0, .ref (ad 0)), (2, .int v2), (3, .int x_3), (4, .int y4_51), (5, .int (y5_61 + (nI 1)))]) hX zcdX10_oneMore_103.2.1 (congrArg (fun z => y5_61 + z) (by decide)) (by decide) rfl rfl ?_
                        refine s_goto (tgt := 61) hX zcdX10_oneMore_103.2.2.1 (by decide) ?_
                        exact ih61 (y5_61 + (nI 1)) h
                      · refine s_loc [1, 3, 4] rfl ?_
                        exact j92 h
              exact lp61 FU (nI 0) h
        refine s_loc [0, 2, 3, 4] rfl ?_
        exact lp51 FU (nI 1) h
      · refine s_bipush (v := (-3)) hX zcdX10_oneMore_26.2.2.2.2.2.1 (by decide) ?_
        exact e_ireti hX hR zcdX10_oneMore_26.2.2.2.2.2.2.1 h
    · refine s_iconst (v := (-1)) hX zcdX10_oneMore_14.2.1 (by decide) ?_
      exact e_ireti hX hR zcdX10_oneMore_14.2.2.1 h
set_option maxHeartbeats 4000000 in
theorem t_X10_pairsOf (M : Mem) : AXp yX10_pairsOf cX10_pairsOf 4 (some .int) 3 39 glM (fun ad => [.ref (ad 0)]) M (f_X10_pairsOf M) := by
  intro r0 h
  refine AM.of (by decide) (fun _ => Nat.le_of_ble_eq_true rfl) (fun X ad cI cZ cB hX hR => ?_)
  show V X M [(0, .ref (ad 0))] [] 0
  refine s_iconst (v := (nI 0)) hX zcdX10_oneMore_103.2.2.2.2.2.2.2 (by decide) ?_
  refine s_istore_n (lv' := [(0, .ref (ad 0)), (1, .int (nI 0))]) hX zcdX10_pairsOf_1.1 rfl (by decide) rfl ?_
  refine s_iconst (v := (nI 0)) hX zcdX10_pairsOf_1.2.1 (by decide) ?_
  refine s_istore_n (lv' := [(0, .ref (ad 0)), (1, .int (nI 0)), (2, .int (nI 0))]) hX zcdX10_pairsOf_1.2.2.1 rfl (by decide) rfl ?_
  have lp4 : ∀ (N4 : Nat) (y1_4 : Int32) (y2_4 : Int32), wlp2 (f_X10_pairsOf_B4 M) N4 y1_4 y2_4 = some r0 → V X M [(0, .ref (ad 0)), (1, .int y1_4), (2, .int y2_4)] [] 4 := by
    intro N4
    induction N4 with
    | zero => exact fun _ _ h => e_none h
    | succ N4 ih4 =>
      intro y1_4 y2_4 h
      replace h : f_X10_pairsOf_B4 M (wlp2 (f_X10_pairsOf_B4 M) N4) y1_4 y2_4 = some r0 := h
      generalize wlp2 (f_X10_pairsOf_B4 M) N4 = ag4 at ih4 h
      refine s_iload_n (k := 2) hX zcdX10_pairsOf_1.2.2.2.1 rfl rfl ?_
      refine s_bipush (v := (nI 40)) hX zcdX10_pairsOf_1.2.2.2.2.1 (by decide) ?_
      refine e_icmp_ge (tgt := 51) hX zcdX10_pairsOf_1.2.2.2.2.2.1 (by decide) (m_ge (by decide +kernel)) h (fun h => ?_) (fun h => ?_)
      · refine s_iload_n (k := 1) hX zcdX10_pairsOf_42.2.2.2.2.2.1 rfl rfl ?_
        exact e_iretp hX hR zcdX10_pairsOf_42.2.2.2.2.2.2.1 h
      · refine s_aload_n (k := 0) hX zcdX10_pairsOf_1.2.2.2.2.2.2.1 rfl rfl ?_
        refine s_iload_n (k := 2) hX zcdX10_pairsOf_1.2.2.2.2.2.2.2 rfl rfl ?_
        refine e_callVp hX (t_X10_isStone y2_4 M) mX10_isStone lX10_154 (by decide) (by decide) oM0 rfl rfl rfl rfl rfl (Nat.le_of_ble_eq_true rfl) zcdX10_pairsOf_12.1 h (fun r_1 h => ?_)
        refine e_if_ne (tgt := 21) hX zcdX10_pairsOf_12.2.1 (by decide) z_eq h (fun h => ?_) (fun h => ?_)
        · refine s_aload_n (k := 0) hX zcdX10_pairsOf_12.2.2.2.1 rfl rfl ?_
          refine s_iload_n (k := 2) hX zcdX10_pairsOf_12.2.2.2.2.1 rfl rfl ?_
          refine e_callVp hX (t_X10_nearestTo y2_4 M) mX10_nearestTo lX10_399 (by decide) (by decide) oM0 rfl rfl rfl rfl rfl (Nat.le_of_ble_eq_true rfl) zcdX10_pairsOf_12.2.2.2.2.2.1 h (fun r_2 h => ?_)
          refine s_istore_n (lv' := [(0, .ref (ad 0)), (1, .int y1_4), (2, .int y2_4), (3, .int r_2)]) hX zcdX10_pairsOf_12.2.2.2.2.2.2.1 rfl (by decide) rfl ?_
          refine s_iload_n (k := 3) hX zcdX10_pairsOf_12.2.2.2.2.2.2.2 rfl rfl ?_
          refine s_iload_n (k := 2) hX zcdX10_pairsOf_28.1 rfl rfl ?_
          refine e_icmp_le (tgt := 45) hX zcdX10_pairsOf_28.2.1 (by decide) r_le h (fun h => ?_) (fun h => ?_)
          · refine s_iinc (k := 2) (v := (y2_4 + (nI 1))) (lv' := [(0, .ref (ad 0)), (1, .int y1_4), (3, .int r_2), (2, .int (y2_4 + (nI 1)))]) hX zcdX10_pairsOf_42.2.2.2.1 (congrArg (fun z => y2_4 + z) (by decide)) (by decide) rfl rfl ?_
            refine s_goto (tgt := 4) hX zcdX10_pairsOf_42.2.2.2.2.1 (by decide) ?_
            refine s_loc [0, 1, 3] rfl ?_
            exact ih4 y1_4 (y2_4 + (nI 1)) h
          · refine s_aload_n (k := 0) hX zcdX10_pairsOf_28.2.2.1 rfl rfl ?_
            refine s_iload_n (k := 3) hX zcdX10_pairsOf_28.2.2.2.1 rfl rfl ?_
            refine e_callVp hX (t_X10_nearestTo r_2 M) mX10_nearestTo lX10_399 (by decide) (by decide) oM0 rfl rfl rfl rfl rfl (Nat.le_of_ble_eq_true rfl) zcdX10_pairsOf_28.2.2.2.2.1 h (fun r_3 h => ?_)
            refine s_iload_n (k := 2) hX zcdX10_pairsOf_28.2.2.2.2.2.1 rfl rfl ?_
            refine e_icmp_ne (tgt := 45) hX zcdX10_pairsOf_28.2.2.2.2.2.2.1 (by decide) r_eq h (fun h => ?_) (fun h => ?_)
            · refine s_iinc (k := 2) (v := (y2_4 + (nI 1))) (lv' := [(0, .ref (ad 0)), (1, .int y1_4), (3, .int r_2), (2, .int (y2_4 + (nI 1)))]) hX zcdX10_pairsOf_42.2.2.2.1 (congrArg (fun z => y2_4 + z) (by decide)) (by decide) rfl rfl ?_
              refine s_goto (tgt := 4) hX zcdX10_pairsOf_42.2.2.2.2.1 (by decide) ?_
              refine s_loc [0, 1, 3] rfl ?_
              exact ih4 y1_4 (y2_4 + (nI 1)) h
            · refine s_iload_n (k := 1) hX zcdX10_pairsOf_28.2.2.2.2.2.2.2 rfl rfl ?_
              refine s_iconst (v := (nI 1)) hX zcdX10_pairsOf_42.1 (by decide) ?_
              refine s_iadd hX zcdX10_pairsOf_42.2.1 ?_
              refine s_istore_n (lv' := [(0, .ref (ad 0)), (2, .int y2_4), (3, .int r_2), (1, .int (y1_4 + (nI 1)))]) hX zcdX10_pairsOf_42.2.2.1 rfl (by decide) rfl ?_
              refine s_iinc (k := 1) (v := (y2_4 + (nI 1))) (lv' := [(0, .ref (ad 0)), (3, .int r_2), (1, .int (y1_4 + (nI 1))), (2, .int (y2_4 + (nI 1)))]) hX zcdX10_pairsOf_42.2.2.2.1 (congrArg (fun z => y2_4 + z) (by decide)) (by decide) rfl rfl ?_
              refine s_goto (tgt := 4) hX zcdX10_pairsOf_42.2.2.2.2.1 (by decide) ?_
              refine s_loc [0, 2, 3] rfl ?_
              exact ih4 (y1_4 + (nI 1)) (y2_4 + (nI 1)) h
        · refine s_goto (tgt := 45) hX zcdX10_pairsOf_12.2.2.1 (by decide) ?_
          refine s_iinc (k := 2) (v := (y2_4 + (nI 1))) (lv' := [(0, .ref (ad 0)), (1, .int y1_4), (2, .int (y2_4 + (nI 1)))]) hX zcdX10_pairsOf_42.2.2.2.1 (congrArg (fun z => y2_4 + z) (by decide)) (by decide) rfl rfl ?_
          refine s_goto (tgt := 4) hX zcdX10_pairsOf_42.2.2.2.2.1 (by decide) ?_
          exact ih4 y1_4 (y2_4 + (nI 1)) h
  exact lp4 FU (nI 0) (nI 0) h
set_option maxHeartbeats 4000000 in
theorem t_X10_person (v1 : Int32) (v2 : Int32) (M : Mem) : AXi yX10_person cX10_person 3 (some .boolean) 1 39 glM (fun ad => [.ref (ad 0), .int v1, .int v2]) M (f_X10_person M v1 v2) := by
  intro r0 h
  refine AM.of (by decide) (fun _ => Nat.le_of_ble_eq_true rfl) (fun X ad cI cZ cB hX hR => ?_)
  show V X M [(0, .ref (ad 0)), (1, .int v1), (2, .int v2)] [] 0
  refine s_iload_n (k := 1) hX zcdX10_pairsOf_42.2.2.2.2.2.2.2 rfl rfl ?_
  refine s_iconst (v := (nI 0)) hX zcdX10_person_1.1 (by decide) ?_
  refine s_bipush (v := (nI 7)) hX zcdX10_person_1.2.1 (by decide) ?_
  refine e_callSp hX (t_X10_in v1 (nI 0) (nI 7) M) mX10_in lX10_132 (by decide) (by decide) rfl rfl (Nat.le_of_ble_eq_true rfl) zcdX10_person_1.2.2.1 h (fun r_1 h => ?_)
  refine e_if_eq (tgt := 20) hX zcdX10_person_1.2.2.2.1 (by decide) z_eq h (fun h => ?_) (fun h => ?_)
  · refine s_iconst (v := (nI 0)) hX zcdX10_person_17.2.1 (by decide) ?_
    exact e_zretiL hX hR zcdX10_person_17.2.2.1 (by decide) h
  · refine s_iload_n (k := 2) hX zcdX10_person_1.2.2.2.2.1 rfl rfl ?_
    refine s_iconst (v := (nI 1)) hX zcdX10_person_1.2.2.2.2.2.1 (by decide) ?_
    refine s_bipush (v := (nI 30)) hX zcdX10_person_1.2.2.2.2.2.2.1 (by decide) ?_
    refine e_callSp hX (t_X10_in v2 (nI 1) (nI 30) M) mX10_in lX10_132 (by decide) (by decide) rfl rfl (Nat.le_of_ble_eq_true rfl) zcdX10_person_1.2.2.2.2.2.2.2 h (fun r_2 h => ?_)
    refine e_if_ne (tgt := 22) hX zcdX10_person_17.1 (by decide) z_eq h (fun h => ?_) (fun h => ?_)
    · refine s_aload_n (k := 0) hX zcdX10_person_17.2.2.2.1 rfl rfl ?_
      refine s_aload_n (k := 0) hX zcdX10_person_17.2.2.2.2.1 rfl rfl ?_
      refine s_get hX fX10_136 oM0 rfl zcdX10_person_17.2.2.2.2.2.1 ?_
      refine s_iconst (v := (nI 1)) hX zcdX10_person_17.2.2.2.2.2.2.1 (by decide) ?_
      refine s_iload_n (k := 1) hX zcdX10_person_17.2.2.2.2.2.2.2 rfl rfl ?_
      refine e_ishl hX zcdX10_person_29.1 ?_
      refine s_ior hX zcdX10_person_29.2.1 ?_
      refine s_puti (ty := .int) hX fX10_136 oM0 rfl (Nat.le_of_ble_eq_true rfl) ty_10_4 rfl rfl zcdX10_person_29.2.2.1 ?_
      refine e_bndM h (fun M_3 h => ?_)
      refine s_aload_n (k := 0) hX zcdX10_person_29.2.2.2.1 rfl rfl ?_
      refine s_get hX fX10_19 oM0 rfl zcdX10_person_29.2.2.2.2.1 ?_
      refine s_iload_n (k := 1) hX zcdX10_person_29.2.2.2.2.2.1 rfl rfl ?_
      refine s_iload_n (k := 2) hX zcdX10_person_29.2.2.2.2.2.2.1 rfl rfl ?_
      refine e_iast hX aM4 zcdX10_person_29.2.2.2.2.2.2.2 h (fun h => ?_)
      refine e_bndM h (fun M_4 h => ?_)
      refine s_iconst (v := (nI 1)) hX zcdX10_person_41.1 (by decide) ?_
      exact e_zretiL hX hR zcdX10_person_41.2.1 (by decide) h
    · refine s_iconst (v := (nI 0)) hX zcdX10_person_17.2.1 (by decide) ?_
      exact e_zretiL hX hR zcdX10_person_17.2.2.1 (by decide) h
set_option maxHeartbeats 4000000 in
theorem t_X10_readsHops (M : Mem) : AXi yX10_readsHops cX10_readsHops 6 (some .boolean) 3 39 glM (fun ad => [.ref (ad 0)]) M (f_X10_readsHops M) := by
  intro r0 h
  refine AM.of (by decide) (fun _ => Nat.le_of_ble_eq_true rfl) (fun X ad cI cZ cB hX hR => ?_)
  show V X M [(0, .ref (ad 0))] [] 0
  refine s_aload_n (k := 0) hX zcdX10_person_41.2.2.1 rfl rfl ?_
  refine s_get hX fX10_165 oM0 rfl zcdX10_person_41.2.2.2.1 ?_
  refine e_bnd h (fun x_1 h => ?_)
  refine s_istore_n (lv' := [(0, .ref (ad 0)), (1, .int x_1)]) hX zcdX10_person_41.2.2.2.2.1 rfl (by decide) rfl ?_
  refine s_iconst (v := (nI 0)) hX zcdX10_person_41.2.2.2.2.2.1 (by decide) ?_
  refine s_istore_n (lv' := [(0, .ref (ad 0)), (1, .int x_1), (2, .int (nI 0))]) hX zcdX10_person_41.2.2.2.2.2.2.1 rfl (by decide) rfl ?_
  refine s_iconst (v := (nI 0)) hX zcdX10_person_41.2.2.2.2.2.2.2 (by decide) ?_
  refine s_istore_n (lv' := [(0, .ref (ad 0)), (1, .int x_1), (2, .int (nI 0)), (3, .int (nI 0))]) hX zcdX10_readsHops_8.1 rfl (by decide) rfl ?_
  refine s_iconst (v := (nI 1)) hX zcdX10_readsHops_8.2.1 (by decide) ?_
  refine s_istore (lv' := [(0, .ref (ad 0)), (1, .int x_1), (2, .int (nI 0)), (3, .int (nI 0)), (4, .int (nI 1))]) hX zcdX10_readsHops_8.2.2.1 (by decide) rfl ?_
  have lp12 : ∀ (N12 : Nat) (M12 : Mem) (y2_12 : Int32) (y3_12 : Int32) (y4_12 : Int32), wlp4 (f_X10_readsHops_B12 x_1) N12 M12 y2_12 y3_12 y4_12 = some r0 → V X M12 [(0, .ref (ad 0)), (1, .int x_1), (2, .int y2_12), (3, .int y3_12), (4, .int y4_12)] [] 12 := by
    intro N12
    induction N12 with
    | zero => exact fun _ _ _ _ h => e_none h
    | succ N12 ih12 =>
      intro M12 y2_12 y3_12 y4_12 h
      replace h : f_X10_readsHops_B12 x_1 (wlp4 (f_X10_readsHops_B12 x_1) N12) M12 y2_12 y3_12 y4_12 = some r0 := h
      generalize wlp4 (f_X10_readsHops_B12 x_1) N12 = ag12 at ih12 h
      refine s_iload (k := 4) hX zcdX10_readsHops_8.2.2.2.1 rfl ?_
      have j204 : f_X10_readsHops_L204 x_1 M12 y2_12 y3_12 = some r0 → V X M12 [(0, .ref (ad 0)), (1, .int x_1), (2, .int y2_12), (3, .int y3_12)] [] 204 := by
        intro  h
        refine s_aload_n (k := 0) hX zcdX10_readsHops_199.2.2.1 rfl rfl ?_
        refine s_get hX fX10_359 oM0 rfl zcdX10_readsHops_199.2.2.2.1 ?_
        refine s_bipush (v := (nI 60)) hX zcdX10_readsHops_199.2.2.2.2.1 (by decide) ?_
        refine e_icmp_ne (tgt := 221) hX zcdX10_readsHops_199.2.2.2.2.2.1 (by decide) (m_eq (by decide +kernel)) h (fun h => ?_) (fun h => ?_)
        · refine s_aload_n (k := 0) hX zcdX10_readsHops_216.2.2.2.1 rfl rfl ?_
          refine s_get hX fX10_104 oM0 rfl zcdX10_readsHops_216.2.2.2.2.1 ?_
          refine s_aload_n (k := 0) hX zcdX10_readsHops_216.2.2.2.2.2.1 rfl rfl ?_
          refine s_get hX fX10_359 oM0 rfl zcdX10_readsHops_216.2.2.2.2.2.2.1 ?_
          refine s_iload_n (k := 2) hX zcdX10_readsHops_216.2.2.2.2.2.2.2 rfl rfl ?_
          refine e_iast hX aM32 zcdX10_readsHops_230.1 h (fun h => ?_)
          refine e_bndM h (fun M_2 h => ?_)
          refine s_aload_n (k := 0) hX zcdX10_readsHops_230.2.1 rfl rfl ?_
          refine s_get hX fX10_107 oM0 rfl zcdX10_readsHops_230.2.2.1 ?_
          refine s_aload_n (k := 0) hX zcdX10_readsHops_230.2.2.2.1 rfl rfl ?_
          refine s_get hX fX10_359 oM0 rfl zcdX10_readsHops_230.2.2.2.2.1 ?_
          refine s_iload_n (k := 3) hX zcdX10_readsHops_230.2.2.2.2.2.1 rfl rfl ?_
          refine e_iast hX aM33 zcdX10_readsHops_230.2.2.2.2.2.2.1 h (fun h => ?_)
          refine e_bndM h (fun M_3 h => ?_)
          refine s_aload_n (k := 0) hX zcdX10_readsHops_230.2.2.2.2.2.2.2 rfl rfl ?_
          refine s_aload_n (k := 0) hX zcdX10_readsHops_242.1 rfl rfl ?_
          refine s_get hX fX10_359 oM0 rfl zcdX10_readsHops_242.2.1 ?_
          refine s_iconst (v := (nI 1)) hX zcdX10_readsHops_242.2.2.1 (by decide) ?_
          refine s_iadd hX zcdX10_readsHops_242.2.2.2.1 ?_
          refine s_puti (ty := .int) hX fX10_359 oM0 rfl (Nat.le_of_ble_eq_true rfl) ty_10_49 rfl rfl zcdX10_readsHops_242.2.2.2.2.1 ?_
          refine e_bndM h (fun M_4 h => ?_)
          refine s_iconst (v := (nI 1)) hX zcdX10_readsHops_242.2.2.2.2.2.1 (by decide) ?_
          exact e_zretiL hX hR zcdX10_readsHops_242.2.2.2.2.2.2.1 (by decide) h
        · refine s_aload_n (k := 0) hX zcdX10_readsHops_199.2.2.2.2.2.2.1 rfl rfl ?_
          refine s_bipush (v := (nI 6)) hX zcdX10_readsHops_199.2.2.2.2.2.2.2 (by decide) ?_
          refine s_iload_n (k := 1) hX zcdX10_readsHops_216.1 rfl rfl ?_
          refine e_callVi hX (t_X10_wrongAt (nI 6) x_1 M12) mX10_wrongAt lX10_178 (by decide) (by decide) oM0 rfl rfl rfl rfl rfl (Nat.le_of_ble_eq_true rfl) zcdX10_readsHops_216.2.1 h (fun r_5 M_6 h => ?_)
          exact e_zreti hX hR zcdX10_readsHops_216.2.2.1 h
      refine e_if_eq (tgt := 204) hX zcdX10_readsHops_8.2.2.2.2.1 (by decide) z_eq h (fun h => ?_) (fun h => ?_)
      · refine s_loc [0, 1, 2, 3] rfl ?_
        exact j204 h
      · refine s_aload_n (k := 0) hX zcdX10_readsHops_8.2.2.2.2.2.1 rfl rfl ?_
        refine e_callVp hX (t_X10_here M12) mX10_here lX10_171 (by decide) (by decide) oM0 rfl rfl rfl rfl rfl (Nat.le_of_ble_eq_true rfl) zcdX10_readsHops_8.2.2.2.2.2.2.1 h (fun r_7 h => ?_)
        refine s_istore (lv' := [(0, .ref (ad 0)), (1, .int x_1), (2, .int y2_12), (3, .int y3_12), (4, .int y4_12), (5, .int r_7)]) hX zcdX10_readsHops_8.2.2.2.2.2.2.2 (by decide) rfl ?_
        refine s_iload (k := 5) hX zcdX10_readsHops_23.1 rfl ?_
        refine s_bipush (v := (nI 117)) hX zcdX10_readsHops_23.2.1 (by decide) ?_
        have j61 : f_X10_readsHops_L61 ag12 M12 y2_12 y3_12 r_7 = some r0 → V X M12 [(0, .ref (ad 0)), (1, .int x_1), (2, .int y2_12), (3, .int y3_12), (5, .int r_7)] [] 61 := by
          intro  h
          refine s_aload_n (k := 0) hX zcdX10_readsHops_57.2.2.1 rfl rfl ?_
          refine s_aload_n (k := 0) hX zcdX10_readsHops_57.2.2.2.1 rfl rfl ?_
          refine s_get hX fX10_165 oM0 rfl zcdX10_readsHops_57.2.2.2.2.1 ?_
          refine s_iconst (v := (nI 1)) hX zcdX10_readsHops_57.2.2.2.2.2.1 (by decide) ?_
          refine s_iadd hX zcdX10_readsHops_57.2.2.2.2.2.2.1 ?_
          refine s_puti (ty := .int) hX fX10_165 oM0 rfl (Nat.le_of_ble_eq_true rfl) ty_10_7 rfl rfl zcdX10_readsHops_57.2.2.2.2.2.2.2 ?_
          refine e_bndM h (fun M_8 h => ?_)
          refine s_aload_n (k := 0) hX zcdX10_readsHops_71.1 rfl rfl ?_
          refine s_iconst (v := (nI 1)) hX zcdX10_readsHops_71.2.1 (by decide) ?_
          refine s_puti (ty := .int) hX fX10_181 oM0 rfl (Nat.le_of_ble_eq_true rfl) ty_10_10 rfl rfl zcdX10_readsHops_71.2.2.1 ?_
          refine e_bndM h (fun M_9 h => ?_)
          refine s_aload_n (k := 0) hX zcdX10_readsHops_71.2.2.2.1 rfl rfl ?_
          refine e_callVp hX (t_X10_isDigit M_9) mX10_isDigit lX10_184 (by decide) (by decide) oM0 rfl rfl rfl rfl rfl (Nat.le_of_ble_eq_true rfl) zcdX10_readsHops_71.2.2.2.2.1 h (fun r_10 h => ?_)
          have j92 : ∀ (N92 : Mem), f_X10_readsHops_L92 ag12 y2_12 y3_12 r_7 N92 = some r0 → V X N92 [(0, .ref (ad 0)), (1, .int x_1), (2, .int y2_12), (3, .int y3_12), (5, .int r_7)] [] 92 := by
            intro N92 h
            refine s_iload_n (k := 2) hX zcdX10_readsHops_87.2.2.2.1 rfl rfl ?_
            refine s_iload (k := 4) hX zcdX10_readsHops_87.2.2.2.2.1 rfl ?_
            refine s_bipush (v := (nI 117)) hX zcdX10_readsHops_87.2.2.2.2.2.1 (by decide) ?_
            have j123 : ∀ (t0_123 : Int32), f_X10_readsHops_L123 ag12 y2_12 y3_12 r_7 N92 t0_123 = some r0 → V X N92 [(0, .ref (ad 0)), (1, .int x_1), (3, .int y3_12), (5, .int r_7)] [.int t0_123, .int y2_12] 123 := by
              intro t0_123 h
              refine s_iadd hX zcdX10_readsHops_119.2.2.1 ?_
              refine e_bnd h (fun x_11 h => ?_)
              refine s_istore_n (lv' := [(0, .ref (ad 0)), (1, .int x_1), (3, .int y3_12), (5, .int r_7), (2, .int x_11)]) hX zcdX10_readsHops_119.2.2.2.1 rfl (by decide) rfl ?_
              refine s_iload_n (k := 2) hX zcdX10_readsHops_119.2.2.2.2.1 rfl rfl ?_
              refine s_iload (k := 3) hX zcdX10_readsHops_119.2.2.2.2.2.1 rfl ?_
              refine s_bipush (v := (nI 111)) hX zcdX10_readsHops_119.2.2.2.2.2.2.1 (by decide) ?_
              have j156 : ∀ (t0_156 : Int32), f_X10_readsHops_L156 ag12 y3_12 N92 x_11 t0_156 = some r0 → V X N92 [(0, .ref (ad 0)), (1, .int x_1), (2, .int x_11)] [.int t0_156, .int y3_12] 156 := by
                intro t0_156 h
                refine s_iadd hX zcdX10_readsHops_151.2.2.2.1 ?_
                refine e_bnd h (fun x_12 h => ?_)
                refine s_istore_n (lv' := [(0, .ref (ad 0)), (1, .int x_1), (2, .int x_11), (3, .int x_12)]) hX zcdX10_readsHops_151.2.2.2.2.1 rfl (by decide) rfl ?_
                refine s_aload_n (k := 0) hX zcdX10_readsHops_151.2.2.2.2.2.1 rfl rfl ?_
                refine e_callVp hX (t_X10_here N92) mX10_here lX10_171 (by decide) (by decide) oM0 rfl rfl rfl rfl rfl (Nat.le_of_ble_eq_true rfl) zcdX10_readsHops_151.2.2.2.2.2.2.1 h (fun r_13 h => ?_)
                refine s_bipush (v := (nI 117)) hX zcdX10_readsHops_151.2.2.2.2.2.2.2 (by decide) ?_
                refine e_icmp_eq (tgt := 194) hX zcdX10_readsHops_164.1 (by decide) (m_eq (by decide +kernel)) h (fun h => ?_) (fun h => ?_)
                · refine s_iconst (v := (nI 1)) hX zcdX10_readsHops_182.2.2.2.2.2.1 (by decide) ?_
                  refine s_goto (tgt := 199) hX zcdX10_readsHops_182.2.2.2.2.2.2.1 (by decide) ?_
                  refine s_istore (lv' := [(0, .ref (ad 0)), (1, .int x_1), (2, .int x_11), (3, .int x_12), (4, .int (nI 1))]) hX zcdX10_readsHops_199.1 (by decide) rfl ?_
                  refine s_goto (tgt := 12) hX zcdX10_readsHops_199.2.1 (by decide) ?_
                  exact ih12 N92 x_11 x_12 (nI 1) h
                · refine s_aload_n (k := 0) hX zcdX10_readsHops_164.2.1 rfl rfl ?_
                  refine e_callVp hX (t_X10_here N92) mX10_here lX10_171 (by decide) (by decide) oM0 rfl rfl rfl rfl rfl (Nat.le_of_ble_eq_true rfl) zcdX10_readsHops_164.2.2.1 h (fun r_14 h => ?_)
                  refine s_bipush (v := (nI 100)) hX zcdX10_readsHops_164.2.2.2.1 (by decide) ?_
                  refine e_icmp_eq (tgt := 194) hX zcdX10_readsHops_164.2.2.2.2.1 (by decide) (m_eq (by decide +kernel)) h (fun h => ?_) (fun h => ?_)
                  · refine s_iconst (v := (nI 1)) hX zcdX10_readsHops_182.2.2.2.2.2.1 (by decide) ?_
                    refine s_goto (tgt := 199) hX zcdX10_readsHops_182.2.2.2.2.2.2.1 (by decide) ?_
                    refine s_istore (lv' := [(0, .ref (ad 0)), (1, .int x_1), (2, .int x_11), (3, .int x_12), (4, .int (nI 1))]) hX zcdX10_readsHops_199.1 (by decide) rfl ?_
                    refine s_goto (tgt := 12) hX zcdX10_readsHops_199.2.1 (by decide) ?_
                    exact ih12 N92 x_11 x_12 (nI 1) h
                  · refine s_aload_n (k := 0) hX zcdX10_readsHops_164.2.2.2.2.2.1 rfl rfl ?_
                    refine e_callVp hX (t_X10_here N92) mX10_here lX10_171 (by decide) (by decide) oM0 rfl rfl rfl rfl rfl (Nat.le_of_ble_eq_true rfl) zcdX10_readsHops_164.2.2.2.2.2.2.1 h (fun r_15 h => ?_)
                    refine s_bipush (v := (nI 111)) hX zcdX10_readsHops_164.2.2.2.2.2.2.2 (by decide) ?_
                    refine e_icmp_eq (tgt := 194) hX zcdX10_readsHops_182.1 (by decide) (m_eq (by decide +kernel)) h (fun h => ?_) (fun h => ?_)
                    · refine s_iconst (v := (nI 1)) hX zcdX10_readsHops_182.2.2.2.2.2.1 (by decide) ?_
                      refine s_goto (tgt := 199) hX zcdX10_readsHops_182.2.2.2.2.2.2.1 (by decide) ?_
                      refine s_istore (lv' := [(0, .ref (ad 0)), (1, .int x_1), (2, .int x_11), (3, .int x_12), (4, .int (nI 1))]) hX zcdX10_readsHops_199.1 (by decide) rfl ?_
                      refine s_goto (tgt := 12) hX zcdX10_readsHops_199.2.1 (by decide) ?_
                      exact ih12 N92 x_11 x_12 (nI 1) h
                    · refine s_aload_n (k := 0) hX zcdX10_readsHops_182.2.1 rfl rfl ?_
                      refine e_callVp hX (t_X10_here N92) mX10_here lX10_171 (by decide) (by decide) oM0 rfl rfl rfl rfl rfl (Nat.le_of_ble_eq_true rfl) zcdX10_readsHops_182.2.2.1 h (fun r_16 h => ?_)
                      refine s_bipush (v := (nI 98)) hX zcdX10_readsHops_182.2.2.2.1 (by decide) ?_
                      refine e_icmp_ne (tgt := 198) hX zcdX10_readsHops_182.2.2.2.2.1 (by decide) (m_eq (by decide +kernel)) h (fun h => ?_) (fun h => ?_)
                      · refine s_iconst (v := (nI 0)) hX zcdX10_readsHops_182.2.2.2.2.2.2.2 (by decide) ?_
                        refine s_istore (lv' := [(0, .ref (ad 0)), (1, .int x_1), (2, .int x_11), (3, .int x_12), (4, .int (nI 0))]) hX zcdX10_readsHops_199.1 (by decide) rfl ?_
                        refine s_goto (tgt := 12) hX zcdX10_readsHops_199.2.1 (by decide) ?_
                        exact ih12 N92 x_11 x_12 (nI 0) h
                      · refine s_iconst (v := (nI 1)) hX zcdX10_readsHops_182.2.2.2.2.2.1 (by decide) ?_
                        refine s_goto (tgt := 199) hX zcdX10_readsHops_182.2.2.2.2.2.2.1 (by decide) ?_
                        refine s_istore (lv' := [(0, .ref (ad 0)), (1, .int x_1), (2, .int x_11), (3, .int x_12), (4, .int (nI 1))]) hX zcdX10_readsHops_199.1 (by decide) rfl ?_
                        refine s_goto (tgt := 12) hX zcdX10_readsHops_199.2.1 (by decide) ?_
                        exact ih12 N92 x_11 x_12 (nI 1) h
              refine e_icmp_ne (tgt := 140) hX zcdX10_readsHops_119.2.2.2.2.2.2.2 (by decide) (m_eq (by decide +kernel)) h (fun h => ?_) (fun h => ?_)
              · refine s_iload (k := 3) hX zcdX10_readsHops_133.2.2.2.1 rfl ?_
                refine s_bipush (v := (nI 98)) hX zcdX10_readsHops_133.2.2.2.2.1 (by decide) ?_
                refine e_icmp_ne (tgt := 155) hX zcdX10_readsHops_133.2.2.2.2.2.1 (by decide) (m_eq (by decide +kernel)) h (fun h => ?_) (fun h => ?_)
                · refine s_iconst (v := (nI 0)) hX zcdX10_readsHops_151.2.2.1 (by decide) ?_
                  refine s_loc [0, 1, 4] rfl ?_
                  exact j156 (nI 0) h
                · refine s_aload_n (k := 0) hX zcdX10_readsHops_133.2.2.2.2.2.2.1 rfl rfl ?_
                  refine s_get hX fX10_181 oM0 rfl zcdX10_readsHops_133.2.2.2.2.2.2.2 ?_
                  refine s_ineg hX zcdX10_readsHops_151.1 ?_
                  refine s_goto (tgt := 156) hX zcdX10_readsHops_151.2.1 (by decide) ?_
                  refine s_loc [0, 1, 4] rfl ?_
                  exact j156 (-(N92 0 10)) h
              · refine s_aload_n (k := 0) hX zcdX10_readsHops_133.1 rfl rfl ?_
                refine s_get hX fX10_181 oM0 rfl zcdX10_readsHops_133.2.1 ?_
                refine s_goto (tgt := 156) hX zcdX10_readsHops_133.2.2.1 (by decide) ?_
                refine s_loc [0, 1, 4] rfl ?_
                exact j156 (N92 0 10) h
            refine e_icmp_ne (tgt := 107) hX zcdX10_readsHops_87.2.2.2.2.2.2.1 (by decide) (m_eq (by decide +kernel)) h (fun h => ?_) (fun h => ?_)
            · refine s_iload (k := 4) hX zcdX10_readsHops_101.2.2.1 rfl ?_
              refine s_bipush (v := (nI 100)) hX zcdX10_readsHops_101.2.2.2.1 (by decide) ?_
              refine e_icmp_ne (tgt := 122) hX zcdX10_readsHops_101.2.2.2.2.1 (by decide) (m_eq (by decide +kernel)) h (fun h => ?_) (fun h => ?_)
              · refine s_iconst (v := (nI 0)) hX zcdX10_readsHops_119.2.1 (by decide) ?_
                refine s_loc [0, 1, 3, 4] rfl ?_
                exact j123 (nI 0) h
              · refine s_aload_n (k := 0) hX zcdX10_readsHops_101.2.2.2.2.2.1 rfl rfl ?_
                refine s_get hX fX10_181 oM0 rfl zcdX10_readsHops_101.2.2.2.2.2.2.1 ?_
                refine s_ineg hX zcdX10_readsHops_101.2.2.2.2.2.2.2 ?_
                refine s_goto (tgt := 123) hX zcdX10_readsHops_119.1 (by decide) ?_
                refine s_loc [0, 1, 3, 4] rfl ?_
                exact j123 (-(N92 0 10)) h
            · refine s_aload_n (k := 0) hX zcdX10_readsHops_87.2.2.2.2.2.2.2 rfl rfl ?_
              refine s_get hX fX10_181 oM0 rfl zcdX10_readsHops_101.1 ?_
              refine s_goto (tgt := 123) hX zcdX10_readsHops_101.2.1 (by decide) ?_
              refine s_loc [0, 1, 3, 4] rfl ?_
              exact j123 (N92 0 10) h
          refine e_if_eq (tgt := 92) hX zcdX10_readsHops_71.2.2.2.2.2.1 (by decide) z_eq h (fun h => ?_) (fun h => ?_)
          · exact j92 M_9 h
          · refine s_aload_n (k := 0) hX zcdX10_readsHops_71.2.2.2.2.2.2.1 rfl rfl ?_
            refine e_callVi hX (t_X10_readsAmount M_9) mX10_readsAmount lX10_271 (by decide) (by decide) oM0 rfl rfl rfl rfl rfl (Nat.le_of_ble_eq_true rfl) zcdX10_readsHops_71.2.2.2.2.2.2.2 h (fun r_17 M_18 h => ?_)
            refine e_if_ne (tgt := 92) hX zcdX10_readsHops_87.1 (by decide) z_eq h (fun h => ?_) (fun h => ?_)
            · exact j92 M_18 h
            · refine s_iconst (v := (nI 0)) hX zcdX10_readsHops_87.2.1 (by decide) ?_
              exact e_zretiL hX hR zcdX10_readsHops_87.2.2.1 (by decide) h
        refine e_icmp_eq (tgt := 61) hX zcdX10_readsHops_23.2.2.1 (by decide) (m_eq (by decide +kernel)) h (fun h => ?_) (fun h => ?_)
        · refine s_loc [0, 1, 2, 3, 5] rfl ?_
          exact j61 h
        · refine s_iload (k := 5) hX zcdX10_readsHops_23.2.2.2.1 rfl ?_
          refine s_bipush (v := (nI 100)) hX zcdX10_readsHops_23.2.2.2.2.1 (by decide) ?_
          refine e_icmp_eq (tgt := 61) hX zcdX10_readsHops_23.2.2.2.2.2.1 (by decide) (m_eq (by decide +kernel)) h (fun h => ?_) (fun h => ?_)
          · refine s_loc [0, 1, 2, 3, 5] rfl ?_
            exact j61 h
          · refine s_iload (k := 5) hX zcdX10_readsHops_23.2.2.2.2.2.2.1 rfl ?_
            refine s_bipush (v := (nI 111)) hX zcdX10_readsHops_23.2.2.2.2.2.2.2 (by decide) ?_
            refine e_icmp_eq (tgt := 61) hX zcdX10_readsHops_41.1 (by decide) (m_eq (by decide +kernel)) h (fun h => ?_) (fun h => ?_)
            · refine s_loc [0, 1, 2, 3, 5] rfl ?_
              exact j61 h
            · refine s_iload (k := 5) hX zcdX10_readsHops_41.2.1 rfl ?_
              refine s_bipush (v := (nI 98)) hX zcdX10_readsHops_41.2.2.1 (by decide) ?_
              have j51 : f_X10_readsHops_L51 M12 = some r0 → V X M12 [(0, .ref (ad 0))] [] 51 := by
                intro  h
                refine s_aload_n (k := 0) hX zcdX10_readsHops_41.2.2.2.2.1 rfl rfl ?_
                refine s_iconst (v := (nI 1)) hX zcdX10_readsHops_41.2.2.2.2.2.1 (by decide) ?_
                refine s_aload_n (k := 0) hX zcdX10_readsHops_41.2.2.2.2.2.2.1 rfl rfl ?_
                refine s_get hX fX10_165 oM0 rfl zcdX10_readsHops_41.2.2.2.2.2.2.2 ?_
                refine e_callVi hX (t_X10_wrongAt (nI 1) (M12 0 7) M12) mX10_wrongAt lX10_178 (by decide) (by decide) oM0 rfl rfl rfl rfl rfl (Nat.le_of_ble_eq_true rfl) zcdX10_readsHops_57.1 h (fun r_19 M_20 h => ?_)
                exact e_zreti hX hR zcdX10_readsHops_57.2.1 h
              refine e_icmp_eq (tgt := 61) hX zcdX10_readsHops_41.2.2.2.1 (by decide) (m_eq (by decide +kernel)) h (fun h => ?_) (fun h => ?_)
              · refine s_loc [0, 1, 2, 3, 5] rfl ?_
                exact j61 h
              · refine s_loc [0] rfl ?_
                exact j51 h
  exact lp12 FU M (nI 0) (nI 0) (nI 1) h
set_option maxHeartbeats 4000000 in
theorem t_X10_readsWalk (M : Mem) : AXi yX10_readsWalk cX10_readsWalk 2 (some .boolean) 4 39 glM (fun ad => [.ref (ad 0)]) M (f_X10_readsWalk M) := by
  intro r0 h
  refine AM.of (by decide) (fun _ => Nat.le_of_ble_eq_true rfl) (fun X ad cI cZ cB hX hR => ?_)
  show V X M [(0, .ref (ad 0))] [] 0
  refine s_iconst (v := (nI 1)) hX zcdX10_readsHops_242.2.2.2.2.2.2.2 (by decide) ?_
  refine s_istore_n (lv' := [(0, .ref (ad 0)), (1, .int (nI 1))]) hX zcdX10_readsWalk_1.1 rfl (by decide) rfl ?_
  have lp2 : ∀ (N2 : Nat) (M2 : Mem) (y1_2 : Int32), wlp2 f_X10_readsWalk_B2 N2 M2 y1_2 = some r0 → V X M2 [(0, .ref (ad 0)), (1, .int y1_2)] [] 2 := by
    intro N2
    induction N2 with
    | zero => exact fun _ _ h => e_none h
    | succ N2 ih2 =>
      intro M2 y1_2 h
      replace h : f_X10_readsWalk_B2 (wlp2 f_X10_readsWalk_B2 N2) M2 y1_2 = some r0 := h
      generalize wlp2 f_X10_readsWalk_B2 N2 = ag2 at ih2 h
      refine s_iload_n (k := 1) hX zcdX10_readsWalk_1.2.1 rfl rfl ?_
      refine e_if_eq (tgt := 155) hX zcdX10_readsWalk_1.2.2.1 (by decide) z_eq h (fun h => ?_) (fun h => ?_)
      · refine s_iconst (v := (nI 1)) hX zcdX10_readsWalk_154.2.1 (by decide) ?_
        exact e_zretiL hX hR zcdX10_readsWalk_154.2.2.1 (by decide) h
      · have lp6 : ∀ (N6 : Nat) (M6 : Mem), wlp1 (f_X10_readsWalk_B6 ag2) N6 M6 = some r0 → V X M6 [(0, .ref (ad 0))] [] 6 := by
          intro N6
          induction N6 with
          | zero => exact fun _ h => e_none h
          | succ N6 ih6 =>
            intro M6 h
            replace h : f_X10_readsWalk_B6 ag2 (wlp1 (f_X10_readsWalk_B6 ag2) N6) M6 = some r0 := h
            generalize wlp1 (f_X10_readsWalk_B6 ag2) N6 = ag6 at ih6 h
            refine s_aload_n (k := 0) hX zcdX10_readsWalk_1.2.2.2.1 rfl rfl ?_
            refine e_callVp hX (t_X10_here M6) mX10_here lX10_171 (by decide) (by decide) oM0 rfl rfl rfl rfl rfl (Nat.le_of_ble_eq_true rfl) zcdX10_readsWalk_1.2.2.2.2.1 h (fun r_1 h => ?_)
            refine s_bipush (v := (nI 40)) hX zcdX10_readsWalk_1.2.2.2.2.2.1 (by decide) ?_
            have j82 : f_X10_readsWalk_L82 ag2 M6 = some r0 → V X M6 [(0, .ref (ad 0))] [] 82 := by
              intro  h
              refine s_aload_n (k := 0) hX zcdX10_readsWalk_74.2.2.2.2.1 rfl rfl ?_
              refine e_callVi hX (t_X10_readsHops M6) mX10_readsHops lX10_365 (by decide) (by decide) oM0 rfl rfl rfl rfl rfl (Nat.le_of_ble_eq_true rfl) zcdX10_readsWalk_74.2.2.2.2.2.1 h (fun r_2 M_3 h => ?_)
              refine e_if_ne (tgt := 91) hX zcdX10_readsWalk_74.2.2.2.2.2.2.1 (by decide) z_eq h (fun h => ?_) (fun h => ?_)
              · have lp91 : ∀ (N91 : Nat) (M91 : Mem), wlp1 (f_X10_readsWalk_B91 ag2) N91 M91 = some r0 → V X M91 [(0, .ref (ad 0))] [] 91 := by
                  intro N91
                  induction N91 with
                  | zero => exact fun _ h => e_none h
                  | succ N91 ih91 =>
                    intro M91 h
                    replace h : f_X10_readsWalk_B91 ag2 (wlp1 (f_X10_readsWalk_B91 ag2) N91) M91 = some r0 := h
                    generalize wlp1 (f_X10_readsWalk_B91 ag2) N91 = ag91 at ih91 h
                    refine s_aload_n (k := 0) hX zcdX10_readsWalk_90.2.1 rfl rfl ?_
                    refine e_callVp hX (t_X10_here M91) mX10_here lX10_171 (by decide) (by decide) oM0 rfl rfl rfl rfl rfl (Nat.le_of_ble_eq_true rfl) zcdX10_readsWalk_90.2.2.1 h (fun r_4 h => ?_)
                    refine s_bipush (v := (nI 41)) hX zcdX10_readsWalk_90.2.2.2.1 (by decide) ?_
                    have j116 : f_X10_readsWalk_L116 ag2 M91 = some r0 → V X M91 [(0, .ref (ad 0))] [] 116 := by
                      intro  h
                      refine s_aload_n (k := 0) hX zcdX10_readsWalk_107.2.2.2.2.2.1 rfl rfl ?_
                      refine s_get hX fX10_165 oM0 rfl zcdX10_readsWalk_107.2.2.2.2.2.2.1 ?_
                      refine s_aload_n (k := 0) hX zcdX10_readsWalk_107.2.2.2.2.2.2.2 rfl rfl ?_
                      refine s_get hX fX10_168 oM0 rfl zcdX10_readsWalk_121.1 ?_
                      have j139 : ∀ (t0_139 : Int32), f_X10_readsWalk_L139 ag2 M91 t0_139 = some r0 → V X M91 [(0, .ref (ad 0))] [.int t0_139] 139 := by
                        intro t0_139 h
                        refine s_istore_n (lv' := [(0, .ref (ad 0)), (1, .int t0_139)]) hX zcdX10_readsWalk_139.1 rfl (by decide) rfl ?_
                        refine s_iload_n (k := 1) hX zcdX10_readsWalk_139.2.1 rfl rfl ?_
                        refine e_if_eq (tgt := 2) hX zcdX10_readsWalk_139.2.2.1 (by decide) z_eq h (fun h => ?_) (fun h => ?_)
                        · exact ih2 M91 t0_139 h
                        · refine s_aload_n (k := 0) hX zcdX10_readsWalk_139.2.2.2.1 rfl rfl ?_
                          refine s_bipush (v := (nI 44)) hX zcdX10_readsWalk_139.2.2.2.2.1 (by decide) ?_
                          refine e_callVi hX (t_X10_takesSign (nI 44) M91) mX10_takesSign lX10_255 (by decide) (by decide) oM0 rfl rfl rfl rfl rfl (Nat.le_of_ble_eq_true rfl) zcdX10_readsWalk_139.2.2.2.2.2.1 h (fun r_5 M_6 h => ?_)
                          refine e_if_ne (tgt := 2) hX zcdX10_readsWalk_139.2.2.2.2.2.2.1 (by decide) z_eq h (fun h => ?_) (fun h => ?_)
                          · exact ih2 M_6 t0_139 h
                          · refine s_iconst (v := (nI 0)) hX zcdX10_readsWalk_139.2.2.2.2.2.2.2 (by decide) ?_
                            exact e_zretiL hX hR zcdX10_readsWalk_154.1 (by decide) h
                      have j134 : f_X10_readsWalk_L134 ag2 M91 = some r0 → V X M91 [(0, .ref (ad 0))] [] 134 := by
                        intro  h
                        refine s_iconst (v := (nI 1)) hX zcdX10_readsWalk_121.2.2.2.2.2.1 (by decide) ?_
                        refine s_goto (tgt := 139) hX zcdX10_readsWalk_121.2.2.2.2.2.2.1 (by decide) ?_
                        exact j139 (nI 1) h
                      refine e_icmp_lt (tgt := 134) hX zcdX10_readsWalk_121.2.1 (by decide) r_lt h (fun h => ?_) (fun h => ?_)
                      · exact j134 h
                      · refine s_aload_n (k := 0) hX zcdX10_readsWalk_121.2.2.1 rfl rfl ?_
                        refine s_get hX fX10_362 oM0 rfl zcdX10_readsWalk_121.2.2.2.1 ?_
                        refine e_if_le (tgt := 138) hX zcdX10_readsWalk_121.2.2.2.2.1 (by decide) z_le h (fun h => ?_) (fun h => ?_)
                        · refine s_iconst (v := (nI 0)) hX zcdX10_readsWalk_121.2.2.2.2.2.2.2 (by decide) ?_
                          exact j139 (nI 0) h
                        · exact j134 h
                    refine e_icmp_ne (tgt := 116) hX zcdX10_readsWalk_90.2.2.2.2.1 (by decide) (m_eq (by decide +kernel)) h (fun h => ?_) (fun h => ?_)
                    · exact j116 h
                    · refine s_aload_n (k := 0) hX zcdX10_readsWalk_90.2.2.2.2.2.1 rfl rfl ?_
                      refine s_get hX fX10_362 oM0 rfl zcdX10_readsWalk_90.2.2.2.2.2.2.1 ?_
                      refine e_if_le (tgt := 116) hX zcdX10_readsWalk_90.2.2.2.2.2.2.2 (by decide) z_le h (fun h => ?_) (fun h => ?_)
                      · exact j116 h
                      · refine s_aload_n (k := 0) hX zcdX10_readsWalk_107.1 rfl rfl ?_
                        refine e_callVi hX (t_X10_endsRound M91) mX10_endsRound lX10_368 (by decide) (by decide) oM0 rfl rfl rfl rfl rfl (Nat.le_of_ble_eq_true rfl) zcdX10_readsWalk_107.2.1 h (fun r_7 M_8 h => ?_)
                        refine e_if_ne (tgt := 91) hX zcdX10_readsWalk_107.2.2.1 (by decide) z_eq h (fun h => ?_) (fun h => ?_)
                        · exact ih91 M_8 h
                        · refine s_iconst (v := (nI 0)) hX zcdX10_readsWalk_107.2.2.2.1 (by decide) ?_
                          exact e_zretiL hX hR zcdX10_readsWalk_107.2.2.2.2.1 (by decide) h
                exact lp91 FU M_3 h
              · refine s_iconst (v := (nI 0)) hX zcdX10_readsWalk_74.2.2.2.2.2.2.2 (by decide) ?_
                exact e_zretiL hX hR zcdX10_readsWalk_90.1 (by decide) h
            refine e_icmp_ne (tgt := 82) hX zcdX10_readsWalk_1.2.2.2.2.2.2.1 (by decide) (m_eq (by decide +kernel)) h (fun h => ?_) (fun h => ?_)
            · exact j82 h
            · refine s_aload_n (k := 0) hX zcdX10_readsWalk_1.2.2.2.2.2.2.2 rfl rfl ?_
              refine s_get hX fX10_362 oM0 rfl zcdX10_readsWalk_16.1 ?_
              refine s_iconst (v := (nI 2)) hX zcdX10_readsWalk_16.2.1 (by decide) ?_
              have j23 : f_X10_readsWalk_L23 M6 = some r0 → V X M6 [(0, .ref (ad 0))] [] 23 := by
                intro  h
                refine s_aload_n (k := 0) hX zcdX10_readsWalk_16.2.2.2.1 rfl rfl ?_
                refine s_iconst (v := (nI 5)) hX zcdX10_readsWalk_16.2.2.2.2.1 (by decide) ?_
                refine s_aload_n (k := 0) hX zcdX10_readsWalk_16.2.2.2.2.2.1 rfl rfl ?_
                refine s_get hX fX10_165 oM0 rfl zcdX10_readsWalk_16.2.2.2.2.2.2.1 ?_
                refine e_callVi hX (t_X10_wrongAt (nI 5) (M6 0 7) M6) mX10_wrongAt lX10_178 (by decide) (by decide) oM0 rfl rfl rfl rfl rfl (Nat.le_of_ble_eq_true rfl) zcdX10_readsWalk_16.2.2.2.2.2.2.2 h (fun r_9 M_10 h => ?_)
                exact e_zreti hX hR zcdX10_readsWalk_32.1 h
              refine e_icmp_ne (tgt := 33) hX zcdX10_readsWalk_16.2.2.1 (by decide) (m_eq (by decide +kernel)) h (fun h => ?_) (fun h => ?_)
              · refine s_aload_n (k := 0) hX zcdX10_readsWalk_32.2.1 rfl rfl ?_
                refine s_get hX fX10_110 oM0 rfl zcdX10_readsWalk_32.2.2.1 ?_
                refine s_aload_n (k := 0) hX zcdX10_readsWalk_32.2.2.2.1 rfl rfl ?_
                refine s_get hX fX10_362 oM0 rfl zcdX10_readsWalk_32.2.2.2.2.1 ?_
                refine s_aload_n (k := 0) hX zcdX10_readsWalk_32.2.2.2.2.2.1 rfl rfl ?_
                refine s_get hX fX10_165 oM0 rfl zcdX10_readsWalk_32.2.2.2.2.2.2.1 ?_
                refine e_iast hX aM34 zcdX10_readsWalk_32.2.2.2.2.2.2.2 h (fun h => ?_)
                refine e_bndM h (fun M_11 h => ?_)
                refine s_aload_n (k := 0) hX zcdX10_readsWalk_46.1 rfl rfl ?_
                refine s_get hX fX10_113 oM0 rfl zcdX10_readsWalk_46.2.1 ?_
                refine s_aload_n (k := 0) hX zcdX10_readsWalk_46.2.2.1 rfl rfl ?_
                refine s_get hX fX10_362 oM0 rfl zcdX10_readsWalk_46.2.2.2.1 ?_
                refine s_aload_n (k := 0) hX zcdX10_readsWalk_46.2.2.2.2.1 rfl rfl ?_
                refine s_get hX fX10_359 oM0 rfl zcdX10_readsWalk_46.2.2.2.2.2.1 ?_
                refine e_iast hX aM35 zcdX10_readsWalk_46.2.2.2.2.2.2.1 h (fun h => ?_)
                refine e_bndM h (fun M_12 h => ?_)
                refine s_aload_n (k := 0) hX zcdX10_readsWalk_46.2.2.2.2.2.2.2 rfl rfl ?_
                refine s_aload_n (k := 0) hX zcdX10_readsWalk_60.1 rfl rfl ?_
                refine s_get hX fX10_362 oM0 rfl zcdX10_readsWalk_60.2.1 ?_
                refine s_iconst (v := (nI 1)) hX zcdX10_readsWalk_60.2.2.1 (by decide) ?_
                refine s_iadd hX zcdX10_readsWalk_60.2.2.2.1 ?_
                refine s_puti (ty := .int) hX fX10_362 oM0 rfl (Nat.le_of_ble_eq_true rfl) ty_10_50 rfl rfl zcdX10_readsWalk_60.2.2.2.2.1 ?_
                refine e_bndM h (fun M_13 h => ?_)
                refine s_aload_n (k := 0) hX zcdX10_readsWalk_60.2.2.2.2.2.1 rfl rfl ?_
                refine s_aload_n (k := 0) hX zcdX10_readsWalk_60.2.2.2.2.2.2.1 rfl rfl ?_
                refine s_get hX fX10_165 oM0 rfl zcdX10_readsWalk_60.2.2.2.2.2.2.2 ?_
                refine s_iconst (v := (nI 1)) hX zcdX10_readsWalk_74.1 (by decide) ?_
                refine s_iadd hX zcdX10_readsWalk_74.2.1 ?_
                refine s_puti (ty := .int) hX fX10_165 oM0 rfl (Nat.le_of_ble_eq_true rfl) ty_10_7 rfl rfl zcdX10_readsWalk_74.2.2.1 ?_
                refine e_bndM h (fun M_14 h => ?_)
                refine s_goto (tgt := 6) hX zcdX10_readsWalk_74.2.2.2.1 (by decide) ?_
                exact ih6 M_14 h
              · exact j23 h
        refine s_loc [0] rfl ?_
        exact lp6 FU M2 h
  exact lp2 FU M (nI 1) h
set_option maxHeartbeats 4000000 in
theorem t_X10_seed (v1 : Int32) (M : Mem) : AXi yX10_seed cX10_seed 2 (some .boolean) 1 39 glM (fun ad => [.ref (ad 0), .int v1]) M (f_X10_seed M v1) := by
  intro r0 h
  refine AM.of (by decide) (fun _ => Nat.le_of_ble_eq_true rfl) (fun X ad cI cZ cB hX hR => ?_)
  show V X M [(0, .ref (ad 0)), (1, .int v1)] [] 0
  refine s_iload_n (k := 1) hX zcdX10_readsWalk_154.2.2.2.1 rfl rfl ?_
  refine s_iconst (v := (nI 0)) hX zcdX10_readsWalk_154.2.2.2.2.1 (by decide) ?_
  refine s_ldcw (v := (nI 65535)) hX kX10_414 zcdX10_readsWalk_154.2.2.2.2.2.1 ?_
  refine e_callSp hX (t_X10_in v1 (nI 0) (nI 65535) M) mX10_in lX10_132 (by decide) (by decide) rfl rfl (Nat.le_of_ble_eq_true rfl) zcdX10_readsWalk_154.2.2.2.2.2.2.1 h (fun r_1 h => ?_)
  refine e_if_ne (tgt := 13) hX zcdX10_readsWalk_154.2.2.2.2.2.2.2 (by decide) z_eq h (fun h => ?_) (fun h => ?_)
  · refine s_aload_n (k := 0) hX zcdX10_seed_11.2.2.1 rfl rfl ?_
    refine s_get hX fX10_7 oM0 rfl zcdX10_seed_11.2.2.2.1 ?_
    refine s_sipush (v := (nI 201)) hX zcdX10_seed_11.2.2.2.2.1 (by decide) ?_
    refine s_iload_n (k := 1) hX zcdX10_seed_11.2.2.2.2.2.1 rfl rfl ?_
    refine s_iastN hX aM1 (by decide) zcdX10_seed_11.2.2.2.2.2.2.1 ?_
    refine e_bndM h (fun M_2 h => ?_)
    refine s_iconst (v := (nI 1)) hX zcdX10_seed_11.2.2.2.2.2.2.2 (by decide) ?_
    exact e_zretiL hX hR zcdX10_seed_23.1 (by decide) h
  · refine s_iconst (v := (nI 0)) hX zcdX10_seed_11.1 (by decide) ?_
    exact e_zretiL hX hR zcdX10_seed_11.2.1 (by decide) h
set_option maxHeartbeats 4000000 in
theorem t_X10_yardRow (M : Mem) : AXp yX10_yardRow cX10_yardRow 4 (some .int) 2 39 glM (fun ad => [.ref (ad 0)]) M (f_X10_yardRow M) := by
  intro r0 h
  refine AM.of (by decide) (fun _ => Nat.le_of_ble_eq_true rfl) (fun X ad cI cZ cB hX hR => ?_)
  show V X M [(0, .ref (ad 0))] [] 0
  refine s_iconst (v := (nI 0)) hX zcdX10_seed_23.2.1 (by decide) ?_
  refine s_istore_n (lv' := [(0, .ref (ad 0)), (1, .int (nI 0))]) hX zcdX10_seed_23.2.2.1 rfl (by decide) rfl ?_
  refine s_iconst (v := (nI 0)) hX zcdX10_seed_23.2.2.2.1 (by decide) ?_
  refine s_istore_n (lv' := [(0, .ref (ad 0)), (1, .int (nI 0)), (2, .int (nI 0))]) hX zcdX10_seed_23.2.2.2.2.1 rfl (by decide) rfl ?_
  have lp4 : ∀ (N4 : Nat) (y1_4 : Int32) (y2_4 : Int32), wlp2 (f_X10_yardRow_B4 M) N4 y1_4 y2_4 = some r0 → V X M [(0, .ref (ad 0)), (1, .int y1_4), (2, .int y2_4)] [] 4 := by
    intro N4
    induction N4 with
    | zero => exact fun _ _ h => e_none h
    | succ N4 ih4 =>
      intro y1_4 y2_4 h
      replace h : f_X10_yardRow_B4 M (wlp2 (f_X10_yardRow_B4 M) N4) y1_4 y2_4 = some r0 := h
      generalize wlp2 (f_X10_yardRow_B4 M) N4 = ag4 at ih4 h
      refine s_iload_n (k := 2) hX zcdX10_seed_23.2.2.2.2.2.1 rfl rfl ?_
      refine s_bipush (v := (nI 40)) hX zcdX10_seed_23.2.2.2.2.2.2.1 (by decide) ?_
      refine e_icmp_ge (tgt := 67) hX zcdX10_seed_23.2.2.2.2.2.2.2 (by decide) (m_ge (by decide +kernel)) h (fun h => ?_) (fun h => ?_)
      · refine s_iload_n (k := 1) hX zcdX10_yardRow_60.2.2.2.1 rfl rfl ?_
        exact e_iretp hX hR zcdX10_yardRow_60.2.2.2.2.1 h
      · refine s_iconst (v := (nI 0)) hX zcdX10_yardRow_10.1 (by decide) ?_
        refine s_istore_n (lv' := [(0, .ref (ad 0)), (1, .int y1_4), (2, .int y2_4), (3, .int (nI 0))]) hX zcdX10_yardRow_10.2.1 rfl (by decide) rfl ?_
        have lp12 : ∀ (N12 : Nat) (y3_12 : Int32), wlp1 (f_X10_yardRow_B12 M ag4 y1_4 y2_4) N12 y3_12 = some r0 → V X M [(0, .ref (ad 0)), (1, .int y1_4), (2, .int y2_4), (3, .int y3_12)] [] 12 := by
          intro N12
          induction N12 with
          | zero => exact fun _ h => e_none h
          | succ N12 ih12 =>
            intro y3_12 h
            replace h : f_X10_yardRow_B12 M ag4 y1_4 y2_4 (wlp1 (f_X10_yardRow_B12 M ag4 y1_4 y2_4) N12) y3_12 = some r0 := h
            generalize wlp1 (f_X10_yardRow_B12 M ag4 y1_4 y2_4) N12 = ag12 at ih12 h
            refine s_aload_n (k := 0) hX zcdX10_yardRow_10.2.2.1 rfl rfl ?_
            refine s_iload_n (k := 2) hX zcdX10_yardRow_10.2.2.2.1 rfl rfl ?_
            refine e_callVp hX (t_X10_isStone y2_4 M) mX10_isStone lX10_154 (by decide) (by decide) oM0 rfl rfl rfl rfl rfl (Nat.le_of_ble_eq_true rfl) zcdX10_yardRow_10.2.2.2.2.1 h (fun r_1 h => ?_)
            have j55 : f_X10_yardRow_L55 ag4 y1_4 y2_4 y3_12 = some r0 → V X M [(0, .ref (ad 0)), (1, .int y1_4), (2, .int y2_4), (3, .int y3_12)] [] 55 := by
              intro  h
              refine s_iload_n (k := 1) hX zcdX10_yardRow_48.2.2.2.2.2.1 rfl rfl ?_
              refine s_iload_n (k := 3) hX zcdX10_yardRow_48.2.2.2.2.2.2.1 rfl rfl ?_
              refine e_callSp hX (t_X10_max y1_4 y3_12 M) mX10_max lX10_129 (by decide) (by decide) rfl rfl (Nat.le_of_ble_eq_true rfl) zcdX10_yardRow_48.2.2.2.2.2.2.2 h (fun r_2 h => ?_)
              refine s_istore_n (lv' := [(0, .ref (ad 0)), (2, .int y2_4), (3, .int y3_12), (1, .int r_2)]) hX zcdX10_yardRow_60.1 rfl (by decide) rfl ?_
              refine s_iinc (k := 1) (v := (y2_4 + (nI 1))) (lv' := [(0, .ref (ad 0)), (3, .int y3_12), (1, .int r_2), (2, .int (y2_4 + (nI 1)))]) hX zcdX10_yardRow_60.2.1 (congrArg (fun z => y2_4 + z) (by decide)) (by decide) rfl rfl ?_
              refine s_goto (tgt := 4) hX zcdX10_yardRow_60.2.2.1 (by decide) ?_
              refine s_loc [0, 2, 3] rfl ?_
              exact ih4 r_2 (y2_4 + (nI 1)) h
            refine e_if_eq (tgt := 55) hX zcdX10_yardRow_10.2.2.2.2.2.1 (by decide) z_eq h (fun h => ?_) (fun h => ?_)
            · exact j55 h
            · refine s_aload_n (k := 0) hX zcdX10_yardRow_10.2.2.2.2.2.2.1 rfl rfl ?_
              refine s_aload_n (k := 0) hX zcdX10_yardRow_10.2.2.2.2.2.2.2 rfl rfl ?_
              refine s_get hX fX10_7 oM0 rfl zcdX10_yardRow_22.1 ?_
              refine s_bipush (v := (nI 40)) hX zcdX10_yardRow_22.2.1 (by decide) ?_
              refine s_iload_n (k := 2) hX zcdX10_yardRow_22.2.2.1 rfl rfl ?_
              refine s_iadd hX zcdX10_yardRow_22.2.2.2.1 ?_
              refine e_iald hX aM1 zcdX10_yardRow_22.2.2.2.2.1 h (fun h => ?_)
              refine s_aload_n (k := 0) hX zcdX10_yardRow_22.2.2.2.2.2.1 rfl rfl ?_
              refine s_get hX fX10_7 oM0 rfl zcdX10_yardRow_22.2.2.2.2.2.2.1 ?_
              refine s_bipush (v := (nI 80)) hX zcdX10_yardRow_22.2.2.2.2.2.2.2 (by decide) ?_
              refine s_iload_n (k := 2) hX zcdX10_yardRow_36.1 rfl rfl ?_
              refine s_iadd hX zcdX10_yardRow_36.2.1 ?_
              refine e_iald hX aM1 zcdX10_yardRow_36.2.2.1 h (fun h => ?_)
              refine s_iload_n (k := 3) hX zcdX10_yardRow_36.2.2.2.1 rfl rfl ?_
              refine s_iadd hX zcdX10_yardRow_36.2.2.2.2.1 ?_
              refine e_callVp hX (t_X10_stoneAt (M 1 (ix ((nI 40) + y2_4))) ((M 1 (ix ((nI 80) + y2_4))) + y3_12) M) mX10_stoneAt lX10_147 (by decide) (by decide) oM0 rfl rfl rfl rfl rfl (Nat.le_of_ble_eq_true rfl) zcdX10_yardRow_36.2.2.2.2.2.1 h (fun r_3 h => ?_)
              refine s_iconst (v := (-1)) hX zcdX10_yardRow_36.2.2.2.2.2.2.1 (by decide) ?_
              refine e_icmp_eq (tgt := 55) hX zcdX10_yardRow_36.2.2.2.2.2.2.2 (by decide) (m_eq (by decide +kernel)) h (fun h => ?_) (fun h => ?_)
              · exact j55 h
              · refine s_iload_n (k := 3) hX zcdX10_yardRow_48.1 rfl rfl ?_
                refine s_iconst (v := (nI 1)) hX zcdX10_yardRow_48.2.1 (by decide) ?_
                refine s_iadd hX zcdX10_yardRow_48.2.2.1 ?_
                refine s_istore_n (lv' := [(0, .ref (ad 0)), (1, .int y1_4), (2, .int y2_4), (3, .int (y3_12 + (nI 1)))]) hX zcdX10_yardRow_48.2.2.2.1 rfl (by decide) rfl ?_
                refine s_goto (tgt := 12) hX zcdX10_yardRow_48.2.2.2.2.1 (by decide) ?_
                exact ih12 (y3_12 + (nI 1)) h
        exact lp12 FU (nI 0) h
  exact lp4 FU (nI 0) (nI 0) h
set_option maxHeartbeats 4000000 in
theorem t_X10_shape (v1 : Int32) (M : Mem) : AXp yX10_shape cX10_shape 2 (some .int) 4 39 glM (fun ad => [.ref (ad 0), .int v1]) M (f_X10_shape M v1) := by
  intro r0 h
  refine AM.of (by decide) (fun _ => Nat.le_of_ble_eq_true rfl) (fun X ad cI cZ cB hX hR => ?_)
  show V X M [(0, .ref (ad 0)), (1, .int v1)] [] 0
  refine s_iload_n (k := 1) hX zcdX10_yardRow_60.2.2.2.2.2.1 rfl rfl ?_
  refine e_if h (fun c0 h => ?_) (fun c0 h => ?_)
  · refine s_tabIn (tgt := 32) (off := 31) hX zcdX10_yardRow_60.2.2.2.2.2.2.1 (by omega) (by omega) (by rw [c0]; rfl) (by decide) ?_
    refine s_aload_n (k := 0) hX zcdX10_yardRow_60.2.2.2.2.2.2.2 rfl rfl ?_
    refine e_callVp hX (t_X10_mostInLine M) mX10_mostInLine lX10_402 (by decide) (by decide) oM0 rfl rfl rfl rfl rfl (Nat.le_of_ble_eq_true rfl) zcdX10_shape_33.1 h (fun r_1 h => ?_)
    exact e_iretp hX hR zcdX10_shape_33.2.1 h
  refine e_if h (fun c1 h => ?_) (fun c1 h => ?_)
  · refine s_tabIn (tgt := 37) (off := 36) hX zcdX10_yardRow_60.2.2.2.2.2.2.1 (by omega) (by omega) (by rw [c1]; rfl) (by decide) ?_
    refine s_aload_n (k := 0) hX zcdX10_shape_33.2.2.1 rfl rfl ?_
    refine e_callVp hX (t_X10_yardRow M) mX10_yardRow lX10_405 (by decide) (by decide) oM0 rfl rfl rfl rfl rfl (Nat.le_of_ble_eq_true rfl) zcdX10_shape_33.2.2.2.1 h (fun r_2 h => ?_)
    exact e_iretp hX hR zcdX10_shape_33.2.2.2.2.1 h
  refine e_if h (fun c2 h => ?_) (fun c2 h => ?_)
  · refine s_tabIn (tgt := 42) (off := 41) hX zcdX10_yardRow_60.2.2.2.2.2.2.1 (by omega) (by omega) (by rw [c2]; rfl) (by decide) ?_
    refine s_aload_n (k := 0) hX zcdX10_shape_33.2.2.2.2.2.1 rfl rfl ?_
    refine e_callVp hX (t_X10_pairsOf M) mX10_pairsOf lX10_408 (by decide) (by decide) oM0 rfl rfl rfl rfl rfl (Nat.le_of_ble_eq_true rfl) zcdX10_shape_33.2.2.2.2.2.2.1 h (fun r_3 h => ?_)
    exact e_iretp hX hR zcdX10_shape_33.2.2.2.2.2.2.2 h
  refine e_if h (fun c3 h => ?_) (fun c3 h => ?_)
  · refine s_tabIn (tgt := 47) (off := 46) hX zcdX10_yardRow_60.2.2.2.2.2.2.1 (by omega) (by omega) (by rw [c3]; rfl) (by decide) ?_
    refine s_aload_n (k := 0) hX zcdX10_shape_47.1 rfl rfl ?_
    refine e_callVp hX (t_X10_closest M) mX10_closest lX10_411 (by decide) (by decide) oM0 rfl rfl rfl rfl rfl (Nat.le_of_ble_eq_true rfl) zcdX10_shape_47.2.1 h (fun r_4 h => ?_)
    exact e_iretp hX hR zcdX10_shape_47.2.2.1 h
  refine s_tabOut (tgt := 52) hX zcdX10_yardRow_60.2.2.2.2.2.2.1 (by omega) (by decide) ?_
  refine s_iconst (v := (-1)) hX zcdX10_shape_47.2.2.2.1 (by decide) ?_
  exact e_iretp hX hR zcdX10_shape_47.2.2.2.2.1 h
set_option maxHeartbeats 4000000 in
theorem t_X10_stone (v1 : Int32) (v2 : Int32) (v3 : Int32) (v4 : Int32) (M : Mem) : AXi yX10_stone cX10_stone 6 (some .boolean) 1 39 glM (fun ad => [.ref (ad 0), .int v1, .int v2, .int v3, .int v4]) M (f_X10_stone M v1 v2 v3 v4) := by
  intro r0 h
  refine AM.of (by decide) (fun _ => Nat.le_of_ble_eq_true rfl) (fun X ad cI cZ cB hX hR => ?_)
  show V X M [(0, .ref (ad 0)), (1, .int v1), (2, .int v2), (3, .int v3), (4, .int v4)] [] 0
  refine s_iload_n (k := 1) hX zcdX10_shape_47.2.2.2.2.2.1 rfl rfl ?_
  refine s_iconst (v := (nI 0)) hX zcdX10_shape_47.2.2.2.2.2.2.1 (by decide) ?_
  refine s_bipush (v := (nI 39)) hX zcdX10_shape_47.2.2.2.2.2.2.2 (by decide) ?_
  refine e_callSp hX (t_X10_in v1 (nI 0) (nI 39) M) mX10_in lX10_132 (by decide) (by decide) rfl rfl (Nat.le_of_ble_eq_true rfl) zcdX10_stone_4.1 h (fun r_1 h => ?_)
  refine e_if_eq (tgt := 41) hX zcdX10_stone_4.2.1 (by decide) z_eq h (fun h => ?_) (fun h => ?_)
  · refine s_iconst (v := (nI 0)) hX zcdX10_stone_38.2.1 (by decide) ?_
    exact e_zretiL hX hR zcdX10_stone_38.2.2.1 (by decide) h
  · refine s_iload_n (k := 2) hX zcdX10_stone_4.2.2.1 rfl rfl ?_
    refine s_iconst (v := (nI 0)) hX zcdX10_stone_4.2.2.2.1 (by decide) ?_
    refine s_bipush (v := (nI 39)) hX zcdX10_stone_4.2.2.2.2.1 (by decide) ?_
    refine e_callSp hX (t_X10_in v2 (nI 0) (nI 39) M) mX10_in lX10_132 (by decide) (by decide) rfl rfl (Nat.le_of_ble_eq_true rfl) zcdX10_stone_4.2.2.2.2.2.1 h (fun r_2 h => ?_)
    refine e_if_eq (tgt := 41) hX zcdX10_stone_4.2.2.2.2.2.2.1 (by decide) z_eq h (fun h => ?_) (fun h => ?_)
    · refine s_iconst (v := (nI 0)) hX zcdX10_stone_38.2.1 (by decide) ?_
      exact e_zretiL hX hR zcdX10_stone_38.2.2.1 (by decide) h
    · refine s_iload_n (k := 3) hX zcdX10_stone_4.2.2.2.2.2.2.2 rfl rfl ?_
      refine s_iconst (v := (nI 1)) hX zcdX10_stone_21.1 (by decide) ?_
      refine s_bipush (v := (nI 20)) hX zcdX10_stone_21.2.1 (by decide) ?_
      refine e_callSp hX (t_X10_in v3 (nI 1) (nI 20) M) mX10_in lX10_132 (by decide) (by decide) rfl rfl (Nat.le_of_ble_eq_true rfl) zcdX10_stone_21.2.2.1 h (fun r_3 h => ?_)
      refine e_if_eq (tgt := 41) hX zcdX10_stone_21.2.2.2.1 (by decide) z_eq h (fun h => ?_) (fun h => ?_)
      · refine s_iconst (v := (nI 0)) hX zcdX10_stone_38.2.1 (by decide) ?_
        exact e_zretiL hX hR zcdX10_stone_38.2.2.1 (by decide) h
      · refine s_iload (k := 4) hX zcdX10_stone_21.2.2.2.2.1 rfl ?_
        refine s_iconst (v := (nI 0)) hX zcdX10_stone_21.2.2.2.2.2.1 (by decide) ?_
        refine s_bipush (v := (nI 9)) hX zcdX10_stone_21.2.2.2.2.2.2.1 (by decide) ?_
        refine e_callSp hX (t_X10_in v4 (nI 0) (nI 9) M) mX10_in lX10_132 (by decide) (by decide) rfl rfl (Nat.le_of_ble_eq_true rfl) zcdX10_stone_21.2.2.2.2.2.2.2 h (fun r_4 h => ?_)
        refine e_if_ne (tgt := 43) hX zcdX10_stone_38.1 (by decide) z_eq h (fun h => ?_) (fun h => ?_)
        · refine s_aload_n (k := 0) hX zcdX10_stone_38.2.2.2.1 rfl rfl ?_
          refine s_iload_n (k := 2) hX zcdX10_stone_38.2.2.2.2.1 rfl rfl ?_
          refine s_iload_n (k := 3) hX zcdX10_stone_38.2.2.2.2.2.1 rfl rfl ?_
          refine e_callVp hX (t_X10_stoneAt v2 v3 M) mX10_stoneAt lX10_147 (by decide) (by decide) oM0 rfl rfl rfl rfl rfl (Nat.le_of_ble_eq_true rfl) zcdX10_stone_38.2.2.2.2.2.2.1 h (fun r_5 h => ?_)
          refine s_istore (lv' := [(0, .ref (ad 0)), (1, .int v1), (2, .int v2), (3, .int v3), (4, .int v4), (5, .int r_5)]) hX zcdX10_stone_38.2.2.2.2.2.2.2 (by decide) rfl ?_
          refine s_iload (k := 5) hX zcdX10_stone_51.1 rfl ?_
          refine s_iconst (v := (-1)) hX zcdX10_stone_51.2.1 (by decide) ?_
          have j65 : f_X10_stone_L65 M v1 v2 v3 v4 = some r0 → V X M [(0, .ref (ad 0)), (1, .int v1), (2, .int v2), (3, .int v3), (4, .int v4)] [] 65 := by
            intro  h
            refine s_aload_n (k := 0) hX zcdX10_stone_65.1 rfl rfl ?_
            refine s_iload_n (k := 1) hX zcdX10_stone_65.2.1 rfl rfl ?_
            refine s_iload_n (k := 2) hX zcdX10_stone_65.2.2.1 rfl rfl ?_
            refine s_iload_n (k := 3) hX zcdX10_stone_65.2.2.2.1 rfl rfl ?_
            refine s_iload (k := 4) hX zcdX10_stone_65.2.2.2.2.1 rfl ?_
            refine s_iconst (v := (nI 0)) hX zcdX10_stone_65.2.2.2.2.2.1 (by decide) ?_
            refine e_callVv hX (t_X10_laysStone v1 v2 v3 v4 (nI 0) M) mX10_laysStone lX10_150 (by decide) (by decide) oM0 rfl rfl rfl rfl rfl (Nat.le_of_ble_eq_true rfl) zcdX10_stone_65.2.2.2.2.2.2.1 h (fun M_6 h => ?_)
            refine s_iconst (v := (nI 1)) hX zcdX10_stone_65.2.2.2.2.2.2.2 (by decide) ?_
            exact e_zretiL hX hR zcdX10_stone_76.1 (by decide) h
          refine e_icmp_eq (tgt := 65) hX zcdX10_stone_51.2.2.1 (by decide) (m_eq (by decide +kernel)) h (fun h => ?_) (fun h => ?_)
          · refine s_loc [0, 1, 2, 3, 4] rfl ?_
            exact j65 h
          · refine s_iload (k := 5) hX zcdX10_stone_51.2.2.2.1 rfl ?_
            refine s_iload_n (k := 1) hX zcdX10_stone_51.2.2.2.2.1 rfl rfl ?_
            refine e_icmp_eq (tgt := 65) hX zcdX10_stone_51.2.2.2.2.2.1 (by decide) r_eq h (fun h => ?_) (fun h => ?_)
            · refine s_loc [0, 1, 2, 3, 4] rfl ?_
              exact j65 h
            · refine s_iconst (v := (nI 0)) hX zcdX10_stone_51.2.2.2.2.2.2.1 (by decide) ?_
              exact e_zretiL hX hR zcdX10_stone_51.2.2.2.2.2.2.2 (by decide) h
        · refine s_iconst (v := (nI 0)) hX zcdX10_stone_38.2.1 (by decide) ?_
          exact e_zretiL hX hR zcdX10_stone_38.2.2.1 (by decide) h
set_option maxHeartbeats 4000000 in
theorem t_X10_stoneIs (v1 : Int32) (v2 : Int32) (M : Mem) : AXp yX10_stoneIs cX10_stoneIs 3 (some .int) 2 39 glM (fun ad => [.ref (ad 0), .int v1, .int v2]) M (f_X10_stoneIs M v1 v2) := by
  intro r0 h
  refine AM.of (by decide) (fun _ => Nat.le_of_ble_eq_true rfl) (fun X ad cI cZ cB hX hR => ?_)
  show V X M [(0, .ref (ad 0)), (1, .int v1), (2, .int v2)] [] 0
  refine s_aload_n (k := 0) hX zcdX10_stone_76.2.1 rfl rfl ?_
  refine s_iload_n (k := 1) hX zcdX10_stone_76.2.2.1 rfl rfl ?_
  refine e_callVp hX (t_X10_isStone v1 M) mX10_isStone lX10_154 (by decide) (by decide) oM0 rfl rfl rfl rfl rfl (Nat.le_of_ble_eq_true rfl) zcdX10_stone_76.2.2.2.1 h (fun r_1 h => ?_)
  refine e_if_ne (tgt := 10) hX zcdX10_stone_76.2.2.2.2.1 (by decide) z_eq h (fun h => ?_) (fun h => ?_)
  · refine s_iload_n (k := 2) hX zcdX10_stone_76.2.2.2.2.2.2.2 rfl rfl ?_
    refine e_if h (fun c0 h => ?_) (fun c0 h => ?_)
    · refine s_tabIn (tgt := 44) (off := 33) hX zcdX10_stoneIs_11.1 (by omega) (by omega) (by rw [c0]; rfl) (by decide) ?_
      refine s_aload_n (k := 0) hX zcdX10_stoneIs_11.2.1 rfl rfl ?_
      refine s_get hX fX10_7 oM0 rfl zcdX10_stoneIs_11.2.2.1 ?_
      refine s_bipush (v := (nI 40)) hX zcdX10_stoneIs_11.2.2.2.1 (by decide) ?_
      refine s_iload_n (k := 1) hX zcdX10_stoneIs_11.2.2.2.2.1 rfl rfl ?_
      refine s_iadd hX zcdX10_stoneIs_11.2.2.2.2.2.1 ?_
      refine e_iald hX aM1 zcdX10_stoneIs_11.2.2.2.2.2.2.1 h (fun h => ?_)
      exact e_iretp hX hR zcdX10_stoneIs_11.2.2.2.2.2.2.2 h
    refine e_if h (fun c1 h => ?_) (fun c1 h => ?_)
    · refine s_tabIn (tgt := 54) (off := 43) hX zcdX10_stoneIs_11.1 (by omega) (by omega) (by rw [c1]; rfl) (by decide) ?_
      refine s_aload_n (k := 0) hX zcdX10_stoneIs_54.1 rfl rfl ?_
      refine s_get hX fX10_7 oM0 rfl zcdX10_stoneIs_54.2.1 ?_
      refine s_bipush (v := (nI 80)) hX zcdX10_stoneIs_54.2.2.1 (by decide) ?_
      refine s_iload_n (k := 1) hX zcdX10_stoneIs_54.2.2.2.1 rfl rfl ?_
      refine s_iadd hX zcdX10_stoneIs_54.2.2.2.2.1 ?_
      refine e_iald hX aM1 zcdX10_stoneIs_54.2.2.2.2.2.1 h (fun h => ?_)
      exact e_iretp hX hR zcdX10_stoneIs_54.2.2.2.2.2.2.1 h
    refine e_if h (fun c2 h => ?_) (fun c2 h => ?_)
    · refine s_tabIn (tgt := 64) (off := 53) hX zcdX10_stoneIs_11.1 (by omega) (by omega) (by rw [c2]; rfl) (by decide) ?_
      refine s_aload_n (k := 0) hX zcdX10_stoneIs_54.2.2.2.2.2.2.2 rfl rfl ?_
      refine s_get hX fX10_7 oM0 rfl zcdX10_stoneIs_65.1 ?_
      refine s_bipush (v := (nI 120)) hX zcdX10_stoneIs_65.2.1 (by decide) ?_
      refine s_iload_n (k := 1) hX zcdX10_stoneIs_65.2.2.1 rfl rfl ?_
      refine s_iadd hX zcdX10_stoneIs_65.2.2.2.1 ?_
      refine e_iald hX aM1 zcdX10_stoneIs_65.2.2.2.2.1 h (fun h => ?_)
      exact e_iretp hX hR zcdX10_stoneIs_65.2.2.2.2.2.1 h
    refine e_if h (fun c3 h => ?_) (fun c3 h => ?_)
    · refine s_tabIn (tgt := 74) (off := 63) hX zcdX10_stoneIs_11.1 (by omega) (by omega) (by rw [c3]; rfl) (by decide) ?_
      refine s_aload_n (k := 0) hX zcdX10_stoneIs_65.2.2.2.2.2.2.1 rfl rfl ?_
      refine s_get hX fX10_7 oM0 rfl zcdX10_stoneIs_65.2.2.2.2.2.2.2 ?_
      refine s_sipush (v := (nI 160)) hX zcdX10_stoneIs_78.1 (by decide) ?_
      refine s_iload_n (k := 1) hX zcdX10_stoneIs_78.2.1 rfl rfl ?_
      refine s_iadd hX zcdX10_stoneIs_78.2.2.1 ?_
      refine e_iald hX aM1 zcdX10_stoneIs_78.2.2.2.1 h (fun h => ?_)
      exact e_iretp hX hR zcdX10_stoneIs_78.2.2.2.2.1 h
    refine e_if h (fun c4 h => ?_) (fun c4 h => ?_)
    · refine s_tabIn (tgt := 85) (off := 74) hX zcdX10_stoneIs_11.1 (by omega) (by omega) (by rw [c4]; rfl) (by decide) ?_
      refine s_aload_n (k := 0) hX zcdX10_stoneIs_78.2.2.2.2.2.1 rfl rfl ?_
      refine s_iload_n (k := 1) hX zcdX10_stoneIs_78.2.2.2.2.2.2.1 rfl rfl ?_
      refine e_callVp hX (t_X10_nearTo v1 M) mX10_nearTo lX10_268 (by decide) (by decide) oM0 rfl rfl rfl rfl rfl (Nat.le_of_ble_eq_true rfl) zcdX10_stoneIs_78.2.2.2.2.2.2.2 h (fun r_2 h => ?_)
      exact e_iretp hX hR zcdX10_stoneIs_90.1 h
    refine s_tabOut (tgt := 91) hX zcdX10_stoneIs_11.1 (by omega) (by decide) ?_
    refine s_iconst (v := (-1)) hX zcdX10_stoneIs_90.2.1 (by decide) ?_
    exact e_iretp hX hR zcdX10_stoneIs_90.2.2.1 h
  · refine s_iconst (v := (-1)) hX zcdX10_stone_76.2.2.2.2.2.1 (by decide) ?_
    exact e_iretp hX hR zcdX10_stone_76.2.2.2.2.2.2.1 h
set_option maxHeartbeats 4000000 in
theorem t_X10_take (v1 : Int32) (M : Mem) : AXi yX10_take cX10_take 2 (some .boolean) 2 39 glM (fun ad => [.ref (ad 0), .int v1]) M (f_X10_take M v1) := by
  intro r0 h
  refine AM.of (by decide) (fun _ => Nat.le_of_ble_eq_true rfl) (fun X ad cI cZ cB hX hR => ?_)
  show V X M [(0, .ref (ad 0)), (1, .int v1)] [] 0
  refine s_aload_n (k := 0) hX zcdX10_stoneIs_90.2.2.2.1 rfl rfl ?_
  refine s_iload_n (k := 1) hX zcdX10_stoneIs_90.2.2.2.2.1 rfl rfl ?_
  refine e_callVp hX (t_X10_isStone v1 M) mX10_isStone lX10_154 (by decide) (by decide) oM0 rfl rfl rfl rfl rfl (Nat.le_of_ble_eq_true rfl) zcdX10_stoneIs_90.2.2.2.2.2.1 h (fun r_1 h => ?_)
  refine e_if_ne (tgt := 10) hX zcdX10_stoneIs_90.2.2.2.2.2.2.1 (by decide) z_eq h (fun h => ?_) (fun h => ?_)
  · refine s_aload_n (k := 0) hX zcdX10_take_9.2.1 rfl rfl ?_
    refine s_get hX fX10_7 oM0 rfl zcdX10_take_9.2.2.1 ?_
    refine s_iconst (v := (nI 0)) hX zcdX10_take_9.2.2.2.1 (by decide) ?_
    refine s_iload_n (k := 1) hX zcdX10_take_9.2.2.2.2.1 rfl rfl ?_
    refine s_iadd hX zcdX10_take_9.2.2.2.2.2.1 ?_
    refine s_top (zadd _) ?_
    refine s_iconst (v := (nI 0)) hX zcdX10_take_9.2.2.2.2.2.2.1 (by decide) ?_
    refine e_iast hX aM1 zcdX10_take_9.2.2.2.2.2.2.2 h (fun h => ?_)
    refine e_bndM h (fun M_2 h => ?_)
    refine s_iconst (v := (nI 1)) hX zcdX10_take_19.1 (by decide) ?_
    exact e_zretiL hX hR zcdX10_take_19.2 (by decide) h
  · refine s_iconst (v := (nI 0)) hX zcdX10_stoneIs_90.2.2.2.2.2.2.2 (by decide) ?_
    exact e_zretiL hX hR zcdX10_take_9.1 (by decide) h
