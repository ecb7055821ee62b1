theorem zcdX10_thrown_0 : decode cX10_thrown 0 = .ok (.iload_n 1, 1) ∧ decode cX10_thrown 1 = .ok (.iconst 1, 1) ∧ decode cX10_thrown 2 = .ok (.bipush 6, 2) ∧ decode cX10_thrown 4 = .ok (.invokestatic 132, 3) ∧ decode cX10_thrown 7 = .ok (.ifCond .ne 5, 3) ∧ decode cX10_thrown 10 = .ok (.iconst (-1), 1) ∧ decode cX10_thrown 11 = .ok (.ireturn, 1) ∧ decode cX10_thrown 12 = .ok (.aload_n 0, 1) := by decide +kernel
theorem zcdX10_thrown_13 : decode cX10_thrown 13 = .ok (.iload_n 1, 1) ∧ decode cX10_thrown 14 = .ok (.iconst 1, 1) ∧ decode cX10_thrown 15 = .ok (.invokevirtual 383, 3) ∧ decode cX10_thrown 18 = .ok (.ifCond .ne 6, 3) ∧ decode cX10_thrown 21 = .ok (.bipush (-2), 2) ∧ decode cX10_thrown 23 = .ok (.ireturn, 1) ∧ decode cX10_thrown 24 = .ok (.aload_n 0, 1) ∧ decode cX10_thrown 25 = .ok (.iload_n 1, 1) := by decide +kernel
theorem zcdX10_thrown_26 : decode cX10_thrown 26 = .ok (.invokevirtual 387, 3) ∧ decode cX10_thrown 29 = .ok (.ldc_w 343, 3) ∧ decode cX10_thrown 32 = .ok (.istore_n 2, 1) ∧ decode cX10_thrown 33 = .ok (.iconst 1, 1) ∧ decode cX10_thrown 34 = .ok (.istore_n 3, 1) ∧ decode cX10_thrown 35 = .ok (.iload_n 3, 1) ∧ decode cX10_thrown 36 = .ok (.ifCond .eq 73, 3) ∧ decode cX10_thrown 39 = .ok (.iconst 0, 1) := by decide +kernel
theorem zcdX10_thrown_40 : decode cX10_thrown 40 = .ok (.istore 4, 2) ∧ decode cX10_thrown 42 = .ok (.iconst 1, 1) ∧ decode cX10_thrown 43 = .ok (.istore 5, 2) ∧ decode cX10_thrown 45 = .ok (.iload 5, 2) ∧ decode cX10_thrown 47 = .ok (.iload_n 1, 1) ∧ decode cX10_thrown 48 = .ok (.if_icmp .ge 44, 3) ∧ decode cX10_thrown 51 = .ok (.iload 4, 2) ∧ decode cX10_thrown 53 = .ok (.aload_n 0, 1) := by decide +kernel
theorem zcdX10_thrown_54 : decode cX10_thrown 54 = .ok (.aload_n 0, 1) ∧ decode cX10_thrown 55 = .ok (.getfield 116, 3) ∧ decode cX10_thrown 58 = .ok (.aload_n 0, 1) ∧ decode cX10_thrown 59 = .ok (.getfield 119, 3) ∧ decode cX10_thrown 62 = .ok (.iload 5, 2) ∧ decode cX10_thrown 64 = .ok (.iconst 1, 1) ∧ decode cX10_thrown 65 = .ok (.isub, 1) ∧ decode cX10_thrown 66 = .ok (.iaload, 1) := by decide +kernel
theorem zcdX10_thrown_67 : decode cX10_thrown 67 = .ok (.iaload, 1) ∧ decode cX10_thrown 68 = .ok (.aload_n 0, 1) ∧ decode cX10_thrown 69 = .ok (.getfield 116, 3) ∧ decode cX10_thrown 72 = .ok (.aload_n 0, 1) ∧ decode cX10_thrown 73 = .ok (.getfield 119, 3) ∧ decode cX10_thrown 76 = .ok (.iload 5, 2) ∧ decode cX10_thrown 78 = .ok (.iaload, 1) ∧ decode cX10_thrown 79 = .ok (.iaload, 1) := by decide +kernel
theorem zcdX10_thrown_80 : decode cX10_thrown 80 = .ok (.invokevirtual 144, 3) ∧ decode cX10_thrown 83 = .ok (.iadd, 1) ∧ decode cX10_thrown 84 = .ok (.istore 4, 2) ∧ decode cX10_thrown 86 = .ok (.iinc 5 1, 3) ∧ decode cX10_thrown 89 = .ok (.goto (-44), 3) ∧ decode cX10_thrown 92 = .ok (.iload_n 2, 1) ∧ decode cX10_thrown 93 = .ok (.iload 4, 2) ∧ decode cX10_thrown 95 = .ok (.invokestatic 125, 3) := by decide +kernel
theorem zcdX10_thrown_98 : decode cX10_thrown 98 = .ok (.istore_n 2, 1) ∧ decode cX10_thrown 99 = .ok (.aload_n 0, 1) ∧ decode cX10_thrown 100 = .ok (.iload_n 1, 1) ∧ decode cX10_thrown 101 = .ok (.iconst 1, 1) ∧ decode cX10_thrown 102 = .ok (.invokevirtual 393, 3) ∧ decode cX10_thrown 105 = .ok (.istore_n 3, 1) ∧ decode cX10_thrown 106 = .ok (.goto (-71), 3) ∧ decode cX10_thrown 109 = .ok (.iload_n 2, 1) := by decide +kernel
theorem zcdX10_thrown_110 : decode cX10_thrown 110 = .ok (.ireturn, 1) ∧ decode cX10_tried 0 = .ok (.iload_n 1, 1) ∧ decode cX10_tried 1 = .ok (.iconst 1, 1) ∧ decode cX10_tried 2 = .ok (.bipush 60, 2) ∧ decode cX10_tried 4 = .ok (.invokestatic 132, 3) ∧ decode cX10_tried 7 = .ok (.ifCond .eq 35, 3) ∧ decode cX10_tried 10 = .ok (.iload_n 2, 1) ∧ decode cX10_tried 11 = .ok (.iconst 0, 1) := by decide +kernel
theorem zcdX10_tried_12 : decode cX10_tried 12 = .ok (.iconst 3, 1) ∧ decode cX10_tried 13 = .ok (.invokestatic 132, 3) ∧ decode cX10_tried 16 = .ok (.ifCond .ne 30, 3) ∧ decode cX10_tried 19 = .ok (.aload_n 0, 1) ∧ decode cX10_tried 20 = .ok (.iload_n 2, 1) ∧ decode cX10_tried 21 = .ok (.bipush 100, 2) ∧ decode cX10_tried 23 = .ok (.isub, 1) ∧ decode cX10_tried 24 = .ok (.invokevirtual 154, 3) := by decide +kernel
theorem zcdX10_tried_27 : decode cX10_tried 27 = .ok (.ifCond .ne 19, 3) ∧ decode cX10_tried 30 = .ok (.aload_n 0, 1) ∧ decode cX10_tried 31 = .ok (.iload_n 2, 1) ∧ decode cX10_tried 32 = .ok (.sipush 200, 3) ∧ decode cX10_tried 35 = .ok (.isub, 1) ∧ decode cX10_tried 36 = .ok (.invokevirtual 154, 3) ∧ decode cX10_tried 39 = .ok (.ifCond .ne 7, 3) ∧ decode cX10_tried 42 = .ok (.ldc_w 311, 3) := by decide +kernel
theorem zcdX10_tried_45 : decode cX10_tried 45 = .ok (.ireturn, 1) ∧ decode cX10_tried 46 = .ok (.aload_n 0, 1) ∧ decode cX10_tried 47 = .ok (.bipush 40, 2) ∧ decode cX10_tried 49 = .ok (.invokevirtual 312, 3) ∧ decode cX10_tried 52 = .ok (.istore_n 3, 1) ∧ decode cX10_tried 53 = .ok (.aload_n 0, 1) ∧ decode cX10_tried 54 = .ok (.getfield 7, 3) ∧ decode cX10_tried 57 = .ok (.aload_n 0, 1) := by decide +kernel
theorem zcdX10_tried_58 : decode cX10_tried 58 = .ok (.getfield 13, 3) ∧ decode cX10_tried 61 = .ok (.invokestatic 315, 3) ∧ decode cX10_tried 64 = .ok (.aload_n 0, 1) ∧ decode cX10_tried 65 = .ok (.iload_n 1, 1) ∧ decode cX10_tried 66 = .ok (.invokevirtual 308, 3) ∧ decode cX10_tried 69 = .ok (.iload_n 2, 1) ∧ decode cX10_tried 70 = .ok (.tableswitch 73 0 3 #[30, 39, 48, 60], 30) ∧ decode cX10_tried 100 = .ok (.aload_n 0, 1) := by decide +kernel
theorem zcdX10_tried_101 : decode cX10_tried 101 = .ok (.getfield 293, 3) ∧ decode cX10_tried 104 = .ok (.istore 4, 2) ∧ decode cX10_tried 106 = .ok (.goto 74, 3) ∧ decode cX10_tried 109 = .ok (.aload_n 0, 1) ∧ decode cX10_tried 110 = .ok (.getfield 296, 3) ∧ decode cX10_tried 113 = .ok (.istore 4, 2) ∧ decode cX10_tried 115 = .ok (.goto 65, 3) ∧ decode cX10_tried 118 = .ok (.aload_n 0, 1) := by decide +kernel
theorem zcdX10_tried_119 : decode cX10_tried 119 = .ok (.sipush 160, 3) ∧ decode cX10_tried 122 = .ok (.invokevirtual 312, 3) ∧ decode cX10_tried 125 = .ok (.istore 4, 2) ∧ decode cX10_tried 127 = .ok (.goto 53, 3) ∧ decode cX10_tried 130 = .ok (.aload_n 0, 1) ∧ decode cX10_tried 131 = .ok (.bipush 40, 2) ∧ decode cX10_tried 133 = .ok (.invokevirtual 312, 3) ∧ decode cX10_tried 136 = .ok (.iload_n 3, 1) := by decide +kernel
theorem zcdX10_tried_137 : decode cX10_tried 137 = .ok (.isub, 1) ∧ decode cX10_tried 138 = .ok (.istore 4, 2) ∧ decode cX10_tried 140 = .ok (.goto 40, 3) ∧ decode cX10_tried 143 = .ok (.iload_n 2, 1) ∧ decode cX10_tried 144 = .ok (.sipush 200, 3) ∧ decode cX10_tried 147 = .ok (.if_icmp .ge 18, 3) ∧ decode cX10_tried 150 = .ok (.aload_n 0, 1) ∧ decode cX10_tried 151 = .ok (.getfield 7, 3) := by decide +kernel
theorem zcdX10_tried_154 : decode cX10_tried 154 = .ok (.bipush 40, 2) ∧ decode cX10_tried 156 = .ok (.iload_n 2, 1) ∧ decode cX10_tried 157 = .ok (.iadd, 1) ∧ decode cX10_tried 158 = .ok (.bipush 100, 2) ∧ decode cX10_tried 160 = .ok (.isub, 1) ∧ decode cX10_tried 161 = .ok (.iaload, 1) ∧ decode cX10_tried 162 = .ok (.goto 16, 3) ∧ decode cX10_tried 165 = .ok (.aload_n 0, 1) := by decide +kernel
theorem zcdX10_tried_166 : decode cX10_tried 166 = .ok (.getfield 7, 3) ∧ decode cX10_tried 169 = .ok (.bipush 80, 2) ∧ decode cX10_tried 171 = .ok (.iload_n 2, 1) ∧ decode cX10_tried 172 = .ok (.iadd, 1) ∧ decode cX10_tried 173 = .ok (.sipush 200, 3) ∧ decode cX10_tried 176 = .ok (.isub, 1) ∧ decode cX10_tried 177 = .ok (.iaload, 1) ∧ decode cX10_tried 178 = .ok (.istore 4, 2) := by decide +kernel
theorem zcdX10_tried_180 : decode cX10_tried 180 = .ok (.aload_n 0, 1) ∧ decode cX10_tried 181 = .ok (.getfield 13, 3) ∧ decode cX10_tried 184 = .ok (.aload_n 0, 1) ∧ decode cX10_tried 185 = .ok (.getfield 7, 3) ∧ decode cX10_tried 188 = .ok (.invokestatic 315, 3) ∧ decode cX10_tried 191 = .ok (.iload 4, 2) ∧ decode cX10_tried 193 = .ok (.ireturn, 1) ∧ decode cX10_under 0 = .ok (.aload_n 0, 1) := by decide +kernel
theorem zcdX10_under_1 : decode cX10_under 1 = .ok (.iload_n 1, 1) ∧ decode cX10_under 2 = .ok (.invokevirtual 154, 3) ∧ decode cX10_under 5 = .ok (.ifCond .ne 5, 3) ∧ decode cX10_under 8 = .ok (.iconst 0, 1) ∧ decode cX10_under 9 = .ok (.ireturn, 1) ∧ decode cX10_under 10 = .ok (.aload_n 0, 1) ∧ decode cX10_under 11 = .ok (.getfield 7, 3) ∧ decode cX10_under 14 = .ok (.sipush 160, 3) := by decide +kernel
theorem zcdX10_under_17 : decode cX10_under 17 = .ok (.iload_n 1, 1) ∧ decode cX10_under 18 = .ok (.iadd, 1) ∧ decode cX10_under 19 = .ok (.iload_n 2, 1) ∧ decode cX10_under 20 = .ok (.ifCond .eq 7, 3) ∧ decode cX10_under 23 = .ok (.iconst 1, 1) ∧ decode cX10_under 24 = .ok (.goto 4, 3) ∧ decode cX10_under 27 = .ok (.iconst 0, 1) ∧ decode cX10_under 28 = .ok (.iastore, 1) := by decide +kernel
theorem zcdX10_under_29 : decode cX10_under 29 = .ok (.iconst 1, 1) ∧ decode cX10_under 30 = .ok (.ireturn, 1) ∧ decode cX10_undo 0 = .ok (.aload_n 0, 1) ∧ decode cX10_undo 1 = .ok (.getfield 415, 3) ∧ decode cX10_undo 4 = .ok (.ifCond .ne 5, 3) ∧ decode cX10_undo 7 = .ok (.iconst 0, 1) ∧ decode cX10_undo 8 = .ok (.ireturn, 1) ∧ decode cX10_undo 9 = .ok (.aload_n 0, 1) := by decide +kernel
theorem zcdX10_undo_10 : decode cX10_undo 10 = .ok (.getfield 16, 3) ∧ decode cX10_undo 13 = .ok (.aload_n 0, 1) ∧ decode cX10_undo 14 = .ok (.getfield 7, 3) ∧ decode cX10_undo 17 = .ok (.invokestatic 315, 3) ∧ decode cX10_undo 20 = .ok (.iconst 1, 1) ∧ decode cX10_undo 21 = .ok (.ireturn, 1) ∧ decode cX10_walk 0 = .ok (.aload_n 0, 1) ∧ decode cX10_walk 1 = .ok (.iload_n 1, 1) := by decide +kernel
theorem zcdX10_walk_2 : decode cX10_walk 2 = .ok (.invokevirtual 334, 3) ∧ decode cX10_walk 5 = .ok (.ifCond .eq 41, 3) ∧ decode cX10_walk 8 = .ok (.iload_n 2, 1) ∧ decode cX10_walk 9 = .ok (.iconst 0, 1) ∧ decode cX10_walk 10 = .ok (.bipush 39, 2) ∧ decode cX10_walk 12 = .ok (.invokestatic 132, 3) ∧ decode cX10_walk 15 = .ok (.ifCond .eq 31, 3) ∧ decode cX10_walk 18 = .ok (.iload_n 3, 1) := by decide +kernel
theorem zcdX10_walk_19 : decode cX10_walk 19 = .ok (.iconst 1, 1) ∧ decode cX10_walk 20 = .ok (.bipush 60, 2) ∧ decode cX10_walk 22 = .ok (.invokestatic 132, 3) ∧ decode cX10_walk 25 = .ok (.ifCond .eq 21, 3) ∧ decode cX10_walk 28 = .ok (.iload 4, 2) ∧ decode cX10_walk 30 = .ok (.iconst 0, 1) ∧ decode cX10_walk 31 = .ok (.iconst 3, 1) ∧ decode cX10_walk 32 = .ok (.invokestatic 132, 3) := by decide +kernel
theorem zcdX10_walk_35 : decode cX10_walk 35 = .ok (.ifCond .eq 11, 3) ∧ decode cX10_walk 38 = .ok (.iload_n 3, 1) ∧ decode cX10_walk 39 = .ok (.aload_n 0, 1) ∧ decode cX10_walk 40 = .ok (.getfield 158, 3) ∧ decode cX10_walk 43 = .ok (.if_icmp .le 5, 3) ∧ decode cX10_walk 46 = .ok (.iconst (-1), 1) ∧ decode cX10_walk 47 = .ok (.ireturn, 1) ∧ decode cX10_walk 48 = .ok (.aload_n 0, 1) := by decide +kernel
theorem zcdX10_walk_49 : decode cX10_walk 49 = .ok (.iload_n 3, 1) ∧ decode cX10_walk 50 = .ok (.invokevirtual 249, 3) ∧ decode cX10_walk 53 = .ok (.aload_n 0, 1) ∧ decode cX10_walk 54 = .ok (.iconst 0, 1) ∧ decode cX10_walk 55 = .ok (.putfield 359, 3) ∧ decode cX10_walk 58 = .ok (.aload_n 0, 1) ∧ decode cX10_walk 59 = .ok (.iconst 0, 1) ∧ decode cX10_walk 60 = .ok (.putfield 362, 3) := by decide +kernel
theorem zcdX10_walk_63 : decode cX10_walk 63 = .ok (.aload_n 0, 1) ∧ decode cX10_walk 64 = .ok (.invokevirtual 371, 3) ∧ decode cX10_walk 67 = .ok (.istore 5, 2) ∧ decode cX10_walk 69 = .ok (.aload_n 0, 1) ∧ decode cX10_walk 70 = .ok (.iconst 0, 1) ∧ decode cX10_walk 71 = .ok (.putfield 158, 3) ∧ decode cX10_walk 74 = .ok (.iload 5, 2) ∧ decode cX10_walk 76 = .ok (.ifCond .ne 8, 3) := by decide +kernel
theorem zcdX10_walk_79 : decode cX10_walk 79 = .ok (.aload_n 0, 1) ∧ decode cX10_walk 80 = .ok (.getfield 175, 3) ∧ decode cX10_walk 83 = .ok (.ireturn, 1) ∧ decode cX10_walk 84 = .ok (.iconst 0, 1) ∧ decode cX10_walk 85 = .ok (.istore 6, 2) ∧ decode cX10_walk 87 = .ok (.iload_n 2, 1) ∧ decode cX10_walk 88 = .ok (.istore 7, 2) ∧ decode cX10_walk 90 = .ok (.iconst 0, 1) := by decide +kernel
theorem zcdX10_walk_91 : decode cX10_walk 91 = .ok (.istore 8, 2) ∧ decode cX10_walk 93 = .ok (.iconst 1, 1) ∧ decode cX10_walk 94 = .ok (.istore 9, 2) ∧ decode cX10_walk 96 = .ok (.iconst 0, 1) ∧ decode cX10_walk 97 = .ok (.istore 10, 2) ∧ decode cX10_walk 99 = .ok (.iload 10, 2) ∧ decode cX10_walk 101 = .ok (.aload_n 0, 1) ∧ decode cX10_walk 102 = .ok (.getfield 359, 3) := by decide +kernel
theorem zcdX10_walk_105 : decode cX10_walk 105 = .ok (.if_icmp .ge 192, 3) ∧ decode cX10_walk 108 = .ok (.iload 9, 2) ∧ decode cX10_walk 110 = .ok (.ifCond .eq 187, 3) ∧ decode cX10_walk 113 = .ok (.iload 8, 2) ∧ decode cX10_walk 115 = .ok (.bipush 21, 2) ∧ decode cX10_walk 117 = .ok (.if_icmp .ge 180, 3) ∧ decode cX10_walk 120 = .ok (.iload 7, 2) ∧ decode cX10_walk 122 = .ok (.aload_n 0, 1) := by decide +kernel
theorem zcdX10_walk_123 : decode cX10_walk 123 = .ok (.getfield 104, 3) ∧ decode cX10_walk 126 = .ok (.iload 10, 2) ∧ decode cX10_walk 128 = .ok (.iaload, 1) ∧ decode cX10_walk 129 = .ok (.iadd, 1) ∧ decode cX10_walk 130 = .ok (.istore 11, 2) ∧ decode cX10_walk 132 = .ok (.iload 8, 2) ∧ decode cX10_walk 134 = .ok (.aload_n 0, 1) ∧ decode cX10_walk 135 = .ok (.getfield 107, 3) := by decide +kernel
theorem zcdX10_walk_138 : decode cX10_walk 138 = .ok (.iload 10, 2) ∧ decode cX10_walk 140 = .ok (.iaload, 1) ∧ decode cX10_walk 141 = .ok (.iadd, 1) ∧ decode cX10_walk 142 = .ok (.iconst 0, 1) ∧ decode cX10_walk 143 = .ok (.bipush 21, 2) ∧ decode cX10_walk 145 = .ok (.invokestatic 290, 3) ∧ decode cX10_walk 148 = .ok (.istore 12, 2) ∧ decode cX10_walk 150 = .ok (.aload_n 0, 1) := by decide +kernel
theorem zcdX10_walk_151 : decode cX10_walk 151 = .ok (.getfield 104, 3) ∧ decode cX10_walk 154 = .ok (.iload 10, 2) ∧ decode cX10_walk 156 = .ok (.iaload, 1) ∧ decode cX10_walk 157 = .ok (.aload_n 0, 1) ∧ decode cX10_walk 158 = .ok (.getfield 104, 3) ∧ decode cX10_walk 161 = .ok (.iload 10, 2) ∧ decode cX10_walk 163 = .ok (.iaload, 1) ∧ decode cX10_walk 164 = .ok (.imul, 1) := by decide +kernel
theorem zcdX10_walk_165 : decode cX10_walk 165 = .ok (.aload_n 0, 1) ∧ decode cX10_walk 166 = .ok (.getfield 107, 3) ∧ decode cX10_walk 169 = .ok (.iload 10, 2) ∧ decode cX10_walk 171 = .ok (.iaload, 1) ∧ decode cX10_walk 172 = .ok (.aload_n 0, 1) ∧ decode cX10_walk 173 = .ok (.getfield 107, 3) ∧ decode cX10_walk 176 = .ok (.iload 10, 2) ∧ decode cX10_walk 178 = .ok (.iaload, 1) := by decide +kernel
theorem zcdX10_walk_179 : decode cX10_walk 179 = .ok (.imul, 1) ∧ decode cX10_walk 180 = .ok (.iadd, 1) ∧ decode cX10_walk 181 = .ok (.istore 13, 2) ∧ decode cX10_walk 183 = .ok (.iload 12, 2) ∧ decode cX10_walk 185 = .ok (.iconst 1, 1) ∧ decode cX10_walk 186 = .ok (.bipush 20, 2) ∧ decode cX10_walk 188 = .ok (.invokestatic 132, 3) ∧ decode cX10_walk 191 = .ok (.ifCond .eq 38, 3) := by decide +kernel
theorem zcdX10_walk_194 : decode cX10_walk 194 = .ok (.aload_n 0, 1) ∧ decode cX10_walk 195 = .ok (.iload 11, 2) ∧ decode cX10_walk 197 = .ok (.iload 12, 2) ∧ decode cX10_walk 199 = .ok (.invokevirtual 147, 3) ∧ decode cX10_walk 202 = .ok (.iconst (-1), 1) ∧ decode cX10_walk 203 = .ok (.if_icmp .eq 22, 3) ∧ decode cX10_walk 206 = .ok (.aload_n 0, 1) ∧ decode cX10_walk 207 = .ok (.aload_n 0, 1) := by decide +kernel
theorem zcdX10_walk_208 : decode cX10_walk 208 = .ok (.iload 11, 2) ∧ decode cX10_walk 210 = .ok (.iload 12, 2) ∧ decode cX10_walk 212 = .ok (.invokevirtual 147, 3) ∧ decode cX10_walk 215 = .ok (.invokevirtual 319, 3) ∧ decode cX10_walk 218 = .ok (.ifCond .eq 7, 3) ∧ decode cX10_walk 221 = .ok (.iconst 1, 1) ∧ decode cX10_walk 222 = .ok (.goto 15, 3) ∧ decode cX10_walk 225 = .ok (.iconst 0, 1) := by decide +kernel
theorem zcdX10_walk_226 : decode cX10_walk 226 = .ok (.goto 11, 3) ∧ decode cX10_walk 229 = .ok (.iload 11, 2) ∧ decode cX10_walk 231 = .ok (.iconst 0, 1) ∧ decode cX10_walk 232 = .ok (.bipush 39, 2) ∧ decode cX10_walk 234 = .ok (.invokestatic 132, 3) ∧ decode cX10_walk 237 = .ok (.istore 14, 2) ∧ decode cX10_walk 239 = .ok (.iload 13, 2) ∧ decode cX10_walk 241 = .ok (.aload_n 0, 1) := by decide +kernel
theorem zcdX10_walk_242 : decode cX10_walk 242 = .ok (.getfield 19, 3) ∧ decode cX10_walk 245 = .ok (.iload_n 1, 1) ∧ decode cX10_walk 246 = .ok (.iaload, 1) ∧ decode cX10_walk 247 = .ok (.aload_n 0, 1) ∧ decode cX10_walk 248 = .ok (.getfield 19, 3) ∧ decode cX10_walk 251 = .ok (.iload_n 1, 1) ∧ decode cX10_walk 252 = .ok (.iaload, 1) ∧ decode cX10_walk 253 = .ok (.imul, 1) := by decide +kernel
theorem zcdX10_walk_254 : decode cX10_walk 254 = .ok (.if_icmp .gt 12, 3) ∧ decode cX10_walk 257 = .ok (.iload 14, 2) ∧ decode cX10_walk 259 = .ok (.ifCond .eq 7, 3) ∧ decode cX10_walk 262 = .ok (.iconst 1, 1) ∧ decode cX10_walk 263 = .ok (.goto 4, 3) ∧ decode cX10_walk 266 = .ok (.iconst 0, 1) ∧ decode cX10_walk 267 = .ok (.istore 9, 2) ∧ decode cX10_walk 269 = .ok (.iload 9, 2) := by decide +kernel
theorem zcdX10_walk_271 : decode cX10_walk 271 = .ok (.ifCond .ne 6, 3) ∧ decode cX10_walk 274 = .ok (.goto 17, 3) ∧ decode cX10_walk 277 = .ok (.iload 6, 2) ∧ decode cX10_walk 279 = .ok (.iconst 1, 1) ∧ decode cX10_walk 280 = .ok (.iadd, 1) ∧ decode cX10_walk 281 = .ok (.istore 6, 2) ∧ decode cX10_walk 283 = .ok (.iload 11, 2) ∧ decode cX10_walk 285 = .ok (.istore 7, 2) := by decide +kernel
theorem zcdX10_walk_287 : decode cX10_walk 287 = .ok (.iload 12, 2) ∧ decode cX10_walk 289 = .ok (.istore 8, 2) ∧ decode cX10_walk 291 = .ok (.iinc 10 1, 3) ∧ decode cX10_walk 294 = .ok (.goto (-195), 3) ∧ decode cX10_walk 297 = .ok (.iload 4, 2) ∧ decode cX10_walk 299 = .ok (.ifCond .ne 8, 3) ∧ decode cX10_walk 302 = .ok (.iload 6, 2) ∧ decode cX10_walk 304 = .ok (.goto 37, 3) := by decide +kernel
theorem zcdX10_walk_307 : decode cX10_walk 307 = .ok (.iload 4, 2) ∧ decode cX10_walk 309 = .ok (.iconst 1, 1) ∧ decode cX10_walk 310 = .ok (.if_icmp .ne 8, 3) ∧ decode cX10_walk 313 = .ok (.iload 8, 2) ∧ decode cX10_walk 315 = .ok (.goto 26, 3) ∧ decode cX10_walk 318 = .ok (.iload 4, 2) ∧ decode cX10_walk 320 = .ok (.iconst 2, 1) ∧ decode cX10_walk 321 = .ok (.if_icmp .ne 8, 3) := by decide +kernel
theorem zcdX10_walk_324 : decode cX10_walk 324 = .ok (.iload 7, 2) ∧ decode cX10_walk 326 = .ok (.goto 15, 3) ∧ decode cX10_walk 329 = .ok (.iload 8, 2) ∧ decode cX10_walk 331 = .ok (.bipush 21, 2) ∧ decode cX10_walk 333 = .ok (.if_icmp .ne 7, 3) ∧ decode cX10_walk 336 = .ok (.iconst 1, 1) ∧ decode cX10_walk 337 = .ok (.goto 4, 3) ∧ decode cX10_walk 340 = .ok (.iconst 0, 1) := by decide +kernel
theorem zcdX10_walk_341 : decode cX10_walk 341 = .ok (.ireturn, 1) := by decide +kernel
set_option maxHeartbeats 4000000 in
theorem t_X10_thrown (v1 : Int32) (M : Mem) : AXi yX10_thrown cX10_thrown 6 (some .int) 3 39 glM (fun ad => [.ref (ad 0), .int v1]) M (f_X10_thrown M v1) := by
  intro r0 h
  refine AM.of (by decide) (fun _ => Nat.le_of_ble_eq_true rfl) (fun X ad cI cZ cB hX hR => ?_)
  show V X M [(0, .ref (ad 0)), (1, .int v1)] [] 0
  refine s_iload_n (k := 1) hX zcdX10_thrown_0.1 rfl rfl ?_
  refine s_iconst (v := (nI 1)) hX zcdX10_thrown_0.2.1 (by decide) ?_
  refine s_bipush (v := (nI 6)) hX zcdX10_thrown_0.2.2.1 (by decide) ?_
  refine e_callSp hX (t_X10_in v1 (nI 1) (nI 6) M) mX10_in lX10_132 (by decide) (by decide) rfl rfl (Nat.le_of_ble_eq_true rfl) zcdX10_thrown_0.2.2.2.1 h (fun r_1 h => ?_)
  refine e_if_ne (tgt := 12) hX zcdX10_thrown_0.2.2.2.2.1 (by decide) z_eq h (fun h => ?_) (fun h => ?_)
  · refine s_aload_n (k := 0) hX zcdX10_thrown_0.2.2.2.2.2.2.2 rfl rfl ?_
    refine s_iload_n (k := 1) hX zcdX10_thrown_13.1 rfl rfl ?_
    refine s_iconst (v := (nI 1)) hX zcdX10_thrown_13.2.1 (by decide) ?_
    refine e_callVi hX (t_X10_listsStones v1 (nI 1) M) mX10_listsStones lX10_383 (by decide) (by decide) oM0 rfl rfl rfl rfl rfl (Nat.le_of_ble_eq_true rfl) zcdX10_thrown_13.2.2.1 h (fun r_2 M_3 h => ?_)
    refine e_if_ne (tgt := 24) hX zcdX10_thrown_13.2.2.2.1 (by decide) z_eq h (fun h => ?_) (fun h => ?_)
    · refine s_aload_n (k := 0) hX zcdX10_thrown_13.2.2.2.2.2.2.1 rfl rfl ?_
      refine s_iload_n (k := 1) hX zcdX10_thrown_13.2.2.2.2.2.2.2 rfl rfl ?_
      refine e_callVv hX (t_X10_beginsRows v1 M_3) mX10_beginsRows lX10_387 (by decide) (by decide) oM0 rfl rfl rfl rfl rfl (Nat.le_of_ble_eq_true rfl) zcdX10_thrown_26.1 h (fun M_4 h => ?_)
      refine s_ldcw (v := (nI 1000000)) hX kX10_343 zcdX10_thrown_26.2.1 ?_
      refine s_istore_n (lv' := [(0, .ref (ad 0)), (1, .int v1), (2, .int (nI 1000000))]) hX zcdX10_thrown_26.2.2.1 rfl (by decide) rfl ?_
      refine s_iconst (v := (nI 1)) hX zcdX10_thrown_26.2.2.2.1 (by decide) ?_
      refine s_istore_n (lv' := [(0, .ref (ad 0)), (1, .int v1), (2, .int (nI 1000000)), (3, .int (nI 1))]) hX zcdX10_thrown_26.2.2.2.2.1 rfl (by decide) rfl ?_
      have lp35 : ∀ (N35 : Nat) (M35 : Mem) (y2_35 : Int32) (y3_35 : Int32), wlp3 (f_X10_thrown_B35 v1) N35 M35 y2_35 y3_35 = some r0 → V X M35 [(0, .ref (ad 0)), (1, .int v1), (2, .int y2_35), (3, .int y3_35)] [] 35 := by
        intro N35
        induction N35 with
        | zero => exact fun _ _ _ h => e_none h
        | succ N35 ih35 =>
          intro M35 y2_35 y3_35 h
          replace h : f_X10_thrown_B35 v1 (wlp3 (f_X10_thrown_B35 v1) N35) M35 y2_35 y3_35 = some r0 := h
          generalize wlp3 (f_X10_thrown_B35 v1) N35 = ag35 at ih35 h
          refine s_iload_n (k := 3) hX zcdX10_thrown_26.2.2.2.2.2.1 rfl rfl ?_
          refine e_if_eq (tgt := 109) hX zcdX10_thrown_26.2.2.2.2.2.2.1 (by decide) z_eq h (fun h => ?_) (fun h => ?_)
          · refine s_iload_n (k := 2) hX zcdX10_thrown_98.2.2.2.2.2.2.2 rfl rfl ?_
            exact e_ireti hX hR zcdX10_thrown_110.1 h
          · refine s_iconst (v := (nI 0)) hX zcdX10_thrown_26.2.2.2.2.2.2.2 (by decide) ?_
            refine s_istore (lv' := [(0, .ref (ad 0)), (1, .int v1), (2, .int y2_35), (3, .int y3_35), (4, .int (nI 0))]) hX zcdX10_thrown_40.1 (by decide) rfl ?_
            refine s_iconst (v := (nI 1)) hX zcdX10_thrown_40.2.1 (by decide) ?_
            refine s_istore (lv' := [(0, .ref (ad 0)), (1, .int v1), (2, .int y2_35), (3, .int y3_35), (4, .int (nI 0)), (5, .int (nI 1))]) hX zcdX10_thrown_40.2.2.1 (by decide) rfl ?_
            have lp45 : ∀ (N45 : Nat) (y4_45 : Int32) (y5_45 : Int32), wlp2 (f_X10_thrown_B45 v1 ag35 M35 y2_35) N45 y4_45 y5_45 = some r0 → V X M35 [(0, .ref (ad 0)), (1, .int v1), (2, .int y2_35), (4, .int y4_45), (5, .int y5_45)] [] 45 := by
              intro N45
              induction N45 with
              | zero => exact fun _ _ h => e_none h
              | succ N45 ih45 =>
                intro y4_45 y5_45 h
                replace h : f_X10_thrown_B45 v1 ag35 M35 y2_35 (wlp2 (f_X10_thrown_B45 v1 ag35 M35 y2_35) N45) y4_45 y5_45 = some r0 := h
                generalize wlp2 (f_X10_thrown_B45 v1 ag35 M35 y2_35) N45 = ag45 at ih45 h
                refine s_iload (k := 4) hX zcdX10_thrown_40.2.2.2.1 rfl ?_
                refine s_iload_n (k := 1) hX zcdX10_thrown_40.2.2.2.2.1 rfl rfl ?_
                have j92 : f_X10_thrown_L92 v1 ag35 M35 y2_35 y4_45 = some r0 → V X M35 [(0, .ref (ad 0)), (1, .int v1), (2, .int y2_35), (4, .int y4_45)] [] 92 := by
                  intro  h
                  refine s_iload_n (k := 2) hX zcdX10_thrown_80.2.2.2.2.2.1 rfl rfl ?_
                  refine s_iload (k := 3) hX zcdX10_thrown_80.2.2.2.2.2.2.1 rfl ?_
                  refine e_callSp hX (t_X10_min y2_35 y4_45 M35) mX10_min lX10_125 (by decide) (by decide) rfl rfl (Nat.le_of_ble_eq_true rfl) zcdX10_thrown_80.2.2.2.2.2.2.2 h (fun r_5 h => ?_)
                  refine s_istore_n (lv' := [(0, .ref (ad 0)), (1, .int v1), (4, .int y4_45), (2, .int r_5)]) hX zcdX10_thrown_98.1 rfl (by decide) rfl ?_
                  refine s_aload_n (k := 0) hX zcdX10_thrown_98.2.1 rfl rfl ?_
                  refine s_iload_n (k := 1) hX zcdX10_thrown_98.2.2.1 rfl rfl ?_
                  refine s_iconst (v := (nI 1)) hX zcdX10_thrown_98.2.2.2.1 (by decide) ?_
                  refine e_callVi hX (t_X10_nextRow v1 (nI 1) M35) mX10_nextRow lX10_393 (by decide) (by decide) oM0 rfl rfl rfl rfl rfl (Nat.le_of_ble_eq_true rfl) zcdX10_thrown_98.2.2.2.2.1 h (fun r_6 M_7 h => ?_)
                  refine s_istore_n (lv' := [(0, .ref (ad 0)), (1, .int v1), (4, .int y4_45), (2, .int r_5), (3, .int r_6)]) hX zcdX10_thrown_98.2.2.2.2.2.1 rfl (by decide) rfl ?_
                  refine s_goto (tgt := 35) hX zcdX10_thrown_98.2.2.2.2.2.2.1 (by decide) ?_
                  refine s_loc [0, 1, 3, 4] rfl ?_
                  exact ih35 M_7 r_5 r_6 h
                refine e_icmp_ge (tgt := 92) hX zcdX10_thrown_40.2.2.2.2.2.1 (by decide) r_le h (fun h => ?_) (fun h => ?_)
                · refine s_loc [0, 1, 2, 3] rfl ?_
                  exact j92 h
                · refine s_iload (k := 3) hX zcdX10_thrown_40.2.2.2.2.2.2.1 rfl ?_
                  refine s_aload_n (k := 0) hX zcdX10_thrown_40.2.2.2.2.2.2.2 rfl rfl ?_
                  refine s_aload_n (k := 0) hX zcdX10_thrown_54.1 rfl rfl ?_
                  refine s_get hX fX10_116 oM0 rfl zcdX10_thrown_54.2.1 ?_
                  refine s_aload_n (k := 0) hX zcdX10_thrown_54.2.2.1 rfl rfl ?_
                  refine s_get hX fX10_119 oM0 rfl zcdX10_thrown_54.2.2.2.1 ?_
                  refine s_iload (k := 4) hX zcdX10_thrown_54.2.2.2.2.1 rfl ?_
                  refine s_iconst (v := (nI 1)) hX zcdX10_thrown_54.2.2.2.2.2.1 (by decide) ?_
                  refine s_isub hX zcdX10_thrown_54.2.2.2.2.2.2.1 ?_
                  refine e_iald hX aM37 zcdX10_thrown_54.2.2.2.2.2.2.2 h (fun h => ?_)
                  refine e_iald hX aM36 zcdX10_thrown_67.1 h (fun h => ?_)
                  refine s_aload_n (k := 0) hX zcdX10_thrown_67.2.1 rfl rfl ?_
                  refine s_get hX fX10_116 oM0 rfl zcdX10_thrown_67.2.2.1 ?_
                  refine s_aload_n (k := 0) hX zcdX10_thrown_67.2.2.2.1 rfl rfl ?_
                  refine s_get hX fX10_119 oM0 rfl zcdX10_thrown_67.2.2.2.2.1 ?_
                  refine s_iload (k := 4) hX zcdX10_thrown_67.2.2.2.2.2.1 rfl ?_
                  refine e_iald hX aM37 zcdX10_thrown_67.2.2.2.2.2.2.1 h (fun h => ?_)
                  refine e_iald hX aM36 zcdX10_thrown_67.2.2.2.2.2.2.2 h (fun h => ?_)
                  refine e_callVp hX (t_X10_apart (M35 36 (ix (M35 37 (ix (y5_45 - (nI 1)))))) (M35 36 (ix (M35 37 (ix y5_45)))) M35) mX10_apart lX10_144 (by decide) (by decide) oM0 rfl rfl rfl rfl rfl (Nat.le_of_ble_eq_true rfl) zcdX10_thrown_80.1 h (fun r_8 h => ?_)
                  refine s_iadd hX zcdX10_thrown_80.2.1 ?_
                  refine e_bnd h (fun x_9 h => ?_)
                  refine s_istore (lv' := [(0, .ref (ad 0)), (1, .int v1), (2, .int y2_35), (5, .int y5_45), (4, .int x_9)]) hX zcdX10_thrown_80.2.2.1 (by decide) rfl ?_
                  refine s_iinc (k := 3) (v := (y5_45 + (nI 1))) (lv' := [(0, .ref (ad 0)), (1, .int v1), (2, .int y2_35), (4, .int x_9), (5, .int (y5_45 + (nI 1)))]) hX zcdX10_thrown_80.2.2.2.1 (congrArg (fun z => y5_45 + z) (by decide)) (by decide) rfl rfl ?_
                  refine s_goto (tgt := 45) hX zcdX10_thrown_80.2.2.2.2.1 (by decide) ?_
                  exact ih45 x_9 (y5_45 + (nI 1)) h
            refine s_loc [0, 1, 2, 4, 5] rfl ?_
            exact lp45 FU (nI 0) (nI 1) h
      exact lp35 FU M_4 (nI 1000000) (nI 1) h
    · refine s_bipush (v := (-2)) hX zcdX10_thrown_13.2.2.2.2.1 (by decide) ?_
      exact e_ireti hX hR zcdX10_thrown_13.2.2.2.2.2.1 h
  · refine s_iconst (v := (-1)) hX zcdX10_thrown_0.2.2.2.2.2.1 (by decide) ?_
    exact e_ireti hX hR zcdX10_thrown_0.2.2.2.2.2.2.1 h
set_option maxHeartbeats 4000000 in
theorem t_X10_tried (v1 : Int32) (v2 : Int32) (M : Mem) : AXi yX10_tried cX10_tried 5 (some .int) 6 39 glM (fun ad => [.ref (ad 0), .int v1, .int v2]) M (f_X10_tried M v1 v2) := by
  intro r0 h
  refine AM.of (by decide) (fun _ => Nat.le_of_ble_eq_true rfl) (fun X ad cI cZ cB hX hR => ?_)
  show V X M [(0, .ref (ad 0)), (1, .int v1), (2, .int v2)] [] 0
  refine s_iload_n (k := 1) hX zcdX10_thrown_110.2.1 rfl rfl ?_
  refine s_iconst (v := (nI 1)) hX zcdX10_thrown_110.2.2.1 (by decide) ?_
  refine s_bipush (v := (nI 60)) hX zcdX10_thrown_110.2.2.2.1 (by decide) ?_
  refine e_callSp hX (t_X10_in v1 (nI 1) (nI 60) M) mX10_in lX10_132 (by decide) (by decide) rfl rfl (Nat.le_of_ble_eq_true rfl) zcdX10_thrown_110.2.2.2.2.1 h (fun r_1 h => ?_)
  refine e_if_eq (tgt := 42) hX zcdX10_thrown_110.2.2.2.2.2.1 (by decide) z_eq h (fun h => ?_) (fun h => ?_)
  · refine s_ldcw (v := (-100000)) hX kX10_311 zcdX10_tried_27.2.2.2.2.2.2.2 ?_
    exact e_ireti hX hR zcdX10_tried_45.1 h
  · refine s_iload_n (k := 2) hX zcdX10_thrown_110.2.2.2.2.2.2.1 rfl rfl ?_
    refine s_iconst (v := (nI 0)) hX zcdX10_thrown_110.2.2.2.2.2.2.2 (by decide) ?_
    refine s_iconst (v := (nI 3)) hX zcdX10_tried_12.1 (by decide) ?_
    refine e_callSp hX (t_X10_in v2 (nI 0) (nI 3) M) mX10_in lX10_132 (by decide) (by decide) rfl rfl (Nat.le_of_ble_eq_true rfl) zcdX10_tried_12.2.1 h (fun r_2 h => ?_)
    have j46 : f_X10_tried_L46 M v1 v2 = some r0 → V X M [(0, .ref (ad 0)), (1, .int v1), (2, .int v2)] [] 46 := by
      intro  h
      refine s_aload_n (k := 0) hX zcdX10_tried_45.2.1 rfl rfl ?_
      refine s_bipush (v := (nI 40)) hX zcdX10_tried_45.2.2.1 (by decide) ?_
      refine e_callVp hX (t_X10_sumOf (nI 40) M) mX10_sumOf lX10_312 (by decide) (by decide) oM0 rfl rfl rfl rfl rfl (Nat.le_of_ble_eq_true rfl) zcdX10_tried_45.2.2.2.1 h (fun r_3 h => ?_)
      refine s_istore_n (lv' := [(0, .ref (ad 0)), (1, .int v1), (2, .int v2), (3, .int r_3)]) hX zcdX10_tried_45.2.2.2.2.1 rfl (by decide) rfl ?_
      refine s_aload_n (k := 0) hX zcdX10_tried_45.2.2.2.2.2.1 rfl rfl ?_
      refine s_get hX fX10_7 oM0 rfl zcdX10_tried_45.2.2.2.2.2.2.1 ?_
      refine s_aload_n (k := 0) hX zcdX10_tried_45.2.2.2.2.2.2.2 rfl rfl ?_
      refine s_get hX fX10_13 oM0 rfl zcdX10_tried_58.1 ?_
      refine e_callSv hX (t_X10_copies 1 202 aM1 (by decide) 2 202 aM2 (by decide) M) mX10_copies lX10_315 (by decide) (by decide) rfl rfl (Nat.le_of_ble_eq_true rfl) zcdX10_tried_58.2.1 h (fun M_4 h => ?_)
      refine s_aload_n (k := 0) hX zcdX10_tried_58.2.2.1 rfl rfl ?_
      refine s_iload_n (k := 1) hX zcdX10_tried_58.2.2.2.1 rfl rfl ?_
      refine e_callVv hX (t_X10_nightsGo v1 M_4) mX10_nightsGo lX10_308 (by decide) (by decide) oM0 rfl rfl rfl rfl rfl (Nat.le_of_ble_eq_true rfl) zcdX10_tried_58.2.2.2.2.1 h (fun M_5 h => ?_)
      refine s_iload_n (k := 2) hX zcdX10_tried_58.2.2.2.2.2.1 rfl rfl ?_
      have j180 : ∀ (z4_180 : Int32), f_X10_tried_L180 M_5 z4_180 = some r0 → V X M_5 [(0, .ref (ad 0)), (4, .int z4_180)] [] 180 := by
        intro z4_180 h
        refine s_aload_n (k := 0) hX zcdX10_tried_180.1 rfl rfl ?_
        refine s_get hX fX10_13 oM0 rfl zcdX10_tried_180.2.1 ?_
        refine s_aload_n (k := 0) hX zcdX10_tried_180.2.2.1 rfl rfl ?_
        refine s_get hX fX10_7 oM0 rfl zcdX10_tried_180.2.2.2.1 ?_
        refine e_callSv hX (t_X10_copies 2 202 aM2 (by decide) 1 202 aM1 (by decide) M_5) mX10_copies lX10_315 (by decide) (by decide) rfl rfl (Nat.le_of_ble_eq_true rfl) zcdX10_tried_180.2.2.2.2.1 h (fun M_6 h => ?_)
        refine s_iload (k := 1) hX zcdX10_tried_180.2.2.2.2.2.1 rfl ?_
        exact e_ireti hX hR zcdX10_tried_180.2.2.2.2.2.2.1 h
      refine e_if h (fun c0 h => ?_) (fun c0 h => ?_)
      · refine s_tabIn (tgt := 100) (off := 30) hX zcdX10_tried_58.2.2.2.2.2.2.1 (by omega) (by omega) (by rw [c0]; rfl) (by decide) ?_
        refine s_aload_n (k := 0) hX zcdX10_tried_58.2.2.2.2.2.2.2 rfl rfl ?_
        refine s_get hX fX10_293 oM0 rfl zcdX10_tried_101.1 ?_
        refine e_bnd h (fun x_7 h => ?_)
        refine s_istore (lv' := [(0, .ref (ad 0)), (1, .int v1), (2, .int v2), (3, .int r_3), (4, .int x_7)]) hX zcdX10_tried_101.2.1 (by decide) rfl ?_
        refine s_goto (tgt := 180) hX zcdX10_tried_101.2.2.1 (by decide) ?_
        refine s_loc [0, 4] rfl ?_
        exact j180 x_7 h
      refine e_if h (fun c1 h => ?_) (fun c1 h => ?_)
      · refine s_tabIn (tgt := 109) (off := 39) hX zcdX10_tried_58.2.2.2.2.2.2.1 (by omega) (by omega) (by rw [c1]; rfl) (by decide) ?_
        refine s_aload_n (k := 0) hX zcdX10_tried_101.2.2.2.1 rfl rfl ?_
        refine s_get hX fX10_296 oM0 rfl zcdX10_tried_101.2.2.2.2.1 ?_
        refine e_bnd h (fun x_8 h => ?_)
        refine s_istore (lv' := [(0, .ref (ad 0)), (1, .int v1), (2, .int v2), (3, .int r_3), (4, .int x_8)]) hX zcdX10_tried_101.2.2.2.2.2.1 (by decide) rfl ?_
        refine s_goto (tgt := 180) hX zcdX10_tried_101.2.2.2.2.2.2.1 (by decide) ?_
        refine s_loc [0, 4] rfl ?_
        exact j180 x_8 h
      refine e_if h (fun c2 h => ?_) (fun c2 h => ?_)
      · refine s_tabIn (tgt := 118) (off := 48) hX zcdX10_tried_58.2.2.2.2.2.2.1 (by omega) (by omega) (by rw [c2]; rfl) (by decide) ?_
        refine s_aload_n (k := 0) hX zcdX10_tried_101.2.2.2.2.2.2.2 rfl rfl ?_
        refine s_sipush (v := (nI 160)) hX zcdX10_tried_119.1 (by decide) ?_
        refine e_callVp hX (t_X10_sumOf (nI 160) M_5) mX10_sumOf lX10_312 (by decide) (by decide) oM0 rfl rfl rfl rfl rfl (Nat.le_of_ble_eq_true rfl) zcdX10_tried_119.2.1 h (fun r_9 h => ?_)
        refine s_istore (lv' := [(0, .ref (ad 0)), (1, .int v1), (2, .int v2), (3, .int r_3), (4, .int r_9)]) hX zcdX10_tried_119.2.2.1 (by decide) rfl ?_
        refine s_goto (tgt := 180) hX zcdX10_tried_119.2.2.2.1 (by decide) ?_
        refine s_loc [0, 4] rfl ?_
        exact j180 r_9 h
      refine e_if h (fun c3 h => ?_) (fun c3 h => ?_)
      · refine s_tabIn (tgt := 130) (off := 60) hX zcdX10_tried_58.2.2.2.2.2.2.1 (by omega) (by omega) (by rw [c3]; rfl) (by decide) ?_
        refine s_aload_n (k := 0) hX zcdX10_tried_119.2.2.2.2.1 rfl rfl ?_
        refine s_bipush (v := (nI 40)) hX zcdX10_tried_119.2.2.2.2.2.1 (by decide) ?_
        refine e_callVp hX (t_X10_sumOf (nI 40) M_5) mX10_sumOf lX10_312 (by decide) (by decide) oM0 rfl rfl rfl rfl rfl (Nat.le_of_ble_eq_true rfl) zcdX10_tried_119.2.2.2.2.2.2.1 h (fun r_10 h => ?_)
        refine s_iload_n (k := 3) hX zcdX10_tried_119.2.2.2.2.2.2.2 rfl rfl ?_
        refine s_isub hX zcdX10_tried_137.1 ?_
        refine e_bnd h (fun x_11 h => ?_)
        refine s_istore (lv' := [(0, .ref (ad 0)), (1, .int v1), (2, .int v2), (3, .int r_3), (4, .int x_11)]) hX zcdX10_tried_137.2.1 (by decide) rfl ?_
        refine s_goto (tgt := 180) hX zcdX10_tried_137.2.2.1 (by decide) ?_
        refine s_loc [0, 4] rfl ?_
        exact j180 x_11 h
      refine s_tabOut (tgt := 143) hX zcdX10_tried_58.2.2.2.2.2.2.1 (by omega) (by decide) ?_
      refine s_iload_n (k := 2) hX zcdX10_tried_137.2.2.2.1 rfl rfl ?_
      refine s_sipush (v := (nI 200)) hX zcdX10_tried_137.2.2.2.2.1 (by decide) ?_
      have j178 : ∀ (t0_178 : Int32), f_X10_tried_L178 M_5 t0_178 = some r0 → V X M_5 [(0, .ref (ad 0))] [.int t0_178] 178 := by
        intro t0_178 h
        refine s_istore (lv' := [(0, .ref (ad 0)), (4, .int t0_178)]) hX zcdX10_tried_166.2.2.2.2.2.2.2 (by decide) rfl ?_
        exact j180 t0_178 h
      refine e_icmp_ge (tgt := 165) hX zcdX10_tried_137.2.2.2.2.2.1 (by decide) (m_ge (by decide +kernel)) h (fun h => ?_) (fun h => ?_)
      · refine s_aload_n (k := 0) hX zcdX10_tried_154.2.2.2.2.2.2.2 rfl rfl ?_
        refine s_get hX fX10_7 oM0 rfl zcdX10_tried_166.1 ?_
        refine s_bipush (v := (nI 80)) hX zcdX10_tried_166.2.1 (by decide) ?_
        refine s_iload_n (k := 2) hX zcdX10_tried_166.2.2.1 rfl rfl ?_
        refine s_iadd hX zcdX10_tried_166.2.2.2.1 ?_
        refine s_sipush (v := (nI 200)) hX zcdX10_tried_166.2.2.2.2.1 (by decide) ?_
        refine s_isub hX zcdX10_tried_166.2.2.2.2.2.1 ?_
        refine e_iald hX aM1 zcdX10_tried_166.2.2.2.2.2.2.1 h (fun h => ?_)
        refine s_loc [0] rfl ?_
        exact j178 (M_5 1 (ix (((nI 80) + v2) - (nI 200)))) h
      · refine s_aload_n (k := 0) hX zcdX10_tried_137.2.2.2.2.2.2.1 rfl rfl ?_
        refine s_get hX fX10_7 oM0 rfl zcdX10_tried_137.2.2.2.2.2.2.2 ?_
        refine s_bipush (v := (nI 40)) hX zcdX10_tried_154.1 (by decide) ?_
        refine s_iload_n (k := 2) hX zcdX10_tried_154.2.1 rfl rfl ?_
        refine s_iadd hX zcdX10_tried_154.2.2.1 ?_
        refine s_bipush (v := (nI 100)) hX zcdX10_tried_154.2.2.2.1 (by decide) ?_
        refine s_isub hX zcdX10_tried_154.2.2.2.2.1 ?_
        refine e_iald hX aM1 zcdX10_tried_154.2.2.2.2.2.1 h (fun h => ?_)
        refine s_goto (tgt := 178) hX zcdX10_tried_154.2.2.2.2.2.2.1 (by decide) ?_
        refine s_loc [0] rfl ?_
        exact j178 (M_5 1 (ix (((nI 40) + v2) - (nI 100)))) h
    refine e_if_ne (tgt := 46) hX zcdX10_tried_12.2.2.1 (by decide) z_eq h (fun h => ?_) (fun h => ?_)
    · exact j46 h
    · refine s_aload_n (k := 0) hX zcdX10_tried_12.2.2.2.1 rfl rfl ?_
      refine s_iload_n (k := 2) hX zcdX10_tried_12.2.2.2.2.1 rfl rfl ?_
      refine s_bipush (v := (nI 100)) hX zcdX10_tried_12.2.2.2.2.2.1 (by decide) ?_
      refine s_isub hX zcdX10_tried_12.2.2.2.2.2.2.1 ?_
      refine e_callVp hX (t_X10_isStone (v2 - (nI 100)) M) mX10_isStone lX10_154 (by decide) (by decide) oM0 rfl rfl rfl rfl rfl (Nat.le_of_ble_eq_true rfl) zcdX10_tried_12.2.2.2.2.2.2.2 h (fun r_12 h => ?_)
      refine e_if_ne (tgt := 46) hX zcdX10_tried_27.1 (by decide) z_eq h (fun h => ?_) (fun h => ?_)
      · exact j46 h
      · refine s_aload_n (k := 0) hX zcdX10_tried_27.2.1 rfl rfl ?_
        refine s_iload_n (k := 2) hX zcdX10_tried_27.2.2.1 rfl rfl ?_
        refine s_sipush (v := (nI 200)) hX zcdX10_tried_27.2.2.2.1 (by decide) ?_
        refine s_isub hX zcdX10_tried_27.2.2.2.2.1 ?_
        refine e_callVp hX (t_X10_isStone (v2 - (nI 200)) M) mX10_isStone lX10_154 (by decide) (by decide) oM0 rfl rfl rfl rfl rfl (Nat.le_of_ble_eq_true rfl) zcdX10_tried_27.2.2.2.2.2.1 h (fun r_13 h => ?_)
        refine e_if_ne (tgt := 46) hX zcdX10_tried_27.2.2.2.2.2.2.1 (by decide) z_eq h (fun h => ?_) (fun h => ?_)
        · exact j46 h
        · refine s_ldcw (v := (-100000)) hX kX10_311 zcdX10_tried_27.2.2.2.2.2.2.2 ?_
          exact e_ireti hX hR zcdX10_tried_45.1 h
set_option maxHeartbeats 4000000 in
theorem t_X10_under (v1 : Int32) (v2 : Int32) (M : Mem) : AXi yX10_under cX10_under 3 (some .boolean) 2 39 glM (fun ad => [.ref (ad 0), .int v1, .int v2]) M (f_X10_under M v1 v2) := by
  intro r0 h
  refine AM.of (by decide) (fun _ => Nat.le_of_ble_eq_true rfl) (fun X ad cI cZ cB hX hR => ?_)
  show V X M [(0, .ref (ad 0)), (1, .int v1), (2, .int v2)] [] 0
  refine s_aload_n (k := 0) hX zcdX10_tried_180.2.2.2.2.2.2.2 rfl rfl ?_
  refine s_iload_n (k := 1) hX zcdX10_under_1.1 rfl rfl ?_
  refine e_callVp hX (t_X10_isStone v1 M) mX10_isStone lX10_154 (by decide) (by decide) oM0 rfl rfl rfl rfl rfl (Nat.le_of_ble_eq_true rfl) zcdX10_under_1.2.1 h (fun r_1 h => ?_)
  refine e_if_ne (tgt := 10) hX zcdX10_under_1.2.2.1 (by decide) z_eq h (fun h => ?_) (fun h => ?_)
  · refine s_aload_n (k := 0) hX zcdX10_under_1.2.2.2.2.2.1 rfl rfl ?_
    refine s_get hX fX10_7 oM0 rfl zcdX10_under_1.2.2.2.2.2.2.1 ?_
    refine s_sipush (v := (nI 160)) hX zcdX10_under_1.2.2.2.2.2.2.2 (by decide) ?_
    refine s_iload_n (k := 1) hX zcdX10_under_17.1 rfl rfl ?_
    refine s_iadd hX zcdX10_under_17.2.1 ?_
    refine s_iload_n (k := 2) hX zcdX10_under_17.2.2.1 rfl rfl ?_
    have j28 : ∀ (t0_28 : Int32), f_X10_under_L28 M v1 t0_28 = some r0 → V X M [] [.int t0_28, .int ((nI 160) + v1), .ref (ad 1)] 28 := by
      intro t0_28 h
      refine e_iast hX aM1 zcdX10_under_17.2.2.2.2.2.2.2 h (fun h => ?_)
      refine e_bndM h (fun M_2 h => ?_)
      refine s_iconst (v := (nI 1)) hX zcdX10_under_29.1 (by decide) ?_
      exact e_zretiL hX hR zcdX10_under_29.2.1 (by decide) h
    refine e_if_eq (tgt := 27) hX zcdX10_under_17.2.2.2.1 (by decide) z_eq h (fun h => ?_) (fun h => ?_)
    · refine s_iconst (v := (nI 0)) hX zcdX10_under_17.2.2.2.2.2.2.1 (by decide) ?_
      refine s_loc [] rfl ?_
      exact j28 (nI 0) h
    · refine s_iconst (v := (nI 1)) hX zcdX10_under_17.2.2.2.2.1 (by decide) ?_
      refine s_goto (tgt := 28) hX zcdX10_under_17.2.2.2.2.2.1 (by decide) ?_
      refine s_loc [] rfl ?_
      exact j28 (nI 1) h
  · refine s_iconst (v := (nI 0)) hX zcdX10_under_1.2.2.2.1 (by decide) ?_
    exact e_zretiL hX hR zcdX10_under_1.2.2.2.2.1 (by decide) h
set_option maxHeartbeats 4000000 in
theorem t_X10_undo (M : Mem) : AXi yX10_undo cX10_undo 1 (some .boolean) 1 39 glM (fun ad => [.ref (ad 0)]) M (f_X10_undo M) := by
  intro r0 h
  refine AM.of (by decide) (fun _ => Nat.le_of_ble_eq_true rfl) (fun X ad cI cZ cB hX hR => ?_)
  show V X M [(0, .ref (ad 0))] [] 0
  refine s_aload_n (k := 0) hX zcdX10_under_29.2.2.1 rfl rfl ?_
  refine s_get hX fX10_415 oM0 rfl zcdX10_under_29.2.2.2.1 ?_
  refine e_if_ne (tgt := 9) hX zcdX10_under_29.2.2.2.2.1 (by decide) z_eq h (fun h => ?_) (fun h => ?_)
  · refine s_aload_n (k := 0) hX zcdX10_under_29.2.2.2.2.2.2.2 rfl rfl ?_
    refine s_get hX fX10_16 oM0 rfl zcdX10_undo_10.1 ?_
    refine s_aload_n (k := 0) hX zcdX10_undo_10.2.1 rfl rfl ?_
    refine s_get hX fX10_7 oM0 rfl zcdX10_undo_10.2.2.1 ?_
    refine e_callSv hX (t_X10_copies 3 202 aM3 (by decide) 1 202 aM1 (by decide) M) mX10_copies lX10_315 (by decide) (by decide) rfl rfl (Nat.le_of_ble_eq_true rfl) zcdX10_undo_10.2.2.2.1 h (fun M_1 h => ?_)
    refine s_iconst (v := (nI 1)) hX zcdX10_undo_10.2.2.2.2.1 (by decide) ?_
    exact e_zretiL hX hR zcdX10_undo_10.2.2.2.2.2.1 (by decide) h
  · refine s_iconst (v := (nI 0)) hX zcdX10_under_29.2.2.2.2.2.1 (by decide) ?_
    exact e_zretiL hX hR zcdX10_under_29.2.2.2.2.2.2.1 (by decide) h
set_option maxHeartbeats 4000000 in
theorem t_X10_walk (v1 : Int32) (v2 : Int32) (v3 : Int32) (v4 : Int32) (M : Mem) : AXi yX10_walk cX10_walk 15 (some .int) 5 39 glM (fun ad => [.ref (ad 0), .int v1, .int v2, .int v3, .int v4]) M (f_X10_walk M v1 v2 v3 v4) := by
  intro r0 h
  refine AM.of (by decide) (fun _ => Nat.le_of_ble_eq_true rfl) (fun X ad cI cZ cB hX hR => ?_)
  show V X M [(0, .ref (ad 0)), (1, .int v1), (2, .int v2), (3, .int v3), (4, .int v4)] [] 0
  refine s_aload_n (k := 0) hX zcdX10_undo_10.2.2.2.2.2.2.1 rfl rfl ?_
  refine s_iload_n (k := 1) hX zcdX10_undo_10.2.2.2.2.2.2.2 rfl rfl ?_
  refine e_callVp hX (t_X10_isPerson v1 M) mX10_isPerson lX10_334 (by decide) (by decide) oM0 rfl rfl rfl rfl rfl (Nat.le_of_ble_eq_true rfl) zcdX10_walk_2.1 h (fun r_1 h => ?_)
  refine e_if_eq (tgt := 46) hX zcdX10_walk_2.2.1 (by decide) z_eq h (fun h => ?_) (fun h => ?_)
  · refine s_iconst (v := (-1)) hX zcdX10_walk_35.2.2.2.2.2.1 (by decide) ?_
    exact e_ireti hX hR zcdX10_walk_35.2.2.2.2.2.2.1 h
  · refine s_iload_n (k := 2) hX zcdX10_walk_2.2.2.1 rfl rfl ?_
    refine s_iconst (v := (nI 0)) hX zcdX10_walk_2.2.2.2.1 (by decide) ?_
    refine s_bipush (v := (nI 39)) hX zcdX10_walk_2.2.2.2.2.1 (by decide) ?_
    refine e_callSp hX (t_X10_in v2 (nI 0) (nI 39) M) mX10_in lX10_132 (by decide) (by decide) rfl rfl (Nat.le_of_ble_eq_true rfl) zcdX10_walk_2.2.2.2.2.2.1 h (fun r_2 h => ?_)
    refine e_if_eq (tgt := 46) hX zcdX10_walk_2.2.2.2.2.2.2.1 (by decide) z_eq h (fun h => ?_) (fun h => ?_)
    · refine s_iconst (v := (-1)) hX zcdX10_walk_35.2.2.2.2.2.1 (by decide) ?_
      exact e_ireti hX hR zcdX10_walk_35.2.2.2.2.2.2.1 h
    · refine s_iload_n (k := 3) hX zcdX10_walk_2.2.2.2.2.2.2.2 rfl rfl ?_
      refine s_iconst (v := (nI 1)) hX zcdX10_walk_19.1 (by decide) ?_
      refine s_bipush (v := (nI 60)) hX zcdX10_walk_19.2.1 (by decide) ?_
      refine e_callSp hX (t_X10_in v3 (nI 1) (nI 60) M) mX10_in lX10_132 (by decide) (by decide) rfl rfl (Nat.le_of_ble_eq_true rfl) zcdX10_walk_19.2.2.1 h (fun r_3 h => ?_)
      refine e_if_eq (tgt := 46) hX zcdX10_walk_19.2.2.2.1 (by decide) z_eq h (fun h => ?_) (fun h => ?_)
      · refine s_iconst (v := (-1)) hX zcdX10_walk_35.2.2.2.2.2.1 (by decide) ?_
        exact e_ireti hX hR zcdX10_walk_35.2.2.2.2.2.2.1 h
      · refine s_iload (k := 4) hX zcdX10_walk_19.2.2.2.2.1 rfl ?_
        refine s_iconst (v := (nI 0)) hX zcdX10_walk_19.2.2.2.2.2.1 (by decide) ?_
        refine s_iconst (v := (nI 3)) hX zcdX10_walk_19.2.2.2.2.2.2.1 (by decide) ?_
        refine e_callSp hX (t_X10_in v4 (nI 0) (nI 3) M) mX10_in lX10_132 (by decide) (by decide) rfl rfl (Nat.le_of_ble_eq_true rfl) zcdX10_walk_19.2.2.2.2.2.2.2 h (fun r_4 h => ?_)
        refine e_if_eq (tgt := 46) hX zcdX10_walk_35.1 (by decide) z_eq h (fun h => ?_) (fun h => ?_)
        · refine s_iconst (v := (-1)) hX zcdX10_walk_35.2.2.2.2.2.1 (by decide) ?_
          exact e_ireti hX hR zcdX10_walk_35.2.2.2.2.2.2.1 h
        · refine s_iload_n (k := 3) hX zcdX10_walk_35.2.1 rfl rfl ?_
          refine s_aload_n (k := 0) hX zcdX10_walk_35.2.2.1 rfl rfl ?_
          refine s_get hX fX10_158 oM0 rfl zcdX10_walk_35.2.2.2.1 ?_
          refine e_icmp_le (tgt := 48) hX zcdX10_walk_35.2.2.2.2.1 (by decide) r_le h (fun h => ?_) (fun h => ?_)
          · refine s_aload_n (k := 0) hX zcdX10_walk_35.2.2.2.2.2.2.2 rfl rfl ?_
            refine s_iload_n (k := 3) hX zcdX10_walk_49.1 rfl rfl ?_
            refine e_callVv hX (t_X10_beginsText v3 M) mX10_beginsText lX10_249 (by decide) (by decide) oM0 rfl rfl rfl rfl rfl (Nat.le_of_ble_eq_true rfl) zcdX10_walk_49.2.1 h (fun M_5 h => ?_)
            refine s_aload_n (k := 0) hX zcdX10_walk_49.2.2.1 rfl rfl ?_
            refine s_iconst (v := (nI 0)) hX zcdX10_walk_49.2.2.2.1 (by decide) ?_
            refine s_puti (ty := .int) hX fX10_359 oM0 rfl (Nat.le_of_ble_eq_true rfl) ty_10_49 rfl rfl zcdX10_walk_49.2.2.2.2.1 ?_
            refine e_bndM h (fun M_6 h => ?_)
            refine s_aload_n (k := 0) hX zcdX10_walk_49.2.2.2.2.2.1 rfl rfl ?_
            refine s_iconst (v := (nI 0)) hX zcdX10_walk_49.2.2.2.2.2.2.1 (by decide) ?_
            refine s_puti (ty := .int) hX fX10_362 oM0 rfl (Nat.le_of_ble_eq_true rfl) ty_10_50 rfl rfl zcdX10_walk_49.2.2.2.2.2.2.2 ?_
            refine e_bndM h (fun M_7 h => ?_)
            refine s_aload_n (k := 0) hX zcdX10_walk_63.1 rfl rfl ?_
            refine e_callVi hX (t_X10_readsWalk M_7) mX10_readsWalk lX10_371 (by decide) (by decide) oM0 rfl rfl rfl rfl rfl (Nat.le_of_ble_eq_true rfl) zcdX10_walk_63.2.1 h (fun r_8 M_9 h => ?_)
            refine s_istore (lv' := [(0, .ref (ad 0)), (1, .int v1), (2, .int v2), (3, .int v3), (4, .int v4), (5, .int r_8)]) hX zcdX10_walk_63.2.2.1 (by decide) rfl ?_
            refine s_aload_n (k := 0) hX zcdX10_walk_63.2.2.2.1 rfl rfl ?_
            refine s_iconst (v := (nI 0)) hX zcdX10_walk_63.2.2.2.2.1 (by decide) ?_
            refine s_puti (ty := .int) hX fX10_158 oM0 rfl (Nat.le_of_ble_eq_true rfl) ty_10_6 rfl rfl zcdX10_walk_63.2.2.2.2.2.1 ?_
            refine e_bndM h (fun M_10 h => ?_)
            refine s_iload (k := 5) hX zcdX10_walk_63.2.2.2.2.2.2.1 rfl ?_
            refine e_if_ne (tgt := 84) hX zcdX10_walk_63.2.2.2.2.2.2.2 (by decide) z_eq h (fun h => ?_) (fun h => ?_)
            · refine s_iconst (v := (nI 0)) hX zcdX10_walk_79.2.2.2.1 (by decide) ?_
              refine s_istore (lv' := [(0, .ref (ad 0)), (1, .int v1), (2, .int v2), (3, .int v3), (4, .int v4), (5, .int r_8), (6, .int (nI 0))]) hX zcdX10_walk_79.2.2.2.2.1 (by decide) rfl ?_
              refine s_iload_n (k := 2) hX zcdX10_walk_79.2.2.2.2.2.1 rfl rfl ?_
              refine s_istore (lv' := [(0, .ref (ad 0)), (1, .int v1), (2, .int v2), (3, .int v3), (4, .int v4), (5, .int r_8), (6, .int (nI 0)), (7, .int v2)]) hX zcdX10_walk_79.2.2.2.2.2.2.1 (by decide) rfl ?_
              refine s_iconst (v := (nI 0)) hX zcdX10_walk_79.2.2.2.2.2.2.2 (by decide) ?_
              refine s_istore (lv' := [(0, .ref (ad 0)), (1, .int v1), (2, .int v2), (3, .int v3), (4, .int v4), (5, .int r_8), (6, .int (nI 0)), (7, .int v2), (8, .int (nI 0))]) hX zcdX10_walk_91.1 (by decide) rfl ?_
              refine s_iconst (v := (nI 1)) hX zcdX10_walk_91.2.1 (by decide) ?_
              refine s_istore (lv' := [(0, .ref (ad 0)), (1, .int v1), (2, .int v2), (3, .int v3), (4, .int v4), (5, .int r_8), (6, .int (nI 0)), (7, .int v2), (8, .int (nI 0)), (9, .int (nI 1))]) hX zcdX10_walk_91.2.2.1 (by decide) rfl ?_
              refine s_iconst (v := (nI 0)) hX zcdX10_walk_91.2.2.2.1 (by decide) ?_
              refine s_istore (lv' := [(0, .ref (ad 0)), (1, .int v1), (2, .int v2), (3, .int v3), (4, .int v4), (5, .int r_8), (6, .int (nI 0)), (7, .int v2), (8, .int (nI 0)), (9, .int (nI 1)), (10, .int (nI 0))]) hX zcdX10_walk_91.2.2.2.2.1 (by decide) rfl ?_
              have lp99 : ∀ (N99 : Nat) (y6_99 : Int32) (y7_99 : Int32) (y8_99 : Int32) (y9_99 : Int32) (y10_99 : Int32), wlp5 (f_X10_walk_B99 v1 v4 M_10) N99 y6_99 y7_99 y8_99 y9_99 y10_99 = some r0 → V X M_10 [(0, .ref (ad 0)), (1, .int v1), (4, .int v4), (6, .int y6_99), (7, .int y7_99), (8, .int y8_99), (9, .int y9_99), (10, .int y10_99)] [] 99 := by
                intro N99
                induction N99 with
                | zero => exact fun _ _ _ _ _ h => e_none h
                | succ N99 ih99 =>
                  intro y6_99 y7_99 y8_99 y9_99 y10_99 h
                  replace h : f_X10_walk_B99 v1 v4 M_10 (wlp5 (f_X10_walk_B99 v1 v4 M_10) N99) y6_99 y7_99 y8_99 y9_99 y10_99 = some r0 := h
                  generalize wlp5 (f_X10_walk_B99 v1 v4 M_10) N99 = ag99 at ih99 h
                  refine s_iload (k := 7) hX zcdX10_walk_91.2.2.2.2.2.1 rfl ?_
                  refine s_aload_n (k := 0) hX zcdX10_walk_91.2.2.2.2.2.2.1 rfl rfl ?_
                  refine s_get hX fX10_359 oM0 rfl zcdX10_walk_91.2.2.2.2.2.2.2 ?_
                  have j297 : f_X10_walk_L297 v4 M_10 y6_99 y7_99 y8_99 = some r0 → V X M_10 [(4, .int v4), (6, .int y6_99), (7, .int y7_99), (8, .int y8_99)] [] 297 := by
                    intro  h
                    refine s_iload (k := 0) hX zcdX10_walk_287.2.2.2.2.1 rfl ?_
                    refine e_if_ne (tgt := 307) hX zcdX10_walk_287.2.2.2.2.2.1 (by decide) z_eq h (fun h => ?_) (fun h => ?_)
                    · refine s_iload (k := 0) hX zcdX10_walk_307.1 rfl ?_
                      refine s_iconst (v := (nI 1)) hX zcdX10_walk_307.2.1 (by decide) ?_
                      refine e_icmp_ne (tgt := 318) hX zcdX10_walk_307.2.2.1 (by decide) (m_eq (by decide +kernel)) h (fun h => ?_) (fun h => ?_)
                      · refine s_iload (k := 0) hX zcdX10_walk_307.2.2.2.2.2.1 rfl ?_
                        refine s_iconst (v := (nI 2)) hX zcdX10_walk_307.2.2.2.2.2.2.1 (by decide) ?_
                        refine e_icmp_ne (tgt := 329) hX zcdX10_walk_307.2.2.2.2.2.2.2 (by decide) (m_eq (by decide +kernel)) h (fun h => ?_) (fun h => ?_)
                        · refine s_iload (k := 3) hX zcdX10_walk_324.2.2.1 rfl ?_
                          refine s_bipush (v := (nI 21)) hX zcdX10_walk_324.2.2.2.1 (by decide) ?_
                          refine e_icmp_ne (tgt := 340) hX zcdX10_walk_324.2.2.2.2.1 (by decide) (m_eq (by decide +kernel)) h (fun h => ?_) (fun h => ?_)
                          · refine s_iconst (v := (nI 0)) hX zcdX10_walk_324.2.2.2.2.2.2.2 (by decide) ?_
                            exact e_ireti hX hR zcdX10_walk_341 h
                          · refine s_iconst (v := (nI 1)) hX zcdX10_walk_324.2.2.2.2.2.1 (by decide) ?_
                            refine s_goto (tgt := 341) hX zcdX10_walk_324.2.2.2.2.2.2.1 (by decide) ?_
                            exact e_ireti hX hR zcdX10_walk_341 h
                        · refine s_iload (k := 2) hX zcdX10_walk_324.1 rfl ?_
                          refine s_goto (tgt := 341) hX zcdX10_walk_324.2.1 (by decide) ?_
                          exact e_ireti hX hR zcdX10_walk_341 h
                      · refine s_iload (k := 3) hX zcdX10_walk_307.2.2.2.1 rfl ?_
                        refine s_goto (tgt := 341) hX zcdX10_walk_307.2.2.2.2.1 (by decide) ?_
                        exact e_ireti hX hR zcdX10_walk_341 h
                    · refine s_iload (k := 1) hX zcdX10_walk_287.2.2.2.2.2.2.1 rfl ?_
                      refine s_goto (tgt := 341) hX zcdX10_walk_287.2.2.2.2.2.2.2 (by decide) ?_
                      exact e_ireti hX hR zcdX10_walk_341 h
                  refine e_icmp_ge (tgt := 297) hX zcdX10_walk_105.1 (by decide) r_le h (fun h => ?_) (fun h => ?_)
                  · refine s_loc [2, 3, 4, 5] rfl ?_
                    exact j297 h
                  · refine s_iload (k := 6) hX zcdX10_walk_105.2.1 rfl ?_
                    refine e_if_eq (tgt := 297) hX zcdX10_walk_105.2.2.1 (by decide) z_eq h (fun h => ?_) (fun h => ?_)
                    · refine s_loc [2, 3, 4, 5] rfl ?_
                      exact j297 h
                    · refine s_iload (k := 5) hX zcdX10_walk_105.2.2.2.1 rfl ?_
                      refine s_bipush (v := (nI 21)) hX zcdX10_walk_105.2.2.2.2.1 (by decide) ?_
                      refine e_icmp_ge (tgt := 297) hX zcdX10_walk_105.2.2.2.2.2.1 (by decide) (m_ge (by decide +kernel)) h (fun h => ?_) (fun h => ?_)
                      · refine s_loc [2, 3, 4, 5] rfl ?_
                        exact j297 h
                      · refine s_iload (k := 4) hX zcdX10_walk_105.2.2.2.2.2.2.1 rfl ?_
                        refine s_aload_n (k := 0) hX zcdX10_walk_105.2.2.2.2.2.2.2 rfl rfl ?_
                        refine s_get hX fX10_104 oM0 rfl zcdX10_walk_123.1 ?_
                        refine s_iload (k := 7) hX zcdX10_walk_123.2.1 rfl ?_
                        refine e_iald hX aM32 zcdX10_walk_123.2.2.1 h (fun h => ?_)
                        refine s_iadd hX zcdX10_walk_123.2.2.2.1 ?_
                        refine e_bnd h (fun x_11 h => ?_)
                        refine s_istore (lv' := [(0, .ref (ad 0)), (1, .int v1), (4, .int v4), (6, .int y6_99), (7, .int y7_99), (8, .int y8_99), (9, .int y9_99), (10, .int y10_99), (11, .int x_11)]) hX zcdX10_walk_123.2.2.2.2.1 (by decide) rfl ?_
                        refine s_iload (k := 5) hX zcdX10_walk_123.2.2.2.2.2.1 rfl ?_
                        refine s_aload_n (k := 0) hX zcdX10_walk_123.2.2.2.2.2.2.1 rfl rfl ?_
                        refine s_get hX fX10_107 oM0 rfl zcdX10_walk_123.2.2.2.2.2.2.2 ?_
                        refine s_iload (k := 7) hX zcdX10_walk_138.1 rfl ?_
                        refine e_iald hX aM33 zcdX10_walk_138.2.1 h (fun h => ?_)
                        refine s_iadd hX zcdX10_walk_138.2.2.1 ?_
                        refine s_iconst (v := (nI 0)) hX zcdX10_walk_138.2.2.2.1 (by decide) ?_
                        refine s_bipush (v := (nI 21)) hX zcdX10_walk_138.2.2.2.2.1 (by decide) ?_
                        refine e_callSp hX (t_X10_bounded (y8_99 + (M_10 33 (ix y10_99))) (nI 0) (nI 21) M_10) mX10_bounded lX10_290 (by decide) (by decide) rfl rfl (Nat.le_of_ble_eq_true rfl) zcdX10_walk_138.2.2.2.2.2.1 h (fun r_12 h => ?_)
                        refine s_istore (lv' := [(0, .ref (ad 0)), (1, .int v1), (4, .int v4), (6, .int y6_99), (7, .int y7_99), (8, .int y8_99), (9, .int y9_99), (10, .int y10_99), (11, .int x_11), (12, .int r_12)]) hX zcdX10_walk_138.2.2.2.2.2.2.1 (by decide) rfl ?_
                        refine s_aload_n (k := 0) hX zcdX10_walk_138.2.2.2.2.2.2.2 rfl rfl ?_
                        refine s_get hX fX10_104 oM0 rfl zcdX10_walk_151.1 ?_
                        refine s_iload (k := 7) hX zcdX10_walk_151.2.1 rfl ?_
                        refine e_iald hX aM32 zcdX10_walk_151.2.2.1 h (fun h => ?_)
                        refine s_aload_n (k := 0) hX zcdX10_walk_151.2.2.2.1 rfl rfl ?_
                        refine s_get hX fX10_104 oM0 rfl zcdX10_walk_151.2.2.2.2.1 ?_
                        refine s_iload (k := 7) hX zcdX10_walk_151.2.2.2.2.2.1 rfl ?_
                        refine e_iald hX aM32 zcdX10_walk_151.2.2.2.2.2.2.1 h (fun h => ?_)
                        refine s_imul hX zcdX10_walk_151.2.2.2.2.2.2.2 ?_
                        refine s_aload_n (k := 0) hX zcdX10_walk_165.1 rfl rfl ?_
                        refine s_get hX fX10_107 oM0 rfl zcdX10_walk_165.2.1 ?_
                        refine s_iload (k := 7) hX zcdX10_walk_165.2.2.1 rfl ?_
                        refine e_iald hX aM33 zcdX10_walk_165.2.2.2.1 h (fun h => ?_)
                        refine s_aload_n (k := 0) hX zcdX10_walk_165.2.2.2.2.1 rfl rfl ?_
                        refine s_get hX fX10_107 oM0 rfl zcdX10_walk_165.2.2.2.2.2.1 ?_
                        refine s_iload (k := 7) hX zcdX10_walk_165.2.2.2.2.2.2.1 rfl ?_
                        refine e_iald hX aM33 zcdX10_walk_165.2.2.2.2.2.2.2 h (fun h => ?_)
                        refine s_imul hX zcdX10_walk_179.1 ?_
                        refine s_iadd hX zcdX10_walk_179.2.1 ?_
                        refine e_bnd h (fun x_13 h => ?_)
                        refine s_istore (lv' := [(0, .ref (ad 0)), (1, .int v1), (4, .int v4), (6, .int y6_99), (7, .int y7_99), (8, .int y8_99), (9, .int y9_99), (10, .int y10_99), (11, .int x_11), (12, .int r_12), (13, .int x_13)]) hX zcdX10_walk_179.2.2.1 (by decide) rfl ?_
                        refine s_iload (k := 9) hX zcdX10_walk_179.2.2.2.1 rfl ?_
                        refine s_iconst (v := (nI 1)) hX zcdX10_walk_179.2.2.2.2.1 (by decide) ?_
                        refine s_bipush (v := (nI 20)) hX zcdX10_walk_179.2.2.2.2.2.1 (by decide) ?_
                        refine e_callSp hX (t_X10_in r_12 (nI 1) (nI 20) M_10) mX10_in lX10_132 (by decide) (by decide) rfl rfl (Nat.le_of_ble_eq_true rfl) zcdX10_walk_179.2.2.2.2.2.2.1 h (fun r_14 h => ?_)
                        have j237 : ∀ (t0_237 : Int32), f_X10_walk_L237 v1 M_10 ag99 y6_99 y7_99 y8_99 y10_99 x_11 r_12 x_13 t0_237 = some r0 → V X M_10 [(0, .ref (ad 0)), (1, .int v1), (4, .int v4), (6, .int y6_99), (7, .int y7_99), (8, .int y8_99), (10, .int y10_99), (11, .int x_11), (12, .int r_12), (13, .int x_13)] [.int t0_237] 237 := by
                          intro t0_237 h
                          refine s_istore (lv' := [(0, .ref (ad 0)), (1, .int v1), (4, .int v4), (6, .int y6_99), (7, .int y7_99), (8, .int y8_99), (10, .int y10_99), (11, .int x_11), (12, .int r_12), (13, .int x_13), (14, .int t0_237)]) hX zcdX10_walk_226.2.2.2.2.2.1 (by decide) rfl ?_
                          refine s_iload (k := 9) hX zcdX10_walk_226.2.2.2.2.2.2.1 rfl ?_
                          refine s_aload_n (k := 0) hX zcdX10_walk_226.2.2.2.2.2.2.2 rfl rfl ?_
                          refine s_get hX fX10_19 oM0 rfl zcdX10_walk_242.1 ?_
                          refine s_iload_n (k := 1) hX zcdX10_walk_242.2.1 rfl rfl ?_
                          refine e_iald hX aM4 zcdX10_walk_242.2.2.1 h (fun h => ?_)
                          refine s_aload_n (k := 0) hX zcdX10_walk_242.2.2.2.1 rfl rfl ?_
                          refine s_get hX fX10_19 oM0 rfl zcdX10_walk_242.2.2.2.2.1 ?_
                          refine s_iload_n (k := 1) hX zcdX10_walk_242.2.2.2.2.2.1 rfl rfl ?_
                          refine e_iald hX aM4 zcdX10_walk_242.2.2.2.2.2.2.1 h (fun h => ?_)
                          refine s_imul hX zcdX10_walk_242.2.2.2.2.2.2.2 ?_
                          have j267 : ∀ (t0_267 : Int32), f_X10_walk_L267 ag99 y6_99 y7_99 y8_99 y10_99 x_11 r_12 t0_267 = some r0 → V X M_10 [(0, .ref (ad 0)), (1, .int v1), (4, .int v4), (6, .int y6_99), (7, .int y7_99), (8, .int y8_99), (10, .int y10_99), (11, .int x_11), (12, .int r_12)] [.int t0_267] 267 := by
                            intro t0_267 h
                            refine s_istore (lv' := [(0, .ref (ad 0)), (1, .int v1), (4, .int v4), (6, .int y6_99), (7, .int y7_99), (8, .int y8_99), (10, .int y10_99), (11, .int x_11), (12, .int r_12), (9, .int t0_267)]) hX zcdX10_walk_254.2.2.2.2.2.2.1 (by decide) rfl ?_
                            refine s_iload (k := 9) hX zcdX10_walk_254.2.2.2.2.2.2.2 rfl ?_
                            refine e_if_ne (tgt := 277) hX zcdX10_walk_271.1 (by decide) z_eq h (fun h => ?_) (fun h => ?_)
                            · refine s_iload (k := 3) hX zcdX10_walk_271.2.2.1 rfl ?_
                              refine s_iconst (v := (nI 1)) hX zcdX10_walk_271.2.2.2.1 (by decide) ?_
                              refine s_iadd hX zcdX10_walk_271.2.2.2.2.1 ?_
                              refine s_istore (lv' := [(0, .ref (ad 0)), (1, .int v1), (4, .int v4), (7, .int y7_99), (8, .int y8_99), (10, .int y10_99), (11, .int x_11), (12, .int r_12), (9, .int t0_267), (6, .int (y6_99 + (nI 1)))]) hX zcdX10_walk_271.2.2.2.2.2.1 (by decide) rfl ?_
                              refine s_iload (k := 6) hX zcdX10_walk_271.2.2.2.2.2.2.1 rfl ?_
                              refine s_istore (lv' := [(0, .ref (ad 0)), (1, .int v1), (4, .int v4), (8, .int y8_99), (10, .int y10_99), (11, .int x_11), (12, .int r_12), (9, .int t0_267), (6, .int (y6_99 + (nI 1))), (7, .int x_11)]) hX zcdX10_walk_271.2.2.2.2.2.2.2 (by decide) rfl ?_
                              refine s_iload (k := 6) hX zcdX10_walk_287.1 rfl ?_
                              refine s_istore (lv' := [(0, .ref (ad 0)), (1, .int v1), (4, .int v4), (10, .int y10_99), (11, .int x_11), (12, .int r_12), (9, .int t0_267), (6, .int (y6_99 + (nI 1))), (7, .int x_11), (8, .int r_12)]) hX zcdX10_walk_287.2.1 (by decide) rfl ?_
                              refine s_iinc (k := 3) (v := (y10_99 + (nI 1))) (lv' := [(0, .ref (ad 0)), (1, .int v1), (4, .int v4), (11, .int x_11), (12, .int r_12), (9, .int t0_267), (6, .int (y6_99 + (nI 1))), (7, .int x_11), (8, .int r_12), (10, .int (y10_99 + (nI 1)))]) hX zcdX10_walk_287.2.2.1 (congrArg (fun z => y10_99 + z) (by decide)) (by decide) rfl rfl ?_
                              refine s_goto (tgt := 99) hX zcdX10_walk_287.2.2.2.1 (by decide) ?_
                              refine s_loc [0, 1, 2, 6, 7, 8, 5, 9] rfl ?_
                              exact ih99 (y6_99 + (nI 1)) x_11 r_12 t0_267 (y10_99 + (nI 1)) h
                            · refine s_goto (tgt := 291) hX zcdX10_walk_271.2.1 (by decide) ?_
                              refine s_iinc (k := 6) (v := (y10_99 + (nI 1))) (lv' := [(0, .ref (ad 0)), (1, .int v1), (4, .int v4), (6, .int y6_99), (7, .int y7_99), (8, .int y8_99), (11, .int x_11), (12, .int r_12), (9, .int t0_267), (10, .int (y10_99 + (nI 1)))]) hX zcdX10_walk_287.2.2.1 (congrArg (fun z => y10_99 + z) (by decide)) (by decide) rfl rfl ?_
                              refine s_goto (tgt := 99) hX zcdX10_walk_287.2.2.2.1 (by decide) ?_
                              refine s_loc [0, 1, 2, 3, 4, 5, 8, 9] rfl ?_
                              exact ih99 y6_99 y7_99 y8_99 t0_267 (y10_99 + (nI 1)) h
                          have j266 : f_X10_walk_L266 ag99 y6_99 y7_99 y8_99 y10_99 x_11 r_12 = some r0 → V X M_10 [(0, .ref (ad 0)), (1, .int v1), (4, .int v4), (6, .int y6_99), (7, .int y7_99), (8, .int y8_99), (10, .int y10_99), (11, .int x_11), (12, .int r_12)] [] 266 := by
                            intro  h
                            refine s_iconst (v := (nI 0)) hX zcdX10_walk_254.2.2.2.2.2.1 (by decide) ?_
                            exact j267 (nI 0) h
                          refine e_icmp_gt (tgt := 266) hX zcdX10_walk_254.1 (by decide) r_lt h (fun h => ?_) (fun h => ?_)
                          · refine s_loc [0, 1, 2, 3, 4, 5, 6, 7, 8] rfl ?_
                            exact j266 h
                          · refine s_iload (k := 10) hX zcdX10_walk_254.2.1 rfl ?_
                            refine e_if_eq (tgt := 266) hX zcdX10_walk_254.2.2.1 (by decide) z_eq h (fun h => ?_) (fun h => ?_)
                            · refine s_loc [0, 1, 2, 3, 4, 5, 6, 7, 8] rfl ?_
                              exact j266 h
                            · refine s_iconst (v := (nI 1)) hX zcdX10_walk_254.2.2.2.1 (by decide) ?_
                              refine s_goto (tgt := 267) hX zcdX10_walk_254.2.2.2.2.1 (by decide) ?_
                              refine s_loc [0, 1, 2, 3, 4, 5, 6, 7, 8] rfl ?_
                              exact j267 (nI 1) h
                        refine e_if_eq (tgt := 229) hX zcdX10_walk_179.2.2.2.2.2.2.2 (by decide) z_eq h (fun h => ?_) (fun h => ?_)
                        · refine s_iload (k := 8) hX zcdX10_walk_226.2.1 rfl ?_
                          refine s_iconst (v := (nI 0)) hX zcdX10_walk_226.2.2.1 (by decide) ?_
                          refine s_bipush (v := (nI 39)) hX zcdX10_walk_226.2.2.2.1 (by decide) ?_
                          refine e_callSp hX (t_X10_in x_11 (nI 0) (nI 39) M_10) mX10_in lX10_132 (by decide) (by decide) rfl rfl (Nat.le_of_ble_eq_true rfl) zcdX10_walk_226.2.2.2.2.1 h (fun r_15 h => ?_)
                          refine s_loc [0, 1, 2, 3, 4, 5, 7, 8, 9, 10] rfl ?_
                          exact j237 r_15 h
                        · refine s_aload_n (k := 0) hX zcdX10_walk_194.1 rfl rfl ?_
                          refine s_iload (k := 8) hX zcdX10_walk_194.2.1 rfl ?_
                          refine s_iload (k := 9) hX zcdX10_walk_194.2.2.1 rfl ?_
                          refine e_callVp hX (t_X10_stoneAt x_11 r_12 M_10) mX10_stoneAt lX10_147 (by decide) (by decide) oM0 rfl rfl rfl rfl rfl (Nat.le_of_ble_eq_true rfl) zcdX10_walk_194.2.2.2.1 h (fun r_16 h => ?_)
                          refine s_iconst (v := (-1)) hX zcdX10_walk_194.2.2.2.2.1 (by decide) ?_
                          have j225 : f_X10_walk_L225 v1 M_10 ag99 y6_99 y7_99 y8_99 y10_99 x_11 r_12 x_13 = some r0 → V X M_10 [(0, .ref (ad 0)), (1, .int v1), (4, .int v4), (6, .int y6_99), (7, .int y7_99), (8, .int y8_99), (10, .int y10_99), (11, .int x_11), (12, .int r_12), (13, .int x_13)] [] 225 := by
                            intro  h
                            refine s_iconst (v := (nI 0)) hX zcdX10_walk_208.2.2.2.2.2.2.2 (by decide) ?_
                            refine s_goto (tgt := 237) hX zcdX10_walk_226.1 (by decide) ?_
                            exact j237 (nI 0) h
                          refine e_icmp_eq (tgt := 225) hX zcdX10_walk_194.2.2.2.2.2.1 (by decide) (m_eq (by decide +kernel)) h (fun h => ?_) (fun h => ?_)
                          · refine s_loc [0, 1, 2, 3, 4, 5, 7, 8, 9, 10] rfl ?_
                            exact j225 h
                          · refine s_aload_n (k := 0) hX zcdX10_walk_194.2.2.2.2.2.2.1 rfl rfl ?_
                            refine s_aload_n (k := 0) hX zcdX10_walk_194.2.2.2.2.2.2.2 rfl rfl ?_
                            refine s_iload (k := 8) hX zcdX10_walk_208.1 rfl ?_
                            refine s_iload (k := 9) hX zcdX10_walk_208.2.1 rfl ?_
                            refine e_callVp hX (t_X10_stoneAt x_11 r_12 M_10) mX10_stoneAt lX10_147 (by decide) (by decide) oM0 rfl rfl rfl rfl rfl (Nat.le_of_ble_eq_true rfl) zcdX10_walk_208.2.2.1 h (fun r_17 h => ?_)
                            refine e_callVp hX (t_X10_isDry r_17 M_10) mX10_isDry lX10_319 (by decide) (by decide) oM0 rfl rfl rfl rfl rfl (Nat.le_of_ble_eq_true rfl) zcdX10_walk_208.2.2.2.1 h (fun r_18 h => ?_)
                            refine e_if_eq (tgt := 225) hX zcdX10_walk_208.2.2.2.2.1 (by decide) z_eq h (fun h => ?_) (fun h => ?_)
                            · refine s_loc [0, 1, 2, 3, 4, 5, 7, 8, 9, 10] rfl ?_
                              exact j225 h
                            · refine s_iconst (v := (nI 1)) hX zcdX10_walk_208.2.2.2.2.2.1 (by decide) ?_
                              refine s_goto (tgt := 237) hX zcdX10_walk_208.2.2.2.2.2.2.1 (by decide) ?_
                              refine s_loc [0, 1, 2, 3, 4, 5, 7, 8, 9, 10] rfl ?_
                              exact j237 (nI 1) h
              refine s_loc [0, 1, 4, 6, 7, 8, 9, 10] rfl ?_
              exact lp99 FU (nI 0) v2 (nI 0) (nI 1) (nI 0) h
            · refine s_aload_n (k := 0) hX zcdX10_walk_79.1 rfl rfl ?_
              refine s_get hX fX10_175 oM0 rfl zcdX10_walk_79.2.1 ?_
              exact e_ireti hX hR zcdX10_walk_79.2.2.1 h
          · refine s_iconst (v := (-1)) hX zcdX10_walk_35.2.2.2.2.2.1 (by decide) ?_
            exact e_ireti hX hR zcdX10_walk_35.2.2.2.2.2.2.1 h
