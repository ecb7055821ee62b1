theorem zcdX10_readsCondition_0 : decode cX10_readsCondition 0 = .ok (.aload_n 0, 1) ∧ decode cX10_readsCondition 1 = .ok (.invokevirtual 171, 3) ∧ decode cX10_readsCondition 4 = .ok (.bipush 40, 2) ∧ decode cX10_readsCondition 6 = .ok (.if_icmp .eq 13, 3) ∧ decode cX10_readsCondition 9 = .ok (.aload_n 0, 1) ∧ decode cX10_readsCondition 10 = .ok (.iconst 1, 1) ∧ decode cX10_readsCondition 11 = .ok (.aload_n 0, 1) ∧ decode cX10_readsCondition 12 = .ok (.getfield 165, 3) := by decide +kernel
theorem zcdX10_readsCondition_15 : decode cX10_readsCondition 15 = .ok (.invokevirtual 178, 3) ∧ decode cX10_readsCondition 18 = .ok (.ireturn, 1) ∧ decode cX10_readsCondition 19 = .ok (.aload_n 0, 1) ∧ decode cX10_readsCondition 20 = .ok (.iconst 0, 1) ∧ decode cX10_readsCondition 21 = .ok (.putfield 192, 3) ∧ decode cX10_readsCondition 24 = .ok (.aload_n 0, 1) ∧ decode cX10_readsCondition 25 = .ok (.iconst 0, 1) ∧ decode cX10_readsCondition 26 = .ok (.putfield 195, 3) := by decide +kernel
theorem zcdX10_readsCondition_29 : decode cX10_readsCondition 29 = .ok (.aload_n 0, 1) ∧ decode cX10_readsCondition 30 = .ok (.bipush 13, 2) ∧ decode cX10_readsCondition 32 = .ok (.invokevirtual 205, 3) ∧ decode cX10_readsCondition 35 = .ok (.ifCond .ne 5, 3) ∧ decode cX10_readsCondition 38 = .ok (.iconst 0, 1) ∧ decode cX10_readsCondition 39 = .ok (.ireturn, 1) ∧ decode cX10_readsCondition 40 = .ok (.aload_n 0, 1) ∧ decode cX10_readsCondition 41 = .ok (.invokevirtual 171, 3) := by decide +kernel
theorem zcdX10_readsCondition_44 : decode cX10_readsCondition 44 = .ok (.bipush 33, 2) ∧ decode cX10_readsCondition 46 = .ok (.if_icmp .eq 12, 3) ∧ decode cX10_readsCondition 49 = .ok (.aload_n 0, 1) ∧ decode cX10_readsCondition 50 = .ok (.invokevirtual 171, 3) ∧ decode cX10_readsCondition 53 = .ok (.bipush 40, 2) ∧ decode cX10_readsCondition 55 = .ok (.if_icmp .ne 28, 3) ∧ decode cX10_readsCondition 58 = .ok (.aload_n 0, 1) ∧ decode cX10_readsCondition 59 = .ok (.aload_n 0, 1) := by decide +kernel
theorem zcdX10_readsCondition_60 : decode cX10_readsCondition 60 = .ok (.invokevirtual 171, 3) ∧ decode cX10_readsCondition 63 = .ok (.bipush 33, 2) ∧ decode cX10_readsCondition 65 = .ok (.if_icmp .ne 8, 3) ∧ decode cX10_readsCondition 68 = .ok (.bipush 10, 2) ∧ decode cX10_readsCondition 70 = .ok (.goto 5, 3) ∧ decode cX10_readsCondition 73 = .ok (.bipush 13, 2) ∧ decode cX10_readsCondition 75 = .ok (.invokevirtual 205, 3) ∧ decode cX10_readsCondition 78 = .ok (.ifCond .ne (-38), 3) := by decide +kernel
theorem zcdX10_readsCondition_81 : decode cX10_readsCondition 81 = .ok (.iconst 0, 1) ∧ decode cX10_readsCondition 82 = .ok (.ireturn, 1) ∧ decode cX10_readsCondition 83 = .ok (.aload_n 0, 1) ∧ decode cX10_readsCondition 84 = .ok (.invokevirtual 234, 3) ∧ decode cX10_readsCondition 87 = .ok (.ifCond .ne 5, 3) ∧ decode cX10_readsCondition 90 = .ok (.iconst 0, 1) ∧ decode cX10_readsCondition 91 = .ok (.ireturn, 1) ∧ decode cX10_readsCondition 92 = .ok (.aload_n 0, 1) := by decide +kernel
theorem zcdX10_readsCondition_93 : decode cX10_readsCondition 93 = .ok (.invokevirtual 171, 3) ∧ decode cX10_readsCondition 96 = .ok (.bipush 41, 2) ∧ decode cX10_readsCondition 98 = .ok (.if_icmp .ne 54, 3) ∧ decode cX10_readsCondition 101 = .ok (.aload_n 0, 1) ∧ decode cX10_readsCondition 102 = .ok (.iconst 1, 1) ∧ decode cX10_readsCondition 103 = .ok (.invokevirtual 237, 3) ∧ decode cX10_readsCondition 106 = .ok (.aload_n 0, 1) ∧ decode cX10_readsCondition 107 = .ok (.aload_n 0, 1) := by decide +kernel
theorem zcdX10_readsCondition_108 : decode cX10_readsCondition 108 = .ok (.getfield 195, 3) ∧ decode cX10_readsCondition 111 = .ok (.iconst 1, 1) ∧ decode cX10_readsCondition 112 = .ok (.isub, 1) ∧ decode cX10_readsCondition 113 = .ok (.putfield 195, 3) ∧ decode cX10_readsCondition 116 = .ok (.aload_n 0, 1) ∧ decode cX10_readsCondition 117 = .ok (.aload_n 0, 1) ∧ decode cX10_readsCondition 118 = .ok (.getfield 192, 3) ∧ decode cX10_readsCondition 121 = .ok (.iconst 1, 1) := by decide +kernel
theorem zcdX10_readsCondition_122 : decode cX10_readsCondition 122 = .ok (.isub, 1) ∧ decode cX10_readsCondition 123 = .ok (.putfield 192, 3) ∧ decode cX10_readsCondition 126 = .ok (.aload_n 0, 1) ∧ decode cX10_readsCondition 127 = .ok (.aload_n 0, 1) ∧ decode cX10_readsCondition 128 = .ok (.getfield 165, 3) ∧ decode cX10_readsCondition 131 = .ok (.iconst 1, 1) ∧ decode cX10_readsCondition 132 = .ok (.iadd, 1) ∧ decode cX10_readsCondition 133 = .ok (.putfield 165, 3) := by decide +kernel
theorem zcdX10_readsCondition_136 : decode cX10_readsCondition 136 = .ok (.aload_n 0, 1) ∧ decode cX10_readsCondition 137 = .ok (.getfield 195, 3) ∧ decode cX10_readsCondition 140 = .ok (.ifCond .ne 5, 3) ∧ decode cX10_readsCondition 143 = .ok (.iconst 1, 1) ∧ decode cX10_readsCondition 144 = .ok (.ireturn, 1) ∧ decode cX10_readsCondition 145 = .ok (.aload_n 0, 1) ∧ decode cX10_readsCondition 146 = .ok (.invokevirtual 231, 3) ∧ decode cX10_readsCondition 149 = .ok (.goto (-57), 3) := by decide +kernel
theorem zcdX10_readsCondition_152 : decode cX10_readsCondition 152 = .ok (.aload_n 0, 1) ∧ decode cX10_readsCondition 153 = .ok (.invokevirtual 171, 3) ∧ decode cX10_readsCondition 156 = .ok (.bipush 38, 2) ∧ decode cX10_readsCondition 158 = .ok (.if_icmp .eq 22, 3) ∧ decode cX10_readsCondition 161 = .ok (.aload_n 0, 1) ∧ decode cX10_readsCondition 162 = .ok (.invokevirtual 171, 3) ∧ decode cX10_readsCondition 165 = .ok (.bipush 124, 2) ∧ decode cX10_readsCondition 167 = .ok (.if_icmp .eq 13, 3) := by decide +kernel
theorem zcdX10_readsCondition_170 : decode cX10_readsCondition 170 = .ok (.aload_n 0, 1) ∧ decode cX10_readsCondition 171 = .ok (.iconst 1, 1) ∧ decode cX10_readsCondition 172 = .ok (.aload_n 0, 1) ∧ decode cX10_readsCondition 173 = .ok (.getfield 165, 3) ∧ decode cX10_readsCondition 176 = .ok (.invokevirtual 178, 3) ∧ decode cX10_readsCondition 179 = .ok (.ireturn, 1) ∧ decode cX10_readsCondition 180 = .ok (.aload_n 0, 1) ∧ decode cX10_readsCondition 181 = .ok (.aload_n 0, 1) := by decide +kernel
theorem zcdX10_readsCondition_182 : decode cX10_readsCondition 182 = .ok (.invokevirtual 171, 3) ∧ decode cX10_readsCondition 185 = .ok (.bipush 124, 2) ∧ decode cX10_readsCondition 187 = .ok (.if_icmp .ne 7, 3) ∧ decode cX10_readsCondition 190 = .ok (.iconst 1, 1) ∧ decode cX10_readsCondition 191 = .ok (.goto 4, 3) ∧ decode cX10_readsCondition 194 = .ok (.iconst 0, 1) ∧ decode cX10_readsCondition 195 = .ok (.invokevirtual 237, 3) ∧ decode cX10_readsCondition 198 = .ok (.aload_n 0, 1) := by decide +kernel
theorem zcdX10_readsCondition_199 : decode cX10_readsCondition 199 = .ok (.aload_n 0, 1) ∧ decode cX10_readsCondition 200 = .ok (.invokevirtual 171, 3) ∧ decode cX10_readsCondition 203 = .ok (.bipush 38, 2) ∧ decode cX10_readsCondition 205 = .ok (.if_icmp .ne 8, 3) ∧ decode cX10_readsCondition 208 = .ok (.bipush 11, 2) ∧ decode cX10_readsCondition 210 = .ok (.goto 5, 3) ∧ decode cX10_readsCondition 213 = .ok (.bipush 12, 2) ∧ decode cX10_readsCondition 215 = .ok (.invokevirtual 240, 3) := by decide +kernel
theorem zcdX10_readsCondition_218 : decode cX10_readsCondition 218 = .ok (.goto (-178), 3) ∧ decode cX10_readsRule 0 = .ok (.aload_n 0, 1) ∧ decode cX10_readsRule 1 = .ok (.invokevirtual 171, 3) ∧ decode cX10_readsRule 4 = .ok (.istore_n 1, 1) ∧ decode cX10_readsRule 5 = .ok (.iload_n 1, 1) ∧ decode cX10_readsRule 6 = .ok (.bipush 117, 2) ∧ decode cX10_readsRule 8 = .ok (.if_icmp .eq 37, 3) ∧ decode cX10_readsRule 11 = .ok (.iload_n 1, 1) := by decide +kernel
theorem zcdX10_readsRule_12 : decode cX10_readsRule 12 = .ok (.bipush 100, 2) ∧ decode cX10_readsRule 14 = .ok (.if_icmp .eq 31, 3) ∧ decode cX10_readsRule 17 = .ok (.iload_n 1, 1) ∧ decode cX10_readsRule 18 = .ok (.bipush 111, 2) ∧ decode cX10_readsRule 20 = .ok (.if_icmp .eq 25, 3) ∧ decode cX10_readsRule 23 = .ok (.iload_n 1, 1) ∧ decode cX10_readsRule 24 = .ok (.bipush 98, 2) ∧ decode cX10_readsRule 26 = .ok (.if_icmp .eq 19, 3) := by decide +kernel
theorem zcdX10_readsRule_29 : decode cX10_readsRule 29 = .ok (.iload_n 1, 1) ∧ decode cX10_readsRule 30 = .ok (.bipush 120, 2) ∧ decode cX10_readsRule 32 = .ok (.if_icmp .eq 13, 3) ∧ decode cX10_readsRule 35 = .ok (.aload_n 0, 1) ∧ decode cX10_readsRule 36 = .ok (.iconst 1, 1) ∧ decode cX10_readsRule 37 = .ok (.aload_n 0, 1) ∧ decode cX10_readsRule 38 = .ok (.getfield 165, 3) ∧ decode cX10_readsRule 41 = .ok (.invokevirtual 178, 3) := by decide +kernel
theorem zcdX10_readsRule_44 : decode cX10_readsRule 44 = .ok (.ireturn, 1) ∧ decode cX10_readsRule 45 = .ok (.aload_n 0, 1) ∧ decode cX10_readsRule 46 = .ok (.getfield 243, 3) ∧ decode cX10_readsRule 49 = .ok (.bipush 16, 2) ∧ decode cX10_readsRule 51 = .ok (.if_icmp .ne 13, 3) ∧ decode cX10_readsRule 54 = .ok (.aload_n 0, 1) ∧ decode cX10_readsRule 55 = .ok (.iconst 4, 1) ∧ decode cX10_readsRule 56 = .ok (.aload_n 0, 1) := by decide +kernel
theorem zcdX10_readsRule_57 : decode cX10_readsRule 57 = .ok (.getfield 165, 3) ∧ decode cX10_readsRule 60 = .ok (.invokevirtual 178, 3) ∧ decode cX10_readsRule 63 = .ok (.ireturn, 1) ∧ decode cX10_readsRule 64 = .ok (.aload_n 0, 1) ∧ decode cX10_readsRule 65 = .ok (.getfield 32, 3) ∧ decode cX10_readsRule 68 = .ok (.aload_n 0, 1) ∧ decode cX10_readsRule 69 = .ok (.getfield 243, 3) ∧ decode cX10_readsRule 72 = .ok (.iload_n 1, 1) := by decide +kernel
theorem zcdX10_readsRule_73 : decode cX10_readsRule 73 = .ok (.iastore, 1) ∧ decode cX10_readsRule 74 = .ok (.aload_n 0, 1) ∧ decode cX10_readsRule 75 = .ok (.aload_n 0, 1) ∧ decode cX10_readsRule 76 = .ok (.getfield 165, 3) ∧ decode cX10_readsRule 79 = .ok (.iconst 1, 1) ∧ decode cX10_readsRule 80 = .ok (.iadd, 1) ∧ decode cX10_readsRule 81 = .ok (.putfield 165, 3) ∧ decode cX10_readsRule 84 = .ok (.aload_n 0, 1) := by decide +kernel
theorem zcdX10_readsRule_85 : decode cX10_readsRule 85 = .ok (.getfield 35, 3) ∧ decode cX10_readsRule 88 = .ok (.aload_n 0, 1) ∧ decode cX10_readsRule 89 = .ok (.getfield 243, 3) ∧ decode cX10_readsRule 92 = .ok (.aload_n 0, 1) ∧ decode cX10_readsRule 93 = .ok (.getfield 188, 3) ∧ decode cX10_readsRule 96 = .ok (.iastore, 1) ∧ decode cX10_readsRule 97 = .ok (.aload_n 0, 1) ∧ decode cX10_readsRule 98 = .ok (.iconst 0, 1) := by decide +kernel
theorem zcdX10_readsRule_99 : decode cX10_readsRule 99 = .ok (.putfield 192, 3) ∧ decode cX10_readsRule 102 = .ok (.aload_n 0, 1) ∧ decode cX10_readsRule 103 = .ok (.iconst 0, 1) ∧ decode cX10_readsRule 104 = .ok (.putfield 195, 3) ∧ decode cX10_readsRule 107 = .ok (.iload_n 1, 1) ∧ decode cX10_readsRule 108 = .ok (.bipush 120, 2) ∧ decode cX10_readsRule 110 = .ok (.if_icmp .eq 12, 3) ∧ decode cX10_readsRule 113 = .ok (.aload_n 0, 1) := by decide +kernel
theorem zcdX10_readsRule_114 : decode cX10_readsRule 114 = .ok (.invokevirtual 228, 3) ∧ decode cX10_readsRule 117 = .ok (.ifCond .ne 5, 3) ∧ decode cX10_readsRule 120 = .ok (.iconst 0, 1) ∧ decode cX10_readsRule 121 = .ok (.ireturn, 1) ∧ decode cX10_readsRule 122 = .ok (.aload_n 0, 1) ∧ decode cX10_readsRule 123 = .ok (.getfield 38, 3) ∧ decode cX10_readsRule 126 = .ok (.aload_n 0, 1) ∧ decode cX10_readsRule 127 = .ok (.getfield 243, 3) := by decide +kernel
theorem zcdX10_readsRule_130 : decode cX10_readsRule 130 = .ok (.aload_n 0, 1) ∧ decode cX10_readsRule 131 = .ok (.getfield 188, 3) ∧ decode cX10_readsRule 134 = .ok (.iastore, 1) ∧ decode cX10_readsRule 135 = .ok (.aload_n 0, 1) ∧ decode cX10_readsRule 136 = .ok (.invokevirtual 246, 3) ∧ decode cX10_readsRule 139 = .ok (.ifCond .ne 5, 3) ∧ decode cX10_readsRule 142 = .ok (.iconst 0, 1) ∧ decode cX10_readsRule 143 = .ok (.ireturn, 1) := by decide +kernel
theorem zcdX10_readsRule_144 : decode cX10_readsRule 144 = .ok (.aload_n 0, 1) ∧ decode cX10_readsRule 145 = .ok (.getfield 41, 3) ∧ decode cX10_readsRule 148 = .ok (.aload_n 0, 1) ∧ decode cX10_readsRule 149 = .ok (.getfield 243, 3) ∧ decode cX10_readsRule 152 = .ok (.aload_n 0, 1) ∧ decode cX10_readsRule 153 = .ok (.getfield 188, 3) ∧ decode cX10_readsRule 156 = .ok (.iastore, 1) ∧ decode cX10_readsRule 157 = .ok (.aload_n 0, 1) := by decide +kernel
theorem zcdX10_readsRule_158 : decode cX10_readsRule 158 = .ok (.aload_n 0, 1) ∧ decode cX10_readsRule 159 = .ok (.getfield 243, 3) ∧ decode cX10_readsRule 162 = .ok (.iconst 1, 1) ∧ decode cX10_readsRule 163 = .ok (.iadd, 1) ∧ decode cX10_readsRule 164 = .ok (.putfield 243, 3) ∧ decode cX10_readsRule 167 = .ok (.iconst 1, 1) ∧ decode cX10_readsRule 168 = .ok (.ireturn, 1) ∧ decode cX10_takesSign 0 = .ok (.aload_n 0, 1) := by decide +kernel
theorem zcdX10_takesSign_1 : decode cX10_takesSign 1 = .ok (.invokevirtual 171, 3) ∧ decode cX10_takesSign 4 = .ok (.iload_n 1, 1) ∧ decode cX10_takesSign 5 = .ok (.if_icmp .eq 13, 3) ∧ decode cX10_takesSign 8 = .ok (.aload_n 0, 1) ∧ decode cX10_takesSign 9 = .ok (.iconst 1, 1) ∧ decode cX10_takesSign 10 = .ok (.aload_n 0, 1) ∧ decode cX10_takesSign 11 = .ok (.getfield 165, 3) ∧ decode cX10_takesSign 14 = .ok (.invokevirtual 178, 3) := by decide +kernel
theorem zcdX10_takesSign_17 : decode cX10_takesSign 17 = .ok (.ireturn, 1) ∧ decode cX10_takesSign 18 = .ok (.aload_n 0, 1) ∧ decode cX10_takesSign 19 = .ok (.aload_n 0, 1) ∧ decode cX10_takesSign 20 = .ok (.getfield 165, 3) ∧ decode cX10_takesSign 23 = .ok (.iconst 1, 1) ∧ decode cX10_takesSign 24 = .ok (.iadd, 1) ∧ decode cX10_takesSign 25 = .ok (.putfield 165, 3) ∧ decode cX10_takesSign 28 = .ok (.iconst 1, 1) := by decide +kernel
theorem zcdX10_takesSign_29 : decode cX10_takesSign 29 = .ok (.ireturn, 1) ∧ decode cX10_law 0 = .ok (.iload_n 1, 1) ∧ decode cX10_law 1 = .ok (.iconst 1, 1) ∧ decode cX10_law 2 = .ok (.sipush 240, 3) ∧ decode cX10_law 5 = .ok (.invokestatic 132, 3) ∧ decode cX10_law 8 = .ok (.ifCond .eq 11, 3) ∧ decode cX10_law 11 = .ok (.iload_n 1, 1) ∧ decode cX10_law 12 = .ok (.aload_n 0, 1) := by decide +kernel
theorem zcdX10_law_13 : decode cX10_law 13 = .ok (.getfield 158, 3) ∧ decode cX10_law 16 = .ok (.if_icmp .le 5, 3) ∧ decode cX10_law 19 = .ok (.iconst (-1), 1) ∧ decode cX10_law 20 = .ok (.ireturn, 1) ∧ decode cX10_law 21 = .ok (.aload_n 0, 1) ∧ decode cX10_law 22 = .ok (.iload_n 1, 1) ∧ decode cX10_law 23 = .ok (.invokevirtual 249, 3) ∧ decode cX10_law 26 = .ok (.aload_n 0, 1) := by decide +kernel
theorem zcdX10_law_27 : decode cX10_law 27 = .ok (.invokevirtual 252, 3) ∧ decode cX10_law 30 = .ok (.istore_n 2, 1) ∧ decode cX10_law 31 = .ok (.iload_n 2, 1) ∧ decode cX10_law 32 = .ok (.ifCond .eq 39, 3) ∧ decode cX10_law 35 = .ok (.aload_n 0, 1) ∧ decode cX10_law 36 = .ok (.getfield 165, 3) ∧ decode cX10_law 39 = .ok (.aload_n 0, 1) ∧ decode cX10_law 40 = .ok (.getfield 168, 3) := by decide +kernel
theorem zcdX10_law_43 : decode cX10_law 43 = .ok (.if_icmp .ge 28, 3) ∧ decode cX10_law 46 = .ok (.aload_n 0, 1) ∧ decode cX10_law 47 = .ok (.bipush 59, 2) ∧ decode cX10_law 49 = .ok (.invokevirtual 255, 3) ∧ decode cX10_law 52 = .ok (.ifCond .eq 14, 3) ∧ decode cX10_law 55 = .ok (.aload_n 0, 1) ∧ decode cX10_law 56 = .ok (.invokevirtual 252, 3) ∧ decode cX10_law 59 = .ok (.ifCond .eq 7, 3) := by decide +kernel
theorem zcdX10_law_62 : decode cX10_law 62 = .ok (.iconst 1, 1) ∧ decode cX10_law 63 = .ok (.goto 4, 3) ∧ decode cX10_law 66 = .ok (.iconst 0, 1) ∧ decode cX10_law 67 = .ok (.istore_n 2, 1) ∧ decode cX10_law 68 = .ok (.goto (-37), 3) ∧ decode cX10_law 71 = .ok (.aload_n 0, 1) ∧ decode cX10_law 72 = .ok (.iconst 0, 1) ∧ decode cX10_law 73 = .ok (.putfield 158, 3) := by decide +kernel
theorem zcdX10_law_76 : decode cX10_law 76 = .ok (.iload_n 2, 1) ∧ decode cX10_law 77 = .ok (.ifCond .ne 8, 3) ∧ decode cX10_law 80 = .ok (.aload_n 0, 1) ∧ decode cX10_law 81 = .ok (.getfield 175, 3) ∧ decode cX10_law 84 = .ok (.ireturn, 1) ∧ decode cX10_law 85 = .ok (.aload_n 0, 1) ∧ decode cX10_law 86 = .ok (.aload_n 0, 1) ∧ decode cX10_law 87 = .ok (.getfield 243, 3) := by decide +kernel
theorem zcdX10_law_90 : decode cX10_law 90 = .ok (.putfield 258, 3) ∧ decode cX10_law 93 = .ok (.iconst 0, 1) ∧ decode cX10_law 94 = .ok (.istore_n 3, 1) ∧ decode cX10_law 95 = .ok (.iload_n 3, 1) ∧ decode cX10_law 96 = .ok (.aload_n 0, 1) ∧ decode cX10_law 97 = .ok (.getfield 188, 3) ∧ decode cX10_law 100 = .ok (.if_icmp .ge 21, 3) ∧ decode cX10_law 103 = .ok (.aload_n 0, 1) := by decide +kernel
theorem zcdX10_law_104 : decode cX10_law 104 = .ok (.getfield 44, 3) ∧ decode cX10_law 107 = .ok (.iload_n 3, 1) ∧ decode cX10_law 108 = .ok (.aload_n 0, 1) ∧ decode cX10_law 109 = .ok (.getfield 26, 3) ∧ decode cX10_law 112 = .ok (.iload_n 3, 1) ∧ decode cX10_law 113 = .ok (.iaload, 1) ∧ decode cX10_law 114 = .ok (.iastore, 1) ∧ decode cX10_law 115 = .ok (.iinc 3 1, 3) := by decide +kernel
theorem zcdX10_law_118 : decode cX10_law 118 = .ok (.goto (-23), 3) ∧ decode cX10_law 121 = .ok (.iconst 0, 1) ∧ decode cX10_law 122 = .ok (.istore_n 3, 1) ∧ decode cX10_law 123 = .ok (.iload_n 3, 1) ∧ decode cX10_law 124 = .ok (.aload_n 0, 1) ∧ decode cX10_law 125 = .ok (.getfield 243, 3) ∧ decode cX10_law 128 = .ok (.if_icmp .ge 57, 3) ∧ decode cX10_law 131 = .ok (.aload_n 0, 1) := by decide +kernel
theorem zcdX10_law_132 : decode cX10_law 132 = .ok (.getfield 47, 3) ∧ decode cX10_law 135 = .ok (.iload_n 3, 1) ∧ decode cX10_law 136 = .ok (.aload_n 0, 1) ∧ decode cX10_law 137 = .ok (.getfield 32, 3) ∧ decode cX10_law 140 = .ok (.iload_n 3, 1) ∧ decode cX10_law 141 = .ok (.iaload, 1) ∧ decode cX10_law 142 = .ok (.iastore, 1) ∧ decode cX10_law 143 = .ok (.aload_n 0, 1) := by decide +kernel
theorem zcdX10_law_144 : decode cX10_law 144 = .ok (.getfield 50, 3) ∧ decode cX10_law 147 = .ok (.iload_n 3, 1) ∧ decode cX10_law 148 = .ok (.aload_n 0, 1) ∧ decode cX10_law 149 = .ok (.getfield 35, 3) ∧ decode cX10_law 152 = .ok (.iload_n 3, 1) ∧ decode cX10_law 153 = .ok (.iaload, 1) ∧ decode cX10_law 154 = .ok (.iastore, 1) ∧ decode cX10_law 155 = .ok (.aload_n 0, 1) := by decide +kernel
theorem zcdX10_law_156 : decode cX10_law 156 = .ok (.getfield 53, 3) ∧ decode cX10_law 159 = .ok (.iload_n 3, 1) ∧ decode cX10_law 160 = .ok (.aload_n 0, 1) ∧ decode cX10_law 161 = .ok (.getfield 38, 3) ∧ decode cX10_law 164 = .ok (.iload_n 3, 1) ∧ decode cX10_law 165 = .ok (.iaload, 1) ∧ decode cX10_law 166 = .ok (.iastore, 1) ∧ decode cX10_law 167 = .ok (.aload_n 0, 1) := by decide +kernel
theorem zcdX10_law_168 : decode cX10_law 168 = .ok (.getfield 56, 3) ∧ decode cX10_law 171 = .ok (.iload_n 3, 1) ∧ decode cX10_law 172 = .ok (.aload_n 0, 1) ∧ decode cX10_law 173 = .ok (.getfield 41, 3) ∧ decode cX10_law 176 = .ok (.iload_n 3, 1) ∧ decode cX10_law 177 = .ok (.iaload, 1) ∧ decode cX10_law 178 = .ok (.iastore, 1) ∧ decode cX10_law 179 = .ok (.iinc 3 1, 3) := by decide +kernel
theorem zcdX10_law_182 : decode cX10_law 182 = .ok (.goto (-59), 3) ∧ decode cX10_law 185 = .ok (.aload_n 0, 1) ∧ decode cX10_law 186 = .ok (.getfield 243, 3) ∧ decode cX10_law 189 = .ok (.ireturn, 1) ∧ decode cX10_laysStone 0 = .ok (.aload_n 0, 1) ∧ decode cX10_laysStone 1 = .ok (.getfield 7, 3) ∧ decode cX10_laysStone 4 = .ok (.iconst 0, 1) ∧ decode cX10_laysStone 5 = .ok (.iload_n 1, 1) := by decide +kernel
theorem zcdX10_laysStone_6 : decode cX10_laysStone 6 = .ok (.iadd, 1) ∧ decode cX10_laysStone 7 = .ok (.iconst 1, 1) ∧ decode cX10_laysStone 8 = .ok (.iastore, 1) ∧ decode cX10_laysStone 9 = .ok (.aload_n 0, 1) ∧ decode cX10_laysStone 10 = .ok (.getfield 7, 3) ∧ decode cX10_laysStone 13 = .ok (.bipush 40, 2) ∧ decode cX10_laysStone 15 = .ok (.iload_n 1, 1) ∧ decode cX10_laysStone 16 = .ok (.iadd, 1) := by decide +kernel
theorem zcdX10_laysStone_17 : decode cX10_laysStone 17 = .ok (.iload_n 2, 1) ∧ decode cX10_laysStone 18 = .ok (.iastore, 1) ∧ decode cX10_laysStone 19 = .ok (.aload_n 0, 1) ∧ decode cX10_laysStone 20 = .ok (.getfield 7, 3) ∧ decode cX10_laysStone 23 = .ok (.bipush 80, 2) ∧ decode cX10_laysStone 25 = .ok (.iload_n 1, 1) ∧ decode cX10_laysStone 26 = .ok (.iadd, 1) ∧ decode cX10_laysStone 27 = .ok (.iload_n 3, 1) := by decide +kernel
theorem zcdX10_laysStone_28 : decode cX10_laysStone 28 = .ok (.iastore, 1) ∧ decode cX10_laysStone 29 = .ok (.aload_n 0, 1) ∧ decode cX10_laysStone 30 = .ok (.getfield 7, 3) ∧ decode cX10_laysStone 33 = .ok (.bipush 120, 2) ∧ decode cX10_laysStone 35 = .ok (.iload_n 1, 1) ∧ decode cX10_laysStone 36 = .ok (.iadd, 1) ∧ decode cX10_laysStone 37 = .ok (.iload 4, 2) ∧ decode cX10_laysStone 39 = .ok (.iastore, 1) := by decide +kernel
theorem zcdX10_laysStone_40 : decode cX10_laysStone 40 = .ok (.aload_n 0, 1) ∧ decode cX10_laysStone 41 = .ok (.getfield 7, 3) ∧ decode cX10_laysStone 44 = .ok (.sipush 160, 3) ∧ decode cX10_laysStone 47 = .ok (.iload_n 1, 1) ∧ decode cX10_laysStone 48 = .ok (.iadd, 1) ∧ decode cX10_laysStone 49 = .ok (.iload 5, 2) ∧ decode cX10_laysStone 51 = .ok (.iastore, 1) ∧ decode cX10_laysStone 52 = .ok (.return_, 1) := by decide +kernel
theorem zcdX10_leastStride_0 : decode cX10_leastStride 0 = .ok (.iconst 1, 1) ∧ decode cX10_leastStride 1 = .ok (.istore_n 1, 1) ∧ decode cX10_leastStride 2 = .ok (.iload_n 1, 1) ∧ decode cX10_leastStride 3 = .ok (.bipush 30, 2) ∧ decode cX10_leastStride 5 = .ok (.if_icmp .gt 20, 3) ∧ decode cX10_leastStride 8 = .ok (.aload_n 0, 1) ∧ decode cX10_leastStride 9 = .ok (.iload_n 1, 1) ∧ decode cX10_leastStride 10 = .ok (.invokevirtual 337, 3) := by decide +kernel
theorem zcdX10_leastStride_13 : decode cX10_leastStride 13 = .ok (.iconst (-1), 1) ∧ decode cX10_leastStride 14 = .ok (.if_icmp .eq 5, 3) ∧ decode cX10_leastStride 17 = .ok (.iload_n 1, 1) ∧ decode cX10_leastStride 18 = .ok (.ireturn, 1) ∧ decode cX10_leastStride 19 = .ok (.iinc 1 1, 3) ∧ decode cX10_leastStride 22 = .ok (.goto (-20), 3) ∧ decode cX10_leastStride 25 = .ok (.bipush (-2), 2) ∧ decode cX10_leastStride 27 = .ok (.ireturn, 1) := by decide +kernel
theorem zcdX10_letters_0 : decode cX10_letters 0 = .ok (.iload_n 1, 1) ∧ decode cX10_letters 1 = .ok (.iconst 1, 1) ∧ decode cX10_letters 2 = .ok (.bipush 8, 2) ∧ decode cX10_letters 4 = .ok (.invokestatic 132, 3) ∧ decode cX10_letters 7 = .ok (.ifCond .eq 20, 3) ∧ decode cX10_letters 10 = .ok (.iload_n 2, 1) ∧ decode cX10_letters 11 = .ok (.iconst 0, 1) ∧ decode cX10_letters 12 = .ok (.iconst 1, 1) := by decide +kernel
theorem zcdX10_letters_13 : decode cX10_letters 13 = .ok (.invokestatic 132, 3) ∧ decode cX10_letters 16 = .ok (.ifCond .eq 11, 3) ∧ decode cX10_letters 19 = .ok (.iload_n 1, 1) ∧ decode cX10_letters 20 = .ok (.aload_n 0, 1) ∧ decode cX10_letters 21 = .ok (.getfield 158, 3) ∧ decode cX10_letters 24 = .ok (.if_icmp .le 5, 3) ∧ decode cX10_letters 27 = .ok (.iconst (-1), 1) ∧ decode cX10_letters 28 = .ok (.ireturn, 1) := by decide +kernel
theorem zcdX10_letters_29 : decode cX10_letters 29 = .ok (.aload_n 0, 1) ∧ decode cX10_letters 30 = .ok (.iconst 0, 1) ∧ decode cX10_letters 31 = .ok (.putfield 158, 3) ∧ decode cX10_letters 34 = .ok (.iconst 0, 1) ∧ decode cX10_letters 35 = .ok (.istore_n 3, 1) ∧ decode cX10_letters 36 = .ok (.iload_n 3, 1) ∧ decode cX10_letters 37 = .ok (.iload_n 1, 1) ∧ decode cX10_letters 38 = .ok (.if_icmp .ge 20, 3) := by decide +kernel
theorem zcdX10_letters_41 : decode cX10_letters 41 = .ok (.aload_n 0, 1) ∧ decode cX10_letters 42 = .ok (.iload_n 3, 1) ∧ decode cX10_letters 43 = .ok (.invokevirtual 377, 3) ∧ decode cX10_letters 46 = .ok (.ifCond .ne 6, 3) ∧ decode cX10_letters 49 = .ok (.bipush (-2), 2) ∧ decode cX10_letters 51 = .ok (.ireturn, 1) ∧ decode cX10_letters 52 = .ok (.iinc 3 1, 3) ∧ decode cX10_letters 55 = .ok (.goto (-19), 3) := by decide +kernel
theorem zcdX10_letters_58 : decode cX10_letters 58 = .ok (.iconst 0, 1) ∧ decode cX10_letters 59 = .ok (.istore_n 3, 1) ∧ decode cX10_letters 60 = .ok (.ldc_w 343, 3) ∧ decode cX10_letters 63 = .ok (.istore 4, 2) ∧ decode cX10_letters 65 = .ok (.iconst 1, 1) ∧ decode cX10_letters 66 = .ok (.istore 5, 2) ∧ decode cX10_letters 68 = .ok (.iload 5, 2) ∧ decode cX10_letters 70 = .ok (.iconst 1, 1) := by decide +kernel
theorem zcdX10_letters_71 : decode cX10_letters 71 = .ok (.iload_n 1, 1) ∧ decode cX10_letters 72 = .ok (.ishl, 1) ∧ decode cX10_letters 73 = .ok (.if_icmp .ge 84, 3) ∧ decode cX10_letters 76 = .ok (.iconst 0, 1) ∧ decode cX10_letters 77 = .ok (.istore 6, 2) ∧ decode cX10_letters 79 = .ok (.iconst 0, 1) ∧ decode cX10_letters 80 = .ok (.istore 7, 2) ∧ decode cX10_letters 82 = .ok (.iload 7, 2) := by decide +kernel
theorem zcdX10_letters_84 : decode cX10_letters 84 = .ok (.iload_n 1, 1) ∧ decode cX10_letters 85 = .ok (.if_icmp .ge 40, 3) ∧ decode cX10_letters 88 = .ok (.iload 6, 2) ∧ decode cX10_letters 90 = .ok (.iload 5, 2) ∧ decode cX10_letters 92 = .ok (.iload 7, 2) ∧ decode cX10_letters 94 = .ok (.invokestatic 140, 3) ∧ decode cX10_letters 97 = .ok (.ifCond .eq 12, 3) ∧ decode cX10_letters 100 = .ok (.aload_n 0, 1) := by decide +kernel
theorem zcdX10_letters_101 : decode cX10_letters 101 = .ok (.iload 7, 2) ∧ decode cX10_letters 103 = .ok (.invokevirtual 377, 3) ∧ decode cX10_letters 106 = .ok (.goto 10, 3) ∧ decode cX10_letters 109 = .ok (.aload_n 0, 1) ∧ decode cX10_letters 110 = .ok (.iload 7, 2) ∧ decode cX10_letters 112 = .ok (.invokevirtual 377, 3) ∧ decode cX10_letters 115 = .ok (.ineg, 1) ∧ decode cX10_letters 116 = .ok (.iadd, 1) := by decide +kernel
theorem zcdX10_letters_117 : decode cX10_letters 117 = .ok (.istore 6, 2) ∧ decode cX10_letters 119 = .ok (.iinc 7 1, 3) ∧ decode cX10_letters 122 = .ok (.goto (-40), 3) ∧ decode cX10_letters 125 = .ok (.iload 6, 2) ∧ decode cX10_letters 127 = .ok (.invokestatic 380, 3) ∧ decode cX10_letters 130 = .ok (.iload 4, 2) ∧ decode cX10_letters 132 = .ok (.if_icmp .lt 6, 3) ∧ decode cX10_letters 135 = .ok (.goto 13, 3) := by decide +kernel
theorem zcdX10_letters_138 : decode cX10_letters 138 = .ok (.iload 6, 2) ∧ decode cX10_letters 140 = .ok (.invokestatic 380, 3) ∧ decode cX10_letters 143 = .ok (.istore 4, 2) ∧ decode cX10_letters 145 = .ok (.iload 5, 2) ∧ decode cX10_letters 147 = .ok (.istore_n 3, 1) ∧ decode cX10_letters 148 = .ok (.iload 5, 2) ∧ decode cX10_letters 150 = .ok (.iconst 2, 1) ∧ decode cX10_letters 151 = .ok (.iadd, 1) := by decide +kernel
theorem zcdX10_letters_152 : decode cX10_letters 152 = .ok (.istore 5, 2) ∧ decode cX10_letters 154 = .ok (.goto (-86), 3) ∧ decode cX10_letters 157 = .ok (.iload_n 2, 1) ∧ decode cX10_letters 158 = .ok (.ifCond .ne 8, 3) ∧ decode cX10_letters 161 = .ok (.iload 4, 2) ∧ decode cX10_letters 163 = .ok (.goto 4, 3) ∧ decode cX10_letters 166 = .ok (.iload_n 3, 1) ∧ decode cX10_letters 167 = .ok (.ireturn, 1) := by decide +kernel
theorem zcdX10_market_0 : decode cX10_market 0 = .ok (.iconst 0, 1) ∧ decode cX10_market 1 = .ok (.istore_n 1, 1) ∧ decode cX10_market 2 = .ok (.iconst 0, 1) ∧ decode cX10_market 3 = .ok (.istore_n 2, 1) ∧ decode cX10_market 4 = .ok (.iload_n 2, 1) ∧ decode cX10_market 5 = .ok (.bipush 8, 2) ∧ decode cX10_market 7 = .ok (.if_icmp .ge 37, 3) ∧ decode cX10_market 10 = .ok (.aload_n 0, 1) := by decide +kernel
theorem zcdX10_market_11 : decode cX10_market 11 = .ok (.iload_n 2, 1) ∧ decode cX10_market 12 = .ok (.invokevirtual 334, 3) ∧ decode cX10_market 15 = .ok (.ifCond .eq 23, 3) ∧ decode cX10_market 18 = .ok (.aload_n 0, 1) ∧ decode cX10_market 19 = .ok (.aload_n 0, 1) ∧ decode cX10_market 20 = .ok (.getfield 19, 3) ∧ decode cX10_market 23 = .ok (.iload_n 2, 1) ∧ decode cX10_market 24 = .ok (.iaload, 1) := by decide +kernel
theorem zcdX10_market_25 : decode cX10_market 25 = .ok (.invokevirtual 337, 3) ∧ decode cX10_market 28 = .ok (.iconst (-1), 1) ∧ decode cX10_market 29 = .ok (.if_icmp .eq 9, 3) ∧ decode cX10_market 32 = .ok (.iload_n 1, 1) ∧ decode cX10_market 33 = .ok (.iconst 1, 1) ∧ decode cX10_market 34 = .ok (.iload_n 2, 1) ∧ decode cX10_market 35 = .ok (.ishl, 1) ∧ decode cX10_market 36 = .ok (.ior, 1) := by decide +kernel
theorem zcdX10_market_37 : decode cX10_market 37 = .ok (.istore_n 1, 1) ∧ decode cX10_market 38 = .ok (.iinc 2 1, 3) ∧ decode cX10_market 41 = .ok (.goto (-37), 3) ∧ decode cX10_market 44 = .ok (.iload_n 1, 1) ∧ decode cX10_market 45 = .ok (.ireturn, 1) := by decide +kernel
set_option maxHeartbeats 4000000 in
theorem t_X10_readsCondition (M : Mem) : AXi yX10_readsCondition cX10_readsCondition 1 (some .boolean) 6 39 glM (fun ad => [.ref (ad 0)]) M (f_X10_readsCondition M) := by
  intro r0 h
  refine AM.of (by decide) (fun _ => Nat.le_of_ble_eq_true rfl) (fun X ad cI cZ cB hX hR => ?_)
  show V X M [(0, .ref (ad 0))] [] 0
  refine s_aload_n (k := 0) hX zcdX10_readsCondition_0.1 rfl rfl ?_
  refine e_callVp hX (t_X10_here M) mX10_here lX10_171 (by decide) (by decide) oM0 rfl rfl rfl rfl rfl (Nat.le_of_ble_eq_true rfl) zcdX10_readsCondition_0.2.1 h (fun r_1 h => ?_)
  refine s_bipush (v := (nI 40)) hX zcdX10_readsCondition_0.2.2.1 (by decide) ?_
  refine e_icmp_eq (tgt := 19) hX zcdX10_readsCondition_0.2.2.2.1 (by decide) (m_eq (by decide +kernel)) h (fun h => ?_) (fun h => ?_)
  · refine s_aload_n (k := 0) hX zcdX10_readsCondition_15.2.2.1 rfl rfl ?_
    refine s_iconst (v := (nI 0)) hX zcdX10_readsCondition_15.2.2.2.1 (by decide) ?_
    refine s_puti (ty := .int) hX fX10_192 oM0 rfl (Nat.le_of_ble_eq_true rfl) ty_10_11 rfl rfl zcdX10_readsCondition_15.2.2.2.2.1 ?_
    refine e_bndM h (fun M_2 h => ?_)
    refine s_aload_n (k := 0) hX zcdX10_readsCondition_15.2.2.2.2.2.1 rfl rfl ?_
    refine s_iconst (v := (nI 0)) hX zcdX10_readsCondition_15.2.2.2.2.2.2.1 (by decide) ?_
    refine s_puti (ty := .int) hX fX10_195 oM0 rfl (Nat.le_of_ble_eq_true rfl) ty_10_13 rfl rfl zcdX10_readsCondition_15.2.2.2.2.2.2.2 ?_
    refine e_bndM h (fun M_3 h => ?_)
    refine s_aload_n (k := 0) hX zcdX10_readsCondition_29.1 rfl rfl ?_
    refine s_bipush (v := (nI 13)) hX zcdX10_readsCondition_29.2.1 (by decide) ?_
    refine e_callVi hX (t_X10_opens (nI 13) M_3) mX10_opens lX10_205 (by decide) (by decide) oM0 rfl rfl rfl rfl rfl (Nat.le_of_ble_eq_true rfl) zcdX10_readsCondition_29.2.2.1 h (fun r_4 M_5 h => ?_)
    refine e_if_ne (tgt := 40) hX zcdX10_readsCondition_29.2.2.2.1 (by decide) z_eq h (fun h => ?_) (fun h => ?_)
    · have lp40 : ∀ (N40 : Nat) (M40 : Mem), wlp1 f_X10_readsCondition_B40 N40 M40 = some r0 → V X M40 [(0, .ref (ad 0))] [] 40 := by
        intro N40
        induction N40 with
        | zero => exact fun _ h => e_none h
        | succ N40 ih40 =>
          intro M40 h
          replace h : f_X10_readsCondition_B40 (wlp1 f_X10_readsCondition_B40 N40) M40 = some r0 := h
          generalize wlp1 f_X10_readsCondition_B40 N40 = ag40 at ih40 h
          refine s_aload_n (k := 0) hX zcdX10_readsCondition_29.2.2.2.2.2.2.1 rfl rfl ?_
          refine e_callVp hX (t_X10_here M40) mX10_here lX10_171 (by decide) (by decide) oM0 rfl rfl rfl rfl rfl (Nat.le_of_ble_eq_true rfl) zcdX10_readsCondition_29.2.2.2.2.2.2.2 h (fun r_6 h => ?_)
          refine s_bipush (v := (nI 33)) hX zcdX10_readsCondition_44.1 (by decide) ?_
          have j58 : f_X10_readsCondition_L58 ag40 M40 = some r0 → V X M40 [(0, .ref (ad 0))] [] 58 := by
            intro  h
            refine s_aload_n (k := 0) hX zcdX10_readsCondition_44.2.2.2.2.2.2.1 rfl rfl ?_
            refine s_aload_n (k := 0) hX zcdX10_readsCondition_44.2.2.2.2.2.2.2 rfl rfl ?_
            refine e_callVp hX (t_X10_here M40) mX10_here lX10_171 (by decide) (by decide) oM0 rfl rfl rfl rfl rfl (Nat.le_of_ble_eq_true rfl) zcdX10_readsCondition_60.1 h (fun r_7 h => ?_)
            refine s_bipush (v := (nI 33)) hX zcdX10_readsCondition_60.2.1 (by decide) ?_
            have j75 : ∀ (t0_75 : Int32), f_X10_readsCondition_L75 ag40 M40 t0_75 = some r0 → V X M40 [(0, .ref (ad 0))] [.int t0_75, .ref (ad 0)] 75 := by
              intro t0_75 h
              refine e_callVi hX (t_X10_opens t0_75 M40) mX10_opens lX10_205 (by decide) (by decide) oM0 rfl rfl rfl rfl rfl (Nat.le_of_ble_eq_true rfl) zcdX10_readsCondition_60.2.2.2.2.2.2.1 h (fun r_8 M_9 h => ?_)
              refine e_if_ne (tgt := 40) hX zcdX10_readsCondition_60.2.2.2.2.2.2.2 (by decide) z_eq h (fun h => ?_) (fun h => ?_)
              · exact ih40 M_9 h
              · refine s_iconst (v := (nI 0)) hX zcdX10_readsCondition_81.1 (by decide) ?_
                exact e_zretiL hX hR zcdX10_readsCondition_81.2.1 (by decide) h
            refine e_icmp_ne (tgt := 73) hX zcdX10_readsCondition_60.2.2.1 (by decide) (m_eq (by decide +kernel)) h (fun h => ?_) (fun h => ?_)
            · refine s_bipush (v := (nI 13)) hX zcdX10_readsCondition_60.2.2.2.2.2.1 (by decide) ?_
              exact j75 (nI 13) h
            · refine s_bipush (v := (nI 10)) hX zcdX10_readsCondition_60.2.2.2.1 (by decide) ?_
              refine s_goto (tgt := 75) hX zcdX10_readsCondition_60.2.2.2.2.1 (by decide) ?_
              exact j75 (nI 10) h
          refine e_icmp_eq (tgt := 58) hX zcdX10_readsCondition_44.2.1 (by decide) (m_eq (by decide +kernel)) h (fun h => ?_) (fun h => ?_)
          · exact j58 h
          · refine s_aload_n (k := 0) hX zcdX10_readsCondition_44.2.2.1 rfl rfl ?_
            refine e_callVp hX (t_X10_here M40) mX10_here lX10_171 (by decide) (by decide) oM0 rfl rfl rfl rfl rfl (Nat.le_of_ble_eq_true rfl) zcdX10_readsCondition_44.2.2.2.1 h (fun r_10 h => ?_)
            refine s_bipush (v := (nI 40)) hX zcdX10_readsCondition_44.2.2.2.2.1 (by decide) ?_
            refine e_icmp_ne (tgt := 83) hX zcdX10_readsCondition_44.2.2.2.2.2.1 (by decide) (m_eq (by decide +kernel)) h (fun h => ?_) (fun h => ?_)
            · refine s_aload_n (k := 0) hX zcdX10_readsCondition_81.2.2.1 rfl rfl ?_
              refine e_callVi hX (t_X10_readsCompared M40) mX10_readsCompared lX10_234 (by decide) (by decide) oM0 rfl rfl rfl rfl rfl (Nat.le_of_ble_eq_true rfl) zcdX10_readsCondition_81.2.2.2.1 h (fun r_11 M_12 h => ?_)
              refine e_if_ne (tgt := 92) hX zcdX10_readsCondition_81.2.2.2.2.1 (by decide) z_eq h (fun h => ?_) (fun h => ?_)
              · have lp92 : ∀ (N92 : Nat) (M92 : Mem), wlp1 (f_X10_readsCondition_B92 ag40) N92 M92 = some r0 → V X M92 [(0, .ref (ad 0))] [] 92 := by
                  intro N92
                  induction N92 with
                  | zero => exact fun _ h => e_none h
                  | succ N92 ih92 =>
                    intro M92 h
                    replace h : f_X10_readsCondition_B92 ag40 (wlp1 (f_X10_readsCondition_B92 ag40) N92) M92 = some r0 := h
                    generalize wlp1 (f_X10_readsCondition_B92 ag40) N92 = ag92 at ih92 h
                    refine s_aload_n (k := 0) hX zcdX10_readsCondition_81.2.2.2.2.2.2.2 rfl rfl ?_
                    refine e_callVp hX (t_X10_here M92) mX10_here lX10_171 (by decide) (by decide) oM0 rfl rfl rfl rfl rfl (Nat.le_of_ble_eq_true rfl) zcdX10_readsCondition_93.1 h (fun r_13 h => ?_)
                    refine s_bipush (v := (nI 41)) hX zcdX10_readsCondition_93.2.1 (by decide) ?_
                    have j152 : f_X10_readsCondition_L152 ag40 M92 = some r0 → V X M92 [(0, .ref (ad 0))] [] 152 := by
                      intro  h
                      refine s_aload_n (k := 0) hX zcdX10_readsCondition_152.1 rfl rfl ?_
                      refine e_callVp hX (t_X10_here M92) mX10_here lX10_171 (by decide) (by decide) oM0 rfl rfl rfl rfl rfl (Nat.le_of_ble_eq_true rfl) zcdX10_readsCondition_152.2.1 h (fun r_14 h => ?_)
                      refine s_bipush (v := (nI 38)) hX zcdX10_readsCondition_152.2.2.1 (by decide) ?_
                      have j180 : f_X10_readsCondition_L180 ag40 M92 = some r0 → V X M92 [(0, .ref (ad 0))] [] 180 := by
                        intro  h
                        refine s_aload_n (k := 0) hX zcdX10_readsCondition_170.2.2.2.2.2.2.1 rfl rfl ?_
                        refine s_aload_n (k := 0) hX zcdX10_readsCondition_170.2.2.2.2.2.2.2 rfl rfl ?_
                        refine e_callVp hX (t_X10_here M92) mX10_here lX10_171 (by decide) (by decide) oM0 rfl rfl rfl rfl rfl (Nat.le_of_ble_eq_true rfl) zcdX10_readsCondition_182.1 h (fun r_15 h => ?_)
                        refine s_bipush (v := (nI 124)) hX zcdX10_readsCondition_182.2.1 (by decide) ?_
                        have j195 : ∀ (t0_195 : Int32), f_X10_readsCondition_L195 ag40 M92 t0_195 = some r0 → V X M92 [(0, .ref (ad 0))] [.int t0_195, .ref (ad 0)] 195 := by
                          intro t0_195 h
                          refine e_callVv hX (t_X10_lands t0_195 M92) mX10_lands lX10_237 (by decide) (by decide) oM0 rfl rfl rfl rfl rfl (Nat.le_of_ble_eq_true rfl) zcdX10_readsCondition_182.2.2.2.2.2.2.1 h (fun M_16 h => ?_)
                          refine s_aload_n (k := 0) hX zcdX10_readsCondition_182.2.2.2.2.2.2.2 rfl rfl ?_
                          refine s_aload_n (k := 0) hX zcdX10_readsCondition_199.1 rfl rfl ?_
                          refine e_callVp hX (t_X10_here M_16) mX10_here lX10_171 (by decide) (by decide) oM0 rfl rfl rfl rfl rfl (Nat.le_of_ble_eq_true rfl) zcdX10_readsCondition_199.2.1 h (fun r_17 h => ?_)
                          refine s_bipush (v := (nI 38)) hX zcdX10_readsCondition_199.2.2.1 (by decide) ?_
                          have j215 : ∀ (t0_215 : Int32), f_X10_readsCondition_L215 ag40 M_16 t0_215 = some r0 → V X M_16 [(0, .ref (ad 0))] [.int t0_215, .ref (ad 0)] 215 := by
                            intro t0_215 h
                            refine e_callVv hX (t_X10_jumps t0_215 M_16) mX10_jumps lX10_240 (by decide) (by decide) oM0 rfl rfl rfl rfl rfl (Nat.le_of_ble_eq_true rfl) zcdX10_readsCondition_199.2.2.2.2.2.2.2 h (fun M_18 h => ?_)
                            refine s_goto (tgt := 40) hX zcdX10_readsCondition_218.1 (by decide) ?_
                            exact ih40 M_18 h
                          refine e_icmp_ne (tgt := 213) hX zcdX10_readsCondition_199.2.2.2.1 (by decide) (m_eq (by decide +kernel)) h (fun h => ?_) (fun h => ?_)
                          · refine s_bipush (v := (nI 12)) hX zcdX10_readsCondition_199.2.2.2.2.2.2.1 (by decide) ?_
                            exact j215 (nI 12) h
                          · refine s_bipush (v := (nI 11)) hX zcdX10_readsCondition_199.2.2.2.2.1 (by decide) ?_
                            refine s_goto (tgt := 215) hX zcdX10_readsCondition_199.2.2.2.2.2.1 (by decide) ?_
                            exact j215 (nI 11) h
                        refine e_icmp_ne (tgt := 194) hX zcdX10_readsCondition_182.2.2.1 (by decide) (m_eq (by decide +kernel)) h (fun h => ?_) (fun h => ?_)
                        · refine s_iconst (v := (nI 0)) hX zcdX10_readsCondition_182.2.2.2.2.2.1 (by decide) ?_
                          exact j195 (nI 0) h
                        · refine s_iconst (v := (nI 1)) hX zcdX10_readsCondition_182.2.2.2.1 (by decide) ?_
                          refine s_goto (tgt := 195) hX zcdX10_readsCondition_182.2.2.2.2.1 (by decide) ?_
                          exact j195 (nI 1) h
                      refine e_icmp_eq (tgt := 180) hX zcdX10_readsCondition_152.2.2.2.1 (by decide) (m_eq (by decide +kernel)) h (fun h => ?_) (fun h => ?_)
                      · exact j180 h
                      · refine s_aload_n (k := 0) hX zcdX10_readsCondition_152.2.2.2.2.1 rfl rfl ?_
                        refine e_callVp hX (t_X10_here M92) mX10_here lX10_171 (by decide) (by decide) oM0 rfl rfl rfl rfl rfl (Nat.le_of_ble_eq_true rfl) zcdX10_readsCondition_152.2.2.2.2.2.1 h (fun r_19 h => ?_)
                        refine s_bipush (v := (nI 124)) hX zcdX10_readsCondition_152.2.2.2.2.2.2.1 (by decide) ?_
                        have j170 : f_X10_readsCondition_L170 M92 = some r0 → V X M92 [(0, .ref (ad 0))] [] 170 := by
                          intro  h
                          refine s_aload_n (k := 0) hX zcdX10_readsCondition_170.1 rfl rfl ?_
                          refine s_iconst (v := (nI 1)) hX zcdX10_readsCondition_170.2.1 (by decide) ?_
                          refine s_aload_n (k := 0) hX zcdX10_readsCondition_170.2.2.1 rfl rfl ?_
                          refine s_get hX fX10_165 oM0 rfl zcdX10_readsCondition_170.2.2.2.1 ?_
                          refine e_callVi hX (t_X10_wrongAt (nI 1) (M92 0 7) M92) mX10_wrongAt lX10_178 (by decide) (by decide) oM0 rfl rfl rfl rfl rfl (Nat.le_of_ble_eq_true rfl) zcdX10_readsCondition_170.2.2.2.2.1 h (fun r_20 M_21 h => ?_)
                          exact e_zreti hX hR zcdX10_readsCondition_170.2.2.2.2.2.1 h
                        refine e_icmp_eq (tgt := 180) hX zcdX10_readsCondition_152.2.2.2.2.2.2.2 (by decide) (m_eq (by decide +kernel)) h (fun h => ?_) (fun h => ?_)
                        · exact j180 h
                        · exact j170 h
                    refine e_icmp_ne (tgt := 152) hX zcdX10_readsCondition_93.2.2.1 (by decide) (m_eq (by decide +kernel)) h (fun h => ?_) (fun h => ?_)
                    · exact j152 h
                    · refine s_aload_n (k := 0) hX zcdX10_readsCondition_93.2.2.2.1 rfl rfl ?_
                      refine s_iconst (v := (nI 1)) hX zcdX10_readsCondition_93.2.2.2.2.1 (by decide) ?_
                      refine e_callVv hX (t_X10_lands (nI 1) M92) mX10_lands lX10_237 (by decide) (by decide) oM0 rfl rfl rfl rfl rfl (Nat.le_of_ble_eq_true rfl) zcdX10_readsCondition_93.2.2.2.2.2.1 h (fun M_22 h => ?_)
                      refine s_aload_n (k := 0) hX zcdX10_readsCondition_93.2.2.2.2.2.2.1 rfl rfl ?_
                      refine s_aload_n (k := 0) hX zcdX10_readsCondition_93.2.2.2.2.2.2.2 rfl rfl ?_
                      refine s_get hX fX10_195 oM0 rfl zcdX10_readsCondition_108.1 ?_
                      refine s_iconst (v := (nI 1)) hX zcdX10_readsCondition_108.2.1 (by decide) ?_
                      refine s_isub hX zcdX10_readsCondition_108.2.2.1 ?_
                      refine s_puti (ty := .int) hX fX10_195 oM0 rfl (Nat.le_of_ble_eq_true rfl) ty_10_13 rfl rfl zcdX10_readsCondition_108.2.2.2.1 ?_
                      refine e_bndM h (fun M_23 h => ?_)
                      refine s_aload_n (k := 0) hX zcdX10_readsCondition_108.2.2.2.2.1 rfl rfl ?_
                      refine s_aload_n (k := 0) hX zcdX10_readsCondition_108.2.2.2.2.2.1 rfl rfl ?_
                      refine s_get hX fX10_192 oM0 rfl zcdX10_readsCondition_108.2.2.2.2.2.2.1 ?_
                      refine s_iconst (v := (nI 1)) hX zcdX10_readsCondition_108.2.2.2.2.2.2.2 (by decide) ?_
                      refine s_isub hX zcdX10_readsCondition_122.1 ?_
                      refine s_puti (ty := .int) hX fX10_192 oM0 rfl (Nat.le_of_ble_eq_true rfl) ty_10_11 rfl rfl zcdX10_readsCondition_122.2.1 ?_
                      refine e_bndM h (fun M_24 h => ?_)
                      refine s_aload_n (k := 0) hX zcdX10_readsCondition_122.2.2.1 rfl rfl ?_
                      refine s_aload_n (k := 0) hX zcdX10_readsCondition_122.2.2.2.1 rfl rfl ?_
                      refine s_get hX fX10_165 oM0 rfl zcdX10_readsCondition_122.2.2.2.2.1 ?_
                      refine s_iconst (v := (nI 1)) hX zcdX10_readsCondition_122.2.2.2.2.2.1 (by decide) ?_
                      refine s_iadd hX zcdX10_readsCondition_122.2.2.2.2.2.2.1 ?_
                      refine s_puti (ty := .int) hX fX10_165 oM0 rfl (Nat.le_of_ble_eq_true rfl) ty_10_7 rfl rfl zcdX10_readsCondition_122.2.2.2.2.2.2.2 ?_
                      refine e_bndM h (fun M_25 h => ?_)
                      refine s_aload_n (k := 0) hX zcdX10_readsCondition_136.1 rfl rfl ?_
                      refine s_get hX fX10_195 oM0 rfl zcdX10_readsCondition_136.2.1 ?_
                      refine e_if_ne (tgt := 145) hX zcdX10_readsCondition_136.2.2.1 (by decide) z_eq h (fun h => ?_) (fun h => ?_)
                      · refine s_aload_n (k := 0) hX zcdX10_readsCondition_136.2.2.2.2.2.1 rfl rfl ?_
                        refine e_callVv hX (t_X10_endsPiece M_25) mX10_endsPiece lX10_231 (by decide) (by decide) oM0 rfl rfl rfl rfl rfl (Nat.le_of_ble_eq_true rfl) zcdX10_readsCondition_136.2.2.2.2.2.2.1 h (fun M_26 h => ?_)
                        refine s_goto (tgt := 92) hX zcdX10_readsCondition_136.2.2.2.2.2.2.2 (by decide) ?_
                        exact ih92 M_26 h
                      · refine s_iconst (v := (nI 1)) hX zcdX10_readsCondition_136.2.2.2.1 (by decide) ?_
                        exact e_zretiL hX hR zcdX10_readsCondition_136.2.2.2.2.1 (by decide) h
                exact lp92 FU M_12 h
              · refine s_iconst (v := (nI 0)) hX zcdX10_readsCondition_81.2.2.2.2.2.1 (by decide) ?_
                exact e_zretiL hX hR zcdX10_readsCondition_81.2.2.2.2.2.2.1 (by decide) h
            · exact j58 h
      exact lp40 FU M_5 h
    · refine s_iconst (v := (nI 0)) hX zcdX10_readsCondition_29.2.2.2.2.1 (by decide) ?_
      exact e_zretiL hX hR zcdX10_readsCondition_29.2.2.2.2.2.1 (by decide) h
  · refine s_aload_n (k := 0) hX zcdX10_readsCondition_0.2.2.2.2.1 rfl rfl ?_
    refine s_iconst (v := (nI 1)) hX zcdX10_readsCondition_0.2.2.2.2.2.1 (by decide) ?_
    refine s_aload_n (k := 0) hX zcdX10_readsCondition_0.2.2.2.2.2.2.1 rfl rfl ?_
    refine s_get hX fX10_165 oM0 rfl zcdX10_readsCondition_0.2.2.2.2.2.2.2 ?_
    refine e_callVi hX (t_X10_wrongAt (nI 1) (M 0 7) M) mX10_wrongAt lX10_178 (by decide) (by decide) oM0 rfl rfl rfl rfl rfl (Nat.le_of_ble_eq_true rfl) zcdX10_readsCondition_15.1 h (fun r_27 M_28 h => ?_)
    exact e_zreti hX hR zcdX10_readsCondition_15.2.1 h
set_option maxHeartbeats 4000000 in
theorem t_X10_readsRule (M : Mem) : AXi yX10_readsRule cX10_readsRule 2 (some .boolean) 7 39 glM (fun ad => [.ref (ad 0)]) M (f_X10_readsRule M) := by
  intro r0 h
  refine AM.of (by decide) (fun _ => Nat.le_of_ble_eq_true rfl) (fun X ad cI cZ cB hX hR => ?_)
  show V X M [(0, .ref (ad 0))] [] 0
  refine s_aload_n (k := 0) hX zcdX10_readsCondition_218.2.1 rfl rfl ?_
  refine e_callVp hX (t_X10_here M) mX10_here lX10_171 (by decide) (by decide) oM0 rfl rfl rfl rfl rfl (Nat.le_of_ble_eq_true rfl) zcdX10_readsCondition_218.2.2.1 h (fun r_1 h => ?_)
  refine s_istore_n (lv' := [(0, .ref (ad 0)), (1, .int r_1)]) hX zcdX10_readsCondition_218.2.2.2.1 rfl (by decide) rfl ?_
  refine s_iload_n (k := 1) hX zcdX10_readsCondition_218.2.2.2.2.1 rfl rfl ?_
  refine s_bipush (v := (nI 117)) hX zcdX10_readsCondition_218.2.2.2.2.2.1 (by decide) ?_
  have j45 : f_X10_readsRule_L45 M r_1 = some r0 → V X M [(0, .ref (ad 0)), (1, .int r_1)] [] 45 := by
    intro  h
    refine s_aload_n (k := 0) hX zcdX10_readsRule_44.2.1 rfl rfl ?_
    refine s_get hX fX10_243 oM0 rfl zcdX10_readsRule_44.2.2.1 ?_
    refine s_bipush (v := (nI 16)) hX zcdX10_readsRule_44.2.2.2.1 (by decide) ?_
    refine e_icmp_ne (tgt := 64) hX zcdX10_readsRule_44.2.2.2.2.1 (by decide) (m_eq (by decide +kernel)) h (fun h => ?_) (fun h => ?_)
    · refine s_aload_n (k := 0) hX zcdX10_readsRule_57.2.2.2.1 rfl rfl ?_
      refine s_get hX fX10_32 oM0 rfl zcdX10_readsRule_57.2.2.2.2.1 ?_
      refine s_aload_n (k := 0) hX zcdX10_readsRule_57.2.2.2.2.2.1 rfl rfl ?_
      refine s_get hX fX10_243 oM0 rfl zcdX10_readsRule_57.2.2.2.2.2.2.1 ?_
      refine s_iload_n (k := 1) hX zcdX10_readsRule_57.2.2.2.2.2.2.2 rfl rfl ?_
      refine e_iast hX aM8 zcdX10_readsRule_73.1 h (fun h => ?_)
      refine e_bndM h (fun M_2 h => ?_)
      refine s_aload_n (k := 0) hX zcdX10_readsRule_73.2.1 rfl rfl ?_
      refine s_aload_n (k := 0) hX zcdX10_readsRule_73.2.2.1 rfl rfl ?_
      refine s_get hX fX10_165 oM0 rfl zcdX10_readsRule_73.2.2.2.1 ?_
      refine s_iconst (v := (nI 1)) hX zcdX10_readsRule_73.2.2.2.2.1 (by decide) ?_
      refine s_iadd hX zcdX10_readsRule_73.2.2.2.2.2.1 ?_
      refine s_puti (ty := .int) hX fX10_165 oM0 rfl (Nat.le_of_ble_eq_true rfl) ty_10_7 rfl rfl zcdX10_readsRule_73.2.2.2.2.2.2.1 ?_
      refine e_bndM h (fun M_3 h => ?_)
      refine s_aload_n (k := 0) hX zcdX10_readsRule_73.2.2.2.2.2.2.2 rfl rfl ?_
      refine s_get hX fX10_35 oM0 rfl zcdX10_readsRule_85.1 ?_
      refine s_aload_n (k := 0) hX zcdX10_readsRule_85.2.1 rfl rfl ?_
      refine s_get hX fX10_243 oM0 rfl zcdX10_readsRule_85.2.2.1 ?_
      refine s_aload_n (k := 0) hX zcdX10_readsRule_85.2.2.2.1 rfl rfl ?_
      refine s_get hX fX10_188 oM0 rfl zcdX10_readsRule_85.2.2.2.2.1 ?_
      refine e_iast hX aM9 zcdX10_readsRule_85.2.2.2.2.2.1 h (fun h => ?_)
      refine e_bndM h (fun M_4 h => ?_)
      refine s_aload_n (k := 0) hX zcdX10_readsRule_85.2.2.2.2.2.2.1 rfl rfl ?_
      refine s_iconst (v := (nI 0)) hX zcdX10_readsRule_85.2.2.2.2.2.2.2 (by decide) ?_
      refine s_puti (ty := .int) hX fX10_192 oM0 rfl (Nat.le_of_ble_eq_true rfl) ty_10_11 rfl rfl zcdX10_readsRule_99.1 ?_
      refine e_bndM h (fun M_5 h => ?_)
      refine s_aload_n (k := 0) hX zcdX10_readsRule_99.2.1 rfl rfl ?_
      refine s_iconst (v := (nI 0)) hX zcdX10_readsRule_99.2.2.1 (by decide) ?_
      refine s_puti (ty := .int) hX fX10_195 oM0 rfl (Nat.le_of_ble_eq_true rfl) ty_10_13 rfl rfl zcdX10_readsRule_99.2.2.2.1 ?_
      refine e_bndM h (fun M_6 h => ?_)
      refine s_iload_n (k := 1) hX zcdX10_readsRule_99.2.2.2.2.1 rfl rfl ?_
      refine s_bipush (v := (nI 120)) hX zcdX10_readsRule_99.2.2.2.2.2.1 (by decide) ?_
      have j122 : ∀ (N122 : Mem), f_X10_readsRule_L122 N122 = some r0 → V X N122 [(0, .ref (ad 0))] [] 122 := by
        intro N122 h
        refine s_aload_n (k := 0) hX zcdX10_readsRule_114.2.2.2.2.1 rfl rfl ?_
        refine s_get hX fX10_38 oM0 rfl zcdX10_readsRule_114.2.2.2.2.2.1 ?_
        refine s_aload_n (k := 0) hX zcdX10_readsRule_114.2.2.2.2.2.2.1 rfl rfl ?_
        refine s_get hX fX10_243 oM0 rfl zcdX10_readsRule_114.2.2.2.2.2.2.2 ?_
        refine s_aload_n (k := 0) hX zcdX10_readsRule_130.1 rfl rfl ?_
        refine s_get hX fX10_188 oM0 rfl zcdX10_readsRule_130.2.1 ?_
        refine e_iast hX aM10 zcdX10_readsRule_130.2.2.1 h (fun h => ?_)
        refine e_bndM h (fun M_7 h => ?_)
        refine s_aload_n (k := 0) hX zcdX10_readsRule_130.2.2.2.1 rfl rfl ?_
        refine e_callVi hX (t_X10_readsCondition M_7) mX10_readsCondition lX10_246 (by decide) (by decide) oM0 rfl rfl rfl rfl rfl (Nat.le_of_ble_eq_true rfl) zcdX10_readsRule_130.2.2.2.2.1 h (fun r_8 M_9 h => ?_)
        refine e_if_ne (tgt := 144) hX zcdX10_readsRule_130.2.2.2.2.2.1 (by decide) z_eq h (fun h => ?_) (fun h => ?_)
        · refine s_aload_n (k := 0) hX zcdX10_readsRule_144.1 rfl rfl ?_
          refine s_get hX fX10_41 oM0 rfl zcdX10_readsRule_144.2.1 ?_
          refine s_aload_n (k := 0) hX zcdX10_readsRule_144.2.2.1 rfl rfl ?_
          refine s_get hX fX10_243 oM0 rfl zcdX10_readsRule_144.2.2.2.1 ?_
          refine s_aload_n (k := 0) hX zcdX10_readsRule_144.2.2.2.2.1 rfl rfl ?_
          refine s_get hX fX10_188 oM0 rfl zcdX10_readsRule_144.2.2.2.2.2.1 ?_
          refine e_iast hX aM11 zcdX10_readsRule_144.2.2.2.2.2.2.1 h (fun h => ?_)
          refine e_bndM h (fun M_10 h => ?_)
          refine s_aload_n (k := 0) hX zcdX10_readsRule_144.2.2.2.2.2.2.2 rfl rfl ?_
          refine s_aload_n (k := 0) hX zcdX10_readsRule_158.1 rfl rfl ?_
          refine s_get hX fX10_243 oM0 rfl zcdX10_readsRule_158.2.1 ?_
          refine s_iconst (v := (nI 1)) hX zcdX10_readsRule_158.2.2.1 (by decide) ?_
          refine s_iadd hX zcdX10_readsRule_158.2.2.2.1 ?_
          refine s_puti (ty := .int) hX fX10_243 oM0 rfl (Nat.le_of_ble_eq_true rfl) ty_10_14 rfl rfl zcdX10_readsRule_158.2.2.2.2.1 ?_
          refine e_bndM h (fun M_11 h => ?_)
          refine s_iconst (v := (nI 1)) hX zcdX10_readsRule_158.2.2.2.2.2.1 (by decide) ?_
          exact e_zretiL hX hR zcdX10_readsRule_158.2.2.2.2.2.2.1 (by decide) h
        · refine s_iconst (v := (nI 0)) hX zcdX10_readsRule_130.2.2.2.2.2.2.1 (by decide) ?_
          exact e_zretiL hX hR zcdX10_readsRule_130.2.2.2.2.2.2.2 (by decide) h
      refine e_icmp_eq (tgt := 122) hX zcdX10_readsRule_99.2.2.2.2.2.2.1 (by decide) (m_eq (by decide +kernel)) h (fun h => ?_) (fun h => ?_)
      · refine s_loc [0] rfl ?_
        exact j122 M_6 h
      · refine s_aload_n (k := 0) hX zcdX10_readsRule_99.2.2.2.2.2.2.2 rfl rfl ?_
        refine e_callVi hX (t_X10_readsSum M_6) mX10_readsSum lX10_228 (by decide) (by decide) oM0 rfl rfl rfl rfl rfl (Nat.le_of_ble_eq_true rfl) zcdX10_readsRule_114.1 h (fun r_12 M_13 h => ?_)
        refine e_if_ne (tgt := 122) hX zcdX10_readsRule_114.2.1 (by decide) z_eq h (fun h => ?_) (fun h => ?_)
        · refine s_loc [0] rfl ?_
          exact j122 M_13 h
        · refine s_iconst (v := (nI 0)) hX zcdX10_readsRule_114.2.2.1 (by decide) ?_
          exact e_zretiL hX hR zcdX10_readsRule_114.2.2.2.1 (by decide) h
    · refine s_aload_n (k := 0) hX zcdX10_readsRule_44.2.2.2.2.2.1 rfl rfl ?_
      refine s_iconst (v := (nI 4)) hX zcdX10_readsRule_44.2.2.2.2.2.2.1 (by decide) ?_
      refine s_aload_n (k := 0) hX zcdX10_readsRule_44.2.2.2.2.2.2.2 rfl rfl ?_
      refine s_get hX fX10_165 oM0 rfl zcdX10_readsRule_57.1 ?_
      refine e_callVi hX (t_X10_wrongAt (nI 4) (M 0 7) M) mX10_wrongAt lX10_178 (by decide) (by decide) oM0 rfl rfl rfl rfl rfl (Nat.le_of_ble_eq_true rfl) zcdX10_readsRule_57.2.1 h (fun r_14 M_15 h => ?_)
      exact e_zreti hX hR zcdX10_readsRule_57.2.2.1 h
  refine e_icmp_eq (tgt := 45) hX zcdX10_readsCondition_218.2.2.2.2.2.2.1 (by decide) (m_eq (by decide +kernel)) h (fun h => ?_) (fun h => ?_)
  · exact j45 h
  · refine s_iload_n (k := 1) hX zcdX10_readsCondition_218.2.2.2.2.2.2.2 rfl rfl ?_
    refine s_bipush (v := (nI 100)) hX zcdX10_readsRule_12.1 (by decide) ?_
    refine e_icmp_eq (tgt := 45) hX zcdX10_readsRule_12.2.1 (by decide) (m_eq (by decide +kernel)) h (fun h => ?_) (fun h => ?_)
    · exact j45 h
    · refine s_iload_n (k := 1) hX zcdX10_readsRule_12.2.2.1 rfl rfl ?_
      refine s_bipush (v := (nI 111)) hX zcdX10_readsRule_12.2.2.2.1 (by decide) ?_
      refine e_icmp_eq (tgt := 45) hX zcdX10_readsRule_12.2.2.2.2.1 (by decide) (m_eq (by decide +kernel)) h (fun h => ?_) (fun h => ?_)
      · exact j45 h
      · refine s_iload_n (k := 1) hX zcdX10_readsRule_12.2.2.2.2.2.1 rfl rfl ?_
        refine s_bipush (v := (nI 98)) hX zcdX10_readsRule_12.2.2.2.2.2.2.1 (by decide) ?_
        refine e_icmp_eq (tgt := 45) hX zcdX10_readsRule_12.2.2.2.2.2.2.2 (by decide) (m_eq (by decide +kernel)) h (fun h => ?_) (fun h => ?_)
        · exact j45 h
        · refine s_iload_n (k := 1) hX zcdX10_readsRule_29.1 rfl rfl ?_
          refine s_bipush (v := (nI 120)) hX zcdX10_readsRule_29.2.1 (by decide) ?_
          refine e_icmp_eq (tgt := 45) hX zcdX10_readsRule_29.2.2.1 (by decide) (m_eq (by decide +kernel)) h (fun h => ?_) (fun h => ?_)
          · exact j45 h
          · refine s_aload_n (k := 0) hX zcdX10_readsRule_29.2.2.2.1 rfl rfl ?_
            refine s_iconst (v := (nI 1)) hX zcdX10_readsRule_29.2.2.2.2.1 (by decide) ?_
            refine s_aload_n (k := 0) hX zcdX10_readsRule_29.2.2.2.2.2.1 rfl rfl ?_
            refine s_get hX fX10_165 oM0 rfl zcdX10_readsRule_29.2.2.2.2.2.2.1 ?_
            refine e_callVi hX (t_X10_wrongAt (nI 1) (M 0 7) M) mX10_wrongAt lX10_178 (by decide) (by decide) oM0 rfl rfl rfl rfl rfl (Nat.le_of_ble_eq_true rfl) zcdX10_readsRule_29.2.2.2.2.2.2.2 h (fun r_16 M_17 h => ?_)
            exact e_zreti hX hR zcdX10_readsRule_44.1 h
set_option maxHeartbeats 4000000 in
theorem t_X10_takesSign (v1 : Int32) (M : Mem) : AXi yX10_takesSign cX10_takesSign 2 (some .boolean) 1 39 glM (fun ad => [.ref (ad 0), .int v1]) M (f_X10_takesSign M v1) := by
  intro r0 h
  refine AM.of (by decide) (fun _ => Nat.le_of_ble_eq_true rfl) (fun X ad cI cZ cB hX hR => ?_)
  show V X M [(0, .ref (ad 0)), (1, .int v1)] [] 0
  refine s_aload_n (k := 0) hX zcdX10_readsRule_158.2.2.2.2.2.2.2 rfl rfl ?_
  refine e_callVp hX (t_X10_here M) mX10_here lX10_171 (by decide) (by decide) oM0 rfl rfl rfl rfl rfl (Nat.le_of_ble_eq_true rfl) zcdX10_takesSign_1.1 h (fun r_1 h => ?_)
  refine s_iload_n (k := 1) hX zcdX10_takesSign_1.2.1 rfl rfl ?_
  refine e_icmp_eq (tgt := 18) hX zcdX10_takesSign_1.2.2.1 (by decide) r_eq h (fun h => ?_) (fun h => ?_)
  · refine s_aload_n (k := 0) hX zcdX10_takesSign_17.2.1 rfl rfl ?_
    refine s_aload_n (k := 0) hX zcdX10_takesSign_17.2.2.1 rfl rfl ?_
    refine s_get hX fX10_165 oM0 rfl zcdX10_takesSign_17.2.2.2.1 ?_
    refine s_iconst (v := (nI 1)) hX zcdX10_takesSign_17.2.2.2.2.1 (by decide) ?_
    refine s_iadd hX zcdX10_takesSign_17.2.2.2.2.2.1 ?_
    refine s_puti (ty := .int) hX fX10_165 oM0 rfl (Nat.le_of_ble_eq_true rfl) ty_10_7 rfl rfl zcdX10_takesSign_17.2.2.2.2.2.2.1 ?_
    refine e_bndM h (fun M_2 h => ?_)
    refine s_iconst (v := (nI 1)) hX zcdX10_takesSign_17.2.2.2.2.2.2.2 (by decide) ?_
    exact e_zretiL hX hR zcdX10_takesSign_29.1 (by decide) h
  · refine s_aload_n (k := 0) hX zcdX10_takesSign_1.2.2.2.1 rfl rfl ?_
    refine s_iconst (v := (nI 1)) hX zcdX10_takesSign_1.2.2.2.2.1 (by decide) ?_
    refine s_aload_n (k := 0) hX zcdX10_takesSign_1.2.2.2.2.2.1 rfl rfl ?_
    refine s_get hX fX10_165 oM0 rfl zcdX10_takesSign_1.2.2.2.2.2.2.1 ?_
    refine e_callVi hX (t_X10_wrongAt (nI 1) (M 0 7) M) mX10_wrongAt lX10_178 (by decide) (by decide) oM0 rfl rfl rfl rfl rfl (Nat.le_of_ble_eq_true rfl) zcdX10_takesSign_1.2.2.2.2.2.2.2 h (fun r_3 M_4 h => ?_)
    exact e_zreti hX hR zcdX10_takesSign_17.1 h
set_option maxHeartbeats 4000000 in
theorem t_X10_law (v1 : Int32) (M : Mem) : AXi yX10_law cX10_law 4 (some .int) 8 39 glM (fun ad => [.ref (ad 0), .int v1]) M (f_X10_law M v1) := by
  intro r0 h
  refine AM.of (by decide) (fun _ => Nat.le_of_ble_eq_true rfl) (fun X ad cI cZ cB hX hR => ?_)
  show V X M [(0, .ref (ad 0)), (1, .int v1)] [] 0
  refine s_iload_n (k := 1) hX zcdX10_takesSign_29.2.1 rfl rfl ?_
  refine s_iconst (v := (nI 1)) hX zcdX10_takesSign_29.2.2.1 (by decide) ?_
  refine s_sipush (v := (nI 240)) hX zcdX10_takesSign_29.2.2.2.1 (by decide) ?_
  refine e_callSp hX (t_X10_in v1 (nI 1) (nI 240) M) mX10_in lX10_132 (by decide) (by decide) rfl rfl (Nat.le_of_ble_eq_true rfl) zcdX10_takesSign_29.2.2.2.2.1 h (fun r_1 h => ?_)
  refine e_if_eq (tgt := 19) hX zcdX10_takesSign_29.2.2.2.2.2.1 (by decide) z_eq h (fun h => ?_) (fun h => ?_)
  · refine s_iconst (v := (-1)) hX zcdX10_law_13.2.2.1 (by decide) ?_
    exact e_ireti hX hR zcdX10_law_13.2.2.2.1 h
  · refine s_iload_n (k := 1) hX zcdX10_takesSign_29.2.2.2.2.2.2.1 rfl rfl ?_
    refine s_aload_n (k := 0) hX zcdX10_takesSign_29.2.2.2.2.2.2.2 rfl rfl ?_
    refine s_get hX fX10_158 oM0 rfl zcdX10_law_13.1 ?_
    refine e_icmp_le (tgt := 21) hX zcdX10_law_13.2.1 (by decide) r_le h (fun h => ?_) (fun h => ?_)
    · refine s_aload_n (k := 0) hX zcdX10_law_13.2.2.2.2.1 rfl rfl ?_
      refine s_iload_n (k := 1) hX zcdX10_law_13.2.2.2.2.2.1 rfl rfl ?_
      refine e_callVv hX (t_X10_beginsText v1 M) mX10_beginsText lX10_249 (by decide) (by decide) oM0 rfl rfl rfl rfl rfl (Nat.le_of_ble_eq_true rfl) zcdX10_law_13.2.2.2.2.2.2.1 h (fun M_2 h => ?_)
      refine s_aload_n (k := 0) hX zcdX10_law_13.2.2.2.2.2.2.2 rfl rfl ?_
      refine e_callVi hX (t_X10_readsRule M_2) mX10_readsRule lX10_252 (by decide) (by decide) oM0 rfl rfl rfl rfl rfl (Nat.le_of_ble_eq_true rfl) zcdX10_law_27.1 h (fun r_3 M_4 h => ?_)
      refine s_istore_n (lv' := [(0, .ref (ad 0)), (1, .int v1), (2, .int r_3)]) hX zcdX10_law_27.2.1 rfl (by decide) rfl ?_
      have lp31 : ∀ (N31 : Nat) (M31 : Mem) (y2_31 : Int32), wlp2 f_X10_law_B31 N31 M31 y2_31 = some r0 → V X M31 [(0, .ref (ad 0)), (2, .int y2_31)] [] 31 := by
        intro N31
        induction N31 with
        | zero => exact fun _ _ h => e_none h
        | succ N31 ih31 =>
          intro M31 y2_31 h
          replace h : f_X10_law_B31 (wlp2 f_X10_law_B31 N31) M31 y2_31 = some r0 := h
          generalize wlp2 f_X10_law_B31 N31 = ag31 at ih31 h
          refine s_iload_n (k := 1) hX zcdX10_law_27.2.2.1 rfl rfl ?_
          have j71 : f_X10_law_L71 M31 y2_31 = some r0 → V X M31 [(0, .ref (ad 0)), (2, .int y2_31)] [] 71 := by
            intro  h
            refine s_aload_n (k := 0) hX zcdX10_law_62.2.2.2.2.2.1 rfl rfl ?_
            refine s_iconst (v := (nI 0)) hX zcdX10_law_62.2.2.2.2.2.2.1 (by decide) ?_
            refine s_puti (ty := .int) hX fX10_158 oM0 rfl (Nat.le_of_ble_eq_true rfl) ty_10_6 rfl rfl zcdX10_law_62.2.2.2.2.2.2.2 ?_
            refine e_bndM h (fun M_5 h => ?_)
            refine s_iload_n (k := 1) hX zcdX10_law_76.1 rfl rfl ?_
            refine e_if_ne (tgt := 85) hX zcdX10_law_76.2.1 (by decide) z_eq h (fun h => ?_) (fun h => ?_)
            · refine s_aload_n (k := 0) hX zcdX10_law_76.2.2.2.2.2.1 rfl rfl ?_
              refine s_aload_n (k := 0) hX zcdX10_law_76.2.2.2.2.2.2.1 rfl rfl ?_
              refine s_get hX fX10_243 oM0 rfl zcdX10_law_76.2.2.2.2.2.2.2 ?_
              refine s_puti (ty := .int) hX fX10_258 oM0 rfl (Nat.le_of_ble_eq_true rfl) ty_10_15 rfl rfl zcdX10_law_90.1 ?_
              refine e_bndM h (fun M_6 h => ?_)
              refine s_iconst (v := (nI 0)) hX zcdX10_law_90.2.1 (by decide) ?_
              refine s_istore_n (lv' := [(0, .ref (ad 0)), (2, .int y2_31), (3, .int (nI 0))]) hX zcdX10_law_90.2.2.1 rfl (by decide) rfl ?_
              have lp95 : ∀ (N95 : Nat) (M95 : Mem) (y3_95 : Int32), wlp2 f_X10_law_B95 N95 M95 y3_95 = some r0 → V X M95 [(0, .ref (ad 0)), (3, .int y3_95)] [] 95 := by
                intro N95
                induction N95 with
                | zero => exact fun _ _ h => e_none h
                | succ N95 ih95 =>
                  intro M95 y3_95 h
                  replace h : f_X10_law_B95 (wlp2 f_X10_law_B95 N95) M95 y3_95 = some r0 := h
                  generalize wlp2 f_X10_law_B95 N95 = ag95 at ih95 h
                  refine s_iload_n (k := 1) hX zcdX10_law_90.2.2.2.1 rfl rfl ?_
                  refine s_aload_n (k := 0) hX zcdX10_law_90.2.2.2.2.1 rfl rfl ?_
                  refine s_get hX fX10_188 oM0 rfl zcdX10_law_90.2.2.2.2.2.1 ?_
                  have j121 : f_X10_law_L121 M95 = some r0 → V X M95 [(0, .ref (ad 0))] [] 121 := by
                    intro  h
                    refine s_iconst (v := (nI 0)) hX zcdX10_law_118.2.1 (by decide) ?_
                    refine s_istore_n (lv' := [(0, .ref (ad 0)), (3, .int (nI 0))]) hX zcdX10_law_118.2.2.1 rfl (by decide) rfl ?_
                    have lp123 : ∀ (N123 : Nat) (M123 : Mem) (y3_123 : Int32), wlp2 f_X10_law_B123 N123 M123 y3_123 = some r0 → V X M123 [(0, .ref (ad 0)), (3, .int y3_123)] [] 123 := by
                      intro N123
                      induction N123 with
                      | zero => exact fun _ _ h => e_none h
                      | succ N123 ih123 =>
                        intro M123 y3_123 h
                        replace h : f_X10_law_B123 (wlp2 f_X10_law_B123 N123) M123 y3_123 = some r0 := h
                        generalize wlp2 f_X10_law_B123 N123 = ag123 at ih123 h
                        refine s_iload_n (k := 1) hX zcdX10_law_118.2.2.2.1 rfl rfl ?_
                        refine s_aload_n (k := 0) hX zcdX10_law_118.2.2.2.2.1 rfl rfl ?_
                        refine s_get hX fX10_243 oM0 rfl zcdX10_law_118.2.2.2.2.2.1 ?_
                        refine e_icmp_ge (tgt := 185) hX zcdX10_law_118.2.2.2.2.2.2.1 (by decide) r_le h (fun h => ?_) (fun h => ?_)
                        · refine s_aload_n (k := 0) hX zcdX10_law_182.2.1 rfl rfl ?_
                          refine s_get hX fX10_243 oM0 rfl zcdX10_law_182.2.2.1 ?_
                          exact e_ireti hX hR zcdX10_law_182.2.2.2.1 h
                        · refine s_aload_n (k := 0) hX zcdX10_law_118.2.2.2.2.2.2.2 rfl rfl ?_
                          refine s_get hX fX10_47 oM0 rfl zcdX10_law_132.1 ?_
                          refine s_iload_n (k := 1) hX zcdX10_law_132.2.1 rfl rfl ?_
                          refine s_aload_n (k := 0) hX zcdX10_law_132.2.2.1 rfl rfl ?_
                          refine s_get hX fX10_32 oM0 rfl zcdX10_law_132.2.2.2.1 ?_
                          refine s_iload_n (k := 1) hX zcdX10_law_132.2.2.2.2.1 rfl rfl ?_
                          refine e_iald hX aM8 zcdX10_law_132.2.2.2.2.2.1 h (fun h => ?_)
                          refine e_iast hX aM13 zcdX10_law_132.2.2.2.2.2.2.1 h (fun h => ?_)
                          refine e_bndM h (fun M_7 h => ?_)
                          refine s_aload_n (k := 0) hX zcdX10_law_132.2.2.2.2.2.2.2 rfl rfl ?_
                          refine s_get hX fX10_50 oM0 rfl zcdX10_law_144.1 ?_
                          refine s_iload_n (k := 1) hX zcdX10_law_144.2.1 rfl rfl ?_
                          refine s_aload_n (k := 0) hX zcdX10_law_144.2.2.1 rfl rfl ?_
                          refine s_get hX fX10_35 oM0 rfl zcdX10_law_144.2.2.2.1 ?_
                          refine s_iload_n (k := 1) hX zcdX10_law_144.2.2.2.2.1 rfl rfl ?_
                          refine e_iald hX aM9 zcdX10_law_144.2.2.2.2.2.1 h (fun h => ?_)
                          refine e_iast hX aM14 zcdX10_law_144.2.2.2.2.2.2.1 h (fun h => ?_)
                          refine e_bndM h (fun M_8 h => ?_)
                          refine s_aload_n (k := 0) hX zcdX10_law_144.2.2.2.2.2.2.2 rfl rfl ?_
                          refine s_get hX fX10_53 oM0 rfl zcdX10_law_156.1 ?_
                          refine s_iload_n (k := 1) hX zcdX10_law_156.2.1 rfl rfl ?_
                          refine s_aload_n (k := 0) hX zcdX10_law_156.2.2.1 rfl rfl ?_
                          refine s_get hX fX10_38 oM0 rfl zcdX10_law_156.2.2.2.1 ?_
                          refine s_iload_n (k := 1) hX zcdX10_law_156.2.2.2.2.1 rfl rfl ?_
                          refine e_iald hX aM10 zcdX10_law_156.2.2.2.2.2.1 h (fun h => ?_)
                          refine e_iast hX aM15 zcdX10_law_156.2.2.2.2.2.2.1 h (fun h => ?_)
                          refine e_bndM h (fun M_9 h => ?_)
                          refine s_aload_n (k := 0) hX zcdX10_law_156.2.2.2.2.2.2.2 rfl rfl ?_
                          refine s_get hX fX10_56 oM0 rfl zcdX10_law_168.1 ?_
                          refine s_iload_n (k := 1) hX zcdX10_law_168.2.1 rfl rfl ?_
                          refine s_aload_n (k := 0) hX zcdX10_law_168.2.2.1 rfl rfl ?_
                          refine s_get hX fX10_41 oM0 rfl zcdX10_law_168.2.2.2.1 ?_
                          refine s_iload_n (k := 1) hX zcdX10_law_168.2.2.2.2.1 rfl rfl ?_
                          refine e_iald hX aM11 zcdX10_law_168.2.2.2.2.2.1 h (fun h => ?_)
                          refine e_iast hX aM16 zcdX10_law_168.2.2.2.2.2.2.1 h (fun h => ?_)
                          refine e_bndM h (fun M_10 h => ?_)
                          refine s_iinc (k := 1) (v := (y3_123 + (nI 1))) (lv' := [(0, .ref (ad 0)), (3, .int (y3_123 + (nI 1)))]) hX zcdX10_law_168.2.2.2.2.2.2.2 (congrArg (fun z => y3_123 + z) (by decide)) (by decide) rfl rfl ?_
                          refine s_goto (tgt := 123) hX zcdX10_law_182.1 (by decide) ?_
                          exact ih123 M_10 (y3_123 + (nI 1)) h
                    exact lp123 FU M95 (nI 0) h
                  refine e_icmp_ge (tgt := 121) hX zcdX10_law_90.2.2.2.2.2.2.1 (by decide) r_le h (fun h => ?_) (fun h => ?_)
                  · refine s_loc [0] rfl ?_
                    exact j121 h
                  · refine s_aload_n (k := 0) hX zcdX10_law_90.2.2.2.2.2.2.2 rfl rfl ?_
                    refine s_get hX fX10_44 oM0 rfl zcdX10_law_104.1 ?_
                    refine s_iload_n (k := 1) hX zcdX10_law_104.2.1 rfl rfl ?_
                    refine s_aload_n (k := 0) hX zcdX10_law_104.2.2.1 rfl rfl ?_
                    refine s_get hX fX10_26 oM0 rfl zcdX10_law_104.2.2.2.1 ?_
                    refine s_iload_n (k := 1) hX zcdX10_law_104.2.2.2.2.1 rfl rfl ?_
                    refine e_iald hX aM6 zcdX10_law_104.2.2.2.2.2.1 h (fun h => ?_)
                    refine e_iast hX aM12 zcdX10_law_104.2.2.2.2.2.2.1 h (fun h => ?_)
                    refine e_bndM h (fun M_11 h => ?_)
                    refine s_iinc (k := 1) (v := (y3_95 + (nI 1))) (lv' := [(0, .ref (ad 0)), (3, .int (y3_95 + (nI 1)))]) hX zcdX10_law_104.2.2.2.2.2.2.2 (congrArg (fun z => y3_95 + z) (by decide)) (by decide) rfl rfl ?_
                    refine s_goto (tgt := 95) hX zcdX10_law_118.1 (by decide) ?_
                    exact ih95 M_11 (y3_95 + (nI 1)) h
              refine s_loc [0, 2] rfl ?_
              exact lp95 FU M_6 (nI 0) h
            · refine s_aload_n (k := 0) hX zcdX10_law_76.2.2.1 rfl rfl ?_
              refine s_get hX fX10_175 oM0 rfl zcdX10_law_76.2.2.2.1 ?_
              exact e_ireti hX hR zcdX10_law_76.2.2.2.2.1 h
          refine e_if_eq (tgt := 71) hX zcdX10_law_27.2.2.2.1 (by decide) z_eq h (fun h => ?_) (fun h => ?_)
          · exact j71 h
          · refine s_aload_n (k := 0) hX zcdX10_law_27.2.2.2.2.1 rfl rfl ?_
            refine s_get hX fX10_165 oM0 rfl zcdX10_law_27.2.2.2.2.2.1 ?_
            refine s_aload_n (k := 0) hX zcdX10_law_27.2.2.2.2.2.2.1 rfl rfl ?_
            refine s_get hX fX10_168 oM0 rfl zcdX10_law_27.2.2.2.2.2.2.2 ?_
            refine e_icmp_ge (tgt := 71) hX zcdX10_law_43.1 (by decide) r_le h (fun h => ?_) (fun h => ?_)
            · exact j71 h
            · refine s_aload_n (k := 0) hX zcdX10_law_43.2.1 rfl rfl ?_
              refine s_bipush (v := (nI 59)) hX zcdX10_law_43.2.2.1 (by decide) ?_
              refine e_callVi hX (t_X10_takesSign (nI 59) M31) mX10_takesSign lX10_255 (by decide) (by decide) oM0 rfl rfl rfl rfl rfl (Nat.le_of_ble_eq_true rfl) zcdX10_law_43.2.2.2.1 h (fun r_12 M_13 h => ?_)
              refine e_if_eq (tgt := 66) hX zcdX10_law_43.2.2.2.2.1 (by decide) z_eq h (fun h => ?_) (fun h => ?_)
              · refine s_iconst (v := (nI 0)) hX zcdX10_law_62.2.2.1 (by decide) ?_
                refine s_istore_n (lv' := [(0, .ref (ad 0)), (2, .int (nI 0))]) hX zcdX10_law_62.2.2.2.1 rfl (by decide) rfl ?_
                refine s_goto (tgt := 31) hX zcdX10_law_62.2.2.2.2.1 (by decide) ?_
                exact ih31 M_13 (nI 0) h
              · refine s_aload_n (k := 0) hX zcdX10_law_43.2.2.2.2.2.1 rfl rfl ?_
                refine e_callVi hX (t_X10_readsRule M_13) mX10_readsRule lX10_252 (by decide) (by decide) oM0 rfl rfl rfl rfl rfl (Nat.le_of_ble_eq_true rfl) zcdX10_law_43.2.2.2.2.2.2.1 h (fun r_14 M_15 h => ?_)
                refine e_if_eq (tgt := 66) hX zcdX10_law_43.2.2.2.2.2.2.2 (by decide) z_eq h (fun h => ?_) (fun h => ?_)
                · refine s_iconst (v := (nI 0)) hX zcdX10_law_62.2.2.1 (by decide) ?_
                  refine s_istore_n (lv' := [(0, .ref (ad 0)), (2, .int (nI 0))]) hX zcdX10_law_62.2.2.2.1 rfl (by decide) rfl ?_
                  refine s_goto (tgt := 31) hX zcdX10_law_62.2.2.2.2.1 (by decide) ?_
                  exact ih31 M_15 (nI 0) h
                · refine s_iconst (v := (nI 1)) hX zcdX10_law_62.1 (by decide) ?_
                  refine s_goto (tgt := 67) hX zcdX10_law_62.2.1 (by decide) ?_
                  refine s_istore_n (lv' := [(0, .ref (ad 0)), (2, .int (nI 1))]) hX zcdX10_law_62.2.2.2.1 rfl (by decide) rfl ?_
                  refine s_goto (tgt := 31) hX zcdX10_law_62.2.2.2.2.1 (by decide) ?_
                  exact ih31 M_15 (nI 1) h
      refine s_loc [0, 2] rfl ?_
      exact lp31 FU M_4 r_3 h
    · refine s_iconst (v := (-1)) hX zcdX10_law_13.2.2.1 (by decide) ?_
      exact e_ireti hX hR zcdX10_law_13.2.2.2.1 h
set_option maxHeartbeats 4000000 in
theorem t_X10_laysStone (v1 : Int32) (v2 : Int32) (v3 : Int32) (v4 : Int32) (v5 : Int32) (M : Mem) : AXv yX10_laysStone cX10_laysStone 6 none 0 39 glM (fun ad => [.ref (ad 0), .int v1, .int v2, .int v3, .int v4, .int v5]) M (f_X10_laysStone M v1 v2 v3 v4 v5) := by
  intro r0 h
  refine AM.of (by decide) (fun _ => Nat.le_of_ble_eq_true rfl) (fun X ad cI cZ cB hX hR => ?_)
  show V X M [(0, .ref (ad 0)), (1, .int v1), (2, .int v2), (3, .int v3), (4, .int v4), (5, .int v5)] [] 0
  refine s_aload_n (k := 0) hX zcdX10_law_182.2.2.2.2.1 rfl rfl ?_
  refine s_get hX fX10_7 oM0 rfl zcdX10_law_182.2.2.2.2.2.1 ?_
  refine s_iconst (v := (nI 0)) hX zcdX10_law_182.2.2.2.2.2.2.1 (by decide) ?_
  refine s_iload_n (k := 1) hX zcdX10_law_182.2.2.2.2.2.2.2 rfl rfl ?_
  refine s_iadd hX zcdX10_laysStone_6.1 ?_
  refine s_top (zadd _) ?_
  refine s_iconst (v := (nI 1)) hX zcdX10_laysStone_6.2.1 (by decide) ?_
  refine e_iast hX aM1 zcdX10_laysStone_6.2.2.1 h (fun h => ?_)
  refine e_bndM h (fun M_1 h => ?_)
  refine s_aload_n (k := 0) hX zcdX10_laysStone_6.2.2.2.1 rfl rfl ?_
  refine s_get hX fX10_7 oM0 rfl zcdX10_laysStone_6.2.2.2.2.1 ?_
  refine s_bipush (v := (nI 40)) hX zcdX10_laysStone_6.2.2.2.2.2.1 (by decide) ?_
  refine s_iload_n (k := 1) hX zcdX10_laysStone_6.2.2.2.2.2.2.1 rfl rfl ?_
  refine s_iadd hX zcdX10_laysStone_6.2.2.2.2.2.2.2 ?_
  refine s_iload_n (k := 2) hX zcdX10_laysStone_17.1 rfl rfl ?_
  refine e_iast hX aM1 zcdX10_laysStone_17.2.1 h (fun h => ?_)
  refine e_bndM h (fun M_2 h => ?_)
  refine s_aload_n (k := 0) hX zcdX10_laysStone_17.2.2.1 rfl rfl ?_
  refine s_get hX fX10_7 oM0 rfl zcdX10_laysStone_17.2.2.2.1 ?_
  refine s_bipush (v := (nI 80)) hX zcdX10_laysStone_17.2.2.2.2.1 (by decide) ?_
  refine s_iload_n (k := 1) hX zcdX10_laysStone_17.2.2.2.2.2.1 rfl rfl ?_
  refine s_iadd hX zcdX10_laysStone_17.2.2.2.2.2.2.1 ?_
  refine s_iload_n (k := 3) hX zcdX10_laysStone_17.2.2.2.2.2.2.2 rfl rfl ?_
  refine e_iast hX aM1 zcdX10_laysStone_28.1 h (fun h => ?_)
  refine e_bndM h (fun M_3 h => ?_)
  refine s_aload_n (k := 0) hX zcdX10_laysStone_28.2.1 rfl rfl ?_
  refine s_get hX fX10_7 oM0 rfl zcdX10_laysStone_28.2.2.1 ?_
  refine s_bipush (v := (nI 120)) hX zcdX10_laysStone_28.2.2.2.1 (by decide) ?_
  refine s_iload_n (k := 1) hX zcdX10_laysStone_28.2.2.2.2.1 rfl rfl ?_
  refine s_iadd hX zcdX10_laysStone_28.2.2.2.2.2.1 ?_
  refine s_iload (k := 4) hX zcdX10_laysStone_28.2.2.2.2.2.2.1 rfl ?_
  refine e_iast hX aM1 zcdX10_laysStone_28.2.2.2.2.2.2.2 h (fun h => ?_)
  refine e_bndM h (fun M_4 h => ?_)
  refine s_aload_n (k := 0) hX zcdX10_laysStone_40.1 rfl rfl ?_
  refine s_get hX fX10_7 oM0 rfl zcdX10_laysStone_40.2.1 ?_
  refine s_sipush (v := (nI 160)) hX zcdX10_laysStone_40.2.2.1 (by decide) ?_
  refine s_iload_n (k := 1) hX zcdX10_laysStone_40.2.2.2.1 rfl rfl ?_
  refine s_iadd hX zcdX10_laysStone_40.2.2.2.2.1 ?_
  refine s_iload (k := 5) hX zcdX10_laysStone_40.2.2.2.2.2.1 rfl ?_
  refine e_iast hX aM1 zcdX10_laysStone_40.2.2.2.2.2.2.1 h (fun h => ?_)
  refine e_bndM h (fun M_5 h => ?_)
  exact e_vret hX hR zcdX10_laysStone_40.2.2.2.2.2.2.2 h
set_option maxHeartbeats 4000000 in
theorem t_X10_leastStride (M : Mem) : AXi yX10_leastStride cX10_leastStride 2 (some .int) 4 39 glM (fun ad => [.ref (ad 0)]) M (f_X10_leastStride M) := by
  intro r0 h
  refine AM.of (by decide) (fun _ => Nat.le_of_ble_eq_true rfl) (fun X ad cI cZ cB hX hR => ?_)
  show V X M [(0, .ref (ad 0))] [] 0
  refine s_iconst (v := (nI 1)) hX zcdX10_leastStride_0.1 (by decide) ?_
  refine s_istore_n (lv' := [(0, .ref (ad 0)), (1, .int (nI 1))]) hX zcdX10_leastStride_0.2.1 rfl (by decide) rfl ?_
  have lp2 : ∀ (N2 : Nat) (M2 : Mem) (y1_2 : Int32), wlp2 f_X10_leastStride_B2 N2 M2 y1_2 = some r0 → V X M2 [(0, .ref (ad 0)), (1, .int y1_2)] [] 2 := by
    intro N2
    induction N2 with
    | zero => exact fun _ _ h => e_none h
    | succ N2 ih2 =>
      intro M2 y1_2 h
      replace h : f_X10_leastStride_B2 (wlp2 f_X10_leastStride_B2 N2) M2 y1_2 = some r0 := h
      generalize wlp2 f_X10_leastStride_B2 N2 = ag2 at ih2 h
      refine s_iload_n (k := 1) hX zcdX10_leastStride_0.2.2.1 rfl rfl ?_
      refine s_bipush (v := (nI 30)) hX zcdX10_leastStride_0.2.2.2.1 (by decide) ?_
      refine e_icmp_gt (tgt := 25) hX zcdX10_leastStride_0.2.2.2.2.1 (by decide) (m_gt (by decide +kernel)) h (fun h => ?_) (fun h => ?_)
      · refine s_bipush (v := (-2)) hX zcdX10_leastStride_13.2.2.2.2.2.2.1 (by decide) ?_
        exact e_ireti hX hR zcdX10_leastStride_13.2.2.2.2.2.2.2 h
      · refine s_aload_n (k := 0) hX zcdX10_leastStride_0.2.2.2.2.2.1 rfl rfl ?_
        refine s_iload_n (k := 1) hX zcdX10_leastStride_0.2.2.2.2.2.2.1 rfl rfl ?_
        refine e_callVi hX (t_X10_crossing y1_2 M2) mX10_crossing lX10_337 (by decide) (by decide) oM0 rfl rfl rfl rfl rfl (Nat.le_of_ble_eq_true rfl) zcdX10_leastStride_0.2.2.2.2.2.2.2 h (fun r_1 M_2 h => ?_)
        refine s_iconst (v := (-1)) hX zcdX10_leastStride_13.1 (by decide) ?_
        refine e_icmp_eq (tgt := 19) hX zcdX10_leastStride_13.2.1 (by decide) (m_eq (by decide +kernel)) h (fun h => ?_) (fun h => ?_)
        · refine s_iinc (k := 1) (v := (y1_2 + (nI 1))) (lv' := [(0, .ref (ad 0)), (1, .int (y1_2 + (nI 1)))]) hX zcdX10_leastStride_13.2.2.2.2.1 (congrArg (fun z => y1_2 + z) (by decide)) (by decide) rfl rfl ?_
          refine s_goto (tgt := 2) hX zcdX10_leastStride_13.2.2.2.2.2.1 (by decide) ?_
          exact ih2 M_2 (y1_2 + (nI 1)) h
        · refine s_iload_n (k := 1) hX zcdX10_leastStride_13.2.2.1 rfl rfl ?_
          exact e_ireti hX hR zcdX10_leastStride_13.2.2.2.1 h
  exact lp2 FU M (nI 1) h
set_option maxHeartbeats 4000000 in
theorem t_X10_letters (v1 : Int32) (v2 : Int32) (M : Mem) : AXi yX10_letters cX10_letters 8 (some .int) 1 39 glM (fun ad => [.ref (ad 0), .int v1, .int v2]) M (f_X10_letters M v1 v2) := by
  intro r0 h
  refine AM.of (by decide) (fun _ => Nat.le_of_ble_eq_true rfl) (fun X ad cI cZ cB hX hR => ?_)
  show V X M [(0, .ref (ad 0)), (1, .int v1), (2, .int v2)] [] 0
  refine s_iload_n (k := 1) hX zcdX10_letters_0.1 rfl rfl ?_
  refine s_iconst (v := (nI 1)) hX zcdX10_letters_0.2.1 (by decide) ?_
  refine s_bipush (v := (nI 8)) hX zcdX10_letters_0.2.2.1 (by decide) ?_
  refine e_callSp hX (t_X10_in v1 (nI 1) (nI 8) M) mX10_in lX10_132 (by decide) (by decide) rfl rfl (Nat.le_of_ble_eq_true rfl) zcdX10_letters_0.2.2.2.1 h (fun r_1 h => ?_)
  refine e_if_eq (tgt := 27) hX zcdX10_letters_0.2.2.2.2.1 (by decide) z_eq h (fun h => ?_) (fun h => ?_)
  · refine s_iconst (v := (-1)) hX zcdX10_letters_13.2.2.2.2.2.2.1 (by decide) ?_
    exact e_ireti hX hR zcdX10_letters_13.2.2.2.2.2.2.2 h
  · refine s_iload_n (k := 2) hX zcdX10_letters_0.2.2.2.2.2.1 rfl rfl ?_
    refine s_iconst (v := (nI 0)) hX zcdX10_letters_0.2.2.2.2.2.2.1 (by decide) ?_
    refine s_iconst (v := (nI 1)) hX zcdX10_letters_0.2.2.2.2.2.2.2 (by decide) ?_
    refine e_callSp hX (t_X10_in v2 (nI 0) (nI 1) M) mX10_in lX10_132 (by decide) (by decide) rfl rfl (Nat.le_of_ble_eq_true rfl) zcdX10_letters_13.1 h (fun r_2 h => ?_)
    refine e_if_eq (tgt := 27) hX zcdX10_letters_13.2.1 (by decide) z_eq h (fun h => ?_) (fun h => ?_)
    · refine s_iconst (v := (-1)) hX zcdX10_letters_13.2.2.2.2.2.2.1 (by decide) ?_
      exact e_ireti hX hR zcdX10_letters_13.2.2.2.2.2.2.2 h
    · refine s_iload_n (k := 1) hX zcdX10_letters_13.2.2.1 rfl rfl ?_
      refine s_aload_n (k := 0) hX zcdX10_letters_13.2.2.2.1 rfl rfl ?_
      refine s_get hX fX10_158 oM0 rfl zcdX10_letters_13.2.2.2.2.1 ?_
      refine e_icmp_le (tgt := 29) hX zcdX10_letters_13.2.2.2.2.2.1 (by decide) r_le h (fun h => ?_) (fun h => ?_)
      · refine s_aload_n (k := 0) hX zcdX10_letters_29.1 rfl rfl ?_
        refine s_iconst (v := (nI 0)) hX zcdX10_letters_29.2.1 (by decide) ?_
        refine s_puti (ty := .int) hX fX10_158 oM0 rfl (Nat.le_of_ble_eq_true rfl) ty_10_6 rfl rfl zcdX10_letters_29.2.2.1 ?_
        refine e_bndM h (fun M_3 h => ?_)
        refine s_iconst (v := (nI 0)) hX zcdX10_letters_29.2.2.2.1 (by decide) ?_
        refine s_istore_n (lv' := [(0, .ref (ad 0)), (1, .int v1), (2, .int v2), (3, .int (nI 0))]) hX zcdX10_letters_29.2.2.2.2.1 rfl (by decide) rfl ?_
        have lp36 : ∀ (N36 : Nat) (y3_36 : Int32), wlp1 (f_X10_letters_B36 v1 v2 M_3) N36 y3_36 = some r0 → V X M_3 [(0, .ref (ad 0)), (1, .int v1), (2, .int v2), (3, .int y3_36)] [] 36 := by
          intro N36
          induction N36 with
          | zero => exact fun _ h => e_none h
          | succ N36 ih36 =>
            intro y3_36 h
            replace h : f_X10_letters_B36 v1 v2 M_3 (wlp1 (f_X10_letters_B36 v1 v2 M_3) N36) y3_36 = some r0 := h
            generalize wlp1 (f_X10_letters_B36 v1 v2 M_3) N36 = ag36 at ih36 h
            refine s_iload_n (k := 3) hX zcdX10_letters_29.2.2.2.2.2.1 rfl rfl ?_
            refine s_iload_n (k := 1) hX zcdX10_letters_29.2.2.2.2.2.2.1 rfl rfl ?_
            have j58 : f_X10_letters_L58 v1 v2 M_3 = some r0 → V X M_3 [(0, .ref (ad 0)), (1, .int v1), (2, .int v2)] [] 58 := by
              intro  h
              refine s_iconst (v := (nI 0)) hX zcdX10_letters_58.1 (by decide) ?_
              refine s_istore_n (lv' := [(0, .ref (ad 0)), (1, .int v1), (2, .int v2), (3, .int (nI 0))]) hX zcdX10_letters_58.2.1 rfl (by decide) rfl ?_
              refine s_ldcw (v := (nI 1000000)) hX kX10_343 zcdX10_letters_58.2.2.1 ?_
              refine s_istore (lv' := [(0, .ref (ad 0)), (1, .int v1), (2, .int v2), (3, .int (nI 0)), (4, .int (nI 1000000))]) hX zcdX10_letters_58.2.2.2.1 (by decide) rfl ?_
              refine s_iconst (v := (nI 1)) hX zcdX10_letters_58.2.2.2.2.1 (by decide) ?_
              refine s_istore (lv' := [(0, .ref (ad 0)), (1, .int v1), (2, .int v2), (3, .int (nI 0)), (4, .int (nI 1000000)), (5, .int (nI 1))]) hX zcdX10_letters_58.2.2.2.2.2.1 (by decide) rfl ?_
              have lp68 : ∀ (N68 : Nat) (y3_68 : Int32) (y4_68 : Int32) (y5_68 : Int32), wlp3 (f_X10_letters_B68 v1 v2 M_3) N68 y3_68 y4_68 y5_68 = some r0 → V X M_3 [(0, .ref (ad 0)), (1, .int v1), (2, .int v2), (3, .int y3_68), (4, .int y4_68), (5, .int y5_68)] [] 68 := by
                intro N68
                induction N68 with
                | zero => exact fun _ _ _ h => e_none h
                | succ N68 ih68 =>
                  intro y3_68 y4_68 y5_68 h
                  replace h : f_X10_letters_B68 v1 v2 M_3 (wlp3 (f_X10_letters_B68 v1 v2 M_3) N68) y3_68 y4_68 y5_68 = some r0 := h
                  generalize wlp3 (f_X10_letters_B68 v1 v2 M_3) N68 = ag68 at ih68 h
                  refine s_iload (k := 5) hX zcdX10_letters_58.2.2.2.2.2.2.1 rfl ?_
                  refine s_iconst (v := (nI 1)) hX zcdX10_letters_58.2.2.2.2.2.2.2 (by decide) ?_
                  refine s_iload_n (k := 1) hX zcdX10_letters_71.1 rfl rfl ?_
                  refine e_ishl hX zcdX10_letters_71.2.1 ?_
                  have j157 : f_X10_letters_L157 v2 M_3 y3_68 y4_68 = some r0 → V X M_3 [(2, .int v2), (3, .int y3_68), (4, .int y4_68)] [] 157 := by
                    intro  h
                    refine s_iload_n (k := 0) hX zcdX10_letters_152.2.2.1 rfl rfl ?_
                    refine e_if_ne (tgt := 166) hX zcdX10_letters_152.2.2.2.1 (by decide) z_eq h (fun h => ?_) (fun h => ?_)
                    · refine s_iload_n (k := 1) hX zcdX10_letters_152.2.2.2.2.2.2.1 rfl rfl ?_
                      exact e_ireti hX hR zcdX10_letters_152.2.2.2.2.2.2.2 h
                    · refine s_iload (k := 2) hX zcdX10_letters_152.2.2.2.2.1 rfl ?_
                      refine s_goto (tgt := 167) hX zcdX10_letters_152.2.2.2.2.2.1 (by decide) ?_
                      exact e_ireti hX hR zcdX10_letters_152.2.2.2.2.2.2.2 h
                  refine e_icmp_ge (tgt := 157) hX zcdX10_letters_71.2.2.1 (by decide) r_le h (fun h => ?_) (fun h => ?_)
                  · refine s_loc [2, 3, 4] rfl ?_
                    exact j157 h
                  · refine s_iconst (v := (nI 0)) hX zcdX10_letters_71.2.2.2.1 (by decide) ?_
                    refine s_istore (lv' := [(0, .ref (ad 0)), (1, .int v1), (2, .int v2), (3, .int y3_68), (4, .int y4_68), (5, .int y5_68), (6, .int (nI 0))]) hX zcdX10_letters_71.2.2.2.2.1 (by decide) rfl ?_
                    refine s_iconst (v := (nI 0)) hX zcdX10_letters_71.2.2.2.2.2.1 (by decide) ?_
                    refine s_istore (lv' := [(0, .ref (ad 0)), (1, .int v1), (2, .int v2), (3, .int y3_68), (4, .int y4_68), (5, .int y5_68), (6, .int (nI 0)), (7, .int (nI 0))]) hX zcdX10_letters_71.2.2.2.2.2.2.1 (by decide) rfl ?_
                    have lp82 : ∀ (N82 : Nat) (y6_82 : Int32) (y7_82 : Int32), wlp2 (f_X10_letters_B82 v1 M_3 ag68 y3_68 y4_68 y5_68) N82 y6_82 y7_82 = some r0 → V X M_3 [(0, .ref (ad 0)), (1, .int v1), (2, .int v2), (3, .int y3_68), (4, .int y4_68), (5, .int y5_68), (6, .int y6_82), (7, .int y7_82)] [] 82 := by
                      intro N82
                      induction N82 with
                      | zero => exact fun _ _ h => e_none h
                      | succ N82 ih82 =>
                        intro y6_82 y7_82 h
                        replace h : f_X10_letters_B82 v1 M_3 ag68 y3_68 y4_68 y5_68 (wlp2 (f_X10_letters_B82 v1 M_3 ag68 y3_68 y4_68 y5_68) N82) y6_82 y7_82 = some r0 := h
                        generalize wlp2 (f_X10_letters_B82 v1 M_3 ag68 y3_68 y4_68 y5_68) N82 = ag82 at ih82 h
                        refine s_iload (k := 7) hX zcdX10_letters_71.2.2.2.2.2.2.2 rfl ?_
                        refine s_iload_n (k := 1) hX zcdX10_letters_84.1 rfl rfl ?_
                        have j125 : f_X10_letters_L125 ag68 y3_68 y4_68 y5_68 y6_82 = some r0 → V X M_3 [(0, .ref (ad 0)), (1, .int v1), (2, .int v2), (3, .int y3_68), (4, .int y4_68), (5, .int y5_68), (6, .int y6_82)] [] 125 := by
                          intro  h
                          refine s_iload (k := 6) hX zcdX10_letters_117.2.2.2.1 rfl ?_
                          refine e_callSp hX (t_X10_size y6_82 M_3) mX10_size lX10_380 (by decide) (by decide) rfl rfl (Nat.le_of_ble_eq_true rfl) zcdX10_letters_117.2.2.2.2.1 h (fun r_4 h => ?_)
                          refine s_iload (k := 4) hX zcdX10_letters_117.2.2.2.2.2.1 rfl ?_
                          refine e_icmp_lt (tgt := 138) hX zcdX10_letters_117.2.2.2.2.2.2.1 (by decide) r_lt h (fun h => ?_) (fun h => ?_)
                          · refine s_iload (k := 6) hX zcdX10_letters_138.1 rfl ?_
                            refine e_callSp hX (t_X10_size y6_82 M_3) mX10_size lX10_380 (by decide) (by decide) rfl rfl (Nat.le_of_ble_eq_true rfl) zcdX10_letters_138.2.1 h (fun r_5 h => ?_)
                            refine s_istore (lv' := [(0, .ref (ad 0)), (1, .int v1), (2, .int v2), (3, .int y3_68), (5, .int y5_68), (6, .int y6_82), (4, .int r_5)]) hX zcdX10_letters_138.2.2.1 (by decide) rfl ?_
                            refine s_iload (k := 4) hX zcdX10_letters_138.2.2.2.1 rfl ?_
                            refine s_istore_n (lv' := [(0, .ref (ad 0)), (1, .int v1), (2, .int v2), (5, .int y5_68), (6, .int y6_82), (4, .int r_5), (3, .int y5_68)]) hX zcdX10_letters_138.2.2.2.2.1 rfl (by decide) rfl ?_
                            refine s_iload (k := 3) hX zcdX10_letters_138.2.2.2.2.2.1 rfl ?_
                            refine s_iconst (v := (nI 2)) hX zcdX10_letters_138.2.2.2.2.2.2.1 (by decide) ?_
                            refine s_iadd hX zcdX10_letters_138.2.2.2.2.2.2.2 ?_
                            refine s_istore (lv' := [(0, .ref (ad 0)), (1, .int v1), (2, .int v2), (6, .int y6_82), (4, .int r_5), (3, .int y5_68), (5, .int (y5_68 + (nI 2)))]) hX zcdX10_letters_152.1 (by decide) rfl ?_
                            refine s_goto (tgt := 68) hX zcdX10_letters_152.2.1 (by decide) ?_
                            refine s_loc [0, 1, 2, 5, 4, 6] rfl ?_
                            exact ih68 y5_68 r_5 (y5_68 + (nI 2)) h
                          · refine s_goto (tgt := 148) hX zcdX10_letters_117.2.2.2.2.2.2.2 (by decide) ?_
                            refine s_iload (k := 5) hX zcdX10_letters_138.2.2.2.2.2.1 rfl ?_
                            refine s_iconst (v := (nI 2)) hX zcdX10_letters_138.2.2.2.2.2.2.1 (by decide) ?_
                            refine s_iadd hX zcdX10_letters_138.2.2.2.2.2.2.2 ?_
                            refine s_istore (lv' := [(0, .ref (ad 0)), (1, .int v1), (2, .int v2), (3, .int y3_68), (4, .int y4_68), (6, .int y6_82), (5, .int (y5_68 + (nI 2)))]) hX zcdX10_letters_152.1 (by decide) rfl ?_
                            refine s_goto (tgt := 68) hX zcdX10_letters_152.2.1 (by decide) ?_
                            refine s_loc [0, 1, 2, 3, 4, 6] rfl ?_
                            exact ih68 y3_68 y4_68 (y5_68 + (nI 2)) h
                        refine e_icmp_ge (tgt := 125) hX zcdX10_letters_84.2.1 (by decide) r_le h (fun h => ?_) (fun h => ?_)
                        · refine s_loc [0, 1, 2, 3, 4, 5, 6] rfl ?_
                          exact j125 h
                        · refine s_iload (k := 6) hX zcdX10_letters_84.2.2.1 rfl ?_
                          refine s_iload (k := 5) hX zcdX10_letters_84.2.2.2.1 rfl ?_
                          refine s_iload (k := 7) hX zcdX10_letters_84.2.2.2.2.1 rfl ?_
                          refine e_callSp hX (t_X10_has y5_68 y7_82 M_3) mX10_has lX10_140 (by decide) (by decide) rfl rfl (Nat.le_of_ble_eq_true rfl) zcdX10_letters_84.2.2.2.2.2.1 h (fun r_6 h => ?_)
                          refine e_if_eq (tgt := 109) hX zcdX10_letters_84.2.2.2.2.2.2.1 (by decide) z_eq h (fun h => ?_) (fun h => ?_)
                          · refine s_aload_n (k := 0) hX zcdX10_letters_101.2.2.2.1 rfl rfl ?_
                            refine s_iload (k := 7) hX zcdX10_letters_101.2.2.2.2.1 rfl ?_
                            refine e_callVp hX (t_X10_octet y7_82 M_3) mX10_octet lX10_377 (by decide) (by decide) oM0 rfl rfl rfl rfl rfl (Nat.le_of_ble_eq_true rfl) zcdX10_letters_101.2.2.2.2.2.1 h (fun r_7 h => ?_)
                            refine s_ineg hX zcdX10_letters_101.2.2.2.2.2.2.1 ?_
                            refine s_iadd hX zcdX10_letters_101.2.2.2.2.2.2.2 ?_
                            refine e_bnd h (fun x_8 h => ?_)
                            refine s_istore (lv' := [(0, .ref (ad 0)), (1, .int v1), (2, .int v2), (3, .int y3_68), (4, .int y4_68), (5, .int y5_68), (7, .int y7_82), (6, .int x_8)]) hX zcdX10_letters_117.1 (by decide) rfl ?_
                            refine s_iinc (k := 6) (v := (y7_82 + (nI 1))) (lv' := [(0, .ref (ad 0)), (1, .int v1), (2, .int v2), (3, .int y3_68), (4, .int y4_68), (5, .int y5_68), (6, .int x_8), (7, .int (y7_82 + (nI 1)))]) hX zcdX10_letters_117.2.1 (congrArg (fun z => y7_82 + z) (by decide)) (by decide) rfl rfl ?_
                            refine s_goto (tgt := 82) hX zcdX10_letters_117.2.2.1 (by decide) ?_
                            exact ih82 x_8 (y7_82 + (nI 1)) h
                          · refine s_aload_n (k := 0) hX zcdX10_letters_84.2.2.2.2.2.2.2 rfl rfl ?_
                            refine s_iload (k := 7) hX zcdX10_letters_101.1 rfl ?_
                            refine e_callVp hX (t_X10_octet y7_82 M_3) mX10_octet lX10_377 (by decide) (by decide) oM0 rfl rfl rfl rfl rfl (Nat.le_of_ble_eq_true rfl) zcdX10_letters_101.2.1 h (fun r_9 h => ?_)
                            refine s_goto (tgt := 116) hX zcdX10_letters_101.2.2.1 (by decide) ?_
                            refine s_iadd hX zcdX10_letters_101.2.2.2.2.2.2.2 ?_
                            refine e_bnd h (fun x_10 h => ?_)
                            refine s_istore (lv' := [(0, .ref (ad 0)), (1, .int v1), (2, .int v2), (3, .int y3_68), (4, .int y4_68), (5, .int y5_68), (7, .int y7_82), (6, .int x_10)]) hX zcdX10_letters_117.1 (by decide) rfl ?_
                            refine s_iinc (k := 6) (v := (y7_82 + (nI 1))) (lv' := [(0, .ref (ad 0)), (1, .int v1), (2, .int v2), (3, .int y3_68), (4, .int y4_68), (5, .int y5_68), (6, .int x_10), (7, .int (y7_82 + (nI 1)))]) hX zcdX10_letters_117.2.1 (congrArg (fun z => y7_82 + z) (by decide)) (by decide) rfl rfl ?_
                            refine s_goto (tgt := 82) hX zcdX10_letters_117.2.2.1 (by decide) ?_
                            exact ih82 x_10 (y7_82 + (nI 1)) h
                    exact lp82 FU (nI 0) (nI 0) h
              exact lp68 FU (nI 0) (nI 1000000) (nI 1) h
            refine e_icmp_ge (tgt := 58) hX zcdX10_letters_29.2.2.2.2.2.2.2 (by decide) r_le h (fun h => ?_) (fun h => ?_)
            · refine s_loc [0, 1, 2] rfl ?_
              exact j58 h
            · refine s_aload_n (k := 0) hX zcdX10_letters_41.1 rfl rfl ?_
              refine s_iload_n (k := 3) hX zcdX10_letters_41.2.1 rfl rfl ?_
              refine e_callVp hX (t_X10_octet y3_36 M_3) mX10_octet lX10_377 (by decide) (by decide) oM0 rfl rfl rfl rfl rfl (Nat.le_of_ble_eq_true rfl) zcdX10_letters_41.2.2.1 h (fun r_11 h => ?_)
              refine e_if_ne (tgt := 52) hX zcdX10_letters_41.2.2.2.1 (by decide) z_eq h (fun h => ?_) (fun h => ?_)
              · refine s_iinc (k := 3) (v := (y3_36 + (nI 1))) (lv' := [(0, .ref (ad 0)), (1, .int v1), (2, .int v2), (3, .int (y3_36 + (nI 1)))]) hX zcdX10_letters_41.2.2.2.2.2.2.1 (congrArg (fun z => y3_36 + z) (by decide)) (by decide) rfl rfl ?_
                refine s_goto (tgt := 36) hX zcdX10_letters_41.2.2.2.2.2.2.2 (by decide) ?_
                exact ih36 (y3_36 + (nI 1)) h
              · refine s_bipush (v := (-2)) hX zcdX10_letters_41.2.2.2.2.1 (by decide) ?_
                exact e_ireti hX hR zcdX10_letters_41.2.2.2.2.2.1 h
        exact lp36 FU (nI 0) h
      · refine s_iconst (v := (-1)) hX zcdX10_letters_13.2.2.2.2.2.2.1 (by decide) ?_
        exact e_ireti hX hR zcdX10_letters_13.2.2.2.2.2.2.2 h
set_option maxHeartbeats 4000000 in
theorem t_X10_market (M : Mem) : AXi yX10_market cX10_market 3 (some .int) 4 39 glM (fun ad => [.ref (ad 0)]) M (f_X10_market M) := by
  intro r0 h
  refine AM.of (by decide) (fun _ => Nat.le_of_ble_eq_true rfl) (fun X ad cI cZ cB hX hR => ?_)
  show V X M [(0, .ref (ad 0))] [] 0
  refine s_iconst (v := (nI 0)) hX zcdX10_market_0.1 (by decide) ?_
  refine s_istore_n (lv' := [(0, .ref (ad 0)), (1, .int (nI 0))]) hX zcdX10_market_0.2.1 rfl (by decide) rfl ?_
  refine s_iconst (v := (nI 0)) hX zcdX10_market_0.2.2.1 (by decide) ?_
  refine s_istore_n (lv' := [(0, .ref (ad 0)), (1, .int (nI 0)), (2, .int (nI 0))]) hX zcdX10_market_0.2.2.2.1 rfl (by decide) rfl ?_
  have lp4 : ∀ (N4 : Nat) (M4 : Mem) (y1_4 : Int32) (y2_4 : Int32), wlp3 f_X10_market_B4 N4 M4 y1_4 y2_4 = some r0 → V X M4 [(0, .ref (ad 0)), (1, .int y1_4), (2, .int y2_4)] [] 4 := by
    intro N4
    induction N4 with
    | zero => exact fun _ _ _ h => e_none h
    | succ N4 ih4 =>
      intro M4 y1_4 y2_4 h
      replace h : f_X10_market_B4 (wlp3 f_X10_market_B4 N4) M4 y1_4 y2_4 = some r0 := h
      generalize wlp3 f_X10_market_B4 N4 = ag4 at ih4 h
      refine s_iload_n (k := 2) hX zcdX10_market_0.2.2.2.2.1 rfl rfl ?_
      refine s_bipush (v := (nI 8)) hX zcdX10_market_0.2.2.2.2.2.1 (by decide) ?_
      refine e_icmp_ge (tgt := 44) hX zcdX10_market_0.2.2.2.2.2.2.1 (by decide) (m_ge (by decide +kernel)) h (fun h => ?_) (fun h => ?_)
      · refine s_iload_n (k := 1) hX zcdX10_market_37.2.2.2.1 rfl rfl ?_
        exact e_ireti hX hR zcdX10_market_37.2.2.2.2 h
      · refine s_aload_n (k := 0) hX zcdX10_market_0.2.2.2.2.2.2.2 rfl rfl ?_
        refine s_iload_n (k := 2) hX zcdX10_market_11.1 rfl rfl ?_
        refine e_callVp hX (t_X10_isPerson y2_4 M4) mX10_isPerson lX10_334 (by decide) (by decide) oM0 rfl rfl rfl rfl rfl (Nat.le_of_ble_eq_true rfl) zcdX10_market_11.2.1 h (fun r_1 h => ?_)
        refine e_if_eq (tgt := 38) hX zcdX10_market_11.2.2.1 (by decide) z_eq h (fun h => ?_) (fun h => ?_)
        · refine s_iinc (k := 2) (v := (y2_4 + (nI 1))) (lv' := [(0, .ref (ad 0)), (1, .int y1_4), (2, .int (y2_4 + (nI 1)))]) hX zcdX10_market_37.2.1 (congrArg (fun z => y2_4 + z) (by decide)) (by decide) rfl rfl ?_
          refine s_goto (tgt := 4) hX zcdX10_market_37.2.2.1 (by decide) ?_
          exact ih4 M4 y1_4 (y2_4 + (nI 1)) h
        · refine s_aload_n (k := 0) hX zcdX10_market_11.2.2.2.1 rfl rfl ?_
          refine s_aload_n (k := 0) hX zcdX10_market_11.2.2.2.2.1 rfl rfl ?_
          refine s_get hX fX10_19 oM0 rfl zcdX10_market_11.2.2.2.2.2.1 ?_
          refine s_iload_n (k := 2) hX zcdX10_market_11.2.2.2.2.2.2.1 rfl rfl ?_
          refine e_iald hX aM4 zcdX10_market_11.2.2.2.2.2.2.2 h (fun h => ?_)
          refine e_callVi hX (t_X10_crossing (M4 4 (ix y2_4)) M4) mX10_crossing lX10_337 (by decide) (by decide) oM0 rfl rfl rfl rfl rfl (Nat.le_of_ble_eq_true rfl) zcdX10_market_25.1 h (fun r_2 M_3 h => ?_)
          refine s_iconst (v := (-1)) hX zcdX10_market_25.2.1 (by decide) ?_
          refine e_icmp_eq (tgt := 38) hX zcdX10_market_25.2.2.1 (by decide) (m_eq (by decide +kernel)) h (fun h => ?_) (fun h => ?_)
          · refine s_iinc (k := 2) (v := (y2_4 + (nI 1))) (lv' := [(0, .ref (ad 0)), (1, .int y1_4), (2, .int (y2_4 + (nI 1)))]) hX zcdX10_market_37.2.1 (congrArg (fun z => y2_4 + z) (by decide)) (by decide) rfl rfl ?_
            refine s_goto (tgt := 4) hX zcdX10_market_37.2.2.1 (by decide) ?_
            exact ih4 M_3 y1_4 (y2_4 + (nI 1)) h
          · refine s_iload_n (k := 1) hX zcdX10_market_25.2.2.2.1 rfl rfl ?_
            refine s_iconst (v := (nI 1)) hX zcdX10_market_25.2.2.2.2.1 (by decide) ?_
            refine s_iload_n (k := 2) hX zcdX10_market_25.2.2.2.2.2.1 rfl rfl ?_
            refine e_ishl hX zcdX10_market_25.2.2.2.2.2.2.1 ?_
            refine s_ior hX zcdX10_market_25.2.2.2.2.2.2.2 ?_
            refine e_bnd h (fun x_4 h => ?_)
            refine s_istore_n (lv' := [(0, .ref (ad 0)), (2, .int y2_4), (1, .int x_4)]) hX zcdX10_market_37.1 rfl (by decide) rfl ?_
            refine s_iinc (k := 1) (v := (y2_4 + (nI 1))) (lv' := [(0, .ref (ad 0)), (1, .int x_4), (2, .int (y2_4 + (nI 1)))]) hX zcdX10_market_37.2.1 (congrArg (fun z => y2_4 + z) (by decide)) (by decide) rfl rfl ?_
            refine s_goto (tgt := 4) hX zcdX10_market_37.2.2.1 (by decide) ?_
            exact ih4 M_3 x_4 (y2_4 + (nI 1)) h
  exact lp4 FU M (nI 0) (nI 0) h
