theorem zcdX4_go_0 : decode cX4_go 0 = .ok (.aload_n 0, 1) ∧ decode cX4_go 1 = .ok (.iconst 0, 1) ∧ decode cX4_go 2 = .ok (.putfield 22, 3) ∧ decode cX4_go 5 = .ok (.aload_n 0, 1) ∧ decode cX4_go 6 = .ok (.iload_n 3, 1) ∧ decode cX4_go 7 = .ok (.putfield 25, 3) ∧ decode cX4_go 10 = .ok (.aload_n 0, 1) ∧ decode cX4_go 11 = .ok (.iconst 0, 1) := by decide +kernel
theorem zcdX4_go_12 : decode cX4_go 12 = .ok (.putfield 28, 3) ∧ decode cX4_go 15 = .ok (.iconst 0, 1) ∧ decode cX4_go 16 = .ok (.istore 4, 2) ∧ decode cX4_go 18 = .ok (.iload 4, 2) ∧ decode cX4_go 20 = .ok (.aload_n 0, 1) ∧ decode cX4_go 21 = .ok (.getfield 18, 3) ∧ decode cX4_go 24 = .ok (.if_icmp .ge 145, 3) ∧ decode cX4_go 27 = .ok (.iload 4, 2) := by decide +kernel
theorem zcdX4_go_29 : decode cX4_go 29 = .ok (.bipush 60, 2) ∧ decode cX4_go 31 = .ok (.if_icmp .ge 138, 3) ∧ decode cX4_go 34 = .ok (.aload_n 0, 1) ∧ decode cX4_go 35 = .ok (.getfield 28, 3) ∧ decode cX4_go 38 = .ok (.bipush 21, 2) ∧ decode cX4_go 40 = .ok (.if_icmp .ge 129, 3) ∧ decode cX4_go 43 = .ok (.aload_n 0, 1) ∧ decode cX4_go 44 = .ok (.getfield 25, 3) := by decide +kernel
theorem zcdX4_go_47 : decode cX4_go 47 = .ok (.aload_n 0, 1) ∧ decode cX4_go 48 = .ok (.getfield 9, 3) ∧ decode cX4_go 51 = .ok (.iload 4, 2) ∧ decode cX4_go 53 = .ok (.iaload, 1) ∧ decode cX4_go 54 = .ok (.iadd, 1) ∧ decode cX4_go 55 = .ok (.istore 5, 2) ∧ decode cX4_go 57 = .ok (.iconst 0, 1) ∧ decode cX4_go 58 = .ok (.bipush 21, 2) := by decide +kernel
theorem zcdX4_go_60 : decode cX4_go 60 = .ok (.aload_n 0, 1) ∧ decode cX4_go 61 = .ok (.getfield 28, 3) ∧ decode cX4_go 64 = .ok (.aload_n 0, 1) ∧ decode cX4_go 65 = .ok (.getfield 15, 3) ∧ decode cX4_go 68 = .ok (.iload 4, 2) ∧ decode cX4_go 70 = .ok (.iaload, 1) ∧ decode cX4_go 71 = .ok (.iadd, 1) ∧ decode cX4_go 72 = .ok (.invokestatic 72, 3) := by decide +kernel
theorem zcdX4_go_75 : decode cX4_go 75 = .ok (.invokestatic 78, 3) ∧ decode cX4_go 78 = .ok (.istore 6, 2) ∧ decode cX4_go 80 = .ok (.aload_n 0, 1) ∧ decode cX4_go 81 = .ok (.getfield 9, 3) ∧ decode cX4_go 84 = .ok (.iload 4, 2) ∧ decode cX4_go 86 = .ok (.iaload, 1) ∧ decode cX4_go 87 = .ok (.aload_n 0, 1) ∧ decode cX4_go 88 = .ok (.getfield 9, 3) := by decide +kernel
theorem zcdX4_go_91 : decode cX4_go 91 = .ok (.iload 4, 2) ∧ decode cX4_go 93 = .ok (.iaload, 1) ∧ decode cX4_go 94 = .ok (.imul, 1) ∧ decode cX4_go 95 = .ok (.aload_n 0, 1) ∧ decode cX4_go 96 = .ok (.getfield 15, 3) ∧ decode cX4_go 99 = .ok (.iload 4, 2) ∧ decode cX4_go 101 = .ok (.iaload, 1) ∧ decode cX4_go 102 = .ok (.aload_n 0, 1) := by decide +kernel
theorem zcdX4_go_103 : decode cX4_go 103 = .ok (.getfield 15, 3) ∧ decode cX4_go 106 = .ok (.iload 4, 2) ∧ decode cX4_go 108 = .ok (.iaload, 1) ∧ decode cX4_go 109 = .ok (.imul, 1) ∧ decode cX4_go 110 = .ok (.iadd, 1) ∧ decode cX4_go 111 = .ok (.iload_n 2, 1) ∧ decode cX4_go 112 = .ok (.iload_n 2, 1) ∧ decode cX4_go 113 = .ok (.imul, 1) := by decide +kernel
theorem zcdX4_go_114 : decode cX4_go 114 = .ok (.if_icmp .gt 7, 3) ∧ decode cX4_go 117 = .ok (.iconst 1, 1) ∧ decode cX4_go 118 = .ok (.goto 4, 3) ∧ decode cX4_go 121 = .ok (.iconst 0, 1) ∧ decode cX4_go 122 = .ok (.istore 7, 2) ∧ decode cX4_go 124 = .ok (.iload 7, 2) ∧ decode cX4_go 126 = .ok (.ifCond .eq 14, 3) ∧ decode cX4_go 129 = .ok (.aload_n 1, 1) := by decide +kernel
theorem zcdX4_go_130 : decode cX4_go 130 = .ok (.iload 5, 2) ∧ decode cX4_go 132 = .ok (.iload 6, 2) ∧ decode cX4_go 134 = .ok (.invokestatic 81, 3) ∧ decode cX4_go 137 = .ok (.ifCond .ne 4, 3) ∧ decode cX4_go 140 = .ok (.return_, 1) ∧ decode cX4_go 141 = .ok (.aload_n 0, 1) ∧ decode cX4_go 142 = .ok (.iload 5, 2) ∧ decode cX4_go 144 = .ok (.putfield 25, 3) := by decide +kernel
theorem zcdX4_go_147 : decode cX4_go 147 = .ok (.aload_n 0, 1) ∧ decode cX4_go 148 = .ok (.iload 6, 2) ∧ decode cX4_go 150 = .ok (.putfield 28, 3) ∧ decode cX4_go 153 = .ok (.aload_n 0, 1) ∧ decode cX4_go 154 = .ok (.dup, 1) ∧ decode cX4_go 155 = .ok (.getfield 22, 3) ∧ decode cX4_go 158 = .ok (.iconst 1, 1) ∧ decode cX4_go 159 = .ok (.iadd, 1) := by decide +kernel
theorem zcdX4_go_160 : decode cX4_go 160 = .ok (.putfield 22, 3) ∧ decode cX4_go 163 = .ok (.iinc 4 1, 3) ∧ decode cX4_go 166 = .ok (.goto (-148), 3) ∧ decode cX4_go 169 = .ok (.return_, 1) ∧ decode cX4_isHop 0 = .ok (.iload_n 0, 1) ∧ decode cX4_isHop 1 = .ok (.bipush 117, 2) ∧ decode cX4_isHop 3 = .ok (.if_icmp .eq 21, 3) ∧ decode cX4_isHop 6 = .ok (.iload_n 0, 1) := by decide +kernel
theorem zcdX4_isHop_7 : decode cX4_isHop 7 = .ok (.bipush 100, 2) ∧ decode cX4_isHop 9 = .ok (.if_icmp .eq 15, 3) ∧ decode cX4_isHop 12 = .ok (.iload_n 0, 1) ∧ decode cX4_isHop 13 = .ok (.bipush 111, 2) ∧ decode cX4_isHop 15 = .ok (.if_icmp .eq 9, 3) ∧ decode cX4_isHop 18 = .ok (.iload_n 0, 1) ∧ decode cX4_isHop 19 = .ok (.bipush 98, 2) ∧ decode cX4_isHop 21 = .ok (.if_icmp .ne 7, 3) := by decide +kernel
theorem zcdX4_isHop_24 : decode cX4_isHop 24 = .ok (.iconst 1, 1) ∧ decode cX4_isHop 25 = .ok (.goto 4, 3) ∧ decode cX4_isHop 28 = .ok (.iconst 0, 1) ∧ decode cX4_isHop 29 = .ok (.ireturn, 1) ∧ decode cX4_repeat 0 = .ok (.aload_n 0, 1) ∧ decode cX4_repeat 1 = .ok (.getfield 18, 3) ∧ decode cX4_repeat 4 = .ok (.iload_n 1, 1) ∧ decode cX4_repeat 5 = .ok (.isub, 1) := by decide +kernel
theorem zcdX4_repeat_6 : decode cX4_repeat 6 = .ok (.istore_n 3, 1) ∧ decode cX4_repeat 7 = .ok (.aload_n 0, 1) ∧ decode cX4_repeat 8 = .ok (.getfield 18, 3) ∧ decode cX4_repeat 11 = .ok (.iload_n 3, 1) ∧ decode cX4_repeat 12 = .ok (.iload_n 2, 1) ∧ decode cX4_repeat 13 = .ok (.imul, 1) ∧ decode cX4_repeat 14 = .ok (.iadd, 1) ∧ decode cX4_repeat 15 = .ok (.istore 4, 2) := by decide +kernel
theorem zcdX4_repeat_17 : decode cX4_repeat 17 = .ok (.iload_n 1, 1) ∧ decode cX4_repeat 18 = .ok (.ifCond .lt 14, 3) ∧ decode cX4_repeat 21 = .ok (.iload_n 3, 1) ∧ decode cX4_repeat 22 = .ok (.ifCond .lt 10, 3) ∧ decode cX4_repeat 25 = .ok (.iload 4, 2) ∧ decode cX4_repeat 27 = .ok (.bipush 60, 2) ∧ decode cX4_repeat 29 = .ok (.if_icmp .le 5, 3) ∧ decode cX4_repeat 32 = .ok (.iconst 0, 1) := by decide +kernel
theorem zcdX4_repeat_33 : decode cX4_repeat 33 = .ok (.ireturn, 1) ∧ decode cX4_repeat 34 = .ok (.aload_n 0, 1) ∧ decode cX4_repeat 35 = .ok (.getfield 18, 3) ∧ decode cX4_repeat 38 = .ok (.istore 5, 2) ∧ decode cX4_repeat 40 = .ok (.iload 5, 2) ∧ decode cX4_repeat 42 = .ok (.iload 4, 2) ∧ decode cX4_repeat 44 = .ok (.if_icmp .ge 41, 3) ∧ decode cX4_repeat 47 = .ok (.aload_n 0, 1) := by decide +kernel
theorem zcdX4_repeat_48 : decode cX4_repeat 48 = .ok (.getfield 9, 3) ∧ decode cX4_repeat 51 = .ok (.iload 5, 2) ∧ decode cX4_repeat 53 = .ok (.aload_n 0, 1) ∧ decode cX4_repeat 54 = .ok (.getfield 9, 3) ∧ decode cX4_repeat 57 = .ok (.iload 5, 2) ∧ decode cX4_repeat 59 = .ok (.iload_n 3, 1) ∧ decode cX4_repeat 60 = .ok (.isub, 1) ∧ decode cX4_repeat 61 = .ok (.iaload, 1) := by decide +kernel
theorem zcdX4_repeat_62 : decode cX4_repeat 62 = .ok (.iastore, 1) ∧ decode cX4_repeat 63 = .ok (.aload_n 0, 1) ∧ decode cX4_repeat 64 = .ok (.getfield 15, 3) ∧ decode cX4_repeat 67 = .ok (.iload 5, 2) ∧ decode cX4_repeat 69 = .ok (.aload_n 0, 1) ∧ decode cX4_repeat 70 = .ok (.getfield 15, 3) ∧ decode cX4_repeat 73 = .ok (.iload 5, 2) ∧ decode cX4_repeat 75 = .ok (.iload_n 3, 1) := by decide +kernel
theorem zcdX4_repeat_76 : decode cX4_repeat 76 = .ok (.isub, 1) ∧ decode cX4_repeat 77 = .ok (.iaload, 1) ∧ decode cX4_repeat 78 = .ok (.iastore, 1) ∧ decode cX4_repeat 79 = .ok (.iinc 5 1, 3) ∧ decode cX4_repeat 82 = .ok (.goto (-42), 3) ∧ decode cX4_repeat 85 = .ok (.aload_n 0, 1) ∧ decode cX4_repeat 86 = .ok (.iload 4, 2) ∧ decode cX4_repeat 88 = .ok (.putfield 18, 3) := by decide +kernel
theorem zcdX4_repeat_91 : decode cX4_repeat 91 = .ok (.iconst 1, 1) ∧ decode cX4_repeat 92 = .ok (.ireturn, 1) ∧ decode cX4_readHops 0 = .ok (.aload_n 1, 1) ∧ decode cX4_readHops 1 = .ok (.getfield 41, 3) ∧ decode cX4_readHops 4 = .ok (.istore_n 2, 1) ∧ decode cX4_readHops 5 = .ok (.iconst 0, 1) ∧ decode cX4_readHops 6 = .ok (.istore_n 3, 1) ∧ decode cX4_readHops 7 = .ok (.iconst 0, 1) := by decide +kernel
theorem zcdX4_readHops_8 : decode cX4_readHops 8 = .ok (.istore 4, 2) ∧ decode cX4_readHops 10 = .ok (.iconst 0, 1) ∧ decode cX4_readHops 11 = .ok (.istore 5, 2) ∧ decode cX4_readHops 13 = .ok (.iload 5, 2) ∧ decode cX4_readHops 15 = .ok (.bipush 60, 2) ∧ decode cX4_readHops 17 = .ok (.if_icmp .ge 124, 3) ∧ decode cX4_readHops 20 = .ok (.aload_n 1, 1) ∧ decode cX4_readHops 21 = .ok (.invokevirtual 35, 3) := by decide +kernel
theorem zcdX4_readHops_24 : decode cX4_readHops 24 = .ok (.invokestatic 62, 3) ∧ decode cX4_readHops 27 = .ok (.ifCond .eq 114, 3) ∧ decode cX4_readHops 30 = .ok (.aload_n 1, 1) ∧ decode cX4_readHops 31 = .ok (.invokevirtual 35, 3) ∧ decode cX4_readHops 34 = .ok (.istore 6, 2) ∧ decode cX4_readHops 36 = .ok (.aload_n 1, 1) ∧ decode cX4_readHops 37 = .ok (.dup, 1) ∧ decode cX4_readHops 38 = .ok (.getfield 41, 3) := by decide +kernel
theorem zcdX4_readHops_41 : decode cX4_readHops 41 = .ok (.iconst 1, 1) ∧ decode cX4_readHops 42 = .ok (.iadd, 1) ∧ decode cX4_readHops 43 = .ok (.putfield 41, 3) ∧ decode cX4_readHops 46 = .ok (.aload_n 1, 1) ∧ decode cX4_readHops 47 = .ok (.invokevirtual 35, 3) ∧ decode cX4_readHops 50 = .ok (.invokestatic 65, 3) ∧ decode cX4_readHops 53 = .ok (.ifCond .eq 11, 3) ∧ decode cX4_readHops 56 = .ok (.aload_n 1, 1) := by decide +kernel
theorem zcdX4_readHops_57 : decode cX4_readHops 57 = .ok (.iconst 2, 1) ∧ decode cX4_readHops 58 = .ok (.invokevirtual 68, 3) ∧ decode cX4_readHops 61 = .ok (.goto 4, 3) ∧ decode cX4_readHops 64 = .ok (.iconst 1, 1) ∧ decode cX4_readHops 65 = .ok (.istore 7, 2) ∧ decode cX4_readHops 67 = .ok (.iload 7, 2) ∧ decode cX4_readHops 69 = .ok (.iconst (-1), 1) ∧ decode cX4_readHops 70 = .ok (.if_icmp .ne 5, 3) := by decide +kernel
theorem zcdX4_readHops_73 : decode cX4_readHops 73 = .ok (.iconst 0, 1) ∧ decode cX4_readHops 74 = .ok (.ireturn, 1) ∧ decode cX4_readHops 75 = .ok (.iload_n 3, 1) ∧ decode cX4_readHops 76 = .ok (.iload 6, 2) ∧ decode cX4_readHops 78 = .ok (.bipush 117, 2) ∧ decode cX4_readHops 80 = .ok (.if_icmp .ne 8, 3) ∧ decode cX4_readHops 83 = .ok (.iload 7, 2) ∧ decode cX4_readHops 85 = .ok (.goto 17, 3) := by decide +kernel
theorem zcdX4_readHops_88 : decode cX4_readHops 88 = .ok (.iload 6, 2) ∧ decode cX4_readHops 90 = .ok (.bipush 100, 2) ∧ decode cX4_readHops 92 = .ok (.if_icmp .ne 9, 3) ∧ decode cX4_readHops 95 = .ok (.iload 7, 2) ∧ decode cX4_readHops 97 = .ok (.ineg, 1) ∧ decode cX4_readHops 98 = .ok (.goto 4, 3) ∧ decode cX4_readHops 101 = .ok (.iconst 0, 1) ∧ decode cX4_readHops 102 = .ok (.iadd, 1) := by decide +kernel
theorem zcdX4_readHops_103 : decode cX4_readHops 103 = .ok (.istore_n 3, 1) ∧ decode cX4_readHops 104 = .ok (.iload 4, 2) ∧ decode cX4_readHops 106 = .ok (.iload 6, 2) ∧ decode cX4_readHops 108 = .ok (.bipush 111, 2) ∧ decode cX4_readHops 110 = .ok (.if_icmp .ne 8, 3) ∧ decode cX4_readHops 113 = .ok (.iload 7, 2) ∧ decode cX4_readHops 115 = .ok (.goto 17, 3) ∧ decode cX4_readHops 118 = .ok (.iload 6, 2) := by decide +kernel
theorem zcdX4_readHops_120 : decode cX4_readHops 120 = .ok (.bipush 98, 2) ∧ decode cX4_readHops 122 = .ok (.if_icmp .ne 9, 3) ∧ decode cX4_readHops 125 = .ok (.iload 7, 2) ∧ decode cX4_readHops 127 = .ok (.ineg, 1) ∧ decode cX4_readHops 128 = .ok (.goto 4, 3) ∧ decode cX4_readHops 131 = .ok (.iconst 0, 1) ∧ decode cX4_readHops 132 = .ok (.iadd, 1) ∧ decode cX4_readHops 133 = .ok (.istore 4, 2) := by decide +kernel
theorem zcdX4_readHops_135 : decode cX4_readHops 135 = .ok (.iinc 5 1, 3) ∧ decode cX4_readHops 138 = .ok (.goto (-125), 3) ∧ decode cX4_readHops 141 = .ok (.aload_n 1, 1) ∧ decode cX4_readHops 142 = .ok (.getfield 41, 3) ∧ decode cX4_readHops 145 = .ok (.iload_n 2, 1) ∧ decode cX4_readHops 146 = .ok (.if_icmp .ne 10, 3) ∧ decode cX4_readHops 149 = .ok (.aload_n 1, 1) ∧ decode cX4_readHops 150 = .ok (.iconst 1, 1) := by decide +kernel
theorem zcdX4_readHops_151 : decode cX4_readHops 151 = .ok (.iload_n 2, 1) ∧ decode cX4_readHops 152 = .ok (.invokevirtual 44, 3) ∧ decode cX4_readHops 155 = .ok (.ireturn, 1) ∧ decode cX4_readHops 156 = .ok (.aload_n 0, 1) ∧ decode cX4_readHops 157 = .ok (.getfield 18, 3) ∧ decode cX4_readHops 160 = .ok (.ifCond .lt 12, 3) ∧ decode cX4_readHops 163 = .ok (.aload_n 0, 1) ∧ decode cX4_readHops 164 = .ok (.getfield 18, 3) := by decide +kernel
theorem zcdX4_readHops_167 : decode cX4_readHops 167 = .ok (.bipush 60, 2) ∧ decode cX4_readHops 169 = .ok (.if_icmp .lt 11, 3) ∧ decode cX4_readHops 172 = .ok (.aload_n 1, 1) ∧ decode cX4_readHops 173 = .ok (.bipush 6, 2) ∧ decode cX4_readHops 175 = .ok (.iload_n 2, 1) ∧ decode cX4_readHops 176 = .ok (.invokevirtual 44, 3) ∧ decode cX4_readHops 179 = .ok (.ireturn, 1) ∧ decode cX4_readHops 180 = .ok (.aload_n 0, 1) := by decide +kernel
theorem zcdX4_readHops_181 : decode cX4_readHops 181 = .ok (.getfield 9, 3) ∧ decode cX4_readHops 184 = .ok (.aload_n 0, 1) ∧ decode cX4_readHops 185 = .ok (.getfield 18, 3) ∧ decode cX4_readHops 188 = .ok (.iload_n 3, 1) ∧ decode cX4_readHops 189 = .ok (.iastore, 1) ∧ decode cX4_readHops 190 = .ok (.aload_n 0, 1) ∧ decode cX4_readHops 191 = .ok (.getfield 15, 3) ∧ decode cX4_readHops 194 = .ok (.aload_n 0, 1) := by decide +kernel
theorem zcdX4_readHops_195 : decode cX4_readHops 195 = .ok (.getfield 18, 3) ∧ decode cX4_readHops 198 = .ok (.iload 4, 2) ∧ decode cX4_readHops 200 = .ok (.iastore, 1) ∧ decode cX4_readHops 201 = .ok (.aload_n 0, 1) ∧ decode cX4_readHops 202 = .ok (.dup, 1) ∧ decode cX4_readHops 203 = .ok (.getfield 18, 3) ∧ decode cX4_readHops 206 = .ok (.iconst 1, 1) ∧ decode cX4_readHops 207 = .ok (.iadd, 1) := by decide +kernel
theorem zcdX4_readHops_208 : decode cX4_readHops 208 = .ok (.putfield 18, 3) ∧ decode cX4_readHops 211 = .ok (.iconst 1, 1) ∧ decode cX4_readHops 212 = .ok (.ireturn, 1) ∧ decode cX4_readSteps 0 = .ok (.iconst 0, 1) ∧ decode cX4_readSteps 1 = .ok (.istore_n 3, 1) ∧ decode cX4_readSteps 2 = .ok (.iload_n 3, 1) ∧ decode cX4_readSteps 3 = .ok (.bipush 60, 2) ∧ decode cX4_readSteps 5 = .ok (.if_icmp .ge 62, 3) := by decide +kernel
theorem zcdX4_readSteps_8 : decode cX4_readSteps 8 = .ok (.aload_n 1, 1) ∧ decode cX4_readSteps 9 = .ok (.invokevirtual 35, 3) ∧ decode cX4_readSteps 12 = .ok (.bipush 40, 2) ∧ decode cX4_readSteps 14 = .ok (.if_icmp .ne 12, 3) ∧ decode cX4_readSteps 17 = .ok (.aload_n 0, 1) ∧ decode cX4_readSteps 18 = .ok (.aload_n 1, 1) ∧ decode cX4_readSteps 19 = .ok (.iload_n 2, 1) ∧ decode cX4_readSteps 20 = .ok (.invokevirtual 48, 3) := by decide +kernel
theorem zcdX4_readSteps_23 : decode cX4_readSteps 23 = .ok (.goto 8, 3) ∧ decode cX4_readSteps 26 = .ok (.aload_n 0, 1) ∧ decode cX4_readSteps 27 = .ok (.aload_n 1, 1) ∧ decode cX4_readSteps 28 = .ok (.invokevirtual 51, 3) ∧ decode cX4_readSteps 31 = .ok (.istore 4, 2) ∧ decode cX4_readSteps 33 = .ok (.iload 4, 2) ∧ decode cX4_readSteps 35 = .ok (.ifCond .ne 5, 3) ∧ decode cX4_readSteps 38 = .ok (.iconst 0, 1) := by decide +kernel
theorem zcdX4_readSteps_39 : decode cX4_readSteps 39 = .ok (.ireturn, 1) ∧ decode cX4_readSteps 40 = .ok (.aload_n 1, 1) ∧ decode cX4_readSteps 41 = .ok (.invokevirtual 35, 3) ∧ decode cX4_readSteps 44 = .ok (.bipush 44, 2) ∧ decode cX4_readSteps 46 = .ok (.if_icmp .eq 5, 3) ∧ decode cX4_readSteps 49 = .ok (.iconst 1, 1) ∧ decode cX4_readSteps 50 = .ok (.ireturn, 1) ∧ decode cX4_readSteps 51 = .ok (.aload_n 1, 1) := by decide +kernel
theorem zcdX4_readSteps_52 : decode cX4_readSteps 52 = .ok (.dup, 1) ∧ decode cX4_readSteps 53 = .ok (.getfield 41, 3) ∧ decode cX4_readSteps 56 = .ok (.iconst 1, 1) ∧ decode cX4_readSteps 57 = .ok (.iadd, 1) ∧ decode cX4_readSteps 58 = .ok (.putfield 41, 3) ∧ decode cX4_readSteps 61 = .ok (.iinc 3 1, 3) ∧ decode cX4_readSteps 64 = .ok (.goto (-62), 3) ∧ decode cX4_readSteps 67 = .ok (.aload_n 1, 1) := by decide +kernel
theorem zcdX4_readSteps_68 : decode cX4_readSteps 68 = .ok (.iconst 1, 1) ∧ decode cX4_readSteps 69 = .ok (.aload_n 1, 1) ∧ decode cX4_readSteps 70 = .ok (.getfield 41, 3) ∧ decode cX4_readSteps 73 = .ok (.invokevirtual 44, 3) ∧ decode cX4_readSteps 76 = .ok (.ireturn, 1) ∧ decode cX4_readRound 0 = .ok (.aload_n 1, 1) ∧ decode cX4_readRound 1 = .ok (.getfield 41, 3) ∧ decode cX4_readRound 4 = .ok (.istore_n 3, 1) := by decide +kernel
theorem zcdX4_readRound_5 : decode cX4_readRound 5 = .ok (.aload_n 0, 1) ∧ decode cX4_readRound 6 = .ok (.getfield 18, 3) ∧ decode cX4_readRound 9 = .ok (.istore 4, 2) ∧ decode cX4_readRound 11 = .ok (.iload_n 2, 1) ∧ decode cX4_readRound 12 = .ok (.iconst 2, 1) ∧ decode cX4_readRound 13 = .ok (.if_icmp .lt 10, 3) ∧ decode cX4_readRound 16 = .ok (.aload_n 1, 1) ∧ decode cX4_readRound 17 = .ok (.iconst 5, 1) := by decide +kernel
theorem zcdX4_readRound_18 : decode cX4_readRound 18 = .ok (.iload_n 3, 1) ∧ decode cX4_readRound 19 = .ok (.invokevirtual 44, 3) ∧ decode cX4_readRound 22 = .ok (.ireturn, 1) ∧ decode cX4_readRound 23 = .ok (.aload_n 1, 1) ∧ decode cX4_readRound 24 = .ok (.dup, 1) ∧ decode cX4_readRound 25 = .ok (.getfield 41, 3) ∧ decode cX4_readRound 28 = .ok (.iconst 1, 1) ∧ decode cX4_readRound 29 = .ok (.iadd, 1) := by decide +kernel
theorem zcdX4_readRound_30 : decode cX4_readRound 30 = .ok (.putfield 41, 3) ∧ decode cX4_readRound 33 = .ok (.aload_n 0, 1) ∧ decode cX4_readRound 34 = .ok (.aload_n 1, 1) ∧ decode cX4_readRound 35 = .ok (.iload_n 2, 1) ∧ decode cX4_readRound 36 = .ok (.iconst 1, 1) ∧ decode cX4_readRound 37 = .ok (.iadd, 1) ∧ decode cX4_readRound 38 = .ok (.invokevirtual 31, 3) ∧ decode cX4_readRound 41 = .ok (.ifCond .eq 12, 3) := by decide +kernel
theorem zcdX4_readRound_44 : decode cX4_readRound 44 = .ok (.aload_n 1, 1) ∧ decode cX4_readRound 45 = .ok (.bipush 41, 2) ∧ decode cX4_readRound 47 = .ok (.invokevirtual 55, 3) ∧ decode cX4_readRound 50 = .ok (.ifCond .ne 5, 3) ∧ decode cX4_readRound 53 = .ok (.iconst 0, 1) ∧ decode cX4_readRound 54 = .ok (.ireturn, 1) ∧ decode cX4_readRound 55 = .ok (.aload_n 1, 1) ∧ decode cX4_readRound 56 = .ok (.invokevirtual 35, 3) := by decide +kernel
theorem zcdX4_readRound_59 : decode cX4_readRound 59 = .ok (.bipush 120, 2) ∧ decode cX4_readRound 61 = .ok (.if_icmp .eq 5, 3) ∧ decode cX4_readRound 64 = .ok (.iconst 1, 1) ∧ decode cX4_readRound 65 = .ok (.ireturn, 1) ∧ decode cX4_readRound 66 = .ok (.aload_n 1, 1) ∧ decode cX4_readRound 67 = .ok (.dup, 1) ∧ decode cX4_readRound 68 = .ok (.getfield 41, 3) ∧ decode cX4_readRound 71 = .ok (.iconst 1, 1) := by decide +kernel
theorem zcdX4_readRound_72 : decode cX4_readRound 72 = .ok (.iadd, 1) ∧ decode cX4_readRound 73 = .ok (.putfield 41, 3) ∧ decode cX4_readRound 76 = .ok (.aload_n 1, 1) ∧ decode cX4_readRound 77 = .ok (.invokevirtual 35, 3) ∧ decode cX4_readRound 80 = .ok (.istore 5, 2) ∧ decode cX4_readRound 82 = .ok (.iload 5, 2) ∧ decode cX4_readRound 84 = .ok (.bipush 50, 2) ∧ decode cX4_readRound 86 = .ok (.if_icmp .lt 10, 3) := by decide +kernel
theorem zcdX4_readRound_89 : decode cX4_readRound 89 = .ok (.iload 5, 2) ∧ decode cX4_readRound 91 = .ok (.bipush 57, 2) ∧ decode cX4_readRound 93 = .ok (.if_icmp .le 13, 3) ∧ decode cX4_readRound 96 = .ok (.aload_n 1, 1) ∧ decode cX4_readRound 97 = .ok (.iconst 1, 1) ∧ decode cX4_readRound 98 = .ok (.aload_n 1, 1) ∧ decode cX4_readRound 99 = .ok (.getfield 41, 3) ∧ decode cX4_readRound 102 = .ok (.invokevirtual 44, 3) := by decide +kernel
theorem zcdX4_readRound_105 : decode cX4_readRound 105 = .ok (.ireturn, 1) ∧ decode cX4_readRound 106 = .ok (.aload_n 1, 1) ∧ decode cX4_readRound 107 = .ok (.dup, 1) ∧ decode cX4_readRound 108 = .ok (.getfield 41, 3) ∧ decode cX4_readRound 111 = .ok (.iconst 1, 1) ∧ decode cX4_readRound 112 = .ok (.iadd, 1) ∧ decode cX4_readRound 113 = .ok (.putfield 41, 3) ∧ decode cX4_readRound 116 = .ok (.aload_n 0, 1) := by decide +kernel
theorem zcdX4_readRound_117 : decode cX4_readRound 117 = .ok (.iload 4, 2) ∧ decode cX4_readRound 119 = .ok (.iload 5, 2) ∧ decode cX4_readRound 121 = .ok (.bipush 49, 2) ∧ decode cX4_readRound 123 = .ok (.isub, 1) ∧ decode cX4_readRound 124 = .ok (.invokevirtual 59, 3) ∧ decode cX4_readRound 127 = .ok (.ifCond .ne 13, 3) ∧ decode cX4_readRound 130 = .ok (.aload_n 1, 1) ∧ decode cX4_readRound 131 = .ok (.bipush 6, 2) := by decide +kernel
theorem zcdX4_readRound_133 : decode cX4_readRound 133 = .ok (.iload_n 3, 1) ∧ decode cX4_readRound 134 = .ok (.invokevirtual 44, 3) ∧ decode cX4_readRound 137 = .ok (.ifCond .eq 7, 3) ∧ decode cX4_readRound 140 = .ok (.iconst 1, 1) ∧ decode cX4_readRound 141 = .ok (.goto 4, 3) ∧ decode cX4_readRound 144 = .ok (.iconst 0, 1) ∧ decode cX4_readRound 145 = .ok (.ireturn, 1) ∧ decode cX4_read 0 = .ok (.aload_n 0, 1) := by decide +kernel
theorem zcdX4_read_1 : decode cX4_read 1 = .ok (.iconst 0, 1) ∧ decode cX4_read 2 = .ok (.putfield 18, 3) ∧ decode cX4_read 5 = .ok (.aload_n 0, 1) ∧ decode cX4_read 6 = .ok (.aload_n 1, 1) ∧ decode cX4_read 7 = .ok (.iconst 0, 1) ∧ decode cX4_read 8 = .ok (.invokevirtual 31, 3) ∧ decode cX4_read 11 = .ok (.ifCond .ne 5, 3) ∧ decode cX4_read 14 = .ok (.iconst 0, 1) := by decide +kernel
theorem zcdX4_read_15 : decode cX4_read 15 = .ok (.ireturn, 1) ∧ decode cX4_read 16 = .ok (.aload_n 1, 1) ∧ decode cX4_read 17 = .ok (.invokevirtual 35, 3) ∧ decode cX4_read 20 = .ok (.iconst (-1), 1) ∧ decode cX4_read 21 = .ok (.if_icmp .eq 15, 3) ∧ decode cX4_read 24 = .ok (.aload_n 1, 1) ∧ decode cX4_read 25 = .ok (.iconst 1, 1) ∧ decode cX4_read 26 = .ok (.aload_n 1, 1) := by decide +kernel
theorem zcdX4_read_27 : decode cX4_read 27 = .ok (.getfield 41, 3) ∧ decode cX4_read 30 = .ok (.invokevirtual 44, 3) ∧ decode cX4_read 33 = .ok (.ifCond .eq 7, 3) ∧ decode cX4_read 36 = .ok (.iconst 1, 1) ∧ decode cX4_read 37 = .ok (.goto 4, 3) ∧ decode cX4_read 40 = .ok (.iconst 0, 1) ∧ decode cX4_read 41 = .ok (.ireturn, 1) ∧ decode cX5_look 0 = .ok (.aload_n 1, 1) := by decide +kernel
theorem zcdX5_look_1 : decode cX5_look 1 = .ok (.iload_n 3, 1) ∧ decode cX5_look 2 = .ok (.invokevirtual 35, 3) ∧ decode cX5_look 5 = .ok (.ifCond .ne 4, 3) ∧ decode cX5_look 8 = .ok (.return_, 1) ∧ decode cX5_look 9 = .ok (.aload_n 0, 1) ∧ decode cX5_look 10 = .ok (.getfield 11, 3) ∧ decode cX5_look 13 = .ok (.iconst 0, 1) ∧ decode cX5_look 14 = .ok (.iload_n 3, 1) := by decide +kernel
theorem zcdX5_look_15 : decode cX5_look 15 = .ok (.iastore, 1) ∧ decode cX5_look 16 = .ok (.aload_n 0, 1) ∧ decode cX5_look 17 = .ok (.getfield 11, 3) ∧ decode cX5_look 20 = .ok (.iconst 1, 1) ∧ decode cX5_look 21 = .ok (.aload_n 1, 1) ∧ decode cX5_look 22 = .ok (.getfield 63, 3) ∧ decode cX5_look 25 = .ok (.iload_n 3, 1) ∧ decode cX5_look 26 = .ok (.iaload, 1) := by decide +kernel
theorem zcdX5_look_27 : decode cX5_look 27 = .ok (.iastore, 1) ∧ decode cX5_look 28 = .ok (.aload_n 0, 1) ∧ decode cX5_look 29 = .ok (.getfield 11, 3) ∧ decode cX5_look 32 = .ok (.iconst 2, 1) ∧ decode cX5_look 33 = .ok (.aload_n 1, 1) ∧ decode cX5_look 34 = .ok (.getfield 66, 3) ∧ decode cX5_look 37 = .ok (.iload_n 3, 1) ∧ decode cX5_look 38 = .ok (.iaload, 1) := by decide +kernel
theorem zcdX5_look_39 : decode cX5_look 39 = .ok (.iastore, 1) ∧ decode cX5_look 40 = .ok (.aload_n 0, 1) ∧ decode cX5_look 41 = .ok (.getfield 11, 3) ∧ decode cX5_look 44 = .ok (.iconst 3, 1) ∧ decode cX5_look 45 = .ok (.aload_n 1, 1) ∧ decode cX5_look 46 = .ok (.getfield 69, 3) ∧ decode cX5_look 49 = .ok (.iload_n 3, 1) ∧ decode cX5_look 50 = .ok (.iaload, 1) := by decide +kernel
theorem zcdX5_look_51 : decode cX5_look 51 = .ok (.iastore, 1) ∧ decode cX5_look 52 = .ok (.aload_n 0, 1) ∧ decode cX5_look 53 = .ok (.getfield 11, 3) ∧ decode cX5_look 56 = .ok (.iconst 4, 1) ∧ decode cX5_look 57 = .ok (.aload_n 1, 1) ∧ decode cX5_look 58 = .ok (.getfield 56, 3) ∧ decode cX5_look 61 = .ok (.iload_n 3, 1) ∧ decode cX5_look 62 = .ok (.baload, 1) := by decide +kernel
theorem zcdX5_look_63 : decode cX5_look 63 = .ok (.ifCond .eq 7, 3) ∧ decode cX5_look 66 = .ok (.iconst 1, 1) ∧ decode cX5_look 67 = .ok (.goto 4, 3) ∧ decode cX5_look 70 = .ok (.iconst 0, 1) ∧ decode cX5_look 71 = .ok (.iastore, 1) ∧ decode cX5_look 72 = .ok (.aload_n 0, 1) ∧ decode cX5_look 73 = .ok (.getfield 11, 3) ∧ decode cX5_look 76 = .ok (.iconst 5, 1) := by decide +kernel
theorem zcdX5_look_77 : decode cX5_look 77 = .ok (.aload_n 2, 1) ∧ decode cX5_look 78 = .ok (.getfield 72, 3) ∧ decode cX5_look 81 = .ok (.ifCond .eq 11, 3) ∧ decode cX5_look 84 = .ok (.aload_n 1, 1) ∧ decode cX5_look 85 = .ok (.iload_n 3, 1) ∧ decode cX5_look 86 = .ok (.invokevirtual 76, 3) ∧ decode cX5_look 89 = .ok (.goto 4, 3) ∧ decode cX5_look 92 = .ok (.iconst 0, 1) := by decide +kernel
theorem zcdX5_look_93 : decode cX5_look 93 = .ok (.iastore, 1) ∧ decode cX5_look 94 = .ok (.aload_n 0, 1) ∧ decode cX5_look 95 = .ok (.getfield 11, 3) ∧ decode cX5_look 98 = .ok (.bipush 7, 2) ∧ decode cX5_look 100 = .ok (.aload_n 1, 1) ∧ decode cX5_look 101 = .ok (.getfield 22, 3) ∧ decode cX5_look 104 = .ok (.bipush 100, 2) ∧ decode cX5_look 106 = .ok (.irem, 1) := by decide +kernel
theorem zcdX5_look_107 : decode cX5_look 107 = .ok (.iastore, 1) ∧ decode cX5_look 108 = .ok (.return_, 1) ∧ decode cX5_shift 0 = .ok (.aload_n 1, 1) ∧ decode cX5_shift 1 = .ok (.iload_n 2, 1) ∧ decode cX5_shift 2 = .ok (.invokevirtual 35, 3) ∧ decode cX5_shift 5 = .ok (.ifCond .ne 4, 3) ∧ decode cX5_shift 8 = .ok (.return_, 1) ∧ decode cX5_shift 9 = .ok (.iconst 0, 1) := by decide +kernel
theorem zcdX5_shift_10 : decode cX5_shift 10 = .ok (.bipush 39, 2) ∧ decode cX5_shift 12 = .ok (.aload_n 1, 1) ∧ decode cX5_shift 13 = .ok (.getfield 63, 3) ∧ decode cX5_shift 16 = .ok (.iload_n 2, 1) ∧ decode cX5_shift 17 = .ok (.iaload, 1) ∧ decode cX5_shift 18 = .ok (.iload_n 3, 1) ∧ decode cX5_shift 19 = .ok (.iadd, 1) ∧ decode cX5_shift 20 = .ok (.invokestatic 80, 3) := by decide +kernel
theorem zcdX5_shift_23 : decode cX5_shift 23 = .ok (.invokestatic 86, 3) ∧ decode cX5_shift 26 = .ok (.istore 5, 2) ∧ decode cX5_shift 28 = .ok (.iconst 1, 1) ∧ decode cX5_shift 29 = .ok (.bipush 20, 2) ∧ decode cX5_shift 31 = .ok (.aload_n 1, 1) ∧ decode cX5_shift 32 = .ok (.getfield 66, 3) ∧ decode cX5_shift 35 = .ok (.iload_n 2, 1) ∧ decode cX5_shift 36 = .ok (.iaload, 1) := by decide +kernel
theorem zcdX5_shift_37 : decode cX5_shift 37 = .ok (.iload 4, 2) ∧ decode cX5_shift 39 = .ok (.iadd, 1) ∧ decode cX5_shift 40 = .ok (.invokestatic 80, 3) ∧ decode cX5_shift 43 = .ok (.invokestatic 86, 3) ∧ decode cX5_shift 46 = .ok (.istore 6, 2) ∧ decode cX5_shift 48 = .ok (.iload 5, 2) ∧ decode cX5_shift 50 = .ok (.aload_n 1, 1) ∧ decode cX5_shift 51 = .ok (.getfield 63, 3) := by decide +kernel
theorem zcdX5_shift_54 : decode cX5_shift 54 = .ok (.iload_n 2, 1) ∧ decode cX5_shift 55 = .ok (.iaload, 1) ∧ decode cX5_shift 56 = .ok (.if_icmp .ne 15, 3) ∧ decode cX5_shift 59 = .ok (.iload 6, 2) ∧ decode cX5_shift 61 = .ok (.aload_n 1, 1) ∧ decode cX5_shift 62 = .ok (.getfield 66, 3) ∧ decode cX5_shift 65 = .ok (.iload_n 2, 1) ∧ decode cX5_shift 66 = .ok (.iaload, 1) := by decide +kernel
theorem zcdX5_shift_67 : decode cX5_shift 67 = .ok (.if_icmp .ne 4, 3) ∧ decode cX5_shift 70 = .ok (.return_, 1) ∧ decode cX5_shift 71 = .ok (.aload_n 1, 1) ∧ decode cX5_shift 72 = .ok (.iload 5, 2) ∧ decode cX5_shift 74 = .ok (.iload 6, 2) ∧ decode cX5_shift 76 = .ok (.invokevirtual 89, 3) ∧ decode cX5_shift 79 = .ok (.iconst (-1), 1) ∧ decode cX5_shift 80 = .ok (.if_icmp .eq 14, 3) := by decide +kernel
theorem zcdX5_shift_83 : decode cX5_shift 83 = .ok (.aload_n 0, 1) ∧ decode cX5_shift 84 = .ok (.dup, 1) ∧ decode cX5_shift 85 = .ok (.getfield 19, 3) ∧ decode cX5_shift 88 = .ok (.iconst 1, 1) ∧ decode cX5_shift 89 = .ok (.iadd, 1) ∧ decode cX5_shift 90 = .ok (.putfield 19, 3) ∧ decode cX5_shift 93 = .ok (.return_, 1) ∧ decode cX5_shift 94 = .ok (.aload_n 1, 1) := by decide +kernel
theorem zcdX5_shift_95 : decode cX5_shift 95 = .ok (.getfield 63, 3) ∧ decode cX5_shift 98 = .ok (.iload_n 2, 1) ∧ decode cX5_shift 99 = .ok (.iload 5, 2) ∧ decode cX5_shift 101 = .ok (.iastore, 1) ∧ decode cX5_shift 102 = .ok (.aload_n 1, 1) ∧ decode cX5_shift 103 = .ok (.getfield 66, 3) ∧ decode cX5_shift 106 = .ok (.iload_n 2, 1) ∧ decode cX5_shift 107 = .ok (.iload 6, 2) := by decide +kernel
theorem zcdX5_shift_109 : decode cX5_shift 109 = .ok (.iastore, 1) ∧ decode cX5_shift 110 = .ok (.aload_n 0, 1) ∧ decode cX5_shift 111 = .ok (.dup, 1) ∧ decode cX5_shift 112 = .ok (.getfield 15, 3) ∧ decode cX5_shift 115 = .ok (.iconst 1, 1) ∧ decode cX5_shift 116 = .ok (.iadd, 1) ∧ decode cX5_shift 117 = .ok (.putfield 15, 3) ∧ decode cX5_shift 120 = .ok (.return_, 1) := by decide +kernel
set_option maxHeartbeats 4000000 in
theorem t_X4_go (b : Nat) (hb : isF b) (v2 : Int32) (v3 : Int32) (M : Mem) : AXv yX4_go cX4_go 8 none 2 60 glC (fun ad => [.ref (ad 34), .ref (ad b), .int v2, .int v3]) M (f_X4_go b M v2 v3) := by
  intro r0 h
  refine AM.of (by decide) (fun _ => Nat.le_of_ble_eq_true rfl) (fun X ad cI cZ cB hX hR => ?_)
  show V X M [(0, .ref (ad 34)), (1, .ref (ad b)), (2, .int v2), (3, .int v3)] [] 0
  refine s_aload_n (k := 0) hX zcdX4_go_0.1 rfl rfl ?_
  refine s_iconst (v := (nI 0)) hX zcdX4_go_0.2.1 (by decide) ?_
  refine s_puti (ty := .int) hX fX4_22 oC34 rfl (Nat.le_of_ble_eq_true rfl) ty_4_3 rfl rfl zcdX4_go_0.2.2.1 ?_
  refine e_bndM h (fun M_1 h => ?_)
  refine s_aload_n (k := 0) hX zcdX4_go_0.2.2.2.1 rfl rfl ?_
  refine s_iload_n (k := 3) hX zcdX4_go_0.2.2.2.2.1 rfl rfl ?_
  refine s_puti (ty := .int) hX fX4_25 oC34 rfl (Nat.le_of_ble_eq_true rfl) ty_4_4 rfl rfl zcdX4_go_0.2.2.2.2.2.1 ?_
  refine e_bndM h (fun M_2 h => ?_)
  refine s_aload_n (k := 0) hX zcdX4_go_0.2.2.2.2.2.2.1 rfl rfl ?_
  refine s_iconst (v := (nI 0)) hX zcdX4_go_0.2.2.2.2.2.2.2 (by decide) ?_
  refine s_puti (ty := .int) hX fX4_28 oC34 rfl (Nat.le_of_ble_eq_true rfl) ty_4_5 rfl rfl zcdX4_go_12.1 ?_
  refine e_bndM h (fun M_3 h => ?_)
  refine s_iconst (v := (nI 0)) hX zcdX4_go_12.2.1 (by decide) ?_
  refine s_istore (lv' := [(0, .ref (ad 34)), (1, .ref (ad b)), (2, .int v2), (3, .int v3), (4, .int (nI 0))]) hX zcdX4_go_12.2.2.1 (by decide) rfl ?_
  have lp18 : ∀ (N18 : Nat) (M18 : Mem) (y4_18 : Int32), wlp2 (f_X4_go_B18 b v2) N18 M18 y4_18 = some r0 → V X M18 [(0, .ref (ad 34)), (1, .ref (ad b)), (2, .int v2), (4, .int y4_18)] [] 18 := by
    intro N18
    induction N18 with
    | zero => exact fun _ _ h => e_none h
    | succ N18 ih18 =>
      intro M18 y4_18 h
      replace h : f_X4_go_B18 b v2 (wlp2 (f_X4_go_B18 b v2) N18) M18 y4_18 = some r0 := h
      generalize wlp2 (f_X4_go_B18 b v2) N18 = ag18 at ih18 h
      refine s_iload (k := 3) hX zcdX4_go_12.2.2.2.1 rfl ?_
      refine s_aload_n (k := 0) hX zcdX4_go_12.2.2.2.2.1 rfl rfl ?_
      refine s_get hX fX4_18 oC34 rfl zcdX4_go_12.2.2.2.2.2.1 ?_
      refine e_icmp_ge (tgt := 169) hX zcdX4_go_12.2.2.2.2.2.2.1 (by decide) r_le h (fun h => ?_) (fun h => ?_)
      · exact e_vret hX hR zcdX4_go_160.2.2.2.1 h
      · refine s_iload (k := 3) hX zcdX4_go_12.2.2.2.2.2.2.2 rfl ?_
        refine s_bipush (v := (nI 60)) hX zcdX4_go_29.1 (by decide) ?_
        refine e_icmp_ge (tgt := 169) hX zcdX4_go_29.2.1 (by decide) (m_ge (by decide +kernel)) h (fun h => ?_) (fun h => ?_)
        · exact e_vret hX hR zcdX4_go_160.2.2.2.1 h
        · refine s_aload_n (k := 0) hX zcdX4_go_29.2.2.1 rfl rfl ?_
          refine s_get hX fX4_28 oC34 rfl zcdX4_go_29.2.2.2.1 ?_
          refine s_bipush (v := (nI 21)) hX zcdX4_go_29.2.2.2.2.1 (by decide) ?_
          refine e_icmp_ge (tgt := 169) hX zcdX4_go_29.2.2.2.2.2.1 (by decide) (m_ge (by decide +kernel)) h (fun h => ?_) (fun h => ?_)
          · exact e_vret hX hR zcdX4_go_160.2.2.2.1 h
          · refine s_aload_n (k := 0) hX zcdX4_go_29.2.2.2.2.2.2.1 rfl rfl ?_
            refine s_get hX fX4_25 oC34 rfl zcdX4_go_29.2.2.2.2.2.2.2 ?_
            refine s_aload_n (k := 0) hX zcdX4_go_47.1 rfl rfl ?_
            refine s_get hX fX4_9 oC34 rfl zcdX4_go_47.2.1 ?_
            refine s_iload (k := 3) hX zcdX4_go_47.2.2.1 rfl ?_
            refine e_iald hX aC35 zcdX4_go_47.2.2.2.1 h (fun h => ?_)
            refine s_iadd hX zcdX4_go_47.2.2.2.2.1 ?_
            refine e_bnd h (fun x_4 h => ?_)
            refine s_istore (lv' := [(0, .ref (ad 34)), (1, .ref (ad b)), (2, .int v2), (4, .int y4_18), (5, .int x_4)]) hX zcdX4_go_47.2.2.2.2.2.1 (by decide) rfl ?_
            refine s_iconst (v := (nI 0)) hX zcdX4_go_47.2.2.2.2.2.2.1 (by decide) ?_
            refine s_bipush (v := (nI 21)) hX zcdX4_go_47.2.2.2.2.2.2.2 (by decide) ?_
            refine s_aload_n (k := 0) hX zcdX4_go_60.1 rfl rfl ?_
            refine s_get hX fX4_28 oC34 rfl zcdX4_go_60.2.1 ?_
            refine s_aload_n (k := 0) hX zcdX4_go_60.2.2.1 rfl rfl ?_
            refine s_get hX fX4_15 oC34 rfl zcdX4_go_60.2.2.2.1 ?_
            refine s_iload (k := 3) hX zcdX4_go_60.2.2.2.2.1 rfl ?_
            refine e_iald hX aC36 zcdX4_go_60.2.2.2.2.2.1 h (fun h => ?_)
            refine s_iadd hX zcdX4_go_60.2.2.2.2.2.2.1 ?_
            refine e_mmin hX lX4_72 mJ9_min (by omega) (Nat.le_of_ble_eq_true rfl) zcdX4_go_60.2.2.2.2.2.2.2 ?_
            refine e_mmax hX lX4_78 mJ9_max (by omega) (Nat.le_of_ble_eq_true rfl) zcdX4_go_75.1 ?_
            refine e_bnd h (fun x_5 h => ?_)
            refine s_istore (lv' := [(0, .ref (ad 34)), (1, .ref (ad b)), (2, .int v2), (4, .int y4_18), (5, .int x_4), (6, .int x_5)]) hX zcdX4_go_75.2.1 (by decide) rfl ?_
            refine s_aload_n (k := 0) hX zcdX4_go_75.2.2.1 rfl rfl ?_
            refine s_get hX fX4_9 oC34 rfl zcdX4_go_75.2.2.2.1 ?_
            refine s_iload (k := 3) hX zcdX4_go_75.2.2.2.2.1 rfl ?_
            refine e_iald hX aC35 zcdX4_go_75.2.2.2.2.2.1 h (fun h => ?_)
            refine s_aload_n (k := 0) hX zcdX4_go_75.2.2.2.2.2.2.1 rfl rfl ?_
            refine s_get hX fX4_9 oC34 rfl zcdX4_go_75.2.2.2.2.2.2.2 ?_
            refine s_iload (k := 3) hX zcdX4_go_91.1 rfl ?_
            refine e_iald hX aC35 zcdX4_go_91.2.1 h (fun h => ?_)
            refine s_imul hX zcdX4_go_91.2.2.1 ?_
            refine s_aload_n (k := 0) hX zcdX4_go_91.2.2.2.1 rfl rfl ?_
            refine s_get hX fX4_15 oC34 rfl zcdX4_go_91.2.2.2.2.1 ?_
            refine s_iload (k := 3) hX zcdX4_go_91.2.2.2.2.2.1 rfl ?_
            refine e_iald hX aC36 zcdX4_go_91.2.2.2.2.2.2.1 h (fun h => ?_)
            refine s_aload_n (k := 0) hX zcdX4_go_91.2.2.2.2.2.2.2 rfl rfl ?_
            refine s_get hX fX4_15 oC34 rfl zcdX4_go_103.1 ?_
            refine s_iload (k := 3) hX zcdX4_go_103.2.1 rfl ?_
            refine e_iald hX aC36 zcdX4_go_103.2.2.1 h (fun h => ?_)
            refine s_imul hX zcdX4_go_103.2.2.2.1 ?_
            refine s_iadd hX zcdX4_go_103.2.2.2.2.1 ?_
            refine s_iload_n (k := 2) hX zcdX4_go_103.2.2.2.2.2.1 rfl rfl ?_
            refine s_iload_n (k := 2) hX zcdX4_go_103.2.2.2.2.2.2.1 rfl rfl ?_
            refine s_imul hX zcdX4_go_103.2.2.2.2.2.2.2 ?_
            have j122 : ∀ (t0_122 : Int32), f_X4_go_L122 b ag18 M18 y4_18 x_4 x_5 t0_122 = some r0 → V X M18 [(0, .ref (ad 34)), (1, .ref (ad b)), (2, .int v2), (4, .int y4_18), (5, .int x_4), (6, .int x_5)] [.int t0_122] 122 := by
              intro t0_122 h
              refine s_istore (lv' := [(0, .ref (ad 34)), (1, .ref (ad b)), (2, .int v2), (4, .int y4_18), (5, .int x_4), (6, .int x_5), (7, .int t0_122)]) hX zcdX4_go_114.2.2.2.2.1 (by decide) rfl ?_
              refine s_iload (k := 6) hX zcdX4_go_114.2.2.2.2.2.1 rfl ?_
              refine e_if_eq (tgt := 140) hX zcdX4_go_114.2.2.2.2.2.2.1 (by decide) z_eq h (fun h => ?_) (fun h => ?_)
              · exact e_vret hX hR zcdX4_go_130.2.2.2.2.1 h
              · refine s_aload_n (k := 1) hX zcdX4_go_114.2.2.2.2.2.2.2 rfl rfl ?_
                refine s_iload (k := 4) hX zcdX4_go_130.1 rfl ?_
                refine s_iload (k := 5) hX zcdX4_go_130.2.1 rfl ?_
                refine e_callSp hX (t_X4_isFooting b hb x_4 x_5 M18) mX4_isFooting lX4_81 (by decide) (by decide) rfl rfl (Nat.le_of_ble_eq_true rfl) zcdX4_go_130.2.2.1 h (fun r_6 h => ?_)
                refine e_if_ne (tgt := 141) hX zcdX4_go_130.2.2.2.1 (by decide) z_eq h (fun h => ?_) (fun h => ?_)
                · refine s_aload_n (k := 0) hX zcdX4_go_130.2.2.2.2.2.1 rfl rfl ?_
                  refine s_iload (k := 4) hX zcdX4_go_130.2.2.2.2.2.2.1 rfl ?_
                  refine s_puti (ty := .int) hX fX4_25 oC34 rfl (Nat.le_of_ble_eq_true rfl) ty_4_4 rfl rfl zcdX4_go_130.2.2.2.2.2.2.2 ?_
                  refine e_bndM h (fun M_7 h => ?_)
                  refine s_aload_n (k := 0) hX zcdX4_go_147.1 rfl rfl ?_
                  refine s_iload (k := 5) hX zcdX4_go_147.2.1 rfl ?_
                  refine s_puti (ty := .int) hX fX4_28 oC34 rfl (Nat.le_of_ble_eq_true rfl) ty_4_5 rfl rfl zcdX4_go_147.2.2.1 ?_
                  refine e_bndM h (fun M_8 h => ?_)
                  refine s_aload_n (k := 0) hX zcdX4_go_147.2.2.2.1 rfl rfl ?_
                  refine s_dup hX zcdX4_go_147.2.2.2.2.1 rfl ?_
                  refine s_get hX fX4_22 oC34 rfl zcdX4_go_147.2.2.2.2.2.1 ?_
                  refine s_iconst (v := (nI 1)) hX zcdX4_go_147.2.2.2.2.2.2.1 (by decide) ?_
                  refine s_iadd hX zcdX4_go_147.2.2.2.2.2.2.2 ?_
                  refine s_puti (ty := .int) hX fX4_22 oC34 rfl (Nat.le_of_ble_eq_true rfl) ty_4_3 rfl rfl zcdX4_go_160.1 ?_
                  refine e_bndM h (fun M_9 h => ?_)
                  refine s_iinc (k := 3) (v := (y4_18 + (nI 1))) (lv' := [(0, .ref (ad 34)), (1, .ref (ad b)), (2, .int v2), (5, .int x_4), (6, .int x_5), (7, .int t0_122), (4, .int (y4_18 + (nI 1)))]) hX zcdX4_go_160.2.1 (congrArg (fun z => y4_18 + z) (by decide)) (by decide) rfl rfl ?_
                  refine s_goto (tgt := 18) hX zcdX4_go_160.2.2.1 (by decide) ?_
                  refine s_loc [0, 1, 2, 6] rfl ?_
                  exact ih18 M_9 (y4_18 + (nI 1)) h
                · exact e_vret hX hR zcdX4_go_130.2.2.2.2.1 h
            refine e_icmp_gt (tgt := 121) hX zcdX4_go_114.1 (by decide) r_lt h (fun h => ?_) (fun h => ?_)
            · refine s_iconst (v := (nI 0)) hX zcdX4_go_114.2.2.2.1 (by decide) ?_
              exact j122 (nI 0) h
            · refine s_iconst (v := (nI 1)) hX zcdX4_go_114.2.1 (by decide) ?_
              refine s_goto (tgt := 122) hX zcdX4_go_114.2.2.1 (by decide) ?_
              exact j122 (nI 1) h
  refine s_loc [0, 1, 2, 4] rfl ?_
  exact lp18 FU M_3 (nI 0) h
set_option maxHeartbeats 4000000 in
theorem t_X4_isHop (v0 : Int32) (M : Mem) : AXp yX4_isHop cX4_isHop 1 (some .boolean) 0 60 glC (fun ad => [.int v0]) M (f_X4_isHop v0) := by
  intro r0 h
  refine AM.of (by decide) (fun _ => Nat.le_of_ble_eq_true rfl) (fun X ad cI cZ cB hX hR => ?_)
  show V X M [(0, .int v0)] [] 0
  refine s_iload_n (k := 0) hX zcdX4_go_160.2.2.2.2.1 rfl rfl ?_
  refine s_bipush (v := (nI 117)) hX zcdX4_go_160.2.2.2.2.2.1 (by decide) ?_
  refine e_icmp_eq (tgt := 24) hX zcdX4_go_160.2.2.2.2.2.2.1 (by decide) (m_eq (by decide +kernel)) h (fun h => ?_) (fun h => ?_)
  · refine s_iconst (v := (nI 1)) hX zcdX4_isHop_24.1 (by decide) ?_
    refine s_goto (tgt := 29) hX zcdX4_isHop_24.2.1 (by decide) ?_
    exact e_zretpL hX hR zcdX4_isHop_24.2.2.2.1 (by decide) h
  · refine s_iload_n (k := 0) hX zcdX4_go_160.2.2.2.2.2.2.2 rfl rfl ?_
    refine s_bipush (v := (nI 100)) hX zcdX4_isHop_7.1 (by decide) ?_
    refine e_icmp_eq (tgt := 24) hX zcdX4_isHop_7.2.1 (by decide) (m_eq (by decide +kernel)) h (fun h => ?_) (fun h => ?_)
    · refine s_iconst (v := (nI 1)) hX zcdX4_isHop_24.1 (by decide) ?_
      refine s_goto (tgt := 29) hX zcdX4_isHop_24.2.1 (by decide) ?_
      exact e_zretpL hX hR zcdX4_isHop_24.2.2.2.1 (by decide) h
    · refine s_iload_n (k := 0) hX zcdX4_isHop_7.2.2.1 rfl rfl ?_
      refine s_bipush (v := (nI 111)) hX zcdX4_isHop_7.2.2.2.1 (by decide) ?_
      refine e_icmp_eq (tgt := 24) hX zcdX4_isHop_7.2.2.2.2.1 (by decide) (m_eq (by decide +kernel)) h (fun h => ?_) (fun h => ?_)
      · refine s_iconst (v := (nI 1)) hX zcdX4_isHop_24.1 (by decide) ?_
        refine s_goto (tgt := 29) hX zcdX4_isHop_24.2.1 (by decide) ?_
        exact e_zretpL hX hR zcdX4_isHop_24.2.2.2.1 (by decide) h
      · refine s_iload_n (k := 0) hX zcdX4_isHop_7.2.2.2.2.2.1 rfl rfl ?_
        refine s_bipush (v := (nI 98)) hX zcdX4_isHop_7.2.2.2.2.2.2.1 (by decide) ?_
        refine e_icmp_ne (tgt := 28) hX zcdX4_isHop_7.2.2.2.2.2.2.2 (by decide) (m_eq (by decide +kernel)) h (fun h => ?_) (fun h => ?_)
        · refine s_iconst (v := (nI 0)) hX zcdX4_isHop_24.2.2.1 (by decide) ?_
          exact e_zretpL hX hR zcdX4_isHop_24.2.2.2.1 (by decide) h
        · refine s_iconst (v := (nI 1)) hX zcdX4_isHop_24.1 (by decide) ?_
          refine s_goto (tgt := 29) hX zcdX4_isHop_24.2.1 (by decide) ?_
          exact e_zretpL hX hR zcdX4_isHop_24.2.2.2.1 (by decide) h
set_option maxHeartbeats 4000000 in
theorem t_X4_repeat (v1 : Int32) (v2 : Int32) (M : Mem) : AXi yX4_repeat cX4_repeat 6 (some .boolean) 0 60 glC (fun ad => [.ref (ad 34), .int v1, .int v2]) M (f_X4_repeat M v1 v2) := by
  intro r0 h
  refine AM.of (by decide) (fun _ => Nat.le_of_ble_eq_true rfl) (fun X ad cI cZ cB hX hR => ?_)
  show V X M [(0, .ref (ad 34)), (1, .int v1), (2, .int v2)] [] 0
  refine s_aload_n (k := 0) hX zcdX4_isHop_24.2.2.2.2.1 rfl rfl ?_
  refine s_get hX fX4_18 oC34 rfl zcdX4_isHop_24.2.2.2.2.2.1 ?_
  refine s_iload_n (k := 1) hX zcdX4_isHop_24.2.2.2.2.2.2.1 rfl rfl ?_
  refine s_isub hX zcdX4_isHop_24.2.2.2.2.2.2.2 ?_
  refine e_bnd h (fun x_1 h => ?_)
  refine s_istore_n (lv' := [(0, .ref (ad 34)), (1, .int v1), (2, .int v2), (3, .int x_1)]) hX zcdX4_repeat_6.1 rfl (by decide) rfl ?_
  refine s_aload_n (k := 0) hX zcdX4_repeat_6.2.1 rfl rfl ?_
  refine s_get hX fX4_18 oC34 rfl zcdX4_repeat_6.2.2.1 ?_
  refine s_iload_n (k := 3) hX zcdX4_repeat_6.2.2.2.1 rfl rfl ?_
  refine s_iload_n (k := 2) hX zcdX4_repeat_6.2.2.2.2.1 rfl rfl ?_
  refine s_imul hX zcdX4_repeat_6.2.2.2.2.2.1 ?_
  refine s_iadd hX zcdX4_repeat_6.2.2.2.2.2.2.1 ?_
  refine e_bnd h (fun x_2 h => ?_)
  refine s_istore (lv' := [(0, .ref (ad 34)), (1, .int v1), (2, .int v2), (3, .int x_1), (4, .int x_2)]) hX zcdX4_repeat_6.2.2.2.2.2.2.2 (by decide) rfl ?_
  refine s_iload_n (k := 1) hX zcdX4_repeat_17.1 rfl rfl ?_
  refine e_if_lt (tgt := 32) hX zcdX4_repeat_17.2.1 (by decide) z_lt h (fun h => ?_) (fun h => ?_)
  · refine s_iconst (v := (nI 0)) hX zcdX4_repeat_17.2.2.2.2.2.2.2 (by decide) ?_
    exact e_zretiL hX hR zcdX4_repeat_33.1 (by decide) h
  · refine s_iload_n (k := 3) hX zcdX4_repeat_17.2.2.1 rfl rfl ?_
    refine e_if_lt (tgt := 32) hX zcdX4_repeat_17.2.2.2.1 (by decide) z_lt h (fun h => ?_) (fun h => ?_)
    · refine s_iconst (v := (nI 0)) hX zcdX4_repeat_17.2.2.2.2.2.2.2 (by decide) ?_
      exact e_zretiL hX hR zcdX4_repeat_33.1 (by decide) h
    · refine s_iload (k := 4) hX zcdX4_repeat_17.2.2.2.2.1 rfl ?_
      refine s_bipush (v := (nI 60)) hX zcdX4_repeat_17.2.2.2.2.2.1 (by decide) ?_
      refine e_icmp_le (tgt := 34) hX zcdX4_repeat_17.2.2.2.2.2.2.1 (by decide) (m_le (by decide +kernel)) h (fun h => ?_) (fun h => ?_)
      · refine s_aload_n (k := 0) hX zcdX4_repeat_33.2.1 rfl rfl ?_
        refine s_get hX fX4_18 oC34 rfl zcdX4_repeat_33.2.2.1 ?_
        refine e_bnd h (fun x_3 h => ?_)
        refine s_istore (lv' := [(0, .ref (ad 34)), (1, .int v1), (2, .int v2), (3, .int x_1), (4, .int x_2), (5, .int x_3)]) hX zcdX4_repeat_33.2.2.2.1 (by decide) rfl ?_
        have lp40 : ∀ (N40 : Nat) (M40 : Mem) (y5_40 : Int32), wlp2 (f_X4_repeat_B40 x_1 x_2) N40 M40 y5_40 = some r0 → V X M40 [(0, .ref (ad 34)), (3, .int x_1), (4, .int x_2), (5, .int y5_40)] [] 40 := by
          intro N40
          induction N40 with
          | zero => exact fun _ _ h => e_none h
          | succ N40 ih40 =>
            intro M40 y5_40 h
            replace h : f_X4_repeat_B40 x_1 x_2 (wlp2 (f_X4_repeat_B40 x_1 x_2) N40) M40 y5_40 = some r0 := h
            generalize wlp2 (f_X4_repeat_B40 x_1 x_2) N40 = ag40 at ih40 h
            refine s_iload (k := 3) hX zcdX4_repeat_33.2.2.2.2.1 rfl ?_
            refine s_iload (k := 2) hX zcdX4_repeat_33.2.2.2.2.2.1 rfl ?_
            refine e_icmp_ge (tgt := 85) hX zcdX4_repeat_33.2.2.2.2.2.2.1 (by decide) r_le h (fun h => ?_) (fun h => ?_)
            · refine s_aload_n (k := 0) hX zcdX4_repeat_76.2.2.2.2.2.1 rfl rfl ?_
              refine s_iload (k := 2) hX zcdX4_repeat_76.2.2.2.2.2.2.1 rfl ?_
              refine s_puti (ty := .int) hX fX4_18 oC34 rfl (Nat.le_of_ble_eq_true rfl) ty_4_2 rfl rfl zcdX4_repeat_76.2.2.2.2.2.2.2 ?_
              refine e_bndM h (fun M_4 h => ?_)
              refine s_iconst (v := (nI 1)) hX zcdX4_repeat_91.1 (by decide) ?_
              exact e_zretiL hX hR zcdX4_repeat_91.2.1 (by decide) h
            · refine s_aload_n (k := 0) hX zcdX4_repeat_33.2.2.2.2.2.2.2 rfl rfl ?_
              refine s_get hX fX4_9 oC34 rfl zcdX4_repeat_48.1 ?_
              refine s_iload (k := 3) hX zcdX4_repeat_48.2.1 rfl ?_
              refine s_aload_n (k := 0) hX zcdX4_repeat_48.2.2.1 rfl rfl ?_
              refine s_get hX fX4_9 oC34 rfl zcdX4_repeat_48.2.2.2.1 ?_
              refine s_iload (k := 3) hX zcdX4_repeat_48.2.2.2.2.1 rfl ?_
              refine s_iload_n (k := 1) hX zcdX4_repeat_48.2.2.2.2.2.1 rfl rfl ?_
              refine s_isub hX zcdX4_repeat_48.2.2.2.2.2.2.1 ?_
              refine e_iald hX aC35 zcdX4_repeat_48.2.2.2.2.2.2.2 h (fun h => ?_)
              refine e_iast hX aC35 zcdX4_repeat_62.1 h (fun h => ?_)
              refine e_bndM h (fun M_5 h => ?_)
              refine s_aload_n (k := 0) hX zcdX4_repeat_62.2.1 rfl rfl ?_
              refine s_get hX fX4_15 oC34 rfl zcdX4_repeat_62.2.2.1 ?_
              refine s_iload (k := 3) hX zcdX4_repeat_62.2.2.2.1 rfl ?_
              refine s_aload_n (k := 0) hX zcdX4_repeat_62.2.2.2.2.1 rfl rfl ?_
              refine s_get hX fX4_15 oC34 rfl zcdX4_repeat_62.2.2.2.2.2.1 ?_
              refine s_iload (k := 3) hX zcdX4_repeat_62.2.2.2.2.2.2.1 rfl ?_
              refine s_iload_n (k := 1) hX zcdX4_repeat_62.2.2.2.2.2.2.2 rfl rfl ?_
              refine s_isub hX zcdX4_repeat_76.1 ?_
              refine e_iald hX aC36 zcdX4_repeat_76.2.1 h (fun h => ?_)
              refine e_iast hX aC36 zcdX4_repeat_76.2.2.1 h (fun h => ?_)
              refine e_bndM h (fun M_6 h => ?_)
              refine s_iinc (k := 3) (v := (y5_40 + (nI 1))) (lv' := [(0, .ref (ad 34)), (3, .int x_1), (4, .int x_2), (5, .int (y5_40 + (nI 1)))]) hX zcdX4_repeat_76.2.2.2.1 (congrArg (fun z => y5_40 + z) (by decide)) (by decide) rfl rfl ?_
              refine s_goto (tgt := 40) hX zcdX4_repeat_76.2.2.2.2.1 (by decide) ?_
              exact ih40 M_6 (y5_40 + (nI 1)) h
        refine s_loc [0, 3, 4, 5] rfl ?_
        exact lp40 FU M x_3 h
      · refine s_iconst (v := (nI 0)) hX zcdX4_repeat_17.2.2.2.2.2.2.2 (by decide) ?_
        exact e_zretiL hX hR zcdX4_repeat_33.1 (by decide) h
set_option maxHeartbeats 4000000 in
theorem t_X4_readHops (M : Mem) : AXi yX4_readHops cX4_readHops 8 (some .boolean) 2 60 glC (fun ad => [.ref (ad 34), .ref (ad 19)]) M (f_X4_readHops M) := by
  intro r0 h
  refine AM.of (by decide) (fun _ => Nat.le_of_ble_eq_true rfl) (fun X ad cI cZ cB hX hR => ?_)
  show V X M [(0, .ref (ad 34)), (1, .ref (ad 19))] [] 0
  refine s_aload_n (k := 1) hX zcdX4_repeat_91.2.2.1 rfl rfl ?_
  refine s_get hX fX4_41 oC19 rfl zcdX4_repeat_91.2.2.2.1 ?_
  refine e_bnd h (fun x_1 h => ?_)
  refine s_istore_n (lv' := [(0, .ref (ad 34)), (1, .ref (ad 19)), (2, .int x_1)]) hX zcdX4_repeat_91.2.2.2.2.1 rfl (by decide) rfl ?_
  refine s_iconst (v := (nI 0)) hX zcdX4_repeat_91.2.2.2.2.2.1 (by decide) ?_
  refine s_istore_n (lv' := [(0, .ref (ad 34)), (1, .ref (ad 19)), (2, .int x_1), (3, .int (nI 0))]) hX zcdX4_repeat_91.2.2.2.2.2.2.1 rfl (by decide) rfl ?_
  refine s_iconst (v := (nI 0)) hX zcdX4_repeat_91.2.2.2.2.2.2.2 (by decide) ?_
  refine s_istore (lv' := [(0, .ref (ad 34)), (1, .ref (ad 19)), (2, .int x_1), (3, .int (nI 0)), (4, .int (nI 0))]) hX zcdX4_readHops_8.1 (by decide) rfl ?_
  refine s_iconst (v := (nI 0)) hX zcdX4_readHops_8.2.1 (by decide) ?_
  refine s_istore (lv' := [(0, .ref (ad 34)), (1, .ref (ad 19)), (2, .int x_1), (3, .int (nI 0)), (4, .int (nI 0)), (5, .int (nI 0))]) hX zcdX4_readHops_8.2.2.1 (by decide) rfl ?_
  have lp13 : ∀ (N13 : Nat) (M13 : Mem) (y3_13 : Int32) (y4_13 : Int32) (y5_13 : Int32), wlp4 (f_X4_readHops_B13 x_1) N13 M13 y3_13 y4_13 y5_13 = some r0 → V X M13 [(0, .ref (ad 34)), (1, .ref (ad 19)), (2, .int x_1), (3, .int y3_13), (4, .int y4_13), (5, .int y5_13)] [] 13 := by
    intro N13
    induction N13 with
    | zero => exact fun _ _ _ _ h => e_none h
    | succ N13 ih13 =>
      intro M13 y3_13 y4_13 y5_13 h
      replace h : f_X4_readHops_B13 x_1 (wlp4 (f_X4_readHops_B13 x_1) N13) M13 y3_13 y4_13 y5_13 = some r0 := h
      generalize wlp4 (f_X4_readHops_B13 x_1) N13 = ag13 at ih13 h
      refine s_iload (k := 5) hX zcdX4_readHops_8.2.2.2.1 rfl ?_
      refine s_bipush (v := (nI 60)) hX zcdX4_readHops_8.2.2.2.2.1 (by decide) ?_
      have j141 : f_X4_readHops_L141 x_1 M13 y3_13 y4_13 = some r0 → V X M13 [(0, .ref (ad 34)), (1, .ref (ad 19)), (2, .int x_1), (3, .int y3_13), (4, .int y4_13)] [] 141 := by
        intro  h
        refine s_aload_n (k := 1) hX zcdX4_readHops_135.2.2.1 rfl rfl ?_
        refine s_get hX fX4_41 oC19 rfl zcdX4_readHops_135.2.2.2.1 ?_
        refine s_iload_n (k := 2) hX zcdX4_readHops_135.2.2.2.2.1 rfl rfl ?_
        refine e_icmp_ne (tgt := 156) hX zcdX4_readHops_135.2.2.2.2.2.1 (by decide) r_eq h (fun h => ?_) (fun h => ?_)
        · refine s_aload_n (k := 0) hX zcdX4_readHops_151.2.2.2.1 rfl rfl ?_
          refine s_get hX fX4_18 oC34 rfl zcdX4_readHops_151.2.2.2.2.1 ?_
          have j172 : f_X4_readHops_L172 x_1 M13 = some r0 → V X M13 [(1, .ref (ad 19)), (2, .int x_1)] [] 172 := by
            intro  h
            refine s_aload_n (k := 0) hX zcdX4_readHops_167.2.2.1 rfl rfl ?_
            refine s_bipush (v := (nI 6)) hX zcdX4_readHops_167.2.2.2.1 (by decide) ?_
            refine s_iload_n (k := 1) hX zcdX4_readHops_167.2.2.2.2.1 rfl rfl ?_
            refine e_callVi hX (t_X7_refuse (nI 6) x_1 M13) mX7_refuse lX4_44 (by decide) (by decide) oC19 rfl rfl rfl rfl rfl (Nat.le_of_ble_eq_true rfl) zcdX4_readHops_167.2.2.2.2.2.1 h (fun r_2 M_3 h => ?_)
            exact e_zreti hX hR zcdX4_readHops_167.2.2.2.2.2.2.1 h
          refine e_if_lt (tgt := 172) hX zcdX4_readHops_151.2.2.2.2.2.1 (by decide) z_lt h (fun h => ?_) (fun h => ?_)
          · refine s_loc [1, 2] rfl ?_
            exact j172 h
          · refine s_aload_n (k := 0) hX zcdX4_readHops_151.2.2.2.2.2.2.1 rfl rfl ?_
            refine s_get hX fX4_18 oC34 rfl zcdX4_readHops_151.2.2.2.2.2.2.2 ?_
            refine s_bipush (v := (nI 60)) hX zcdX4_readHops_167.1 (by decide) ?_
            refine e_icmp_lt (tgt := 180) hX zcdX4_readHops_167.2.1 (by decide) (m_lt (by decide +kernel)) h (fun h => ?_) (fun h => ?_)
            · refine s_aload_n (k := 0) hX zcdX4_readHops_167.2.2.2.2.2.2.2 rfl rfl ?_
              refine s_get hX fX4_9 oC34 rfl zcdX4_readHops_181.1 ?_
              refine s_aload_n (k := 0) hX zcdX4_readHops_181.2.1 rfl rfl ?_
              refine s_get hX fX4_18 oC34 rfl zcdX4_readHops_181.2.2.1 ?_
              refine s_iload_n (k := 3) hX zcdX4_readHops_181.2.2.2.1 rfl rfl ?_
              refine e_iast hX aC35 zcdX4_readHops_181.2.2.2.2.1 h (fun h => ?_)
              refine e_bndM h (fun M_4 h => ?_)
              refine s_aload_n (k := 0) hX zcdX4_readHops_181.2.2.2.2.2.1 rfl rfl ?_
              refine s_get hX fX4_15 oC34 rfl zcdX4_readHops_181.2.2.2.2.2.2.1 ?_
              refine s_aload_n (k := 0) hX zcdX4_readHops_181.2.2.2.2.2.2.2 rfl rfl ?_
              refine s_get hX fX4_18 oC34 rfl zcdX4_readHops_195.1 ?_
              refine s_iload (k := 4) hX zcdX4_readHops_195.2.1 rfl ?_
              refine e_iast hX aC36 zcdX4_readHops_195.2.2.1 h (fun h => ?_)
              refine e_bndM h (fun M_5 h => ?_)
              refine s_aload_n (k := 0) hX zcdX4_readHops_195.2.2.2.1 rfl rfl ?_
              refine s_dup hX zcdX4_readHops_195.2.2.2.2.1 rfl ?_
              refine s_get hX fX4_18 oC34 rfl zcdX4_readHops_195.2.2.2.2.2.1 ?_
              refine s_iconst (v := (nI 1)) hX zcdX4_readHops_195.2.2.2.2.2.2.1 (by decide) ?_
              refine s_iadd hX zcdX4_readHops_195.2.2.2.2.2.2.2 ?_
              refine s_puti (ty := .int) hX fX4_18 oC34 rfl (Nat.le_of_ble_eq_true rfl) ty_4_2 rfl rfl zcdX4_readHops_208.1 ?_
              refine e_bndM h (fun M_6 h => ?_)
              refine s_iconst (v := (nI 1)) hX zcdX4_readHops_208.2.1 (by decide) ?_
              exact e_zretiL hX hR zcdX4_readHops_208.2.2.1 (by decide) h
            · refine s_loc [1, 2] rfl ?_
              exact j172 h
        · refine s_aload_n (k := 1) hX zcdX4_readHops_135.2.2.2.2.2.2.1 rfl rfl ?_
          refine s_iconst (v := (nI 1)) hX zcdX4_readHops_135.2.2.2.2.2.2.2 (by decide) ?_
          refine s_iload_n (k := 2) hX zcdX4_readHops_151.1 rfl rfl ?_
          refine e_callVi hX (t_X7_refuse (nI 1) x_1 M13) mX7_refuse lX4_44 (by decide) (by decide) oC19 rfl rfl rfl rfl rfl (Nat.le_of_ble_eq_true rfl) zcdX4_readHops_151.2.1 h (fun r_7 M_8 h => ?_)
          exact e_zreti hX hR zcdX4_readHops_151.2.2.1 h
      refine e_icmp_ge (tgt := 141) hX zcdX4_readHops_8.2.2.2.2.2.1 (by decide) (m_ge (by decide +kernel)) h (fun h => ?_) (fun h => ?_)
      · refine s_loc [0, 1, 2, 3, 4] rfl ?_
        exact j141 h
      · refine s_aload_n (k := 1) hX zcdX4_readHops_8.2.2.2.2.2.2.1 rfl rfl ?_
        refine e_callVp hX (t_X7_here M13) mX7_here lX4_35 (by decide) (by decide) oC19 rfl rfl rfl rfl rfl (Nat.le_of_ble_eq_true rfl) zcdX4_readHops_8.2.2.2.2.2.2.2 h (fun r_9 h => ?_)
        refine e_callSp hX (t_X4_isHop r_9 M13) mX4_isHop lX4_62 (by decide) (by decide) rfl rfl (Nat.le_of_ble_eq_true rfl) zcdX4_readHops_24.1 h (fun r_10 h => ?_)
        refine e_if_eq (tgt := 141) hX zcdX4_readHops_24.2.1 (by decide) z_eq h (fun h => ?_) (fun h => ?_)
        · refine s_loc [0, 1, 2, 3, 4] rfl ?_
          exact j141 h
        · refine s_aload_n (k := 1) hX zcdX4_readHops_24.2.2.1 rfl rfl ?_
          refine e_callVp hX (t_X7_here M13) mX7_here lX4_35 (by decide) (by decide) oC19 rfl rfl rfl rfl rfl (Nat.le_of_ble_eq_true rfl) zcdX4_readHops_24.2.2.2.1 h (fun r_11 h => ?_)
          refine s_istore (lv' := [(0, .ref (ad 34)), (1, .ref (ad 19)), (2, .int x_1), (3, .int y3_13), (4, .int y4_13), (5, .int y5_13), (6, .int r_11)]) hX zcdX4_readHops_24.2.2.2.2.1 (by decide) rfl ?_
          refine s_aload_n (k := 1) hX zcdX4_readHops_24.2.2.2.2.2.1 rfl rfl ?_
          refine s_dup hX zcdX4_readHops_24.2.2.2.2.2.2.1 rfl ?_
          refine s_get hX fX4_41 oC19 rfl zcdX4_readHops_24.2.2.2.2.2.2.2 ?_
          refine s_iconst (v := (nI 1)) hX zcdX4_readHops_41.1 (by decide) ?_
          refine s_iadd hX zcdX4_readHops_41.2.1 ?_
          refine s_puti (ty := .int) hX fX4_41 oC19 rfl (Nat.le_of_ble_eq_true rfl) ty_7_3 rfl rfl zcdX4_readHops_41.2.2.1 ?_
          refine e_bndM h (fun M_12 h => ?_)
          refine s_aload_n (k := 1) hX zcdX4_readHops_41.2.2.2.1 rfl rfl ?_
          refine e_callVp hX (t_X7_here M_12) mX7_here lX4_35 (by decide) (by decide) oC19 rfl rfl rfl rfl rfl (Nat.le_of_ble_eq_true rfl) zcdX4_readHops_41.2.2.2.2.1 h (fun r_13 h => ?_)
          refine e_callSp hX (t_X7_isDigit r_13 M_12) mX7_isDigit lX4_65 (by decide) (by decide) rfl rfl (Nat.le_of_ble_eq_true rfl) zcdX4_readHops_41.2.2.2.2.2.1 h (fun r_14 h => ?_)
          have j65 : ∀ (N65 : Mem) (t0_65 : Int32), f_X4_readHops_L65 ag13 y3_13 y4_13 y5_13 r_11 N65 t0_65 = some r0 → V X N65 [(0, .ref (ad 34)), (1, .ref (ad 19)), (2, .int x_1), (3, .int y3_13), (4, .int y4_13), (5, .int y5_13), (6, .int r_11)] [.int t0_65] 65 := by
            intro N65 t0_65 h
            refine s_istore (lv' := [(0, .ref (ad 34)), (1, .ref (ad 19)), (2, .int x_1), (3, .int y3_13), (4, .int y4_13), (5, .int y5_13), (6, .int r_11), (7, .int t0_65)]) hX zcdX4_readHops_57.2.2.2.2.1 (by decide) rfl ?_
            refine s_iload (k := 7) hX zcdX4_readHops_57.2.2.2.2.2.1 rfl ?_
            refine s_iconst (v := (-1)) hX zcdX4_readHops_57.2.2.2.2.2.2.1 (by decide) ?_
            refine e_icmp_ne (tgt := 75) hX zcdX4_readHops_57.2.2.2.2.2.2.2 (by decide) (m_eq (by decide +kernel)) h (fun h => ?_) (fun h => ?_)
            · refine s_iload_n (k := 3) hX zcdX4_readHops_73.2.2.1 rfl rfl ?_
              refine s_iload (k := 6) hX zcdX4_readHops_73.2.2.2.1 rfl ?_
              refine s_bipush (v := (nI 117)) hX zcdX4_readHops_73.2.2.2.2.1 (by decide) ?_
              have j102 : ∀ (t0_102 : Int32), f_X4_readHops_L102 ag13 y3_13 y4_13 y5_13 r_11 N65 t0_65 t0_102 = some r0 → V X N65 [(0, .ref (ad 34)), (1, .ref (ad 19)), (2, .int x_1), (4, .int y4_13), (5, .int y5_13), (6, .int r_11), (7, .int t0_65)] [.int t0_102, .int y3_13] 102 := by
                intro t0_102 h
                refine s_iadd hX zcdX4_readHops_88.2.2.2.2.2.2.2 ?_
                refine e_bnd h (fun x_15 h => ?_)
                refine s_istore_n (lv' := [(0, .ref (ad 34)), (1, .ref (ad 19)), (2, .int x_1), (4, .int y4_13), (5, .int y5_13), (6, .int r_11), (7, .int t0_65), (3, .int x_15)]) hX zcdX4_readHops_103.1 rfl (by decide) rfl ?_
                refine s_iload (k := 3) hX zcdX4_readHops_103.2.1 rfl ?_
                refine s_iload (k := 5) hX zcdX4_readHops_103.2.2.1 rfl ?_
                refine s_bipush (v := (nI 111)) hX zcdX4_readHops_103.2.2.2.1 (by decide) ?_
                refine e_icmp_ne (tgt := 118) hX zcdX4_readHops_103.2.2.2.2.1 (by decide) (m_eq (by decide +kernel)) h (fun h => ?_) (fun h => ?_)
                · refine s_iload (k := 5) hX zcdX4_readHops_103.2.2.2.2.2.2.2 rfl ?_
                  refine s_bipush (v := (nI 98)) hX zcdX4_readHops_120.1 (by decide) ?_
                  refine e_icmp_ne (tgt := 131) hX zcdX4_readHops_120.2.1 (by decide) (m_eq (by decide +kernel)) h (fun h => ?_) (fun h => ?_)
                  · refine s_iconst (v := (nI 0)) hX zcdX4_readHops_120.2.2.2.2.2.1 (by decide) ?_
                    refine s_iadd hX zcdX4_readHops_120.2.2.2.2.2.2.1 ?_
                    refine s_istore (lv' := [(0, .ref (ad 34)), (1, .ref (ad 19)), (2, .int x_1), (5, .int y5_13), (6, .int r_11), (7, .int t0_65), (3, .int x_15), (4, .int (y4_13 + (nI 0)))]) hX zcdX4_readHops_120.2.2.2.2.2.2.2 (by decide) rfl ?_
                    refine s_iinc (k := 3) (v := (y5_13 + (nI 1))) (lv' := [(0, .ref (ad 34)), (1, .ref (ad 19)), (2, .int x_1), (6, .int r_11), (7, .int t0_65), (3, .int x_15), (4, .int (y4_13 + (nI 0))), (5, .int (y5_13 + (nI 1)))]) hX zcdX4_readHops_135.1 (congrArg (fun z => y5_13 + z) (by decide)) (by decide) rfl rfl ?_
                    refine s_goto (tgt := 13) hX zcdX4_readHops_135.2.1 (by decide) ?_
                    refine s_loc [0, 1, 2, 5, 6, 7] rfl ?_
                    exact ih13 N65 x_15 (y4_13 + (nI 0)) (y5_13 + (nI 1)) h
                  · refine s_iload (k := 6) hX zcdX4_readHops_120.2.2.1 rfl ?_
                    refine s_ineg hX zcdX4_readHops_120.2.2.2.1 ?_
                    refine s_goto (tgt := 132) hX zcdX4_readHops_120.2.2.2.2.1 (by decide) ?_
                    refine s_iadd hX zcdX4_readHops_120.2.2.2.2.2.2.1 ?_
                    refine e_bnd h (fun x_16 h => ?_)
                    refine s_istore (lv' := [(0, .ref (ad 34)), (1, .ref (ad 19)), (2, .int x_1), (5, .int y5_13), (6, .int r_11), (7, .int t0_65), (3, .int x_15), (4, .int x_16)]) hX zcdX4_readHops_120.2.2.2.2.2.2.2 (by decide) rfl ?_
                    refine s_iinc (k := 3) (v := (y5_13 + (nI 1))) (lv' := [(0, .ref (ad 34)), (1, .ref (ad 19)), (2, .int x_1), (6, .int r_11), (7, .int t0_65), (3, .int x_15), (4, .int x_16), (5, .int (y5_13 + (nI 1)))]) hX zcdX4_readHops_135.1 (congrArg (fun z => y5_13 + z) (by decide)) (by decide) rfl rfl ?_
                    refine s_goto (tgt := 13) hX zcdX4_readHops_135.2.1 (by decide) ?_
                    refine s_loc [0, 1, 2, 5, 6, 7] rfl ?_
                    exact ih13 N65 x_15 x_16 (y5_13 + (nI 1)) h
                · refine s_iload (k := 6) hX zcdX4_readHops_103.2.2.2.2.2.1 rfl ?_
                  refine s_goto (tgt := 132) hX zcdX4_readHops_103.2.2.2.2.2.2.1 (by decide) ?_
                  refine s_iadd hX zcdX4_readHops_120.2.2.2.2.2.2.1 ?_
                  refine e_bnd h (fun x_17 h => ?_)
                  refine s_istore (lv' := [(0, .ref (ad 34)), (1, .ref (ad 19)), (2, .int x_1), (5, .int y5_13), (6, .int r_11), (7, .int t0_65), (3, .int x_15), (4, .int x_17)]) hX zcdX4_readHops_120.2.2.2.2.2.2.2 (by decide) rfl ?_
                  refine s_iinc (k := 3) (v := (y5_13 + (nI 1))) (lv' := [(0, .ref (ad 34)), (1, .ref (ad 19)), (2, .int x_1), (6, .int r_11), (7, .int t0_65), (3, .int x_15), (4, .int x_17), (5, .int (y5_13 + (nI 1)))]) hX zcdX4_readHops_135.1 (congrArg (fun z => y5_13 + z) (by decide)) (by decide) rfl rfl ?_
                  refine s_goto (tgt := 13) hX zcdX4_readHops_135.2.1 (by decide) ?_
                  refine s_loc [0, 1, 2, 5, 6, 7] rfl ?_
                  exact ih13 N65 x_15 x_17 (y5_13 + (nI 1)) h
              refine e_icmp_ne (tgt := 88) hX zcdX4_readHops_73.2.2.2.2.2.1 (by decide) (m_eq (by decide +kernel)) h (fun h => ?_) (fun h => ?_)
              · refine s_iload (k := 6) hX zcdX4_readHops_88.1 rfl ?_
                refine s_bipush (v := (nI 100)) hX zcdX4_readHops_88.2.1 (by decide) ?_
                refine e_icmp_ne (tgt := 101) hX zcdX4_readHops_88.2.2.1 (by decide) (m_eq (by decide +kernel)) h (fun h => ?_) (fun h => ?_)
                · refine s_iconst (v := (nI 0)) hX zcdX4_readHops_88.2.2.2.2.2.2.1 (by decide) ?_
                  refine s_loc [0, 1, 2, 4, 5, 6, 7] rfl ?_
                  exact j102 (nI 0) h
                · refine s_iload (k := 7) hX zcdX4_readHops_88.2.2.2.1 rfl ?_
                  refine s_ineg hX zcdX4_readHops_88.2.2.2.2.1 ?_
                  refine s_goto (tgt := 102) hX zcdX4_readHops_88.2.2.2.2.2.1 (by decide) ?_
                  refine s_loc [0, 1, 2, 4, 5, 6, 7] rfl ?_
                  exact j102 (-t0_65) h
              · refine s_iload (k := 7) hX zcdX4_readHops_73.2.2.2.2.2.2.1 rfl ?_
                refine s_goto (tgt := 102) hX zcdX4_readHops_73.2.2.2.2.2.2.2 (by decide) ?_
                refine s_loc [0, 1, 2, 4, 5, 6, 7] rfl ?_
                exact j102 t0_65 h
            · refine s_iconst (v := (nI 0)) hX zcdX4_readHops_73.1 (by decide) ?_
              exact e_zretiL hX hR zcdX4_readHops_73.2.1 (by decide) h
          refine e_if_eq (tgt := 64) hX zcdX4_readHops_41.2.2.2.2.2.2.1 (by decide) z_eq h (fun h => ?_) (fun h => ?_)
          · refine s_iconst (v := (nI 1)) hX zcdX4_readHops_57.2.2.2.1 (by decide) ?_
            exact j65 M_12 (nI 1) h
          · refine s_aload_n (k := 1) hX zcdX4_readHops_41.2.2.2.2.2.2.2 rfl rfl ?_
            refine s_iconst (v := (nI 2)) hX zcdX4_readHops_57.1 (by decide) ?_
            refine e_callVi hX (t_X7_number (nI 2) M_12) mX7_number lX4_68 (by decide) (by decide) oC19 rfl rfl rfl rfl rfl (Nat.le_of_ble_eq_true rfl) zcdX4_readHops_57.2.1 h (fun r_18 M_19 h => ?_)
            refine s_goto (tgt := 65) hX zcdX4_readHops_57.2.2.1 (by decide) ?_
            exact j65 M_19 r_18 h
  exact lp13 FU M (nI 0) (nI 0) (nI 0) h
set_option maxHeartbeats 4000000 in
theorem t_X4_readSteps (dS : Nat) (S_X4_readRound : Mem → Int32 → Option (Int32 × Mem)) (hS_X4_readRound : ∀ (v2 : Int32) (M : Mem), AXi yX4_readRound cX4_readRound 6 (some .boolean) dS 60 glC (fun ad => [.ref (ad 34), .ref (ad 19), .int v2]) M (S_X4_readRound M v2)) (v2 : Int32) (M : Mem) : AXi yX4_readSteps cX4_readSteps 5 (some .boolean) (dS + 3) 60 glC (fun ad => [.ref (ad 34), .ref (ad 19), .int v2]) M (f_X4_readSteps S_X4_readRound M v2) := by
  intro r0 h
  refine AM.of (by decide) (fun _ => Nat.le_of_ble_eq_true rfl) (fun X ad cI cZ cB hX hR => ?_)
  show V X M [(0, .ref (ad 34)), (1, .ref (ad 19)), (2, .int v2)] [] 0
  refine s_iconst (v := (nI 0)) hX zcdX4_readHops_208.2.2.2.1 (by decide) ?_
  refine s_istore_n (lv' := [(0, .ref (ad 34)), (1, .ref (ad 19)), (2, .int v2), (3, .int (nI 0))]) hX zcdX4_readHops_208.2.2.2.2.1 rfl (by decide) rfl ?_
  have lp2 : ∀ (N2 : Nat) (M2 : Mem) (y3_2 : Int32), wlp2 (f_X4_readSteps_B2 S_X4_readRound v2) N2 M2 y3_2 = some r0 → V X M2 [(0, .ref (ad 34)), (1, .ref (ad 19)), (2, .int v2), (3, .int y3_2)] [] 2 := by
    intro N2
    induction N2 with
    | zero => exact fun _ _ h => e_none h
    | succ N2 ih2 =>
      intro M2 y3_2 h
      replace h : f_X4_readSteps_B2 S_X4_readRound v2 (wlp2 (f_X4_readSteps_B2 S_X4_readRound v2) N2) M2 y3_2 = some r0 := h
      generalize wlp2 (f_X4_readSteps_B2 S_X4_readRound v2) N2 = ag2 at ih2 h
      refine s_iload_n (k := 3) hX zcdX4_readHops_208.2.2.2.2.2.1 rfl rfl ?_
      refine s_bipush (v := (nI 60)) hX zcdX4_readHops_208.2.2.2.2.2.2.1 (by decide) ?_
      have j67 : f_X4_readSteps_L67 M2 = some r0 → V X M2 [(1, .ref (ad 19))] [] 67 := by
        intro  h
        refine s_aload_n (k := 0) hX zcdX4_readSteps_52.2.2.2.2.2.2.2 rfl rfl ?_
        refine s_iconst (v := (nI 1)) hX zcdX4_readSteps_68.1 (by decide) ?_
        refine s_aload_n (k := 0) hX zcdX4_readSteps_68.2.1 rfl rfl ?_
        refine s_get hX fX4_41 oC19 rfl zcdX4_readSteps_68.2.2.1 ?_
        refine e_callVi hX (t_X7_refuse (nI 1) (M2 19 3) M2) mX7_refuse lX4_44 (by omega) (by decide) oC19 rfl rfl rfl rfl rfl (Nat.le_of_ble_eq_true rfl) zcdX4_readSteps_68.2.2.2.1 h (fun r_1 M_2 h => ?_)
        exact e_zreti hX hR zcdX4_readSteps_68.2.2.2.2.1 h
      refine e_icmp_ge (tgt := 67) hX zcdX4_readHops_208.2.2.2.2.2.2.2 (by decide) (m_ge (by decide +kernel)) h (fun h => ?_) (fun h => ?_)
      · refine s_loc [1] rfl ?_
        exact j67 h
      · refine s_aload_n (k := 1) hX zcdX4_readSteps_8.1 rfl rfl ?_
        refine e_callVp hX (t_X7_here M2) mX7_here lX4_35 (by omega) (by decide) oC19 rfl rfl rfl rfl rfl (Nat.le_of_ble_eq_true rfl) zcdX4_readSteps_8.2.1 h (fun r_3 h => ?_)
        refine s_bipush (v := (nI 40)) hX zcdX4_readSteps_8.2.2.1 (by decide) ?_
        have j31 : ∀ (N31 : Mem) (t0_31 : Int32), f_X4_readSteps_L31 ag2 y3_2 N31 t0_31 = some r0 → V X N31 [(0, .ref (ad 34)), (1, .ref (ad 19)), (2, .int v2), (3, .int y3_2)] [.int t0_31] 31 := by
          intro N31 t0_31 h
          refine s_istore (lv' := [(0, .ref (ad 34)), (1, .ref (ad 19)), (2, .int v2), (3, .int y3_2), (4, .int t0_31)]) hX zcdX4_readSteps_23.2.2.2.2.1 (by decide) rfl ?_
          refine s_iload (k := 4) hX zcdX4_readSteps_23.2.2.2.2.2.1 rfl ?_
          refine e_if_ne (tgt := 40) hX zcdX4_readSteps_23.2.2.2.2.2.2.1 (by decide) z_eq h (fun h => ?_) (fun h => ?_)
          · refine s_aload_n (k := 1) hX zcdX4_readSteps_39.2.1 rfl rfl ?_
            refine e_callVp hX (t_X7_here N31) mX7_here lX4_35 (by omega) (by decide) oC19 rfl rfl rfl rfl rfl (Nat.le_of_ble_eq_true rfl) zcdX4_readSteps_39.2.2.1 h (fun r_4 h => ?_)
            refine s_bipush (v := (nI 44)) hX zcdX4_readSteps_39.2.2.2.1 (by decide) ?_
            refine e_icmp_eq (tgt := 51) hX zcdX4_readSteps_39.2.2.2.2.1 (by decide) (m_eq (by decide +kernel)) h (fun h => ?_) (fun h => ?_)
            · refine s_aload_n (k := 1) hX zcdX4_readSteps_39.2.2.2.2.2.2.2 rfl rfl ?_
              refine s_dup hX zcdX4_readSteps_52.1 rfl ?_
              refine s_get hX fX4_41 oC19 rfl zcdX4_readSteps_52.2.1 ?_
              refine s_iconst (v := (nI 1)) hX zcdX4_readSteps_52.2.2.1 (by decide) ?_
              refine s_iadd hX zcdX4_readSteps_52.2.2.2.1 ?_
              refine s_puti (ty := .int) hX fX4_41 oC19 rfl (Nat.le_of_ble_eq_true rfl) ty_7_3 rfl rfl zcdX4_readSteps_52.2.2.2.2.1 ?_
              refine e_bndM h (fun M_5 h => ?_)
              refine s_iinc (k := 3) (v := (y3_2 + (nI 1))) (lv' := [(0, .ref (ad 34)), (1, .ref (ad 19)), (2, .int v2), (4, .int t0_31), (3, .int (y3_2 + (nI 1)))]) hX zcdX4_readSteps_52.2.2.2.2.2.1 (congrArg (fun z => y3_2 + z) (by decide)) (by decide) rfl rfl ?_
              refine s_goto (tgt := 2) hX zcdX4_readSteps_52.2.2.2.2.2.2.1 (by decide) ?_
              refine s_loc [0, 1, 2, 4] rfl ?_
              exact ih2 M_5 (y3_2 + (nI 1)) h
            · refine s_iconst (v := (nI 1)) hX zcdX4_readSteps_39.2.2.2.2.2.1 (by decide) ?_
              exact e_zretiL hX hR zcdX4_readSteps_39.2.2.2.2.2.2.1 (by decide) h
          · refine s_iconst (v := (nI 0)) hX zcdX4_readSteps_23.2.2.2.2.2.2.2 (by decide) ?_
            exact e_zretiL hX hR zcdX4_readSteps_39.1 (by decide) h
        refine e_icmp_ne (tgt := 26) hX zcdX4_readSteps_8.2.2.2.1 (by decide) (m_eq (by decide +kernel)) h (fun h => ?_) (fun h => ?_)
        · refine s_aload_n (k := 0) hX zcdX4_readSteps_23.2.1 rfl rfl ?_
          refine s_aload_n (k := 1) hX zcdX4_readSteps_23.2.2.1 rfl rfl ?_
          refine e_callVi hX (t_X4_readHops M2) mX4_readHops lX4_51 (by omega) (by decide) oC34 rfl rfl rfl rfl rfl (Nat.le_of_ble_eq_true rfl) zcdX4_readSteps_23.2.2.2.1 h (fun r_6 M_7 h => ?_)
          exact j31 M_7 r_6 h
        · refine s_aload_n (k := 0) hX zcdX4_readSteps_8.2.2.2.2.1 rfl rfl ?_
          refine s_aload_n (k := 1) hX zcdX4_readSteps_8.2.2.2.2.2.1 rfl rfl ?_
          refine s_iload_n (k := 2) hX zcdX4_readSteps_8.2.2.2.2.2.2.1 rfl rfl ?_
          refine e_callVi hX (hS_X4_readRound v2 M2) mX4_readRound lX4_48 (by omega) (by decide) oC34 rfl rfl rfl rfl rfl (Nat.le_of_ble_eq_true rfl) zcdX4_readSteps_8.2.2.2.2.2.2.2 h (fun r_8 M_9 h => ?_)
          refine s_goto (tgt := 31) hX zcdX4_readSteps_23.1 (by decide) ?_
          exact j31 M_9 r_8 h
  exact lp2 FU M (nI 0) h
set_option maxHeartbeats 4000000 in
theorem t_X4_readRound (dS : Nat) (S_X4_readSteps : Mem → Int32 → Option (Int32 × Mem)) (hS_X4_readSteps : ∀ (v2 : Int32) (M : Mem), AXi yX4_readSteps cX4_readSteps 5 (some .boolean) dS 60 glC (fun ad => [.ref (ad 34), .ref (ad 19), .int v2]) M (S_X4_readSteps M v2)) (v2 : Int32) (M : Mem) : AXi yX4_readRound cX4_readRound 6 (some .boolean) (dS + 2) 60 glC (fun ad => [.ref (ad 34), .ref (ad 19), .int v2]) M (f_X4_readRound S_X4_readSteps M v2) := by
  intro r0 h
  refine AM.of (by decide) (fun _ => Nat.le_of_ble_eq_true rfl) (fun X ad cI cZ cB hX hR => ?_)
  show V X M [(0, .ref (ad 34)), (1, .ref (ad 19)), (2, .int v2)] [] 0
  refine s_aload_n (k := 1) hX zcdX4_readSteps_68.2.2.2.2.2.1 rfl rfl ?_
  refine s_get hX fX4_41 oC19 rfl zcdX4_readSteps_68.2.2.2.2.2.2.1 ?_
  refine e_bnd h (fun x_1 h => ?_)
  refine s_istore_n (lv' := [(0, .ref (ad 34)), (1, .ref (ad 19)), (2, .int v2), (3, .int x_1)]) hX zcdX4_readSteps_68.2.2.2.2.2.2.2 rfl (by decide) rfl ?_
  refine s_aload_n (k := 0) hX zcdX4_readRound_5.1 rfl rfl ?_
  refine s_get hX fX4_18 oC34 rfl zcdX4_readRound_5.2.1 ?_
  refine e_bnd h (fun x_2 h => ?_)
  refine s_istore (lv' := [(0, .ref (ad 34)), (1, .ref (ad 19)), (2, .int v2), (3, .int x_1), (4, .int x_2)]) hX zcdX4_readRound_5.2.2.1 (by decide) rfl ?_
  refine s_iload_n (k := 2) hX zcdX4_readRound_5.2.2.2.1 rfl rfl ?_
  refine s_iconst (v := (nI 2)) hX zcdX4_readRound_5.2.2.2.2.1 (by decide) ?_
  refine e_icmp_lt (tgt := 23) hX zcdX4_readRound_5.2.2.2.2.2.1 (by decide) (m_lt (by decide +kernel)) h (fun h => ?_) (fun h => ?_)
  · refine s_aload_n (k := 1) hX zcdX4_readRound_18.2.2.2.1 rfl rfl ?_
    refine s_dup hX zcdX4_readRound_18.2.2.2.2.1 rfl ?_
    refine s_get hX fX4_41 oC19 rfl zcdX4_readRound_18.2.2.2.2.2.1 ?_
    refine s_iconst (v := (nI 1)) hX zcdX4_readRound_18.2.2.2.2.2.2.1 (by decide) ?_
    refine s_iadd hX zcdX4_readRound_18.2.2.2.2.2.2.2 ?_
    refine s_puti (ty := .int) hX fX4_41 oC19 rfl (Nat.le_of_ble_eq_true rfl) ty_7_3 rfl rfl zcdX4_readRound_30.1 ?_
    refine e_bndM h (fun M_3 h => ?_)
    refine s_aload_n (k := 0) hX zcdX4_readRound_30.2.1 rfl rfl ?_
    refine s_aload_n (k := 1) hX zcdX4_readRound_30.2.2.1 rfl rfl ?_
    refine s_iload_n (k := 2) hX zcdX4_readRound_30.2.2.2.1 rfl rfl ?_
    refine s_iconst (v := (nI 1)) hX zcdX4_readRound_30.2.2.2.2.1 (by decide) ?_
    refine s_iadd hX zcdX4_readRound_30.2.2.2.2.2.1 ?_
    refine e_callVi hX (hS_X4_readSteps (v2 + (nI 1)) M_3) mX4_readSteps lX4_31 (by omega) (by decide) oC34 rfl rfl rfl rfl rfl (Nat.le_of_ble_eq_true rfl) zcdX4_readRound_30.2.2.2.2.2.2.1 h (fun r_4 M_5 h => ?_)
    refine e_if_eq (tgt := 53) hX zcdX4_readRound_30.2.2.2.2.2.2.2 (by decide) z_eq h (fun h => ?_) (fun h => ?_)
    · refine s_iconst (v := (nI 0)) hX zcdX4_readRound_44.2.2.2.2.1 (by decide) ?_
      exact e_zretiL hX hR zcdX4_readRound_44.2.2.2.2.2.1 (by decide) h
    · refine s_aload_n (k := 1) hX zcdX4_readRound_44.1 rfl rfl ?_
      refine s_bipush (v := (nI 41)) hX zcdX4_readRound_44.2.1 (by decide) ?_
      refine e_callVi hX (t_X7_skip (nI 41) M_5) mX7_skip lX4_55 (by omega) (by decide) oC19 rfl rfl rfl rfl rfl (Nat.le_of_ble_eq_true rfl) zcdX4_readRound_44.2.2.1 h (fun r_6 M_7 h => ?_)
      refine e_if_ne (tgt := 55) hX zcdX4_readRound_44.2.2.2.1 (by decide) z_eq h (fun h => ?_) (fun h => ?_)
      · refine s_aload_n (k := 1) hX zcdX4_readRound_44.2.2.2.2.2.2.1 rfl rfl ?_
        refine e_callVp hX (t_X7_here M_7) mX7_here lX4_35 (by omega) (by decide) oC19 rfl rfl rfl rfl rfl (Nat.le_of_ble_eq_true rfl) zcdX4_readRound_44.2.2.2.2.2.2.2 h (fun r_8 h => ?_)
        refine s_bipush (v := (nI 120)) hX zcdX4_readRound_59.1 (by decide) ?_
        refine e_icmp_eq (tgt := 66) hX zcdX4_readRound_59.2.1 (by decide) (m_eq (by decide +kernel)) h (fun h => ?_) (fun h => ?_)
        · refine s_aload_n (k := 1) hX zcdX4_readRound_59.2.2.2.2.1 rfl rfl ?_
          refine s_dup hX zcdX4_readRound_59.2.2.2.2.2.1 rfl ?_
          refine s_get hX fX4_41 oC19 rfl zcdX4_readRound_59.2.2.2.2.2.2.1 ?_
          refine s_iconst (v := (nI 1)) hX zcdX4_readRound_59.2.2.2.2.2.2.2 (by decide) ?_
          refine s_iadd hX zcdX4_readRound_72.1 ?_
          refine s_puti (ty := .int) hX fX4_41 oC19 rfl (Nat.le_of_ble_eq_true rfl) ty_7_3 rfl rfl zcdX4_readRound_72.2.1 ?_
          refine e_bndM h (fun M_9 h => ?_)
          refine s_aload_n (k := 1) hX zcdX4_readRound_72.2.2.1 rfl rfl ?_
          refine e_callVp hX (t_X7_here M_9) mX7_here lX4_35 (by omega) (by decide) oC19 rfl rfl rfl rfl rfl (Nat.le_of_ble_eq_true rfl) zcdX4_readRound_72.2.2.2.1 h (fun r_10 h => ?_)
          refine s_istore (lv' := [(0, .ref (ad 34)), (1, .ref (ad 19)), (2, .int v2), (3, .int x_1), (4, .int x_2), (5, .int r_10)]) hX zcdX4_readRound_72.2.2.2.2.1 (by decide) rfl ?_
          refine s_iload (k := 5) hX zcdX4_readRound_72.2.2.2.2.2.1 rfl ?_
          refine s_bipush (v := (nI 50)) hX zcdX4_readRound_72.2.2.2.2.2.2.1 (by decide) ?_
          have j96 : f_X4_readRound_L96 M_9 = some r0 → V X M_9 [(1, .ref (ad 19))] [] 96 := by
            intro  h
            refine s_aload_n (k := 0) hX zcdX4_readRound_89.2.2.2.1 rfl rfl ?_
            refine s_iconst (v := (nI 1)) hX zcdX4_readRound_89.2.2.2.2.1 (by decide) ?_
            refine s_aload_n (k := 0) hX zcdX4_readRound_89.2.2.2.2.2.1 rfl rfl ?_
            refine s_get hX fX4_41 oC19 rfl zcdX4_readRound_89.2.2.2.2.2.2.1 ?_
            refine e_callVi hX (t_X7_refuse (nI 1) (M_9 19 3) M_9) mX7_refuse lX4_44 (by omega) (by decide) oC19 rfl rfl rfl rfl rfl (Nat.le_of_ble_eq_true rfl) zcdX4_readRound_89.2.2.2.2.2.2.2 h (fun r_11 M_12 h => ?_)
            exact e_zreti hX hR zcdX4_readRound_105.1 h
          refine e_icmp_lt (tgt := 96) hX zcdX4_readRound_72.2.2.2.2.2.2.2 (by decide) (m_lt (by decide +kernel)) h (fun h => ?_) (fun h => ?_)
          · refine s_loc [1] rfl ?_
            exact j96 h
          · refine s_iload (k := 5) hX zcdX4_readRound_89.1 rfl ?_
            refine s_bipush (v := (nI 57)) hX zcdX4_readRound_89.2.1 (by decide) ?_
            refine e_icmp_le (tgt := 106) hX zcdX4_readRound_89.2.2.1 (by decide) (m_le (by decide +kernel)) h (fun h => ?_) (fun h => ?_)
            · refine s_aload_n (k := 1) hX zcdX4_readRound_105.2.1 rfl rfl ?_
              refine s_dup hX zcdX4_readRound_105.2.2.1 rfl ?_
              refine s_get hX fX4_41 oC19 rfl zcdX4_readRound_105.2.2.2.1 ?_
              refine s_iconst (v := (nI 1)) hX zcdX4_readRound_105.2.2.2.2.1 (by decide) ?_
              refine s_iadd hX zcdX4_readRound_105.2.2.2.2.2.1 ?_
              refine s_puti (ty := .int) hX fX4_41 oC19 rfl (Nat.le_of_ble_eq_true rfl) ty_7_3 rfl rfl zcdX4_readRound_105.2.2.2.2.2.2.1 ?_
              refine e_bndM h (fun M_13 h => ?_)
              refine s_aload_n (k := 0) hX zcdX4_readRound_105.2.2.2.2.2.2.2 rfl rfl ?_
              refine s_iload (k := 4) hX zcdX4_readRound_117.1 rfl ?_
              refine s_iload (k := 5) hX zcdX4_readRound_117.2.1 rfl ?_
              refine s_bipush (v := (nI 49)) hX zcdX4_readRound_117.2.2.1 (by decide) ?_
              refine s_isub hX zcdX4_readRound_117.2.2.2.1 ?_
              refine e_callVi hX (t_X4_repeat x_2 (r_10 - (nI 49)) M_13) mX4_repeat lX4_59 (by omega) (by decide) oC34 rfl rfl rfl rfl rfl (Nat.le_of_ble_eq_true rfl) zcdX4_readRound_117.2.2.2.2.1 h (fun r_14 M_15 h => ?_)
              refine e_if_ne (tgt := 140) hX zcdX4_readRound_117.2.2.2.2.2.1 (by decide) z_eq h (fun h => ?_) (fun h => ?_)
              · refine s_iconst (v := (nI 1)) hX zcdX4_readRound_133.2.2.2.1 (by decide) ?_
                refine s_goto (tgt := 145) hX zcdX4_readRound_133.2.2.2.2.1 (by decide) ?_
                exact e_zretiL hX hR zcdX4_readRound_133.2.2.2.2.2.2.1 (by decide) h
              · refine s_aload_n (k := 1) hX zcdX4_readRound_117.2.2.2.2.2.2.1 rfl rfl ?_
                refine s_bipush (v := (nI 6)) hX zcdX4_readRound_117.2.2.2.2.2.2.2 (by decide) ?_
                refine s_iload_n (k := 3) hX zcdX4_readRound_133.1 rfl rfl ?_
                refine e_callVi hX (t_X7_refuse (nI 6) x_1 M_15) mX7_refuse lX4_44 (by omega) (by decide) oC19 rfl rfl rfl rfl rfl (Nat.le_of_ble_eq_true rfl) zcdX4_readRound_133.2.1 h (fun r_16 M_17 h => ?_)
                refine e_if_eq (tgt := 144) hX zcdX4_readRound_133.2.2.1 (by decide) z_eq h (fun h => ?_) (fun h => ?_)
                · refine s_iconst (v := (nI 0)) hX zcdX4_readRound_133.2.2.2.2.2.1 (by decide) ?_
                  exact e_zretiL hX hR zcdX4_readRound_133.2.2.2.2.2.2.1 (by decide) h
                · refine s_iconst (v := (nI 1)) hX zcdX4_readRound_133.2.2.2.1 (by decide) ?_
                  refine s_goto (tgt := 145) hX zcdX4_readRound_133.2.2.2.2.1 (by decide) ?_
                  exact e_zretiL hX hR zcdX4_readRound_133.2.2.2.2.2.2.1 (by decide) h
            · refine s_loc [1] rfl ?_
              exact j96 h
        · refine s_iconst (v := (nI 1)) hX zcdX4_readRound_59.2.2.1 (by decide) ?_
          exact e_zretiL hX hR zcdX4_readRound_59.2.2.2.1 (by decide) h
      · refine s_iconst (v := (nI 0)) hX zcdX4_readRound_44.2.2.2.2.1 (by decide) ?_
        exact e_zretiL hX hR zcdX4_readRound_44.2.2.2.2.2.1 (by decide) h
  · refine s_aload_n (k := 1) hX zcdX4_readRound_5.2.2.2.2.2.2.1 rfl rfl ?_
    refine s_iconst (v := (nI 5)) hX zcdX4_readRound_5.2.2.2.2.2.2.2 (by decide) ?_
    refine s_iload_n (k := 3) hX zcdX4_readRound_18.1 rfl rfl ?_
    refine e_callVi hX (t_X7_refuse (nI 5) x_1 M) mX7_refuse lX4_44 (by omega) (by decide) oC19 rfl rfl rfl rfl rfl (Nat.le_of_ble_eq_true rfl) zcdX4_readRound_18.2.1 h (fun r_18 M_19 h => ?_)
    exact e_zreti hX hR zcdX4_readRound_18.2.2.1 h
theorem tg_steps : ∀ (n : Nat) (v2 : Int32) (M : Mem), AXi yX4_readSteps cX4_readSteps 5 (some .boolean) (5 * n) 60 glC (fun ad => [.ref (ad 34), .ref (ad 19), .int v2]) M (g_steps n M v2)
  | 0 => fun _ _ r0 h => nomatch h
  | n + 1 => fun v2 M => by
    have e : 5 * (n + 1) = 5 * n + 2 + 3 := by omega
    rw [e]
    exact t_X4_readSteps (5 * n + 2) _ (t_X4_readRound (5 * n) _ (tg_steps n)) v2 M
set_option maxHeartbeats 4000000 in
theorem t_X4_read (M : Mem) : AXi yX4_read cX4_read 2 (some .boolean) 21 60 glC (fun ad => [.ref (ad 34), .ref (ad 19)]) M (f_X4_read M) := by
  intro r0 h
  refine AM.of (by decide) (fun _ => Nat.le_of_ble_eq_true rfl) (fun X ad cI cZ cB hX hR => ?_)
  show V X M [(0, .ref (ad 34)), (1, .ref (ad 19))] [] 0
  refine s_aload_n (k := 0) hX zcdX4_readRound_133.2.2.2.2.2.2.2 rfl rfl ?_
  refine s_iconst (v := (nI 0)) hX zcdX4_read_1.1 (by decide) ?_
  refine s_puti (ty := .int) hX fX4_18 oC34 rfl (Nat.le_of_ble_eq_true rfl) ty_4_2 rfl rfl zcdX4_read_1.2.1 ?_
  refine e_bndM h (fun M_1 h => ?_)
  refine s_aload_n (k := 0) hX zcdX4_read_1.2.2.1 rfl rfl ?_
  refine s_aload_n (k := 1) hX zcdX4_read_1.2.2.2.1 rfl rfl ?_
  refine s_iconst (v := (nI 0)) hX zcdX4_read_1.2.2.2.2.1 (by decide) ?_
  refine e_callVi hX (tg_steps 4 (nI 0) M_1) mX4_readSteps lX4_31 (by decide) (by decide) oC34 rfl rfl rfl rfl rfl (Nat.le_of_ble_eq_true rfl) zcdX4_read_1.2.2.2.2.2.1 h (fun r_2 M_3 h => ?_)
  refine e_if_ne (tgt := 16) hX zcdX4_read_1.2.2.2.2.2.2.1 (by decide) z_eq h (fun h => ?_) (fun h => ?_)
  · refine s_aload_n (k := 1) hX zcdX4_read_15.2.1 rfl rfl ?_
    refine e_callVp hX (t_X7_here M_3) mX7_here lX4_35 (by decide) (by decide) oC19 rfl rfl rfl rfl rfl (Nat.le_of_ble_eq_true rfl) zcdX4_read_15.2.2.1 h (fun r_4 h => ?_)
    refine s_iconst (v := (-1)) hX zcdX4_read_15.2.2.2.1 (by decide) ?_
    refine e_icmp_eq (tgt := 36) hX zcdX4_read_15.2.2.2.2.1 (by decide) (m_eq (by decide +kernel)) h (fun h => ?_) (fun h => ?_)
    · refine s_iconst (v := (nI 1)) hX zcdX4_read_27.2.2.2.1 (by decide) ?_
      refine s_goto (tgt := 41) hX zcdX4_read_27.2.2.2.2.1 (by decide) ?_
      exact e_zretiL hX hR zcdX4_read_27.2.2.2.2.2.2.1 (by decide) h
    · refine s_aload_n (k := 1) hX zcdX4_read_15.2.2.2.2.2.1 rfl rfl ?_
      refine s_iconst (v := (nI 1)) hX zcdX4_read_15.2.2.2.2.2.2.1 (by decide) ?_
      refine s_aload_n (k := 1) hX zcdX4_read_15.2.2.2.2.2.2.2 rfl rfl ?_
      refine s_get hX fX4_41 oC19 rfl zcdX4_read_27.1 ?_
      refine e_callVi hX (t_X7_refuse (nI 1) (M_3 19 3) M_3) mX7_refuse lX4_44 (by decide) (by decide) oC19 rfl rfl rfl rfl rfl (Nat.le_of_ble_eq_true rfl) zcdX4_read_27.2.1 h (fun r_5 M_6 h => ?_)
      refine e_if_eq (tgt := 40) hX zcdX4_read_27.2.2.1 (by decide) z_eq h (fun h => ?_) (fun h => ?_)
      · refine s_iconst (v := (nI 0)) hX zcdX4_read_27.2.2.2.2.2.1 (by decide) ?_
        exact e_zretiL hX hR zcdX4_read_27.2.2.2.2.2.2.1 (by decide) h
      · refine s_iconst (v := (nI 1)) hX zcdX4_read_27.2.2.2.1 (by decide) ?_
        refine s_goto (tgt := 41) hX zcdX4_read_27.2.2.2.2.1 (by decide) ?_
        exact e_zretiL hX hR zcdX4_read_27.2.2.2.2.2.2.1 (by decide) h
  · refine s_iconst (v := (nI 0)) hX zcdX4_read_1.2.2.2.2.2.2.2 (by decide) ?_
    exact e_zretiL hX hR zcdX4_read_15.1 (by decide) h
set_option maxHeartbeats 4000000 in
theorem t_X5_look (b : Nat) (hb : isF b) (c : Nat) (hc : isL c) (v3 : Int32) (M : Mem) : AXv yX5_look cX5_look 4 none 3 60 glC (fun ad => [.ref (ad 21), .ref (ad b), .ref (ad c), .int v3]) M (f_X5_look b c M v3) := by
  intro r0 h
  refine AM.of (by decide) (fun _ => Nat.le_of_ble_eq_true rfl) (fun X ad cI cZ cB hX hR => ?_)
  show V X M [(0, .ref (ad 21)), (1, .ref (ad b)), (2, .ref (ad c)), (3, .int v3)] [] 0
  refine s_aload_n (k := 1) hX zcdX4_read_27.2.2.2.2.2.2.2 rfl rfl ?_
  refine s_iload_n (k := 3) hX zcdX5_look_1.1 rfl rfl ?_
  refine e_callVp hX (t_X2_isTold b hb v3 M) mX2_isTold lX5_35 (by decide) (by decide) (oF hb) rfl rfl rfl rfl rfl (Nat.le_of_ble_eq_true rfl) zcdX5_look_1.2.1 h (fun r_1 h => ?_)
  refine e_if_ne (tgt := 9) hX zcdX5_look_1.2.2.1 (by decide) z_eq h (fun h => ?_) (fun h => ?_)
  · refine s_aload_n (k := 0) hX zcdX5_look_1.2.2.2.2.1 rfl rfl ?_
    refine s_get hX fX5_11 oC21 rfl zcdX5_look_1.2.2.2.2.2.1 ?_
    refine s_iconst (v := (nI 0)) hX zcdX5_look_1.2.2.2.2.2.2.1 (by decide) ?_
    refine s_iload_n (k := 3) hX zcdX5_look_1.2.2.2.2.2.2.2 rfl rfl ?_
    refine s_iastN hX aC22 (by decide) zcdX5_look_15.1 ?_
    refine e_bndM h (fun M_2 h => ?_)
    refine s_aload_n (k := 0) hX zcdX5_look_15.2.1 rfl rfl ?_
    refine s_get hX fX5_11 oC21 rfl zcdX5_look_15.2.2.1 ?_
    refine s_iconst (v := (nI 1)) hX zcdX5_look_15.2.2.2.1 (by decide) ?_
    refine s_aload_n (k := 1) hX zcdX5_look_15.2.2.2.2.1 rfl rfl ?_
    refine s_get hX fX5_63 (oF hb) rfl zcdX5_look_15.2.2.2.2.2.1 ?_
    refine s_iload_n (k := 3) hX zcdX5_look_15.2.2.2.2.2.2.1 rfl rfl ?_
    refine e_iald hX (aF1 hb) zcdX5_look_15.2.2.2.2.2.2.2 h (fun h => ?_)
    refine s_iastN hX aC22 (by decide) zcdX5_look_27.1 ?_
    refine e_bndM h (fun M_3 h => ?_)
    refine s_aload_n (k := 0) hX zcdX5_look_27.2.1 rfl rfl ?_
    refine s_get hX fX5_11 oC21 rfl zcdX5_look_27.2.2.1 ?_
    refine s_iconst (v := (nI 2)) hX zcdX5_look_27.2.2.2.1 (by decide) ?_
    refine s_aload_n (k := 1) hX zcdX5_look_27.2.2.2.2.1 rfl rfl ?_
    refine s_get hX fX5_66 (oF hb) rfl zcdX5_look_27.2.2.2.2.2.1 ?_
    refine s_iload_n (k := 3) hX zcdX5_look_27.2.2.2.2.2.2.1 rfl rfl ?_
    refine e_iald hX (aF2 hb) zcdX5_look_27.2.2.2.2.2.2.2 h (fun h => ?_)
    refine s_iastN hX aC22 (by decide) zcdX5_look_39.1 ?_
    refine e_bndM h (fun M_4 h => ?_)
    refine s_aload_n (k := 0) hX zcdX5_look_39.2.1 rfl rfl ?_
    refine s_get hX fX5_11 oC21 rfl zcdX5_look_39.2.2.1 ?_
    refine s_iconst (v := (nI 3)) hX zcdX5_look_39.2.2.2.1 (by decide) ?_
    refine s_aload_n (k := 1) hX zcdX5_look_39.2.2.2.2.1 rfl rfl ?_
    refine s_get hX fX5_69 (oF hb) rfl zcdX5_look_39.2.2.2.2.2.1 ?_
    refine s_iload_n (k := 3) hX zcdX5_look_39.2.2.2.2.2.2.1 rfl rfl ?_
    refine e_iald hX (aF3 hb) zcdX5_look_39.2.2.2.2.2.2.2 h (fun h => ?_)
    refine s_iastN hX aC22 (by decide) zcdX5_look_51.1 ?_
    refine e_bndM h (fun M_5 h => ?_)
    refine s_aload_n (k := 0) hX zcdX5_look_51.2.1 rfl rfl ?_
    refine s_get hX fX5_11 oC21 rfl zcdX5_look_51.2.2.1 ?_
    refine s_iconst (v := (nI 4)) hX zcdX5_look_51.2.2.2.1 (by decide) ?_
    refine s_aload_n (k := 1) hX zcdX5_look_51.2.2.2.2.1 rfl rfl ?_
    refine s_get hX fX5_56 (oF hb) rfl zcdX5_look_51.2.2.2.2.2.1 ?_
    refine s_iload_n (k := 3) hX zcdX5_look_51.2.2.2.2.2.2.1 rfl rfl ?_
    refine e_zald hX (aF5 hb) zcdX5_look_51.2.2.2.2.2.2.2 h (fun h => ?_)
    have j71 : ∀ (t0_71 : Int32), f_X5_look_L71 b c v3 M_5 t0_71 = some r0 → V X M_5 [(0, .ref (ad 21)), (1, .ref (ad b)), (2, .ref (ad c)), (3, .int v3)] [.int t0_71, .int (nI 4), .ref (ad 22)] 71 := by
      intro t0_71 h
      refine s_iastN hX aC22 (by decide) zcdX5_look_63.2.2.2.2.1 ?_
      refine e_bndM h (fun M_6 h => ?_)
      refine s_aload_n (k := 0) hX zcdX5_look_63.2.2.2.2.2.1 rfl rfl ?_
      refine s_get hX fX5_11 oC21 rfl zcdX5_look_63.2.2.2.2.2.2.1 ?_
      refine s_iconst (v := (nI 5)) hX zcdX5_look_63.2.2.2.2.2.2.2 (by decide) ?_
      refine s_aload_n (k := 2) hX zcdX5_look_77.1 rfl rfl ?_
      refine s_get hX fX5_72 (oL hc) rfl zcdX5_look_77.2.1 ?_
      have j93 : ∀ (t0_93 : Int32), f_X5_look_L93 b M_6 t0_93 = some r0 → V X M_6 [(0, .ref (ad 21)), (1, .ref (ad b))] [.int t0_93, .int (nI 5), .ref (ad 22)] 93 := by
        intro t0_93 h
        refine s_iastN hX aC22 (by decide) zcdX5_look_93.1 ?_
        refine e_bndM h (fun M_7 h => ?_)
        refine s_aload_n (k := 0) hX zcdX5_look_93.2.1 rfl rfl ?_
        refine s_get hX fX5_11 oC21 rfl zcdX5_look_93.2.2.1 ?_
        refine s_bipush (v := (nI 7)) hX zcdX5_look_93.2.2.2.1 (by decide) ?_
        refine s_aload_n (k := 1) hX zcdX5_look_93.2.2.2.2.1 rfl rfl ?_
        refine s_get hX fX5_22 (oF hb) rfl zcdX5_look_93.2.2.2.2.2.1 ?_
        refine s_bipush (v := (nI 100)) hX zcdX5_look_93.2.2.2.2.2.2.1 (by decide) ?_
        refine s_iremL hX zcdX5_look_93.2.2.2.2.2.2.2 (by decide) ?_
        refine s_iastN hX aC22 (by decide) zcdX5_look_107.1 ?_
        refine e_bndM h (fun M_8 h => ?_)
        exact e_vret hX hR zcdX5_look_107.2.1 h
      refine e_if_eq (tgt := 92) hX zcdX5_look_77.2.2.1 (by decide) z_eq h (fun h => ?_) (fun h => ?_)
      · refine s_iconst (v := (nI 0)) hX zcdX5_look_77.2.2.2.2.2.2.2 (by decide) ?_
        refine s_loc [0, 1] rfl ?_
        exact j93 (nI 0) h
      · refine s_aload_n (k := 1) hX zcdX5_look_77.2.2.2.1 rfl rfl ?_
        refine s_iload_n (k := 3) hX zcdX5_look_77.2.2.2.2.1 rfl rfl ?_
        refine e_callVp hX (t_X2_countClose b hb v3 M_6) mX2_countClose lX5_76 (by decide) (by decide) (oF hb) rfl rfl rfl rfl rfl (Nat.le_of_ble_eq_true rfl) zcdX5_look_77.2.2.2.2.2.1 h (fun r_9 h => ?_)
        refine s_goto (tgt := 93) hX zcdX5_look_77.2.2.2.2.2.2.1 (by decide) ?_
        refine s_loc [0, 1] rfl ?_
        exact j93 r_9 h
    refine e_if_eq (tgt := 70) hX zcdX5_look_63.1 (by decide) z_eq h (fun h => ?_) (fun h => ?_)
    · refine s_iconst (v := (nI 0)) hX zcdX5_look_63.2.2.2.1 (by decide) ?_
      exact j71 (nI 0) h
    · refine s_iconst (v := (nI 1)) hX zcdX5_look_63.2.1 (by decide) ?_
      refine s_goto (tgt := 71) hX zcdX5_look_63.2.2.1 (by decide) ?_
      exact j71 (nI 1) h
  · exact e_vret hX hR zcdX5_look_1.2.2.2.1 h
set_option maxHeartbeats 4000000 in
theorem t_X5_shift (b : Nat) (hb : isF b) (v2 : Int32) (v3 : Int32) (v4 : Int32) (M : Mem) : AXv yX5_shift cX5_shift 7 none 1 60 glC (fun ad => [.ref (ad 21), .ref (ad b), .int v2, .int v3, .int v4]) M (f_X5_shift b M v2 v3 v4) := by
  intro r0 h
  refine AM.of (by decide) (fun _ => Nat.le_of_ble_eq_true rfl) (fun X ad cI cZ cB hX hR => ?_)
  show V X M [(0, .ref (ad 21)), (1, .ref (ad b)), (2, .int v2), (3, .int v3), (4, .int v4)] [] 0
  refine s_aload_n (k := 1) hX zcdX5_look_107.2.2.1 rfl rfl ?_
  refine s_iload_n (k := 2) hX zcdX5_look_107.2.2.2.1 rfl rfl ?_
  refine e_callVp hX (t_X2_isTold b hb v2 M) mX2_isTold lX5_35 (by decide) (by decide) (oF hb) rfl rfl rfl rfl rfl (Nat.le_of_ble_eq_true rfl) zcdX5_look_107.2.2.2.2.1 h (fun r_1 h => ?_)
  refine e_if_ne (tgt := 9) hX zcdX5_look_107.2.2.2.2.2.1 (by decide) z_eq h (fun h => ?_) (fun h => ?_)
  · refine s_iconst (v := (nI 0)) hX zcdX5_look_107.2.2.2.2.2.2.2 (by decide) ?_
    refine s_bipush (v := (nI 39)) hX zcdX5_shift_10.1 (by decide) ?_
    refine s_aload_n (k := 1) hX zcdX5_shift_10.2.1 rfl rfl ?_
    refine s_get hX fX5_63 (oF hb) rfl zcdX5_shift_10.2.2.1 ?_
    refine s_iload_n (k := 2) hX zcdX5_shift_10.2.2.2.1 rfl rfl ?_
    refine e_iald hX (aF1 hb) zcdX5_shift_10.2.2.2.2.1 h (fun h => ?_)
    refine s_iload_n (k := 3) hX zcdX5_shift_10.2.2.2.2.2.1 rfl rfl ?_
    refine s_iadd hX zcdX5_shift_10.2.2.2.2.2.2.1 ?_
    refine e_mmin hX lX5_80 mJ9_min (by omega) (Nat.le_of_ble_eq_true rfl) zcdX5_shift_10.2.2.2.2.2.2.2 ?_
    refine e_mmax hX lX5_86 mJ9_max (by omega) (Nat.le_of_ble_eq_true rfl) zcdX5_shift_23.1 ?_
    refine e_bnd h (fun x_2 h => ?_)
    refine s_istore (lv' := [(0, .ref (ad 21)), (1, .ref (ad b)), (2, .int v2), (3, .int v3), (4, .int v4), (5, .int x_2)]) hX zcdX5_shift_23.2.1 (by decide) rfl ?_
    refine s_iconst (v := (nI 1)) hX zcdX5_shift_23.2.2.1 (by decide) ?_
    refine s_bipush (v := (nI 20)) hX zcdX5_shift_23.2.2.2.1 (by decide) ?_
    refine s_aload_n (k := 1) hX zcdX5_shift_23.2.2.2.2.1 rfl rfl ?_
    refine s_get hX fX5_66 (oF hb) rfl zcdX5_shift_23.2.2.2.2.2.1 ?_
    refine s_iload_n (k := 2) hX zcdX5_shift_23.2.2.2.2.2.2.1 rfl rfl ?_
    refine e_iald hX (aF2 hb) zcdX5_shift_23.2.2.2.2.2.2.2 h (fun h => ?_)
    refine s_iload (k := 4) hX zcdX5_shift_37.1 rfl ?_
    refine s_iadd hX zcdX5_shift_37.2.1 ?_
    refine e_mmin hX lX5_80 mJ9_min (by omega) (Nat.le_of_ble_eq_true rfl) zcdX5_shift_37.2.2.1 ?_
    refine e_mmax hX lX5_86 mJ9_max (by omega) (Nat.le_of_ble_eq_true rfl) zcdX5_shift_37.2.2.2.1 ?_
    refine e_bnd h (fun x_3 h => ?_)
    refine s_istore (lv' := [(0, .ref (ad 21)), (1, .ref (ad b)), (2, .int v2), (3, .int v3), (4, .int v4), (5, .int x_2), (6, .int x_3)]) hX zcdX5_shift_37.2.2.2.2.1 (by decide) rfl ?_
    refine s_iload (k := 5) hX zcdX5_shift_37.2.2.2.2.2.1 rfl ?_
    refine s_aload_n (k := 1) hX zcdX5_shift_37.2.2.2.2.2.2.1 rfl rfl ?_
    refine s_get hX fX5_63 (oF hb) rfl zcdX5_shift_37.2.2.2.2.2.2.2 ?_
    refine s_iload_n (k := 2) hX zcdX5_shift_54.1 rfl rfl ?_
    refine e_iald hX (aF1 hb) zcdX5_shift_54.2.1 h (fun h => ?_)
    have j71 : f_X5_shift_L71 b M v2 x_2 x_3 = some r0 → V X M [(0, .ref (ad 21)), (1, .ref (ad b)), (2, .int v2), (5, .int x_2), (6, .int x_3)] [] 71 := by
      intro  h
      refine s_aload_n (k := 1) hX zcdX5_shift_67.2.2.1 rfl rfl ?_
      refine s_iload (k := 3) hX zcdX5_shift_67.2.2.2.1 rfl ?_
      refine s_iload (k := 4) hX zcdX5_shift_67.2.2.2.2.1 rfl ?_
      refine e_callVp hX (t_X2_stoneAt b hb x_2 x_3 M) mX2_stoneAt lX5_89 (by decide) (by decide) (oF hb) rfl rfl rfl rfl rfl (Nat.le_of_ble_eq_true rfl) zcdX5_shift_67.2.2.2.2.2.1 h (fun r_4 h => ?_)
      refine s_iconst (v := (-1)) hX zcdX5_shift_67.2.2.2.2.2.2.1 (by decide) ?_
      refine e_icmp_eq (tgt := 94) hX zcdX5_shift_67.2.2.2.2.2.2.2 (by decide) (m_eq (by decide +kernel)) h (fun h => ?_) (fun h => ?_)
      · refine s_aload_n (k := 1) hX zcdX5_shift_83.2.2.2.2.2.2.2 rfl rfl ?_
        refine s_get hX fX5_63 (oF hb) rfl zcdX5_shift_95.1 ?_
        refine s_iload_n (k := 2) hX zcdX5_shift_95.2.1 rfl rfl ?_
        refine s_iload (k := 3) hX zcdX5_shift_95.2.2.1 rfl ?_
        refine e_iast hX (aF1 hb) zcdX5_shift_95.2.2.2.1 h (fun h => ?_)
        refine e_bndM h (fun M_5 h => ?_)
        refine s_aload_n (k := 1) hX zcdX5_shift_95.2.2.2.2.1 rfl rfl ?_
        refine s_get hX fX5_66 (oF hb) rfl zcdX5_shift_95.2.2.2.2.2.1 ?_
        refine s_iload_n (k := 2) hX zcdX5_shift_95.2.2.2.2.2.2.1 rfl rfl ?_
        refine s_iload (k := 4) hX zcdX5_shift_95.2.2.2.2.2.2.2 rfl ?_
        refine e_iast hX (aF2 hb) zcdX5_shift_109.1 h (fun h => ?_)
        refine e_bndM h (fun M_6 h => ?_)
        refine s_aload_n (k := 0) hX zcdX5_shift_109.2.1 rfl rfl ?_
        refine s_dup hX zcdX5_shift_109.2.2.1 rfl ?_
        refine s_get hX fX5_15 oC21 rfl zcdX5_shift_109.2.2.2.1 ?_
        refine s_iconst (v := (nI 1)) hX zcdX5_shift_109.2.2.2.2.1 (by decide) ?_
        refine s_iadd hX zcdX5_shift_109.2.2.2.2.2.1 ?_
        refine s_puti (ty := .int) hX fX5_15 oC21 rfl (Nat.le_of_ble_eq_true rfl) ty_5_1 rfl rfl zcdX5_shift_109.2.2.2.2.2.2.1 ?_
        refine e_bndM h (fun M_7 h => ?_)
        exact e_vret hX hR zcdX5_shift_109.2.2.2.2.2.2.2 h
      · refine s_aload_n (k := 0) hX zcdX5_shift_83.1 rfl rfl ?_
        refine s_dup hX zcdX5_shift_83.2.1 rfl ?_
        refine s_get hX fX5_19 oC21 rfl zcdX5_shift_83.2.2.1 ?_
        refine s_iconst (v := (nI 1)) hX zcdX5_shift_83.2.2.2.1 (by decide) ?_
        refine s_iadd hX zcdX5_shift_83.2.2.2.2.1 ?_
        refine s_puti (ty := .int) hX fX5_19 oC21 rfl (Nat.le_of_ble_eq_true rfl) ty_5_2 rfl rfl zcdX5_shift_83.2.2.2.2.2.1 ?_
        refine e_bndM h (fun M_8 h => ?_)
        exact e_vret hX hR zcdX5_shift_83.2.2.2.2.2.2.1 h
    refine e_icmp_ne (tgt := 71) hX zcdX5_shift_54.2.2.1 (by decide) r_eq h (fun h => ?_) (fun h => ?_)
    · refine s_loc [0, 1, 2, 5, 6] rfl ?_
      exact j71 h
    · refine s_iload (k := 6) hX zcdX5_shift_54.2.2.2.1 rfl ?_
      refine s_aload_n (k := 1) hX zcdX5_shift_54.2.2.2.2.1 rfl rfl ?_
      refine s_get hX fX5_66 (oF hb) rfl zcdX5_shift_54.2.2.2.2.2.1 ?_
      refine s_iload_n (k := 2) hX zcdX5_shift_54.2.2.2.2.2.2.1 rfl rfl ?_
      refine e_iald hX (aF2 hb) zcdX5_shift_54.2.2.2.2.2.2.2 h (fun h => ?_)
      refine e_icmp_ne (tgt := 71) hX zcdX5_shift_67.1 (by decide) r_eq h (fun h => ?_) (fun h => ?_)
      · refine s_loc [0, 1, 2, 5, 6] rfl ?_
        exact j71 h
      · exact e_vret hX hR zcdX5_shift_67.2.1 h
  · exact e_vret hX hR zcdX5_look_107.2.2.2.2.2.2.1 h
