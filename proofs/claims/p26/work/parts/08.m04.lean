theorem zcdX10_nightGoes_0 : decode cX10_nightGoes 0 = .ok (.iconst 0, 1) ∧ decode cX10_nightGoes 1 = .ok (.istore_n 1, 1) ∧ decode cX10_nightGoes 2 = .ok (.iload_n 1, 1) ∧ decode cX10_nightGoes 3 = .ok (.bipush 40, 2) ∧ decode cX10_nightGoes 5 = .ok (.if_icmp .ge 22, 3) ∧ decode cX10_nightGoes 8 = .ok (.aload_n 0, 1) ∧ decode cX10_nightGoes 9 = .ok (.iload_n 1, 1) ∧ decode cX10_nightGoes 10 = .ok (.invokevirtual 154, 3) := by decide +kernel
theorem zcdX10_nightGoes_13 : decode cX10_nightGoes 13 = .ok (.ifCond .eq 8, 3) ∧ decode cX10_nightGoes 16 = .ok (.aload_n 0, 1) ∧ decode cX10_nightGoes 17 = .ok (.iload_n 1, 1) ∧ decode cX10_nightGoes 18 = .ok (.invokevirtual 302, 3) ∧ decode cX10_nightGoes 21 = .ok (.iinc 1 1, 3) ∧ decode cX10_nightGoes 24 = .ok (.goto (-22), 3) ∧ decode cX10_nightGoes 27 = .ok (.aload_n 0, 1) ∧ decode cX10_nightGoes 28 = .ok (.getfield 7, 3) := by decide +kernel
theorem zcdX10_nightGoes_31 : decode cX10_nightGoes 31 = .ok (.sipush 200, 3) ∧ decode cX10_nightGoes 34 = .ok (.aload_n 0, 1) ∧ decode cX10_nightGoes 35 = .ok (.getfield 7, 3) ∧ decode cX10_nightGoes 38 = .ok (.sipush 200, 3) ∧ decode cX10_nightGoes 41 = .ok (.iaload, 1) ∧ decode cX10_nightGoes 42 = .ok (.iconst 1, 1) ∧ decode cX10_nightGoes 43 = .ok (.iadd, 1) ∧ decode cX10_nightGoes 44 = .ok (.iastore, 1) := by decide +kernel
theorem zcdX10_nightGoes_45 : decode cX10_nightGoes 45 = .ok (.return_, 1) ∧ decode cX10_nightsGo 0 = .ok (.aload_n 0, 1) ∧ decode cX10_nightsGo 1 = .ok (.iconst 0, 1) ∧ decode cX10_nightsGo 2 = .ok (.putfield 293, 3) ∧ decode cX10_nightsGo 5 = .ok (.aload_n 0, 1) ∧ decode cX10_nightsGo 6 = .ok (.iconst 0, 1) ∧ decode cX10_nightsGo 7 = .ok (.putfield 296, 3) ∧ decode cX10_nightsGo 10 = .ok (.iconst 0, 1) := by decide +kernel
theorem zcdX10_nightsGo_11 : decode cX10_nightsGo 11 = .ok (.istore_n 2, 1) ∧ decode cX10_nightsGo 12 = .ok (.iload_n 2, 1) ∧ decode cX10_nightsGo 13 = .ok (.iload_n 1, 1) ∧ decode cX10_nightsGo 14 = .ok (.if_icmp .ge 27, 3) ∧ decode cX10_nightsGo 17 = .ok (.aload_n 0, 1) ∧ decode cX10_nightsGo 18 = .ok (.getfield 7, 3) ∧ decode cX10_nightsGo 21 = .ok (.sipush 200, 3) ∧ decode cX10_nightsGo 24 = .ok (.iaload, 1) := by decide +kernel
theorem zcdX10_nightsGo_25 : decode cX10_nightsGo 25 = .ok (.sipush 9999, 3) ∧ decode cX10_nightsGo 28 = .ok (.if_icmp .ge 13, 3) ∧ decode cX10_nightsGo 31 = .ok (.aload_n 0, 1) ∧ decode cX10_nightsGo 32 = .ok (.invokevirtual 305, 3) ∧ decode cX10_nightsGo 35 = .ok (.iinc 2 1, 3) ∧ decode cX10_nightsGo 38 = .ok (.goto (-26), 3) ∧ decode cX10_nightsGo 41 = .ok (.return_, 1) ∧ decode cX10_firstNight 0 = .ok (.aload_n 0, 1) := by decide +kernel
theorem zcdX10_firstNight_1 : decode cX10_firstNight 1 = .ok (.iload_n 1, 1) ∧ decode cX10_firstNight 2 = .ok (.invokevirtual 334, 3) ∧ decode cX10_firstNight 5 = .ok (.ifCond .ne 5, 3) ∧ decode cX10_firstNight 8 = .ok (.iconst (-1), 1) ∧ decode cX10_firstNight 9 = .ok (.ireturn, 1) ∧ decode cX10_firstNight 10 = .ok (.aload_n 0, 1) ∧ decode cX10_firstNight 11 = .ok (.getfield 7, 3) ∧ decode cX10_firstNight 14 = .ok (.aload_n 0, 1) := by decide +kernel
theorem zcdX10_firstNight_15 : decode cX10_firstNight 15 = .ok (.getfield 13, 3) ∧ decode cX10_firstNight 18 = .ok (.invokestatic 315, 3) ∧ decode cX10_firstNight 21 = .ok (.iconst 0, 1) ∧ decode cX10_firstNight 22 = .ok (.istore_n 2, 1) ∧ decode cX10_firstNight 23 = .ok (.aload_n 0, 1) ∧ decode cX10_firstNight 24 = .ok (.aload_n 0, 1) ∧ decode cX10_firstNight 25 = .ok (.getfield 19, 3) ∧ decode cX10_firstNight 28 = .ok (.iload_n 1, 1) := by decide +kernel
theorem zcdX10_firstNight_29 : decode cX10_firstNight 29 = .ok (.iaload, 1) ∧ decode cX10_firstNight 30 = .ok (.invokevirtual 337, 3) ∧ decode cX10_firstNight 33 = .ok (.iconst (-1), 1) ∧ decode cX10_firstNight 34 = .ok (.if_icmp .eq 7, 3) ∧ decode cX10_firstNight 37 = .ok (.iconst 1, 1) ∧ decode cX10_firstNight 38 = .ok (.goto 4, 3) ∧ decode cX10_firstNight 41 = .ok (.iconst 0, 1) ∧ decode cX10_firstNight 42 = .ok (.istore_n 3, 1) := by decide +kernel
theorem zcdX10_firstNight_43 : decode cX10_firstNight 43 = .ok (.iload_n 3, 1) ∧ decode cX10_firstNight 44 = .ok (.ifCond .ne 41, 3) ∧ decode cX10_firstNight 47 = .ok (.iload_n 2, 1) ∧ decode cX10_firstNight 48 = .ok (.bipush 60, 2) ∧ decode cX10_firstNight 50 = .ok (.if_icmp .ge 35, 3) ∧ decode cX10_firstNight 53 = .ok (.aload_n 0, 1) ∧ decode cX10_firstNight 54 = .ok (.iconst 1, 1) ∧ decode cX10_firstNight 55 = .ok (.invokevirtual 308, 3) := by decide +kernel
theorem zcdX10_firstNight_58 : decode cX10_firstNight 58 = .ok (.iload_n 2, 1) ∧ decode cX10_firstNight 59 = .ok (.iconst 1, 1) ∧ decode cX10_firstNight 60 = .ok (.iadd, 1) ∧ decode cX10_firstNight 61 = .ok (.istore_n 2, 1) ∧ decode cX10_firstNight 62 = .ok (.aload_n 0, 1) ∧ decode cX10_firstNight 63 = .ok (.aload_n 0, 1) ∧ decode cX10_firstNight 64 = .ok (.getfield 19, 3) ∧ decode cX10_firstNight 67 = .ok (.iload_n 1, 1) := by decide +kernel
theorem zcdX10_firstNight_68 : decode cX10_firstNight 68 = .ok (.iaload, 1) ∧ decode cX10_firstNight 69 = .ok (.invokevirtual 337, 3) ∧ decode cX10_firstNight 72 = .ok (.iconst (-1), 1) ∧ decode cX10_firstNight 73 = .ok (.if_icmp .eq 7, 3) ∧ decode cX10_firstNight 76 = .ok (.iconst 1, 1) ∧ decode cX10_firstNight 77 = .ok (.goto 4, 3) ∧ decode cX10_firstNight 80 = .ok (.iconst 0, 1) ∧ decode cX10_firstNight 81 = .ok (.istore_n 3, 1) := by decide +kernel
theorem zcdX10_firstNight_82 : decode cX10_firstNight 82 = .ok (.goto (-39), 3) ∧ decode cX10_firstNight 85 = .ok (.aload_n 0, 1) ∧ decode cX10_firstNight 86 = .ok (.getfield 13, 3) ∧ decode cX10_firstNight 89 = .ok (.aload_n 0, 1) ∧ decode cX10_firstNight 90 = .ok (.getfield 7, 3) ∧ decode cX10_firstNight 93 = .ok (.invokestatic 315, 3) ∧ decode cX10_firstNight 96 = .ok (.iload_n 3, 1) ∧ decode cX10_firstNight 97 = .ok (.ifCond .eq 7, 3) := by decide +kernel
theorem zcdX10_firstNight_100 : decode cX10_firstNight 100 = .ok (.iload_n 2, 1) ∧ decode cX10_firstNight 101 = .ok (.goto 5, 3) ∧ decode cX10_firstNight 104 = .ok (.bipush (-2), 2) ∧ decode cX10_firstNight 106 = .ok (.ireturn, 1) ∧ decode cX10_goesAcross 0 = .ok (.iconst 0, 1) ∧ decode cX10_goesAcross 1 = .ok (.istore_n 1, 1) ∧ decode cX10_goesAcross 2 = .ok (.iload_n 1, 1) ∧ decode cX10_goesAcross 3 = .ok (.bipush 82, 2) := by decide +kernel
theorem zcdX10_goesAcross_5 : decode cX10_goesAcross 5 = .ok (.if_icmp .ge 16, 3) ∧ decode cX10_goesAcross 8 = .ok (.aload_n 0, 1) ∧ decode cX10_goesAcross 9 = .ok (.getfield 95, 3) ∧ decode cX10_goesAcross 12 = .ok (.iload_n 1, 1) ∧ decode cX10_goesAcross 13 = .ok (.iconst (-1), 1) ∧ decode cX10_goesAcross 14 = .ok (.iastore, 1) ∧ decode cX10_goesAcross 15 = .ok (.iinc 1 1, 3) ∧ decode cX10_goesAcross 18 = .ok (.goto (-16), 3) := by decide +kernel
theorem zcdX10_goesAcross_21 : decode cX10_goesAcross 21 = .ok (.iconst 1, 1) ∧ decode cX10_goesAcross 22 = .ok (.istore_n 1, 1) ∧ decode cX10_goesAcross 23 = .ok (.aload_n 0, 1) ∧ decode cX10_goesAcross 24 = .ok (.getfield 98, 3) ∧ decode cX10_goesAcross 27 = .ok (.iconst 0, 1) ∧ decode cX10_goesAcross 28 = .ok (.bipush 80, 2) ∧ decode cX10_goesAcross 30 = .ok (.iastore, 1) ∧ decode cX10_goesAcross 31 = .ok (.aload_n 0, 1) := by decide +kernel
theorem zcdX10_goesAcross_32 : decode cX10_goesAcross 32 = .ok (.getfield 95, 3) ∧ decode cX10_goesAcross 35 = .ok (.bipush 80, 2) ∧ decode cX10_goesAcross 37 = .ok (.bipush 80, 2) ∧ decode cX10_goesAcross 39 = .ok (.iastore, 1) ∧ decode cX10_goesAcross 40 = .ok (.iconst 0, 1) ∧ decode cX10_goesAcross 41 = .ok (.istore_n 2, 1) ∧ decode cX10_goesAcross 42 = .ok (.iload_n 2, 1) ∧ decode cX10_goesAcross 43 = .ok (.iload_n 1, 1) := by decide +kernel
theorem zcdX10_goesAcross_44 : decode cX10_goesAcross 44 = .ok (.if_icmp .ge 89, 3) ∧ decode cX10_goesAcross 47 = .ok (.aload_n 0, 1) ∧ decode cX10_goesAcross 48 = .ok (.getfield 95, 3) ∧ decode cX10_goesAcross 51 = .ok (.bipush 81, 2) ∧ decode cX10_goesAcross 53 = .ok (.iaload, 1) ∧ decode cX10_goesAcross 54 = .ok (.iconst (-1), 1) ∧ decode cX10_goesAcross 55 = .ok (.if_icmp .ne 78, 3) ∧ decode cX10_goesAcross 58 = .ok (.iconst 0, 1) := by decide +kernel
theorem zcdX10_goesAcross_59 : decode cX10_goesAcross 59 = .ok (.istore_n 3, 1) ∧ decode cX10_goesAcross 60 = .ok (.iload_n 3, 1) ∧ decode cX10_goesAcross 61 = .ok (.bipush 82, 2) ∧ decode cX10_goesAcross 63 = .ok (.if_icmp .ge 64, 3) ∧ decode cX10_goesAcross 66 = .ok (.aload_n 0, 1) ∧ decode cX10_goesAcross 67 = .ok (.getfield 95, 3) ∧ decode cX10_goesAcross 70 = .ok (.iload_n 3, 1) ∧ decode cX10_goesAcross 71 = .ok (.iaload, 1) := by decide +kernel
theorem zcdX10_goesAcross_72 : decode cX10_goesAcross 72 = .ok (.iconst (-1), 1) ∧ decode cX10_goesAcross 73 = .ok (.if_icmp .ne 48, 3) ∧ decode cX10_goesAcross 76 = .ok (.aload_n 0, 1) ∧ decode cX10_goesAcross 77 = .ok (.getfield 92, 3) ∧ decode cX10_goesAcross 80 = .ok (.bipush 82, 2) ∧ decode cX10_goesAcross 82 = .ok (.aload_n 0, 1) ∧ decode cX10_goesAcross 83 = .ok (.getfield 98, 3) ∧ decode cX10_goesAcross 86 = .ok (.iload_n 2, 1) := by decide +kernel
theorem zcdX10_goesAcross_87 : decode cX10_goesAcross 87 = .ok (.iaload, 1) ∧ decode cX10_goesAcross 88 = .ok (.imul, 1) ∧ decode cX10_goesAcross 89 = .ok (.iload_n 3, 1) ∧ decode cX10_goesAcross 90 = .ok (.iadd, 1) ∧ decode cX10_goesAcross 91 = .ok (.baload, 1) ∧ decode cX10_goesAcross 92 = .ok (.ifCond .ne 6, 3) ∧ decode cX10_goesAcross 95 = .ok (.goto 26, 3) ∧ decode cX10_goesAcross 98 = .ok (.aload_n 0, 1) := by decide +kernel
theorem zcdX10_goesAcross_99 : decode cX10_goesAcross 99 = .ok (.getfield 95, 3) ∧ decode cX10_goesAcross 102 = .ok (.iload_n 3, 1) ∧ decode cX10_goesAcross 103 = .ok (.aload_n 0, 1) ∧ decode cX10_goesAcross 104 = .ok (.getfield 98, 3) ∧ decode cX10_goesAcross 107 = .ok (.iload_n 2, 1) ∧ decode cX10_goesAcross 108 = .ok (.iaload, 1) ∧ decode cX10_goesAcross 109 = .ok (.iastore, 1) ∧ decode cX10_goesAcross 110 = .ok (.aload_n 0, 1) := by decide +kernel
theorem zcdX10_goesAcross_111 : decode cX10_goesAcross 111 = .ok (.getfield 98, 3) ∧ decode cX10_goesAcross 114 = .ok (.iload_n 1, 1) ∧ decode cX10_goesAcross 115 = .ok (.iload_n 3, 1) ∧ decode cX10_goesAcross 116 = .ok (.iastore, 1) ∧ decode cX10_goesAcross 117 = .ok (.iload_n 1, 1) ∧ decode cX10_goesAcross 118 = .ok (.iconst 1, 1) ∧ decode cX10_goesAcross 119 = .ok (.iadd, 1) ∧ decode cX10_goesAcross 120 = .ok (.istore_n 1, 1) := by decide +kernel
theorem zcdX10_goesAcross_121 : decode cX10_goesAcross 121 = .ok (.iinc 3 1, 3) ∧ decode cX10_goesAcross 124 = .ok (.goto (-64), 3) ∧ decode cX10_goesAcross 127 = .ok (.iinc 2 1, 3) ∧ decode cX10_goesAcross 130 = .ok (.goto (-88), 3) ∧ decode cX10_goesAcross 133 = .ok (.aload_n 0, 1) ∧ decode cX10_goesAcross 134 = .ok (.getfield 95, 3) ∧ decode cX10_goesAcross 137 = .ok (.bipush 81, 2) ∧ decode cX10_goesAcross 139 = .ok (.iaload, 1) := by decide +kernel
theorem zcdX10_goesAcross_140 : decode cX10_goesAcross 140 = .ok (.iconst (-1), 1) ∧ decode cX10_goesAcross 141 = .ok (.if_icmp .ne 5, 3) ∧ decode cX10_goesAcross 144 = .ok (.iconst 0, 1) ∧ decode cX10_goesAcross 145 = .ok (.ireturn, 1) ∧ decode cX10_goesAcross 146 = .ok (.bipush 81, 2) ∧ decode cX10_goesAcross 148 = .ok (.istore_n 2, 1) ∧ decode cX10_goesAcross 149 = .ok (.iload_n 2, 1) ∧ decode cX10_goesAcross 150 = .ok (.bipush 80, 2) := by decide +kernel
theorem zcdX10_goesAcross_152 : decode cX10_goesAcross 152 = .ok (.if_icmp .eq 65, 3) ∧ decode cX10_goesAcross 155 = .ok (.aload_n 0, 1) ∧ decode cX10_goesAcross 156 = .ok (.getfield 95, 3) ∧ decode cX10_goesAcross 159 = .ok (.iload_n 2, 1) ∧ decode cX10_goesAcross 160 = .ok (.iaload, 1) ∧ decode cX10_goesAcross 161 = .ok (.istore_n 3, 1) ∧ decode cX10_goesAcross 162 = .ok (.aload_n 0, 1) ∧ decode cX10_goesAcross 163 = .ok (.getfield 92, 3) := by decide +kernel
theorem zcdX10_goesAcross_166 : decode cX10_goesAcross 166 = .ok (.bipush 82, 2) ∧ decode cX10_goesAcross 168 = .ok (.iload_n 3, 1) ∧ decode cX10_goesAcross 169 = .ok (.imul, 1) ∧ decode cX10_goesAcross 170 = .ok (.iload_n 2, 1) ∧ decode cX10_goesAcross 171 = .ok (.iadd, 1) ∧ decode cX10_goesAcross 172 = .ok (.aload_n 0, 1) ∧ decode cX10_goesAcross 173 = .ok (.getfield 92, 3) ∧ decode cX10_goesAcross 176 = .ok (.bipush 82, 2) := by decide +kernel
theorem zcdX10_goesAcross_178 : decode cX10_goesAcross 178 = .ok (.iload_n 3, 1) ∧ decode cX10_goesAcross 179 = .ok (.imul, 1) ∧ decode cX10_goesAcross 180 = .ok (.iload_n 2, 1) ∧ decode cX10_goesAcross 181 = .ok (.iadd, 1) ∧ decode cX10_goesAcross 182 = .ok (.baload, 1) ∧ decode cX10_goesAcross 183 = .ok (.iconst 1, 1) ∧ decode cX10_goesAcross 184 = .ok (.isub, 1) ∧ decode cX10_goesAcross 185 = .ok (.i2b, 1) := by decide +kernel
theorem zcdX10_goesAcross_186 : decode cX10_goesAcross 186 = .ok (.bastore, 1) ∧ decode cX10_goesAcross 187 = .ok (.aload_n 0, 1) ∧ decode cX10_goesAcross 188 = .ok (.getfield 92, 3) ∧ decode cX10_goesAcross 191 = .ok (.bipush 82, 2) ∧ decode cX10_goesAcross 193 = .ok (.iload_n 2, 1) ∧ decode cX10_goesAcross 194 = .ok (.imul, 1) ∧ decode cX10_goesAcross 195 = .ok (.iload_n 3, 1) ∧ decode cX10_goesAcross 196 = .ok (.iadd, 1) := by decide +kernel
theorem zcdX10_goesAcross_197 : decode cX10_goesAcross 197 = .ok (.aload_n 0, 1) ∧ decode cX10_goesAcross 198 = .ok (.getfield 92, 3) ∧ decode cX10_goesAcross 201 = .ok (.bipush 82, 2) ∧ decode cX10_goesAcross 203 = .ok (.iload_n 2, 1) ∧ decode cX10_goesAcross 204 = .ok (.imul, 1) ∧ decode cX10_goesAcross 205 = .ok (.iload_n 3, 1) ∧ decode cX10_goesAcross 206 = .ok (.iadd, 1) ∧ decode cX10_goesAcross 207 = .ok (.baload, 1) := by decide +kernel
theorem zcdX10_goesAcross_208 : decode cX10_goesAcross 208 = .ok (.iconst 1, 1) ∧ decode cX10_goesAcross 209 = .ok (.iadd, 1) ∧ decode cX10_goesAcross 210 = .ok (.i2b, 1) ∧ decode cX10_goesAcross 211 = .ok (.bastore, 1) ∧ decode cX10_goesAcross 212 = .ok (.iload_n 3, 1) ∧ decode cX10_goesAcross 213 = .ok (.istore_n 2, 1) ∧ decode cX10_goesAcross 214 = .ok (.goto (-65), 3) ∧ decode cX10_goesAcross 217 = .ok (.iconst 1, 1) := by decide +kernel
theorem zcdX10_goesAcross_218 : decode cX10_goesAcross 218 = .ok (.ireturn, 1) ∧ decode cX10_hasOpenSum 0 = .ok (.iload_n 1, 1) ∧ decode cX10_hasOpenSum 1 = .ok (.istore_n 2, 1) ∧ decode cX10_hasOpenSum 2 = .ok (.iload_n 2, 1) ∧ decode cX10_hasOpenSum 3 = .ok (.aload_n 0, 1) ∧ decode cX10_hasOpenSum 4 = .ok (.getfield 195, 3) ∧ decode cX10_hasOpenSum 7 = .ok (.if_icmp .ge 25, 3) ∧ decode cX10_hasOpenSum 10 = .ok (.aload_n 0, 1) := by decide +kernel
theorem zcdX10_hasOpenSum_11 : decode cX10_hasOpenSum 11 = .ok (.getfield 29, 3) ∧ decode cX10_hasOpenSum 14 = .ok (.iload_n 2, 1) ∧ decode cX10_hasOpenSum 15 = .ok (.iaload, 1) ∧ decode cX10_hasOpenSum 16 = .ok (.ldc 191, 2) ∧ decode cX10_hasOpenSum 18 = .ok (.idiv, 1) ∧ decode cX10_hasOpenSum 19 = .ok (.bipush 14, 2) ∧ decode cX10_hasOpenSum 21 = .ok (.if_icmp .ne 5, 3) ∧ decode cX10_hasOpenSum 24 = .ok (.iconst 1, 1) := by decide +kernel
theorem zcdX10_hasOpenSum_25 : decode cX10_hasOpenSum 25 = .ok (.ireturn, 1) ∧ decode cX10_hasOpenSum 26 = .ok (.iinc 2 1, 3) ∧ decode cX10_hasOpenSum 29 = .ok (.goto (-27), 3) ∧ decode cX10_hasOpenSum 32 = .ok (.iconst 0, 1) ∧ decode cX10_hasOpenSum 33 = .ok (.ireturn, 1) ∧ decode cX10_laysRoom 0 = .ok (.iconst 0, 1) ∧ decode cX10_laysRoom 1 = .ok (.istore_n 2, 1) ∧ decode cX10_laysRoom 2 = .ok (.iload_n 2, 1) := by decide +kernel
theorem zcdX10_laysRoom_3 : decode cX10_laysRoom 3 = .ok (.sipush 6724, 3) ∧ decode cX10_laysRoom 6 = .ok (.if_icmp .ge 16, 3) ∧ decode cX10_laysRoom 9 = .ok (.aload_n 0, 1) ∧ decode cX10_laysRoom 10 = .ok (.getfield 92, 3) ∧ decode cX10_laysRoom 13 = .ok (.iload_n 2, 1) ∧ decode cX10_laysRoom 14 = .ok (.iconst 0, 1) ∧ decode cX10_laysRoom 15 = .ok (.bastore, 1) ∧ decode cX10_laysRoom 16 = .ok (.iinc 2 1, 3) := by decide +kernel
theorem zcdX10_laysRoom_19 : decode cX10_laysRoom 19 = .ok (.goto (-17), 3) ∧ decode cX10_laysRoom 22 = .ok (.iconst 0, 1) ∧ decode cX10_laysRoom 23 = .ok (.istore_n 2, 1) ∧ decode cX10_laysRoom 24 = .ok (.iload_n 2, 1) ∧ decode cX10_laysRoom 25 = .ok (.bipush 40, 2) ∧ decode cX10_laysRoom 27 = .ok (.if_icmp .ge 126, 3) ∧ decode cX10_laysRoom 30 = .ok (.aload_n 0, 1) ∧ decode cX10_laysRoom 31 = .ok (.iload_n 2, 1) := by decide +kernel
theorem zcdX10_laysRoom_32 : decode cX10_laysRoom 32 = .ok (.invokevirtual 319, 3) ∧ decode cX10_laysRoom 35 = .ok (.ifCond .ne 6, 3) ∧ decode cX10_laysRoom 38 = .ok (.goto 109, 3) ∧ decode cX10_laysRoom 41 = .ok (.aload_n 0, 1) ∧ decode cX10_laysRoom 42 = .ok (.getfield 92, 3) ∧ decode cX10_laysRoom 45 = .ok (.bipush 82, 2) ∧ decode cX10_laysRoom 47 = .ok (.iload_n 2, 1) ∧ decode cX10_laysRoom 48 = .ok (.imul, 1) := by decide +kernel
theorem zcdX10_laysRoom_49 : decode cX10_laysRoom 49 = .ok (.bipush 40, 2) ∧ decode cX10_laysRoom 51 = .ok (.iadd, 1) ∧ decode cX10_laysRoom 52 = .ok (.iload_n 2, 1) ∧ decode cX10_laysRoom 53 = .ok (.iadd, 1) ∧ decode cX10_laysRoom 54 = .ok (.iconst 1, 1) ∧ decode cX10_laysRoom 55 = .ok (.bastore, 1) ∧ decode cX10_laysRoom 56 = .ok (.aload_n 0, 1) ∧ decode cX10_laysRoom 57 = .ok (.iload_n 2, 1) := by decide +kernel
theorem zcdX10_laysRoom_58 : decode cX10_laysRoom 58 = .ok (.iconst 1, 1) ∧ decode cX10_laysRoom 59 = .ok (.iload_n 1, 1) ∧ decode cX10_laysRoom 60 = .ok (.invokevirtual 322, 3) ∧ decode cX10_laysRoom 63 = .ok (.ifCond .eq 14, 3) ∧ decode cX10_laysRoom 66 = .ok (.aload_n 0, 1) ∧ decode cX10_laysRoom 67 = .ok (.getfield 92, 3) ∧ decode cX10_laysRoom 70 = .ok (.sipush 6560, 3) ∧ decode cX10_laysRoom 73 = .ok (.iload_n 2, 1) := by decide +kernel
theorem zcdX10_laysRoom_74 : decode cX10_laysRoom 74 = .ok (.iadd, 1) ∧ decode cX10_laysRoom 75 = .ok (.iconst 1, 1) ∧ decode cX10_laysRoom 76 = .ok (.bastore, 1) ∧ decode cX10_laysRoom 77 = .ok (.aload_n 0, 1) ∧ decode cX10_laysRoom 78 = .ok (.iload_n 2, 1) ∧ decode cX10_laysRoom 79 = .ok (.iconst 0, 1) ∧ decode cX10_laysRoom 80 = .ok (.iload_n 1, 1) ∧ decode cX10_laysRoom 81 = .ok (.invokevirtual 322, 3) := by decide +kernel
theorem zcdX10_laysRoom_84 : decode cX10_laysRoom 84 = .ok (.ifCond .eq 19, 3) ∧ decode cX10_laysRoom 87 = .ok (.aload_n 0, 1) ∧ decode cX10_laysRoom 88 = .ok (.getfield 92, 3) ∧ decode cX10_laysRoom 91 = .ok (.bipush 82, 2) ∧ decode cX10_laysRoom 93 = .ok (.bipush 40, 2) ∧ decode cX10_laysRoom 95 = .ok (.iload_n 2, 1) ∧ decode cX10_laysRoom 96 = .ok (.iadd, 1) ∧ decode cX10_laysRoom 97 = .ok (.imul, 1) := by decide +kernel
theorem zcdX10_laysRoom_98 : decode cX10_laysRoom 98 = .ok (.bipush 81, 2) ∧ decode cX10_laysRoom 100 = .ok (.iadd, 1) ∧ decode cX10_laysRoom 101 = .ok (.iconst 1, 1) ∧ decode cX10_laysRoom 102 = .ok (.bastore, 1) ∧ decode cX10_laysRoom 103 = .ok (.iconst 0, 1) ∧ decode cX10_laysRoom 104 = .ok (.istore_n 3, 1) ∧ decode cX10_laysRoom 105 = .ok (.iload_n 3, 1) ∧ decode cX10_laysRoom 106 = .ok (.bipush 40, 2) := by decide +kernel
theorem zcdX10_laysRoom_108 : decode cX10_laysRoom 108 = .ok (.if_icmp .ge 39, 3) ∧ decode cX10_laysRoom 111 = .ok (.iload_n 3, 1) ∧ decode cX10_laysRoom 112 = .ok (.iload_n 2, 1) ∧ decode cX10_laysRoom 113 = .ok (.if_icmp .eq 28, 3) ∧ decode cX10_laysRoom 116 = .ok (.aload_n 0, 1) ∧ decode cX10_laysRoom 117 = .ok (.iload_n 2, 1) ∧ decode cX10_laysRoom 118 = .ok (.iload_n 3, 1) ∧ decode cX10_laysRoom 119 = .ok (.iload_n 1, 1) := by decide +kernel
theorem zcdX10_laysRoom_120 : decode cX10_laysRoom 120 = .ok (.invokevirtual 326, 3) ∧ decode cX10_laysRoom 123 = .ok (.ifCond .eq 18, 3) ∧ decode cX10_laysRoom 126 = .ok (.aload_n 0, 1) ∧ decode cX10_laysRoom 127 = .ok (.getfield 92, 3) ∧ decode cX10_laysRoom 130 = .ok (.bipush 82, 2) ∧ decode cX10_laysRoom 132 = .ok (.bipush 40, 2) ∧ decode cX10_laysRoom 134 = .ok (.iload_n 2, 1) ∧ decode cX10_laysRoom 135 = .ok (.iadd, 1) := by decide +kernel
theorem zcdX10_laysRoom_136 : decode cX10_laysRoom 136 = .ok (.imul, 1) ∧ decode cX10_laysRoom 137 = .ok (.iload_n 3, 1) ∧ decode cX10_laysRoom 138 = .ok (.iadd, 1) ∧ decode cX10_laysRoom 139 = .ok (.iconst 1, 1) ∧ decode cX10_laysRoom 140 = .ok (.bastore, 1) ∧ decode cX10_laysRoom 141 = .ok (.iinc 3 1, 3) ∧ decode cX10_laysRoom 144 = .ok (.goto (-39), 3) ∧ decode cX10_laysRoom 147 = .ok (.iinc 2 1, 3) := by decide +kernel
theorem zcdX10_laysRoom_150 : decode cX10_laysRoom 150 = .ok (.goto (-126), 3) ∧ decode cX10_laysRoom 153 = .ok (.return_, 1) ∧ decode cX10_hold 0 = .ok (.aload_n 0, 1) ∧ decode cX10_hold 1 = .ok (.iload_n 1, 1) ∧ decode cX10_hold 2 = .ok (.invokevirtual 334, 3) ∧ decode cX10_hold 5 = .ok (.ifCond .ne 5, 3) ∧ decode cX10_hold 8 = .ok (.iconst (-1), 1) ∧ decode cX10_hold 9 = .ok (.ireturn, 1) := by decide +kernel
theorem zcdX10_hold_10 : decode cX10_hold 10 = .ok (.aload_n 0, 1) ∧ decode cX10_hold 11 = .ok (.getfield 19, 3) ∧ decode cX10_hold 14 = .ok (.iload_n 1, 1) ∧ decode cX10_hold 15 = .ok (.iaload, 1) ∧ decode cX10_hold 16 = .ok (.bipush 21, 2) ∧ decode cX10_hold 18 = .ok (.if_icmp .lt 6, 3) ∧ decode cX10_hold 21 = .ok (.bipush (-2), 2) ∧ decode cX10_hold 23 = .ok (.ireturn, 1) := by decide +kernel
theorem zcdX10_hold_24 : decode cX10_hold 24 = .ok (.aload_n 0, 1) ∧ decode cX10_hold 25 = .ok (.aload_n 0, 1) ∧ decode cX10_hold 26 = .ok (.getfield 19, 3) ∧ decode cX10_hold 29 = .ok (.iload_n 1, 1) ∧ decode cX10_hold 30 = .ok (.iaload, 1) ∧ decode cX10_hold 31 = .ok (.invokevirtual 347, 3) ∧ decode cX10_hold 34 = .ok (.iconst 0, 1) ∧ decode cX10_hold 35 = .ok (.istore_n 2, 1) := by decide +kernel
theorem zcdX10_hold_36 : decode cX10_hold 36 = .ok (.aload_n 0, 1) ∧ decode cX10_hold 37 = .ok (.invokevirtual 350, 3) ∧ decode cX10_hold 40 = .ok (.ifCond .eq 10, 3) ∧ decode cX10_hold 43 = .ok (.iload_n 2, 1) ∧ decode cX10_hold 44 = .ok (.iconst 1, 1) ∧ decode cX10_hold 45 = .ok (.iadd, 1) ∧ decode cX10_hold 46 = .ok (.istore_n 2, 1) ∧ decode cX10_hold 47 = .ok (.goto (-11), 3) := by decide +kernel
theorem zcdX10_hold_50 : decode cX10_hold 50 = .ok (.iload_n 2, 1) ∧ decode cX10_hold 51 = .ok (.ireturn, 1) ∧ decode cX10_howFar 0 = .ok (.aload_n 0, 1) ∧ decode cX10_howFar 1 = .ok (.iload_n 1, 1) ∧ decode cX10_howFar 2 = .ok (.invokevirtual 334, 3) ∧ decode cX10_howFar 5 = .ok (.ifCond .ne 5, 3) ∧ decode cX10_howFar 8 = .ok (.iconst (-1), 1) ∧ decode cX10_howFar 9 = .ok (.ireturn, 1) := by decide +kernel
theorem zcdX10_howFar_10 : decode cX10_howFar 10 = .ok (.aload_n 0, 1) ∧ decode cX10_howFar 11 = .ok (.aload_n 0, 1) ∧ decode cX10_howFar 12 = .ok (.getfield 19, 3) ∧ decode cX10_howFar 15 = .ok (.iload_n 1, 1) ∧ decode cX10_howFar 16 = .ok (.iaload, 1) ∧ decode cX10_howFar 17 = .ok (.invokevirtual 337, 3) ∧ decode cX10_howFar 20 = .ok (.iconst (-1), 1) ∧ decode cX10_howFar 21 = .ok (.if_icmp .eq 6, 3) := by decide +kernel
theorem zcdX10_howFar_24 : decode cX10_howFar 24 = .ok (.bipush 21, 2) ∧ decode cX10_howFar 26 = .ok (.ireturn, 1) ∧ decode cX10_howFar 27 = .ok (.iconst 0, 1) ∧ decode cX10_howFar 28 = .ok (.istore_n 2, 1) ∧ decode cX10_howFar 29 = .ok (.iconst 0, 1) ∧ decode cX10_howFar 30 = .ok (.istore_n 3, 1) ∧ decode cX10_howFar 31 = .ok (.iload_n 3, 1) ∧ decode cX10_howFar 32 = .ok (.bipush 40, 2) := by decide +kernel
theorem zcdX10_howFar_34 : decode cX10_howFar 34 = .ok (.if_icmp .ge 33, 3) ∧ decode cX10_howFar 37 = .ok (.aload_n 0, 1) ∧ decode cX10_howFar 38 = .ok (.getfield 77, 3) ∧ decode cX10_howFar 41 = .ok (.iload_n 3, 1) ∧ decode cX10_howFar 42 = .ok (.iaload, 1) ∧ decode cX10_howFar 43 = .ok (.iconst (-1), 1) ∧ decode cX10_howFar 44 = .ok (.if_icmp .eq 17, 3) ∧ decode cX10_howFar 47 = .ok (.iload_n 2, 1) := by decide +kernel
theorem zcdX10_howFar_48 : decode cX10_howFar 48 = .ok (.aload_n 0, 1) ∧ decode cX10_howFar 49 = .ok (.getfield 7, 3) ∧ decode cX10_howFar 52 = .ok (.bipush 80, 2) ∧ decode cX10_howFar 54 = .ok (.iload_n 3, 1) ∧ decode cX10_howFar 55 = .ok (.iadd, 1) ∧ decode cX10_howFar 56 = .ok (.iaload, 1) ∧ decode cX10_howFar 57 = .ok (.invokestatic 129, 3) ∧ decode cX10_howFar 60 = .ok (.istore_n 2, 1) := by decide +kernel
theorem zcdX10_howFar_61 : decode cX10_howFar 61 = .ok (.iinc 3 1, 3) ∧ decode cX10_howFar 64 = .ok (.goto (-33), 3) ∧ decode cX10_howFar 67 = .ok (.iload_n 2, 1) ∧ decode cX10_howFar 68 = .ok (.ireturn, 1) ∧ decode cX10_isDigit 0 = .ok (.aload_n 0, 1) ∧ decode cX10_isDigit 1 = .ok (.invokevirtual 171, 3) ∧ decode cX10_isDigit 4 = .ok (.bipush 48, 2) ∧ decode cX10_isDigit 6 = .ok (.if_icmp .lt 16, 3) := by decide +kernel
theorem zcdX10_isDigit_9 : decode cX10_isDigit 9 = .ok (.aload_n 0, 1) ∧ decode cX10_isDigit 10 = .ok (.invokevirtual 171, 3) ∧ decode cX10_isDigit 13 = .ok (.bipush 57, 2) ∧ decode cX10_isDigit 15 = .ok (.if_icmp .gt 7, 3) ∧ decode cX10_isDigit 18 = .ok (.iconst 1, 1) ∧ decode cX10_isDigit 19 = .ok (.goto 4, 3) ∧ decode cX10_isDigit 22 = .ok (.iconst 0, 1) ∧ decode cX10_isDigit 23 = .ok (.ireturn, 1) := by decide +kernel
theorem zcdX10_laysIslands_0 : decode cX10_laysIslands 0 = .ok (.iconst 0, 1) ∧ decode cX10_laysIslands 1 = .ok (.istore_n 2, 1) ∧ decode cX10_laysIslands 2 = .ok (.iconst 0, 1) ∧ decode cX10_laysIslands 3 = .ok (.istore_n 3, 1) ∧ decode cX10_laysIslands 4 = .ok (.iload_n 3, 1) ∧ decode cX10_laysIslands 5 = .ok (.bipush 40, 2) ∧ decode cX10_laysIslands 7 = .ok (.if_icmp .ge 16, 3) ∧ decode cX10_laysIslands 10 = .ok (.aload_n 0, 1) := by decide +kernel
theorem zcdX10_laysIslands_11 : decode cX10_laysIslands 11 = .ok (.getfield 101, 3) ∧ decode cX10_laysIslands 14 = .ok (.iload_n 3, 1) ∧ decode cX10_laysIslands 15 = .ok (.iconst (-1), 1) ∧ decode cX10_laysIslands 16 = .ok (.iastore, 1) ∧ decode cX10_laysIslands 17 = .ok (.iinc 3 1, 3) ∧ decode cX10_laysIslands 20 = .ok (.goto (-16), 3) ∧ decode cX10_laysIslands 23 = .ok (.iconst 0, 1) ∧ decode cX10_laysIslands 24 = .ok (.istore_n 3, 1) := by decide +kernel
theorem zcdX10_laysIslands_25 : decode cX10_laysIslands 25 = .ok (.iload_n 3, 1) ∧ decode cX10_laysIslands 26 = .ok (.bipush 40, 2) ∧ decode cX10_laysIslands 28 = .ok (.if_icmp .ge 137, 3) ∧ decode cX10_laysIslands 31 = .ok (.aload_n 0, 1) ∧ decode cX10_laysIslands 32 = .ok (.iload_n 3, 1) ∧ decode cX10_laysIslands 33 = .ok (.invokevirtual 319, 3) ∧ decode cX10_laysIslands 36 = .ok (.ifCond .eq 123, 3) ∧ decode cX10_laysIslands 39 = .ok (.aload_n 0, 1) := by decide +kernel
theorem zcdX10_laysIslands_40 : decode cX10_laysIslands 40 = .ok (.getfield 101, 3) ∧ decode cX10_laysIslands 43 = .ok (.iload_n 3, 1) ∧ decode cX10_laysIslands 44 = .ok (.iaload, 1) ∧ decode cX10_laysIslands 45 = .ok (.iconst (-1), 1) ∧ decode cX10_laysIslands 46 = .ok (.if_icmp .eq 6, 3) ∧ decode cX10_laysIslands 49 = .ok (.goto 110, 3) ∧ decode cX10_laysIslands 52 = .ok (.iconst 1, 1) ∧ decode cX10_laysIslands 53 = .ok (.istore 4, 2) := by decide +kernel
theorem zcdX10_laysIslands_55 : decode cX10_laysIslands 55 = .ok (.aload_n 0, 1) ∧ decode cX10_laysIslands 56 = .ok (.getfield 83, 3) ∧ decode cX10_laysIslands 59 = .ok (.iconst 0, 1) ∧ decode cX10_laysIslands 60 = .ok (.iload_n 3, 1) ∧ decode cX10_laysIslands 61 = .ok (.iastore, 1) ∧ decode cX10_laysIslands 62 = .ok (.aload_n 0, 1) ∧ decode cX10_laysIslands 63 = .ok (.getfield 101, 3) ∧ decode cX10_laysIslands 66 = .ok (.iload_n 3, 1) := by decide +kernel
theorem zcdX10_laysIslands_67 : decode cX10_laysIslands 67 = .ok (.iload_n 2, 1) ∧ decode cX10_laysIslands 68 = .ok (.iastore, 1) ∧ decode cX10_laysIslands 69 = .ok (.iconst 0, 1) ∧ decode cX10_laysIslands 70 = .ok (.istore 5, 2) ∧ decode cX10_laysIslands 72 = .ok (.iload 5, 2) ∧ decode cX10_laysIslands 74 = .ok (.iload 4, 2) ∧ decode cX10_laysIslands 76 = .ok (.if_icmp .ge 79, 3) ∧ decode cX10_laysIslands 79 = .ok (.iconst 0, 1) := by decide +kernel
theorem zcdX10_laysIslands_80 : decode cX10_laysIslands 80 = .ok (.istore 6, 2) ∧ decode cX10_laysIslands 82 = .ok (.iload 6, 2) ∧ decode cX10_laysIslands 84 = .ok (.bipush 40, 2) ∧ decode cX10_laysIslands 86 = .ok (.if_icmp .ge 63, 3) ∧ decode cX10_laysIslands 89 = .ok (.aload_n 0, 1) ∧ decode cX10_laysIslands 90 = .ok (.getfield 101, 3) ∧ decode cX10_laysIslands 93 = .ok (.iload 6, 2) ∧ decode cX10_laysIslands 95 = .ok (.iaload, 1) := by decide +kernel
theorem zcdX10_laysIslands_96 : decode cX10_laysIslands 96 = .ok (.iconst (-1), 1) ∧ decode cX10_laysIslands 97 = .ok (.if_icmp .ne 46, 3) ∧ decode cX10_laysIslands 100 = .ok (.aload_n 0, 1) ∧ decode cX10_laysIslands 101 = .ok (.aload_n 0, 1) ∧ decode cX10_laysIslands 102 = .ok (.getfield 83, 3) ∧ decode cX10_laysIslands 105 = .ok (.iload 5, 2) ∧ decode cX10_laysIslands 107 = .ok (.iaload, 1) ∧ decode cX10_laysIslands 108 = .ok (.iload 6, 2) := by decide +kernel
theorem zcdX10_laysIslands_110 : decode cX10_laysIslands 110 = .ok (.iload_n 1, 1) ∧ decode cX10_laysIslands 111 = .ok (.invokevirtual 326, 3) ∧ decode cX10_laysIslands 114 = .ok (.ifCond .ne 6, 3) ∧ decode cX10_laysIslands 117 = .ok (.goto 26, 3) ∧ decode cX10_laysIslands 120 = .ok (.aload_n 0, 1) ∧ decode cX10_laysIslands 121 = .ok (.getfield 101, 3) ∧ decode cX10_laysIslands 124 = .ok (.iload 6, 2) ∧ decode cX10_laysIslands 126 = .ok (.iload_n 2, 1) := by decide +kernel
theorem zcdX10_laysIslands_127 : decode cX10_laysIslands 127 = .ok (.iastore, 1) ∧ decode cX10_laysIslands 128 = .ok (.aload_n 0, 1) ∧ decode cX10_laysIslands 129 = .ok (.getfield 83, 3) ∧ decode cX10_laysIslands 132 = .ok (.iload 4, 2) ∧ decode cX10_laysIslands 134 = .ok (.iload 6, 2) ∧ decode cX10_laysIslands 136 = .ok (.iastore, 1) ∧ decode cX10_laysIslands 137 = .ok (.iload 4, 2) ∧ decode cX10_laysIslands 139 = .ok (.iconst 1, 1) := by decide +kernel
theorem zcdX10_laysIslands_140 : decode cX10_laysIslands 140 = .ok (.iadd, 1) ∧ decode cX10_laysIslands 141 = .ok (.istore 4, 2) ∧ decode cX10_laysIslands 143 = .ok (.iinc 6 1, 3) ∧ decode cX10_laysIslands 146 = .ok (.goto (-64), 3) ∧ decode cX10_laysIslands 149 = .ok (.iinc 5 1, 3) ∧ decode cX10_laysIslands 152 = .ok (.goto (-80), 3) ∧ decode cX10_laysIslands 155 = .ok (.iload_n 2, 1) ∧ decode cX10_laysIslands 156 = .ok (.iconst 1, 1) := by decide +kernel
theorem zcdX10_laysIslands_157 : decode cX10_laysIslands 157 = .ok (.iadd, 1) ∧ decode cX10_laysIslands 158 = .ok (.istore_n 2, 1) ∧ decode cX10_laysIslands 159 = .ok (.iinc 3 1, 3) ∧ decode cX10_laysIslands 162 = .ok (.goto (-137), 3) ∧ decode cX10_laysIslands 165 = .ok (.iload_n 2, 1) ∧ decode cX10_laysIslands 166 = .ok (.ireturn, 1) := by decide +kernel
set_option maxHeartbeats 4000000 in
theorem t_X10_nightGoes (M : Mem) : AXv yX10_nightGoes cX10_nightGoes 2 none 4 39 glM (fun ad => [.ref (ad 0)]) M (f_X10_nightGoes M) := by
  intro r0 h
  refine AM.of (by decide) (fun _ => Nat.le_of_ble_eq_true rfl) (fun X ad cI cZ cB hX hR => ?_)
  show V X M [(0, .ref (ad 0))] [] 0
  refine s_iconst (v := (nI 0)) hX zcdX10_nightGoes_0.1 (by decide) ?_
  refine s_istore_n (lv' := [(0, .ref (ad 0)), (1, .int (nI 0))]) hX zcdX10_nightGoes_0.2.1 rfl (by decide) rfl ?_
  have lp2 : ∀ (N2 : Nat) (M2 : Mem) (y1_2 : Int32), wlp2 f_X10_nightGoes_B2 N2 M2 y1_2 = some r0 → V X M2 [(0, .ref (ad 0)), (1, .int y1_2)] [] 2 := by
    intro N2
    induction N2 with
    | zero => exact fun _ _ h => e_none h
    | succ N2 ih2 =>
      intro M2 y1_2 h
      replace h : f_X10_nightGoes_B2 (wlp2 f_X10_nightGoes_B2 N2) M2 y1_2 = some r0 := h
      generalize wlp2 f_X10_nightGoes_B2 N2 = ag2 at ih2 h
      refine s_iload_n (k := 1) hX zcdX10_nightGoes_0.2.2.1 rfl rfl ?_
      refine s_bipush (v := (nI 40)) hX zcdX10_nightGoes_0.2.2.2.1 (by decide) ?_
      have j27 : f_X10_nightGoes_L27 M2 = some r0 → V X M2 [(0, .ref (ad 0))] [] 27 := by
        intro  h
        refine s_aload_n (k := 0) hX zcdX10_nightGoes_13.2.2.2.2.2.2.1 rfl rfl ?_
        refine s_get hX fX10_7 oM0 rfl zcdX10_nightGoes_13.2.2.2.2.2.2.2 ?_
        refine s_sipush (v := (nI 200)) hX zcdX10_nightGoes_31.1 (by decide) ?_
        refine s_aload_n (k := 0) hX zcdX10_nightGoes_31.2.1 rfl rfl ?_
        refine s_get hX fX10_7 oM0 rfl zcdX10_nightGoes_31.2.2.1 ?_
        refine s_sipush (v := (nI 200)) hX zcdX10_nightGoes_31.2.2.2.1 (by decide) ?_
        refine s_ialdN hX aM1 (by decide) zcdX10_nightGoes_31.2.2.2.2.1 ?_
        refine s_iconst (v := (nI 1)) hX zcdX10_nightGoes_31.2.2.2.2.2.1 (by decide) ?_
        refine s_iadd hX zcdX10_nightGoes_31.2.2.2.2.2.2.1 ?_
        refine s_iastN hX aM1 (by decide) zcdX10_nightGoes_31.2.2.2.2.2.2.2 ?_
        refine e_bndM h (fun M_1 h => ?_)
        exact e_vret hX hR zcdX10_nightGoes_45.1 h
      refine e_icmp_ge (tgt := 27) hX zcdX10_nightGoes_0.2.2.2.2.1 (by decide) (m_ge (by decide +kernel)) h (fun h => ?_) (fun h => ?_)
      · refine s_loc [0] rfl ?_
        exact j27 h
      · refine s_aload_n (k := 0) hX zcdX10_nightGoes_0.2.2.2.2.2.1 rfl rfl ?_
        refine s_iload_n (k := 1) hX zcdX10_nightGoes_0.2.2.2.2.2.2.1 rfl rfl ?_
        refine e_callVp hX (t_X10_isStone y1_2 M2) mX10_isStone lX10_154 (by decide) (by decide) oM0 rfl rfl rfl rfl rfl (Nat.le_of_ble_eq_true rfl) zcdX10_nightGoes_0.2.2.2.2.2.2.2 h (fun r_2 h => ?_)
        refine e_if_eq (tgt := 21) hX zcdX10_nightGoes_13.1 (by decide) z_eq h (fun h => ?_) (fun h => ?_)
        · refine s_iinc (k := 1) (v := (y1_2 + (nI 1))) (lv' := [(0, .ref (ad 0)), (1, .int (y1_2 + (nI 1)))]) hX zcdX10_nightGoes_13.2.2.2.2.1 (congrArg (fun z => y1_2 + z) (by decide)) (by decide) rfl rfl ?_
          refine s_goto (tgt := 2) hX zcdX10_nightGoes_13.2.2.2.2.2.1 (by decide) ?_
          exact ih2 M2 (y1_2 + (nI 1)) h
        · refine s_aload_n (k := 0) hX zcdX10_nightGoes_13.2.1 rfl rfl ?_
          refine s_iload_n (k := 1) hX zcdX10_nightGoes_13.2.2.1 rfl rfl ?_
          refine e_callVv hX (t_X10_moves y1_2 M2) mX10_moves lX10_302 (by decide) (by decide) oM0 rfl rfl rfl rfl rfl (Nat.le_of_ble_eq_true rfl) zcdX10_nightGoes_13.2.2.2.1 h (fun M_3 h => ?_)
          refine s_iinc (k := 1) (v := (y1_2 + (nI 1))) (lv' := [(0, .ref (ad 0)), (1, .int (y1_2 + (nI 1)))]) hX zcdX10_nightGoes_13.2.2.2.2.1 (congrArg (fun z => y1_2 + z) (by decide)) (by decide) rfl rfl ?_
          refine s_goto (tgt := 2) hX zcdX10_nightGoes_13.2.2.2.2.2.1 (by decide) ?_
          exact ih2 M_3 (y1_2 + (nI 1)) h
  exact lp2 FU M (nI 0) h
set_option maxHeartbeats 4000000 in
theorem t_X10_nightsGo (v1 : Int32) (M : Mem) : AXv yX10_nightsGo cX10_nightsGo 3 none 5 39 glM (fun ad => [.ref (ad 0), .int v1]) M (f_X10_nightsGo M v1) := by
  intro r0 h
  refine AM.of (by decide) (fun _ => Nat.le_of_ble_eq_true rfl) (fun X ad cI cZ cB hX hR => ?_)
  show V X M [(0, .ref (ad 0)), (1, .int v1)] [] 0
  refine s_aload_n (k := 0) hX zcdX10_nightGoes_45.2.1 rfl rfl ?_
  refine s_iconst (v := (nI 0)) hX zcdX10_nightGoes_45.2.2.1 (by decide) ?_
  refine s_puti (ty := .int) hX fX10_293 oM0 rfl (Nat.le_of_ble_eq_true rfl) ty_10_34 rfl rfl zcdX10_nightGoes_45.2.2.2.1 ?_
  refine e_bndM h (fun M_1 h => ?_)
  refine s_aload_n (k := 0) hX zcdX10_nightGoes_45.2.2.2.2.1 rfl rfl ?_
  refine s_iconst (v := (nI 0)) hX zcdX10_nightGoes_45.2.2.2.2.2.1 (by decide) ?_
  refine s_puti (ty := .int) hX fX10_296 oM0 rfl (Nat.le_of_ble_eq_true rfl) ty_10_35 rfl rfl zcdX10_nightGoes_45.2.2.2.2.2.2.1 ?_
  refine e_bndM h (fun M_2 h => ?_)
  refine s_iconst (v := (nI 0)) hX zcdX10_nightGoes_45.2.2.2.2.2.2.2 (by decide) ?_
  refine s_istore_n (lv' := [(0, .ref (ad 0)), (1, .int v1), (2, .int (nI 0))]) hX zcdX10_nightsGo_11.1 rfl (by decide) rfl ?_
  have lp12 : ∀ (N12 : Nat) (M12 : Mem) (y2_12 : Int32), wlp2 (f_X10_nightsGo_B12 v1) N12 M12 y2_12 = some r0 → V X M12 [(0, .ref (ad 0)), (1, .int v1), (2, .int y2_12)] [] 12 := by
    intro N12
    induction N12 with
    | zero => exact fun _ _ h => e_none h
    | succ N12 ih12 =>
      intro M12 y2_12 h
      replace h : f_X10_nightsGo_B12 v1 (wlp2 (f_X10_nightsGo_B12 v1) N12) M12 y2_12 = some r0 := h
      generalize wlp2 (f_X10_nightsGo_B12 v1) N12 = ag12 at ih12 h
      refine s_iload_n (k := 2) hX zcdX10_nightsGo_11.2.1 rfl rfl ?_
      refine s_iload_n (k := 1) hX zcdX10_nightsGo_11.2.2.1 rfl rfl ?_
      refine e_icmp_ge (tgt := 41) hX zcdX10_nightsGo_11.2.2.2.1 (by decide) r_le h (fun h => ?_) (fun h => ?_)
      · exact e_vret hX hR zcdX10_nightsGo_25.2.2.2.2.2.2.1 h
      · refine s_aload_n (k := 0) hX zcdX10_nightsGo_11.2.2.2.2.1 rfl rfl ?_
        refine s_get hX fX10_7 oM0 rfl zcdX10_nightsGo_11.2.2.2.2.2.1 ?_
        refine s_sipush (v := (nI 200)) hX zcdX10_nightsGo_11.2.2.2.2.2.2.1 (by decide) ?_
        refine s_ialdN hX aM1 (by decide) zcdX10_nightsGo_11.2.2.2.2.2.2.2 ?_
        refine s_sipush (v := (nI 9999)) hX zcdX10_nightsGo_25.1 (by decide) ?_
        refine e_icmp_ge (tgt := 41) hX zcdX10_nightsGo_25.2.1 (by decide) (m_ge (by decide +kernel)) h (fun h => ?_) (fun h => ?_)
        · exact e_vret hX hR zcdX10_nightsGo_25.2.2.2.2.2.2.1 h
        · refine s_aload_n (k := 0) hX zcdX10_nightsGo_25.2.2.1 rfl rfl ?_
          refine e_callVv hX (t_X10_nightGoes M12) mX10_nightGoes lX10_305 (by decide) (by decide) oM0 rfl rfl rfl rfl rfl (Nat.le_of_ble_eq_true rfl) zcdX10_nightsGo_25.2.2.2.1 h (fun M_3 h => ?_)
          refine s_iinc (k := 2) (v := (y2_12 + (nI 1))) (lv' := [(0, .ref (ad 0)), (1, .int v1), (2, .int (y2_12 + (nI 1)))]) hX zcdX10_nightsGo_25.2.2.2.2.1 (congrArg (fun z => y2_12 + z) (by decide)) (by decide) rfl rfl ?_
          refine s_goto (tgt := 12) hX zcdX10_nightsGo_25.2.2.2.2.2.1 (by decide) ?_
          exact ih12 M_3 (y2_12 + (nI 1)) h
  exact lp12 FU M_2 (nI 0) h
set_option maxHeartbeats 4000000 in
theorem t_X10_firstNight (v1 : Int32) (M : Mem) : AXi yX10_firstNight cX10_firstNight 4 (some .int) 6 39 glM (fun ad => [.ref (ad 0), .int v1]) M (f_X10_firstNight M v1) := by
  intro r0 h
  refine AM.of (by decide) (fun _ => Nat.le_of_ble_eq_true rfl) (fun X ad cI cZ cB hX hR => ?_)
  show V X M [(0, .ref (ad 0)), (1, .int v1)] [] 0
  refine s_aload_n (k := 0) hX zcdX10_nightsGo_25.2.2.2.2.2.2.2 rfl rfl ?_
  refine s_iload_n (k := 1) hX zcdX10_firstNight_1.1 rfl rfl ?_
  refine e_callVp hX (t_X10_isPerson v1 M) mX10_isPerson lX10_334 (by decide) (by decide) oM0 rfl rfl rfl rfl rfl (Nat.le_of_ble_eq_true rfl) zcdX10_firstNight_1.2.1 h (fun r_1 h => ?_)
  refine e_if_ne (tgt := 10) hX zcdX10_firstNight_1.2.2.1 (by decide) z_eq h (fun h => ?_) (fun h => ?_)
  · refine s_aload_n (k := 0) hX zcdX10_firstNight_1.2.2.2.2.2.1 rfl rfl ?_
    refine s_get hX fX10_7 oM0 rfl zcdX10_firstNight_1.2.2.2.2.2.2.1 ?_
    refine s_aload_n (k := 0) hX zcdX10_firstNight_1.2.2.2.2.2.2.2 rfl rfl ?_
    refine s_get hX fX10_13 oM0 rfl zcdX10_firstNight_15.1 ?_
    refine e_callSv hX (t_X10_copies 1 202 aM1 (by decide) 2 202 aM2 (by decide) M) mX10_copies lX10_315 (by decide) (by decide) rfl rfl (Nat.le_of_ble_eq_true rfl) zcdX10_firstNight_15.2.1 h (fun M_2 h => ?_)
    refine s_iconst (v := (nI 0)) hX zcdX10_firstNight_15.2.2.1 (by decide) ?_
    refine s_istore_n (lv' := [(0, .ref (ad 0)), (1, .int v1), (2, .int (nI 0))]) hX zcdX10_firstNight_15.2.2.2.1 rfl (by decide) rfl ?_
    refine s_aload_n (k := 0) hX zcdX10_firstNight_15.2.2.2.2.1 rfl rfl ?_
    refine s_aload_n (k := 0) hX zcdX10_firstNight_15.2.2.2.2.2.1 rfl rfl ?_
    refine s_get hX fX10_19 oM0 rfl zcdX10_firstNight_15.2.2.2.2.2.2.1 ?_
    refine s_iload_n (k := 1) hX zcdX10_firstNight_15.2.2.2.2.2.2.2 rfl rfl ?_
    refine e_iald hX aM4 zcdX10_firstNight_29.1 h (fun h => ?_)
    refine e_callVi hX (t_X10_crossing (M_2 4 (ix v1)) M_2) mX10_crossing lX10_337 (by decide) (by decide) oM0 rfl rfl rfl rfl rfl (Nat.le_of_ble_eq_true rfl) zcdX10_firstNight_29.2.1 h (fun r_3 M_4 h => ?_)
    refine s_iconst (v := (-1)) hX zcdX10_firstNight_29.2.2.1 (by decide) ?_
    have j42 : ∀ (t0_42 : Int32), f_X10_firstNight_L42 v1 M_4 t0_42 = some r0 → V X M_4 [(0, .ref (ad 0)), (1, .int v1), (2, .int (nI 0))] [.int t0_42] 42 := by
      intro t0_42 h
      refine s_istore_n (lv' := [(0, .ref (ad 0)), (1, .int v1), (2, .int (nI 0)), (3, .int t0_42)]) hX zcdX10_firstNight_29.2.2.2.2.2.2.2 rfl (by decide) rfl ?_
      have lp43 : ∀ (N43 : Nat) (M43 : Mem) (y2_43 : Int32) (y3_43 : Int32), wlp3 (f_X10_firstNight_B43 v1) N43 M43 y2_43 y3_43 = some r0 → V X M43 [(0, .ref (ad 0)), (1, .int v1), (2, .int y2_43), (3, .int y3_43)] [] 43 := by
        intro N43
        induction N43 with
        | zero => exact fun _ _ _ h => e_none h
        | succ N43 ih43 =>
          intro M43 y2_43 y3_43 h
          replace h : f_X10_firstNight_B43 v1 (wlp3 (f_X10_firstNight_B43 v1) N43) M43 y2_43 y3_43 = some r0 := h
          generalize wlp3 (f_X10_firstNight_B43 v1) N43 = ag43 at ih43 h
          refine s_iload_n (k := 3) hX zcdX10_firstNight_43.1 rfl rfl ?_
          have j85 : f_X10_firstNight_L85 M43 y2_43 y3_43 = some r0 → V X M43 [(0, .ref (ad 0)), (2, .int y2_43), (3, .int y3_43)] [] 85 := by
            intro  h
            refine s_aload_n (k := 0) hX zcdX10_firstNight_82.2.1 rfl rfl ?_
            refine s_get hX fX10_13 oM0 rfl zcdX10_firstNight_82.2.2.1 ?_
            refine s_aload_n (k := 0) hX zcdX10_firstNight_82.2.2.2.1 rfl rfl ?_
            refine s_get hX fX10_7 oM0 rfl zcdX10_firstNight_82.2.2.2.2.1 ?_
            refine e_callSv hX (t_X10_copies 2 202 aM2 (by decide) 1 202 aM1 (by decide) M43) mX10_copies lX10_315 (by decide) (by decide) rfl rfl (Nat.le_of_ble_eq_true rfl) zcdX10_firstNight_82.2.2.2.2.2.1 h (fun M_5 h => ?_)
            refine s_iload_n (k := 2) hX zcdX10_firstNight_82.2.2.2.2.2.2.1 rfl rfl ?_
            refine e_if_eq (tgt := 104) hX zcdX10_firstNight_82.2.2.2.2.2.2.2 (by decide) z_eq h (fun h => ?_) (fun h => ?_)
            · refine s_bipush (v := (-2)) hX zcdX10_firstNight_100.2.2.1 (by decide) ?_
              exact e_ireti hX hR zcdX10_firstNight_100.2.2.2.1 h
            · refine s_iload_n (k := 1) hX zcdX10_firstNight_100.1 rfl rfl ?_
              refine s_goto (tgt := 106) hX zcdX10_firstNight_100.2.1 (by decide) ?_
              exact e_ireti hX hR zcdX10_firstNight_100.2.2.2.1 h
          refine e_if_ne (tgt := 85) hX zcdX10_firstNight_43.2.1 (by decide) z_eq h (fun h => ?_) (fun h => ?_)
          · refine s_loc [0, 2, 3] rfl ?_
            exact j85 h
          · refine s_iload_n (k := 2) hX zcdX10_firstNight_43.2.2.1 rfl rfl ?_
            refine s_bipush (v := (nI 60)) hX zcdX10_firstNight_43.2.2.2.1 (by decide) ?_
            refine e_icmp_ge (tgt := 85) hX zcdX10_firstNight_43.2.2.2.2.1 (by decide) (m_ge (by decide +kernel)) h (fun h => ?_) (fun h => ?_)
            · refine s_loc [0, 2, 3] rfl ?_
              exact j85 h
            · refine s_aload_n (k := 0) hX zcdX10_firstNight_43.2.2.2.2.2.1 rfl rfl ?_
              refine s_iconst (v := (nI 1)) hX zcdX10_firstNight_43.2.2.2.2.2.2.1 (by decide) ?_
              refine e_callVv hX (t_X10_nightsGo (nI 1) M43) mX10_nightsGo lX10_308 (by decide) (by decide) oM0 rfl rfl rfl rfl rfl (Nat.le_of_ble_eq_true rfl) zcdX10_firstNight_43.2.2.2.2.2.2.2 h (fun M_6 h => ?_)
              refine s_iload_n (k := 2) hX zcdX10_firstNight_58.1 rfl rfl ?_
              refine s_iconst (v := (nI 1)) hX zcdX10_firstNight_58.2.1 (by decide) ?_
              refine s_iadd hX zcdX10_firstNight_58.2.2.1 ?_
              refine s_istore_n (lv' := [(0, .ref (ad 0)), (1, .int v1), (3, .int y3_43), (2, .int (y2_43 + (nI 1)))]) hX zcdX10_firstNight_58.2.2.2.1 rfl (by decide) rfl ?_
              refine s_aload_n (k := 0) hX zcdX10_firstNight_58.2.2.2.2.1 rfl rfl ?_
              refine s_aload_n (k := 0) hX zcdX10_firstNight_58.2.2.2.2.2.1 rfl rfl ?_
              refine s_get hX fX10_19 oM0 rfl zcdX10_firstNight_58.2.2.2.2.2.2.1 ?_
              refine s_iload_n (k := 1) hX zcdX10_firstNight_58.2.2.2.2.2.2.2 rfl rfl ?_
              refine e_iald hX aM4 zcdX10_firstNight_68.1 h (fun h => ?_)
              refine e_callVi hX (t_X10_crossing (M_6 4 (ix v1)) M_6) mX10_crossing lX10_337 (by decide) (by decide) oM0 rfl rfl rfl rfl rfl (Nat.le_of_ble_eq_true rfl) zcdX10_firstNight_68.2.1 h (fun r_7 M_8 h => ?_)
              refine s_iconst (v := (-1)) hX zcdX10_firstNight_68.2.2.1 (by decide) ?_
              refine e_icmp_eq (tgt := 80) hX zcdX10_firstNight_68.2.2.2.1 (by decide) (m_eq (by decide +kernel)) h (fun h => ?_) (fun h => ?_)
              · refine s_iconst (v := (nI 0)) hX zcdX10_firstNight_68.2.2.2.2.2.2.1 (by decide) ?_
                refine s_istore_n (lv' := [(0, .ref (ad 0)), (1, .int v1), (2, .int (y2_43 + (nI 1))), (3, .int (nI 0))]) hX zcdX10_firstNight_68.2.2.2.2.2.2.2 rfl (by decide) rfl ?_
                refine s_goto (tgt := 43) hX zcdX10_firstNight_82.1 (by decide) ?_
                exact ih43 M_8 (y2_43 + (nI 1)) (nI 0) h
              · refine s_iconst (v := (nI 1)) hX zcdX10_firstNight_68.2.2.2.2.1 (by decide) ?_
                refine s_goto (tgt := 81) hX zcdX10_firstNight_68.2.2.2.2.2.1 (by decide) ?_
                refine s_istore_n (lv' := [(0, .ref (ad 0)), (1, .int v1), (2, .int (y2_43 + (nI 1))), (3, .int (nI 1))]) hX zcdX10_firstNight_68.2.2.2.2.2.2.2 rfl (by decide) rfl ?_
                refine s_goto (tgt := 43) hX zcdX10_firstNight_82.1 (by decide) ?_
                exact ih43 M_8 (y2_43 + (nI 1)) (nI 1) h
      exact lp43 FU M_4 (nI 0) t0_42 h
    refine e_icmp_eq (tgt := 41) hX zcdX10_firstNight_29.2.2.2.1 (by decide) (m_eq (by decide +kernel)) h (fun h => ?_) (fun h => ?_)
    · refine s_iconst (v := (nI 0)) hX zcdX10_firstNight_29.2.2.2.2.2.2.1 (by decide) ?_
      exact j42 (nI 0) h
    · refine s_iconst (v := (nI 1)) hX zcdX10_firstNight_29.2.2.2.2.1 (by decide) ?_
      refine s_goto (tgt := 42) hX zcdX10_firstNight_29.2.2.2.2.2.1 (by decide) ?_
      exact j42 (nI 1) h
  · refine s_iconst (v := (-1)) hX zcdX10_firstNight_1.2.2.2.1 (by decide) ?_
    exact e_ireti hX hR zcdX10_firstNight_1.2.2.2.2.1 h
set_option maxHeartbeats 4000000 in
theorem t_X10_goesAcross (M : Mem) : AXi yX10_goesAcross cX10_goesAcross 4 (some .boolean) 0 39 glM (fun ad => [.ref (ad 0)]) M (f_X10_goesAcross M) := by
  intro r0 h
  refine AM.of (by decide) (fun _ => Nat.le_of_ble_eq_true rfl) (fun X ad cI cZ cB hX hR => ?_)
  show V X M [(0, .ref (ad 0))] [] 0
  refine s_iconst (v := (nI 0)) hX zcdX10_firstNight_100.2.2.2.2.1 (by decide) ?_
  refine s_istore_n (lv' := [(0, .ref (ad 0)), (1, .int (nI 0))]) hX zcdX10_firstNight_100.2.2.2.2.2.1 rfl (by decide) rfl ?_
  have lp2 : ∀ (N2 : Nat) (M2 : Mem) (y1_2 : Int32), wlp2 f_X10_goesAcross_B2 N2 M2 y1_2 = some r0 → V X M2 [(0, .ref (ad 0)), (1, .int y1_2)] [] 2 := by
    intro N2
    induction N2 with
    | zero => exact fun _ _ h => e_none h
    | succ N2 ih2 =>
      intro M2 y1_2 h
      replace h : f_X10_goesAcross_B2 (wlp2 f_X10_goesAcross_B2 N2) M2 y1_2 = some r0 := h
      generalize wlp2 f_X10_goesAcross_B2 N2 = ag2 at ih2 h
      refine s_iload_n (k := 1) hX zcdX10_firstNight_100.2.2.2.2.2.2.1 rfl rfl ?_
      refine s_bipush (v := (nI 82)) hX zcdX10_firstNight_100.2.2.2.2.2.2.2 (by decide) ?_
      have j21 : f_X10_goesAcross_L21 M2 = some r0 → V X M2 [(0, .ref (ad 0))] [] 21 := by
        intro  h
        refine s_iconst (v := (nI 1)) hX zcdX10_goesAcross_21.1 (by decide) ?_
        refine s_istore_n (lv' := [(0, .ref (ad 0)), (1, .int (nI 1))]) hX zcdX10_goesAcross_21.2.1 rfl (by decide) rfl ?_
        refine s_aload_n (k := 0) hX zcdX10_goesAcross_21.2.2.1 rfl rfl ?_
        refine s_get hX fX10_98 oM0 rfl zcdX10_goesAcross_21.2.2.2.1 ?_
        refine s_iconst (v := (nI 0)) hX zcdX10_goesAcross_21.2.2.2.2.1 (by decide) ?_
        refine s_bipush (v := (nI 80)) hX zcdX10_goesAcross_21.2.2.2.2.2.1 (by decide) ?_
        refine s_iastN hX aM30 (by decide) zcdX10_goesAcross_21.2.2.2.2.2.2.1 ?_
        refine e_bndM h (fun M_1 h => ?_)
        refine s_aload_n (k := 0) hX zcdX10_goesAcross_21.2.2.2.2.2.2.2 rfl rfl ?_
        refine s_get hX fX10_95 oM0 rfl zcdX10_goesAcross_32.1 ?_
        refine s_bipush (v := (nI 80)) hX zcdX10_goesAcross_32.2.1 (by decide) ?_
        refine s_bipush (v := (nI 80)) hX zcdX10_goesAcross_32.2.2.1 (by decide) ?_
        refine s_iastN hX aM29 (by decide) zcdX10_goesAcross_32.2.2.2.1 ?_
        refine e_bndM h (fun M_2 h => ?_)
        refine s_iconst (v := (nI 0)) hX zcdX10_goesAcross_32.2.2.2.2.1 (by decide) ?_
        refine s_istore_n (lv' := [(0, .ref (ad 0)), (1, .int (nI 1)), (2, .int (nI 0))]) hX zcdX10_goesAcross_32.2.2.2.2.2.1 rfl (by decide) rfl ?_
        have lp42 : ∀ (N42 : Nat) (M42 : Mem) (y1_42 : Int32) (y2_42 : Int32), wlp3 f_X10_goesAcross_B42 N42 M42 y1_42 y2_42 = some r0 → V X M42 [(0, .ref (ad 0)), (1, .int y1_42), (2, .int y2_42)] [] 42 := by
          intro N42
          induction N42 with
          | zero => exact fun _ _ _ h => e_none h
          | succ N42 ih42 =>
            intro M42 y1_42 y2_42 h
            replace h : f_X10_goesAcross_B42 (wlp3 f_X10_goesAcross_B42 N42) M42 y1_42 y2_42 = some r0 := h
            generalize wlp3 f_X10_goesAcross_B42 N42 = ag42 at ih42 h
            refine s_iload_n (k := 2) hX zcdX10_goesAcross_32.2.2.2.2.2.2.1 rfl rfl ?_
            refine s_iload_n (k := 1) hX zcdX10_goesAcross_32.2.2.2.2.2.2.2 rfl rfl ?_
            have j133 : f_X10_goesAcross_L133 M42 = some r0 → V X M42 [(0, .ref (ad 0))] [] 133 := by
              intro  h
              refine s_aload_n (k := 0) hX zcdX10_goesAcross_121.2.2.2.2.1 rfl rfl ?_
              refine s_get hX fX10_95 oM0 rfl zcdX10_goesAcross_121.2.2.2.2.2.1 ?_
              refine s_bipush (v := (nI 81)) hX zcdX10_goesAcross_121.2.2.2.2.2.2.1 (by decide) ?_
              refine s_ialdN hX aM29 (by decide) zcdX10_goesAcross_121.2.2.2.2.2.2.2 ?_
              refine s_iconst (v := (-1)) hX zcdX10_goesAcross_140.1 (by decide) ?_
              refine e_icmp_ne (tgt := 146) hX zcdX10_goesAcross_140.2.1 (by decide) (m_eq (by decide +kernel)) h (fun h => ?_) (fun h => ?_)
              · refine s_bipush (v := (nI 81)) hX zcdX10_goesAcross_140.2.2.2.2.1 (by decide) ?_
                refine s_istore_n (lv' := [(0, .ref (ad 0)), (2, .int (nI 81))]) hX zcdX10_goesAcross_140.2.2.2.2.2.1 rfl (by decide) rfl ?_
                have lp149 : ∀ (N149 : Nat) (M149 : Mem) (y2_149 : Int32), wlp2 f_X10_goesAcross_B149 N149 M149 y2_149 = some r0 → V X M149 [(0, .ref (ad 0)), (2, .int y2_149)] [] 149 := by
                  intro N149
                  induction N149 with
                  | zero => exact fun _ _ h => e_none h
                  | succ N149 ih149 =>
                    intro M149 y2_149 h
                    replace h : f_X10_goesAcross_B149 (wlp2 f_X10_goesAcross_B149 N149) M149 y2_149 = some r0 := h
                    generalize wlp2 f_X10_goesAcross_B149 N149 = ag149 at ih149 h
                    refine s_iload_n (k := 1) hX zcdX10_goesAcross_140.2.2.2.2.2.2.1 rfl rfl ?_
                    refine s_bipush (v := (nI 80)) hX zcdX10_goesAcross_140.2.2.2.2.2.2.2 (by decide) ?_
                    refine e_icmp_eq (tgt := 217) hX zcdX10_goesAcross_152.1 (by decide) (m_eq (by decide +kernel)) h (fun h => ?_) (fun h => ?_)
                    · refine s_iconst (v := (nI 1)) hX zcdX10_goesAcross_208.2.2.2.2.2.2.2 (by decide) ?_
                      exact e_zretiL hX hR zcdX10_goesAcross_218.1 (by decide) h
                    · refine s_aload_n (k := 0) hX zcdX10_goesAcross_152.2.1 rfl rfl ?_
                      refine s_get hX fX10_95 oM0 rfl zcdX10_goesAcross_152.2.2.1 ?_
                      refine s_iload_n (k := 1) hX zcdX10_goesAcross_152.2.2.2.1 rfl rfl ?_
                      refine e_iald hX aM29 zcdX10_goesAcross_152.2.2.2.2.1 h (fun h => ?_)
                      refine e_bnd h (fun x_3 h => ?_)
                      refine s_istore_n (lv' := [(0, .ref (ad 0)), (2, .int y2_149), (3, .int x_3)]) hX zcdX10_goesAcross_152.2.2.2.2.2.1 rfl (by decide) rfl ?_
                      refine s_aload_n (k := 0) hX zcdX10_goesAcross_152.2.2.2.2.2.2.1 rfl rfl ?_
                      refine s_get hX fX10_92 oM0 rfl zcdX10_goesAcross_152.2.2.2.2.2.2.2 ?_
                      refine s_bipush (v := (nI 82)) hX zcdX10_goesAcross_166.1 (by decide) ?_
                      refine s_iload_n (k := 2) hX zcdX10_goesAcross_166.2.1 rfl rfl ?_
                      refine s_imul hX zcdX10_goesAcross_166.2.2.1 ?_
                      refine s_iload_n (k := 1) hX zcdX10_goesAcross_166.2.2.2.1 rfl rfl ?_
                      refine s_iadd hX zcdX10_goesAcross_166.2.2.2.2.1 ?_
                      refine s_aload_n (k := 0) hX zcdX10_goesAcross_166.2.2.2.2.2.1 rfl rfl ?_
                      refine s_get hX fX10_92 oM0 rfl zcdX10_goesAcross_166.2.2.2.2.2.2.1 ?_
                      refine s_bipush (v := (nI 82)) hX zcdX10_goesAcross_166.2.2.2.2.2.2.2 (by decide) ?_
                      refine s_iload_n (k := 2) hX zcdX10_goesAcross_178.1 rfl rfl ?_
                      refine s_imul hX zcdX10_goesAcross_178.2.1 ?_
                      refine s_iload_n (k := 1) hX zcdX10_goesAcross_178.2.2.1 rfl rfl ?_
                      refine s_iadd hX zcdX10_goesAcross_178.2.2.2.1 ?_
                      refine e_bald hX aM28 zcdX10_goesAcross_178.2.2.2.2.1 h (fun h => ?_)
                      refine s_iconst (v := (nI 1)) hX zcdX10_goesAcross_178.2.2.2.2.2.1 (by decide) ?_
                      refine s_isub hX zcdX10_goesAcross_178.2.2.2.2.2.2.1 ?_
                      refine s_i2b (v := i2b ((M149 28 (ix (((nI 82) * x_3) + y2_149))) - (nI 1))) hX zcdX10_goesAcross_178.2.2.2.2.2.2.2 rfl ?_
                      refine e_bast hX aM28 zcdX10_goesAcross_186.1 h (fun h => ?_)
                      refine e_bndM h (fun M_4 h => ?_)
                      refine s_aload_n (k := 0) hX zcdX10_goesAcross_186.2.1 rfl rfl ?_
                      refine s_get hX fX10_92 oM0 rfl zcdX10_goesAcross_186.2.2.1 ?_
                      refine s_bipush (v := (nI 82)) hX zcdX10_goesAcross_186.2.2.2.1 (by decide) ?_
                      refine s_iload_n (k := 1) hX zcdX10_goesAcross_186.2.2.2.2.1 rfl rfl ?_
                      refine s_imul hX zcdX10_goesAcross_186.2.2.2.2.2.1 ?_
                      refine s_iload_n (k := 2) hX zcdX10_goesAcross_186.2.2.2.2.2.2.1 rfl rfl ?_
                      refine s_iadd hX zcdX10_goesAcross_186.2.2.2.2.2.2.2 ?_
                      refine s_aload_n (k := 0) hX zcdX10_goesAcross_197.1 rfl rfl ?_
                      refine s_get hX fX10_92 oM0 rfl zcdX10_goesAcross_197.2.1 ?_
                      refine s_bipush (v := (nI 82)) hX zcdX10_goesAcross_197.2.2.1 (by decide) ?_
                      refine s_iload_n (k := 1) hX zcdX10_goesAcross_197.2.2.2.1 rfl rfl ?_
                      refine s_imul hX zcdX10_goesAcross_197.2.2.2.2.1 ?_
                      refine s_iload_n (k := 2) hX zcdX10_goesAcross_197.2.2.2.2.2.1 rfl rfl ?_
                      refine s_iadd hX zcdX10_goesAcross_197.2.2.2.2.2.2.1 ?_
                      refine e_bald hX aM28 zcdX10_goesAcross_197.2.2.2.2.2.2.2 h (fun h => ?_)
                      refine s_iconst (v := (nI 1)) hX zcdX10_goesAcross_208.1 (by decide) ?_
                      refine s_iadd hX zcdX10_goesAcross_208.2.1 ?_
                      refine s_i2b (v := i2b ((M_4 28 (ix (((nI 82) * y2_149) + x_3))) + (nI 1))) hX zcdX10_goesAcross_208.2.2.1 rfl ?_
                      refine e_bast hX aM28 zcdX10_goesAcross_208.2.2.2.1 h (fun h => ?_)
                      refine e_bndM h (fun M_5 h => ?_)
                      refine s_iload_n (k := 2) hX zcdX10_goesAcross_208.2.2.2.2.1 rfl rfl ?_
                      refine s_istore_n (lv' := [(0, .ref (ad 0)), (3, .int x_3), (2, .int x_3)]) hX zcdX10_goesAcross_208.2.2.2.2.2.1 rfl (by decide) rfl ?_
                      refine s_goto (tgt := 149) hX zcdX10_goesAcross_208.2.2.2.2.2.2.1 (by decide) ?_
                      refine s_loc [0, 2] rfl ?_
                      exact ih149 M_5 x_3 h
                exact lp149 FU M42 (nI 81) h
              · refine s_iconst (v := (nI 0)) hX zcdX10_goesAcross_140.2.2.1 (by decide) ?_
                exact e_zretiL hX hR zcdX10_goesAcross_140.2.2.2.1 (by decide) h
            refine e_icmp_ge (tgt := 133) hX zcdX10_goesAcross_44.1 (by decide) r_le h (fun h => ?_) (fun h => ?_)
            · refine s_loc [0] rfl ?_
              exact j133 h
            · refine s_aload_n (k := 0) hX zcdX10_goesAcross_44.2.1 rfl rfl ?_
              refine s_get hX fX10_95 oM0 rfl zcdX10_goesAcross_44.2.2.1 ?_
              refine s_bipush (v := (nI 81)) hX zcdX10_goesAcross_44.2.2.2.1 (by decide) ?_
              refine s_ialdN hX aM29 (by decide) zcdX10_goesAcross_44.2.2.2.2.1 ?_
              refine s_iconst (v := (-1)) hX zcdX10_goesAcross_44.2.2.2.2.2.1 (by decide) ?_
              refine e_icmp_ne (tgt := 133) hX zcdX10_goesAcross_44.2.2.2.2.2.2.1 (by decide) (m_eq (by decide +kernel)) h (fun h => ?_) (fun h => ?_)
              · refine s_loc [0] rfl ?_
                exact j133 h
              · refine s_iconst (v := (nI 0)) hX zcdX10_goesAcross_44.2.2.2.2.2.2.2 (by decide) ?_
                refine s_istore_n (lv' := [(0, .ref (ad 0)), (1, .int y1_42), (2, .int y2_42), (3, .int (nI 0))]) hX zcdX10_goesAcross_59.1 rfl (by decide) rfl ?_
                have lp60 : ∀ (N60 : Nat) (M60 : Mem) (y1_60 : Int32) (y3_60 : Int32), wlp3 (f_X10_goesAcross_B60 ag42 y2_42) N60 M60 y1_60 y3_60 = some r0 → V X M60 [(0, .ref (ad 0)), (1, .int y1_60), (2, .int y2_42), (3, .int y3_60)] [] 60 := by
                  intro N60
                  induction N60 with
                  | zero => exact fun _ _ _ h => e_none h
                  | succ N60 ih60 =>
                    intro M60 y1_60 y3_60 h
                    replace h : f_X10_goesAcross_B60 ag42 y2_42 (wlp3 (f_X10_goesAcross_B60 ag42 y2_42) N60) M60 y1_60 y3_60 = some r0 := h
                    generalize wlp3 (f_X10_goesAcross_B60 ag42 y2_42) N60 = ag60 at ih60 h
                    refine s_iload_n (k := 3) hX zcdX10_goesAcross_59.2.1 rfl rfl ?_
                    refine s_bipush (v := (nI 82)) hX zcdX10_goesAcross_59.2.2.1 (by decide) ?_
                    refine e_icmp_ge (tgt := 127) hX zcdX10_goesAcross_59.2.2.2.1 (by decide) (m_ge (by decide +kernel)) h (fun h => ?_) (fun h => ?_)
                    · refine s_iinc (k := 2) (v := (y2_42 + (nI 1))) (lv' := [(0, .ref (ad 0)), (1, .int y1_60), (3, .int y3_60), (2, .int (y2_42 + (nI 1)))]) hX zcdX10_goesAcross_121.2.2.1 (congrArg (fun z => y2_42 + z) (by decide)) (by decide) rfl rfl ?_
                      refine s_goto (tgt := 42) hX zcdX10_goesAcross_121.2.2.2.1 (by decide) ?_
                      refine s_loc [0, 1, 3] rfl ?_
                      exact ih42 M60 y1_60 (y2_42 + (nI 1)) h
                    · refine s_aload_n (k := 0) hX zcdX10_goesAcross_59.2.2.2.2.1 rfl rfl ?_
                      refine s_get hX fX10_95 oM0 rfl zcdX10_goesAcross_59.2.2.2.2.2.1 ?_
                      refine s_iload_n (k := 3) hX zcdX10_goesAcross_59.2.2.2.2.2.2.1 rfl rfl ?_
                      refine e_iald hX aM29 zcdX10_goesAcross_59.2.2.2.2.2.2.2 h (fun h => ?_)
                      refine s_iconst (v := (-1)) hX zcdX10_goesAcross_72.1 (by decide) ?_
                      refine e_icmp_ne (tgt := 121) hX zcdX10_goesAcross_72.2.1 (by decide) (m_eq (by decide +kernel)) h (fun h => ?_) (fun h => ?_)
                      · refine s_iinc (k := 3) (v := (y3_60 + (nI 1))) (lv' := [(0, .ref (ad 0)), (1, .int y1_60), (2, .int y2_42), (3, .int (y3_60 + (nI 1)))]) hX zcdX10_goesAcross_121.1 (congrArg (fun z => y3_60 + z) (by decide)) (by decide) rfl rfl ?_
                        refine s_goto (tgt := 60) hX zcdX10_goesAcross_121.2.1 (by decide) ?_
                        exact ih60 M60 y1_60 (y3_60 + (nI 1)) h
                      · refine s_aload_n (k := 0) hX zcdX10_goesAcross_72.2.2.1 rfl rfl ?_
                        refine s_get hX fX10_92 oM0 rfl zcdX10_goesAcross_72.2.2.2.1 ?_
                        refine s_bipush (v := (nI 82)) hX zcdX10_goesAcross_72.2.2.2.2.1 (by decide) ?_
                        refine s_aload_n (k := 0) hX zcdX10_goesAcross_72.2.2.2.2.2.1 rfl rfl ?_
                        refine s_get hX fX10_98 oM0 rfl zcdX10_goesAcross_72.2.2.2.2.2.2.1 ?_
                        refine s_iload_n (k := 2) hX zcdX10_goesAcross_72.2.2.2.2.2.2.2 rfl rfl ?_
                        refine e_iald hX aM30 zcdX10_goesAcross_87.1 h (fun h => ?_)
                        refine s_imul hX zcdX10_goesAcross_87.2.1 ?_
                        refine s_iload_n (k := 3) hX zcdX10_goesAcross_87.2.2.1 rfl rfl ?_
                        refine s_iadd hX zcdX10_goesAcross_87.2.2.2.1 ?_
                        refine e_bald hX aM28 zcdX10_goesAcross_87.2.2.2.2.1 h (fun h => ?_)
                        refine e_if_ne (tgt := 98) hX zcdX10_goesAcross_87.2.2.2.2.2.1 (by decide) z_eq h (fun h => ?_) (fun h => ?_)
                        · refine s_aload_n (k := 0) hX zcdX10_goesAcross_87.2.2.2.2.2.2.2 rfl rfl ?_
                          refine s_get hX fX10_95 oM0 rfl zcdX10_goesAcross_99.1 ?_
                          refine s_iload_n (k := 3) hX zcdX10_goesAcross_99.2.1 rfl rfl ?_
                          refine s_aload_n (k := 0) hX zcdX10_goesAcross_99.2.2.1 rfl rfl ?_
                          refine s_get hX fX10_98 oM0 rfl zcdX10_goesAcross_99.2.2.2.1 ?_
                          refine s_iload_n (k := 2) hX zcdX10_goesAcross_99.2.2.2.2.1 rfl rfl ?_
                          refine e_iald hX aM30 zcdX10_goesAcross_99.2.2.2.2.2.1 h (fun h => ?_)
                          refine e_iast hX aM29 zcdX10_goesAcross_99.2.2.2.2.2.2.1 h (fun h => ?_)
                          refine e_bndM h (fun M_6 h => ?_)
                          refine s_aload_n (k := 0) hX zcdX10_goesAcross_99.2.2.2.2.2.2.2 rfl rfl ?_
                          refine s_get hX fX10_98 oM0 rfl zcdX10_goesAcross_111.1 ?_
                          refine s_iload_n (k := 1) hX zcdX10_goesAcross_111.2.1 rfl rfl ?_
                          refine s_iload_n (k := 3) hX zcdX10_goesAcross_111.2.2.1 rfl rfl ?_
                          refine e_iast hX aM30 zcdX10_goesAcross_111.2.2.2.1 h (fun h => ?_)
                          refine e_bndM h (fun M_7 h => ?_)
                          refine s_iload_n (k := 1) hX zcdX10_goesAcross_111.2.2.2.2.1 rfl rfl ?_
                          refine s_iconst (v := (nI 1)) hX zcdX10_goesAcross_111.2.2.2.2.2.1 (by decide) ?_
                          refine s_iadd hX zcdX10_goesAcross_111.2.2.2.2.2.2.1 ?_
                          refine s_istore_n (lv' := [(0, .ref (ad 0)), (2, .int y2_42), (3, .int y3_60), (1, .int (y1_60 + (nI 1)))]) hX zcdX10_goesAcross_111.2.2.2.2.2.2.2 rfl (by decide) rfl ?_
                          refine s_iinc (k := 2) (v := (y3_60 + (nI 1))) (lv' := [(0, .ref (ad 0)), (2, .int y2_42), (1, .int (y1_60 + (nI 1))), (3, .int (y3_60 + (nI 1)))]) hX zcdX10_goesAcross_121.1 (congrArg (fun z => y3_60 + z) (by decide)) (by decide) rfl rfl ?_
                          refine s_goto (tgt := 60) hX zcdX10_goesAcross_121.2.1 (by decide) ?_
                          refine s_loc [0, 2, 1, 3] rfl ?_
                          exact ih60 M_7 (y1_60 + (nI 1)) (y3_60 + (nI 1)) h
                        · refine s_goto (tgt := 121) hX zcdX10_goesAcross_87.2.2.2.2.2.2.1 (by decide) ?_
                          refine s_iinc (k := 3) (v := (y3_60 + (nI 1))) (lv' := [(0, .ref (ad 0)), (1, .int y1_60), (2, .int y2_42), (3, .int (y3_60 + (nI 1)))]) hX zcdX10_goesAcross_121.1 (congrArg (fun z => y3_60 + z) (by decide)) (by decide) rfl rfl ?_
                          refine s_goto (tgt := 60) hX zcdX10_goesAcross_121.2.1 (by decide) ?_
                          exact ih60 M60 y1_60 (y3_60 + (nI 1)) h
                exact lp60 FU M42 y1_42 (nI 0) h
        exact lp42 FU M_2 (nI 1) (nI 0) h
      refine e_icmp_ge (tgt := 21) hX zcdX10_goesAcross_5.1 (by decide) (m_ge (by decide +kernel)) h (fun h => ?_) (fun h => ?_)
      · refine s_loc [0] rfl ?_
        exact j21 h
      · refine s_aload_n (k := 0) hX zcdX10_goesAcross_5.2.1 rfl rfl ?_
        refine s_get hX fX10_95 oM0 rfl zcdX10_goesAcross_5.2.2.1 ?_
        refine s_iload_n (k := 1) hX zcdX10_goesAcross_5.2.2.2.1 rfl rfl ?_
        refine s_iconst (v := (-1)) hX zcdX10_goesAcross_5.2.2.2.2.1 (by decide) ?_
        refine e_iast hX aM29 zcdX10_goesAcross_5.2.2.2.2.2.1 h (fun h => ?_)
        refine e_bndM h (fun M_8 h => ?_)
        refine s_iinc (k := 1) (v := (y1_2 + (nI 1))) (lv' := [(0, .ref (ad 0)), (1, .int (y1_2 + (nI 1)))]) hX zcdX10_goesAcross_5.2.2.2.2.2.2.1 (congrArg (fun z => y1_2 + z) (by decide)) (by decide) rfl rfl ?_
        refine s_goto (tgt := 2) hX zcdX10_goesAcross_5.2.2.2.2.2.2.2 (by decide) ?_
        exact ih2 M_8 (y1_2 + (nI 1)) h
  exact lp2 FU M (nI 0) h
set_option maxHeartbeats 4000000 in
theorem t_X10_hasOpenSum (v1 : Int32) (M : Mem) : AXp yX10_hasOpenSum cX10_hasOpenSum 3 (some .boolean) 0 39 glM (fun ad => [.ref (ad 0), .int v1]) M (f_X10_hasOpenSum M v1) := by
  intro r0 h
  refine AM.of (by decide) (fun _ => Nat.le_of_ble_eq_true rfl) (fun X ad cI cZ cB hX hR => ?_)
  show V X M [(0, .ref (ad 0)), (1, .int v1)] [] 0
  refine s_iload_n (k := 1) hX zcdX10_goesAcross_218.2.1 rfl rfl ?_
  refine s_istore_n (lv' := [(0, .ref (ad 0)), (1, .int v1), (2, .int v1)]) hX zcdX10_goesAcross_218.2.2.1 rfl (by decide) rfl ?_
  have lp2 : ∀ (N2 : Nat) (y2_2 : Int32), wlp1 (f_X10_hasOpenSum_B2 M) N2 y2_2 = some r0 → V X M [(0, .ref (ad 0)), (2, .int y2_2)] [] 2 := by
    intro N2
    induction N2 with
    | zero => exact fun _ h => e_none h
    | succ N2 ih2 =>
      intro y2_2 h
      replace h : f_X10_hasOpenSum_B2 M (wlp1 (f_X10_hasOpenSum_B2 M) N2) y2_2 = some r0 := h
      generalize wlp1 (f_X10_hasOpenSum_B2 M) N2 = ag2 at ih2 h
      refine s_iload_n (k := 1) hX zcdX10_goesAcross_218.2.2.2.1 rfl rfl ?_
      refine s_aload_n (k := 0) hX zcdX10_goesAcross_218.2.2.2.2.1 rfl rfl ?_
      refine s_get hX fX10_195 oM0 rfl zcdX10_goesAcross_218.2.2.2.2.2.1 ?_
      refine e_icmp_ge (tgt := 32) hX zcdX10_goesAcross_218.2.2.2.2.2.2.1 (by decide) r_le h (fun h => ?_) (fun h => ?_)
      · refine s_iconst (v := (nI 0)) hX zcdX10_hasOpenSum_25.2.2.2.1 (by decide) ?_
        exact e_zretpL hX hR zcdX10_hasOpenSum_25.2.2.2.2.1 (by decide) h
      · refine s_aload_n (k := 0) hX zcdX10_goesAcross_218.2.2.2.2.2.2.2 rfl rfl ?_
        refine s_get hX fX10_29 oM0 rfl zcdX10_hasOpenSum_11.1 ?_
        refine s_iload_n (k := 1) hX zcdX10_hasOpenSum_11.2.1 rfl rfl ?_
        refine e_iald hX aM7 zcdX10_hasOpenSum_11.2.2.1 h (fun h => ?_)
        refine s_ldc (v := (nI 1048576)) hX kX10_191 zcdX10_hasOpenSum_11.2.2.2.1 ?_
        refine s_idiv hX zcdX10_hasOpenSum_11.2.2.2.2.1 (by decide) ?_
        refine s_bipush (v := (nI 14)) hX zcdX10_hasOpenSum_11.2.2.2.2.2.1 (by decide) ?_
        refine e_icmp_ne (tgt := 26) hX zcdX10_hasOpenSum_11.2.2.2.2.2.2.1 (by decide) (m_eq (by decide +kernel)) h (fun h => ?_) (fun h => ?_)
        · refine s_iinc (k := 1) (v := (y2_2 + (nI 1))) (lv' := [(0, .ref (ad 0)), (2, .int (y2_2 + (nI 1)))]) hX zcdX10_hasOpenSum_25.2.1 (congrArg (fun z => y2_2 + z) (by decide)) (by decide) rfl rfl ?_
          refine s_goto (tgt := 2) hX zcdX10_hasOpenSum_25.2.2.1 (by decide) ?_
          exact ih2 (y2_2 + (nI 1)) h
        · refine s_iconst (v := (nI 1)) hX zcdX10_hasOpenSum_11.2.2.2.2.2.2.2 (by decide) ?_
          exact e_zretpL hX hR zcdX10_hasOpenSum_25.1 (by decide) h
  refine s_loc [0, 2] rfl ?_
  exact lp2 FU v1 h
set_option maxHeartbeats 4000000 in
theorem t_X10_laysRoom (v1 : Int32) (M : Mem) : AXv yX10_laysRoom cX10_laysRoom 4 none 2 39 glM (fun ad => [.ref (ad 0), .int v1]) M (f_X10_laysRoom M v1) := by
  intro r0 h
  refine AM.of (by decide) (fun _ => Nat.le_of_ble_eq_true rfl) (fun X ad cI cZ cB hX hR => ?_)
  show V X M [(0, .ref (ad 0)), (1, .int v1)] [] 0
  refine s_iconst (v := (nI 0)) hX zcdX10_hasOpenSum_25.2.2.2.2.2.1 (by decide) ?_
  refine s_istore_n (lv' := [(0, .ref (ad 0)), (1, .int v1), (2, .int (nI 0))]) hX zcdX10_hasOpenSum_25.2.2.2.2.2.2.1 rfl (by decide) rfl ?_
  have lp2 : ∀ (N2 : Nat) (M2 : Mem) (y2_2 : Int32), wlp2 (f_X10_laysRoom_B2 v1) N2 M2 y2_2 = some r0 → V X M2 [(0, .ref (ad 0)), (1, .int v1), (2, .int y2_2)] [] 2 := by
    intro N2
    induction N2 with
    | zero => exact fun _ _ h => e_none h
    | succ N2 ih2 =>
      intro M2 y2_2 h
      replace h : f_X10_laysRoom_B2 v1 (wlp2 (f_X10_laysRoom_B2 v1) N2) M2 y2_2 = some r0 := h
      generalize wlp2 (f_X10_laysRoom_B2 v1) N2 = ag2 at ih2 h
      refine s_iload_n (k := 2) hX zcdX10_hasOpenSum_25.2.2.2.2.2.2.2 rfl rfl ?_
      refine s_sipush (v := (nI 6724)) hX zcdX10_laysRoom_3.1 (by decide) ?_
      have j22 : f_X10_laysRoom_L22 v1 M2 = some r0 → V X M2 [(0, .ref (ad 0)), (1, .int v1)] [] 22 := by
        intro  h
        refine s_iconst (v := (nI 0)) hX zcdX10_laysRoom_19.2.1 (by decide) ?_
        refine s_istore_n (lv' := [(0, .ref (ad 0)), (1, .int v1), (2, .int (nI 0))]) hX zcdX10_laysRoom_19.2.2.1 rfl (by decide) rfl ?_
        have lp24 : ∀ (N24 : Nat) (M24 : Mem) (y2_24 : Int32), wlp2 (f_X10_laysRoom_B24 v1) N24 M24 y2_24 = some r0 → V X M24 [(0, .ref (ad 0)), (1, .int v1), (2, .int y2_24)] [] 24 := by
          intro N24
          induction N24 with
          | zero => exact fun _ _ h => e_none h
          | succ N24 ih24 =>
            intro M24 y2_24 h
            replace h : f_X10_laysRoom_B24 v1 (wlp2 (f_X10_laysRoom_B24 v1) N24) M24 y2_24 = some r0 := h
            generalize wlp2 (f_X10_laysRoom_B24 v1) N24 = ag24 at ih24 h
            refine s_iload_n (k := 2) hX zcdX10_laysRoom_19.2.2.2.1 rfl rfl ?_
            refine s_bipush (v := (nI 40)) hX zcdX10_laysRoom_19.2.2.2.2.1 (by decide) ?_
            refine e_icmp_ge (tgt := 153) hX zcdX10_laysRoom_19.2.2.2.2.2.1 (by decide) (m_ge (by decide +kernel)) h (fun h => ?_) (fun h => ?_)
            · exact e_vret hX hR zcdX10_laysRoom_150.2.1 h
            · refine s_aload_n (k := 0) hX zcdX10_laysRoom_19.2.2.2.2.2.2.1 rfl rfl ?_
              refine s_iload_n (k := 2) hX zcdX10_laysRoom_19.2.2.2.2.2.2.2 rfl rfl ?_
              refine e_callVp hX (t_X10_isDry y2_24 M24) mX10_isDry lX10_319 (by decide) (by decide) oM0 rfl rfl rfl rfl rfl (Nat.le_of_ble_eq_true rfl) zcdX10_laysRoom_32.1 h (fun r_1 h => ?_)
              refine e_if_ne (tgt := 41) hX zcdX10_laysRoom_32.2.1 (by decide) z_eq h (fun h => ?_) (fun h => ?_)
              · refine s_aload_n (k := 0) hX zcdX10_laysRoom_32.2.2.2.1 rfl rfl ?_
                refine s_get hX fX10_92 oM0 rfl zcdX10_laysRoom_32.2.2.2.2.1 ?_
                refine s_bipush (v := (nI 82)) hX zcdX10_laysRoom_32.2.2.2.2.2.1 (by decide) ?_
                refine s_iload_n (k := 2) hX zcdX10_laysRoom_32.2.2.2.2.2.2.1 rfl rfl ?_
                refine s_imul hX zcdX10_laysRoom_32.2.2.2.2.2.2.2 ?_
                refine s_bipush (v := (nI 40)) hX zcdX10_laysRoom_49.1 (by decide) ?_
                refine s_iadd hX zcdX10_laysRoom_49.2.1 ?_
                refine s_iload_n (k := 2) hX zcdX10_laysRoom_49.2.2.1 rfl rfl ?_
                refine s_iadd hX zcdX10_laysRoom_49.2.2.2.1 ?_
                refine s_iconst (v := (nI 1)) hX zcdX10_laysRoom_49.2.2.2.2.1 (by decide) ?_
                refine e_bast hX aM28 zcdX10_laysRoom_49.2.2.2.2.2.1 h (fun h => ?_)
                refine e_bndM h (fun M_2 h => ?_)
                refine s_aload_n (k := 0) hX zcdX10_laysRoom_49.2.2.2.2.2.2.1 rfl rfl ?_
                refine s_iload_n (k := 2) hX zcdX10_laysRoom_49.2.2.2.2.2.2.2 rfl rfl ?_
                refine s_iconst (v := (nI 1)) hX zcdX10_laysRoom_58.1 (by decide) ?_
                refine s_iload_n (k := 1) hX zcdX10_laysRoom_58.2.1 rfl rfl ?_
                refine e_callVp hX (t_X10_isByBank y2_24 (nI 1) v1 M_2) mX10_isByBank lX10_322 (by decide) (by decide) oM0 rfl rfl rfl rfl rfl (Nat.le_of_ble_eq_true rfl) zcdX10_laysRoom_58.2.2.1 h (fun r_3 h => ?_)
                have j77 : ∀ (N77 : Mem), f_X10_laysRoom_L77 v1 ag24 y2_24 N77 = some r0 → V X N77 [(0, .ref (ad 0)), (1, .int v1), (2, .int y2_24)] [] 77 := by
                  intro N77 h
                  refine s_aload_n (k := 0) hX zcdX10_laysRoom_74.2.2.2.1 rfl rfl ?_
                  refine s_iload_n (k := 2) hX zcdX10_laysRoom_74.2.2.2.2.1 rfl rfl ?_
                  refine s_iconst (v := (nI 0)) hX zcdX10_laysRoom_74.2.2.2.2.2.1 (by decide) ?_
                  refine s_iload_n (k := 1) hX zcdX10_laysRoom_74.2.2.2.2.2.2.1 rfl rfl ?_
                  refine e_callVp hX (t_X10_isByBank y2_24 (nI 0) v1 N77) mX10_isByBank lX10_322 (by decide) (by decide) oM0 rfl rfl rfl rfl rfl (Nat.le_of_ble_eq_true rfl) zcdX10_laysRoom_74.2.2.2.2.2.2.2 h (fun r_4 h => ?_)
                  have j103 : ∀ (N103 : Mem), f_X10_laysRoom_L103 v1 ag24 y2_24 N103 = some r0 → V X N103 [(0, .ref (ad 0)), (1, .int v1), (2, .int y2_24)] [] 103 := by
                    intro N103 h
                    refine s_iconst (v := (nI 0)) hX zcdX10_laysRoom_98.2.2.2.2.1 (by decide) ?_
                    refine s_istore_n (lv' := [(0, .ref (ad 0)), (1, .int v1), (2, .int y2_24), (3, .int (nI 0))]) hX zcdX10_laysRoom_98.2.2.2.2.2.1 rfl (by decide) rfl ?_
                    have lp105 : ∀ (N105 : Nat) (M105 : Mem) (y3_105 : Int32), wlp2 (f_X10_laysRoom_B105 v1 ag24 y2_24) N105 M105 y3_105 = some r0 → V X M105 [(0, .ref (ad 0)), (1, .int v1), (2, .int y2_24), (3, .int y3_105)] [] 105 := by
                      intro N105
                      induction N105 with
                      | zero => exact fun _ _ h => e_none h
                      | succ N105 ih105 =>
                        intro M105 y3_105 h
                        replace h : f_X10_laysRoom_B105 v1 ag24 y2_24 (wlp2 (f_X10_laysRoom_B105 v1 ag24 y2_24) N105) M105 y3_105 = some r0 := h
                        generalize wlp2 (f_X10_laysRoom_B105 v1 ag24 y2_24) N105 = ag105 at ih105 h
                        refine s_iload_n (k := 3) hX zcdX10_laysRoom_98.2.2.2.2.2.2.1 rfl rfl ?_
                        refine s_bipush (v := (nI 40)) hX zcdX10_laysRoom_98.2.2.2.2.2.2.2 (by decide) ?_
                        refine e_icmp_ge (tgt := 147) hX zcdX10_laysRoom_108.1 (by decide) (m_ge (by decide +kernel)) h (fun h => ?_) (fun h => ?_)
                        · refine s_iinc (k := 2) (v := (y2_24 + (nI 1))) (lv' := [(0, .ref (ad 0)), (1, .int v1), (3, .int y3_105), (2, .int (y2_24 + (nI 1)))]) hX zcdX10_laysRoom_136.2.2.2.2.2.2.2 (congrArg (fun z => y2_24 + z) (by decide)) (by decide) rfl rfl ?_
                          refine s_goto (tgt := 24) hX zcdX10_laysRoom_150.1 (by decide) ?_
                          refine s_loc [0, 1, 3] rfl ?_
                          exact ih24 M105 (y2_24 + (nI 1)) h
                        · refine s_iload_n (k := 3) hX zcdX10_laysRoom_108.2.1 rfl rfl ?_
                          refine s_iload_n (k := 2) hX zcdX10_laysRoom_108.2.2.1 rfl rfl ?_
                          refine e_icmp_eq (tgt := 141) hX zcdX10_laysRoom_108.2.2.2.1 (by decide) r_eq h (fun h => ?_) (fun h => ?_)
                          · refine s_iinc (k := 3) (v := (y3_105 + (nI 1))) (lv' := [(0, .ref (ad 0)), (1, .int v1), (2, .int y2_24), (3, .int (y3_105 + (nI 1)))]) hX zcdX10_laysRoom_136.2.2.2.2.2.1 (congrArg (fun z => y3_105 + z) (by decide)) (by decide) rfl rfl ?_
                            refine s_goto (tgt := 105) hX zcdX10_laysRoom_136.2.2.2.2.2.2.1 (by decide) ?_
                            exact ih105 M105 (y3_105 + (nI 1)) h
                          · refine s_aload_n (k := 0) hX zcdX10_laysRoom_108.2.2.2.2.1 rfl rfl ?_
                            refine s_iload_n (k := 2) hX zcdX10_laysRoom_108.2.2.2.2.2.1 rfl rfl ?_
                            refine s_iload_n (k := 3) hX zcdX10_laysRoom_108.2.2.2.2.2.2.1 rfl rfl ?_
                            refine s_iload_n (k := 1) hX zcdX10_laysRoom_108.2.2.2.2.2.2.2 rfl rfl ?_
                            refine e_callVp hX (t_X10_canStep y2_24 y3_105 v1 M105) mX10_canStep lX10_326 (by decide) (by decide) oM0 rfl rfl rfl rfl rfl (Nat.le_of_ble_eq_true rfl) zcdX10_laysRoom_120.1 h (fun r_5 h => ?_)
                            refine e_if_eq (tgt := 141) hX zcdX10_laysRoom_120.2.1 (by decide) z_eq h (fun h => ?_) (fun h => ?_)
                            · refine s_iinc (k := 3) (v := (y3_105 + (nI 1))) (lv' := [(0, .ref (ad 0)), (1, .int v1), (2, .int y2_24), (3, .int (y3_105 + (nI 1)))]) hX zcdX10_laysRoom_136.2.2.2.2.2.1 (congrArg (fun z => y3_105 + z) (by decide)) (by decide) rfl rfl ?_
                              refine s_goto (tgt := 105) hX zcdX10_laysRoom_136.2.2.2.2.2.2.1 (by decide) ?_
                              exact ih105 M105 (y3_105 + (nI 1)) h
                            · refine s_aload_n (k := 0) hX zcdX10_laysRoom_120.2.2.1 rfl rfl ?_
                              refine s_get hX fX10_92 oM0 rfl zcdX10_laysRoom_120.2.2.2.1 ?_
                              refine s_bipush (v := (nI 82)) hX zcdX10_laysRoom_120.2.2.2.2.1 (by decide) ?_
                              refine s_bipush (v := (nI 40)) hX zcdX10_laysRoom_120.2.2.2.2.2.1 (by decide) ?_
                              refine s_iload_n (k := 2) hX zcdX10_laysRoom_120.2.2.2.2.2.2.1 rfl rfl ?_
                              refine s_iadd hX zcdX10_laysRoom_120.2.2.2.2.2.2.2 ?_
                              refine s_imul hX zcdX10_laysRoom_136.1 ?_
                              refine s_iload_n (k := 3) hX zcdX10_laysRoom_136.2.1 rfl rfl ?_
                              refine s_iadd hX zcdX10_laysRoom_136.2.2.1 ?_
                              refine s_iconst (v := (nI 1)) hX zcdX10_laysRoom_136.2.2.2.1 (by decide) ?_
                              refine e_bast hX aM28 zcdX10_laysRoom_136.2.2.2.2.1 h (fun h => ?_)
                              refine e_bndM h (fun M_6 h => ?_)
                              refine s_iinc (k := 3) (v := (y3_105 + (nI 1))) (lv' := [(0, .ref (ad 0)), (1, .int v1), (2, .int y2_24), (3, .int (y3_105 + (nI 1)))]) hX zcdX10_laysRoom_136.2.2.2.2.2.1 (congrArg (fun z => y3_105 + z) (by decide)) (by decide) rfl rfl ?_
                              refine s_goto (tgt := 105) hX zcdX10_laysRoom_136.2.2.2.2.2.2.1 (by decide) ?_
                              exact ih105 M_6 (y3_105 + (nI 1)) h
                    exact lp105 FU N103 (nI 0) h
                  refine e_if_eq (tgt := 103) hX zcdX10_laysRoom_84.1 (by decide) z_eq h (fun h => ?_) (fun h => ?_)
                  · exact j103 N77 h
                  · refine s_aload_n (k := 0) hX zcdX10_laysRoom_84.2.1 rfl rfl ?_
                    refine s_get hX fX10_92 oM0 rfl zcdX10_laysRoom_84.2.2.1 ?_
                    refine s_bipush (v := (nI 82)) hX zcdX10_laysRoom_84.2.2.2.1 (by decide) ?_
                    refine s_bipush (v := (nI 40)) hX zcdX10_laysRoom_84.2.2.2.2.1 (by decide) ?_
                    refine s_iload_n (k := 2) hX zcdX10_laysRoom_84.2.2.2.2.2.1 rfl rfl ?_
                    refine s_iadd hX zcdX10_laysRoom_84.2.2.2.2.2.2.1 ?_
                    refine s_imul hX zcdX10_laysRoom_84.2.2.2.2.2.2.2 ?_
                    refine s_bipush (v := (nI 81)) hX zcdX10_laysRoom_98.1 (by decide) ?_
                    refine s_iadd hX zcdX10_laysRoom_98.2.1 ?_
                    refine s_iconst (v := (nI 1)) hX zcdX10_laysRoom_98.2.2.1 (by decide) ?_
                    refine e_bast hX aM28 zcdX10_laysRoom_98.2.2.2.1 h (fun h => ?_)
                    refine e_bndM h (fun M_7 h => ?_)
                    exact j103 M_7 h
                refine e_if_eq (tgt := 77) hX zcdX10_laysRoom_58.2.2.2.1 (by decide) z_eq h (fun h => ?_) (fun h => ?_)
                · exact j77 M_2 h
                · refine s_aload_n (k := 0) hX zcdX10_laysRoom_58.2.2.2.2.1 rfl rfl ?_
                  refine s_get hX fX10_92 oM0 rfl zcdX10_laysRoom_58.2.2.2.2.2.1 ?_
                  refine s_sipush (v := (nI 6560)) hX zcdX10_laysRoom_58.2.2.2.2.2.2.1 (by decide) ?_
                  refine s_iload_n (k := 2) hX zcdX10_laysRoom_58.2.2.2.2.2.2.2 rfl rfl ?_
                  refine s_iadd hX zcdX10_laysRoom_74.1 ?_
                  refine s_iconst (v := (nI 1)) hX zcdX10_laysRoom_74.2.1 (by decide) ?_
                  refine e_bast hX aM28 zcdX10_laysRoom_74.2.2.1 h (fun h => ?_)
                  refine e_bndM h (fun M_8 h => ?_)
                  exact j77 M_8 h
              · refine s_goto (tgt := 147) hX zcdX10_laysRoom_32.2.2.1 (by decide) ?_
                refine s_iinc (k := 2) (v := (y2_24 + (nI 1))) (lv' := [(0, .ref (ad 0)), (1, .int v1), (2, .int (y2_24 + (nI 1)))]) hX zcdX10_laysRoom_136.2.2.2.2.2.2.2 (congrArg (fun z => y2_24 + z) (by decide)) (by decide) rfl rfl ?_
                refine s_goto (tgt := 24) hX zcdX10_laysRoom_150.1 (by decide) ?_
                exact ih24 M24 (y2_24 + (nI 1)) h
        exact lp24 FU M2 (nI 0) h
      refine e_icmp_ge (tgt := 22) hX zcdX10_laysRoom_3.2.1 (by decide) (m_ge (by decide +kernel)) h (fun h => ?_) (fun h => ?_)
      · refine s_loc [0, 1] rfl ?_
        exact j22 h
      · refine s_aload_n (k := 0) hX zcdX10_laysRoom_3.2.2.1 rfl rfl ?_
        refine s_get hX fX10_92 oM0 rfl zcdX10_laysRoom_3.2.2.2.1 ?_
        refine s_iload_n (k := 2) hX zcdX10_laysRoom_3.2.2.2.2.1 rfl rfl ?_
        refine s_iconst (v := (nI 0)) hX zcdX10_laysRoom_3.2.2.2.2.2.1 (by decide) ?_
        refine e_bast hX aM28 zcdX10_laysRoom_3.2.2.2.2.2.2.1 h (fun h => ?_)
        refine e_bndM h (fun M_9 h => ?_)
        refine s_iinc (k := 2) (v := (y2_2 + (nI 1))) (lv' := [(0, .ref (ad 0)), (1, .int v1), (2, .int (y2_2 + (nI 1)))]) hX zcdX10_laysRoom_3.2.2.2.2.2.2.2 (congrArg (fun z => y2_2 + z) (by decide)) (by decide) rfl rfl ?_
        refine s_goto (tgt := 2) hX zcdX10_laysRoom_19.1 (by decide) ?_
        exact ih2 M_9 (y2_2 + (nI 1)) h
  exact lp2 FU M (nI 0) h
set_option maxHeartbeats 4000000 in
theorem t_X10_hold (v1 : Int32) (M : Mem) : AXi yX10_hold cX10_hold 3 (some .int) 3 39 glM (fun ad => [.ref (ad 0), .int v1]) M (f_X10_hold M v1) := by
  intro r0 h
  refine AM.of (by decide) (fun _ => Nat.le_of_ble_eq_true rfl) (fun X ad cI cZ cB hX hR => ?_)
  show V X M [(0, .ref (ad 0)), (1, .int v1)] [] 0
  refine s_aload_n (k := 0) hX zcdX10_laysRoom_150.2.2.1 rfl rfl ?_
  refine s_iload_n (k := 1) hX zcdX10_laysRoom_150.2.2.2.1 rfl rfl ?_
  refine e_callVp hX (t_X10_isPerson v1 M) mX10_isPerson lX10_334 (by decide) (by decide) oM0 rfl rfl rfl rfl rfl (Nat.le_of_ble_eq_true rfl) zcdX10_laysRoom_150.2.2.2.2.1 h (fun r_1 h => ?_)
  refine e_if_ne (tgt := 10) hX zcdX10_laysRoom_150.2.2.2.2.2.1 (by decide) z_eq h (fun h => ?_) (fun h => ?_)
  · refine s_aload_n (k := 0) hX zcdX10_hold_10.1 rfl rfl ?_
    refine s_get hX fX10_19 oM0 rfl zcdX10_hold_10.2.1 ?_
    refine s_iload_n (k := 1) hX zcdX10_hold_10.2.2.1 rfl rfl ?_
    refine e_iald hX aM4 zcdX10_hold_10.2.2.2.1 h (fun h => ?_)
    refine s_bipush (v := (nI 21)) hX zcdX10_hold_10.2.2.2.2.1 (by decide) ?_
    refine e_icmp_lt (tgt := 24) hX zcdX10_hold_10.2.2.2.2.2.1 (by decide) (m_lt (by decide +kernel)) h (fun h => ?_) (fun h => ?_)
    · refine s_aload_n (k := 0) hX zcdX10_hold_24.1 rfl rfl ?_
      refine s_aload_n (k := 0) hX zcdX10_hold_24.2.1 rfl rfl ?_
      refine s_get hX fX10_19 oM0 rfl zcdX10_hold_24.2.2.1 ?_
      refine s_iload_n (k := 1) hX zcdX10_hold_24.2.2.2.1 rfl rfl ?_
      refine e_iald hX aM4 zcdX10_hold_24.2.2.2.2.1 h (fun h => ?_)
      refine e_callVv hX (t_X10_laysRoom (M 4 (ix v1)) M) mX10_laysRoom lX10_347 (by decide) (by decide) oM0 rfl rfl rfl rfl rfl (Nat.le_of_ble_eq_true rfl) zcdX10_hold_24.2.2.2.2.2.1 h (fun M_2 h => ?_)
      refine s_iconst (v := (nI 0)) hX zcdX10_hold_24.2.2.2.2.2.2.1 (by decide) ?_
      refine s_istore_n (lv' := [(0, .ref (ad 0)), (1, .int v1), (2, .int (nI 0))]) hX zcdX10_hold_24.2.2.2.2.2.2.2 rfl (by decide) rfl ?_
      have lp36 : ∀ (N36 : Nat) (M36 : Mem) (y2_36 : Int32), wlp2 f_X10_hold_B36 N36 M36 y2_36 = some r0 → V X M36 [(0, .ref (ad 0)), (2, .int y2_36)] [] 36 := by
        intro N36
        induction N36 with
        | zero => exact fun _ _ h => e_none h
        | succ N36 ih36 =>
          intro M36 y2_36 h
          replace h : f_X10_hold_B36 (wlp2 f_X10_hold_B36 N36) M36 y2_36 = some r0 := h
          generalize wlp2 f_X10_hold_B36 N36 = ag36 at ih36 h
          refine s_aload_n (k := 0) hX zcdX10_hold_36.1 rfl rfl ?_
          refine e_callVi hX (t_X10_goesAcross M36) mX10_goesAcross lX10_350 (by decide) (by decide) oM0 rfl rfl rfl rfl rfl (Nat.le_of_ble_eq_true rfl) zcdX10_hold_36.2.1 h (fun r_3 M_4 h => ?_)
          refine e_if_eq (tgt := 50) hX zcdX10_hold_36.2.2.1 (by decide) z_eq h (fun h => ?_) (fun h => ?_)
          · refine s_iload_n (k := 1) hX zcdX10_hold_50.1 rfl rfl ?_
            exact e_ireti hX hR zcdX10_hold_50.2.1 h
          · refine s_iload_n (k := 1) hX zcdX10_hold_36.2.2.2.1 rfl rfl ?_
            refine s_iconst (v := (nI 1)) hX zcdX10_hold_36.2.2.2.2.1 (by decide) ?_
            refine s_iadd hX zcdX10_hold_36.2.2.2.2.2.1 ?_
            refine s_istore_n (lv' := [(0, .ref (ad 0)), (2, .int (y2_36 + (nI 1)))]) hX zcdX10_hold_36.2.2.2.2.2.2.1 rfl (by decide) rfl ?_
            refine s_goto (tgt := 36) hX zcdX10_hold_36.2.2.2.2.2.2.2 (by decide) ?_
            exact ih36 M_4 (y2_36 + (nI 1)) h
      refine s_loc [0, 2] rfl ?_
      exact lp36 FU M_2 (nI 0) h
    · refine s_bipush (v := (-2)) hX zcdX10_hold_10.2.2.2.2.2.2.1 (by decide) ?_
      exact e_ireti hX hR zcdX10_hold_10.2.2.2.2.2.2.2 h
  · refine s_iconst (v := (-1)) hX zcdX10_laysRoom_150.2.2.2.2.2.2.1 (by decide) ?_
    exact e_ireti hX hR zcdX10_laysRoom_150.2.2.2.2.2.2.2 h
set_option maxHeartbeats 4000000 in
theorem t_X10_howFar (v1 : Int32) (M : Mem) : AXi yX10_howFar cX10_howFar 4 (some .int) 4 39 glM (fun ad => [.ref (ad 0), .int v1]) M (f_X10_howFar M v1) := by
  intro r0 h
  refine AM.of (by decide) (fun _ => Nat.le_of_ble_eq_true rfl) (fun X ad cI cZ cB hX hR => ?_)
  show V X M [(0, .ref (ad 0)), (1, .int v1)] [] 0
  refine s_aload_n (k := 0) hX zcdX10_hold_50.2.2.1 rfl rfl ?_
  refine s_iload_n (k := 1) hX zcdX10_hold_50.2.2.2.1 rfl rfl ?_
  refine e_callVp hX (t_X10_isPerson v1 M) mX10_isPerson lX10_334 (by decide) (by decide) oM0 rfl rfl rfl rfl rfl (Nat.le_of_ble_eq_true rfl) zcdX10_hold_50.2.2.2.2.1 h (fun r_1 h => ?_)
  refine e_if_ne (tgt := 10) hX zcdX10_hold_50.2.2.2.2.2.1 (by decide) z_eq h (fun h => ?_) (fun h => ?_)
  · refine s_aload_n (k := 0) hX zcdX10_howFar_10.1 rfl rfl ?_
    refine s_aload_n (k := 0) hX zcdX10_howFar_10.2.1 rfl rfl ?_
    refine s_get hX fX10_19 oM0 rfl zcdX10_howFar_10.2.2.1 ?_
    refine s_iload_n (k := 1) hX zcdX10_howFar_10.2.2.2.1 rfl rfl ?_
    refine e_iald hX aM4 zcdX10_howFar_10.2.2.2.2.1 h (fun h => ?_)
    refine e_callVi hX (t_X10_crossing (M 4 (ix v1)) M) mX10_crossing lX10_337 (by decide) (by decide) oM0 rfl rfl rfl rfl rfl (Nat.le_of_ble_eq_true rfl) zcdX10_howFar_10.2.2.2.2.2.1 h (fun r_2 M_3 h => ?_)
    refine s_iconst (v := (-1)) hX zcdX10_howFar_10.2.2.2.2.2.2.1 (by decide) ?_
    refine e_icmp_eq (tgt := 27) hX zcdX10_howFar_10.2.2.2.2.2.2.2 (by decide) (m_eq (by decide +kernel)) h (fun h => ?_) (fun h => ?_)
    · refine s_iconst (v := (nI 0)) hX zcdX10_howFar_24.2.2.1 (by decide) ?_
      refine s_istore_n (lv' := [(0, .ref (ad 0)), (1, .int v1), (2, .int (nI 0))]) hX zcdX10_howFar_24.2.2.2.1 rfl (by decide) rfl ?_
      refine s_iconst (v := (nI 0)) hX zcdX10_howFar_24.2.2.2.2.1 (by decide) ?_
      refine s_istore_n (lv' := [(0, .ref (ad 0)), (1, .int v1), (2, .int (nI 0)), (3, .int (nI 0))]) hX zcdX10_howFar_24.2.2.2.2.2.1 rfl (by decide) rfl ?_
      have lp31 : ∀ (N31 : Nat) (y2_31 : Int32) (y3_31 : Int32), wlp2 (f_X10_howFar_B31 M_3) N31 y2_31 y3_31 = some r0 → V X M_3 [(0, .ref (ad 0)), (2, .int y2_31), (3, .int y3_31)] [] 31 := by
        intro N31
        induction N31 with
        | zero => exact fun _ _ h => e_none h
        | succ N31 ih31 =>
          intro y2_31 y3_31 h
          replace h : f_X10_howFar_B31 M_3 (wlp2 (f_X10_howFar_B31 M_3) N31) y2_31 y3_31 = some r0 := h
          generalize wlp2 (f_X10_howFar_B31 M_3) N31 = ag31 at ih31 h
          refine s_iload_n (k := 2) hX zcdX10_howFar_24.2.2.2.2.2.2.1 rfl rfl ?_
          refine s_bipush (v := (nI 40)) hX zcdX10_howFar_24.2.2.2.2.2.2.2 (by decide) ?_
          refine e_icmp_ge (tgt := 67) hX zcdX10_howFar_34.1 (by decide) (m_ge (by decide +kernel)) h (fun h => ?_) (fun h => ?_)
          · refine s_iload_n (k := 1) hX zcdX10_howFar_61.2.2.1 rfl rfl ?_
            exact e_ireti hX hR zcdX10_howFar_61.2.2.2.1 h
          · refine s_aload_n (k := 0) hX zcdX10_howFar_34.2.1 rfl rfl ?_
            refine s_get hX fX10_77 oM0 rfl zcdX10_howFar_34.2.2.1 ?_
            refine s_iload_n (k := 2) hX zcdX10_howFar_34.2.2.2.1 rfl rfl ?_
            refine e_iald hX aM23 zcdX10_howFar_34.2.2.2.2.1 h (fun h => ?_)
            refine s_iconst (v := (-1)) hX zcdX10_howFar_34.2.2.2.2.2.1 (by decide) ?_
            refine e_icmp_eq (tgt := 61) hX zcdX10_howFar_34.2.2.2.2.2.2.1 (by decide) (m_eq (by decide +kernel)) h (fun h => ?_) (fun h => ?_)
            · refine s_iinc (k := 2) (v := (y3_31 + (nI 1))) (lv' := [(0, .ref (ad 0)), (2, .int y2_31), (3, .int (y3_31 + (nI 1)))]) hX zcdX10_howFar_61.1 (congrArg (fun z => y3_31 + z) (by decide)) (by decide) rfl rfl ?_
              refine s_goto (tgt := 31) hX zcdX10_howFar_61.2.1 (by decide) ?_
              exact ih31 y2_31 (y3_31 + (nI 1)) h
            · refine s_iload_n (k := 1) hX zcdX10_howFar_34.2.2.2.2.2.2.2 rfl rfl ?_
              refine s_aload_n (k := 0) hX zcdX10_howFar_48.1 rfl rfl ?_
              refine s_get hX fX10_7 oM0 rfl zcdX10_howFar_48.2.1 ?_
              refine s_bipush (v := (nI 80)) hX zcdX10_howFar_48.2.2.1 (by decide) ?_
              refine s_iload_n (k := 2) hX zcdX10_howFar_48.2.2.2.1 rfl rfl ?_
              refine s_iadd hX zcdX10_howFar_48.2.2.2.2.1 ?_
              refine e_iald hX aM1 zcdX10_howFar_48.2.2.2.2.2.1 h (fun h => ?_)
              refine e_callSp hX (t_X10_max y2_31 (M_3 1 (ix ((nI 80) + y3_31))) M_3) mX10_max lX10_129 (by decide) (by decide) rfl rfl (Nat.le_of_ble_eq_true rfl) zcdX10_howFar_48.2.2.2.2.2.2.1 h (fun r_4 h => ?_)
              refine s_istore_n (lv' := [(0, .ref (ad 0)), (3, .int y3_31), (2, .int r_4)]) hX zcdX10_howFar_48.2.2.2.2.2.2.2 rfl (by decide) rfl ?_
              refine s_iinc (k := 1) (v := (y3_31 + (nI 1))) (lv' := [(0, .ref (ad 0)), (2, .int r_4), (3, .int (y3_31 + (nI 1)))]) hX zcdX10_howFar_61.1 (congrArg (fun z => y3_31 + z) (by decide)) (by decide) rfl rfl ?_
              refine s_goto (tgt := 31) hX zcdX10_howFar_61.2.1 (by decide) ?_
              exact ih31 r_4 (y3_31 + (nI 1)) h
      refine s_loc [0, 2, 3] rfl ?_
      exact lp31 FU (nI 0) (nI 0) h
    · refine s_bipush (v := (nI 21)) hX zcdX10_howFar_24.1 (by decide) ?_
      exact e_ireti hX hR zcdX10_howFar_24.2.1 h
  · refine s_iconst (v := (-1)) hX zcdX10_hold_50.2.2.2.2.2.2.1 (by decide) ?_
    exact e_ireti hX hR zcdX10_hold_50.2.2.2.2.2.2.2 h
set_option maxHeartbeats 4000000 in
theorem t_X10_isDigit (M : Mem) : AXp yX10_isDigit cX10_isDigit 1 (some .boolean) 1 39 glM (fun ad => [.ref (ad 0)]) M (f_X10_isDigit M) := by
  intro r0 h
  refine AM.of (by decide) (fun _ => Nat.le_of_ble_eq_true rfl) (fun X ad cI cZ cB hX hR => ?_)
  show V X M [(0, .ref (ad 0))] [] 0
  refine s_aload_n (k := 0) hX zcdX10_howFar_61.2.2.2.2.1 rfl rfl ?_
  refine e_callVp hX (t_X10_here M) mX10_here lX10_171 (by decide) (by decide) oM0 rfl rfl rfl rfl rfl (Nat.le_of_ble_eq_true rfl) zcdX10_howFar_61.2.2.2.2.2.1 h (fun r_1 h => ?_)
  refine s_bipush (v := (nI 48)) hX zcdX10_howFar_61.2.2.2.2.2.2.1 (by decide) ?_
  refine e_icmp_lt (tgt := 22) hX zcdX10_howFar_61.2.2.2.2.2.2.2 (by decide) (m_lt (by decide +kernel)) h (fun h => ?_) (fun h => ?_)
  · refine s_iconst (v := (nI 0)) hX zcdX10_isDigit_9.2.2.2.2.2.2.1 (by decide) ?_
    exact e_zretpL hX hR zcdX10_isDigit_9.2.2.2.2.2.2.2 (by decide) h
  · refine s_aload_n (k := 0) hX zcdX10_isDigit_9.1 rfl rfl ?_
    refine e_callVp hX (t_X10_here M) mX10_here lX10_171 (by decide) (by decide) oM0 rfl rfl rfl rfl rfl (Nat.le_of_ble_eq_true rfl) zcdX10_isDigit_9.2.1 h (fun r_2 h => ?_)
    refine s_bipush (v := (nI 57)) hX zcdX10_isDigit_9.2.2.1 (by decide) ?_
    refine e_icmp_gt (tgt := 22) hX zcdX10_isDigit_9.2.2.2.1 (by decide) (m_gt (by decide +kernel)) h (fun h => ?_) (fun h => ?_)
    · refine s_iconst (v := (nI 0)) hX zcdX10_isDigit_9.2.2.2.2.2.2.1 (by decide) ?_
      exact e_zretpL hX hR zcdX10_isDigit_9.2.2.2.2.2.2.2 (by decide) h
    · refine s_iconst (v := (nI 1)) hX zcdX10_isDigit_9.2.2.2.2.1 (by decide) ?_
      refine s_goto (tgt := 23) hX zcdX10_isDigit_9.2.2.2.2.2.1 (by decide) ?_
      exact e_zretpL hX hR zcdX10_isDigit_9.2.2.2.2.2.2.2 (by decide) h
set_option maxHeartbeats 4000000 in
theorem t_X10_laysIslands (v1 : Int32) (M : Mem) : AXi yX10_laysIslands cX10_laysIslands 7 (some .int) 2 39 glM (fun ad => [.ref (ad 0), .int v1]) M (f_X10_laysIslands M v1) := by
  intro r0 h
  refine AM.of (by decide) (fun _ => Nat.le_of_ble_eq_true rfl) (fun X ad cI cZ cB hX hR => ?_)
  show V X M [(0, .ref (ad 0)), (1, .int v1)] [] 0
  refine s_iconst (v := (nI 0)) hX zcdX10_laysIslands_0.1 (by decide) ?_
  refine s_istore_n (lv' := [(0, .ref (ad 0)), (1, .int v1), (2, .int (nI 0))]) hX zcdX10_laysIslands_0.2.1 rfl (by decide) rfl ?_
  refine s_iconst (v := (nI 0)) hX zcdX10_laysIslands_0.2.2.1 (by decide) ?_
  refine s_istore_n (lv' := [(0, .ref (ad 0)), (1, .int v1), (2, .int (nI 0)), (3, .int (nI 0))]) hX zcdX10_laysIslands_0.2.2.2.1 rfl (by decide) rfl ?_
  have lp4 : ∀ (N4 : Nat) (M4 : Mem) (y3_4 : Int32), wlp2 (f_X10_laysIslands_B4 v1) N4 M4 y3_4 = some r0 → V X M4 [(0, .ref (ad 0)), (1, .int v1), (2, .int (nI 0)), (3, .int y3_4)] [] 4 := by
    intro N4
    induction N4 with
    | zero => exact fun _ _ h => e_none h
    | succ N4 ih4 =>
      intro M4 y3_4 h
      replace h : f_X10_laysIslands_B4 v1 (wlp2 (f_X10_laysIslands_B4 v1) N4) M4 y3_4 = some r0 := h
      generalize wlp2 (f_X10_laysIslands_B4 v1) N4 = ag4 at ih4 h
      refine s_iload_n (k := 3) hX zcdX10_laysIslands_0.2.2.2.2.1 rfl rfl ?_
      refine s_bipush (v := (nI 40)) hX zcdX10_laysIslands_0.2.2.2.2.2.1 (by decide) ?_
      have j23 : f_X10_laysIslands_L23 v1 M4 = some r0 → V X M4 [(0, .ref (ad 0)), (1, .int v1), (2, .int (nI 0))] [] 23 := by
        intro  h
        refine s_iconst (v := (nI 0)) hX zcdX10_laysIslands_11.2.2.2.2.2.2.1 (by decide) ?_
        refine s_istore_n (lv' := [(0, .ref (ad 0)), (1, .int v1), (2, .int (nI 0)), (3, .int (nI 0))]) hX zcdX10_laysIslands_11.2.2.2.2.2.2.2 rfl (by decide) rfl ?_
        have lp25 : ∀ (N25 : Nat) (M25 : Mem) (y2_25 : Int32) (y3_25 : Int32), wlp3 (f_X10_laysIslands_B25 v1) N25 M25 y2_25 y3_25 = some r0 → V X M25 [(0, .ref (ad 0)), (1, .int v1), (2, .int y2_25), (3, .int y3_25)] [] 25 := by
          intro N25
          induction N25 with
          | zero => exact fun _ _ _ h => e_none h
          | succ N25 ih25 =>
            intro M25 y2_25 y3_25 h
            replace h : f_X10_laysIslands_B25 v1 (wlp3 (f_X10_laysIslands_B25 v1) N25) M25 y2_25 y3_25 = some r0 := h
            generalize wlp3 (f_X10_laysIslands_B25 v1) N25 = ag25 at ih25 h
            refine s_iload_n (k := 3) hX zcdX10_laysIslands_25.1 rfl rfl ?_
            refine s_bipush (v := (nI 40)) hX zcdX10_laysIslands_25.2.1 (by decide) ?_
            refine e_icmp_ge (tgt := 165) hX zcdX10_laysIslands_25.2.2.1 (by decide) (m_ge (by decide +kernel)) h (fun h => ?_) (fun h => ?_)
            · refine s_iload_n (k := 2) hX zcdX10_laysIslands_157.2.2.2.2.1 rfl rfl ?_
              exact e_ireti hX hR zcdX10_laysIslands_157.2.2.2.2.2 h
            · refine s_aload_n (k := 0) hX zcdX10_laysIslands_25.2.2.2.1 rfl rfl ?_
              refine s_iload_n (k := 3) hX zcdX10_laysIslands_25.2.2.2.2.1 rfl rfl ?_
              refine e_callVp hX (t_X10_isDry y3_25 M25) mX10_isDry lX10_319 (by decide) (by decide) oM0 rfl rfl rfl rfl rfl (Nat.le_of_ble_eq_true rfl) zcdX10_laysIslands_25.2.2.2.2.2.1 h (fun r_1 h => ?_)
              refine e_if_eq (tgt := 159) hX zcdX10_laysIslands_25.2.2.2.2.2.2.1 (by decide) z_eq h (fun h => ?_) (fun h => ?_)
              · refine s_iinc (k := 3) (v := (y3_25 + (nI 1))) (lv' := [(0, .ref (ad 0)), (1, .int v1), (2, .int y2_25), (3, .int (y3_25 + (nI 1)))]) hX zcdX10_laysIslands_157.2.2.1 (congrArg (fun z => y3_25 + z) (by decide)) (by decide) rfl rfl ?_
                refine s_goto (tgt := 25) hX zcdX10_laysIslands_157.2.2.2.1 (by decide) ?_
                exact ih25 M25 y2_25 (y3_25 + (nI 1)) h
              · refine s_aload_n (k := 0) hX zcdX10_laysIslands_25.2.2.2.2.2.2.2 rfl rfl ?_
                refine s_get hX fX10_101 oM0 rfl zcdX10_laysIslands_40.1 ?_
                refine s_iload_n (k := 3) hX zcdX10_laysIslands_40.2.1 rfl rfl ?_
                refine e_iald hX aM31 zcdX10_laysIslands_40.2.2.1 h (fun h => ?_)
                refine s_iconst (v := (-1)) hX zcdX10_laysIslands_40.2.2.2.1 (by decide) ?_
                refine e_icmp_eq (tgt := 52) hX zcdX10_laysIslands_40.2.2.2.2.1 (by decide) (m_eq (by decide +kernel)) h (fun h => ?_) (fun h => ?_)
                · refine s_iconst (v := (nI 1)) hX zcdX10_laysIslands_40.2.2.2.2.2.2.1 (by decide) ?_
                  refine s_istore (lv' := [(0, .ref (ad 0)), (1, .int v1), (2, .int y2_25), (3, .int y3_25), (4, .int (nI 1))]) hX zcdX10_laysIslands_40.2.2.2.2.2.2.2 (by decide) rfl ?_
                  refine s_aload_n (k := 0) hX zcdX10_laysIslands_55.1 rfl rfl ?_
                  refine s_get hX fX10_83 oM0 rfl zcdX10_laysIslands_55.2.1 ?_
                  refine s_iconst (v := (nI 0)) hX zcdX10_laysIslands_55.2.2.1 (by decide) ?_
                  refine s_iload_n (k := 3) hX zcdX10_laysIslands_55.2.2.2.1 rfl rfl ?_
                  refine s_iastN hX aM25 (by decide) zcdX10_laysIslands_55.2.2.2.2.1 ?_
                  refine e_bndM h (fun M_2 h => ?_)
                  refine s_aload_n (k := 0) hX zcdX10_laysIslands_55.2.2.2.2.2.1 rfl rfl ?_
                  refine s_get hX fX10_101 oM0 rfl zcdX10_laysIslands_55.2.2.2.2.2.2.1 ?_
                  refine s_iload_n (k := 3) hX zcdX10_laysIslands_55.2.2.2.2.2.2.2 rfl rfl ?_
                  refine s_iload_n (k := 2) hX zcdX10_laysIslands_67.1 rfl rfl ?_
                  refine e_iast hX aM31 zcdX10_laysIslands_67.2.1 h (fun h => ?_)
                  refine e_bndM h (fun M_3 h => ?_)
                  refine s_iconst (v := (nI 0)) hX zcdX10_laysIslands_67.2.2.1 (by decide) ?_
                  refine s_istore (lv' := [(0, .ref (ad 0)), (1, .int v1), (2, .int y2_25), (3, .int y3_25), (4, .int (nI 1)), (5, .int (nI 0))]) hX zcdX10_laysIslands_67.2.2.2.1 (by decide) rfl ?_
                  have lp72 : ∀ (N72 : Nat) (M72 : Mem) (y4_72 : Int32) (y5_72 : Int32), wlp3 (f_X10_laysIslands_B72 v1 ag25 y2_25 y3_25) N72 M72 y4_72 y5_72 = some r0 → V X M72 [(0, .ref (ad 0)), (1, .int v1), (2, .int y2_25), (3, .int y3_25), (4, .int y4_72), (5, .int y5_72)] [] 72 := by
                    intro N72
                    induction N72 with
                    | zero => exact fun _ _ _ h => e_none h
                    | succ N72 ih72 =>
                      intro M72 y4_72 y5_72 h
                      replace h : f_X10_laysIslands_B72 v1 ag25 y2_25 y3_25 (wlp3 (f_X10_laysIslands_B72 v1 ag25 y2_25 y3_25) N72) M72 y4_72 y5_72 = some r0 := h
                      generalize wlp3 (f_X10_laysIslands_B72 v1 ag25 y2_25 y3_25) N72 = ag72 at ih72 h
                      refine s_iload (k := 5) hX zcdX10_laysIslands_67.2.2.2.2.1 rfl ?_
                      refine s_iload (k := 4) hX zcdX10_laysIslands_67.2.2.2.2.2.1 rfl ?_
                      refine e_icmp_ge (tgt := 155) hX zcdX10_laysIslands_67.2.2.2.2.2.2.1 (by decide) r_le h (fun h => ?_) (fun h => ?_)
                      · refine s_iload_n (k := 2) hX zcdX10_laysIslands_140.2.2.2.2.2.2.1 rfl rfl ?_
                        refine s_iconst (v := (nI 1)) hX zcdX10_laysIslands_140.2.2.2.2.2.2.2 (by decide) ?_
                        refine s_iadd hX zcdX10_laysIslands_157.1 ?_
                        refine s_istore_n (lv' := [(0, .ref (ad 0)), (1, .int v1), (3, .int y3_25), (4, .int y4_72), (5, .int y5_72), (2, .int (y2_25 + (nI 1)))]) hX zcdX10_laysIslands_157.2.1 rfl (by decide) rfl ?_
                        refine s_iinc (k := 2) (v := (y3_25 + (nI 1))) (lv' := [(0, .ref (ad 0)), (1, .int v1), (4, .int y4_72), (5, .int y5_72), (2, .int (y2_25 + (nI 1))), (3, .int (y3_25 + (nI 1)))]) hX zcdX10_laysIslands_157.2.2.1 (congrArg (fun z => y3_25 + z) (by decide)) (by decide) rfl rfl ?_
                        refine s_goto (tgt := 25) hX zcdX10_laysIslands_157.2.2.2.1 (by decide) ?_
                        refine s_loc [0, 1, 4, 5] rfl ?_
                        exact ih25 M72 (y2_25 + (nI 1)) (y3_25 + (nI 1)) h
                      · refine s_iconst (v := (nI 0)) hX zcdX10_laysIslands_67.2.2.2.2.2.2.2 (by decide) ?_
                        refine s_istore (lv' := [(0, .ref (ad 0)), (1, .int v1), (2, .int y2_25), (3, .int y3_25), (4, .int y4_72), (5, .int y5_72), (6, .int (nI 0))]) hX zcdX10_laysIslands_80.1 (by decide) rfl ?_
                        have lp82 : ∀ (N82 : Nat) (M82 : Mem) (y4_82 : Int32) (y6_82 : Int32), wlp3 (f_X10_laysIslands_B82 v1 y2_25 ag72 y5_72) N82 M82 y4_82 y6_82 = some r0 → V X M82 [(0, .ref (ad 0)), (1, .int v1), (2, .int y2_25), (3, .int y3_25), (4, .int y4_82), (5, .int y5_72), (6, .int y6_82)] [] 82 := by
                          intro N82
                          induction N82 with
                          | zero => exact fun _ _ _ h => e_none h
                          | succ N82 ih82 =>
                            intro M82 y4_82 y6_82 h
                            replace h : f_X10_laysIslands_B82 v1 y2_25 ag72 y5_72 (wlp3 (f_X10_laysIslands_B82 v1 y2_25 ag72 y5_72) N82) M82 y4_82 y6_82 = some r0 := h
                            generalize wlp3 (f_X10_laysIslands_B82 v1 y2_25 ag72 y5_72) N82 = ag82 at ih82 h
                            refine s_iload (k := 6) hX zcdX10_laysIslands_80.2.1 rfl ?_
                            refine s_bipush (v := (nI 40)) hX zcdX10_laysIslands_80.2.2.1 (by decide) ?_
                            refine e_icmp_ge (tgt := 149) hX zcdX10_laysIslands_80.2.2.2.1 (by decide) (m_ge (by decide +kernel)) h (fun h => ?_) (fun h => ?_)
                            · refine s_iinc (k := 5) (v := (y5_72 + (nI 1))) (lv' := [(0, .ref (ad 0)), (1, .int v1), (2, .int y2_25), (3, .int y3_25), (4, .int y4_82), (6, .int y6_82), (5, .int (y5_72 + (nI 1)))]) hX zcdX10_laysIslands_140.2.2.2.2.1 (congrArg (fun z => y5_72 + z) (by decide)) (by decide) rfl rfl ?_
                              refine s_goto (tgt := 72) hX zcdX10_laysIslands_140.2.2.2.2.2.1 (by decide) ?_
                              refine s_loc [0, 1, 2, 3, 4, 6] rfl ?_
                              exact ih72 M82 y4_82 (y5_72 + (nI 1)) h
                            · refine s_aload_n (k := 0) hX zcdX10_laysIslands_80.2.2.2.2.1 rfl rfl ?_
                              refine s_get hX fX10_101 oM0 rfl zcdX10_laysIslands_80.2.2.2.2.2.1 ?_
                              refine s_iload (k := 6) hX zcdX10_laysIslands_80.2.2.2.2.2.2.1 rfl ?_
                              refine e_iald hX aM31 zcdX10_laysIslands_80.2.2.2.2.2.2.2 h (fun h => ?_)
                              refine s_iconst (v := (-1)) hX zcdX10_laysIslands_96.1 (by decide) ?_
                              refine e_icmp_ne (tgt := 143) hX zcdX10_laysIslands_96.2.1 (by decide) (m_eq (by decide +kernel)) h (fun h => ?_) (fun h => ?_)
                              · refine s_iinc (k := 6) (v := (y6_82 + (nI 1))) (lv' := [(0, .ref (ad 0)), (1, .int v1), (2, .int y2_25), (3, .int y3_25), (4, .int y4_82), (5, .int y5_72), (6, .int (y6_82 + (nI 1)))]) hX zcdX10_laysIslands_140.2.2.1 (congrArg (fun z => y6_82 + z) (by decide)) (by decide) rfl rfl ?_
                                refine s_goto (tgt := 82) hX zcdX10_laysIslands_140.2.2.2.1 (by decide) ?_
                                exact ih82 M82 y4_82 (y6_82 + (nI 1)) h
                              · refine s_aload_n (k := 0) hX zcdX10_laysIslands_96.2.2.1 rfl rfl ?_
                                refine s_aload_n (k := 0) hX zcdX10_laysIslands_96.2.2.2.1 rfl rfl ?_
                                refine s_get hX fX10_83 oM0 rfl zcdX10_laysIslands_96.2.2.2.2.1 ?_
                                refine s_iload (k := 5) hX zcdX10_laysIslands_96.2.2.2.2.2.1 rfl ?_
                                refine e_iald hX aM25 zcdX10_laysIslands_96.2.2.2.2.2.2.1 h (fun h => ?_)
                                refine s_iload (k := 6) hX zcdX10_laysIslands_96.2.2.2.2.2.2.2 rfl ?_
                                refine s_iload_n (k := 1) hX zcdX10_laysIslands_110.1 rfl rfl ?_
                                refine e_callVp hX (t_X10_canStep (M82 25 (ix y5_72)) y6_82 v1 M82) mX10_canStep lX10_326 (by decide) (by decide) oM0 rfl rfl rfl rfl rfl (Nat.le_of_ble_eq_true rfl) zcdX10_laysIslands_110.2.1 h (fun r_4 h => ?_)
                                refine e_if_ne (tgt := 120) hX zcdX10_laysIslands_110.2.2.1 (by decide) z_eq h (fun h => ?_) (fun h => ?_)
                                · refine s_aload_n (k := 0) hX zcdX10_laysIslands_110.2.2.2.2.1 rfl rfl ?_
                                  refine s_get hX fX10_101 oM0 rfl zcdX10_laysIslands_110.2.2.2.2.2.1 ?_
                                  refine s_iload (k := 6) hX zcdX10_laysIslands_110.2.2.2.2.2.2.1 rfl ?_
                                  refine s_iload_n (k := 2) hX zcdX10_laysIslands_110.2.2.2.2.2.2.2 rfl rfl ?_
                                  refine e_iast hX aM31 zcdX10_laysIslands_127.1 h (fun h => ?_)
                                  refine e_bndM h (fun M_5 h => ?_)
                                  refine s_aload_n (k := 0) hX zcdX10_laysIslands_127.2.1 rfl rfl ?_
                                  refine s_get hX fX10_83 oM0 rfl zcdX10_laysIslands_127.2.2.1 ?_
                                  refine s_iload (k := 4) hX zcdX10_laysIslands_127.2.2.2.1 rfl ?_
                                  refine s_iload (k := 6) hX zcdX10_laysIslands_127.2.2.2.2.1 rfl ?_
                                  refine e_iast hX aM25 zcdX10_laysIslands_127.2.2.2.2.2.1 h (fun h => ?_)
                                  refine e_bndM h (fun M_6 h => ?_)
                                  refine s_iload (k := 4) hX zcdX10_laysIslands_127.2.2.2.2.2.2.1 rfl ?_
                                  refine s_iconst (v := (nI 1)) hX zcdX10_laysIslands_127.2.2.2.2.2.2.2 (by decide) ?_
                                  refine s_iadd hX zcdX10_laysIslands_140.1 ?_
                                  refine s_istore (lv' := [(0, .ref (ad 0)), (1, .int v1), (2, .int y2_25), (3, .int y3_25), (5, .int y5_72), (6, .int y6_82), (4, .int (y4_82 + (nI 1)))]) hX zcdX10_laysIslands_140.2.1 (by decide) rfl ?_
                                  refine s_iinc (k := 5) (v := (y6_82 + (nI 1))) (lv' := [(0, .ref (ad 0)), (1, .int v1), (2, .int y2_25), (3, .int y3_25), (5, .int y5_72), (4, .int (y4_82 + (nI 1))), (6, .int (y6_82 + (nI 1)))]) hX zcdX10_laysIslands_140.2.2.1 (congrArg (fun z => y6_82 + z) (by decide)) (by decide) rfl rfl ?_
                                  refine s_goto (tgt := 82) hX zcdX10_laysIslands_140.2.2.2.1 (by decide) ?_
                                  refine s_loc [0, 1, 2, 3, 5, 4, 6] rfl ?_
                                  exact ih82 M_6 (y4_82 + (nI 1)) (y6_82 + (nI 1)) h
                                · refine s_goto (tgt := 143) hX zcdX10_laysIslands_110.2.2.2.1 (by decide) ?_
                                  refine s_iinc (k := 6) (v := (y6_82 + (nI 1))) (lv' := [(0, .ref (ad 0)), (1, .int v1), (2, .int y2_25), (3, .int y3_25), (4, .int y4_82), (5, .int y5_72), (6, .int (y6_82 + (nI 1)))]) hX zcdX10_laysIslands_140.2.2.1 (congrArg (fun z => y6_82 + z) (by decide)) (by decide) rfl rfl ?_
                                  refine s_goto (tgt := 82) hX zcdX10_laysIslands_140.2.2.2.1 (by decide) ?_
                                  exact ih82 M82 y4_82 (y6_82 + (nI 1)) h
                        exact lp82 FU M72 y4_72 (nI 0) h
                  exact lp72 FU M_3 (nI 1) (nI 0) h
                · refine s_goto (tgt := 159) hX zcdX10_laysIslands_40.2.2.2.2.2.1 (by decide) ?_
                  refine s_iinc (k := 3) (v := (y3_25 + (nI 1))) (lv' := [(0, .ref (ad 0)), (1, .int v1), (2, .int y2_25), (3, .int (y3_25 + (nI 1)))]) hX zcdX10_laysIslands_157.2.2.1 (congrArg (fun z => y3_25 + z) (by decide)) (by decide) rfl rfl ?_
                  refine s_goto (tgt := 25) hX zcdX10_laysIslands_157.2.2.2.1 (by decide) ?_
                  exact ih25 M25 y2_25 (y3_25 + (nI 1)) h
        exact lp25 FU M4 (nI 0) (nI 0) h
      refine e_icmp_ge (tgt := 23) hX zcdX10_laysIslands_0.2.2.2.2.2.2.1 (by decide) (m_ge (by decide +kernel)) h (fun h => ?_) (fun h => ?_)
      · refine s_loc [0, 1, 2] rfl ?_
        exact j23 h
      · refine s_aload_n (k := 0) hX zcdX10_laysIslands_0.2.2.2.2.2.2.2 rfl rfl ?_
        refine s_get hX fX10_101 oM0 rfl zcdX10_laysIslands_11.1 ?_
        refine s_iload_n (k := 3) hX zcdX10_laysIslands_11.2.1 rfl rfl ?_
        refine s_iconst (v := (-1)) hX zcdX10_laysIslands_11.2.2.1 (by decide) ?_
        refine e_iast hX aM31 zcdX10_laysIslands_11.2.2.2.1 h (fun h => ?_)
        refine e_bndM h (fun M_7 h => ?_)
        refine s_iinc (k := 3) (v := (y3_4 + (nI 1))) (lv' := [(0, .ref (ad 0)), (1, .int v1), (2, .int (nI 0)), (3, .int (y3_4 + (nI 1)))]) hX zcdX10_laysIslands_11.2.2.2.2.1 (congrArg (fun z => y3_4 + z) (by decide)) (by decide) rfl rfl ?_
        refine s_goto (tgt := 4) hX zcdX10_laysIslands_11.2.2.2.2.2.1 (by decide) ?_
        exact ih4 M_7 (y3_4 + (nI 1)) h
  exact lp4 FU M (nI 0) h
