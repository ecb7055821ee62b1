theorem zcdX2_nextDry_0 : decode cX2_nextDry 0 = .ok (.iload_n 1, 1) ∧ decode cX2_nextDry 1 = .ok (.iconst 0, 1) ∧ decode cX2_nextDry 2 = .ok (.invokestatic 39, 3) ∧ decode cX2_nextDry 5 = .ok (.istore_n 2, 1) ∧ decode cX2_nextDry 6 = .ok (.iload_n 2, 1) ∧ decode cX2_nextDry 7 = .ok (.bipush 40, 2) ∧ decode cX2_nextDry 9 = .ok (.if_icmp .ge 19, 3) ∧ decode cX2_nextDry 12 = .ok (.aload_n 0, 1) := by decide +kernel
theorem zcdX2_nextDry_13 : decode cX2_nextDry 13 = .ok (.iload_n 2, 1) ∧ decode cX2_nextDry 14 = .ok (.invokevirtual 45, 3) ∧ decode cX2_nextDry 17 = .ok (.ifCond .eq 5, 3) ∧ decode cX2_nextDry 20 = .ok (.iload_n 2, 1) ∧ decode cX2_nextDry 21 = .ok (.ireturn, 1) ∧ decode cX2_nextDry 22 = .ok (.iinc 2 1, 3) ∧ decode cX2_nextDry 25 = .ok (.goto (-19), 3) ∧ decode cX2_nextDry 28 = .ok (.iconst (-1), 1) := by decide +kernel
theorem zcdX2_nextDry_29 : decode cX2_nextDry 29 = .ok (.ireturn, 1) ∧ decode cX2_stoneAt 0 = .ok (.iconst 0, 1) ∧ decode cX2_stoneAt 1 = .ok (.istore_n 3, 1) ∧ decode cX2_stoneAt 2 = .ok (.iload_n 3, 1) ∧ decode cX2_stoneAt 3 = .ok (.bipush 40, 2) ∧ decode cX2_stoneAt 5 = .ok (.if_icmp .ge 40, 3) ∧ decode cX2_stoneAt 8 = .ok (.aload_n 0, 1) ∧ decode cX2_stoneAt 9 = .ok (.getfield 21, 3) := by decide +kernel
theorem zcdX2_stoneAt_12 : decode cX2_stoneAt 12 = .ok (.iload_n 3, 1) ∧ decode cX2_stoneAt 13 = .ok (.baload, 1) ∧ decode cX2_stoneAt 14 = .ok (.ifCond .eq 25, 3) ∧ decode cX2_stoneAt 17 = .ok (.aload_n 0, 1) ∧ decode cX2_stoneAt 18 = .ok (.getfield 9, 3) ∧ decode cX2_stoneAt 21 = .ok (.iload_n 3, 1) ∧ decode cX2_stoneAt 22 = .ok (.iaload, 1) ∧ decode cX2_stoneAt 23 = .ok (.iload_n 1, 1) := by decide +kernel
theorem zcdX2_stoneAt_24 : decode cX2_stoneAt 24 = .ok (.if_icmp .ne 15, 3) ∧ decode cX2_stoneAt 27 = .ok (.aload_n 0, 1) ∧ decode cX2_stoneAt 28 = .ok (.getfield 15, 3) ∧ decode cX2_stoneAt 31 = .ok (.iload_n 3, 1) ∧ decode cX2_stoneAt 32 = .ok (.iaload, 1) ∧ decode cX2_stoneAt 33 = .ok (.iload_n 2, 1) ∧ decode cX2_stoneAt 34 = .ok (.if_icmp .ne 5, 3) ∧ decode cX2_stoneAt 37 = .ok (.iload_n 3, 1) := by decide +kernel
theorem zcdX2_stoneAt_38 : decode cX2_stoneAt 38 = .ok (.ireturn, 1) ∧ decode cX2_stoneAt 39 = .ok (.iinc 3 1, 3) ∧ decode cX2_stoneAt 42 = .ok (.goto (-40), 3) ∧ decode cX2_stoneAt 45 = .ok (.iconst (-1), 1) ∧ decode cX2_stoneAt 46 = .ok (.ireturn, 1) ∧ decode cX2_sumOfX 0 = .ok (.iconst 0, 1) ∧ decode cX2_sumOfX 1 = .ok (.istore_n 1, 1) ∧ decode cX2_sumOfX 2 = .ok (.iconst 0, 1) := by decide +kernel
theorem zcdX2_sumOfX_3 : decode cX2_sumOfX 3 = .ok (.istore_n 2, 1) ∧ decode cX2_sumOfX 4 = .ok (.iload_n 2, 1) ∧ decode cX2_sumOfX 5 = .ok (.bipush 40, 2) ∧ decode cX2_sumOfX 7 = .ok (.if_icmp .ge 31, 3) ∧ decode cX2_sumOfX 10 = .ok (.iload_n 1, 1) ∧ decode cX2_sumOfX 11 = .ok (.aload_n 0, 1) ∧ decode cX2_sumOfX 12 = .ok (.getfield 21, 3) ∧ decode cX2_sumOfX 15 = .ok (.iload_n 2, 1) := by decide +kernel
theorem zcdX2_sumOfX_16 : decode cX2_sumOfX 16 = .ok (.baload, 1) ∧ decode cX2_sumOfX 17 = .ok (.ifCond .eq 12, 3) ∧ decode cX2_sumOfX 20 = .ok (.aload_n 0, 1) ∧ decode cX2_sumOfX 21 = .ok (.getfield 9, 3) ∧ decode cX2_sumOfX 24 = .ok (.iload_n 2, 1) ∧ decode cX2_sumOfX 25 = .ok (.iaload, 1) ∧ decode cX2_sumOfX 26 = .ok (.goto 4, 3) ∧ decode cX2_sumOfX 29 = .ok (.iconst 0, 1) := by decide +kernel
theorem zcdX2_sumOfX_30 : decode cX2_sumOfX 30 = .ok (.iadd, 1) ∧ decode cX2_sumOfX 31 = .ok (.istore_n 1, 1) ∧ decode cX2_sumOfX 32 = .ok (.iinc 2 1, 3) ∧ decode cX2_sumOfX 35 = .ok (.goto (-31), 3) ∧ decode cX2_sumOfX 38 = .ok (.iload_n 1, 1) ∧ decode cX2_sumOfX 39 = .ok (.ireturn, 1) ∧ decode cX3_combine 0 = .ok (.iload_n 0, 1) ∧ decode cX3_combine 1 = .ok (.lookupswitch 125 #[(37, 91), (42, 75), (43, 67), (45, 71), (47, 79), (60, 103), (62, 114)], 67) := by decide +kernel
theorem zcdX3_combine_68 : decode cX3_combine 68 = .ok (.iload_n 1, 1) ∧ decode cX3_combine 69 = .ok (.iload_n 2, 1) ∧ decode cX3_combine 70 = .ok (.iadd, 1) ∧ decode cX3_combine 71 = .ok (.ireturn, 1) ∧ decode cX3_combine 72 = .ok (.iload_n 1, 1) ∧ decode cX3_combine 73 = .ok (.iload_n 2, 1) ∧ decode cX3_combine 74 = .ok (.isub, 1) ∧ decode cX3_combine 75 = .ok (.ireturn, 1) := by decide +kernel
theorem zcdX3_combine_76 : decode cX3_combine 76 = .ok (.iload_n 1, 1) ∧ decode cX3_combine 77 = .ok (.iload_n 2, 1) ∧ decode cX3_combine 78 = .ok (.imul, 1) ∧ decode cX3_combine 79 = .ok (.ireturn, 1) ∧ decode cX3_combine 80 = .ok (.iload_n 2, 1) ∧ decode cX3_combine 81 = .ok (.ifCond .ne 7, 3) ∧ decode cX3_combine 84 = .ok (.iconst 0, 1) ∧ decode cX3_combine 85 = .ok (.goto 6, 3) := by decide +kernel
theorem zcdX3_combine_88 : decode cX3_combine 88 = .ok (.iload_n 1, 1) ∧ decode cX3_combine 89 = .ok (.iload_n 2, 1) ∧ decode cX3_combine 90 = .ok (.idiv, 1) ∧ decode cX3_combine 91 = .ok (.ireturn, 1) ∧ decode cX3_combine 92 = .ok (.iload_n 2, 1) ∧ decode cX3_combine 93 = .ok (.ifCond .ne 7, 3) ∧ decode cX3_combine 96 = .ok (.iconst 0, 1) ∧ decode cX3_combine 97 = .ok (.goto 6, 3) := by decide +kernel
theorem zcdX3_combine_100 : decode cX3_combine 100 = .ok (.iload_n 1, 1) ∧ decode cX3_combine 101 = .ok (.iload_n 2, 1) ∧ decode cX3_combine 102 = .ok (.irem, 1) ∧ decode cX3_combine 103 = .ok (.ireturn, 1) ∧ decode cX3_combine 104 = .ok (.iload_n 1, 1) ∧ decode cX3_combine 105 = .ok (.iload_n 2, 1) ∧ decode cX3_combine 106 = .ok (.if_icmp .ge 7, 3) ∧ decode cX3_combine 109 = .ok (.iconst 1, 1) := by decide +kernel
theorem zcdX3_combine_110 : decode cX3_combine 110 = .ok (.goto 4, 3) ∧ decode cX3_combine 113 = .ok (.iconst 0, 1) ∧ decode cX3_combine 114 = .ok (.ireturn, 1) ∧ decode cX3_combine 115 = .ok (.iload_n 1, 1) ∧ decode cX3_combine 116 = .ok (.iload_n 2, 1) ∧ decode cX3_combine 117 = .ok (.if_icmp .le 7, 3) ∧ decode cX3_combine 120 = .ok (.iconst 1, 1) ∧ decode cX3_combine 121 = .ok (.goto 4, 3) := by decide +kernel
theorem zcdX3_combine_124 : decode cX3_combine 124 = .ok (.iconst 0, 1) ∧ decode cX3_combine 125 = .ok (.ireturn, 1) ∧ decode cX3_combine 126 = .ok (.iload_n 1, 1) ∧ decode cX3_combine 127 = .ok (.iload_n 2, 1) ∧ decode cX3_combine 128 = .ok (.if_icmp .ne 7, 3) ∧ decode cX3_combine 131 = .ok (.iconst 1, 1) ∧ decode cX3_combine 132 = .ok (.goto 4, 3) ∧ decode cX3_combine 135 = .ok (.iconst 0, 1) := by decide +kernel
theorem zcdX3_combine_136 : decode cX3_combine 136 = .ok (.ireturn, 1) ∧ decode cX3_reckon 0 = .ok (.iconst (-1), 1) ∧ decode cX3_reckon 1 = .ok (.istore 4, 2) ∧ decode cX3_reckon 3 = .ok (.iload_n 1, 1) ∧ decode cX3_reckon 4 = .ok (.istore 5, 2) ∧ decode cX3_reckon 6 = .ok (.iconst 0, 1) ∧ decode cX3_reckon 7 = .ok (.istore 6, 2) ∧ decode cX3_reckon 9 = .ok (.iload 6, 2) := by decide +kernel
theorem zcdX3_reckon_11 : decode cX3_reckon 11 = .ok (.sipush 240, 3) ∧ decode cX3_reckon 14 = .ok (.if_icmp .ge 284, 3) ∧ decode cX3_reckon 17 = .ok (.iload 5, 2) ∧ decode cX3_reckon 19 = .ok (.ifCond .lt 279, 3) ∧ decode cX3_reckon 22 = .ok (.iload 5, 2) ∧ decode cX3_reckon 24 = .ok (.iload_n 2, 1) ∧ decode cX3_reckon 25 = .ok (.if_icmp .ge 273, 3) ∧ decode cX3_reckon 28 = .ok (.iload 5, 2) := by decide +kernel
theorem zcdX3_reckon_30 : decode cX3_reckon 30 = .ok (.aload_n 0, 1) ∧ decode cX3_reckon 31 = .ok (.getfield 33, 3) ∧ decode cX3_reckon 34 = .ok (.if_icmp .ge 264, 3) ∧ decode cX3_reckon 37 = .ok (.iload 5, 2) ∧ decode cX3_reckon 39 = .ok (.sipush 240, 3) ∧ decode cX3_reckon 42 = .ok (.if_icmp .ge 256, 3) ∧ decode cX3_reckon 45 = .ok (.aload_n 0, 1) ∧ decode cX3_reckon 46 = .ok (.getfield 9, 3) := by decide +kernel
theorem zcdX3_reckon_49 : decode cX3_reckon 49 = .ok (.iload 5, 2) ∧ decode cX3_reckon 51 = .ok (.iaload, 1) ∧ decode cX3_reckon 52 = .ok (.istore 7, 2) ∧ decode cX3_reckon 54 = .ok (.aload_n 0, 1) ∧ decode cX3_reckon 55 = .ok (.getfield 15, 3) ∧ decode cX3_reckon 58 = .ok (.iload 5, 2) ∧ decode cX3_reckon 60 = .ok (.iaload, 1) ∧ decode cX3_reckon 61 = .ok (.istore 8, 2) := by decide +kernel
theorem zcdX3_reckon_63 : decode cX3_reckon 63 = .ok (.iinc 5 1, 3) ∧ decode cX3_reckon 66 = .ok (.iload 7, 2) ∧ decode cX3_reckon 68 = .ok (.bipush 48, 2) ∧ decode cX3_reckon 70 = .ok (.if_icmp .eq 10, 3) ∧ decode cX3_reckon 73 = .ok (.iload 7, 2) ∧ decode cX3_reckon 75 = .ok (.bipush 97, 2) ∧ decode cX3_reckon 77 = .ok (.if_icmp .ne 62, 3) ∧ decode cX3_reckon 80 = .ok (.iload 4, 2) := by decide +kernel
theorem zcdX3_reckon_82 : decode cX3_reckon 82 = .ok (.iconst 1, 1) ∧ decode cX3_reckon 83 = .ok (.iadd, 1) ∧ decode cX3_reckon 84 = .ok (.bipush 32, 2) ∧ decode cX3_reckon 86 = .ok (.if_icmp .ge 22, 3) ∧ decode cX3_reckon 89 = .ok (.iload 7, 2) ∧ decode cX3_reckon 91 = .ok (.bipush 97, 2) ∧ decode cX3_reckon 93 = .ok (.if_icmp .ne 17, 3) ∧ decode cX3_reckon 96 = .ok (.iload 8, 2) := by decide +kernel
theorem zcdX3_reckon_98 : decode cX3_reckon 98 = .ok (.ifCond .lt 10, 3) ∧ decode cX3_reckon 101 = .ok (.iload 8, 2) ∧ decode cX3_reckon 103 = .ok (.aload_n 3, 1) ∧ decode cX3_reckon 104 = .ok (.arraylength, 1) ∧ decode cX3_reckon 105 = .ok (.if_icmp .lt 5, 3) ∧ decode cX3_reckon 108 = .ok (.iconst 0, 1) ∧ decode cX3_reckon 109 = .ok (.ireturn, 1) ∧ decode cX3_reckon 110 = .ok (.iinc 4 1, 3) := by decide +kernel
theorem zcdX3_reckon_113 : decode cX3_reckon 113 = .ok (.aload_n 0, 1) ∧ decode cX3_reckon 114 = .ok (.getfield 18, 3) ∧ decode cX3_reckon 117 = .ok (.iload 4, 2) ∧ decode cX3_reckon 119 = .ok (.iload 7, 2) ∧ decode cX3_reckon 121 = .ok (.bipush 48, 2) ∧ decode cX3_reckon 123 = .ok (.if_icmp .ne 8, 3) ∧ decode cX3_reckon 126 = .ok (.iload 8, 2) ∧ decode cX3_reckon 128 = .ok (.goto 7, 3) := by decide +kernel
theorem zcdX3_reckon_131 : decode cX3_reckon 131 = .ok (.aload_n 3, 1) ∧ decode cX3_reckon 132 = .ok (.iload 8, 2) ∧ decode cX3_reckon 134 = .ok (.iaload, 1) ∧ decode cX3_reckon 135 = .ok (.iastore, 1) ∧ decode cX3_reckon 136 = .ok (.goto 156, 3) ∧ decode cX3_reckon 139 = .ok (.iload 4, 2) ∧ decode cX3_reckon 141 = .ok (.ifCond .ge 5, 3) ∧ decode cX3_reckon 144 = .ok (.iconst 0, 1) := by decide +kernel
theorem zcdX3_reckon_145 : decode cX3_reckon 145 = .ok (.ireturn, 1) ∧ decode cX3_reckon 146 = .ok (.iload 7, 2) ∧ decode cX3_reckon 148 = .ok (.bipush 33, 2) ∧ decode cX3_reckon 150 = .ok (.if_icmp .ne 22, 3) ∧ decode cX3_reckon 153 = .ok (.aload_n 0, 1) ∧ decode cX3_reckon 154 = .ok (.getfield 18, 3) ∧ decode cX3_reckon 157 = .ok (.iload 4, 2) ∧ decode cX3_reckon 159 = .ok (.iconst 1, 1) := by decide +kernel
theorem zcdX3_reckon_160 : decode cX3_reckon 160 = .ok (.aload_n 0, 1) ∧ decode cX3_reckon 161 = .ok (.getfield 18, 3) ∧ decode cX3_reckon 164 = .ok (.iload 4, 2) ∧ decode cX3_reckon 166 = .ok (.iaload, 1) ∧ decode cX3_reckon 167 = .ok (.isub, 1) ∧ decode cX3_reckon 168 = .ok (.iastore, 1) ∧ decode cX3_reckon 169 = .ok (.goto 123, 3) ∧ decode cX3_reckon 172 = .ok (.iload 7, 2) := by decide +kernel
theorem zcdX3_reckon_174 : decode cX3_reckon 174 = .ok (.bipush 38, 2) ∧ decode cX3_reckon 176 = .ok (.if_icmp .eq 10, 3) ∧ decode cX3_reckon 179 = .ok (.iload 7, 2) ∧ decode cX3_reckon 181 = .ok (.bipush 124, 2) ∧ decode cX3_reckon 183 = .ok (.if_icmp .ne 46, 3) ∧ decode cX3_reckon 186 = .ok (.aload_n 0, 1) ∧ decode cX3_reckon 187 = .ok (.getfield 18, 3) ∧ decode cX3_reckon 190 = .ok (.iload 4, 2) := by decide +kernel
theorem zcdX3_reckon_192 : decode cX3_reckon 192 = .ok (.iaload, 1) ∧ decode cX3_reckon 193 = .ok (.ifCond .ne 7, 3) ∧ decode cX3_reckon 196 = .ok (.iconst 1, 1) ∧ decode cX3_reckon 197 = .ok (.goto 4, 3) ∧ decode cX3_reckon 200 = .ok (.iconst 0, 1) ∧ decode cX3_reckon 201 = .ok (.iload 7, 2) ∧ decode cX3_reckon 203 = .ok (.bipush 38, 2) ∧ decode cX3_reckon 205 = .ok (.if_icmp .ne 7, 3) := by decide +kernel
theorem zcdX3_reckon_208 : decode cX3_reckon 208 = .ok (.iconst 1, 1) ∧ decode cX3_reckon 209 = .ok (.goto 4, 3) ∧ decode cX3_reckon 212 = .ok (.iconst 0, 1) ∧ decode cX3_reckon 213 = .ok (.if_icmp .ne 10, 3) ∧ decode cX3_reckon 216 = .ok (.iload 8, 2) ∧ decode cX3_reckon 218 = .ok (.istore 5, 2) ∧ decode cX3_reckon 220 = .ok (.goto 72, 3) ∧ decode cX3_reckon 223 = .ok (.iinc 4 (-1), 3) := by decide +kernel
theorem zcdX3_reckon_226 : decode cX3_reckon 226 = .ok (.goto 66, 3) ∧ decode cX3_reckon 229 = .ok (.iload 4, 2) ∧ decode cX3_reckon 231 = .ok (.iconst 1, 1) ∧ decode cX3_reckon 232 = .ok (.if_icmp .lt 27, 3) ∧ decode cX3_reckon 235 = .ok (.iload 7, 2) ∧ decode cX3_reckon 237 = .ok (.bipush 47, 2) ∧ decode cX3_reckon 239 = .ok (.if_icmp .eq 10, 3) ∧ decode cX3_reckon 242 = .ok (.iload 7, 2) := by decide +kernel
theorem zcdX3_reckon_244 : decode cX3_reckon 244 = .ok (.bipush 37, 2) ∧ decode cX3_reckon 246 = .ok (.if_icmp .ne 15, 3) ∧ decode cX3_reckon 249 = .ok (.aload_n 0, 1) ∧ decode cX3_reckon 250 = .ok (.getfield 18, 3) ∧ decode cX3_reckon 253 = .ok (.iload 4, 2) ∧ decode cX3_reckon 255 = .ok (.iaload, 1) ∧ decode cX3_reckon 256 = .ok (.ifCond .ne 5, 3) ∧ decode cX3_reckon 259 = .ok (.iconst 0, 1) := by decide +kernel
theorem zcdX3_reckon_260 : decode cX3_reckon 260 = .ok (.ireturn, 1) ∧ decode cX3_reckon 261 = .ok (.iinc 4 (-1), 3) ∧ decode cX3_reckon 264 = .ok (.aload_n 0, 1) ∧ decode cX3_reckon 265 = .ok (.getfield 18, 3) ∧ decode cX3_reckon 268 = .ok (.iload 4, 2) ∧ decode cX3_reckon 270 = .ok (.iload 7, 2) ∧ decode cX3_reckon 272 = .ok (.aload_n 0, 1) ∧ decode cX3_reckon 273 = .ok (.getfield 18, 3) := by decide +kernel
theorem zcdX3_reckon_276 : decode cX3_reckon 276 = .ok (.iload 4, 2) ∧ decode cX3_reckon 278 = .ok (.iaload, 1) ∧ decode cX3_reckon 279 = .ok (.aload_n 0, 1) ∧ decode cX3_reckon 280 = .ok (.getfield 18, 3) ∧ decode cX3_reckon 283 = .ok (.iload 4, 2) ∧ decode cX3_reckon 285 = .ok (.iconst 1, 1) ∧ decode cX3_reckon 286 = .ok (.iadd, 1) ∧ decode cX3_reckon 287 = .ok (.iaload, 1) := by decide +kernel
theorem zcdX3_reckon_288 : decode cX3_reckon 288 = .ok (.invokestatic 117, 3) ∧ decode cX3_reckon 291 = .ok (.iastore, 1) ∧ decode cX3_reckon 292 = .ok (.iinc 6 1, 3) ∧ decode cX3_reckon 295 = .ok (.goto (-286), 3) ∧ decode cX3_reckon 298 = .ok (.iload 4, 2) ∧ decode cX3_reckon 300 = .ok (.ifCond .ge 7, 3) ∧ decode cX3_reckon 303 = .ok (.iconst 0, 1) ∧ decode cX3_reckon 304 = .ok (.goto 10, 3) := by decide +kernel
theorem zcdX3_reckon_307 : decode cX3_reckon 307 = .ok (.aload_n 0, 1) ∧ decode cX3_reckon 308 = .ok (.getfield 18, 3) ∧ decode cX3_reckon 311 = .ok (.iload 4, 2) ∧ decode cX3_reckon 313 = .ok (.iaload, 1) ∧ decode cX3_reckon 314 = .ok (.ireturn, 1) ∧ decode cX3_doesHold 0 = .ok (.iload_n 1, 1) ∧ decode cX3_doesHold 1 = .ok (.ifCond .lt 33, 3) ∧ decode cX3_doesHold 4 = .ok (.iload_n 1, 1) := by decide +kernel
theorem zcdX3_doesHold_5 : decode cX3_doesHold 5 = .ok (.bipush 16, 2) ∧ decode cX3_doesHold 7 = .ok (.if_icmp .ge 27, 3) ∧ decode cX3_doesHold 10 = .ok (.aload_n 0, 1) ∧ decode cX3_doesHold 11 = .ok (.aload_n 0, 1) ∧ decode cX3_doesHold 12 = .ok (.getfield 27, 3) ∧ decode cX3_doesHold 15 = .ok (.iload_n 1, 1) ∧ decode cX3_doesHold 16 = .ok (.iaload, 1) ∧ decode cX3_doesHold 17 = .ok (.aload_n 0, 1) := by decide +kernel
theorem zcdX3_doesHold_18 : decode cX3_doesHold 18 = .ok (.getfield 30, 3) ∧ decode cX3_doesHold 21 = .ok (.iload_n 1, 1) ∧ decode cX3_doesHold 22 = .ok (.iaload, 1) ∧ decode cX3_doesHold 23 = .ok (.aload_n 2, 1) ∧ decode cX3_doesHold 24 = .ok (.invokevirtual 104, 3) ∧ decode cX3_doesHold 27 = .ok (.ifCond .eq 7, 3) ∧ decode cX3_doesHold 30 = .ok (.iconst 1, 1) ∧ decode cX3_doesHold 31 = .ok (.goto 4, 3) := by decide +kernel
theorem zcdX3_doesHold_34 : decode cX3_doesHold 34 = .ok (.iconst 0, 1) ∧ decode cX3_doesHold 35 = .ok (.ireturn, 1) ∧ decode cX3_amountOf 0 = .ok (.iconst 0, 1) ∧ decode cX3_amountOf 1 = .ok (.istore_n 3, 1) ∧ decode cX3_amountOf 2 = .ok (.iload_n 3, 1) ∧ decode cX3_amountOf 3 = .ok (.aload_n 0, 1) ∧ decode cX3_amountOf 4 = .ok (.getfield 37, 3) ∧ decode cX3_amountOf 7 = .ok (.if_icmp .ge 65, 3) := by decide +kernel
theorem zcdX3_amountOf_10 : decode cX3_amountOf 10 = .ok (.iload_n 3, 1) ∧ decode cX3_amountOf 11 = .ok (.bipush 16, 2) ∧ decode cX3_amountOf 13 = .ok (.if_icmp .ge 59, 3) ∧ decode cX3_amountOf 16 = .ok (.aload_n 0, 1) ∧ decode cX3_amountOf 17 = .ok (.getfield 21, 3) ∧ decode cX3_amountOf 20 = .ok (.iload_n 3, 1) ∧ decode cX3_amountOf 21 = .ok (.iaload, 1) ∧ decode cX3_amountOf 22 = .ok (.iload_n 1, 1) := by decide +kernel
theorem zcdX3_amountOf_23 : decode cX3_amountOf 23 = .ok (.if_icmp .ne 43, 3) ∧ decode cX3_amountOf 26 = .ok (.aload_n 0, 1) ∧ decode cX3_amountOf 27 = .ok (.iload_n 3, 1) ∧ decode cX3_amountOf 28 = .ok (.aload_n 2, 1) ∧ decode cX3_amountOf 29 = .ok (.invokevirtual 100, 3) ∧ decode cX3_amountOf 32 = .ok (.ifCond .eq 34, 3) ∧ decode cX3_amountOf 35 = .ok (.aload_n 0, 1) ∧ decode cX3_amountOf 36 = .ok (.aload_n 0, 1) := by decide +kernel
theorem zcdX3_amountOf_37 : decode cX3_amountOf 37 = .ok (.getfield 24, 3) ∧ decode cX3_amountOf 40 = .ok (.iload_n 3, 1) ∧ decode cX3_amountOf 41 = .ok (.iaload, 1) ∧ decode cX3_amountOf 42 = .ok (.aload_n 0, 1) ∧ decode cX3_amountOf 43 = .ok (.getfield 27, 3) ∧ decode cX3_amountOf 46 = .ok (.iload_n 3, 1) ∧ decode cX3_amountOf 47 = .ok (.iaload, 1) ∧ decode cX3_amountOf 48 = .ok (.aload_n 2, 1) := by decide +kernel
theorem zcdX3_amountOf_49 : decode cX3_amountOf 49 = .ok (.invokevirtual 104, 3) ∧ decode cX3_amountOf 52 = .ok (.istore 4, 2) ∧ decode cX3_amountOf 54 = .ok (.iconst 0, 1) ∧ decode cX3_amountOf 55 = .ok (.bipush 9, 2) ∧ decode cX3_amountOf 57 = .ok (.iload 4, 2) ∧ decode cX3_amountOf 59 = .ok (.invokestatic 108, 3) ∧ decode cX3_amountOf 62 = .ok (.invokestatic 114, 3) ∧ decode cX3_amountOf 65 = .ok (.ireturn, 1) := by decide +kernel
theorem zcdX3_amountOf_66 : decode cX3_amountOf 66 = .ok (.iinc 3 1, 3) ∧ decode cX3_amountOf 69 = .ok (.goto (-67), 3) ∧ decode cX3_amountOf 72 = .ok (.iconst 0, 1) ∧ decode cX3_amountOf 73 = .ok (.ireturn, 1) ∧ decode cX7_here 0 = .ok (.aload_n 0, 1) ∧ decode cX7_here 1 = .ok (.getfield 22, 3) ∧ decode cX7_here 4 = .ok (.ifCond .lt 36, 3) ∧ decode cX7_here 7 = .ok (.aload_n 0, 1) := by decide +kernel
theorem zcdX7_here_8 : decode cX7_here 8 = .ok (.getfield 22, 3) ∧ decode cX7_here 11 = .ok (.aload_n 0, 1) ∧ decode cX7_here 12 = .ok (.getfield 19, 3) ∧ decode cX7_here 15 = .ok (.if_icmp .ge 25, 3) ∧ decode cX7_here 18 = .ok (.aload_n 0, 1) ∧ decode cX7_here 19 = .ok (.getfield 22, 3) ∧ decode cX7_here 22 = .ok (.sipush 260, 3) ∧ decode cX7_here 25 = .ok (.if_icmp .ge 15, 3) := by decide +kernel
theorem zcdX7_here_28 : decode cX7_here 28 = .ok (.aload_n 0, 1) ∧ decode cX7_here 29 = .ok (.getfield 9, 3) ∧ decode cX7_here 32 = .ok (.aload_n 0, 1) ∧ decode cX7_here 33 = .ok (.getfield 22, 3) ∧ decode cX7_here 36 = .ok (.iaload, 1) ∧ decode cX7_here 37 = .ok (.goto 4, 3) ∧ decode cX7_here 40 = .ok (.iconst (-1), 1) ∧ decode cX7_here 41 = .ok (.ireturn, 1) := by decide +kernel
theorem zcdX3_isRuleLetter_0 : decode cX3_isRuleLetter 0 = .ok (.iload_n 0, 1) ∧ decode cX3_isRuleLetter 1 = .ok (.bipush 117, 2) ∧ decode cX3_isRuleLetter 3 = .ok (.if_icmp .eq 27, 3) ∧ decode cX3_isRuleLetter 6 = .ok (.iload_n 0, 1) ∧ decode cX3_isRuleLetter 7 = .ok (.bipush 100, 2) ∧ decode cX3_isRuleLetter 9 = .ok (.if_icmp .eq 21, 3) ∧ decode cX3_isRuleLetter 12 = .ok (.iload_n 0, 1) ∧ decode cX3_isRuleLetter 13 = .ok (.bipush 111, 2) := by decide +kernel
theorem zcdX3_isRuleLetter_15 : decode cX3_isRuleLetter 15 = .ok (.if_icmp .eq 15, 3) ∧ decode cX3_isRuleLetter 18 = .ok (.iload_n 0, 1) ∧ decode cX3_isRuleLetter 19 = .ok (.bipush 98, 2) ∧ decode cX3_isRuleLetter 21 = .ok (.if_icmp .eq 9, 3) ∧ decode cX3_isRuleLetter 24 = .ok (.iload_n 0, 1) ∧ decode cX3_isRuleLetter 25 = .ok (.bipush 120, 2) ∧ decode cX3_isRuleLetter 27 = .ok (.if_icmp .ne 7, 3) ∧ decode cX3_isRuleLetter 30 = .ok (.iconst 1, 1) := by decide +kernel
theorem zcdX3_isRuleLetter_31 : decode cX3_isRuleLetter 31 = .ok (.goto 4, 3) ∧ decode cX3_isRuleLetter 34 = .ok (.iconst 0, 1) ∧ decode cX3_isRuleLetter 35 = .ok (.ireturn, 1) ∧ decode cX7_refuse 0 = .ok (.aload_n 0, 1) ∧ decode cX7_refuse 1 = .ok (.sipush (-1000), 3) ∧ decode cX7_refuse 4 = .ok (.iload_n 1, 1) ∧ decode cX7_refuse 5 = .ok (.imul, 1) ∧ decode cX7_refuse 6 = .ok (.iload_n 2, 1) := by decide +kernel
theorem zcdX7_refuse_7 : decode cX7_refuse 7 = .ok (.isub, 1) ∧ decode cX7_refuse 8 = .ok (.putfield 25, 3) ∧ decode cX7_refuse 11 = .ok (.iconst 0, 1) ∧ decode cX7_refuse 12 = .ok (.ireturn, 1) ∧ decode cX7_skip 0 = .ok (.aload_n 0, 1) ∧ decode cX7_skip 1 = .ok (.invokevirtual 28, 3) ∧ decode cX7_skip 4 = .ok (.iload_n 1, 1) ∧ decode cX7_skip 5 = .ok (.if_icmp .eq 13, 3) := by decide +kernel
theorem zcdX7_skip_8 : decode cX7_skip 8 = .ok (.aload_n 0, 1) ∧ decode cX7_skip 9 = .ok (.iconst 1, 1) ∧ decode cX7_skip 10 = .ok (.aload_n 0, 1) ∧ decode cX7_skip 11 = .ok (.getfield 22, 3) ∧ decode cX7_skip 14 = .ok (.invokevirtual 32, 3) ∧ decode cX7_skip 17 = .ok (.ireturn, 1) ∧ decode cX7_skip 18 = .ok (.aload_n 0, 1) ∧ decode cX7_skip 19 = .ok (.dup, 1) := by decide +kernel
theorem zcdX7_skip_20 : decode cX7_skip 20 = .ok (.getfield 22, 3) ∧ decode cX7_skip 23 = .ok (.iconst 1, 1) ∧ decode cX7_skip 24 = .ok (.iadd, 1) ∧ decode cX7_skip 25 = .ok (.putfield 22, 3) ∧ decode cX7_skip 28 = .ok (.iconst 1, 1) ∧ decode cX7_skip 29 = .ok (.ireturn, 1) ∧ decode cX7_isDigit 0 = .ok (.iload_n 0, 1) ∧ decode cX7_isDigit 1 = .ok (.bipush 48, 2) := by decide +kernel
theorem zcdX7_isDigit_3 : decode cX7_isDigit 3 = .ok (.if_icmp .lt 13, 3) ∧ decode cX7_isDigit 6 = .ok (.iload_n 0, 1) ∧ decode cX7_isDigit 7 = .ok (.bipush 57, 2) ∧ decode cX7_isDigit 9 = .ok (.if_icmp .gt 7, 3) ∧ decode cX7_isDigit 12 = .ok (.iconst 1, 1) ∧ decode cX7_isDigit 13 = .ok (.goto 4, 3) ∧ decode cX7_isDigit 16 = .ok (.iconst 0, 1) ∧ decode cX7_isDigit 17 = .ok (.ireturn, 1) := by decide +kernel
theorem zcdX7_number_0 : decode cX7_number 0 = .ok (.iconst 0, 1) ∧ decode cX7_number 1 = .ok (.istore_n 2, 1) ∧ decode cX7_number 2 = .ok (.iconst 0, 1) ∧ decode cX7_number 3 = .ok (.istore_n 3, 1) ∧ decode cX7_number 4 = .ok (.iload_n 3, 1) ∧ decode cX7_number 5 = .ok (.iload_n 1, 1) ∧ decode cX7_number 6 = .ok (.if_icmp .ge 42, 3) ∧ decode cX7_number 9 = .ok (.aload_n 0, 1) := by decide +kernel
theorem zcdX7_number_10 : decode cX7_number 10 = .ok (.invokevirtual 28, 3) ∧ decode cX7_number 13 = .ok (.invokestatic 36, 3) ∧ decode cX7_number 16 = .ok (.ifCond .eq 32, 3) ∧ decode cX7_number 19 = .ok (.bipush 10, 2) ∧ decode cX7_number 21 = .ok (.iload_n 2, 1) ∧ decode cX7_number 22 = .ok (.imul, 1) ∧ decode cX7_number 23 = .ok (.aload_n 0, 1) ∧ decode cX7_number 24 = .ok (.invokevirtual 28, 3) := by decide +kernel
theorem zcdX7_number_27 : decode cX7_number 27 = .ok (.iadd, 1) ∧ decode cX7_number 28 = .ok (.bipush 48, 2) ∧ decode cX7_number 30 = .ok (.isub, 1) ∧ decode cX7_number 31 = .ok (.istore_n 2, 1) ∧ decode cX7_number 32 = .ok (.aload_n 0, 1) ∧ decode cX7_number 33 = .ok (.dup, 1) ∧ decode cX7_number 34 = .ok (.getfield 22, 3) ∧ decode cX7_number 37 = .ok (.iconst 1, 1) := by decide +kernel
theorem zcdX7_number_38 : decode cX7_number 38 = .ok (.iadd, 1) ∧ decode cX7_number 39 = .ok (.putfield 22, 3) ∧ decode cX7_number 42 = .ok (.iinc 3 1, 3) ∧ decode cX7_number 45 = .ok (.goto (-41), 3) ∧ decode cX7_number 48 = .ok (.iload_n 3, 1) ∧ decode cX7_number 49 = .ok (.ifCond .ne 15, 3) ∧ decode cX7_number 52 = .ok (.aload_n 0, 1) ∧ decode cX7_number 53 = .ok (.iconst 1, 1) := by decide +kernel
theorem zcdX7_number_54 : decode cX7_number 54 = .ok (.aload_n 0, 1) ∧ decode cX7_number 55 = .ok (.getfield 22, 3) ∧ decode cX7_number 58 = .ok (.invokevirtual 32, 3) ∧ decode cX7_number 61 = .ok (.pop, 1) ∧ decode cX7_number 62 = .ok (.iconst (-1), 1) ∧ decode cX7_number 63 = .ok (.ireturn, 1) ∧ decode cX7_number 64 = .ok (.aload_n 0, 1) ∧ decode cX7_number 65 = .ok (.invokevirtual 28, 3) := by decide +kernel
theorem zcdX7_number_68 : decode cX7_number 68 = .ok (.invokestatic 36, 3) ∧ decode cX7_number 71 = .ok (.ifCond .eq 15, 3) ∧ decode cX7_number 74 = .ok (.aload_n 0, 1) ∧ decode cX7_number 75 = .ok (.iconst 2, 1) ∧ decode cX7_number 76 = .ok (.aload_n 0, 1) ∧ decode cX7_number 77 = .ok (.getfield 22, 3) ∧ decode cX7_number 80 = .ok (.invokevirtual 32, 3) ∧ decode cX7_number 83 = .ok (.pop, 1) := by decide +kernel
theorem zcdX7_number_84 : decode cX7_number 84 = .ok (.iconst (-1), 1) ∧ decode cX7_number 85 = .ok (.ireturn, 1) ∧ decode cX7_number 86 = .ok (.iload_n 2, 1) ∧ decode cX7_number 87 = .ok (.ireturn, 1) ∧ decode cX3_order 0 = .ok (.aload_n 0, 1) ∧ decode cX3_order 1 = .ok (.getfield 33, 3) ∧ decode cX3_order 4 = .ok (.ifCond .lt 43, 3) ∧ decode cX3_order 7 = .ok (.aload_n 0, 1) := by decide +kernel
theorem zcdX3_order_8 : decode cX3_order 8 = .ok (.getfield 33, 3) ∧ decode cX3_order 11 = .ok (.sipush 240, 3) ∧ decode cX3_order 14 = .ok (.if_icmp .ge 33, 3) ∧ decode cX3_order 17 = .ok (.aload_n 0, 1) ∧ decode cX3_order 18 = .ok (.getfield 9, 3) ∧ decode cX3_order 21 = .ok (.aload_n 0, 1) ∧ decode cX3_order 22 = .ok (.getfield 33, 3) ∧ decode cX3_order 25 = .ok (.iload_n 1, 1) := by decide +kernel
theorem zcdX3_order_26 : decode cX3_order 26 = .ok (.iastore, 1) ∧ decode cX3_order 27 = .ok (.aload_n 0, 1) ∧ decode cX3_order 28 = .ok (.getfield 15, 3) ∧ decode cX3_order 31 = .ok (.aload_n 0, 1) ∧ decode cX3_order 32 = .ok (.getfield 33, 3) ∧ decode cX3_order 35 = .ok (.iload_n 2, 1) ∧ decode cX3_order 36 = .ok (.iastore, 1) ∧ decode cX3_order 37 = .ok (.aload_n 0, 1) := by decide +kernel
theorem zcdX3_order_38 : decode cX3_order 38 = .ok (.dup, 1) ∧ decode cX3_order 39 = .ok (.getfield 33, 3) ∧ decode cX3_order 42 = .ok (.iconst 1, 1) ∧ decode cX3_order 43 = .ok (.iadd, 1) ∧ decode cX3_order 44 = .ok (.putfield 33, 3) ∧ decode cX3_order 47 = .ok (.return_, 1) ∧ decode cX5_indexOf 0 = .ok (.iload_n 0, 1) ∧ decode cX5_indexOf 1 = .ok (.tableswitch 117 101 121 #[107, 117, 114, 117, 99, 117, 117, 117, 117, 109, 117, 117, 117, 111, 105, 117, 117, 117, 117, 101, 103], 99) := by decide +kernel
theorem zcdX5_indexOf_100 : decode cX5_indexOf 100 = .ok (.iconst 0, 1) ∧ decode cX5_indexOf 101 = .ok (.ireturn, 1) ∧ decode cX5_indexOf 102 = .ok (.iconst 1, 1) ∧ decode cX5_indexOf 103 = .ok (.ireturn, 1) ∧ decode cX5_indexOf 104 = .ok (.iconst 2, 1) ∧ decode cX5_indexOf 105 = .ok (.ireturn, 1) ∧ decode cX5_indexOf 106 = .ok (.iconst 3, 1) ∧ decode cX5_indexOf 107 = .ok (.ireturn, 1) := by decide +kernel
theorem zcdX5_indexOf_108 : decode cX5_indexOf 108 = .ok (.iconst 4, 1) ∧ decode cX5_indexOf 109 = .ok (.ireturn, 1) ∧ decode cX5_indexOf 110 = .ok (.iconst 5, 1) ∧ decode cX5_indexOf 111 = .ok (.ireturn, 1) ∧ decode cX5_indexOf 112 = .ok (.bipush 6, 2) ∧ decode cX5_indexOf 114 = .ok (.ireturn, 1) ∧ decode cX5_indexOf 115 = .ok (.bipush 7, 2) ∧ decode cX5_indexOf 117 = .ok (.ireturn, 1) := by decide +kernel
theorem zcdX5_indexOf_118 : decode cX5_indexOf 118 = .ok (.iconst (-1), 1) ∧ decode cX5_indexOf 119 = .ok (.ireturn, 1) := by decide +kernel
set_option maxHeartbeats 4000000 in
theorem t_X2_nextDry (b : Nat) (hb : isF b) (v1 : Int32) (M : Mem) : AXp yX2_nextDry cX2_nextDry 3 (some .int) 1 60 glC (fun ad => [.ref (ad b), .int v1]) M (f_X2_nextDry b M v1) := by
  intro r0 h
  refine AM.of (by decide) (fun _ => Nat.le_of_ble_eq_true rfl) (fun X ad cI cZ cB hX hR => ?_)
  show V X M [(0, .ref (ad b)), (1, .int v1)] [] 0
  refine s_iload_n (k := 1) hX zcdX2_nextDry_0.1 rfl rfl ?_
  refine s_iconst (v := (nI 0)) hX zcdX2_nextDry_0.2.1 (by decide) ?_
  refine e_mmax hX lX2_39 mJ9_max (by omega) (Nat.le_of_ble_eq_true rfl) zcdX2_nextDry_0.2.2.1 ?_
  refine e_bnd h (fun x_1 h => ?_)
  refine s_istore_n (lv' := [(0, .ref (ad b)), (1, .int v1), (2, .int x_1)]) hX zcdX2_nextDry_0.2.2.2.1 rfl (by decide) rfl ?_
  have lp6 : ∀ (N6 : Nat) (y2_6 : Int32), wlp1 (f_X2_nextDry_B6 b M) N6 y2_6 = some r0 → V X M [(0, .ref (ad b)), (2, .int y2_6)] [] 6 := by
    intro N6
    induction N6 with
    | zero => exact fun _ h => e_none h
    | succ N6 ih6 =>
      intro y2_6 h
      replace h : f_X2_nextDry_B6 b M (wlp1 (f_X2_nextDry_B6 b M) N6) y2_6 = some r0 := h
      generalize wlp1 (f_X2_nextDry_B6 b M) N6 = ag6 at ih6 h
      refine s_iload_n (k := 1) hX zcdX2_nextDry_0.2.2.2.2.1 rfl rfl ?_
      refine s_bipush (v := (nI 40)) hX zcdX2_nextDry_0.2.2.2.2.2.1 (by decide) ?_
      refine e_icmp_ge (tgt := 28) hX zcdX2_nextDry_0.2.2.2.2.2.2.1 (by decide) (m_ge (by decide +kernel)) h (fun h => ?_) (fun h => ?_)
      · refine s_iconst (v := (-1)) hX zcdX2_nextDry_13.2.2.2.2.2.2.2 (by decide) ?_
        exact e_iretp hX hR zcdX2_nextDry_29.1 h
      · refine s_aload_n (k := 0) hX zcdX2_nextDry_0.2.2.2.2.2.2.2 rfl rfl ?_
        refine s_iload_n (k := 1) hX zcdX2_nextDry_13.1 rfl rfl ?_
        refine e_callVp hX (t_X2_isDry b hb y2_6 M) mX2_isDry lX2_45 (by decide) (by decide) (oF hb) rfl rfl rfl rfl rfl (Nat.le_of_ble_eq_true rfl) zcdX2_nextDry_13.2.1 h (fun r_2 h => ?_)
        refine e_if_eq (tgt := 22) hX zcdX2_nextDry_13.2.2.1 (by decide) z_eq h (fun h => ?_) (fun h => ?_)
        · refine s_iinc (k := 1) (v := (y2_6 + (nI 1))) (lv' := [(0, .ref (ad b)), (2, .int (y2_6 + (nI 1)))]) hX zcdX2_nextDry_13.2.2.2.2.2.1 (congrArg (fun z => y2_6 + z) (by decide)) (by decide) rfl rfl ?_
          refine s_goto (tgt := 6) hX zcdX2_nextDry_13.2.2.2.2.2.2.1 (by decide) ?_
          exact ih6 (y2_6 + (nI 1)) h
        · refine s_iload_n (k := 1) hX zcdX2_nextDry_13.2.2.2.1 rfl rfl ?_
          exact e_iretp hX hR zcdX2_nextDry_13.2.2.2.2.1 h
  refine s_loc [0, 2] rfl ?_
  exact lp6 FU x_1 h
set_option maxHeartbeats 4000000 in
theorem t_X2_stoneAt (b : Nat) (hb : isF b) (v1 : Int32) (v2 : Int32) (M : Mem) : AXp yX2_stoneAt cX2_stoneAt 4 (some .int) 0 60 glC (fun ad => [.ref (ad b), .int v1, .int v2]) M (f_X2_stoneAt b M v1 v2) := by
  intro r0 h
  refine AM.of (by decide) (fun _ => Nat.le_of_ble_eq_true rfl) (fun X ad cI cZ cB hX hR => ?_)
  show V X M [(0, .ref (ad b)), (1, .int v1), (2, .int v2)] [] 0
  refine s_iconst (v := (nI 0)) hX zcdX2_nextDry_29.2.1 (by decide) ?_
  refine s_istore_n (lv' := [(0, .ref (ad b)), (1, .int v1), (2, .int v2), (3, .int (nI 0))]) hX zcdX2_nextDry_29.2.2.1 rfl (by decide) rfl ?_
  have lp2 : ∀ (N2 : Nat) (y3_2 : Int32), wlp1 (f_X2_stoneAt_B2 b M v1 v2) N2 y3_2 = some r0 → V X M [(0, .ref (ad b)), (1, .int v1), (2, .int v2), (3, .int y3_2)] [] 2 := by
    intro N2
    induction N2 with
    | zero => exact fun _ h => e_none h
    | succ N2 ih2 =>
      intro y3_2 h
      replace h : f_X2_stoneAt_B2 b M v1 v2 (wlp1 (f_X2_stoneAt_B2 b M v1 v2) N2) y3_2 = some r0 := h
      generalize wlp1 (f_X2_stoneAt_B2 b M v1 v2) N2 = ag2 at ih2 h
      refine s_iload_n (k := 3) hX zcdX2_nextDry_29.2.2.2.1 rfl rfl ?_
      refine s_bipush (v := (nI 40)) hX zcdX2_nextDry_29.2.2.2.2.1 (by decide) ?_
      refine e_icmp_ge (tgt := 45) hX zcdX2_nextDry_29.2.2.2.2.2.1 (by decide) (m_ge (by decide +kernel)) h (fun h => ?_) (fun h => ?_)
      · refine s_iconst (v := (-1)) hX zcdX2_stoneAt_38.2.2.2.1 (by decide) ?_
        exact e_iretp hX hR zcdX2_stoneAt_38.2.2.2.2.1 h
      · refine s_aload_n (k := 0) hX zcdX2_nextDry_29.2.2.2.2.2.2.1 rfl rfl ?_
        refine s_get hX fX2_21 (oF hb) rfl zcdX2_nextDry_29.2.2.2.2.2.2.2 ?_
        refine s_iload_n (k := 3) hX zcdX2_stoneAt_12.1 rfl rfl ?_
        refine e_zald hX (aF4 hb) zcdX2_stoneAt_12.2.1 h (fun h => ?_)
        refine e_if_eq (tgt := 39) hX zcdX2_stoneAt_12.2.2.1 (by decide) z_eq h (fun h => ?_) (fun h => ?_)
        · refine s_iinc (k := 3) (v := (y3_2 + (nI 1))) (lv' := [(0, .ref (ad b)), (1, .int v1), (2, .int v2), (3, .int (y3_2 + (nI 1)))]) hX zcdX2_stoneAt_38.2.1 (congrArg (fun z => y3_2 + z) (by decide)) (by decide) rfl rfl ?_
          refine s_goto (tgt := 2) hX zcdX2_stoneAt_38.2.2.1 (by decide) ?_
          exact ih2 (y3_2 + (nI 1)) h
        · refine s_aload_n (k := 0) hX zcdX2_stoneAt_12.2.2.2.1 rfl rfl ?_
          refine s_get hX fX2_9 (oF hb) rfl zcdX2_stoneAt_12.2.2.2.2.1 ?_
          refine s_iload_n (k := 3) hX zcdX2_stoneAt_12.2.2.2.2.2.1 rfl rfl ?_
          refine e_iald hX (aF1 hb) zcdX2_stoneAt_12.2.2.2.2.2.2.1 h (fun h => ?_)
          refine s_iload_n (k := 1) hX zcdX2_stoneAt_12.2.2.2.2.2.2.2 rfl rfl ?_
          refine e_icmp_ne (tgt := 39) hX zcdX2_stoneAt_24.1 (by decide) r_eq h (fun h => ?_) (fun h => ?_)
          · refine s_iinc (k := 3) (v := (y3_2 + (nI 1))) (lv' := [(0, .ref (ad b)), (1, .int v1), (2, .int v2), (3, .int (y3_2 + (nI 1)))]) hX zcdX2_stoneAt_38.2.1 (congrArg (fun z => y3_2 + z) (by decide)) (by decide) rfl rfl ?_
            refine s_goto (tgt := 2) hX zcdX2_stoneAt_38.2.2.1 (by decide) ?_
            exact ih2 (y3_2 + (nI 1)) h
          · refine s_aload_n (k := 0) hX zcdX2_stoneAt_24.2.1 rfl rfl ?_
            refine s_get hX fX2_15 (oF hb) rfl zcdX2_stoneAt_24.2.2.1 ?_
            refine s_iload_n (k := 3) hX zcdX2_stoneAt_24.2.2.2.1 rfl rfl ?_
            refine e_iald hX (aF2 hb) zcdX2_stoneAt_24.2.2.2.2.1 h (fun h => ?_)
            refine s_iload_n (k := 2) hX zcdX2_stoneAt_24.2.2.2.2.2.1 rfl rfl ?_
            refine e_icmp_ne (tgt := 39) hX zcdX2_stoneAt_24.2.2.2.2.2.2.1 (by decide) r_eq h (fun h => ?_) (fun h => ?_)
            · refine s_iinc (k := 3) (v := (y3_2 + (nI 1))) (lv' := [(0, .ref (ad b)), (1, .int v1), (2, .int v2), (3, .int (y3_2 + (nI 1)))]) hX zcdX2_stoneAt_38.2.1 (congrArg (fun z => y3_2 + z) (by decide)) (by decide) rfl rfl ?_
              refine s_goto (tgt := 2) hX zcdX2_stoneAt_38.2.2.1 (by decide) ?_
              exact ih2 (y3_2 + (nI 1)) h
            · refine s_iload_n (k := 3) hX zcdX2_stoneAt_24.2.2.2.2.2.2.2 rfl rfl ?_
              exact e_iretp hX hR zcdX2_stoneAt_38.1 h
  exact lp2 FU (nI 0) h
set_option maxHeartbeats 4000000 in
theorem t_X2_sumOfX (b : Nat) (hb : isF b) (M : Mem) : AXp yX2_sumOfX cX2_sumOfX 3 (some .int) 0 60 glC (fun ad => [.ref (ad b)]) M (f_X2_sumOfX b M) := by
  intro r0 h
  refine AM.of (by decide) (fun _ => Nat.le_of_ble_eq_true rfl) (fun X ad cI cZ cB hX hR => ?_)
  show V X M [(0, .ref (ad b))] [] 0
  refine s_iconst (v := (nI 0)) hX zcdX2_stoneAt_38.2.2.2.2.2.1 (by decide) ?_
  refine s_istore_n (lv' := [(0, .ref (ad b)), (1, .int (nI 0))]) hX zcdX2_stoneAt_38.2.2.2.2.2.2.1 rfl (by decide) rfl ?_
  refine s_iconst (v := (nI 0)) hX zcdX2_stoneAt_38.2.2.2.2.2.2.2 (by decide) ?_
  refine s_istore_n (lv' := [(0, .ref (ad b)), (1, .int (nI 0)), (2, .int (nI 0))]) hX zcdX2_sumOfX_3.1 rfl (by decide) rfl ?_
  have lp4 : ∀ (N4 : Nat) (y1_4 : Int32) (y2_4 : Int32), wlp2 (f_X2_sumOfX_B4 b M) N4 y1_4 y2_4 = some r0 → V X M [(0, .ref (ad b)), (1, .int y1_4), (2, .int y2_4)] [] 4 := by
    intro N4
    induction N4 with
    | zero => exact fun _ _ h => e_none h
    | succ N4 ih4 =>
      intro y1_4 y2_4 h
      replace h : f_X2_sumOfX_B4 b M (wlp2 (f_X2_sumOfX_B4 b M) N4) y1_4 y2_4 = some r0 := h
      generalize wlp2 (f_X2_sumOfX_B4 b M) N4 = ag4 at ih4 h
      refine s_iload_n (k := 2) hX zcdX2_sumOfX_3.2.1 rfl rfl ?_
      refine s_bipush (v := (nI 40)) hX zcdX2_sumOfX_3.2.2.1 (by decide) ?_
      refine e_icmp_ge (tgt := 38) hX zcdX2_sumOfX_3.2.2.2.1 (by decide) (m_ge (by decide +kernel)) h (fun h => ?_) (fun h => ?_)
      · refine s_iload_n (k := 1) hX zcdX2_sumOfX_30.2.2.2.2.1 rfl rfl ?_
        exact e_iretp hX hR zcdX2_sumOfX_30.2.2.2.2.2.1 h
      · refine s_iload_n (k := 1) hX zcdX2_sumOfX_3.2.2.2.2.1 rfl rfl ?_
        refine s_aload_n (k := 0) hX zcdX2_sumOfX_3.2.2.2.2.2.1 rfl rfl ?_
        refine s_get hX fX2_21 (oF hb) rfl zcdX2_sumOfX_3.2.2.2.2.2.2.1 ?_
        refine s_iload_n (k := 2) hX zcdX2_sumOfX_3.2.2.2.2.2.2.2 rfl rfl ?_
        refine e_zald hX (aF4 hb) zcdX2_sumOfX_16.1 h (fun h => ?_)
        refine e_if_eq (tgt := 29) hX zcdX2_sumOfX_16.2.1 (by decide) z_eq h (fun h => ?_) (fun h => ?_)
        · refine s_iconst (v := (nI 0)) hX zcdX2_sumOfX_16.2.2.2.2.2.2.2 (by decide) ?_
          refine s_iadd hX zcdX2_sumOfX_30.1 ?_
          refine s_istore_n (lv' := [(0, .ref (ad b)), (2, .int y2_4), (1, .int (y1_4 + (nI 0)))]) hX zcdX2_sumOfX_30.2.1 rfl (by decide) rfl ?_
          refine s_iinc (k := 1) (v := (y2_4 + (nI 1))) (lv' := [(0, .ref (ad b)), (1, .int (y1_4 + (nI 0))), (2, .int (y2_4 + (nI 1)))]) hX zcdX2_sumOfX_30.2.2.1 (congrArg (fun z => y2_4 + z) (by decide)) (by decide) rfl rfl ?_
          refine s_goto (tgt := 4) hX zcdX2_sumOfX_30.2.2.2.1 (by decide) ?_
          exact ih4 (y1_4 + (nI 0)) (y2_4 + (nI 1)) h
        · refine s_aload_n (k := 0) hX zcdX2_sumOfX_16.2.2.1 rfl rfl ?_
          refine s_get hX fX2_9 (oF hb) rfl zcdX2_sumOfX_16.2.2.2.1 ?_
          refine s_iload_n (k := 2) hX zcdX2_sumOfX_16.2.2.2.2.1 rfl rfl ?_
          refine e_iald hX (aF1 hb) zcdX2_sumOfX_16.2.2.2.2.2.1 h (fun h => ?_)
          refine s_goto (tgt := 30) hX zcdX2_sumOfX_16.2.2.2.2.2.2.1 (by decide) ?_
          refine s_iadd hX zcdX2_sumOfX_30.1 ?_
          refine e_bnd h (fun x_1 h => ?_)
          refine s_istore_n (lv' := [(0, .ref (ad b)), (2, .int y2_4), (1, .int x_1)]) hX zcdX2_sumOfX_30.2.1 rfl (by decide) rfl ?_
          refine s_iinc (k := 1) (v := (y2_4 + (nI 1))) (lv' := [(0, .ref (ad b)), (1, .int x_1), (2, .int (y2_4 + (nI 1)))]) hX zcdX2_sumOfX_30.2.2.1 (congrArg (fun z => y2_4 + z) (by decide)) (by decide) rfl rfl ?_
          refine s_goto (tgt := 4) hX zcdX2_sumOfX_30.2.2.2.1 (by decide) ?_
          exact ih4 x_1 (y2_4 + (nI 1)) h
  exact lp4 FU (nI 0) (nI 0) h
set_option maxHeartbeats 4000000 in
theorem t_X3_combine (v0 : Int32) (v1 : Int32) (v2 : Int32) (M : Mem) : AXp yX3_combine cX3_combine 3 (some .int) 0 60 glC (fun ad => [.int v0, .int v1, .int v2]) M (f_X3_combine v0 v1 v2) := by
  intro r0 h
  refine AM.of (by decide) (fun _ => Nat.le_of_ble_eq_true rfl) (fun X ad cI cZ cB hX hR => ?_)
  show V X M [(0, .int v0), (1, .int v1), (2, .int v2)] [] 0
  refine s_iload_n (k := 0) hX zcdX2_sumOfX_30.2.2.2.2.2.2.1 rfl rfl ?_
  refine e_if h (fun c37 h => ?_) (fun c37 h => ?_)
  · refine s_lookup (tgt := 92) (off := 91) hX zcdX2_sumOfX_30.2.2.2.2.2.2.2 (by decide) (by rw [c37]; decide) (by decide) ?_
    refine s_iload_n (k := 2) hX zcdX3_combine_88.2.2.2.2.1 rfl rfl ?_
    refine e_if_ne (tgt := 100) hX zcdX3_combine_88.2.2.2.2.2.1 (by decide) z_eq h (fun h => ?_) (fun h => ?_)
    · refine s_iload_n (k := 1) hX zcdX3_combine_100.1 rfl rfl ?_
      refine s_iload_n (k := 2) hX zcdX3_combine_100.2.1 rfl rfl ?_
      refine e_irem hX zcdX3_combine_100.2.2.1 h (fun h => ?_)
      exact e_iretp hX hR zcdX3_combine_100.2.2.2.1 h
    · refine s_iconst (v := (nI 0)) hX zcdX3_combine_88.2.2.2.2.2.2.1 (by decide) ?_
      refine s_goto (tgt := 103) hX zcdX3_combine_88.2.2.2.2.2.2.2 (by decide) ?_
      exact e_iretp hX hR zcdX3_combine_100.2.2.2.1 h
  refine e_if h (fun c42 h => ?_) (fun c42 h => ?_)
  · refine s_lookup (tgt := 76) (off := 75) hX zcdX2_sumOfX_30.2.2.2.2.2.2.2 (by decide) (by rw [c42]; decide) (by decide) ?_
    refine s_iload_n (k := 1) hX zcdX3_combine_76.1 rfl rfl ?_
    refine s_iload_n (k := 2) hX zcdX3_combine_76.2.1 rfl rfl ?_
    refine s_imul hX zcdX3_combine_76.2.2.1 ?_
    exact e_iretp hX hR zcdX3_combine_76.2.2.2.1 h
  refine e_if h (fun c43 h => ?_) (fun c43 h => ?_)
  · refine s_lookup (tgt := 68) (off := 67) hX zcdX2_sumOfX_30.2.2.2.2.2.2.2 (by decide) (by rw [c43]; decide) (by decide) ?_
    refine s_iload_n (k := 1) hX zcdX3_combine_68.1 rfl rfl ?_
    refine s_iload_n (k := 2) hX zcdX3_combine_68.2.1 rfl rfl ?_
    refine s_iadd hX zcdX3_combine_68.2.2.1 ?_
    exact e_iretp hX hR zcdX3_combine_68.2.2.2.1 h
  refine e_if h (fun c45 h => ?_) (fun c45 h => ?_)
  · refine s_lookup (tgt := 72) (off := 71) hX zcdX2_sumOfX_30.2.2.2.2.2.2.2 (by decide) (by rw [c45]; decide) (by decide) ?_
    refine s_iload_n (k := 1) hX zcdX3_combine_68.2.2.2.2.1 rfl rfl ?_
    refine s_iload_n (k := 2) hX zcdX3_combine_68.2.2.2.2.2.1 rfl rfl ?_
    refine s_isub hX zcdX3_combine_68.2.2.2.2.2.2.1 ?_
    exact e_iretp hX hR zcdX3_combine_68.2.2.2.2.2.2.2 h
  refine e_if h (fun c47 h => ?_) (fun c47 h => ?_)
  · refine s_lookup (tgt := 80) (off := 79) hX zcdX2_sumOfX_30.2.2.2.2.2.2.2 (by decide) (by rw [c47]; decide) (by decide) ?_
    refine s_iload_n (k := 2) hX zcdX3_combine_76.2.2.2.2.1 rfl rfl ?_
    refine e_if_ne (tgt := 88) hX zcdX3_combine_76.2.2.2.2.2.1 (by decide) z_eq h (fun h => ?_) (fun h => ?_)
    · refine s_iload_n (k := 1) hX zcdX3_combine_88.1 rfl rfl ?_
      refine s_iload_n (k := 2) hX zcdX3_combine_88.2.1 rfl rfl ?_
      refine e_idiv hX zcdX3_combine_88.2.2.1 h (fun h => ?_)
      exact e_iretp hX hR zcdX3_combine_88.2.2.2.1 h
    · refine s_iconst (v := (nI 0)) hX zcdX3_combine_76.2.2.2.2.2.2.1 (by decide) ?_
      refine s_goto (tgt := 91) hX zcdX3_combine_76.2.2.2.2.2.2.2 (by decide) ?_
      exact e_iretp hX hR zcdX3_combine_88.2.2.2.1 h
  refine e_if h (fun c60 h => ?_) (fun c60 h => ?_)
  · refine s_lookup (tgt := 104) (off := 103) hX zcdX2_sumOfX_30.2.2.2.2.2.2.2 (by decide) (by rw [c60]; decide) (by decide) ?_
    refine s_iload_n (k := 1) hX zcdX3_combine_100.2.2.2.2.1 rfl rfl ?_
    refine s_iload_n (k := 2) hX zcdX3_combine_100.2.2.2.2.2.1 rfl rfl ?_
    refine e_icmp_ge (tgt := 113) hX zcdX3_combine_100.2.2.2.2.2.2.1 (by decide) r_le h (fun h => ?_) (fun h => ?_)
    · refine s_iconst (v := (nI 0)) hX zcdX3_combine_110.2.1 (by decide) ?_
      exact e_iretp hX hR zcdX3_combine_110.2.2.1 h
    · refine s_iconst (v := (nI 1)) hX zcdX3_combine_100.2.2.2.2.2.2.2 (by decide) ?_
      refine s_goto (tgt := 114) hX zcdX3_combine_110.1 (by decide) ?_
      exact e_iretp hX hR zcdX3_combine_110.2.2.1 h
  refine e_if h (fun c62 h => ?_) (fun c62 h => ?_)
  · refine s_lookup (tgt := 115) (off := 114) hX zcdX2_sumOfX_30.2.2.2.2.2.2.2 (by decide) (by rw [c62]; decide) (by decide) ?_
    refine s_iload_n (k := 1) hX zcdX3_combine_110.2.2.2.1 rfl rfl ?_
    refine s_iload_n (k := 2) hX zcdX3_combine_110.2.2.2.2.1 rfl rfl ?_
    refine e_icmp_le (tgt := 124) hX zcdX3_combine_110.2.2.2.2.2.1 (by decide) r_le h (fun h => ?_) (fun h => ?_)
    · refine s_iconst (v := (nI 0)) hX zcdX3_combine_124.1 (by decide) ?_
      exact e_iretp hX hR zcdX3_combine_124.2.1 h
    · refine s_iconst (v := (nI 1)) hX zcdX3_combine_110.2.2.2.2.2.2.1 (by decide) ?_
      refine s_goto (tgt := 125) hX zcdX3_combine_110.2.2.2.2.2.2.2 (by decide) ?_
      exact e_iretp hX hR zcdX3_combine_124.2.1 h
  refine s_lookup (tgt := 126) (off := 125) hX zcdX2_sumOfX_30.2.2.2.2.2.2.2 (by decide) (by show Op.lookupswitch.offset [(37, 91), (42, 75), (43, 67), (45, 71), (47, 79), (60, 103), (62, 114)] 125 v0.toInt = 125; rw [lv_oswI c37, lv_oswI c42, lv_oswI c43, lv_oswI c45, lv_oswI c47, lv_oswI c60, lv_oswI c62]; rfl) (by decide) ?_
  refine s_iload_n (k := 1) hX zcdX3_combine_124.2.2.1 rfl rfl ?_
  refine s_iload_n (k := 2) hX zcdX3_combine_124.2.2.2.1 rfl rfl ?_
  refine e_icmp_ne (tgt := 135) hX zcdX3_combine_124.2.2.2.2.1 (by decide) r_eq h (fun h => ?_) (fun h => ?_)
  · refine s_iconst (v := (nI 0)) hX zcdX3_combine_124.2.2.2.2.2.2.2 (by decide) ?_
    exact e_iretp hX hR zcdX3_combine_136.1 h
  · refine s_iconst (v := (nI 1)) hX zcdX3_combine_124.2.2.2.2.2.1 (by decide) ?_
    refine s_goto (tgt := 136) hX zcdX3_combine_124.2.2.2.2.2.2.1 (by decide) ?_
    exact e_iretp hX hR zcdX3_combine_136.1 h
set_option maxHeartbeats 4000000 in
theorem t_X3_reckon (c : Nat) (hc : isL c) (v1 : Int32) (v2 : Int32) (M : Mem) : AXi yX3_reckon cX3_reckon 9 (some .int) 1 60 glC (fun ad => [.ref (ad c), .int v1, .int v2, .ref (ad 22)]) M (f_X3_reckon c M v1 v2) := by
  intro r0 h
  refine AM.of (by decide) (fun _ => Nat.le_of_ble_eq_true rfl) (fun X ad cI cZ cB hX hR => ?_)
  show V X M [(0, .ref (ad c)), (1, .int v1), (2, .int v2), (3, .ref (ad 22))] [] 0
  refine s_iconst (v := (-1)) hX zcdX3_combine_136.2.1 (by decide) ?_
  refine s_istore (lv' := [(0, .ref (ad c)), (1, .int v1), (2, .int v2), (3, .ref (ad 22)), (4, .int (-1))]) hX zcdX3_combine_136.2.2.1 (by decide) rfl ?_
  refine s_iload_n (k := 1) hX zcdX3_combine_136.2.2.2.1 rfl rfl ?_
  refine s_istore (lv' := [(0, .ref (ad c)), (1, .int v1), (2, .int v2), (3, .ref (ad 22)), (4, .int (-1)), (5, .int v1)]) hX zcdX3_combine_136.2.2.2.2.1 (by decide) rfl ?_
  refine s_iconst (v := (nI 0)) hX zcdX3_combine_136.2.2.2.2.2.1 (by decide) ?_
  refine s_istore (lv' := [(0, .ref (ad c)), (1, .int v1), (2, .int v2), (3, .ref (ad 22)), (4, .int (-1)), (5, .int v1), (6, .int (nI 0))]) hX zcdX3_combine_136.2.2.2.2.2.2.1 (by decide) rfl ?_
  have lp9 : ∀ (N9 : Nat) (M9 : Mem) (y4_9 : Int32) (y5_9 : Int32) (y6_9 : Int32), wlp4 (f_X3_reckon_B9 c v2) N9 M9 y4_9 y5_9 y6_9 = some r0 → V X M9 [(0, .ref (ad c)), (2, .int v2), (3, .ref (ad 22)), (4, .int y4_9), (5, .int y5_9), (6, .int y6_9)] [] 9 := by
    intro N9
    induction N9 with
    | zero => exact fun _ _ _ _ h => e_none h
    | succ N9 ih9 =>
      intro M9 y4_9 y5_9 y6_9 h
      replace h : f_X3_reckon_B9 c v2 (wlp4 (f_X3_reckon_B9 c v2) N9) M9 y4_9 y5_9 y6_9 = some r0 := h
      generalize wlp4 (f_X3_reckon_B9 c v2) N9 = ag9 at ih9 h
      refine s_iload (k := 5) hX zcdX3_combine_136.2.2.2.2.2.2.2 rfl ?_
      refine s_sipush (v := (nI 240)) hX zcdX3_reckon_11.1 (by decide) ?_
      have j298 : f_X3_reckon_L298 c M9 y4_9 = some r0 → V X M9 [(0, .ref (ad c)), (4, .int y4_9)] [] 298 := by
        intro  h
        refine s_iload (k := 1) hX zcdX3_reckon_288.2.2.2.2.1 rfl ?_
        refine e_if_ge (tgt := 307) hX zcdX3_reckon_288.2.2.2.2.2.1 (by decide) z_ge h (fun h => ?_) (fun h => ?_)
        · refine s_aload_n (k := 0) hX zcdX3_reckon_307.1 rfl rfl ?_
          refine s_get hX fX3_18 (oL hc) rfl zcdX3_reckon_307.2.1 ?_
          refine s_iload (k := 1) hX zcdX3_reckon_307.2.2.1 rfl ?_
          refine e_iald hX (aL3 hc) zcdX3_reckon_307.2.2.2.1 h (fun h => ?_)
          exact e_ireti hX hR zcdX3_reckon_307.2.2.2.2.1 h
        · refine s_iconst (v := (nI 0)) hX zcdX3_reckon_288.2.2.2.2.2.2.1 (by decide) ?_
          refine s_goto (tgt := 314) hX zcdX3_reckon_288.2.2.2.2.2.2.2 (by decide) ?_
          exact e_ireti hX hR zcdX3_reckon_307.2.2.2.2.1 h
      refine e_icmp_ge (tgt := 298) hX zcdX3_reckon_11.2.1 (by decide) (m_ge (by decide +kernel)) h (fun h => ?_) (fun h => ?_)
      · refine s_loc [0, 3] rfl ?_
        exact j298 h
      · refine s_iload (k := 4) hX zcdX3_reckon_11.2.2.1 rfl ?_
        refine e_if_lt (tgt := 298) hX zcdX3_reckon_11.2.2.2.1 (by decide) z_lt h (fun h => ?_) (fun h => ?_)
        · refine s_loc [0, 3] rfl ?_
          exact j298 h
        · refine s_iload (k := 4) hX zcdX3_reckon_11.2.2.2.2.1 rfl ?_
          refine s_iload_n (k := 1) hX zcdX3_reckon_11.2.2.2.2.2.1 rfl rfl ?_
          refine e_icmp_ge (tgt := 298) hX zcdX3_reckon_11.2.2.2.2.2.2.1 (by decide) r_le h (fun h => ?_) (fun h => ?_)
          · refine s_loc [0, 3] rfl ?_
            exact j298 h
          · refine s_iload (k := 4) hX zcdX3_reckon_11.2.2.2.2.2.2.2 rfl ?_
            refine s_aload_n (k := 0) hX zcdX3_reckon_30.1 rfl rfl ?_
            refine s_get hX fX3_33 (oL hc) rfl zcdX3_reckon_30.2.1 ?_
            refine e_icmp_ge (tgt := 298) hX zcdX3_reckon_30.2.2.1 (by decide) r_le h (fun h => ?_) (fun h => ?_)
            · refine s_loc [0, 3] rfl ?_
              exact j298 h
            · refine s_iload (k := 4) hX zcdX3_reckon_30.2.2.2.1 rfl ?_
              refine s_sipush (v := (nI 240)) hX zcdX3_reckon_30.2.2.2.2.1 (by decide) ?_
              refine e_icmp_ge (tgt := 298) hX zcdX3_reckon_30.2.2.2.2.2.1 (by decide) (m_ge (by decide +kernel)) h (fun h => ?_) (fun h => ?_)
              · refine s_loc [0, 3] rfl ?_
                exact j298 h
              · refine s_aload_n (k := 0) hX zcdX3_reckon_30.2.2.2.2.2.2.1 rfl rfl ?_
                refine s_get hX fX3_9 (oL hc) rfl zcdX3_reckon_30.2.2.2.2.2.2.2 ?_
                refine s_iload (k := 4) hX zcdX3_reckon_49.1 rfl ?_
                refine e_iald hX (aL1 hc) zcdX3_reckon_49.2.1 h (fun h => ?_)
                refine e_bnd h (fun x_1 h => ?_)
                refine s_istore (lv' := [(0, .ref (ad c)), (2, .int v2), (3, .ref (ad 22)), (4, .int y4_9), (5, .int y5_9), (6, .int y6_9), (7, .int x_1)]) hX zcdX3_reckon_49.2.2.1 (by decide) rfl ?_
                refine s_aload_n (k := 0) hX zcdX3_reckon_49.2.2.2.1 rfl rfl ?_
                refine s_get hX fX3_15 (oL hc) rfl zcdX3_reckon_49.2.2.2.2.1 ?_
                refine s_iload (k := 4) hX zcdX3_reckon_49.2.2.2.2.2.1 rfl ?_
                refine e_iald hX (aL2 hc) zcdX3_reckon_49.2.2.2.2.2.2.1 h (fun h => ?_)
                refine e_bnd h (fun x_2 h => ?_)
                refine s_istore (lv' := [(0, .ref (ad c)), (2, .int v2), (3, .ref (ad 22)), (4, .int y4_9), (5, .int y5_9), (6, .int y6_9), (7, .int x_1), (8, .int x_2)]) hX zcdX3_reckon_49.2.2.2.2.2.2.2 (by decide) rfl ?_
                refine s_iinc (k := 4) (v := (y5_9 + (nI 1))) (lv' := [(0, .ref (ad c)), (2, .int v2), (3, .ref (ad 22)), (4, .int y4_9), (6, .int y6_9), (7, .int x_1), (8, .int x_2), (5, .int (y5_9 + (nI 1)))]) hX zcdX3_reckon_63.1 (congrArg (fun z => y5_9 + z) (by decide)) (by decide) rfl rfl ?_
                refine s_iload (k := 5) hX zcdX3_reckon_63.2.1 rfl ?_
                refine s_bipush (v := (nI 48)) hX zcdX3_reckon_63.2.2.1 (by decide) ?_
                have j80 : f_X3_reckon_L80 c ag9 M9 y4_9 y5_9 y6_9 x_1 x_2 = some r0 → V X M9 [(0, .ref (ad c)), (2, .int v2), (3, .ref (ad 22)), (4, .int y4_9), (5, .int (y5_9 + (nI 1))), (6, .int y6_9), (7, .int x_1), (8, .int x_2)] [] 80 := by
                  intro  h
                  refine s_iload (k := 3) hX zcdX3_reckon_63.2.2.2.2.2.2.2 rfl ?_
                  refine s_iconst (v := (nI 1)) hX zcdX3_reckon_82.1 (by decide) ?_
                  refine s_iadd hX zcdX3_reckon_82.2.1 ?_
                  refine s_bipush (v := (nI 32)) hX zcdX3_reckon_82.2.2.1 (by decide) ?_
                  refine e_icmp_ge (tgt := 108) hX zcdX3_reckon_82.2.2.2.1 (by decide) (m_ge (by decide +kernel)) h (fun h => ?_) (fun h => ?_)
                  · refine s_iconst (v := (nI 0)) hX zcdX3_reckon_98.2.2.2.2.2.1 (by decide) ?_
                    exact e_ireti hX hR zcdX3_reckon_98.2.2.2.2.2.2.1 h
                  · refine s_iload (k := 6) hX zcdX3_reckon_82.2.2.2.2.1 rfl ?_
                    refine s_bipush (v := (nI 97)) hX zcdX3_reckon_82.2.2.2.2.2.1 (by decide) ?_
                    have j110 : f_X3_reckon_L110 c ag9 M9 y4_9 y5_9 y6_9 x_1 x_2 = some r0 → V X M9 [(0, .ref (ad c)), (2, .int v2), (3, .ref (ad 22)), (4, .int y4_9), (5, .int (y5_9 + (nI 1))), (6, .int y6_9), (7, .int x_1), (8, .int x_2)] [] 110 := by
                      intro  h
                      refine s_iinc (k := 3) (v := (y4_9 + (nI 1))) (lv' := [(0, .ref (ad c)), (2, .int v2), (3, .ref (ad 22)), (5, .int (y5_9 + (nI 1))), (6, .int y6_9), (7, .int x_1), (8, .int x_2), (4, .int (y4_9 + (nI 1)))]) hX zcdX3_reckon_98.2.2.2.2.2.2.2 (congrArg (fun z => y4_9 + z) (by decide)) (by decide) rfl rfl ?_
                      refine s_aload_n (k := 0) hX zcdX3_reckon_113.1 rfl rfl ?_
                      refine s_get hX fX3_18 (oL hc) rfl zcdX3_reckon_113.2.1 ?_
                      refine s_iload (k := 7) hX zcdX3_reckon_113.2.2.1 rfl ?_
                      refine s_iload (k := 5) hX zcdX3_reckon_113.2.2.2.1 rfl ?_
                      refine s_bipush (v := (nI 48)) hX zcdX3_reckon_113.2.2.2.2.1 (by decide) ?_
                      have j135 : ∀ (t0_135 : Int32), f_X3_reckon_L135 c ag9 M9 y4_9 y5_9 y6_9 t0_135 = some r0 → V X M9 [(0, .ref (ad c)), (2, .int v2), (3, .ref (ad 22)), (4, .int (y4_9 + (nI 1))), (5, .int (y5_9 + (nI 1))), (6, .int y6_9)] [.int t0_135, .int (y4_9 + (nI 1)), .ref (ad (c + 3))] 135 := by
                        intro t0_135 h
                        refine e_iast hX (aL3 hc) zcdX3_reckon_131.2.2.2.1 h (fun h => ?_)
                        refine e_bndM h (fun M_3 h => ?_)
                        refine s_goto (tgt := 292) hX zcdX3_reckon_131.2.2.2.2.1 (by decide) ?_
                        refine s_iinc (k := 5) (v := (y6_9 + (nI 1))) (lv' := [(0, .ref (ad c)), (2, .int v2), (3, .ref (ad 22)), (4, .int (y4_9 + (nI 1))), (5, .int (y5_9 + (nI 1))), (6, .int (y6_9 + (nI 1)))]) hX zcdX3_reckon_288.2.2.1 (congrArg (fun z => y6_9 + z) (by decide)) (by decide) rfl rfl ?_
                        refine s_goto (tgt := 9) hX zcdX3_reckon_288.2.2.2.1 (by decide) ?_
                        exact ih9 M_3 (y4_9 + (nI 1)) (y5_9 + (nI 1)) (y6_9 + (nI 1)) h
                      refine e_icmp_ne (tgt := 131) hX zcdX3_reckon_113.2.2.2.2.2.1 (by decide) (m_eq (by decide +kernel)) h (fun h => ?_) (fun h => ?_)
                      · refine s_aload_n (k := 2) hX zcdX3_reckon_131.1 rfl rfl ?_
                        refine s_iload (k := 6) hX zcdX3_reckon_131.2.1 rfl ?_
                        refine e_iald hX aC22 zcdX3_reckon_131.2.2.1 h (fun h => ?_)
                        refine s_loc [0, 1, 2, 7, 3, 4] rfl ?_
                        exact j135 (M9 22 (ix x_2)) h
                      · refine s_iload (k := 6) hX zcdX3_reckon_113.2.2.2.2.2.2.1 rfl ?_
                        refine s_goto (tgt := 135) hX zcdX3_reckon_113.2.2.2.2.2.2.2 (by decide) ?_
                        refine s_loc [0, 1, 2, 7, 3, 4] rfl ?_
                        exact j135 x_2 h
                    refine e_icmp_ne (tgt := 110) hX zcdX3_reckon_82.2.2.2.2.2.2.1 (by decide) (m_eq (by decide +kernel)) h (fun h => ?_) (fun h => ?_)
                    · exact j110 h
                    · refine s_iload (k := 7) hX zcdX3_reckon_82.2.2.2.2.2.2.2 rfl ?_
                      refine e_if_lt (tgt := 108) hX zcdX3_reckon_98.1 (by decide) z_lt h (fun h => ?_) (fun h => ?_)
                      · refine s_iconst (v := (nI 0)) hX zcdX3_reckon_98.2.2.2.2.2.1 (by decide) ?_
                        exact e_ireti hX hR zcdX3_reckon_98.2.2.2.2.2.2.1 h
                      · refine s_iload (k := 7) hX zcdX3_reckon_98.2.1 rfl ?_
                        refine s_aload_n (k := 2) hX zcdX3_reckon_98.2.2.1 rfl rfl ?_
                        refine s_alen (v := nI 8) hX aC22 rfl zcdX3_reckon_98.2.2.2.1 ?_
                        refine e_icmp_lt (tgt := 110) hX zcdX3_reckon_98.2.2.2.2.1 (by decide) (m_lt (by decide +kernel)) h (fun h => ?_) (fun h => ?_)
                        · exact j110 h
                        · refine s_iconst (v := (nI 0)) hX zcdX3_reckon_98.2.2.2.2.2.1 (by decide) ?_
                          exact e_ireti hX hR zcdX3_reckon_98.2.2.2.2.2.2.1 h
                refine e_icmp_eq (tgt := 80) hX zcdX3_reckon_63.2.2.2.1 (by decide) (m_eq (by decide +kernel)) h (fun h => ?_) (fun h => ?_)
                · refine s_loc [0, 1, 2, 3, 7, 4, 5, 6] rfl ?_
                  exact j80 h
                · refine s_iload (k := 5) hX zcdX3_reckon_63.2.2.2.2.1 rfl ?_
                  refine s_bipush (v := (nI 97)) hX zcdX3_reckon_63.2.2.2.2.2.1 (by decide) ?_
                  refine e_icmp_ne (tgt := 139) hX zcdX3_reckon_63.2.2.2.2.2.2.1 (by decide) (m_eq (by decide +kernel)) h (fun h => ?_) (fun h => ?_)
                  · refine s_iload (k := 3) hX zcdX3_reckon_131.2.2.2.2.2.1 rfl ?_
                    refine e_if_ge (tgt := 146) hX zcdX3_reckon_131.2.2.2.2.2.2.1 (by decide) z_ge h (fun h => ?_) (fun h => ?_)
                    · refine s_iload (k := 5) hX zcdX3_reckon_145.2.1 rfl ?_
                      refine s_bipush (v := (nI 33)) hX zcdX3_reckon_145.2.2.1 (by decide) ?_
                      refine e_icmp_ne (tgt := 172) hX zcdX3_reckon_145.2.2.2.1 (by decide) (m_eq (by decide +kernel)) h (fun h => ?_) (fun h => ?_)
                      · refine s_iload (k := 5) hX zcdX3_reckon_160.2.2.2.2.2.2.2 rfl ?_
                        refine s_bipush (v := (nI 38)) hX zcdX3_reckon_174.1 (by decide) ?_
                        have j186 : f_X3_reckon_L186 c ag9 M9 y4_9 y5_9 y6_9 x_1 x_2 = some r0 → V X M9 [(0, .ref (ad c)), (2, .int v2), (3, .ref (ad 22)), (4, .int y4_9), (5, .int (y5_9 + (nI 1))), (6, .int y6_9), (7, .int x_1), (8, .int x_2)] [] 186 := by
                          intro  h
                          refine s_aload_n (k := 0) hX zcdX3_reckon_174.2.2.2.2.2.1 rfl rfl ?_
                          refine s_get hX fX3_18 (oL hc) rfl zcdX3_reckon_174.2.2.2.2.2.2.1 ?_
                          refine s_iload (k := 3) hX zcdX3_reckon_174.2.2.2.2.2.2.2 rfl ?_
                          refine e_iald hX (aL3 hc) zcdX3_reckon_192.1 h (fun h => ?_)
                          have j201 : ∀ (t0_201 : Int32), f_X3_reckon_L201 ag9 M9 y4_9 y5_9 y6_9 x_1 x_2 t0_201 = some r0 → V X M9 [(0, .ref (ad c)), (2, .int v2), (3, .ref (ad 22)), (4, .int y4_9), (5, .int (y5_9 + (nI 1))), (6, .int y6_9), (7, .int x_1), (8, .int x_2)] [.int t0_201] 201 := by
                            intro t0_201 h
                            refine s_iload (k := 6) hX zcdX3_reckon_192.2.2.2.2.2.1 rfl ?_
                            refine s_bipush (v := (nI 38)) hX zcdX3_reckon_192.2.2.2.2.2.2.1 (by decide) ?_
                            have j213 : ∀ (t0_213 : Int32), f_X3_reckon_L213 ag9 M9 y4_9 y5_9 y6_9 x_2 t0_201 t0_213 = some r0 → V X M9 [(0, .ref (ad c)), (2, .int v2), (3, .ref (ad 22)), (4, .int y4_9), (5, .int (y5_9 + (nI 1))), (6, .int y6_9), (8, .int x_2)] [.int t0_213, .int t0_201] 213 := by
                              intro t0_213 h
                              refine e_icmp_ne (tgt := 223) hX zcdX3_reckon_208.2.2.2.1 (by decide) r_eq h (fun h => ?_) (fun h => ?_)
                              · refine s_iinc (k := 3) (v := (y4_9 + (-1))) (lv' := [(0, .ref (ad c)), (2, .int v2), (3, .ref (ad 22)), (5, .int (y5_9 + (nI 1))), (6, .int y6_9), (8, .int x_2), (4, .int (y4_9 + (-1)))]) hX zcdX3_reckon_208.2.2.2.2.2.2.2 (congrArg (fun z => y4_9 + z) (by decide)) (by decide) rfl rfl ?_
                                refine s_goto (tgt := 292) hX zcdX3_reckon_226.1 (by decide) ?_
                                refine s_iinc (k := 4) (v := (y6_9 + (nI 1))) (lv' := [(0, .ref (ad c)), (2, .int v2), (3, .ref (ad 22)), (5, .int (y5_9 + (nI 1))), (8, .int x_2), (4, .int (y4_9 + (-1))), (6, .int (y6_9 + (nI 1)))]) hX zcdX3_reckon_288.2.2.1 (congrArg (fun z => y6_9 + z) (by decide)) (by decide) rfl rfl ?_
                                refine s_goto (tgt := 9) hX zcdX3_reckon_288.2.2.2.1 (by decide) ?_
                                refine s_loc [0, 1, 2, 5, 3, 6] rfl ?_
                                exact ih9 M9 (y4_9 + (-1)) (y5_9 + (nI 1)) (y6_9 + (nI 1)) h
                              · refine s_iload (k := 6) hX zcdX3_reckon_208.2.2.2.2.1 rfl ?_
                                refine s_istore (lv' := [(0, .ref (ad c)), (2, .int v2), (3, .ref (ad 22)), (4, .int y4_9), (6, .int y6_9), (8, .int x_2), (5, .int x_2)]) hX zcdX3_reckon_208.2.2.2.2.2.1 (by decide) rfl ?_
                                refine s_goto (tgt := 292) hX zcdX3_reckon_208.2.2.2.2.2.2.1 (by decide) ?_
                                refine s_iinc (k := 4) (v := (y6_9 + (nI 1))) (lv' := [(0, .ref (ad c)), (2, .int v2), (3, .ref (ad 22)), (4, .int y4_9), (8, .int x_2), (5, .int x_2), (6, .int (y6_9 + (nI 1)))]) hX zcdX3_reckon_288.2.2.1 (congrArg (fun z => y6_9 + z) (by decide)) (by decide) rfl rfl ?_
                                refine s_goto (tgt := 9) hX zcdX3_reckon_288.2.2.2.1 (by decide) ?_
                                refine s_loc [0, 1, 2, 3, 5, 6] rfl ?_
                                exact ih9 M9 y4_9 x_2 (y6_9 + (nI 1)) h
                            refine e_icmp_ne (tgt := 212) hX zcdX3_reckon_192.2.2.2.2.2.2.2 (by decide) (m_eq (by decide +kernel)) h (fun h => ?_) (fun h => ?_)
                            · refine s_iconst (v := (nI 0)) hX zcdX3_reckon_208.2.2.1 (by decide) ?_
                              refine s_loc [0, 1, 2, 3, 4, 5, 7] rfl ?_
                              exact j213 (nI 0) h
                            · refine s_iconst (v := (nI 1)) hX zcdX3_reckon_208.1 (by decide) ?_
                              refine s_goto (tgt := 213) hX zcdX3_reckon_208.2.1 (by decide) ?_
                              refine s_loc [0, 1, 2, 3, 4, 5, 7] rfl ?_
                              exact j213 (nI 1) h
                          refine e_if_ne (tgt := 200) hX zcdX3_reckon_192.2.1 (by decide) z_eq h (fun h => ?_) (fun h => ?_)
                          · refine s_iconst (v := (nI 0)) hX zcdX3_reckon_192.2.2.2.2.1 (by decide) ?_
                            exact j201 (nI 0) h
                          · refine s_iconst (v := (nI 1)) hX zcdX3_reckon_192.2.2.1 (by decide) ?_
                            refine s_goto (tgt := 201) hX zcdX3_reckon_192.2.2.2.1 (by decide) ?_
                            exact j201 (nI 1) h
                        refine e_icmp_eq (tgt := 186) hX zcdX3_reckon_174.2.1 (by decide) (m_eq (by decide +kernel)) h (fun h => ?_) (fun h => ?_)
                        · refine s_loc [0, 1, 2, 3, 7, 4, 5, 6] rfl ?_
                          exact j186 h
                        · refine s_iload (k := 5) hX zcdX3_reckon_174.2.2.1 rfl ?_
                          refine s_bipush (v := (nI 124)) hX zcdX3_reckon_174.2.2.2.1 (by decide) ?_
                          refine e_icmp_ne (tgt := 229) hX zcdX3_reckon_174.2.2.2.2.1 (by decide) (m_eq (by decide +kernel)) h (fun h => ?_) (fun h => ?_)
                          · refine s_iload (k := 3) hX zcdX3_reckon_226.2.1 rfl ?_
                            refine s_iconst (v := (nI 1)) hX zcdX3_reckon_226.2.2.1 (by decide) ?_
                            refine e_icmp_lt (tgt := 259) hX zcdX3_reckon_226.2.2.2.1 (by decide) (m_lt (by decide +kernel)) h (fun h => ?_) (fun h => ?_)
                            · refine s_iconst (v := (nI 0)) hX zcdX3_reckon_244.2.2.2.2.2.2.2 (by decide) ?_
                              exact e_ireti hX hR zcdX3_reckon_260.1 h
                            · refine s_iload (k := 5) hX zcdX3_reckon_226.2.2.2.2.1 rfl ?_
                              refine s_bipush (v := (nI 47)) hX zcdX3_reckon_226.2.2.2.2.2.1 (by decide) ?_
                              have j261 : f_X3_reckon_L261 c ag9 M9 y4_9 y5_9 y6_9 x_1 = some r0 → V X M9 [(0, .ref (ad c)), (2, .int v2), (3, .ref (ad 22)), (4, .int y4_9), (5, .int (y5_9 + (nI 1))), (6, .int y6_9), (7, .int x_1)] [] 261 := by
                                intro  h
                                refine s_iinc (k := 3) (v := (y4_9 + (-1))) (lv' := [(0, .ref (ad c)), (2, .int v2), (3, .ref (ad 22)), (5, .int (y5_9 + (nI 1))), (6, .int y6_9), (7, .int x_1), (4, .int (y4_9 + (-1)))]) hX zcdX3_reckon_260.2.1 (congrArg (fun z => y4_9 + z) (by decide)) (by decide) rfl rfl ?_
                                refine s_aload_n (k := 0) hX zcdX3_reckon_260.2.2.1 rfl rfl ?_
                                refine s_get hX fX3_18 (oL hc) rfl zcdX3_reckon_260.2.2.2.1 ?_
                                refine s_iload (k := 6) hX zcdX3_reckon_260.2.2.2.2.1 rfl ?_
                                refine s_iload (k := 5) hX zcdX3_reckon_260.2.2.2.2.2.1 rfl ?_
                                refine s_aload_n (k := 0) hX zcdX3_reckon_260.2.2.2.2.2.2.1 rfl rfl ?_
                                refine s_get hX fX3_18 (oL hc) rfl zcdX3_reckon_260.2.2.2.2.2.2.2 ?_
                                refine s_iload (k := 6) hX zcdX3_reckon_276.1 rfl ?_
                                refine e_iald hX (aL3 hc) zcdX3_reckon_276.2.1 h (fun h => ?_)
                                refine s_aload_n (k := 0) hX zcdX3_reckon_276.2.2.1 rfl rfl ?_
                                refine s_get hX fX3_18 (oL hc) rfl zcdX3_reckon_276.2.2.2.1 ?_
                                refine s_iload (k := 6) hX zcdX3_reckon_276.2.2.2.2.1 rfl ?_
                                refine s_iconst (v := (nI 1)) hX zcdX3_reckon_276.2.2.2.2.2.1 (by decide) ?_
                                refine s_iadd hX zcdX3_reckon_276.2.2.2.2.2.2.1 ?_
                                refine e_iald hX (aL3 hc) zcdX3_reckon_276.2.2.2.2.2.2.2 h (fun h => ?_)
                                refine e_callSp hX (t_X3_combine x_1 (M9 (c + 3) (ix (y4_9 + (-1)))) (M9 (c + 3) (ix ((y4_9 + (-1)) + (nI 1)))) M9) mX3_combine lX3_117 (by decide) (by decide) rfl rfl (Nat.le_of_ble_eq_true rfl) zcdX3_reckon_288.1 h (fun r_4 h => ?_)
                                refine e_iast hX (aL3 hc) zcdX3_reckon_288.2.1 h (fun h => ?_)
                                refine e_bndM h (fun M_5 h => ?_)
                                refine s_iinc (k := 4) (v := (y6_9 + (nI 1))) (lv' := [(0, .ref (ad c)), (2, .int v2), (3, .ref (ad 22)), (5, .int (y5_9 + (nI 1))), (7, .int x_1), (4, .int (y4_9 + (-1))), (6, .int (y6_9 + (nI 1)))]) hX zcdX3_reckon_288.2.2.1 (congrArg (fun z => y6_9 + z) (by decide)) (by decide) rfl rfl ?_
                                refine s_goto (tgt := 9) hX zcdX3_reckon_288.2.2.2.1 (by decide) ?_
                                refine s_loc [0, 1, 2, 5, 3, 6] rfl ?_
                                exact ih9 M_5 (y4_9 + (-1)) (y5_9 + (nI 1)) (y6_9 + (nI 1)) h
                              have j249 : f_X3_reckon_L249 c ag9 M9 y4_9 y5_9 y6_9 x_1 = some r0 → V X M9 [(0, .ref (ad c)), (2, .int v2), (3, .ref (ad 22)), (4, .int y4_9), (5, .int (y5_9 + (nI 1))), (6, .int y6_9), (7, .int x_1)] [] 249 := by
                                intro  h
                                refine s_aload_n (k := 0) hX zcdX3_reckon_244.2.2.1 rfl rfl ?_
                                refine s_get hX fX3_18 (oL hc) rfl zcdX3_reckon_244.2.2.2.1 ?_
                                refine s_iload (k := 3) hX zcdX3_reckon_244.2.2.2.2.1 rfl ?_
                                refine e_iald hX (aL3 hc) zcdX3_reckon_244.2.2.2.2.2.1 h (fun h => ?_)
                                refine e_if_ne (tgt := 261) hX zcdX3_reckon_244.2.2.2.2.2.2.1 (by decide) z_eq h (fun h => ?_) (fun h => ?_)
                                · exact j261 h
                                · refine s_iconst (v := (nI 0)) hX zcdX3_reckon_244.2.2.2.2.2.2.2 (by decide) ?_
                                  exact e_ireti hX hR zcdX3_reckon_260.1 h
                              refine e_icmp_eq (tgt := 249) hX zcdX3_reckon_226.2.2.2.2.2.2.1 (by decide) (m_eq (by decide +kernel)) h (fun h => ?_) (fun h => ?_)
                              · refine s_loc [0, 1, 2, 3, 7, 4, 5] rfl ?_
                                exact j249 h
                              · refine s_iload (k := 5) hX zcdX3_reckon_226.2.2.2.2.2.2.2 rfl ?_
                                refine s_bipush (v := (nI 37)) hX zcdX3_reckon_244.1 (by decide) ?_
                                refine e_icmp_ne (tgt := 261) hX zcdX3_reckon_244.2.1 (by decide) (m_eq (by decide +kernel)) h (fun h => ?_) (fun h => ?_)
                                · refine s_loc [0, 1, 2, 3, 7, 4, 5] rfl ?_
                                  exact j261 h
                                · refine s_loc [0, 1, 2, 3, 7, 4, 5] rfl ?_
                                  exact j249 h
                          · refine s_loc [0, 1, 2, 3, 7, 4, 5, 6] rfl ?_
                            exact j186 h
                      · refine s_aload_n (k := 0) hX zcdX3_reckon_145.2.2.2.2.1 rfl rfl ?_
                        refine s_get hX fX3_18 (oL hc) rfl zcdX3_reckon_145.2.2.2.2.2.1 ?_
                        refine s_iload (k := 3) hX zcdX3_reckon_145.2.2.2.2.2.2.1 rfl ?_
                        refine s_iconst (v := (nI 1)) hX zcdX3_reckon_145.2.2.2.2.2.2.2 (by decide) ?_
                        refine s_aload_n (k := 0) hX zcdX3_reckon_160.1 rfl rfl ?_
                        refine s_get hX fX3_18 (oL hc) rfl zcdX3_reckon_160.2.1 ?_
                        refine s_iload (k := 3) hX zcdX3_reckon_160.2.2.1 rfl ?_
                        refine e_iald hX (aL3 hc) zcdX3_reckon_160.2.2.2.1 h (fun h => ?_)
                        refine s_isub hX zcdX3_reckon_160.2.2.2.2.1 ?_
                        refine e_iast hX (aL3 hc) zcdX3_reckon_160.2.2.2.2.2.1 h (fun h => ?_)
                        refine e_bndM h (fun M_6 h => ?_)
                        refine s_goto (tgt := 292) hX zcdX3_reckon_160.2.2.2.2.2.2.1 (by decide) ?_
                        refine s_iinc (k := 4) (v := (y6_9 + (nI 1))) (lv' := [(0, .ref (ad c)), (2, .int v2), (3, .ref (ad 22)), (4, .int y4_9), (7, .int x_1), (8, .int x_2), (5, .int (y5_9 + (nI 1))), (6, .int (y6_9 + (nI 1)))]) hX zcdX3_reckon_288.2.2.1 (congrArg (fun z => y6_9 + z) (by decide)) (by decide) rfl rfl ?_
                        refine s_goto (tgt := 9) hX zcdX3_reckon_288.2.2.2.1 (by decide) ?_
                        refine s_loc [0, 1, 2, 3, 6, 7] rfl ?_
                        exact ih9 M_6 y4_9 (y5_9 + (nI 1)) (y6_9 + (nI 1)) h
                    · refine s_iconst (v := (nI 0)) hX zcdX3_reckon_131.2.2.2.2.2.2.2 (by decide) ?_
                      exact e_ireti hX hR zcdX3_reckon_145.1 h
                  · refine s_loc [0, 1, 2, 3, 7, 4, 5, 6] rfl ?_
                    exact j80 h
  refine s_loc [0, 2, 3, 4, 5, 6] rfl ?_
  exact lp9 FU M (-1) v1 (nI 0) h
set_option maxHeartbeats 4000000 in
theorem t_X3_doesHold (c : Nat) (hc : isL c) (v1 : Int32) (M : Mem) : AXi yX3_doesHold cX3_doesHold 3 (some .boolean) 2 60 glC (fun ad => [.ref (ad c), .int v1, .ref (ad 22)]) M (f_X3_doesHold c M v1) := by
  intro r0 h
  refine AM.of (by decide) (fun _ => Nat.le_of_ble_eq_true rfl) (fun X ad cI cZ cB hX hR => ?_)
  show V X M [(0, .ref (ad c)), (1, .int v1), (2, .ref (ad 22))] [] 0
  refine s_iload_n (k := 1) hX zcdX3_reckon_307.2.2.2.2.2.1 rfl rfl ?_
  refine e_if_lt (tgt := 34) hX zcdX3_reckon_307.2.2.2.2.2.2.1 (by decide) z_lt h (fun h => ?_) (fun h => ?_)
  · refine s_iconst (v := (nI 0)) hX zcdX3_doesHold_34.1 (by decide) ?_
    exact e_zretiL hX hR zcdX3_doesHold_34.2.1 (by decide) h
  · refine s_iload_n (k := 1) hX zcdX3_reckon_307.2.2.2.2.2.2.2 rfl rfl ?_
    refine s_bipush (v := (nI 16)) hX zcdX3_doesHold_5.1 (by decide) ?_
    refine e_icmp_ge (tgt := 34) hX zcdX3_doesHold_5.2.1 (by decide) (m_ge (by decide +kernel)) h (fun h => ?_) (fun h => ?_)
    · refine s_iconst (v := (nI 0)) hX zcdX3_doesHold_34.1 (by decide) ?_
      exact e_zretiL hX hR zcdX3_doesHold_34.2.1 (by decide) h
    · refine s_aload_n (k := 0) hX zcdX3_doesHold_5.2.2.1 rfl rfl ?_
      refine s_aload_n (k := 0) hX zcdX3_doesHold_5.2.2.2.1 rfl rfl ?_
      refine s_get hX fX3_27 (oL hc) rfl zcdX3_doesHold_5.2.2.2.2.1 ?_
      refine s_iload_n (k := 1) hX zcdX3_doesHold_5.2.2.2.2.2.1 rfl rfl ?_
      refine e_iald hX (aL6 hc) zcdX3_doesHold_5.2.2.2.2.2.2.1 h (fun h => ?_)
      refine s_aload_n (k := 0) hX zcdX3_doesHold_5.2.2.2.2.2.2.2 rfl rfl ?_
      refine s_get hX fX3_30 (oL hc) rfl zcdX3_doesHold_18.1 ?_
      refine s_iload_n (k := 1) hX zcdX3_doesHold_18.2.1 rfl rfl ?_
      refine e_iald hX (aL7 hc) zcdX3_doesHold_18.2.2.1 h (fun h => ?_)
      refine s_aload_n (k := 2) hX zcdX3_doesHold_18.2.2.2.1 rfl rfl ?_
      refine e_callVi hX (t_X3_reckon c hc (M (c + 6) (ix v1)) (M (c + 7) (ix v1)) M) mX3_reckon lX3_104 (by decide) (by decide) (oL hc) rfl rfl rfl rfl rfl (Nat.le_of_ble_eq_true rfl) zcdX3_doesHold_18.2.2.2.2.1 h (fun r_1 M_2 h => ?_)
      refine e_if_eq (tgt := 34) hX zcdX3_doesHold_18.2.2.2.2.2.1 (by decide) z_eq h (fun h => ?_) (fun h => ?_)
      · refine s_iconst (v := (nI 0)) hX zcdX3_doesHold_34.1 (by decide) ?_
        exact e_zretiL hX hR zcdX3_doesHold_34.2.1 (by decide) h
      · refine s_iconst (v := (nI 1)) hX zcdX3_doesHold_18.2.2.2.2.2.2.1 (by decide) ?_
        refine s_goto (tgt := 35) hX zcdX3_doesHold_18.2.2.2.2.2.2.2 (by decide) ?_
        exact e_zretiL hX hR zcdX3_doesHold_34.2.1 (by decide) h
set_option maxHeartbeats 4000000 in
theorem t_X3_amountOf (c : Nat) (hc : isL c) (v1 : Int32) (M : Mem) : AXi yX3_amountOf cX3_amountOf 5 (some .int) 3 60 glC (fun ad => [.ref (ad c), .int v1, .ref (ad 22)]) M (f_X3_amountOf c M v1) := by
  intro r0 h
  refine AM.of (by decide) (fun _ => Nat.le_of_ble_eq_true rfl) (fun X ad cI cZ cB hX hR => ?_)
  show V X M [(0, .ref (ad c)), (1, .int v1), (2, .ref (ad 22))] [] 0
  refine s_iconst (v := (nI 0)) hX zcdX3_doesHold_34.2.2.1 (by decide) ?_
  refine s_istore_n (lv' := [(0, .ref (ad c)), (1, .int v1), (2, .ref (ad 22)), (3, .int (nI 0))]) hX zcdX3_doesHold_34.2.2.2.1 rfl (by decide) rfl ?_
  have lp2 : ∀ (N2 : Nat) (M2 : Mem) (y3_2 : Int32), wlp2 (f_X3_amountOf_B2 c v1) N2 M2 y3_2 = some r0 → V X M2 [(0, .ref (ad c)), (1, .int v1), (2, .ref (ad 22)), (3, .int y3_2)] [] 2 := by
    intro N2
    induction N2 with
    | zero => exact fun _ _ h => e_none h
    | succ N2 ih2 =>
      intro M2 y3_2 h
      replace h : f_X3_amountOf_B2 c v1 (wlp2 (f_X3_amountOf_B2 c v1) N2) M2 y3_2 = some r0 := h
      generalize wlp2 (f_X3_amountOf_B2 c v1) N2 = ag2 at ih2 h
      refine s_iload_n (k := 3) hX zcdX3_doesHold_34.2.2.2.2.1 rfl rfl ?_
      refine s_aload_n (k := 0) hX zcdX3_doesHold_34.2.2.2.2.2.1 rfl rfl ?_
      refine s_get hX fX3_37 (oL hc) rfl zcdX3_doesHold_34.2.2.2.2.2.2.1 ?_
      refine e_icmp_ge (tgt := 72) hX zcdX3_doesHold_34.2.2.2.2.2.2.2 (by decide) r_le h (fun h => ?_) (fun h => ?_)
      · refine s_iconst (v := (nI 0)) hX zcdX3_amountOf_66.2.2.1 (by decide) ?_
        exact e_ireti hX hR zcdX3_amountOf_66.2.2.2.1 h
      · refine s_iload_n (k := 3) hX zcdX3_amountOf_10.1 rfl rfl ?_
        refine s_bipush (v := (nI 16)) hX zcdX3_amountOf_10.2.1 (by decide) ?_
        refine e_icmp_ge (tgt := 72) hX zcdX3_amountOf_10.2.2.1 (by decide) (m_ge (by decide +kernel)) h (fun h => ?_) (fun h => ?_)
        · refine s_iconst (v := (nI 0)) hX zcdX3_amountOf_66.2.2.1 (by decide) ?_
          exact e_ireti hX hR zcdX3_amountOf_66.2.2.2.1 h
        · refine s_aload_n (k := 0) hX zcdX3_amountOf_10.2.2.2.1 rfl rfl ?_
          refine s_get hX fX3_21 (oL hc) rfl zcdX3_amountOf_10.2.2.2.2.1 ?_
          refine s_iload_n (k := 3) hX zcdX3_amountOf_10.2.2.2.2.2.1 rfl rfl ?_
          refine e_iald hX (aL4 hc) zcdX3_amountOf_10.2.2.2.2.2.2.1 h (fun h => ?_)
          refine s_iload_n (k := 1) hX zcdX3_amountOf_10.2.2.2.2.2.2.2 rfl rfl ?_
          refine e_icmp_ne (tgt := 66) hX zcdX3_amountOf_23.1 (by decide) r_eq h (fun h => ?_) (fun h => ?_)
          · refine s_iinc (k := 3) (v := (y3_2 + (nI 1))) (lv' := [(0, .ref (ad c)), (1, .int v1), (2, .ref (ad 22)), (3, .int (y3_2 + (nI 1)))]) hX zcdX3_amountOf_66.1 (congrArg (fun z => y3_2 + z) (by decide)) (by decide) rfl rfl ?_
            refine s_goto (tgt := 2) hX zcdX3_amountOf_66.2.1 (by decide) ?_
            exact ih2 M2 (y3_2 + (nI 1)) h
          · refine s_aload_n (k := 0) hX zcdX3_amountOf_23.2.1 rfl rfl ?_
            refine s_iload_n (k := 3) hX zcdX3_amountOf_23.2.2.1 rfl rfl ?_
            refine s_aload_n (k := 2) hX zcdX3_amountOf_23.2.2.2.1 rfl rfl ?_
            refine e_callVi hX (t_X3_doesHold c hc y3_2 M2) mX3_doesHold lX3_100 (by decide) (by decide) (oL hc) rfl rfl rfl rfl rfl (Nat.le_of_ble_eq_true rfl) zcdX3_amountOf_23.2.2.2.2.1 h (fun r_1 M_2 h => ?_)
            have j35 : f_X3_amountOf_L35 c y3_2 M_2 = some r0 → V X M_2 [(0, .ref (ad c)), (2, .ref (ad 22)), (3, .int y3_2)] [] 35 := by
              intro  h
              refine s_aload_n (k := 0) hX zcdX3_amountOf_23.2.2.2.2.2.2.1 rfl rfl ?_
              refine s_aload_n (k := 0) hX zcdX3_amountOf_23.2.2.2.2.2.2.2 rfl rfl ?_
              refine s_get hX fX3_24 (oL hc) rfl zcdX3_amountOf_37.1 ?_
              refine s_iload_n (k := 2) hX zcdX3_amountOf_37.2.1 rfl rfl ?_
              refine e_iald hX (aL5 hc) zcdX3_amountOf_37.2.2.1 h (fun h => ?_)
              refine s_aload_n (k := 0) hX zcdX3_amountOf_37.2.2.2.1 rfl rfl ?_
              refine s_get hX fX3_27 (oL hc) rfl zcdX3_amountOf_37.2.2.2.2.1 ?_
              refine s_iload_n (k := 2) hX zcdX3_amountOf_37.2.2.2.2.2.1 rfl rfl ?_
              refine e_iald hX (aL6 hc) zcdX3_amountOf_37.2.2.2.2.2.2.1 h (fun h => ?_)
              refine s_aload_n (k := 1) hX zcdX3_amountOf_37.2.2.2.2.2.2.2 rfl rfl ?_
              refine e_callVi hX (t_X3_reckon c hc (M_2 (c + 5) (ix y3_2)) (M_2 (c + 6) (ix y3_2)) M_2) mX3_reckon lX3_104 (by decide) (by decide) (oL hc) rfl rfl rfl rfl rfl (Nat.le_of_ble_eq_true rfl) zcdX3_amountOf_49.1 h (fun r_3 M_4 h => ?_)
              refine s_istore (lv' := [(0, .ref (ad c)), (2, .ref (ad 22)), (3, .int y3_2), (4, .int r_3)]) hX zcdX3_amountOf_49.2.1 (by decide) rfl ?_
              refine s_iconst (v := (nI 0)) hX zcdX3_amountOf_49.2.2.1 (by decide) ?_
              refine s_bipush (v := (nI 9)) hX zcdX3_amountOf_49.2.2.2.1 (by decide) ?_
              refine s_iload (k := 3) hX zcdX3_amountOf_49.2.2.2.2.1 rfl ?_
              refine e_mmin hX lX3_108 mJ9_min (by omega) (Nat.le_of_ble_eq_true rfl) zcdX3_amountOf_49.2.2.2.2.2.1 ?_
              refine e_mmax hX lX3_114 mJ9_max (by omega) (Nat.le_of_ble_eq_true rfl) zcdX3_amountOf_49.2.2.2.2.2.2.1 ?_
              exact e_ireti hX hR zcdX3_amountOf_49.2.2.2.2.2.2.2 h
            refine e_if_eq (tgt := 66) hX zcdX3_amountOf_23.2.2.2.2.2.1 (by decide) z_eq h (fun h => ?_) (fun h => ?_)
            · refine s_iinc (k := 3) (v := (y3_2 + (nI 1))) (lv' := [(0, .ref (ad c)), (1, .int v1), (2, .ref (ad 22)), (3, .int (y3_2 + (nI 1)))]) hX zcdX3_amountOf_66.1 (congrArg (fun z => y3_2 + z) (by decide)) (by decide) rfl rfl ?_
              refine s_goto (tgt := 2) hX zcdX3_amountOf_66.2.1 (by decide) ?_
              exact ih2 M_2 (y3_2 + (nI 1)) h
            · refine s_loc [0, 2, 3] rfl ?_
              exact j35 h
  exact lp2 FU M (nI 0) h
set_option maxHeartbeats 4000000 in
theorem t_X7_here (M : Mem) : AXp yX7_here cX7_here 1 (some .int) 0 60 glC (fun ad => [.ref (ad 19)]) M (f_X7_here M) := by
  intro r0 h
  refine AM.of (by decide) (fun _ => Nat.le_of_ble_eq_true rfl) (fun X ad cI cZ cB hX hR => ?_)
  show V X M [(0, .ref (ad 19))] [] 0
  refine s_aload_n (k := 0) hX zcdX3_amountOf_66.2.2.2.2.1 rfl rfl ?_
  refine s_get hX fX7_22 oC19 rfl zcdX3_amountOf_66.2.2.2.2.2.1 ?_
  refine e_if_lt (tgt := 40) hX zcdX3_amountOf_66.2.2.2.2.2.2.1 (by decide) z_lt h (fun h => ?_) (fun h => ?_)
  · refine s_iconst (v := (-1)) hX zcdX7_here_28.2.2.2.2.2.2.1 (by decide) ?_
    exact e_iretp hX hR zcdX7_here_28.2.2.2.2.2.2.2 h
  · refine s_aload_n (k := 0) hX zcdX3_amountOf_66.2.2.2.2.2.2.2 rfl rfl ?_
    refine s_get hX fX7_22 oC19 rfl zcdX7_here_8.1 ?_
    refine s_aload_n (k := 0) hX zcdX7_here_8.2.1 rfl rfl ?_
    refine s_get hX fX7_19 oC19 rfl zcdX7_here_8.2.2.1 ?_
    refine e_icmp_ge (tgt := 40) hX zcdX7_here_8.2.2.2.1 (by decide) r_le h (fun h => ?_) (fun h => ?_)
    · refine s_iconst (v := (-1)) hX zcdX7_here_28.2.2.2.2.2.2.1 (by decide) ?_
      exact e_iretp hX hR zcdX7_here_28.2.2.2.2.2.2.2 h
    · refine s_aload_n (k := 0) hX zcdX7_here_8.2.2.2.2.1 rfl rfl ?_
      refine s_get hX fX7_22 oC19 rfl zcdX7_here_8.2.2.2.2.2.1 ?_
      refine s_sipush (v := (nI 260)) hX zcdX7_here_8.2.2.2.2.2.2.1 (by decide) ?_
      refine e_icmp_ge (tgt := 40) hX zcdX7_here_8.2.2.2.2.2.2.2 (by decide) (m_ge (by decide +kernel)) h (fun h => ?_) (fun h => ?_)
      · refine s_iconst (v := (-1)) hX zcdX7_here_28.2.2.2.2.2.2.1 (by decide) ?_
        exact e_iretp hX hR zcdX7_here_28.2.2.2.2.2.2.2 h
      · refine s_aload_n (k := 0) hX zcdX7_here_28.1 rfl rfl ?_
        refine s_get hX fX7_9 oC19 rfl zcdX7_here_28.2.1 ?_
        refine s_aload_n (k := 0) hX zcdX7_here_28.2.2.1 rfl rfl ?_
        refine s_get hX fX7_22 oC19 rfl zcdX7_here_28.2.2.2.1 ?_
        refine e_iald hX aC20 zcdX7_here_28.2.2.2.2.1 h (fun h => ?_)
        refine s_goto (tgt := 41) hX zcdX7_here_28.2.2.2.2.2.1 (by decide) ?_
        exact e_iretp hX hR zcdX7_here_28.2.2.2.2.2.2.2 h
set_option maxHeartbeats 4000000 in
theorem t_X3_isRuleLetter (v0 : Int32) (M : Mem) : AXp yX3_isRuleLetter cX3_isRuleLetter 1 (some .boolean) 0 60 glC (fun ad => [.int v0]) M (f_X3_isRuleLetter v0) := by
  intro r0 h
  refine AM.of (by decide) (fun _ => Nat.le_of_ble_eq_true rfl) (fun X ad cI cZ cB hX hR => ?_)
  show V X M [(0, .int v0)] [] 0
  refine s_iload_n (k := 0) hX zcdX3_isRuleLetter_0.1 rfl rfl ?_
  refine s_bipush (v := (nI 117)) hX zcdX3_isRuleLetter_0.2.1 (by decide) ?_
  refine e_icmp_eq (tgt := 30) hX zcdX3_isRuleLetter_0.2.2.1 (by decide) (m_eq (by decide +kernel)) h (fun h => ?_) (fun h => ?_)
  · refine s_iconst (v := (nI 1)) hX zcdX3_isRuleLetter_15.2.2.2.2.2.2.2 (by decide) ?_
    refine s_goto (tgt := 35) hX zcdX3_isRuleLetter_31.1 (by decide) ?_
    exact e_zretpL hX hR zcdX3_isRuleLetter_31.2.2.1 (by decide) h
  · refine s_iload_n (k := 0) hX zcdX3_isRuleLetter_0.2.2.2.1 rfl rfl ?_
    refine s_bipush (v := (nI 100)) hX zcdX3_isRuleLetter_0.2.2.2.2.1 (by decide) ?_
    refine e_icmp_eq (tgt := 30) hX zcdX3_isRuleLetter_0.2.2.2.2.2.1 (by decide) (m_eq (by decide +kernel)) h (fun h => ?_) (fun h => ?_)
    · refine s_iconst (v := (nI 1)) hX zcdX3_isRuleLetter_15.2.2.2.2.2.2.2 (by decide) ?_
      refine s_goto (tgt := 35) hX zcdX3_isRuleLetter_31.1 (by decide) ?_
      exact e_zretpL hX hR zcdX3_isRuleLetter_31.2.2.1 (by decide) h
    · refine s_iload_n (k := 0) hX zcdX3_isRuleLetter_0.2.2.2.2.2.2.1 rfl rfl ?_
      refine s_bipush (v := (nI 111)) hX zcdX3_isRuleLetter_0.2.2.2.2.2.2.2 (by decide) ?_
      refine e_icmp_eq (tgt := 30) hX zcdX3_isRuleLetter_15.1 (by decide) (m_eq (by decide +kernel)) h (fun h => ?_) (fun h => ?_)
      · refine s_iconst (v := (nI 1)) hX zcdX3_isRuleLetter_15.2.2.2.2.2.2.2 (by decide) ?_
        refine s_goto (tgt := 35) hX zcdX3_isRuleLetter_31.1 (by decide) ?_
        exact e_zretpL hX hR zcdX3_isRuleLetter_31.2.2.1 (by decide) h
      · refine s_iload_n (k := 0) hX zcdX3_isRuleLetter_15.2.1 rfl rfl ?_
        refine s_bipush (v := (nI 98)) hX zcdX3_isRuleLetter_15.2.2.1 (by decide) ?_
        refine e_icmp_eq (tgt := 30) hX zcdX3_isRuleLetter_15.2.2.2.1 (by decide) (m_eq (by decide +kernel)) h (fun h => ?_) (fun h => ?_)
        · refine s_iconst (v := (nI 1)) hX zcdX3_isRuleLetter_15.2.2.2.2.2.2.2 (by decide) ?_
          refine s_goto (tgt := 35) hX zcdX3_isRuleLetter_31.1 (by decide) ?_
          exact e_zretpL hX hR zcdX3_isRuleLetter_31.2.2.1 (by decide) h
        · refine s_iload_n (k := 0) hX zcdX3_isRuleLetter_15.2.2.2.2.1 rfl rfl ?_
          refine s_bipush (v := (nI 120)) hX zcdX3_isRuleLetter_15.2.2.2.2.2.1 (by decide) ?_
          refine e_icmp_ne (tgt := 34) hX zcdX3_isRuleLetter_15.2.2.2.2.2.2.1 (by decide) (m_eq (by decide +kernel)) h (fun h => ?_) (fun h => ?_)
          · refine s_iconst (v := (nI 0)) hX zcdX3_isRuleLetter_31.2.1 (by decide) ?_
            exact e_zretpL hX hR zcdX3_isRuleLetter_31.2.2.1 (by decide) h
          · refine s_iconst (v := (nI 1)) hX zcdX3_isRuleLetter_15.2.2.2.2.2.2.2 (by decide) ?_
            refine s_goto (tgt := 35) hX zcdX3_isRuleLetter_31.1 (by decide) ?_
            exact e_zretpL hX hR zcdX3_isRuleLetter_31.2.2.1 (by decide) h
set_option maxHeartbeats 4000000 in
theorem t_X7_refuse (v1 : Int32) (v2 : Int32) (M : Mem) : AXi yX7_refuse cX7_refuse 3 (some .boolean) 0 60 glC (fun ad => [.ref (ad 19), .int v1, .int v2]) M (f_X7_refuse M v1 v2) := by
  intro r0 h
  refine AM.of (by decide) (fun _ => Nat.le_of_ble_eq_true rfl) (fun X ad cI cZ cB hX hR => ?_)
  show V X M [(0, .ref (ad 19)), (1, .int v1), (2, .int v2)] [] 0
  refine s_aload_n (k := 0) hX zcdX3_isRuleLetter_31.2.2.2.1 rfl rfl ?_
  refine s_sipush (v := (-1000)) hX zcdX3_isRuleLetter_31.2.2.2.2.1 (by decide) ?_
  refine s_iload_n (k := 1) hX zcdX3_isRuleLetter_31.2.2.2.2.2.1 rfl rfl ?_
  refine s_imul hX zcdX3_isRuleLetter_31.2.2.2.2.2.2.1 ?_
  refine s_iload_n (k := 2) hX zcdX3_isRuleLetter_31.2.2.2.2.2.2.2 rfl rfl ?_
  refine s_isub hX zcdX7_refuse_7.1 ?_
  refine s_puti (ty := .int) hX fX7_25 oC19 rfl (Nat.le_of_ble_eq_true rfl) ty_7_4 rfl rfl zcdX7_refuse_7.2.1 ?_
  refine e_bndM h (fun M_1 h => ?_)
  refine s_iconst (v := (nI 0)) hX zcdX7_refuse_7.2.2.1 (by decide) ?_
  exact e_zretiL hX hR zcdX7_refuse_7.2.2.2.1 (by decide) h
set_option maxHeartbeats 4000000 in
theorem t_X7_skip (v1 : Int32) (M : Mem) : AXi yX7_skip cX7_skip 2 (some .boolean) 1 60 glC (fun ad => [.ref (ad 19), .int v1]) M (f_X7_skip M v1) := by
  intro r0 h
  refine AM.of (by decide) (fun _ => Nat.le_of_ble_eq_true rfl) (fun X ad cI cZ cB hX hR => ?_)
  show V X M [(0, .ref (ad 19)), (1, .int v1)] [] 0
  refine s_aload_n (k := 0) hX zcdX7_refuse_7.2.2.2.2.1 rfl rfl ?_
  refine e_callVp hX (t_X7_here M) mX7_here lX7_28 (by decide) (by decide) oC19 rfl rfl rfl rfl rfl (Nat.le_of_ble_eq_true rfl) zcdX7_refuse_7.2.2.2.2.2.1 h (fun r_1 h => ?_)
  refine s_iload_n (k := 1) hX zcdX7_refuse_7.2.2.2.2.2.2.1 rfl rfl ?_
  refine e_icmp_eq (tgt := 18) hX zcdX7_refuse_7.2.2.2.2.2.2.2 (by decide) r_eq h (fun h => ?_) (fun h => ?_)
  · refine s_aload_n (k := 0) hX zcdX7_skip_8.2.2.2.2.2.2.1 rfl rfl ?_
    refine s_dup hX zcdX7_skip_8.2.2.2.2.2.2.2 rfl ?_
    refine s_get hX fX7_22 oC19 rfl zcdX7_skip_20.1 ?_
    refine s_iconst (v := (nI 1)) hX zcdX7_skip_20.2.1 (by decide) ?_
    refine s_iadd hX zcdX7_skip_20.2.2.1 ?_
    refine s_puti (ty := .int) hX fX7_22 oC19 rfl (Nat.le_of_ble_eq_true rfl) ty_7_3 rfl rfl zcdX7_skip_20.2.2.2.1 ?_
    refine e_bndM h (fun M_2 h => ?_)
    refine s_iconst (v := (nI 1)) hX zcdX7_skip_20.2.2.2.2.1 (by decide) ?_
    exact e_zretiL hX hR zcdX7_skip_20.2.2.2.2.2.1 (by decide) h
  · refine s_aload_n (k := 0) hX zcdX7_skip_8.1 rfl rfl ?_
    refine s_iconst (v := (nI 1)) hX zcdX7_skip_8.2.1 (by decide) ?_
    refine s_aload_n (k := 0) hX zcdX7_skip_8.2.2.1 rfl rfl ?_
    refine s_get hX fX7_22 oC19 rfl zcdX7_skip_8.2.2.2.1 ?_
    refine e_callVi hX (t_X7_refuse (nI 1) (M 19 3) M) mX7_refuse lX7_32 (by decide) (by decide) oC19 rfl rfl rfl rfl rfl (Nat.le_of_ble_eq_true rfl) zcdX7_skip_8.2.2.2.2.1 h (fun r_3 M_4 h => ?_)
    exact e_zreti hX hR zcdX7_skip_8.2.2.2.2.2.1 h
set_option maxHeartbeats 4000000 in
theorem t_X7_isDigit (v0 : Int32) (M : Mem) : AXp yX7_isDigit cX7_isDigit 1 (some .boolean) 0 60 glC (fun ad => [.int v0]) M (f_X7_isDigit v0) := by
  intro r0 h
  refine AM.of (by decide) (fun _ => Nat.le_of_ble_eq_true rfl) (fun X ad cI cZ cB hX hR => ?_)
  show V X M [(0, .int v0)] [] 0
  refine s_iload_n (k := 0) hX zcdX7_skip_20.2.2.2.2.2.2.1 rfl rfl ?_
  refine s_bipush (v := (nI 48)) hX zcdX7_skip_20.2.2.2.2.2.2.2 (by decide) ?_
  refine e_icmp_lt (tgt := 16) hX zcdX7_isDigit_3.1 (by decide) (m_lt (by decide +kernel)) h (fun h => ?_) (fun h => ?_)
  · refine s_iconst (v := (nI 0)) hX zcdX7_isDigit_3.2.2.2.2.2.2.1 (by decide) ?_
    exact e_zretpL hX hR zcdX7_isDigit_3.2.2.2.2.2.2.2 (by decide) h
  · refine s_iload_n (k := 0) hX zcdX7_isDigit_3.2.1 rfl rfl ?_
    refine s_bipush (v := (nI 57)) hX zcdX7_isDigit_3.2.2.1 (by decide) ?_
    refine e_icmp_gt (tgt := 16) hX zcdX7_isDigit_3.2.2.2.1 (by decide) (m_gt (by decide +kernel)) h (fun h => ?_) (fun h => ?_)
    · refine s_iconst (v := (nI 0)) hX zcdX7_isDigit_3.2.2.2.2.2.2.1 (by decide) ?_
      exact e_zretpL hX hR zcdX7_isDigit_3.2.2.2.2.2.2.2 (by decide) h
    · refine s_iconst (v := (nI 1)) hX zcdX7_isDigit_3.2.2.2.2.1 (by decide) ?_
      refine s_goto (tgt := 17) hX zcdX7_isDigit_3.2.2.2.2.2.1 (by decide) ?_
      exact e_zretpL hX hR zcdX7_isDigit_3.2.2.2.2.2.2.2 (by decide) h
set_option maxHeartbeats 4000000 in
theorem t_X7_number (v1 : Int32) (M : Mem) : AXi yX7_number cX7_number 4 (some .int) 1 60 glC (fun ad => [.ref (ad 19), .int v1]) M (f_X7_number M v1) := by
  intro r0 h
  refine AM.of (by decide) (fun _ => Nat.le_of_ble_eq_true rfl) (fun X ad cI cZ cB hX hR => ?_)
  show V X M [(0, .ref (ad 19)), (1, .int v1)] [] 0
  refine s_iconst (v := (nI 0)) hX zcdX7_number_0.1 (by decide) ?_
  refine s_istore_n (lv' := [(0, .ref (ad 19)), (1, .int v1), (2, .int (nI 0))]) hX zcdX7_number_0.2.1 rfl (by decide) rfl ?_
  refine s_iconst (v := (nI 0)) hX zcdX7_number_0.2.2.1 (by decide) ?_
  refine s_istore_n (lv' := [(0, .ref (ad 19)), (1, .int v1), (2, .int (nI 0)), (3, .int (nI 0))]) hX zcdX7_number_0.2.2.2.1 rfl (by decide) rfl ?_
  have lp4 : ∀ (N4 : Nat) (M4 : Mem) (y2_4 : Int32) (y3_4 : Int32), wlp3 (f_X7_number_B4 v1) N4 M4 y2_4 y3_4 = some r0 → V X M4 [(0, .ref (ad 19)), (1, .int v1), (2, .int y2_4), (3, .int y3_4)] [] 4 := by
    intro N4
    induction N4 with
    | zero => exact fun _ _ _ h => e_none h
    | succ N4 ih4 =>
      intro M4 y2_4 y3_4 h
      replace h : f_X7_number_B4 v1 (wlp3 (f_X7_number_B4 v1) N4) M4 y2_4 y3_4 = some r0 := h
      generalize wlp3 (f_X7_number_B4 v1) N4 = ag4 at ih4 h
      refine s_iload_n (k := 3) hX zcdX7_number_0.2.2.2.2.1 rfl rfl ?_
      refine s_iload_n (k := 1) hX zcdX7_number_0.2.2.2.2.2.1 rfl rfl ?_
      have j48 : f_X7_number_L48 M4 y2_4 y3_4 = some r0 → V X M4 [(0, .ref (ad 19)), (2, .int y2_4), (3, .int y3_4)] [] 48 := by
        intro  h
        refine s_iload_n (k := 2) hX zcdX7_number_38.2.2.2.2.1 rfl rfl ?_
        refine e_if_ne (tgt := 64) hX zcdX7_number_38.2.2.2.2.2.1 (by decide) z_eq h (fun h => ?_) (fun h => ?_)
        · refine s_aload_n (k := 0) hX zcdX7_number_54.2.2.2.2.2.2.1 rfl rfl ?_
          refine e_callVp hX (t_X7_here M4) mX7_here lX7_28 (by decide) (by decide) oC19 rfl rfl rfl rfl rfl (Nat.le_of_ble_eq_true rfl) zcdX7_number_54.2.2.2.2.2.2.2 h (fun r_1 h => ?_)
          refine e_callSp hX (t_X7_isDigit r_1 M4) mX7_isDigit lX7_36 (by decide) (by decide) rfl rfl (Nat.le_of_ble_eq_true rfl) zcdX7_number_68.1 h (fun r_2 h => ?_)
          refine e_if_eq (tgt := 86) hX zcdX7_number_68.2.1 (by decide) z_eq h (fun h => ?_) (fun h => ?_)
          · refine s_iload_n (k := 1) hX zcdX7_number_84.2.2.1 rfl rfl ?_
            exact e_ireti hX hR zcdX7_number_84.2.2.2.1 h
          · refine s_aload_n (k := 0) hX zcdX7_number_68.2.2.1 rfl rfl ?_
            refine s_iconst (v := (nI 2)) hX zcdX7_number_68.2.2.2.1 (by decide) ?_
            refine s_aload_n (k := 0) hX zcdX7_number_68.2.2.2.2.1 rfl rfl ?_
            refine s_get hX fX7_22 oC19 rfl zcdX7_number_68.2.2.2.2.2.1 ?_
            refine e_callVi hX (t_X7_refuse (nI 2) (M4 19 3) M4) mX7_refuse lX7_32 (by decide) (by decide) oC19 rfl rfl rfl rfl rfl (Nat.le_of_ble_eq_true rfl) zcdX7_number_68.2.2.2.2.2.2.1 h (fun r_3 M_4 h => ?_)
            refine s_pop hX zcdX7_number_68.2.2.2.2.2.2.2 rfl ?_
            refine s_iconst (v := (-1)) hX zcdX7_number_84.1 (by decide) ?_
            exact e_ireti hX hR zcdX7_number_84.2.1 h
        · refine s_aload_n (k := 0) hX zcdX7_number_38.2.2.2.2.2.2.1 rfl rfl ?_
          refine s_iconst (v := (nI 1)) hX zcdX7_number_38.2.2.2.2.2.2.2 (by decide) ?_
          refine s_aload_n (k := 0) hX zcdX7_number_54.1 rfl rfl ?_
          refine s_get hX fX7_22 oC19 rfl zcdX7_number_54.2.1 ?_
          refine e_callVi hX (t_X7_refuse (nI 1) (M4 19 3) M4) mX7_refuse lX7_32 (by decide) (by decide) oC19 rfl rfl rfl rfl rfl (Nat.le_of_ble_eq_true rfl) zcdX7_number_54.2.2.1 h (fun r_5 M_6 h => ?_)
          refine s_pop hX zcdX7_number_54.2.2.2.1 rfl ?_
          refine s_iconst (v := (-1)) hX zcdX7_number_54.2.2.2.2.1 (by decide) ?_
          exact e_ireti hX hR zcdX7_number_54.2.2.2.2.2.1 h
      refine e_icmp_ge (tgt := 48) hX zcdX7_number_0.2.2.2.2.2.2.1 (by decide) r_le h (fun h => ?_) (fun h => ?_)
      · refine s_loc [0, 2, 3] rfl ?_
        exact j48 h
      · refine s_aload_n (k := 0) hX zcdX7_number_0.2.2.2.2.2.2.2 rfl rfl ?_
        refine e_callVp hX (t_X7_here M4) mX7_here lX7_28 (by decide) (by decide) oC19 rfl rfl rfl rfl rfl (Nat.le_of_ble_eq_true rfl) zcdX7_number_10.1 h (fun r_7 h => ?_)
        refine e_callSp hX (t_X7_isDigit r_7 M4) mX7_isDigit lX7_36 (by decide) (by decide) rfl rfl (Nat.le_of_ble_eq_true rfl) zcdX7_number_10.2.1 h (fun r_8 h => ?_)
        refine e_if_eq (tgt := 48) hX zcdX7_number_10.2.2.1 (by decide) z_eq h (fun h => ?_) (fun h => ?_)
        · refine s_loc [0, 2, 3] rfl ?_
          exact j48 h
        · refine s_bipush (v := (nI 10)) hX zcdX7_number_10.2.2.2.1 (by decide) ?_
          refine s_iload_n (k := 2) hX zcdX7_number_10.2.2.2.2.1 rfl rfl ?_
          refine s_imul hX zcdX7_number_10.2.2.2.2.2.1 ?_
          refine s_aload_n (k := 0) hX zcdX7_number_10.2.2.2.2.2.2.1 rfl rfl ?_
          refine e_callVp hX (t_X7_here M4) mX7_here lX7_28 (by decide) (by decide) oC19 rfl rfl rfl rfl rfl (Nat.le_of_ble_eq_true rfl) zcdX7_number_10.2.2.2.2.2.2.2 h (fun r_9 h => ?_)
          refine s_iadd hX zcdX7_number_27.1 ?_
          refine s_bipush (v := (nI 48)) hX zcdX7_number_27.2.1 (by decide) ?_
          refine s_isub hX zcdX7_number_27.2.2.1 ?_
          refine e_bnd h (fun x_10 h => ?_)
          refine s_istore_n (lv' := [(0, .ref (ad 19)), (1, .int v1), (3, .int y3_4), (2, .int x_10)]) hX zcdX7_number_27.2.2.2.1 rfl (by decide) rfl ?_
          refine s_aload_n (k := 0) hX zcdX7_number_27.2.2.2.2.1 rfl rfl ?_
          refine s_dup hX zcdX7_number_27.2.2.2.2.2.1 rfl ?_
          refine s_get hX fX7_22 oC19 rfl zcdX7_number_27.2.2.2.2.2.2.1 ?_
          refine s_iconst (v := (nI 1)) hX zcdX7_number_27.2.2.2.2.2.2.2 (by decide) ?_
          refine s_iadd hX zcdX7_number_38.1 ?_
          refine s_puti (ty := .int) hX fX7_22 oC19 rfl (Nat.le_of_ble_eq_true rfl) ty_7_3 rfl rfl zcdX7_number_38.2.1 ?_
          refine e_bndM h (fun M_11 h => ?_)
          refine s_iinc (k := 2) (v := (y3_4 + (nI 1))) (lv' := [(0, .ref (ad 19)), (1, .int v1), (2, .int x_10), (3, .int (y3_4 + (nI 1)))]) hX zcdX7_number_38.2.2.1 (congrArg (fun z => y3_4 + z) (by decide)) (by decide) rfl rfl ?_
          refine s_goto (tgt := 4) hX zcdX7_number_38.2.2.2.1 (by decide) ?_
          exact ih4 M_11 x_10 (y3_4 + (nI 1)) h
  exact lp4 FU M (nI 0) (nI 0) h
set_option maxHeartbeats 4000000 in
theorem t_X3_order (c : Nat) (hc : isL c) (v1 : Int32) (v2 : Int32) (M : Mem) : AXv yX3_order cX3_order 3 none 0 60 glC (fun ad => [.ref (ad c), .int v1, .int v2]) M (f_X3_order c M v1 v2) := by
  intro r0 h
  refine AM.of (by decide) (fun _ => Nat.le_of_ble_eq_true rfl) (fun X ad cI cZ cB hX hR => ?_)
  show V X M [(0, .ref (ad c)), (1, .int v1), (2, .int v2)] [] 0
  refine s_aload_n (k := 0) hX zcdX7_number_84.2.2.2.2.1 rfl rfl ?_
  refine s_get hX fX3_33 (oL hc) rfl zcdX7_number_84.2.2.2.2.2.1 ?_
  refine e_if_lt (tgt := 47) hX zcdX7_number_84.2.2.2.2.2.2.1 (by decide) z_lt h (fun h => ?_) (fun h => ?_)
  · exact e_vret hX hR zcdX3_order_38.2.2.2.2.2.1 h
  · refine s_aload_n (k := 0) hX zcdX7_number_84.2.2.2.2.2.2.2 rfl rfl ?_
    refine s_get hX fX3_33 (oL hc) rfl zcdX3_order_8.1 ?_
    refine s_sipush (v := (nI 240)) hX zcdX3_order_8.2.1 (by decide) ?_
    refine e_icmp_ge (tgt := 47) hX zcdX3_order_8.2.2.1 (by decide) (m_ge (by decide +kernel)) h (fun h => ?_) (fun h => ?_)
    · exact e_vret hX hR zcdX3_order_38.2.2.2.2.2.1 h
    · refine s_aload_n (k := 0) hX zcdX3_order_8.2.2.2.1 rfl rfl ?_
      refine s_get hX fX3_9 (oL hc) rfl zcdX3_order_8.2.2.2.2.1 ?_
      refine s_aload_n (k := 0) hX zcdX3_order_8.2.2.2.2.2.1 rfl rfl ?_
      refine s_get hX fX3_33 (oL hc) rfl zcdX3_order_8.2.2.2.2.2.2.1 ?_
      refine s_iload_n (k := 1) hX zcdX3_order_8.2.2.2.2.2.2.2 rfl rfl ?_
      refine e_iast hX (aL1 hc) zcdX3_order_26.1 h (fun h => ?_)
      refine e_bndM h (fun M_1 h => ?_)
      refine s_aload_n (k := 0) hX zcdX3_order_26.2.1 rfl rfl ?_
      refine s_get hX fX3_15 (oL hc) rfl zcdX3_order_26.2.2.1 ?_
      refine s_aload_n (k := 0) hX zcdX3_order_26.2.2.2.1 rfl rfl ?_
      refine s_get hX fX3_33 (oL hc) rfl zcdX3_order_26.2.2.2.2.1 ?_
      refine s_iload_n (k := 2) hX zcdX3_order_26.2.2.2.2.2.1 rfl rfl ?_
      refine e_iast hX (aL2 hc) zcdX3_order_26.2.2.2.2.2.2.1 h (fun h => ?_)
      refine e_bndM h (fun M_2 h => ?_)
      refine s_aload_n (k := 0) hX zcdX3_order_26.2.2.2.2.2.2.2 rfl rfl ?_
      refine s_dup hX zcdX3_order_38.1 rfl ?_
      refine s_get hX fX3_33 (oL hc) rfl zcdX3_order_38.2.1 ?_
      refine s_iconst (v := (nI 1)) hX zcdX3_order_38.2.2.1 (by decide) ?_
      refine s_iadd hX zcdX3_order_38.2.2.2.1 ?_
      refine s_puti (ty := .int) hX fX3_33 (oL hc) rfl (Nat.le_of_ble_eq_true rfl) ty_3_7 rfl rfl zcdX3_order_38.2.2.2.2.1 ?_
      refine e_bndM h (fun M_3 h => ?_)
      exact e_vret hX hR zcdX3_order_38.2.2.2.2.2.1 h
set_option maxHeartbeats 4000000 in
theorem t_X5_indexOf (v0 : Int32) (M : Mem) : AXp yX5_indexOf cX5_indexOf 1 (some .int) 0 60 glC (fun ad => [.int v0]) M (f_X5_indexOf v0) := by
  intro r0 h
  refine AM.of (by decide) (fun _ => Nat.le_of_ble_eq_true rfl) (fun X ad cI cZ cB hX hR => ?_)
  show V X M [(0, .int v0)] [] 0
  refine s_iload_n (k := 0) hX zcdX3_order_38.2.2.2.2.2.2.1 rfl rfl ?_
  refine e_if h (fun c101 h => ?_) (fun c101 h => ?_)
  · refine s_tabIn (tgt := 108) (off := 107) hX zcdX3_order_38.2.2.2.2.2.2.2 (by omega) (by omega) (by rw [c101]; rfl) (by decide) ?_
    refine s_iconst (v := (nI 4)) hX zcdX5_indexOf_108.1 (by decide) ?_
    exact e_iretp hX hR zcdX5_indexOf_108.2.1 h
  refine e_if h (fun c103 h => ?_) (fun c103 h => ?_)
  · refine s_tabIn (tgt := 115) (off := 114) hX zcdX3_order_38.2.2.2.2.2.2.2 (by omega) (by omega) (by rw [c103]; rfl) (by decide) ?_
    refine s_bipush (v := (nI 7)) hX zcdX5_indexOf_108.2.2.2.2.2.2.1 (by decide) ?_
    exact e_iretp hX hR zcdX5_indexOf_108.2.2.2.2.2.2.2 h
  refine e_if h (fun c105 h => ?_) (fun c105 h => ?_)
  · refine s_tabIn (tgt := 100) (off := 99) hX zcdX3_order_38.2.2.2.2.2.2.2 (by omega) (by omega) (by rw [c105]; rfl) (by decide) ?_
    refine s_iconst (v := (nI 0)) hX zcdX5_indexOf_100.1 (by decide) ?_
    exact e_iretp hX hR zcdX5_indexOf_100.2.1 h
  refine e_if h (fun c110 h => ?_) (fun c110 h => ?_)
  · refine s_tabIn (tgt := 110) (off := 109) hX zcdX3_order_38.2.2.2.2.2.2.2 (by omega) (by omega) (by rw [c110]; rfl) (by decide) ?_
    refine s_iconst (v := (nI 5)) hX zcdX5_indexOf_108.2.2.1 (by decide) ?_
    exact e_iretp hX hR zcdX5_indexOf_108.2.2.2.1 h
  refine e_if h (fun c114 h => ?_) (fun c114 h => ?_)
  · refine s_tabIn (tgt := 112) (off := 111) hX zcdX3_order_38.2.2.2.2.2.2.2 (by omega) (by omega) (by rw [c114]; rfl) (by decide) ?_
    refine s_bipush (v := (nI 6)) hX zcdX5_indexOf_108.2.2.2.2.1 (by decide) ?_
    exact e_iretp hX hR zcdX5_indexOf_108.2.2.2.2.2.1 h
  refine e_if h (fun c115 h => ?_) (fun c115 h => ?_)
  · refine s_tabIn (tgt := 106) (off := 105) hX zcdX3_order_38.2.2.2.2.2.2.2 (by omega) (by omega) (by rw [c115]; rfl) (by decide) ?_
    refine s_iconst (v := (nI 3)) hX zcdX5_indexOf_100.2.2.2.2.2.2.1 (by decide) ?_
    exact e_iretp hX hR zcdX5_indexOf_100.2.2.2.2.2.2.2 h
  refine e_if h (fun c120 h => ?_) (fun c120 h => ?_)
  · refine s_tabIn (tgt := 102) (off := 101) hX zcdX3_order_38.2.2.2.2.2.2.2 (by omega) (by omega) (by rw [c120]; rfl) (by decide) ?_
    refine s_iconst (v := (nI 1)) hX zcdX5_indexOf_100.2.2.1 (by decide) ?_
    exact e_iretp hX hR zcdX5_indexOf_100.2.2.2.1 h
  refine e_if h (fun c121 h => ?_) (fun c121 h => ?_)
  · refine s_tabIn (tgt := 104) (off := 103) hX zcdX3_order_38.2.2.2.2.2.2.2 (by omega) (by omega) (by rw [c121]; rfl) (by decide) ?_
    refine s_iconst (v := (nI 2)) hX zcdX5_indexOf_100.2.2.2.2.1 (by decide) ?_
    exact e_iretp hX hR zcdX5_indexOf_100.2.2.2.2.2.1 h
  by_cases c102 : v0.toInt = 102
  · refine s_tabIn (tgt := 118) (off := 117) hX zcdX3_order_38.2.2.2.2.2.2.2 (by omega) (by omega) (by rw [c102]; rfl) (by decide) ?_
    refine s_iconst (v := (-1)) hX zcdX5_indexOf_118.1 (by decide) ?_
    exact e_iretp hX hR zcdX5_indexOf_118.2 h
  by_cases c104 : v0.toInt = 104
  · refine s_tabIn (tgt := 118) (off := 117) hX zcdX3_order_38.2.2.2.2.2.2.2 (by omega) (by omega) (by rw [c104]; rfl) (by decide) ?_
    refine s_iconst (v := (-1)) hX zcdX5_indexOf_118.1 (by decide) ?_
    exact e_iretp hX hR zcdX5_indexOf_118.2 h
  by_cases c106 : v0.toInt = 106
  · refine s_tabIn (tgt := 118) (off := 117) hX zcdX3_order_38.2.2.2.2.2.2.2 (by omega) (by omega) (by rw [c106]; rfl) (by decide) ?_
    refine s_iconst (v := (-1)) hX zcdX5_indexOf_118.1 (by decide) ?_
    exact e_iretp hX hR zcdX5_indexOf_118.2 h
  by_cases c107 : v0.toInt = 107
  · refine s_tabIn (tgt := 118) (off := 117) hX zcdX3_order_38.2.2.2.2.2.2.2 (by omega) (by omega) (by rw [c107]; rfl) (by decide) ?_
    refine s_iconst (v := (-1)) hX zcdX5_indexOf_118.1 (by decide) ?_
    exact e_iretp hX hR zcdX5_indexOf_118.2 h
  by_cases c108 : v0.toInt = 108
  · refine s_tabIn (tgt := 118) (off := 117) hX zcdX3_order_38.2.2.2.2.2.2.2 (by omega) (by omega) (by rw [c108]; rfl) (by decide) ?_
    refine s_iconst (v := (-1)) hX zcdX5_indexOf_118.1 (by decide) ?_
    exact e_iretp hX hR zcdX5_indexOf_118.2 h
  by_cases c109 : v0.toInt = 109
  · refine s_tabIn (tgt := 118) (off := 117) hX zcdX3_order_38.2.2.2.2.2.2.2 (by omega) (by omega) (by rw [c109]; rfl) (by decide) ?_
    refine s_iconst (v := (-1)) hX zcdX5_indexOf_118.1 (by decide) ?_
    exact e_iretp hX hR zcdX5_indexOf_118.2 h
  by_cases c111 : v0.toInt = 111
  · refine s_tabIn (tgt := 118) (off := 117) hX zcdX3_order_38.2.2.2.2.2.2.2 (by omega) (by omega) (by rw [c111]; rfl) (by decide) ?_
    refine s_iconst (v := (-1)) hX zcdX5_indexOf_118.1 (by decide) ?_
    exact e_iretp hX hR zcdX5_indexOf_118.2 h
  by_cases c112 : v0.toInt = 112
  · refine s_tabIn (tgt := 118) (off := 117) hX zcdX3_order_38.2.2.2.2.2.2.2 (by omega) (by omega) (by rw [c112]; rfl) (by decide) ?_
    refine s_iconst (v := (-1)) hX zcdX5_indexOf_118.1 (by decide) ?_
    exact e_iretp hX hR zcdX5_indexOf_118.2 h
  by_cases c113 : v0.toInt = 113
  · refine s_tabIn (tgt := 118) (off := 117) hX zcdX3_order_38.2.2.2.2.2.2.2 (by omega) (by omega) (by rw [c113]; rfl) (by decide) ?_
    refine s_iconst (v := (-1)) hX zcdX5_indexOf_118.1 (by decide) ?_
    exact e_iretp hX hR zcdX5_indexOf_118.2 h
  by_cases c116 : v0.toInt = 116
  · refine s_tabIn (tgt := 118) (off := 117) hX zcdX3_order_38.2.2.2.2.2.2.2 (by omega) (by omega) (by rw [c116]; rfl) (by decide) ?_
    refine s_iconst (v := (-1)) hX zcdX5_indexOf_118.1 (by decide) ?_
    exact e_iretp hX hR zcdX5_indexOf_118.2 h
  by_cases c117 : v0.toInt = 117
  · refine s_tabIn (tgt := 118) (off := 117) hX zcdX3_order_38.2.2.2.2.2.2.2 (by omega) (by omega) (by rw [c117]; rfl) (by decide) ?_
    refine s_iconst (v := (-1)) hX zcdX5_indexOf_118.1 (by decide) ?_
    exact e_iretp hX hR zcdX5_indexOf_118.2 h
  by_cases c118 : v0.toInt = 118
  · refine s_tabIn (tgt := 118) (off := 117) hX zcdX3_order_38.2.2.2.2.2.2.2 (by omega) (by omega) (by rw [c118]; rfl) (by decide) ?_
    refine s_iconst (v := (-1)) hX zcdX5_indexOf_118.1 (by decide) ?_
    exact e_iretp hX hR zcdX5_indexOf_118.2 h
  by_cases c119 : v0.toInt = 119
  · refine s_tabIn (tgt := 118) (off := 117) hX zcdX3_order_38.2.2.2.2.2.2.2 (by omega) (by omega) (by rw [c119]; rfl) (by decide) ?_
    refine s_iconst (v := (-1)) hX zcdX5_indexOf_118.1 (by decide) ?_
    exact e_iretp hX hR zcdX5_indexOf_118.2 h
  refine s_tabOut (tgt := 118) hX zcdX3_order_38.2.2.2.2.2.2.2 (by omega) (by decide) ?_
  refine s_iconst (v := (-1)) hX zcdX5_indexOf_118.1 (by decide) ?_
  exact e_iretp hX hR zcdX5_indexOf_118.2 h
