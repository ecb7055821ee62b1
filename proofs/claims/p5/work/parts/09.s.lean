theorem add1 {y : Int32} (h : -1 ≤ y.toInt ∧ y.toInt ≤ 31) : (y + nI 1).toInt = y.toInt + 1 := by
  have h1 : (nI 1).toInt = 1 := by decide
  rw [i32_add (by omega) (by omega), h1]
theorem dec1 {y : Int32} (h : 0 ≤ y.toInt ∧ y.toInt ≤ 31) : (y + Int32.ofInt (-1)).toInt = y.toInt - 1 := by
  have h1 : (Int32.ofInt (-1)).toInt = -1 := by decide
  rw [i32_add (by omega) (by omega), h1]
  omega
theorem dX3_order_0 : decode cX3_order 0 = .ok (.aload_n 0, 1) := by decide +kernel
theorem dX3_order_1 : decode cX3_order 1 = .ok (.getfield 33, 3) := by decide +kernel
theorem dX3_order_4 : decode cX3_order 4 = .ok (.ifCond .lt 43, 3) := by decide +kernel
theorem dX3_order_7 : decode cX3_order 7 = .ok (.aload_n 0, 1) := by decide +kernel
theorem dX3_order_8 : decode cX3_order 8 = .ok (.getfield 33, 3) := by decide +kernel
theorem dX3_order_11 : decode cX3_order 11 = .ok (.sipush 240, 3) := by decide +kernel
theorem dX3_order_14 : decode cX3_order 14 = .ok (.if_icmp .ge 33, 3) := by decide +kernel
theorem dX3_order_17 : decode cX3_order 17 = .ok (.aload_n 0, 1) := by decide +kernel
theorem dX3_order_18 : decode cX3_order 18 = .ok (.getfield 9, 3) := by decide +kernel
theorem dX3_order_21 : decode cX3_order 21 = .ok (.aload_n 0, 1) := by decide +kernel
theorem dX3_order_22 : decode cX3_order 22 = .ok (.getfield 33, 3) := by decide +kernel
theorem dX3_order_25 : decode cX3_order 25 = .ok (.iload_n 1, 1) := by decide +kernel
theorem dX3_order_26 : decode cX3_order 26 = .ok (.iastore, 1) := by decide +kernel
theorem dX3_order_27 : decode cX3_order 27 = .ok (.aload_n 0, 1) := by decide +kernel
theorem dX3_order_28 : decode cX3_order 28 = .ok (.getfield 15, 3) := by decide +kernel
theorem dX3_order_31 : decode cX3_order 31 = .ok (.aload_n 0, 1) := by decide +kernel
theorem dX3_order_32 : decode cX3_order 32 = .ok (.getfield 33, 3) := by decide +kernel
theorem dX3_order_35 : decode cX3_order 35 = .ok (.iload_n 2, 1) := by decide +kernel
theorem dX3_order_36 : decode cX3_order 36 = .ok (.iastore, 1) := by decide +kernel
theorem dX3_order_37 : decode cX3_order 37 = .ok (.aload_n 0, 1) := by decide +kernel
theorem dX3_order_38 : decode cX3_order 38 = .ok (.dup, 1) := by decide +kernel
theorem dX3_order_39 : decode cX3_order 39 = .ok (.getfield 33, 3) := by decide +kernel
theorem dX3_order_42 : decode cX3_order 42 = .ok (.iconst 1, 1) := by decide +kernel
theorem dX3_order_43 : decode cX3_order 43 = .ok (.iadd, 1) := by decide +kernel
theorem dX3_order_44 : decode cX3_order 44 = .ok (.putfield 33, 3) := by decide +kernel
theorem dX3_order_47 : decode cX3_order 47 = .ok (.return_, 1) := by decide +kernel
theorem dX3_landHere_0 : decode cX3_landHere 0 = .ok (.iload_n 1, 1) := by decide +kernel
theorem dX3_landHere_1 : decode cX3_landHere 1 = .ok (.ifCond .lt 28, 3) := by decide +kernel
theorem dX3_landHere_4 : decode cX3_landHere 4 = .ok (.iload_n 1, 1) := by decide +kernel
theorem dX3_landHere_5 : decode cX3_landHere 5 = .ok (.aload_n 0, 1) := by decide +kernel
theorem dX3_landHere_6 : decode cX3_landHere 6 = .ok (.getfield 33, 3) := by decide +kernel
theorem dX3_landHere_9 : decode cX3_landHere 9 = .ok (.if_icmp .ge 20, 3) := by decide +kernel
theorem dX3_landHere_12 : decode cX3_landHere 12 = .ok (.iload_n 1, 1) := by decide +kernel
theorem dX3_landHere_13 : decode cX3_landHere 13 = .ok (.sipush 240, 3) := by decide +kernel
theorem dX3_landHere_16 : decode cX3_landHere 16 = .ok (.if_icmp .ge 13, 3) := by decide +kernel
theorem dX3_landHere_19 : decode cX3_landHere 19 = .ok (.aload_n 0, 1) := by decide +kernel
theorem dX3_landHere_20 : decode cX3_landHere 20 = .ok (.getfield 15, 3) := by decide +kernel
theorem dX3_landHere_23 : decode cX3_landHere 23 = .ok (.iload_n 1, 1) := by decide +kernel
theorem dX3_landHere_24 : decode cX3_landHere 24 = .ok (.aload_n 0, 1) := by decide +kernel
theorem dX3_landHere_25 : decode cX3_landHere 25 = .ok (.getfield 33, 3) := by decide +kernel
theorem dX3_landHere_28 : decode cX3_landHere 28 = .ok (.iastore, 1) := by decide +kernel
theorem dX3_landHere_29 : decode cX3_landHere 29 = .ok (.return_, 1) := by decide +kernel
theorem dX3_combine_0 : decode cX3_combine 0 = .ok (.iload_n 0, 1) := by decide +kernel
theorem dX3_combine_1 : decode cX3_combine 1 = .ok (.lookupswitch 125 #[(37, 91), (42, 75), (43, 67), (45, 71), (47, 79), (60, 103), (62, 114)], 67) := by decide +kernel
theorem dX3_combine_68 : decode cX3_combine 68 = .ok (.iload_n 1, 1) := by decide +kernel
theorem dX3_combine_69 : decode cX3_combine 69 = .ok (.iload_n 2, 1) := by decide +kernel
theorem dX3_combine_70 : decode cX3_combine 70 = .ok (.iadd, 1) := by decide +kernel
theorem dX3_combine_71 : decode cX3_combine 71 = .ok (.ireturn, 1) := by decide +kernel
theorem dX3_combine_72 : decode cX3_combine 72 = .ok (.iload_n 1, 1) := by decide +kernel
theorem dX3_combine_73 : decode cX3_combine 73 = .ok (.iload_n 2, 1) := by decide +kernel
theorem dX3_combine_74 : decode cX3_combine 74 = .ok (.isub, 1) := by decide +kernel
theorem dX3_combine_75 : decode cX3_combine 75 = .ok (.ireturn, 1) := by decide +kernel
theorem dX3_combine_76 : decode cX3_combine 76 = .ok (.iload_n 1, 1) := by decide +kernel
theorem dX3_combine_77 : decode cX3_combine 77 = .ok (.iload_n 2, 1) := by decide +kernel
theorem dX3_combine_78 : decode cX3_combine 78 = .ok (.imul, 1) := by decide +kernel
theorem dX3_combine_79 : decode cX3_combine 79 = .ok (.ireturn, 1) := by decide +kernel
theorem dX3_combine_80 : decode cX3_combine 80 = .ok (.iload_n 2, 1) := by decide +kernel
theorem dX3_combine_81 : decode cX3_combine 81 = .ok (.ifCond .ne 7, 3) := by decide +kernel
theorem dX3_combine_84 : decode cX3_combine 84 = .ok (.iconst 0, 1) := by decide +kernel
theorem dX3_combine_85 : decode cX3_combine 85 = .ok (.goto 6, 3) := by decide +kernel
theorem dX3_combine_88 : decode cX3_combine 88 = .ok (.iload_n 1, 1) := by decide +kernel
theorem dX3_combine_89 : decode cX3_combine 89 = .ok (.iload_n 2, 1) := by decide +kernel
theorem dX3_combine_90 : decode cX3_combine 90 = .ok (.idiv, 1) := by decide +kernel
theorem dX3_combine_91 : decode cX3_combine 91 = .ok (.ireturn, 1) := by decide +kernel
theorem dX3_combine_92 : decode cX3_combine 92 = .ok (.iload_n 2, 1) := by decide +kernel
theorem dX3_combine_93 : decode cX3_combine 93 = .ok (.ifCond .ne 7, 3) := by decide +kernel
theorem dX3_combine_96 : decode cX3_combine 96 = .ok (.iconst 0, 1) := by decide +kernel
theorem dX3_combine_97 : decode cX3_combine 97 = .ok (.goto 6, 3) := by decide +kernel
theorem dX3_combine_100 : decode cX3_combine 100 = .ok (.iload_n 1, 1) := by decide +kernel
theorem dX3_combine_101 : decode cX3_combine 101 = .ok (.iload_n 2, 1) := by decide +kernel
theorem dX3_combine_102 : decode cX3_combine 102 = .ok (.irem, 1) := by decide +kernel
theorem dX3_combine_103 : decode cX3_combine 103 = .ok (.ireturn, 1) := by decide +kernel
theorem dX3_combine_104 : decode cX3_combine 104 = .ok (.iload_n 1, 1) := by decide +kernel
theorem dX3_combine_105 : decode cX3_combine 105 = .ok (.iload_n 2, 1) := by decide +kernel
theorem dX3_combine_106 : decode cX3_combine 106 = .ok (.if_icmp .ge 7, 3) := by decide +kernel
theorem dX3_combine_109 : decode cX3_combine 109 = .ok (.iconst 1, 1) := by decide +kernel
theorem dX3_combine_110 : decode cX3_combine 110 = .ok (.goto 4, 3) := by decide +kernel
theorem dX3_combine_113 : decode cX3_combine 113 = .ok (.iconst 0, 1) := by decide +kernel
theorem dX3_combine_114 : decode cX3_combine 114 = .ok (.ireturn, 1) := by decide +kernel
theorem dX3_combine_115 : decode cX3_combine 115 = .ok (.iload_n 1, 1) := by decide +kernel
theorem dX3_combine_116 : decode cX3_combine 116 = .ok (.iload_n 2, 1) := by decide +kernel
theorem dX3_combine_117 : decode cX3_combine 117 = .ok (.if_icmp .le 7, 3) := by decide +kernel
theorem dX3_combine_120 : decode cX3_combine 120 = .ok (.iconst 1, 1) := by decide +kernel
theorem dX3_combine_121 : decode cX3_combine 121 = .ok (.goto 4, 3) := by decide +kernel
theorem dX3_combine_124 : decode cX3_combine 124 = .ok (.iconst 0, 1) := by decide +kernel
theorem dX3_combine_125 : decode cX3_combine 125 = .ok (.ireturn, 1) := by decide +kernel
theorem dX3_combine_126 : decode cX3_combine 126 = .ok (.iload_n 1, 1) := by decide +kernel
theorem dX3_combine_127 : decode cX3_combine 127 = .ok (.iload_n 2, 1) := by decide +kernel
theorem dX3_combine_128 : decode cX3_combine 128 = .ok (.if_icmp .ne 7, 3) := by decide +kernel
theorem dX3_combine_131 : decode cX3_combine 131 = .ok (.iconst 1, 1) := by decide +kernel
theorem dX3_combine_132 : decode cX3_combine 132 = .ok (.goto 4, 3) := by decide +kernel
theorem dX3_combine_135 : decode cX3_combine 135 = .ok (.iconst 0, 1) := by decide +kernel
theorem dX3_combine_136 : decode cX3_combine 136 = .ok (.ireturn, 1) := by decide +kernel
theorem dX3_reckon_0 : decode cX3_reckon 0 = .ok (.iconst (-1), 1) := by decide +kernel
theorem dX3_reckon_1 : decode cX3_reckon 1 = .ok (.istore 4, 2) := by decide +kernel
theorem dX3_reckon_3 : decode cX3_reckon 3 = .ok (.iload_n 1, 1) := by decide +kernel
theorem dX3_reckon_4 : decode cX3_reckon 4 = .ok (.istore 5, 2) := by decide +kernel
theorem dX3_reckon_6 : decode cX3_reckon 6 = .ok (.iconst 0, 1) := by decide +kernel
theorem dX3_reckon_7 : decode cX3_reckon 7 = .ok (.istore 6, 2) := by decide +kernel
theorem dX3_reckon_9 : decode cX3_reckon 9 = .ok (.iload 6, 2) := by decide +kernel
theorem dX3_reckon_11 : decode cX3_reckon 11 = .ok (.sipush 240, 3) := by decide +kernel
theorem dX3_reckon_14 : decode cX3_reckon 14 = .ok (.if_icmp .ge 284, 3) := by decide +kernel
theorem dX3_reckon_17 : decode cX3_reckon 17 = .ok (.iload 5, 2) := by decide +kernel
theorem dX3_reckon_19 : decode cX3_reckon 19 = .ok (.ifCond .lt 279, 3) := by decide +kernel
theorem dX3_reckon_22 : decode cX3_reckon 22 = .ok (.iload 5, 2) := by decide +kernel
theorem dX3_reckon_24 : decode cX3_reckon 24 = .ok (.iload_n 2, 1) := by decide +kernel
theorem dX3_reckon_25 : decode cX3_reckon 25 = .ok (.if_icmp .ge 273, 3) := by decide +kernel
theorem dX3_reckon_28 : decode cX3_reckon 28 = .ok (.iload 5, 2) := by decide +kernel
theorem dX3_reckon_30 : decode cX3_reckon 30 = .ok (.aload_n 0, 1) := by decide +kernel
theorem dX3_reckon_31 : decode cX3_reckon 31 = .ok (.getfield 33, 3) := by decide +kernel
theorem dX3_reckon_34 : decode cX3_reckon 34 = .ok (.if_icmp .ge 264, 3) := by decide +kernel
theorem dX3_reckon_37 : decode cX3_reckon 37 = .ok (.iload 5, 2) := by decide +kernel
theorem dX3_reckon_39 : decode cX3_reckon 39 = .ok (.sipush 240, 3) := by decide +kernel
theorem dX3_reckon_42 : decode cX3_reckon 42 = .ok (.if_icmp .ge 256, 3) := by decide +kernel
theorem dX3_reckon_45 : decode cX3_reckon 45 = .ok (.aload_n 0, 1) := by decide +kernel
theorem dX3_reckon_46 : decode cX3_reckon 46 = .ok (.getfield 9, 3) := by decide +kernel
theorem dX3_reckon_49 : decode cX3_reckon 49 = .ok (.iload 5, 2) := by decide +kernel
theorem dX3_reckon_51 : decode cX3_reckon 51 = .ok (.iaload, 1) := by decide +kernel
theorem dX3_reckon_52 : decode cX3_reckon 52 = .ok (.istore 7, 2) := by decide +kernel
theorem dX3_reckon_54 : decode cX3_reckon 54 = .ok (.aload_n 0, 1) := by decide +kernel
theorem dX3_reckon_55 : decode cX3_reckon 55 = .ok (.getfield 15, 3) := by decide +kernel
theorem dX3_reckon_58 : decode cX3_reckon 58 = .ok (.iload 5, 2) := by decide +kernel
theorem dX3_reckon_60 : decode cX3_reckon 60 = .ok (.iaload, 1) := by decide +kernel
theorem dX3_reckon_61 : decode cX3_reckon 61 = .ok (.istore 8, 2) := by decide +kernel
theorem dX3_reckon_63 : decode cX3_reckon 63 = .ok (.iinc 5 1, 3) := by decide +kernel
theorem dX3_reckon_66 : decode cX3_reckon 66 = .ok (.iload 7, 2) := by decide +kernel
theorem dX3_reckon_68 : decode cX3_reckon 68 = .ok (.bipush 48, 2) := by decide +kernel
theorem dX3_reckon_70 : decode cX3_reckon 70 = .ok (.if_icmp .eq 10, 3) := by decide +kernel
theorem dX3_reckon_73 : decode cX3_reckon 73 = .ok (.iload 7, 2) := by decide +kernel
theorem dX3_reckon_75 : decode cX3_reckon 75 = .ok (.bipush 97, 2) := by decide +kernel
theorem dX3_reckon_77 : decode cX3_reckon 77 = .ok (.if_icmp .ne 62, 3) := by decide +kernel
theorem dX3_reckon_80 : decode cX3_reckon 80 = .ok (.iload 4, 2) := by decide +kernel
theorem dX3_reckon_82 : decode cX3_reckon 82 = .ok (.iconst 1, 1) := by decide +kernel
theorem dX3_reckon_83 : decode cX3_reckon 83 = .ok (.iadd, 1) := by decide +kernel
theorem dX3_reckon_84 : decode cX3_reckon 84 = .ok (.bipush 32, 2) := by decide +kernel
theorem dX3_reckon_86 : decode cX3_reckon 86 = .ok (.if_icmp .ge 22, 3) := by decide +kernel
theorem dX3_reckon_89 : decode cX3_reckon 89 = .ok (.iload 7, 2) := by decide +kernel
theorem dX3_reckon_91 : decode cX3_reckon 91 = .ok (.bipush 97, 2) := by decide +kernel
theorem dX3_reckon_93 : decode cX3_reckon 93 = .ok (.if_icmp .ne 17, 3) := by decide +kernel
theorem dX3_reckon_96 : decode cX3_reckon 96 = .ok (.iload 8, 2) := by decide +kernel
theorem dX3_reckon_98 : decode cX3_reckon 98 = .ok (.ifCond .lt 10, 3) := by decide +kernel
theorem dX3_reckon_101 : decode cX3_reckon 101 = .ok (.iload 8, 2) := by decide +kernel
theorem dX3_reckon_103 : decode cX3_reckon 103 = .ok (.aload_n 3, 1) := by decide +kernel
theorem dX3_reckon_104 : decode cX3_reckon 104 = .ok (.arraylength, 1) := by decide +kernel
theorem dX3_reckon_105 : decode cX3_reckon 105 = .ok (.if_icmp .lt 5, 3) := by decide +kernel
theorem dX3_reckon_108 : decode cX3_reckon 108 = .ok (.iconst 0, 1) := by decide +kernel
theorem dX3_reckon_109 : decode cX3_reckon 109 = .ok (.ireturn, 1) := by decide +kernel
theorem dX3_reckon_110 : decode cX3_reckon 110 = .ok (.iinc 4 1, 3) := by decide +kernel
theorem dX3_reckon_113 : decode cX3_reckon 113 = .ok (.aload_n 0, 1) := by decide +kernel
theorem dX3_reckon_114 : decode cX3_reckon 114 = .ok (.getfield 18, 3) := by decide +kernel
theorem dX3_reckon_117 : decode cX3_reckon 117 = .ok (.iload 4, 2) := by decide +kernel
theorem dX3_reckon_119 : decode cX3_reckon 119 = .ok (.iload 7, 2) := by decide +kernel
theorem dX3_reckon_121 : decode cX3_reckon 121 = .ok (.bipush 48, 2) := by decide +kernel
theorem dX3_reckon_123 : decode cX3_reckon 123 = .ok (.if_icmp .ne 8, 3) := by decide +kernel
theorem dX3_reckon_126 : decode cX3_reckon 126 = .ok (.iload 8, 2) := by decide +kernel
theorem dX3_reckon_128 : decode cX3_reckon 128 = .ok (.goto 7, 3) := by decide +kernel
theorem dX3_reckon_131 : decode cX3_reckon 131 = .ok (.aload_n 3, 1) := by decide +kernel
theorem dX3_reckon_132 : decode cX3_reckon 132 = .ok (.iload 8, 2) := by decide +kernel
theorem dX3_reckon_134 : decode cX3_reckon 134 = .ok (.iaload, 1) := by decide +kernel
theorem dX3_reckon_135 : decode cX3_reckon 135 = .ok (.iastore, 1) := by decide +kernel
theorem dX3_reckon_136 : decode cX3_reckon 136 = .ok (.goto 156, 3) := by decide +kernel
theorem dX3_reckon_139 : decode cX3_reckon 139 = .ok (.iload 4, 2) := by decide +kernel
theorem dX3_reckon_141 : decode cX3_reckon 141 = .ok (.ifCond .ge 5, 3) := by decide +kernel
theorem dX3_reckon_144 : decode cX3_reckon 144 = .ok (.iconst 0, 1) := by decide +kernel
theorem dX3_reckon_145 : decode cX3_reckon 145 = .ok (.ireturn, 1) := by decide +kernel
theorem dX3_reckon_146 : decode cX3_reckon 146 = .ok (.iload 7, 2) := by decide +kernel
theorem dX3_reckon_148 : decode cX3_reckon 148 = .ok (.bipush 33, 2) := by decide +kernel
theorem dX3_reckon_150 : decode cX3_reckon 150 = .ok (.if_icmp .ne 22, 3) := by decide +kernel
theorem dX3_reckon_153 : decode cX3_reckon 153 = .ok (.aload_n 0, 1) := by decide +kernel
theorem dX3_reckon_154 : decode cX3_reckon 154 = .ok (.getfield 18, 3) := by decide +kernel
theorem dX3_reckon_157 : decode cX3_reckon 157 = .ok (.iload 4, 2) := by decide +kernel
theorem dX3_reckon_159 : decode cX3_reckon 159 = .ok (.iconst 1, 1) := by decide +kernel
theorem dX3_reckon_160 : decode cX3_reckon 160 = .ok (.aload_n 0, 1) := by decide +kernel
theorem dX3_reckon_161 : decode cX3_reckon 161 = .ok (.getfield 18, 3) := by decide +kernel
theorem dX3_reckon_164 : decode cX3_reckon 164 = .ok (.iload 4, 2) := by decide +kernel
theorem dX3_reckon_166 : decode cX3_reckon 166 = .ok (.iaload, 1) := by decide +kernel
theorem dX3_reckon_167 : decode cX3_reckon 167 = .ok (.isub, 1) := by decide +kernel
theorem dX3_reckon_168 : decode cX3_reckon 168 = .ok (.iastore, 1) := by decide +kernel
theorem dX3_reckon_169 : decode cX3_reckon 169 = .ok (.goto 123, 3) := by decide +kernel
theorem dX3_reckon_172 : decode cX3_reckon 172 = .ok (.iload 7, 2) := by decide +kernel
theorem dX3_reckon_174 : decode cX3_reckon 174 = .ok (.bipush 38, 2) := by decide +kernel
theorem dX3_reckon_176 : decode cX3_reckon 176 = .ok (.if_icmp .eq 10, 3) := by decide +kernel
theorem dX3_reckon_179 : decode cX3_reckon 179 = .ok (.iload 7, 2) := by decide +kernel
theorem dX3_reckon_181 : decode cX3_reckon 181 = .ok (.bipush 124, 2) := by decide +kernel
theorem dX3_reckon_183 : decode cX3_reckon 183 = .ok (.if_icmp .ne 46, 3) := by decide +kernel
theorem dX3_reckon_186 : decode cX3_reckon 186 = .ok (.aload_n 0, 1) := by decide +kernel
theorem dX3_reckon_187 : decode cX3_reckon 187 = .ok (.getfield 18, 3) := by decide +kernel
theorem dX3_reckon_190 : decode cX3_reckon 190 = .ok (.iload 4, 2) := by decide +kernel
theorem dX3_reckon_192 : decode cX3_reckon 192 = .ok (.iaload, 1) := by decide +kernel
theorem dX3_reckon_193 : decode cX3_reckon 193 = .ok (.ifCond .ne 7, 3) := by decide +kernel
theorem dX3_reckon_196 : decode cX3_reckon 196 = .ok (.iconst 1, 1) := by decide +kernel
theorem dX3_reckon_197 : decode cX3_reckon 197 = .ok (.goto 4, 3) := by decide +kernel
theorem dX3_reckon_200 : decode cX3_reckon 200 = .ok (.iconst 0, 1) := by decide +kernel
theorem dX3_reckon_201 : decode cX3_reckon 201 = .ok (.iload 7, 2) := by decide +kernel
theorem dX3_reckon_203 : decode cX3_reckon 203 = .ok (.bipush 38, 2) := by decide +kernel
theorem dX3_reckon_205 : decode cX3_reckon 205 = .ok (.if_icmp .ne 7, 3) := by decide +kernel
theorem dX3_reckon_208 : decode cX3_reckon 208 = .ok (.iconst 1, 1) := by decide +kernel
theorem dX3_reckon_209 : decode cX3_reckon 209 = .ok (.goto 4, 3) := by decide +kernel
theorem dX3_reckon_212 : decode cX3_reckon 212 = .ok (.iconst 0, 1) := by decide +kernel
theorem dX3_reckon_213 : decode cX3_reckon 213 = .ok (.if_icmp .ne 10, 3) := by decide +kernel
theorem dX3_reckon_216 : decode cX3_reckon 216 = .ok (.iload 8, 2) := by decide +kernel
theorem dX3_reckon_218 : decode cX3_reckon 218 = .ok (.istore 5, 2) := by decide +kernel
theorem dX3_reckon_220 : decode cX3_reckon 220 = .ok (.goto 72, 3) := by decide +kernel
theorem dX3_reckon_223 : decode cX3_reckon 223 = .ok (.iinc 4 (-1), 3) := by decide +kernel
theorem dX3_reckon_226 : decode cX3_reckon 226 = .ok (.goto 66, 3) := by decide +kernel
theorem dX3_reckon_229 : decode cX3_reckon 229 = .ok (.iload 4, 2) := by decide +kernel
theorem dX3_reckon_231 : decode cX3_reckon 231 = .ok (.iconst 1, 1) := by decide +kernel
theorem dX3_reckon_232 : decode cX3_reckon 232 = .ok (.if_icmp .lt 27, 3) := by decide +kernel
theorem dX3_reckon_235 : decode cX3_reckon 235 = .ok (.iload 7, 2) := by decide +kernel
theorem dX3_reckon_237 : decode cX3_reckon 237 = .ok (.bipush 47, 2) := by decide +kernel
theorem dX3_reckon_239 : decode cX3_reckon 239 = .ok (.if_icmp .eq 10, 3) := by decide +kernel
theorem dX3_reckon_242 : decode cX3_reckon 242 = .ok (.iload 7, 2) := by decide +kernel
theorem dX3_reckon_244 : decode cX3_reckon 244 = .ok (.bipush 37, 2) := by decide +kernel
theorem dX3_reckon_246 : decode cX3_reckon 246 = .ok (.if_icmp .ne 15, 3) := by decide +kernel
theorem dX3_reckon_249 : decode cX3_reckon 249 = .ok (.aload_n 0, 1) := by decide +kernel
theorem dX3_reckon_250 : decode cX3_reckon 250 = .ok (.getfield 18, 3) := by decide +kernel
theorem dX3_reckon_253 : decode cX3_reckon 253 = .ok (.iload 4, 2) := by decide +kernel
theorem dX3_reckon_255 : decode cX3_reckon 255 = .ok (.iaload, 1) := by decide +kernel
theorem dX3_reckon_256 : decode cX3_reckon 256 = .ok (.ifCond .ne 5, 3) := by decide +kernel
theorem dX3_reckon_259 : decode cX3_reckon 259 = .ok (.iconst 0, 1) := by decide +kernel
theorem dX3_reckon_260 : decode cX3_reckon 260 = .ok (.ireturn, 1) := by decide +kernel
theorem dX3_reckon_261 : decode cX3_reckon 261 = .ok (.iinc 4 (-1), 3) := by decide +kernel
theorem dX3_reckon_264 : decode cX3_reckon 264 = .ok (.aload_n 0, 1) := by decide +kernel
theorem dX3_reckon_265 : decode cX3_reckon 265 = .ok (.getfield 18, 3) := by decide +kernel
theorem dX3_reckon_268 : decode cX3_reckon 268 = .ok (.iload 4, 2) := by decide +kernel
theorem dX3_reckon_270 : decode cX3_reckon 270 = .ok (.iload 7, 2) := by decide +kernel
theorem dX3_reckon_272 : decode cX3_reckon 272 = .ok (.aload_n 0, 1) := by decide +kernel
theorem dX3_reckon_273 : decode cX3_reckon 273 = .ok (.getfield 18, 3) := by decide +kernel
theorem dX3_reckon_276 : decode cX3_reckon 276 = .ok (.iload 4, 2) := by decide +kernel
theorem dX3_reckon_278 : decode cX3_reckon 278 = .ok (.iaload, 1) := by decide +kernel
theorem dX3_reckon_279 : decode cX3_reckon 279 = .ok (.aload_n 0, 1) := by decide +kernel
theorem dX3_reckon_280 : decode cX3_reckon 280 = .ok (.getfield 18, 3) := by decide +kernel
theorem dX3_reckon_283 : decode cX3_reckon 283 = .ok (.iload 4, 2) := by decide +kernel
theorem dX3_reckon_285 : decode cX3_reckon 285 = .ok (.iconst 1, 1) := by decide +kernel
theorem dX3_reckon_286 : decode cX3_reckon 286 = .ok (.iadd, 1) := by decide +kernel
theorem dX3_reckon_287 : decode cX3_reckon 287 = .ok (.iaload, 1) := by decide +kernel
theorem dX3_reckon_288 : decode cX3_reckon 288 = .ok (.invokestatic 117, 3) := by decide +kernel
theorem dX3_reckon_291 : decode cX3_reckon 291 = .ok (.iastore, 1) := by decide +kernel
theorem dX3_reckon_292 : decode cX3_reckon 292 = .ok (.iinc 6 1, 3) := by decide +kernel
theorem dX3_reckon_295 : decode cX3_reckon 295 = .ok (.goto (-286), 3) := by decide +kernel
theorem dX3_reckon_298 : decode cX3_reckon 298 = .ok (.iload 4, 2) := by decide +kernel
theorem dX3_reckon_300 : decode cX3_reckon 300 = .ok (.ifCond .ge 7, 3) := by decide +kernel
theorem dX3_reckon_303 : decode cX3_reckon 303 = .ok (.iconst 0, 1) := by decide +kernel
theorem dX3_reckon_304 : decode cX3_reckon 304 = .ok (.goto 10, 3) := by decide +kernel
theorem dX3_reckon_307 : decode cX3_reckon 307 = .ok (.aload_n 0, 1) := by decide +kernel
theorem dX3_reckon_308 : decode cX3_reckon 308 = .ok (.getfield 18, 3) := by decide +kernel
theorem dX3_reckon_311 : decode cX3_reckon 311 = .ok (.iload 4, 2) := by decide +kernel
theorem dX3_reckon_313 : decode cX3_reckon 313 = .ok (.iaload, 1) := by decide +kernel
theorem dX3_reckon_314 : decode cX3_reckon 314 = .ok (.ireturn, 1) := by decide +kernel
set_option maxHeartbeats 4000000 in
theorem s_X3_order (c : Nat) (hc : isL c) (v1 : Int32) (v2 : Int32) (M : Mem) : AM yX3_order cX3_order 3 none 0 60 glC (fun ad => [.ref (ad c), .int v1, .int v2]) M (PV (fun M' => ∀ a, a ≠ c → a ≠ (c + 1) → a ≠ (c + 2) → M' a = M a)) := by
  refine AM.of (by decide) (fun _ => Nat.le_of_ble_eq_true rfl) (fun X ad cI cZ cB hX hR => ?_)
  show V X M [(0, .ref (ad c)), (1, .int v1), (2, .int v2)] [] 0
  have hc0 : c = 44 ∨ c = 52 := hc
  have hf_0 : ∀ a, a ≠ c → a ≠ (c + 1) → a ≠ (c + 2) → M a = M a := fun _ _ _ _ => rfl
  refine s_aload_n (k := 0) hX dX3_order_0 rfl rfl ?_
  refine s_get hX fX3_33 (oL hc) rfl dX3_order_1 ?_
  refine s_if_lt (tgt := 47) hX dX3_order_4 (by decide) (fun c4 => ?_) (fun c4 => ?_)
  · replace c4 := z_lt.mp c4
    exact s_vret hX hR dX3_order_47 hf_0
  · replace c4 := mt z_lt.mpr c4
    refine s_aload_n (k := 0) hX dX3_order_7 rfl rfl ?_
    refine s_get hX fX3_33 (oL hc) rfl dX3_order_8 ?_
    refine s_sipush (v := (nI 240)) hX dX3_order_11 (by decide) ?_
    refine s_icmp_ge (tgt := 47) hX dX3_order_14 (by decide) (fun c14 => ?_) (fun c14 => ?_)
    · replace c14 := (q_ge (by omega)).mp c14
      exact s_vret hX hR dX3_order_47 hf_0
    · replace c14 := mt (q_ge (by omega)).mpr c14
      refine s_aload_n (k := 0) hX dX3_order_17 rfl rfl ?_
      refine s_get hX fX3_9 (oL hc) rfl dX3_order_18 ?_
      refine s_aload_n (k := 0) hX dX3_order_21 rfl rfl ?_
      refine s_get hX fX3_33 (oL hc) rfl dX3_order_22 ?_
      refine s_iload_n (k := 1) hX dX3_order_25 rfl rfl ?_
      refine s_iast hX (aL1 hc) (vp_in_iff.mpr (by omega)) dX3_order_26 ?_
      refine s_mem (fun M_1 eM_1 => ?_)
      have hfM_1 : ∀ a, a ≠ c → a ≠ (c + 1) → a ≠ (c + 2) → M_1 a = M a := fun a q0 q1 q2 => (congrFun eM_1 a).trans ((mset_n (by omega)).trans (hf_0 a q0 q1 q2))
      refine s_aload_n (k := 0) hX dX3_order_27 rfl rfl ?_
      refine s_get hX fX3_15 (oL hc) rfl dX3_order_28 ?_
      refine s_aload_n (k := 0) hX dX3_order_31 rfl rfl ?_
      refine s_get hX fX3_33 (oL hc) rfl dX3_order_32 ?_
      refine s_top (y := M c 7) (by rw [eM_1, mset_n (by omega)]) ?_
      refine s_iload_n (k := 2) hX dX3_order_35 rfl rfl ?_
      refine s_iast hX (aL2 hc) (vp_in_iff.mpr (by omega)) dX3_order_36 ?_
      refine s_mem (fun M_2 eM_2 => ?_)
      have hfM_2 : ∀ a, a ≠ c → a ≠ (c + 1) → a ≠ (c + 2) → M_2 a = M a := fun a q0 q1 q2 => (congrFun eM_2 a).trans ((mset_n (by omega)).trans (hfM_1 a q0 q1 q2))
      refine s_aload_n (k := 0) hX dX3_order_37 rfl rfl ?_
      refine s_dup hX dX3_order_38 rfl ?_
      refine s_get hX fX3_33 (oL hc) rfl dX3_order_39 ?_
      refine s_top (y := M c 7) (by rw [eM_2, mset_n (by omega), eM_1, mset_n (by omega)]) ?_
      refine s_iconst (v := (nI 1)) hX dX3_order_42 (by decide) ?_
      refine s_iadd hX dX3_order_43 ?_
      refine s_puti (ty := .int) hX fX3_33 (oL hc) rfl (Nat.le_of_ble_eq_true rfl) ty_3_7 rfl rfl dX3_order_44 ?_
      refine s_mem (fun M_3 eM_3 => ?_)
      have hfM_3 : ∀ a, a ≠ c → a ≠ (c + 1) → a ≠ (c + 2) → M_3 a = M a := fun a q0 q1 q2 => (congrFun eM_3 a).trans ((mset_n (by omega)).trans (hfM_2 a q0 q1 q2))
      exact s_vret hX hR dX3_order_47 hfM_3
set_option maxHeartbeats 4000000 in
theorem s_X3_landHere (c : Nat) (hc : isL c) (v1 : Int32) (M : Mem) : AM yX3_landHere cX3_landHere 2 none 0 60 glC (fun ad => [.ref (ad c), .int v1]) M (PV (fun M' => ∀ a, a ≠ (c + 2) → M' a = M a)) := by
  refine AM.of (by decide) (fun _ => Nat.le_of_ble_eq_true rfl) (fun X ad cI cZ cB hX hR => ?_)
  show V X M [(0, .ref (ad c)), (1, .int v1)] [] 0
  have hc0 : c = 44 ∨ c = 52 := hc
  have hf_0 : ∀ a, a ≠ (c + 2) → M a = M a := fun _ _ => rfl
  refine s_iload_n (k := 1) hX dX3_landHere_0 rfl rfl ?_
  refine s_if_lt (tgt := 29) hX dX3_landHere_1 (by decide) (fun c1 => ?_) (fun c1 => ?_)
  · replace c1 := z_lt.mp c1
    exact s_vret hX hR dX3_landHere_29 hf_0
  · replace c1 := mt z_lt.mpr c1
    refine s_iload_n (k := 1) hX dX3_landHere_4 rfl rfl ?_
    refine s_aload_n (k := 0) hX dX3_landHere_5 rfl rfl ?_
    refine s_get hX fX3_33 (oL hc) rfl dX3_landHere_6 ?_
    refine s_icmp_ge (tgt := 29) hX dX3_landHere_9 (by decide) (fun c9 => ?_) (fun c9 => ?_)
    · replace c9 := Int32.le_iff_toInt_le.mp c9
      exact s_vret hX hR dX3_landHere_29 hf_0
    · replace c9 := mt Int32.le_iff_toInt_le.mpr c9
      refine s_iload_n (k := 1) hX dX3_landHere_12 rfl rfl ?_
      refine s_sipush (v := (nI 240)) hX dX3_landHere_13 (by decide) ?_
      refine s_icmp_ge (tgt := 29) hX dX3_landHere_16 (by decide) (fun c16 => ?_) (fun c16 => ?_)
      · replace c16 := (q_ge (by omega)).mp c16
        exact s_vret hX hR dX3_landHere_29 hf_0
      · replace c16 := mt (q_ge (by omega)).mpr c16
        refine s_aload_n (k := 0) hX dX3_landHere_19 rfl rfl ?_
        refine s_get hX fX3_15 (oL hc) rfl dX3_landHere_20 ?_
        refine s_iload_n (k := 1) hX dX3_landHere_23 rfl rfl ?_
        refine s_aload_n (k := 0) hX dX3_landHere_24 rfl rfl ?_
        refine s_get hX fX3_33 (oL hc) rfl dX3_landHere_25 ?_
        refine s_iast hX (aL2 hc) (vp_in_iff.mpr (by omega)) dX3_landHere_28 ?_
        refine s_mem (fun M_1 eM_1 => ?_)
        have hfM_1 : ∀ a, a ≠ (c + 2) → M_1 a = M a := fun a q0 => (congrFun eM_1 a).trans ((mset_n (by omega)).trans (hf_0 a q0))
        exact s_vret hX hR dX3_landHere_29 hfM_1
set_option maxHeartbeats 4000000 in
theorem s_X3_combine (v0 : Int32) (v1 : Int32) (v2 : Int32) (M : Mem) : AM yX3_combine cX3_combine 3 (some .int) 0 60 glC (fun ad => [.int v0, .int v1, .int v2]) M (PI (fun _ M' => M = M')) := by
  refine AM.of (by decide) (fun _ => Nat.le_of_ble_eq_true rfl) (fun X ad cI cZ cB hX hR => ?_)
  show V X M [(0, .int v0), (1, .int v1), (2, .int v2)] [] 0
  refine s_iload_n (k := 0) hX dX3_combine_0 rfl rfl ?_
  by_cases k1_0 : v0 = nI 37
  · subst k1_0
    refine s_lookup (tgt := 92) (off := 91) hX dX3_combine_1 (by decide) (by decide) (by decide) ?_
    refine s_iload_n (k := 2) hX dX3_combine_92 rfl rfl ?_
    refine s_if_ne (tgt := 100) hX dX3_combine_93 (by decide) (fun c93 => ?_) (fun c93 => ?_)
    · replace c93 := mt z_eq.mpr c93
      refine s_iload_n (k := 1) hX dX3_combine_100 rfl rfl ?_
      refine s_iload_n (k := 2) hX dX3_combine_101 rfl rfl ?_
      refine s_irem hX dX3_combine_102 (fun z => c93 (by rw [z]; decide)) ?_
      exact s_iret hX hR dX3_combine_103 rfl
    · replace c93 := z_eq.mp c93
      refine s_iconst (v := (nI 0)) hX dX3_combine_96 (by decide) ?_
      refine s_goto (tgt := 103) hX dX3_combine_97 (by decide) ?_
      exact s_iret hX hR dX3_combine_103 rfl
  · skip
    by_cases k1_1 : v0 = nI 42
    · subst k1_1
      refine s_lookup (tgt := 76) (off := 75) hX dX3_combine_1 (by decide) (by decide) (by decide) ?_
      refine s_iload_n (k := 1) hX dX3_combine_76 rfl rfl ?_
      refine s_iload_n (k := 2) hX dX3_combine_77 rfl rfl ?_
      refine s_imul hX dX3_combine_78 ?_
      exact s_iret hX hR dX3_combine_79 rfl
    · skip
      by_cases k1_2 : v0 = nI 43
      · subst k1_2
        refine s_lookup (tgt := 68) (off := 67) hX dX3_combine_1 (by decide) (by decide) (by decide) ?_
        refine s_iload_n (k := 1) hX dX3_combine_68 rfl rfl ?_
        refine s_iload_n (k := 2) hX dX3_combine_69 rfl rfl ?_
        refine s_iadd hX dX3_combine_70 ?_
        exact s_iret hX hR dX3_combine_71 rfl
      · skip
        by_cases k1_3 : v0 = nI 45
        · subst k1_3
          refine s_lookup (tgt := 72) (off := 71) hX dX3_combine_1 (by decide) (by decide) (by decide) ?_
          refine s_iload_n (k := 1) hX dX3_combine_72 rfl rfl ?_
          refine s_iload_n (k := 2) hX dX3_combine_73 rfl rfl ?_
          refine s_isub hX dX3_combine_74 ?_
          exact s_iret hX hR dX3_combine_75 rfl
        · skip
          by_cases k1_4 : v0 = nI 47
          · subst k1_4
            refine s_lookup (tgt := 80) (off := 79) hX dX3_combine_1 (by decide) (by decide) (by decide) ?_
            refine s_iload_n (k := 2) hX dX3_combine_80 rfl rfl ?_
            refine s_if_ne (tgt := 88) hX dX3_combine_81 (by decide) (fun c81 => ?_) (fun c81 => ?_)
            · replace c81 := mt z_eq.mpr c81
              refine s_iload_n (k := 1) hX dX3_combine_88 rfl rfl ?_
              refine s_iload_n (k := 2) hX dX3_combine_89 rfl rfl ?_
              refine s_idiv hX dX3_combine_90 (fun z => c81 (by rw [z]; decide)) ?_
              exact s_iret hX hR dX3_combine_91 rfl
            · replace c81 := z_eq.mp c81
              refine s_iconst (v := (nI 0)) hX dX3_combine_84 (by decide) ?_
              refine s_goto (tgt := 91) hX dX3_combine_85 (by decide) ?_
              exact s_iret hX hR dX3_combine_91 rfl
          · skip
            by_cases k1_5 : v0 = nI 60
            · subst k1_5
              refine s_lookup (tgt := 104) (off := 103) hX dX3_combine_1 (by decide) (by decide) (by decide) ?_
              refine s_iload_n (k := 1) hX dX3_combine_104 rfl rfl ?_
              refine s_iload_n (k := 2) hX dX3_combine_105 rfl rfl ?_
              refine s_icmp_ge (tgt := 113) hX dX3_combine_106 (by decide) (fun c106 => ?_) (fun c106 => ?_)
              · replace c106 := Int32.le_iff_toInt_le.mp c106
                refine s_iconst (v := (nI 0)) hX dX3_combine_113 (by decide) ?_
                exact s_iret hX hR dX3_combine_114 rfl
              · replace c106 := mt Int32.le_iff_toInt_le.mpr c106
                refine s_iconst (v := (nI 1)) hX dX3_combine_109 (by decide) ?_
                refine s_goto (tgt := 114) hX dX3_combine_110 (by decide) ?_
                exact s_iret hX hR dX3_combine_114 rfl
            · skip
              by_cases k1_6 : v0 = nI 62
              · subst k1_6
                refine s_lookup (tgt := 115) (off := 114) hX dX3_combine_1 (by decide) (by decide) (by decide) ?_
                refine s_iload_n (k := 1) hX dX3_combine_115 rfl rfl ?_
                refine s_iload_n (k := 2) hX dX3_combine_116 rfl rfl ?_
                refine s_icmp_le (tgt := 124) hX dX3_combine_117 (by decide) (fun c117 => ?_) (fun c117 => ?_)
                · replace c117 := Int32.le_iff_toInt_le.mp c117
                  refine s_iconst (v := (nI 0)) hX dX3_combine_124 (by decide) ?_
                  exact s_iret hX hR dX3_combine_125 rfl
                · replace c117 := mt Int32.le_iff_toInt_le.mpr c117
                  refine s_iconst (v := (nI 1)) hX dX3_combine_120 (by decide) ?_
                  refine s_goto (tgt := 125) hX dX3_combine_121 (by decide) ?_
                  exact s_iret hX hR dX3_combine_125 rfl
              · refine s_lookup (tgt := 126) (off := 125) hX dX3_combine_1 (by decide) (by show Op.lookupswitch.offset [(37, 91), (42, 75), (43, 67), (45, 71), (47, 79), (60, 103), (62, 114)] 125 v0.toInt = 125; rw [lv_osw k1_0 (by decide), lv_osw k1_1 (by decide), lv_osw k1_2 (by decide), lv_osw k1_3 (by decide), lv_osw k1_4 (by decide), lv_osw k1_5 (by decide), lv_osw k1_6 (by decide)]; rfl) (by decide) ?_
                refine s_iload_n (k := 1) hX dX3_combine_126 rfl rfl ?_
                refine s_iload_n (k := 2) hX dX3_combine_127 rfl rfl ?_
                refine s_icmp_ne (tgt := 135) hX dX3_combine_128 (by decide) (fun c128 => ?_) (fun c128 => ?_)
                · replace c128 := mt Int32.toInt_inj.symm.mpr c128
                  refine s_iconst (v := (nI 0)) hX dX3_combine_135 (by decide) ?_
                  exact s_iret hX hR dX3_combine_136 rfl
                · replace c128 := Int32.toInt_inj.symm.mp c128
                  refine s_iconst (v := (nI 1)) hX dX3_combine_131 (by decide) ?_
                  refine s_goto (tgt := 136) hX dX3_combine_132 (by decide) ?_
                  exact s_iret hX hR dX3_combine_136 rfl
set_option maxHeartbeats 4000000 in
theorem s_X3_reckon (c : Nat) (hc : isL c) (v1 : Int32) (v2 : Int32) (M : Mem) : AM yX3_reckon cX3_reckon 9 (some .int) 1 60 glC (fun ad => [.ref (ad c), .int v1, .int v2, .ref (ad 22)]) M (PI (fun _ M' => ∀ a, a ≠ (c + 3) → M' a = M a)) := by
  refine AM.of (by decide) (fun _ => Nat.le_of_ble_eq_true rfl) (fun X ad cI cZ cB hX hR => ?_)
  show V X M [(0, .ref (ad c)), (1, .int v1), (2, .int v2), (3, .ref (ad 22))] [] 0
  have hc0 : c = 44 ∨ c = 52 := hc
  have hf_0 : ∀ a, a ≠ (c + 3) → M a = M a := fun _ _ => rfl
  refine s_iconst (v := (-1)) hX dX3_reckon_0 (by decide) ?_
  refine s_istore (lv' := [(0, .ref (ad c)), (1, .int v1), (2, .int v2), (3, .ref (ad 22)), (4, .int (-1))]) hX dX3_reckon_1 (by decide) rfl ?_
  refine s_iload_n (k := 1) hX dX3_reckon_3 rfl rfl ?_
  refine s_istore (lv' := [(0, .ref (ad c)), (1, .int v1), (2, .int v2), (3, .ref (ad 22)), (4, .int (-1)), (5, .int v1)]) hX dX3_reckon_4 (by decide) rfl ?_
  refine s_iconst (v := (nI 0)) hX dX3_reckon_6 (by decide) ?_
  refine s_istore (lv' := [(0, .ref (ad c)), (1, .int v1), (2, .int v2), (3, .ref (ad 22)), (4, .int (-1)), (5, .int v1), (6, .int (nI 0))]) hX dX3_reckon_7 (by decide) rfl ?_
  have lp9 : ∀ (N9 : Nat) (i9 : Nat) (y4_9 y5_9 : Int32) (M9 : Mem), (i9 ≤ 240) → (240 < i9 + N9) → (∀ a, a ≠ (c + 3) → M9 a = M a) → (-1 ≤ y4_9.toInt ∧ y4_9.toInt ≤ 31) → V X M9 [(0, .ref (ad c)), (1, .int v1), (2, .int v2), (3, .ref (ad 22)), (4, .int y4_9), (5, .int y5_9), (6, .int (nI i9))] [] 9 := by
    intro N9
    induction N9 with
    | zero => intro i9 y4_9 y5_9 M9 hi9 hN9 hf_9 ht9; exact absurd hN9 (by omega)
    | succ N9 ih9 =>
      intro i9 y4_9 y5_9 M9 hi9 hN9 hf_9 ht9
      refine s_iload (k := 6) hX dX3_reckon_9 rfl ?_
      refine s_sipush (v := (nI 240)) hX dX3_reckon_11 (by decide) ?_
      refine s_icmp_ge (tgt := 298) hX dX3_reckon_14 (by decide) (fun c14 => ?_) (fun c14 => ?_)
      · replace c14 := (nI_leI (by omega) (by omega)).mp c14
        refine s_iload (k := 4) hX dX3_reckon_298 rfl ?_
        refine s_if_ge (tgt := 307) hX dX3_reckon_300 (by decide) (fun c300 => ?_) (fun c300 => ?_)
        · replace c300 := z_ge.mp c300
          refine s_aload_n (k := 0) hX dX3_reckon_307 rfl rfl ?_
          refine s_get hX fX3_18 (oL hc) rfl dX3_reckon_308 ?_
          refine s_iload (k := 4) hX dX3_reckon_311 rfl ?_
          refine s_iald hX (aL3 hc) (vp_in_iff.mpr (by omega)) dX3_reckon_313 ?_
          exact s_iret hX hR dX3_reckon_314 hf_9
        · replace c300 := mt z_ge.mpr c300
          refine s_iconst (v := (nI 0)) hX dX3_reckon_303 (by decide) ?_
          refine s_goto (tgt := 314) hX dX3_reckon_304 (by decide) ?_
          exact s_iret hX hR dX3_reckon_314 hf_9
      · replace c14 := mt (nI_leI (by omega) (by omega)).mpr c14
        refine s_iload (k := 5) hX dX3_reckon_17 rfl ?_
        refine s_if_lt (tgt := 298) hX dX3_reckon_19 (by decide) (fun c19 => ?_) (fun c19 => ?_)
        · replace c19 := z_lt.mp c19
          refine s_iload (k := 4) hX dX3_reckon_298 rfl ?_
          refine s_if_ge (tgt := 307) hX dX3_reckon_300 (by decide) (fun c300 => ?_) (fun c300 => ?_)
          · replace c300 := z_ge.mp c300
            refine s_aload_n (k := 0) hX dX3_reckon_307 rfl rfl ?_
            refine s_get hX fX3_18 (oL hc) rfl dX3_reckon_308 ?_
            refine s_iload (k := 4) hX dX3_reckon_311 rfl ?_
            refine s_iald hX (aL3 hc) (vp_in_iff.mpr (by omega)) dX3_reckon_313 ?_
            exact s_iret hX hR dX3_reckon_314 hf_9
          · replace c300 := mt z_ge.mpr c300
            refine s_iconst (v := (nI 0)) hX dX3_reckon_303 (by decide) ?_
            refine s_goto (tgt := 314) hX dX3_reckon_304 (by decide) ?_
            exact s_iret hX hR dX3_reckon_314 hf_9
        · replace c19 := mt z_lt.mpr c19
          refine s_iload (k := 5) hX dX3_reckon_22 rfl ?_
          refine s_iload_n (k := 2) hX dX3_reckon_24 rfl rfl ?_
          refine s_icmp_ge (tgt := 298) hX dX3_reckon_25 (by decide) (fun c25 => ?_) (fun c25 => ?_)
          · replace c25 := Int32.le_iff_toInt_le.mp c25
            refine s_iload (k := 4) hX dX3_reckon_298 rfl ?_
            refine s_if_ge (tgt := 307) hX dX3_reckon_300 (by decide) (fun c300 => ?_) (fun c300 => ?_)
            · replace c300 := z_ge.mp c300
              refine s_aload_n (k := 0) hX dX3_reckon_307 rfl rfl ?_
              refine s_get hX fX3_18 (oL hc) rfl dX3_reckon_308 ?_
              refine s_iload (k := 4) hX dX3_reckon_311 rfl ?_
              refine s_iald hX (aL3 hc) (vp_in_iff.mpr (by omega)) dX3_reckon_313 ?_
              exact s_iret hX hR dX3_reckon_314 hf_9
            · replace c300 := mt z_ge.mpr c300
              refine s_iconst (v := (nI 0)) hX dX3_reckon_303 (by decide) ?_
              refine s_goto (tgt := 314) hX dX3_reckon_304 (by decide) ?_
              exact s_iret hX hR dX3_reckon_314 hf_9
          · replace c25 := mt Int32.le_iff_toInt_le.mpr c25
            refine s_iload (k := 5) hX dX3_reckon_28 rfl ?_
            refine s_aload_n (k := 0) hX dX3_reckon_30 rfl rfl ?_
            refine s_get hX fX3_33 (oL hc) rfl dX3_reckon_31 ?_
            refine s_icmp_ge (tgt := 298) hX dX3_reckon_34 (by decide) (fun c34 => ?_) (fun c34 => ?_)
            · replace c34 := Int32.le_iff_toInt_le.mp c34
              refine s_iload (k := 4) hX dX3_reckon_298 rfl ?_
              refine s_if_ge (tgt := 307) hX dX3_reckon_300 (by decide) (fun c300 => ?_) (fun c300 => ?_)
              · replace c300 := z_ge.mp c300
                refine s_aload_n (k := 0) hX dX3_reckon_307 rfl rfl ?_
                refine s_get hX fX3_18 (oL hc) rfl dX3_reckon_308 ?_
                refine s_iload (k := 4) hX dX3_reckon_311 rfl ?_
                refine s_iald hX (aL3 hc) (vp_in_iff.mpr (by omega)) dX3_reckon_313 ?_
                exact s_iret hX hR dX3_reckon_314 hf_9
              · replace c300 := mt z_ge.mpr c300
                refine s_iconst (v := (nI 0)) hX dX3_reckon_303 (by decide) ?_
                refine s_goto (tgt := 314) hX dX3_reckon_304 (by decide) ?_
                exact s_iret hX hR dX3_reckon_314 hf_9
            · replace c34 := mt Int32.le_iff_toInt_le.mpr c34
              refine s_iload (k := 5) hX dX3_reckon_37 rfl ?_
              refine s_sipush (v := (nI 240)) hX dX3_reckon_39 (by decide) ?_
              refine s_icmp_ge (tgt := 298) hX dX3_reckon_42 (by decide) (fun c42 => ?_) (fun c42 => ?_)
              · replace c42 := (q_ge (by omega)).mp c42
                refine s_iload (k := 4) hX dX3_reckon_298 rfl ?_
                refine s_if_ge (tgt := 307) hX dX3_reckon_300 (by decide) (fun c300 => ?_) (fun c300 => ?_)
                · replace c300 := z_ge.mp c300
                  refine s_aload_n (k := 0) hX dX3_reckon_307 rfl rfl ?_
                  refine s_get hX fX3_18 (oL hc) rfl dX3_reckon_308 ?_
                  refine s_iload (k := 4) hX dX3_reckon_311 rfl ?_
                  refine s_iald hX (aL3 hc) (vp_in_iff.mpr (by omega)) dX3_reckon_313 ?_
                  exact s_iret hX hR dX3_reckon_314 hf_9
                · replace c300 := mt z_ge.mpr c300
                  refine s_iconst (v := (nI 0)) hX dX3_reckon_303 (by decide) ?_
                  refine s_goto (tgt := 314) hX dX3_reckon_304 (by decide) ?_
                  exact s_iret hX hR dX3_reckon_314 hf_9
              · replace c42 := mt (q_ge (by omega)).mpr c42
                refine s_aload_n (k := 0) hX dX3_reckon_45 rfl rfl ?_
                refine s_get hX fX3_9 (oL hc) rfl dX3_reckon_46 ?_
                refine s_iload (k := 5) hX dX3_reckon_49 rfl ?_
                refine s_iald hX (aL1 hc) (vp_in_iff.mpr (by omega)) dX3_reckon_51 ?_
                refine s_topi (fun x7_4 ex7_4 => ?_)
                refine s_istore (lv' := [(0, .ref (ad c)), (1, .int v1), (2, .int v2), (3, .ref (ad 22)), (4, .int y4_9), (5, .int y5_9), (6, .int (nI i9)), (7, .int x7_4)]) hX dX3_reckon_52 (by decide) rfl ?_
                refine s_aload_n (k := 0) hX dX3_reckon_54 rfl rfl ?_
                refine s_get hX fX3_15 (oL hc) rfl dX3_reckon_55 ?_
                refine s_iload (k := 5) hX dX3_reckon_58 rfl ?_
                refine s_iald hX (aL2 hc) (vp_in_iff.mpr (by omega)) dX3_reckon_60 ?_
                refine s_topi (fun x8_5 ex8_5 => ?_)
                refine s_istore (lv' := [(0, .ref (ad c)), (1, .int v1), (2, .int v2), (3, .ref (ad 22)), (4, .int y4_9), (5, .int y5_9), (6, .int (nI i9)), (7, .int x7_4), (8, .int x8_5)]) hX dX3_reckon_61 (by decide) rfl ?_
                obtain ⟨x5_6, ex5_6⟩ : ∃ z : Int32, z = y5_9 + Int32.ofInt (1) := ⟨_, rfl⟩
                refine s_iinc (k := 5) (v := x5_6) (lv' := [(0, .ref (ad c)), (1, .int v1), (2, .int v2), (3, .ref (ad 22)), (4, .int y4_9), (6, .int (nI i9)), (7, .int x7_4), (8, .int x8_5), (5, .int x5_6)]) hX dX3_reckon_63 ex5_6.symm (by decide) rfl rfl ?_
                refine s_iload (k := 6) hX dX3_reckon_66 rfl ?_
                refine s_bipush (v := (nI 48)) hX dX3_reckon_68 (by decide) ?_
                refine s_icmp_eq (tgt := 80) hX dX3_reckon_70 (by decide) (fun c70 => ?_) (fun c70 => ?_)
                · replace c70 := (q_eq (by omega)).mp c70
                  have et1 : (y4_9 + nI 1).toInt = y4_9.toInt + 1 := add1 ht9
                  refine s_iload (k := 4) hX dX3_reckon_80 rfl ?_
                  refine s_iconst (v := (nI 1)) hX dX3_reckon_82 (by decide) ?_
                  refine s_iadd hX dX3_reckon_83 ?_
                  refine s_top (y := y4_9 + nI 1) (rfl) ?_
                  refine s_bipush (v := (nI 32)) hX dX3_reckon_84 (by decide) ?_
                  refine s_icmp_ge (tgt := 108) hX dX3_reckon_86 (by decide) (fun c86 => ?_) (fun c86 => ?_)
                  · replace c86 := (q_ge (by omega)).mp c86
                    refine s_iconst (v := (nI 0)) hX dX3_reckon_108 (by decide) ?_
                    exact s_iret hX hR dX3_reckon_109 hf_9
                  · replace c86 := mt (q_ge (by omega)).mpr c86
                    refine s_iload (k := 6) hX dX3_reckon_89 rfl ?_
                    refine s_bipush (v := (nI 97)) hX dX3_reckon_91 (by decide) ?_
                    refine s_icmp_ne (tgt := 110) hX dX3_reckon_93 (by decide) (fun c93 => ?_) (fun c93 => ?_)
                    · replace c93 := mt (q_eq (by omega)).mpr c93
                      obtain ⟨u1, eu1⟩ : ∃ z : Int32, z = y4_9 + Int32.ofInt 1 := ⟨_, rfl⟩
                      have hv1 : u1.toInt = y4_9.toInt + 1 := by rw [eu1]; exact add1 ht9
                      have hu1 : -1 ≤ u1.toInt ∧ u1.toInt ≤ 31 := by omega
                      refine s_iinc (k := 4) (v := u1) (lv' := [(0, .ref (ad c)), (1, .int v1), (2, .int v2), (3, .ref (ad 22)), (6, .int (nI i9)), (7, .int x7_4), (8, .int x8_5), (5, .int x5_6), (4, .int u1)]) hX dX3_reckon_110 eu1.symm (by decide) rfl rfl ?_
                      refine s_aload_n (k := 0) hX dX3_reckon_113 rfl rfl ?_
                      refine s_get hX fX3_18 (oL hc) rfl dX3_reckon_114 ?_
                      refine s_iload (k := 8) hX dX3_reckon_117 rfl ?_
                      refine s_iload (k := 5) hX dX3_reckon_119 rfl ?_
                      refine s_bipush (v := (nI 48)) hX dX3_reckon_121 (by decide) ?_
                      refine s_icmp_ne (tgt := 131) hX dX3_reckon_123 (by decide) (fun c123 => ?_) (fun c123 => ?_)
                      · replace c123 := mt (q_eq (by omega)).mpr c123
                        refine s_aload_n (k := 3) hX dX3_reckon_131 rfl rfl ?_
                        refine s_iload (k := 6) hX dX3_reckon_132 rfl ?_
                        refine s_iald hX aC22 (vp_in_iff.mpr (by omega)) dX3_reckon_134 ?_
                        refine s_iast hX (aL3 hc) (vp_in_iff.mpr (by omega)) dX3_reckon_135 ?_
                        refine s_mem (fun M_7 eM_7 => ?_)
                        have hfM_7 : ∀ a, a ≠ (c + 3) → M_7 a = M a := fun a q0 => (congrFun eM_7 a).trans ((mset_n (by omega)).trans (hf_9 a q0))
                        refine s_goto (tgt := 292) hX dX3_reckon_136 (by decide) ?_
                        refine s_iinc (k := 4) (v := nI (i9 + 1)) (lv' := [(0, .ref (ad c)), (1, .int v1), (2, .int v2), (3, .ref (ad 22)), (7, .int x7_4), (8, .int x8_5), (5, .int x5_6), (4, .int u1), (6, .int (nI (i9 + 1)))]) hX dX3_reckon_292 (nI_1 _) (by decide) rfl rfl ?_
                        refine s_goto (tgt := 9) hX dX3_reckon_295 (by decide) ?_
                        refine s_loc [0, 1, 2, 3, 7, 6, 8] rfl ?_
                        exact ih9 _ _ _ _ (by omega) (by omega) hfM_7 hu1
                      · replace c123 := (q_eq (by omega)).mp c123
                        refine s_iload (k := 6) hX dX3_reckon_126 rfl ?_
                        refine s_goto (tgt := 135) hX dX3_reckon_128 (by decide) ?_
                        refine s_iast hX (aL3 hc) (vp_in_iff.mpr (by omega)) dX3_reckon_135 ?_
                        refine s_mem (fun M_8 eM_8 => ?_)
                        have hfM_8 : ∀ a, a ≠ (c + 3) → M_8 a = M a := fun a q0 => (congrFun eM_8 a).trans ((mset_n (by omega)).trans (hf_9 a q0))
                        refine s_goto (tgt := 292) hX dX3_reckon_136 (by decide) ?_
                        refine s_iinc (k := 4) (v := nI (i9 + 1)) (lv' := [(0, .ref (ad c)), (1, .int v1), (2, .int v2), (3, .ref (ad 22)), (7, .int x7_4), (8, .int x8_5), (5, .int x5_6), (4, .int u1), (6, .int (nI (i9 + 1)))]) hX dX3_reckon_292 (nI_1 _) (by decide) rfl rfl ?_
                        refine s_goto (tgt := 9) hX dX3_reckon_295 (by decide) ?_
                        refine s_loc [0, 1, 2, 3, 7, 6, 8] rfl ?_
                        exact ih9 _ _ _ _ (by omega) (by omega) hfM_8 hu1
                    · replace c93 := (q_eq (by omega)).mp c93
                      refine s_iload (k := 7) hX dX3_reckon_96 rfl ?_
                      refine s_if_lt (tgt := 108) hX dX3_reckon_98 (by decide) (fun c98 => ?_) (fun c98 => ?_)
                      · replace c98 := z_lt.mp c98
                        refine s_iconst (v := (nI 0)) hX dX3_reckon_108 (by decide) ?_
                        exact s_iret hX hR dX3_reckon_109 hf_9
                      · replace c98 := mt z_lt.mpr c98
                        refine s_iload (k := 7) hX dX3_reckon_101 rfl ?_
                        refine s_aload_n (k := 3) hX dX3_reckon_103 rfl rfl ?_
                        refine s_alen (v := nI 8) hX aC22 rfl dX3_reckon_104 ?_
                        refine s_icmp_lt (tgt := 110) hX dX3_reckon_105 (by decide) (fun c105 => ?_) (fun c105 => ?_)
                        · replace c105 := (q_lt (by omega)).mp c105
                          obtain ⟨u1, eu1⟩ : ∃ z : Int32, z = y4_9 + Int32.ofInt 1 := ⟨_, rfl⟩
                          have hv1 : u1.toInt = y4_9.toInt + 1 := by rw [eu1]; exact add1 ht9
                          have hu1 : -1 ≤ u1.toInt ∧ u1.toInt ≤ 31 := by omega
                          refine s_iinc (k := 4) (v := u1) (lv' := [(0, .ref (ad c)), (1, .int v1), (2, .int v2), (3, .ref (ad 22)), (6, .int (nI i9)), (7, .int x7_4), (8, .int x8_5), (5, .int x5_6), (4, .int u1)]) hX dX3_reckon_110 eu1.symm (by decide) rfl rfl ?_
                          refine s_aload_n (k := 0) hX dX3_reckon_113 rfl rfl ?_
                          refine s_get hX fX3_18 (oL hc) rfl dX3_reckon_114 ?_
                          refine s_iload (k := 8) hX dX3_reckon_117 rfl ?_
                          refine s_iload (k := 5) hX dX3_reckon_119 rfl ?_
                          refine s_bipush (v := (nI 48)) hX dX3_reckon_121 (by decide) ?_
                          refine s_icmp_ne (tgt := 131) hX dX3_reckon_123 (by decide) (fun c123 => ?_) (fun c123 => ?_)
                          · replace c123 := mt (q_eq (by omega)).mpr c123
                            refine s_aload_n (k := 3) hX dX3_reckon_131 rfl rfl ?_
                            refine s_iload (k := 6) hX dX3_reckon_132 rfl ?_
                            refine s_iald hX aC22 (vp_in_iff.mpr (by omega)) dX3_reckon_134 ?_
                            refine s_iast hX (aL3 hc) (vp_in_iff.mpr (by omega)) dX3_reckon_135 ?_
                            refine s_mem (fun M_9 eM_9 => ?_)
                            have hfM_9 : ∀ a, a ≠ (c + 3) → M_9 a = M a := fun a q0 => (congrFun eM_9 a).trans ((mset_n (by omega)).trans (hf_9 a q0))
                            refine s_goto (tgt := 292) hX dX3_reckon_136 (by decide) ?_
                            refine s_iinc (k := 4) (v := nI (i9 + 1)) (lv' := [(0, .ref (ad c)), (1, .int v1), (2, .int v2), (3, .ref (ad 22)), (7, .int x7_4), (8, .int x8_5), (5, .int x5_6), (4, .int u1), (6, .int (nI (i9 + 1)))]) hX dX3_reckon_292 (nI_1 _) (by decide) rfl rfl ?_
                            refine s_goto (tgt := 9) hX dX3_reckon_295 (by decide) ?_
                            refine s_loc [0, 1, 2, 3, 7, 6, 8] rfl ?_
                            exact ih9 _ _ _ _ (by omega) (by omega) hfM_9 hu1
                          · replace c123 := (q_eq (by omega)).mp c123
                            refine s_iload (k := 6) hX dX3_reckon_126 rfl ?_
                            refine s_goto (tgt := 135) hX dX3_reckon_128 (by decide) ?_
                            refine s_iast hX (aL3 hc) (vp_in_iff.mpr (by omega)) dX3_reckon_135 ?_
                            refine s_mem (fun M_10 eM_10 => ?_)
                            have hfM_10 : ∀ a, a ≠ (c + 3) → M_10 a = M a := fun a q0 => (congrFun eM_10 a).trans ((mset_n (by omega)).trans (hf_9 a q0))
                            refine s_goto (tgt := 292) hX dX3_reckon_136 (by decide) ?_
                            refine s_iinc (k := 4) (v := nI (i9 + 1)) (lv' := [(0, .ref (ad c)), (1, .int v1), (2, .int v2), (3, .ref (ad 22)), (7, .int x7_4), (8, .int x8_5), (5, .int x5_6), (4, .int u1), (6, .int (nI (i9 + 1)))]) hX dX3_reckon_292 (nI_1 _) (by decide) rfl rfl ?_
                            refine s_goto (tgt := 9) hX dX3_reckon_295 (by decide) ?_
                            refine s_loc [0, 1, 2, 3, 7, 6, 8] rfl ?_
                            exact ih9 _ _ _ _ (by omega) (by omega) hfM_10 hu1
                        · replace c105 := mt (q_lt (by omega)).mpr c105
                          refine s_iconst (v := (nI 0)) hX dX3_reckon_108 (by decide) ?_
                          exact s_iret hX hR dX3_reckon_109 hf_9
                · replace c70 := mt (q_eq (by omega)).mpr c70
                  refine s_iload (k := 6) hX dX3_reckon_73 rfl ?_
                  refine s_bipush (v := (nI 97)) hX dX3_reckon_75 (by decide) ?_
                  refine s_icmp_ne (tgt := 139) hX dX3_reckon_77 (by decide) (fun c77 => ?_) (fun c77 => ?_)
                  · replace c77 := mt (q_eq (by omega)).mpr c77
                    refine s_iload (k := 4) hX dX3_reckon_139 rfl ?_
                    refine s_if_ge (tgt := 146) hX dX3_reckon_141 (by decide) (fun c141 => ?_) (fun c141 => ?_)
                    · replace c141 := z_ge.mp c141
                      refine s_iload (k := 6) hX dX3_reckon_146 rfl ?_
                      refine s_bipush (v := (nI 33)) hX dX3_reckon_148 (by decide) ?_
                      refine s_icmp_ne (tgt := 172) hX dX3_reckon_150 (by decide) (fun c150 => ?_) (fun c150 => ?_)
                      · replace c150 := mt (q_eq (by omega)).mpr c150
                        refine s_iload (k := 6) hX dX3_reckon_172 rfl ?_
                        refine s_bipush (v := (nI 38)) hX dX3_reckon_174 (by decide) ?_
                        refine s_icmp_eq (tgt := 186) hX dX3_reckon_176 (by decide) (fun c176 => ?_) (fun c176 => ?_)
                        · replace c176 := (q_eq (by omega)).mp c176
                          refine s_aload_n (k := 0) hX dX3_reckon_186 rfl rfl ?_
                          refine s_get hX fX3_18 (oL hc) rfl dX3_reckon_187 ?_
                          refine s_iload (k := 4) hX dX3_reckon_190 rfl ?_
                          refine s_iald hX (aL3 hc) (vp_in_iff.mpr (by omega)) dX3_reckon_192 ?_
                          refine s_if_ne (tgt := 200) hX dX3_reckon_193 (by decide) (fun c193 => ?_) (fun c193 => ?_)
                          · refine s_iconst (v := (nI 0)) hX dX3_reckon_200 (by decide) ?_
                            refine s_iload (k := 6) hX dX3_reckon_201 rfl ?_
                            refine s_bipush (v := (nI 38)) hX dX3_reckon_203 (by decide) ?_
                            refine s_icmp_ne (tgt := 212) hX dX3_reckon_205 (by decide) (fun c205 => ?_) (fun c205 => ?_)
                            · replace c205 := mt (q_eq (by omega)).mpr c205
                              refine s_iconst (v := (nI 0)) hX dX3_reckon_212 (by decide) ?_
                              refine s_icmp_ne (tgt := 223) hX dX3_reckon_213 (by decide) (fun c213 => ?_) (fun c213 => ?_)
                              · first | exact absurd (by decide) c213 | exact absurd c213 (by decide)
                              · refine s_iload (k := 7) hX dX3_reckon_216 rfl ?_
                                refine s_istore (lv' := [(0, .ref (ad c)), (1, .int v1), (2, .int v2), (3, .ref (ad 22)), (4, .int y4_9), (6, .int (nI i9)), (7, .int x7_4), (8, .int x8_5), (5, .int x8_5)]) hX dX3_reckon_218 (by decide) rfl ?_
                                refine s_goto (tgt := 292) hX dX3_reckon_220 (by decide) ?_
                                refine s_iinc (k := 5) (v := nI (i9 + 1)) (lv' := [(0, .ref (ad c)), (1, .int v1), (2, .int v2), (3, .ref (ad 22)), (4, .int y4_9), (7, .int x7_4), (8, .int x8_5), (5, .int x8_5), (6, .int (nI (i9 + 1)))]) hX dX3_reckon_292 (nI_1 _) (by decide) rfl rfl ?_
                                refine s_goto (tgt := 9) hX dX3_reckon_295 (by decide) ?_
                                refine s_loc [0, 1, 2, 3, 4, 7, 8] rfl ?_
                                exact ih9 _ _ _ _ (by omega) (by omega) hf_9 ht9
                            · replace c205 := (q_eq (by omega)).mp c205
                              refine s_iconst (v := (nI 1)) hX dX3_reckon_208 (by decide) ?_
                              refine s_goto (tgt := 213) hX dX3_reckon_209 (by decide) ?_
                              refine s_icmp_ne (tgt := 223) hX dX3_reckon_213 (by decide) (fun c213 => ?_) (fun c213 => ?_)
                              · obtain ⟨u2, eu2⟩ : ∃ z : Int32, z = y4_9 + Int32.ofInt (-1) := ⟨_, rfl⟩
                                have hv2 : u2.toInt = y4_9.toInt - 1 := by rw [eu2]; exact dec1 (by omega)
                                have hu2 : -1 ≤ u2.toInt ∧ u2.toInt ≤ 31 := by omega
                                refine s_iinc (k := 4) (v := u2) (lv' := [(0, .ref (ad c)), (1, .int v1), (2, .int v2), (3, .ref (ad 22)), (6, .int (nI i9)), (7, .int x7_4), (8, .int x8_5), (5, .int x5_6), (4, .int u2)]) hX dX3_reckon_223 eu2.symm (by decide) rfl rfl ?_
                                refine s_goto (tgt := 292) hX dX3_reckon_226 (by decide) ?_
                                refine s_iinc (k := 4) (v := nI (i9 + 1)) (lv' := [(0, .ref (ad c)), (1, .int v1), (2, .int v2), (3, .ref (ad 22)), (7, .int x7_4), (8, .int x8_5), (5, .int x5_6), (4, .int u2), (6, .int (nI (i9 + 1)))]) hX dX3_reckon_292 (nI_1 _) (by decide) rfl rfl ?_
                                refine s_goto (tgt := 9) hX dX3_reckon_295 (by decide) ?_
                                refine s_loc [0, 1, 2, 3, 7, 6, 8] rfl ?_
                                exact ih9 _ _ _ _ (by omega) (by omega) hf_9 hu2
                              · first | exact absurd (by decide) c213 | exact absurd c213 (by decide)
                          · refine s_iconst (v := (nI 1)) hX dX3_reckon_196 (by decide) ?_
                            refine s_goto (tgt := 201) hX dX3_reckon_197 (by decide) ?_
                            refine s_iload (k := 6) hX dX3_reckon_201 rfl ?_
                            refine s_bipush (v := (nI 38)) hX dX3_reckon_203 (by decide) ?_
                            refine s_icmp_ne (tgt := 212) hX dX3_reckon_205 (by decide) (fun c205 => ?_) (fun c205 => ?_)
                            · replace c205 := mt (q_eq (by omega)).mpr c205
                              refine s_iconst (v := (nI 0)) hX dX3_reckon_212 (by decide) ?_
                              refine s_icmp_ne (tgt := 223) hX dX3_reckon_213 (by decide) (fun c213 => ?_) (fun c213 => ?_)
                              · obtain ⟨u2, eu2⟩ : ∃ z : Int32, z = y4_9 + Int32.ofInt (-1) := ⟨_, rfl⟩
                                have hv2 : u2.toInt = y4_9.toInt - 1 := by rw [eu2]; exact dec1 (by omega)
                                have hu2 : -1 ≤ u2.toInt ∧ u2.toInt ≤ 31 := by omega
                                refine s_iinc (k := 4) (v := u2) (lv' := [(0, .ref (ad c)), (1, .int v1), (2, .int v2), (3, .ref (ad 22)), (6, .int (nI i9)), (7, .int x7_4), (8, .int x8_5), (5, .int x5_6), (4, .int u2)]) hX dX3_reckon_223 eu2.symm (by decide) rfl rfl ?_
                                refine s_goto (tgt := 292) hX dX3_reckon_226 (by decide) ?_
                                refine s_iinc (k := 4) (v := nI (i9 + 1)) (lv' := [(0, .ref (ad c)), (1, .int v1), (2, .int v2), (3, .ref (ad 22)), (7, .int x7_4), (8, .int x8_5), (5, .int x5_6), (4, .int u2), (6, .int (nI (i9 + 1)))]) hX dX3_reckon_292 (nI_1 _) (by decide) rfl rfl ?_
                                refine s_goto (tgt := 9) hX dX3_reckon_295 (by decide) ?_
                                refine s_loc [0, 1, 2, 3, 7, 6, 8] rfl ?_
                                exact ih9 _ _ _ _ (by omega) (by omega) hf_9 hu2
                              · first | exact absurd (by decide) c213 | exact absurd c213 (by decide)
                            · replace c205 := (q_eq (by omega)).mp c205
                              refine s_iconst (v := (nI 1)) hX dX3_reckon_208 (by decide) ?_
                              refine s_goto (tgt := 213) hX dX3_reckon_209 (by decide) ?_
                              refine s_icmp_ne (tgt := 223) hX dX3_reckon_213 (by decide) (fun c213 => ?_) (fun c213 => ?_)
                              · first | exact absurd (by decide) c213 | exact absurd c213 (by decide)
                              · refine s_iload (k := 7) hX dX3_reckon_216 rfl ?_
                                refine s_istore (lv' := [(0, .ref (ad c)), (1, .int v1), (2, .int v2), (3, .ref (ad 22)), (4, .int y4_9), (6, .int (nI i9)), (7, .int x7_4), (8, .int x8_5), (5, .int x8_5)]) hX dX3_reckon_218 (by decide) rfl ?_
                                refine s_goto (tgt := 292) hX dX3_reckon_220 (by decide) ?_
                                refine s_iinc (k := 5) (v := nI (i9 + 1)) (lv' := [(0, .ref (ad c)), (1, .int v1), (2, .int v2), (3, .ref (ad 22)), (4, .int y4_9), (7, .int x7_4), (8, .int x8_5), (5, .int x8_5), (6, .int (nI (i9 + 1)))]) hX dX3_reckon_292 (nI_1 _) (by decide) rfl rfl ?_
                                refine s_goto (tgt := 9) hX dX3_reckon_295 (by decide) ?_
                                refine s_loc [0, 1, 2, 3, 4, 7, 8] rfl ?_
                                exact ih9 _ _ _ _ (by omega) (by omega) hf_9 ht9
                        · replace c176 := mt (q_eq (by omega)).mpr c176
                          refine s_iload (k := 6) hX dX3_reckon_179 rfl ?_
                          refine s_bipush (v := (nI 124)) hX dX3_reckon_181 (by decide) ?_
                          refine s_icmp_ne (tgt := 229) hX dX3_reckon_183 (by decide) (fun c183 => ?_) (fun c183 => ?_)
                          · replace c183 := mt (q_eq (by omega)).mpr c183
                            refine s_iload (k := 4) hX dX3_reckon_229 rfl ?_
                            refine s_iconst (v := (nI 1)) hX dX3_reckon_231 (by decide) ?_
                            refine s_icmp_lt (tgt := 259) hX dX3_reckon_232 (by decide) (fun c232 => ?_) (fun c232 => ?_)
                            · replace c232 := (q_lt (by omega)).mp c232
                              refine s_iconst (v := (nI 0)) hX dX3_reckon_259 (by decide) ?_
                              exact s_iret hX hR dX3_reckon_260 hf_9
                            · replace c232 := mt (q_lt (by omega)).mpr c232
                              refine s_iload (k := 6) hX dX3_reckon_235 rfl ?_
                              refine s_bipush (v := (nI 47)) hX dX3_reckon_237 (by decide) ?_
                              refine s_icmp_eq (tgt := 249) hX dX3_reckon_239 (by decide) (fun c239 => ?_) (fun c239 => ?_)
                              · replace c239 := (q_eq (by omega)).mp c239
                                refine s_aload_n (k := 0) hX dX3_reckon_249 rfl rfl ?_
                                refine s_get hX fX3_18 (oL hc) rfl dX3_reckon_250 ?_
                                refine s_iload (k := 4) hX dX3_reckon_253 rfl ?_
                                refine s_iald hX (aL3 hc) (vp_in_iff.mpr (by omega)) dX3_reckon_255 ?_
                                refine s_if_ne (tgt := 261) hX dX3_reckon_256 (by decide) (fun c256 => ?_) (fun c256 => ?_)
                                · obtain ⟨u3, eu3⟩ : ∃ z : Int32, z = y4_9 + Int32.ofInt (-1) := ⟨_, rfl⟩
                                  have hv3 : u3.toInt = y4_9.toInt - 1 := by rw [eu3]; exact dec1 (by omega)
                                  have hu3 : -1 ≤ u3.toInt ∧ u3.toInt ≤ 31 := by omega
                                  refine s_iinc (k := 4) (v := u3) (lv' := [(0, .ref (ad c)), (1, .int v1), (2, .int v2), (3, .ref (ad 22)), (6, .int (nI i9)), (7, .int x7_4), (8, .int x8_5), (5, .int x5_6), (4, .int u3)]) hX dX3_reckon_261 eu3.symm (by decide) rfl rfl ?_
                                  refine s_aload_n (k := 0) hX dX3_reckon_264 rfl rfl ?_
                                  refine s_get hX fX3_18 (oL hc) rfl dX3_reckon_265 ?_
                                  refine s_iload (k := 8) hX dX3_reckon_268 rfl ?_
                                  refine s_iload (k := 5) hX dX3_reckon_270 rfl ?_
                                  refine s_aload_n (k := 0) hX dX3_reckon_272 rfl rfl ?_
                                  refine s_get hX fX3_18 (oL hc) rfl dX3_reckon_273 ?_
                                  refine s_iload (k := 8) hX dX3_reckon_276 rfl ?_
                                  refine s_iald hX (aL3 hc) (vp_in_iff.mpr (by omega)) dX3_reckon_278 ?_
                                  refine s_aload_n (k := 0) hX dX3_reckon_279 rfl rfl ?_
                                  refine s_get hX fX3_18 (oL hc) rfl dX3_reckon_280 ?_
                                  refine s_iload (k := 8) hX dX3_reckon_283 rfl ?_
                                  refine s_iconst (v := (nI 1)) hX dX3_reckon_285 (by decide) ?_
                                  refine s_iadd hX dX3_reckon_286 ?_
                                  refine s_top (y := u3 + nI 1) (rfl) ?_
                                  refine s_iald hX (aL3 hc) (vp_in_iff.mpr (by have := add1 hu3; omega)) dX3_reckon_287 ?_
                                  refine s_callSi hX (s_X3_combine _ _ _ M9) mX3_combine lX3_117 (by decide) (by decide) rfl rfl (Nat.le_of_ble_eq_true rfl) dX3_reckon_288 (fun r288 M_13 hp288 => ?_)
                                  subst hp288
                                  refine s_iast hX (aL3 hc) (vp_in_iff.mpr (by omega)) dX3_reckon_291 ?_
                                  refine s_mem (fun M_14 eM_14 => ?_)
                                  have hfM_14 : ∀ a, a ≠ (c + 3) → M_14 a = M a := fun a q0 => (congrFun eM_14 a).trans ((mset_n (by omega)).trans (hf_9 a q0))
                                  refine s_iinc (k := 4) (v := nI (i9 + 1)) (lv' := [(0, .ref (ad c)), (1, .int v1), (2, .int v2), (3, .ref (ad 22)), (7, .int x7_4), (8, .int x8_5), (5, .int x5_6), (4, .int u3), (6, .int (nI (i9 + 1)))]) hX dX3_reckon_292 (nI_1 _) (by decide) rfl rfl ?_
                                  refine s_goto (tgt := 9) hX dX3_reckon_295 (by decide) ?_
                                  refine s_loc [0, 1, 2, 3, 7, 6, 8] rfl ?_
                                  exact ih9 _ _ _ _ (by omega) (by omega) hfM_14 hu3
                                · refine s_iconst (v := (nI 0)) hX dX3_reckon_259 (by decide) ?_
                                  exact s_iret hX hR dX3_reckon_260 hf_9
                              · replace c239 := mt (q_eq (by omega)).mpr c239
                                refine s_iload (k := 6) hX dX3_reckon_242 rfl ?_
                                refine s_bipush (v := (nI 37)) hX dX3_reckon_244 (by decide) ?_
                                refine s_icmp_ne (tgt := 261) hX dX3_reckon_246 (by decide) (fun c246 => ?_) (fun c246 => ?_)
                                · replace c246 := mt (q_eq (by omega)).mpr c246
                                  obtain ⟨u3, eu3⟩ : ∃ z : Int32, z = y4_9 + Int32.ofInt (-1) := ⟨_, rfl⟩
                                  have hv3 : u3.toInt = y4_9.toInt - 1 := by rw [eu3]; exact dec1 (by omega)
                                  have hu3 : -1 ≤ u3.toInt ∧ u3.toInt ≤ 31 := by omega
                                  refine s_iinc (k := 4) (v := u3) (lv' := [(0, .ref (ad c)), (1, .int v1), (2, .int v2), (3, .ref (ad 22)), (6, .int (nI i9)), (7, .int x7_4), (8, .int x8_5), (5, .int x5_6), (4, .int u3)]) hX dX3_reckon_261 eu3.symm (by decide) rfl rfl ?_
                                  refine s_aload_n (k := 0) hX dX3_reckon_264 rfl rfl ?_
                                  refine s_get hX fX3_18 (oL hc) rfl dX3_reckon_265 ?_
                                  refine s_iload (k := 8) hX dX3_reckon_268 rfl ?_
                                  refine s_iload (k := 5) hX dX3_reckon_270 rfl ?_
                                  refine s_aload_n (k := 0) hX dX3_reckon_272 rfl rfl ?_
                                  refine s_get hX fX3_18 (oL hc) rfl dX3_reckon_273 ?_
                                  refine s_iload (k := 8) hX dX3_reckon_276 rfl ?_
                                  refine s_iald hX (aL3 hc) (vp_in_iff.mpr (by omega)) dX3_reckon_278 ?_
                                  refine s_aload_n (k := 0) hX dX3_reckon_279 rfl rfl ?_
                                  refine s_get hX fX3_18 (oL hc) rfl dX3_reckon_280 ?_
                                  refine s_iload (k := 8) hX dX3_reckon_283 rfl ?_
                                  refine s_iconst (v := (nI 1)) hX dX3_reckon_285 (by decide) ?_
                                  refine s_iadd hX dX3_reckon_286 ?_
                                  refine s_top (y := u3 + nI 1) (rfl) ?_
                                  refine s_iald hX (aL3 hc) (vp_in_iff.mpr (by have := add1 hu3; omega)) dX3_reckon_287 ?_
                                  refine s_callSi hX (s_X3_combine _ _ _ M9) mX3_combine lX3_117 (by decide) (by decide) rfl rfl (Nat.le_of_ble_eq_true rfl) dX3_reckon_288 (fun r288 M_15 hp288 => ?_)
                                  subst hp288
                                  refine s_iast hX (aL3 hc) (vp_in_iff.mpr (by omega)) dX3_reckon_291 ?_
                                  refine s_mem (fun M_16 eM_16 => ?_)
                                  have hfM_16 : ∀ a, a ≠ (c + 3) → M_16 a = M a := fun a q0 => (congrFun eM_16 a).trans ((mset_n (by omega)).trans (hf_9 a q0))
                                  refine s_iinc (k := 4) (v := nI (i9 + 1)) (lv' := [(0, .ref (ad c)), (1, .int v1), (2, .int v2), (3, .ref (ad 22)), (7, .int x7_4), (8, .int x8_5), (5, .int x5_6), (4, .int u3), (6, .int (nI (i9 + 1)))]) hX dX3_reckon_292 (nI_1 _) (by decide) rfl rfl ?_
                                  refine s_goto (tgt := 9) hX dX3_reckon_295 (by decide) ?_
                                  refine s_loc [0, 1, 2, 3, 7, 6, 8] rfl ?_
                                  exact ih9 _ _ _ _ (by omega) (by omega) hfM_16 hu3
                                · replace c246 := (q_eq (by omega)).mp c246
                                  refine s_aload_n (k := 0) hX dX3_reckon_249 rfl rfl ?_
                                  refine s_get hX fX3_18 (oL hc) rfl dX3_reckon_250 ?_
                                  refine s_iload (k := 4) hX dX3_reckon_253 rfl ?_
                                  refine s_iald hX (aL3 hc) (vp_in_iff.mpr (by omega)) dX3_reckon_255 ?_
                                  refine s_if_ne (tgt := 261) hX dX3_reckon_256 (by decide) (fun c256 => ?_) (fun c256 => ?_)
                                  · obtain ⟨u3, eu3⟩ : ∃ z : Int32, z = y4_9 + Int32.ofInt (-1) := ⟨_, rfl⟩
                                    have hv3 : u3.toInt = y4_9.toInt - 1 := by rw [eu3]; exact dec1 (by omega)
                                    have hu3 : -1 ≤ u3.toInt ∧ u3.toInt ≤ 31 := by omega
                                    refine s_iinc (k := 4) (v := u3) (lv' := [(0, .ref (ad c)), (1, .int v1), (2, .int v2), (3, .ref (ad 22)), (6, .int (nI i9)), (7, .int x7_4), (8, .int x8_5), (5, .int x5_6), (4, .int u3)]) hX dX3_reckon_261 eu3.symm (by decide) rfl rfl ?_
                                    refine s_aload_n (k := 0) hX dX3_reckon_264 rfl rfl ?_
                                    refine s_get hX fX3_18 (oL hc) rfl dX3_reckon_265 ?_
                                    refine s_iload (k := 8) hX dX3_reckon_268 rfl ?_
                                    refine s_iload (k := 5) hX dX3_reckon_270 rfl ?_
                                    refine s_aload_n (k := 0) hX dX3_reckon_272 rfl rfl ?_
                                    refine s_get hX fX3_18 (oL hc) rfl dX3_reckon_273 ?_
                                    refine s_iload (k := 8) hX dX3_reckon_276 rfl ?_
                                    refine s_iald hX (aL3 hc) (vp_in_iff.mpr (by omega)) dX3_reckon_278 ?_
                                    refine s_aload_n (k := 0) hX dX3_reckon_279 rfl rfl ?_
                                    refine s_get hX fX3_18 (oL hc) rfl dX3_reckon_280 ?_
                                    refine s_iload (k := 8) hX dX3_reckon_283 rfl ?_
                                    refine s_iconst (v := (nI 1)) hX dX3_reckon_285 (by decide) ?_
                                    refine s_iadd hX dX3_reckon_286 ?_
                                    refine s_top (y := u3 + nI 1) (rfl) ?_
                                    refine s_iald hX (aL3 hc) (vp_in_iff.mpr (by have := add1 hu3; omega)) dX3_reckon_287 ?_
                                    refine s_callSi hX (s_X3_combine _ _ _ M9) mX3_combine lX3_117 (by decide) (by decide) rfl rfl (Nat.le_of_ble_eq_true rfl) dX3_reckon_288 (fun r288 M_17 hp288 => ?_)
                                    subst hp288
                                    refine s_iast hX (aL3 hc) (vp_in_iff.mpr (by omega)) dX3_reckon_291 ?_
                                    refine s_mem (fun M_18 eM_18 => ?_)
                                    have hfM_18 : ∀ a, a ≠ (c + 3) → M_18 a = M a := fun a q0 => (congrFun eM_18 a).trans ((mset_n (by omega)).trans (hf_9 a q0))
                                    refine s_iinc (k := 4) (v := nI (i9 + 1)) (lv' := [(0, .ref (ad c)), (1, .int v1), (2, .int v2), (3, .ref (ad 22)), (7, .int x7_4), (8, .int x8_5), (5, .int x5_6), (4, .int u3), (6, .int (nI (i9 + 1)))]) hX dX3_reckon_292 (nI_1 _) (by decide) rfl rfl ?_
                                    refine s_goto (tgt := 9) hX dX3_reckon_295 (by decide) ?_
                                    refine s_loc [0, 1, 2, 3, 7, 6, 8] rfl ?_
                                    exact ih9 _ _ _ _ (by omega) (by omega) hfM_18 hu3
                                  · refine s_iconst (v := (nI 0)) hX dX3_reckon_259 (by decide) ?_
                                    exact s_iret hX hR dX3_reckon_260 hf_9
                          · replace c183 := (q_eq (by omega)).mp c183
                            refine s_aload_n (k := 0) hX dX3_reckon_186 rfl rfl ?_
                            refine s_get hX fX3_18 (oL hc) rfl dX3_reckon_187 ?_
                            refine s_iload (k := 4) hX dX3_reckon_190 rfl ?_
                            refine s_iald hX (aL3 hc) (vp_in_iff.mpr (by omega)) dX3_reckon_192 ?_
                            refine s_if_ne (tgt := 200) hX dX3_reckon_193 (by decide) (fun c193 => ?_) (fun c193 => ?_)
                            · refine s_iconst (v := (nI 0)) hX dX3_reckon_200 (by decide) ?_
                              refine s_iload (k := 6) hX dX3_reckon_201 rfl ?_
                              refine s_bipush (v := (nI 38)) hX dX3_reckon_203 (by decide) ?_
                              refine s_icmp_ne (tgt := 212) hX dX3_reckon_205 (by decide) (fun c205 => ?_) (fun c205 => ?_)
                              · replace c205 := mt (q_eq (by omega)).mpr c205
                                refine s_iconst (v := (nI 0)) hX dX3_reckon_212 (by decide) ?_
                                refine s_icmp_ne (tgt := 223) hX dX3_reckon_213 (by decide) (fun c213 => ?_) (fun c213 => ?_)
                                · first | exact absurd (by decide) c213 | exact absurd c213 (by decide)
                                · refine s_iload (k := 7) hX dX3_reckon_216 rfl ?_
                                  refine s_istore (lv' := [(0, .ref (ad c)), (1, .int v1), (2, .int v2), (3, .ref (ad 22)), (4, .int y4_9), (6, .int (nI i9)), (7, .int x7_4), (8, .int x8_5), (5, .int x8_5)]) hX dX3_reckon_218 (by decide) rfl ?_
                                  refine s_goto (tgt := 292) hX dX3_reckon_220 (by decide) ?_
                                  refine s_iinc (k := 5) (v := nI (i9 + 1)) (lv' := [(0, .ref (ad c)), (1, .int v1), (2, .int v2), (3, .ref (ad 22)), (4, .int y4_9), (7, .int x7_4), (8, .int x8_5), (5, .int x8_5), (6, .int (nI (i9 + 1)))]) hX dX3_reckon_292 (nI_1 _) (by decide) rfl rfl ?_
                                  refine s_goto (tgt := 9) hX dX3_reckon_295 (by decide) ?_
                                  refine s_loc [0, 1, 2, 3, 4, 7, 8] rfl ?_
                                  exact ih9 _ _ _ _ (by omega) (by omega) hf_9 ht9
                              · replace c205 := (q_eq (by omega)).mp c205
                                refine s_iconst (v := (nI 1)) hX dX3_reckon_208 (by decide) ?_
                                refine s_goto (tgt := 213) hX dX3_reckon_209 (by decide) ?_
                                refine s_icmp_ne (tgt := 223) hX dX3_reckon_213 (by decide) (fun c213 => ?_) (fun c213 => ?_)
                                · obtain ⟨u2, eu2⟩ : ∃ z : Int32, z = y4_9 + Int32.ofInt (-1) := ⟨_, rfl⟩
                                  have hv2 : u2.toInt = y4_9.toInt - 1 := by rw [eu2]; exact dec1 (by omega)
                                  have hu2 : -1 ≤ u2.toInt ∧ u2.toInt ≤ 31 := by omega
                                  refine s_iinc (k := 4) (v := u2) (lv' := [(0, .ref (ad c)), (1, .int v1), (2, .int v2), (3, .ref (ad 22)), (6, .int (nI i9)), (7, .int x7_4), (8, .int x8_5), (5, .int x5_6), (4, .int u2)]) hX dX3_reckon_223 eu2.symm (by decide) rfl rfl ?_
                                  refine s_goto (tgt := 292) hX dX3_reckon_226 (by decide) ?_
                                  refine s_iinc (k := 4) (v := nI (i9 + 1)) (lv' := [(0, .ref (ad c)), (1, .int v1), (2, .int v2), (3, .ref (ad 22)), (7, .int x7_4), (8, .int x8_5), (5, .int x5_6), (4, .int u2), (6, .int (nI (i9 + 1)))]) hX dX3_reckon_292 (nI_1 _) (by decide) rfl rfl ?_
                                  refine s_goto (tgt := 9) hX dX3_reckon_295 (by decide) ?_
                                  refine s_loc [0, 1, 2, 3, 7, 6, 8] rfl ?_
                                  exact ih9 _ _ _ _ (by omega) (by omega) hf_9 hu2
                                · first | exact absurd (by decide) c213 | exact absurd c213 (by decide)
                            · refine s_iconst (v := (nI 1)) hX dX3_reckon_196 (by decide) ?_
                              refine s_goto (tgt := 201) hX dX3_reckon_197 (by decide) ?_
                              refine s_iload (k := 6) hX dX3_reckon_201 rfl ?_
                              refine s_bipush (v := (nI 38)) hX dX3_reckon_203 (by decide) ?_
                              refine s_icmp_ne (tgt := 212) hX dX3_reckon_205 (by decide) (fun c205 => ?_) (fun c205 => ?_)
                              · replace c205 := mt (q_eq (by omega)).mpr c205
                                refine s_iconst (v := (nI 0)) hX dX3_reckon_212 (by decide) ?_
                                refine s_icmp_ne (tgt := 223) hX dX3_reckon_213 (by decide) (fun c213 => ?_) (fun c213 => ?_)
                                · obtain ⟨u2, eu2⟩ : ∃ z : Int32, z = y4_9 + Int32.ofInt (-1) := ⟨_, rfl⟩
                                  have hv2 : u2.toInt = y4_9.toInt - 1 := by rw [eu2]; exact dec1 (by omega)
                                  have hu2 : -1 ≤ u2.toInt ∧ u2.toInt ≤ 31 := by omega
                                  refine s_iinc (k := 4) (v := u2) (lv' := [(0, .ref (ad c)), (1, .int v1), (2, .int v2), (3, .ref (ad 22)), (6, .int (nI i9)), (7, .int x7_4), (8, .int x8_5), (5, .int x5_6), (4, .int u2)]) hX dX3_reckon_223 eu2.symm (by decide) rfl rfl ?_
                                  refine s_goto (tgt := 292) hX dX3_reckon_226 (by decide) ?_
                                  refine s_iinc (k := 4) (v := nI (i9 + 1)) (lv' := [(0, .ref (ad c)), (1, .int v1), (2, .int v2), (3, .ref (ad 22)), (7, .int x7_4), (8, .int x8_5), (5, .int x5_6), (4, .int u2), (6, .int (nI (i9 + 1)))]) hX dX3_reckon_292 (nI_1 _) (by decide) rfl rfl ?_
                                  refine s_goto (tgt := 9) hX dX3_reckon_295 (by decide) ?_
                                  refine s_loc [0, 1, 2, 3, 7, 6, 8] rfl ?_
                                  exact ih9 _ _ _ _ (by omega) (by omega) hf_9 hu2
                                · first | exact absurd (by decide) c213 | exact absurd c213 (by decide)
                              · replace c205 := (q_eq (by omega)).mp c205
                                refine s_iconst (v := (nI 1)) hX dX3_reckon_208 (by decide) ?_
                                refine s_goto (tgt := 213) hX dX3_reckon_209 (by decide) ?_
                                refine s_icmp_ne (tgt := 223) hX dX3_reckon_213 (by decide) (fun c213 => ?_) (fun c213 => ?_)
                                · first | exact absurd (by decide) c213 | exact absurd c213 (by decide)
                                · refine s_iload (k := 7) hX dX3_reckon_216 rfl ?_
                                  refine s_istore (lv' := [(0, .ref (ad c)), (1, .int v1), (2, .int v2), (3, .ref (ad 22)), (4, .int y4_9), (6, .int (nI i9)), (7, .int x7_4), (8, .int x8_5), (5, .int x8_5)]) hX dX3_reckon_218 (by decide) rfl ?_
                                  refine s_goto (tgt := 292) hX dX3_reckon_220 (by decide) ?_
                                  refine s_iinc (k := 5) (v := nI (i9 + 1)) (lv' := [(0, .ref (ad c)), (1, .int v1), (2, .int v2), (3, .ref (ad 22)), (4, .int y4_9), (7, .int x7_4), (8, .int x8_5), (5, .int x8_5), (6, .int (nI (i9 + 1)))]) hX dX3_reckon_292 (nI_1 _) (by decide) rfl rfl ?_
                                  refine s_goto (tgt := 9) hX dX3_reckon_295 (by decide) ?_
                                  refine s_loc [0, 1, 2, 3, 4, 7, 8] rfl ?_
                                  exact ih9 _ _ _ _ (by omega) (by omega) hf_9 ht9
                      · replace c150 := (q_eq (by omega)).mp c150
                        refine s_aload_n (k := 0) hX dX3_reckon_153 rfl rfl ?_
                        refine s_get hX fX3_18 (oL hc) rfl dX3_reckon_154 ?_
                        refine s_iload (k := 4) hX dX3_reckon_157 rfl ?_
                        refine s_iconst (v := (nI 1)) hX dX3_reckon_159 (by decide) ?_
                        refine s_aload_n (k := 0) hX dX3_reckon_160 rfl rfl ?_
                        refine s_get hX fX3_18 (oL hc) rfl dX3_reckon_161 ?_
                        refine s_iload (k := 4) hX dX3_reckon_164 rfl ?_
                        refine s_iald hX (aL3 hc) (vp_in_iff.mpr (by omega)) dX3_reckon_166 ?_
                        refine s_isub hX dX3_reckon_167 ?_
                        refine s_iast hX (aL3 hc) (vp_in_iff.mpr (by omega)) dX3_reckon_168 ?_
                        refine s_mem (fun M_21 eM_21 => ?_)
                        have hfM_21 : ∀ a, a ≠ (c + 3) → M_21 a = M a := fun a q0 => (congrFun eM_21 a).trans ((mset_n (by omega)).trans (hf_9 a q0))
                        refine s_goto (tgt := 292) hX dX3_reckon_169 (by decide) ?_
                        refine s_iinc (k := 5) (v := nI (i9 + 1)) (lv' := [(0, .ref (ad c)), (1, .int v1), (2, .int v2), (3, .ref (ad 22)), (4, .int y4_9), (7, .int x7_4), (8, .int x8_5), (5, .int x5_6), (6, .int (nI (i9 + 1)))]) hX dX3_reckon_292 (nI_1 _) (by decide) rfl rfl ?_
                        refine s_goto (tgt := 9) hX dX3_reckon_295 (by decide) ?_
                        refine s_loc [0, 1, 2, 3, 4, 7, 8] rfl ?_
                        exact ih9 _ _ _ _ (by omega) (by omega) hfM_21 ht9
                    · replace c141 := mt z_ge.mpr c141
                      refine s_iconst (v := (nI 0)) hX dX3_reckon_144 (by decide) ?_
                      exact s_iret hX hR dX3_reckon_145 hf_9
                  · replace c77 := (q_eq (by omega)).mp c77
                    have et1 : (y4_9 + nI 1).toInt = y4_9.toInt + 1 := add1 ht9
                    refine s_iload (k := 4) hX dX3_reckon_80 rfl ?_
                    refine s_iconst (v := (nI 1)) hX dX3_reckon_82 (by decide) ?_
                    refine s_iadd hX dX3_reckon_83 ?_
                    refine s_top (y := y4_9 + nI 1) (rfl) ?_
                    refine s_bipush (v := (nI 32)) hX dX3_reckon_84 (by decide) ?_
                    refine s_icmp_ge (tgt := 108) hX dX3_reckon_86 (by decide) (fun c86 => ?_) (fun c86 => ?_)
                    · replace c86 := (q_ge (by omega)).mp c86
                      refine s_iconst (v := (nI 0)) hX dX3_reckon_108 (by decide) ?_
                      exact s_iret hX hR dX3_reckon_109 hf_9
                    · replace c86 := mt (q_ge (by omega)).mpr c86
                      refine s_iload (k := 6) hX dX3_reckon_89 rfl ?_
                      refine s_bipush (v := (nI 97)) hX dX3_reckon_91 (by decide) ?_
                      refine s_icmp_ne (tgt := 110) hX dX3_reckon_93 (by decide) (fun c93 => ?_) (fun c93 => ?_)
                      · replace c93 := mt (q_eq (by omega)).mpr c93
                        obtain ⟨u1, eu1⟩ : ∃ z : Int32, z = y4_9 + Int32.ofInt 1 := ⟨_, rfl⟩
                        have hv1 : u1.toInt = y4_9.toInt + 1 := by rw [eu1]; exact add1 ht9
                        have hu1 : -1 ≤ u1.toInt ∧ u1.toInt ≤ 31 := by omega
                        refine s_iinc (k := 4) (v := u1) (lv' := [(0, .ref (ad c)), (1, .int v1), (2, .int v2), (3, .ref (ad 22)), (6, .int (nI i9)), (7, .int x7_4), (8, .int x8_5), (5, .int x5_6), (4, .int u1)]) hX dX3_reckon_110 eu1.symm (by decide) rfl rfl ?_
                        refine s_aload_n (k := 0) hX dX3_reckon_113 rfl rfl ?_
                        refine s_get hX fX3_18 (oL hc) rfl dX3_reckon_114 ?_
                        refine s_iload (k := 8) hX dX3_reckon_117 rfl ?_
                        refine s_iload (k := 5) hX dX3_reckon_119 rfl ?_
                        refine s_bipush (v := (nI 48)) hX dX3_reckon_121 (by decide) ?_
                        refine s_icmp_ne (tgt := 131) hX dX3_reckon_123 (by decide) (fun c123 => ?_) (fun c123 => ?_)
                        · replace c123 := mt (q_eq (by omega)).mpr c123
                          refine s_aload_n (k := 3) hX dX3_reckon_131 rfl rfl ?_
                          refine s_iload (k := 6) hX dX3_reckon_132 rfl ?_
                          refine s_iald hX aC22 (vp_in_iff.mpr (by omega)) dX3_reckon_134 ?_
                          refine s_iast hX (aL3 hc) (vp_in_iff.mpr (by omega)) dX3_reckon_135 ?_
                          refine s_mem (fun M_22 eM_22 => ?_)
                          have hfM_22 : ∀ a, a ≠ (c + 3) → M_22 a = M a := fun a q0 => (congrFun eM_22 a).trans ((mset_n (by omega)).trans (hf_9 a q0))
                          refine s_goto (tgt := 292) hX dX3_reckon_136 (by decide) ?_
                          refine s_iinc (k := 4) (v := nI (i9 + 1)) (lv' := [(0, .ref (ad c)), (1, .int v1), (2, .int v2), (3, .ref (ad 22)), (7, .int x7_4), (8, .int x8_5), (5, .int x5_6), (4, .int u1), (6, .int (nI (i9 + 1)))]) hX dX3_reckon_292 (nI_1 _) (by decide) rfl rfl ?_
                          refine s_goto (tgt := 9) hX dX3_reckon_295 (by decide) ?_
                          refine s_loc [0, 1, 2, 3, 7, 6, 8] rfl ?_
                          exact ih9 _ _ _ _ (by omega) (by omega) hfM_22 hu1
                        · replace c123 := (q_eq (by omega)).mp c123
                          refine s_iload (k := 6) hX dX3_reckon_126 rfl ?_
                          refine s_goto (tgt := 135) hX dX3_reckon_128 (by decide) ?_
                          refine s_iast hX (aL3 hc) (vp_in_iff.mpr (by omega)) dX3_reckon_135 ?_
                          refine s_mem (fun M_23 eM_23 => ?_)
                          have hfM_23 : ∀ a, a ≠ (c + 3) → M_23 a = M a := fun a q0 => (congrFun eM_23 a).trans ((mset_n (by omega)).trans (hf_9 a q0))
                          refine s_goto (tgt := 292) hX dX3_reckon_136 (by decide) ?_
                          refine s_iinc (k := 4) (v := nI (i9 + 1)) (lv' := [(0, .ref (ad c)), (1, .int v1), (2, .int v2), (3, .ref (ad 22)), (7, .int x7_4), (8, .int x8_5), (5, .int x5_6), (4, .int u1), (6, .int (nI (i9 + 1)))]) hX dX3_reckon_292 (nI_1 _) (by decide) rfl rfl ?_
                          refine s_goto (tgt := 9) hX dX3_reckon_295 (by decide) ?_
                          refine s_loc [0, 1, 2, 3, 7, 6, 8] rfl ?_
                          exact ih9 _ _ _ _ (by omega) (by omega) hfM_23 hu1
                      · replace c93 := (q_eq (by omega)).mp c93
                        refine s_iload (k := 7) hX dX3_reckon_96 rfl ?_
                        refine s_if_lt (tgt := 108) hX dX3_reckon_98 (by decide) (fun c98 => ?_) (fun c98 => ?_)
                        · replace c98 := z_lt.mp c98
                          refine s_iconst (v := (nI 0)) hX dX3_reckon_108 (by decide) ?_
                          exact s_iret hX hR dX3_reckon_109 hf_9
                        · replace c98 := mt z_lt.mpr c98
                          refine s_iload (k := 7) hX dX3_reckon_101 rfl ?_
                          refine s_aload_n (k := 3) hX dX3_reckon_103 rfl rfl ?_
                          refine s_alen (v := nI 8) hX aC22 rfl dX3_reckon_104 ?_
                          refine s_icmp_lt (tgt := 110) hX dX3_reckon_105 (by decide) (fun c105 => ?_) (fun c105 => ?_)
                          · replace c105 := (q_lt (by omega)).mp c105
                            obtain ⟨u1, eu1⟩ : ∃ z : Int32, z = y4_9 + Int32.ofInt 1 := ⟨_, rfl⟩
                            have hv1 : u1.toInt = y4_9.toInt + 1 := by rw [eu1]; exact add1 ht9
                            have hu1 : -1 ≤ u1.toInt ∧ u1.toInt ≤ 31 := by omega
                            refine s_iinc (k := 4) (v := u1) (lv' := [(0, .ref (ad c)), (1, .int v1), (2, .int v2), (3, .ref (ad 22)), (6, .int (nI i9)), (7, .int x7_4), (8, .int x8_5), (5, .int x5_6), (4, .int u1)]) hX dX3_reckon_110 eu1.symm (by decide) rfl rfl ?_
                            refine s_aload_n (k := 0) hX dX3_reckon_113 rfl rfl ?_
                            refine s_get hX fX3_18 (oL hc) rfl dX3_reckon_114 ?_
                            refine s_iload (k := 8) hX dX3_reckon_117 rfl ?_
                            refine s_iload (k := 5) hX dX3_reckon_119 rfl ?_
                            refine s_bipush (v := (nI 48)) hX dX3_reckon_121 (by decide) ?_
                            refine s_icmp_ne (tgt := 131) hX dX3_reckon_123 (by decide) (fun c123 => ?_) (fun c123 => ?_)
                            · replace c123 := mt (q_eq (by omega)).mpr c123
                              refine s_aload_n (k := 3) hX dX3_reckon_131 rfl rfl ?_
                              refine s_iload (k := 6) hX dX3_reckon_132 rfl ?_
                              refine s_iald hX aC22 (vp_in_iff.mpr (by omega)) dX3_reckon_134 ?_
                              refine s_iast hX (aL3 hc) (vp_in_iff.mpr (by omega)) dX3_reckon_135 ?_
                              refine s_mem (fun M_24 eM_24 => ?_)
                              have hfM_24 : ∀ a, a ≠ (c + 3) → M_24 a = M a := fun a q0 => (congrFun eM_24 a).trans ((mset_n (by omega)).trans (hf_9 a q0))
                              refine s_goto (tgt := 292) hX dX3_reckon_136 (by decide) ?_
                              refine s_iinc (k := 4) (v := nI (i9 + 1)) (lv' := [(0, .ref (ad c)), (1, .int v1), (2, .int v2), (3, .ref (ad 22)), (7, .int x7_4), (8, .int x8_5), (5, .int x5_6), (4, .int u1), (6, .int (nI (i9 + 1)))]) hX dX3_reckon_292 (nI_1 _) (by decide) rfl rfl ?_
                              refine s_goto (tgt := 9) hX dX3_reckon_295 (by decide) ?_
                              refine s_loc [0, 1, 2, 3, 7, 6, 8] rfl ?_
                              exact ih9 _ _ _ _ (by omega) (by omega) hfM_24 hu1
                            · replace c123 := (q_eq (by omega)).mp c123
                              refine s_iload (k := 6) hX dX3_reckon_126 rfl ?_
                              refine s_goto (tgt := 135) hX dX3_reckon_128 (by decide) ?_
                              refine s_iast hX (aL3 hc) (vp_in_iff.mpr (by omega)) dX3_reckon_135 ?_
                              refine s_mem (fun M_25 eM_25 => ?_)
                              have hfM_25 : ∀ a, a ≠ (c + 3) → M_25 a = M a := fun a q0 => (congrFun eM_25 a).trans ((mset_n (by omega)).trans (hf_9 a q0))
                              refine s_goto (tgt := 292) hX dX3_reckon_136 (by decide) ?_
                              refine s_iinc (k := 4) (v := nI (i9 + 1)) (lv' := [(0, .ref (ad c)), (1, .int v1), (2, .int v2), (3, .ref (ad 22)), (7, .int x7_4), (8, .int x8_5), (5, .int x5_6), (4, .int u1), (6, .int (nI (i9 + 1)))]) hX dX3_reckon_292 (nI_1 _) (by decide) rfl rfl ?_
                              refine s_goto (tgt := 9) hX dX3_reckon_295 (by decide) ?_
                              refine s_loc [0, 1, 2, 3, 7, 6, 8] rfl ?_
                              exact ih9 _ _ _ _ (by omega) (by omega) hfM_25 hu1
                          · replace c105 := mt (q_lt (by omega)).mpr c105
                            refine s_iconst (v := (nI 0)) hX dX3_reckon_108 (by decide) ?_
                            exact s_iret hX hR dX3_reckon_109 hf_9
  exact lp9 (240 + 1) _ _ _ _ (by omega) (by omega) hf_0 (by decide)
