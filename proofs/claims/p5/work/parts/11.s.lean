theorem dX9_readLine_0 : decode cX9_readLine 0 = .ok (.aload_n 0, 1) := by decide +kernel
theorem dX9_readLine_1 : decode cX9_readLine 1 = .ok (.getfield 310, 3) := by decide +kernel
theorem dX9_readLine_4 : decode cX9_readLine 4 = .ok (.istore_n 3, 1) := by decide +kernel
theorem dX9_readLine_5 : decode cX9_readLine 5 = .ok (.aload_n 0, 1) := by decide +kernel
theorem dX9_readLine_6 : decode cX9_readLine 6 = .ok (.iconst 2, 1) := by decide +kernel
theorem dX9_readLine_7 : decode cX9_readLine 7 = .ok (.invokevirtual 316, 3) := by decide +kernel
theorem dX9_readLine_10 : decode cX9_readLine 10 = .ok (.istore 4, 2) := by decide +kernel
theorem dX9_readLine_12 : decode cX9_readLine 12 = .ok (.iload 4, 2) := by decide +kernel
theorem dX9_readLine_14 : decode cX9_readLine 14 = .ok (.iconst (-1), 1) := by decide +kernel
theorem dX9_readLine_15 : decode cX9_readLine 15 = .ok (.if_icmp .ne 5, 3) := by decide +kernel
theorem dX9_readLine_18 : decode cX9_readLine 18 = .ok (.iconst 0, 1) := by decide +kernel
theorem dX9_readLine_19 : decode cX9_readLine 19 = .ok (.ireturn, 1) := by decide +kernel
theorem dX9_readLine_20 : decode cX9_readLine 20 = .ok (.iload 4, 2) := by decide +kernel
theorem dX9_readLine_22 : decode cX9_readLine 22 = .ok (.bipush 39, 2) := by decide +kernel
theorem dX9_readLine_24 : decode cX9_readLine 24 = .ok (.if_icmp .le 10, 3) := by decide +kernel
theorem dX9_readLine_27 : decode cX9_readLine 27 = .ok (.aload_n 0, 1) := by decide +kernel
theorem dX9_readLine_28 : decode cX9_readLine 28 = .ok (.iconst 3, 1) := by decide +kernel
theorem dX9_readLine_29 : decode cX9_readLine 29 = .ok (.iload_n 3, 1) := by decide +kernel
theorem dX9_readLine_30 : decode cX9_readLine 30 = .ok (.invokevirtual 313, 3) := by decide +kernel
theorem dX9_readLine_33 : decode cX9_readLine 33 = .ok (.ireturn, 1) := by decide +kernel
theorem dX9_readLine_34 : decode cX9_readLine 34 = .ok (.aload_n 0, 1) := by decide +kernel
theorem dX9_readLine_35 : decode cX9_readLine 35 = .ok (.bipush 44, 2) := by decide +kernel
theorem dX9_readLine_37 : decode cX9_readLine 37 = .ok (.invokevirtual 304, 3) := by decide +kernel
theorem dX9_readLine_40 : decode cX9_readLine 40 = .ok (.ifCond .ne 5, 3) := by decide +kernel
theorem dX9_readLine_43 : decode cX9_readLine 43 = .ok (.iconst 0, 1) := by decide +kernel
theorem dX9_readLine_44 : decode cX9_readLine 44 = .ok (.ireturn, 1) := by decide +kernel
theorem dX9_readLine_45 : decode cX9_readLine 45 = .ok (.aload_n 0, 1) := by decide +kernel
theorem dX9_readLine_46 : decode cX9_readLine 46 = .ok (.getfield 310, 3) := by decide +kernel
theorem dX9_readLine_49 : decode cX9_readLine 49 = .ok (.istore 5, 2) := by decide +kernel
theorem dX9_readLine_51 : decode cX9_readLine 51 = .ok (.aload_n 0, 1) := by decide +kernel
theorem dX9_readLine_52 : decode cX9_readLine 52 = .ok (.iconst 2, 1) := by decide +kernel
theorem dX9_readLine_53 : decode cX9_readLine 53 = .ok (.invokevirtual 316, 3) := by decide +kernel
theorem dX9_readLine_56 : decode cX9_readLine 56 = .ok (.istore 6, 2) := by decide +kernel
theorem dX9_readLine_58 : decode cX9_readLine 58 = .ok (.iload 6, 2) := by decide +kernel
theorem dX9_readLine_60 : decode cX9_readLine 60 = .ok (.iconst (-1), 1) := by decide +kernel
theorem dX9_readLine_61 : decode cX9_readLine 61 = .ok (.if_icmp .ne 5, 3) := by decide +kernel
theorem dX9_readLine_64 : decode cX9_readLine 64 = .ok (.iconst 0, 1) := by decide +kernel
theorem dX9_readLine_65 : decode cX9_readLine 65 = .ok (.ireturn, 1) := by decide +kernel
theorem dX9_readLine_66 : decode cX9_readLine 66 = .ok (.iload 6, 2) := by decide +kernel
theorem dX9_readLine_68 : decode cX9_readLine 68 = .ok (.iconst 1, 1) := by decide +kernel
theorem dX9_readLine_69 : decode cX9_readLine 69 = .ok (.if_icmp .lt 10, 3) := by decide +kernel
theorem dX9_readLine_72 : decode cX9_readLine 72 = .ok (.iload 6, 2) := by decide +kernel
theorem dX9_readLine_74 : decode cX9_readLine 74 = .ok (.bipush 20, 2) := by decide +kernel
theorem dX9_readLine_76 : decode cX9_readLine 76 = .ok (.if_icmp .le 11, 3) := by decide +kernel
theorem dX9_readLine_79 : decode cX9_readLine 79 = .ok (.aload_n 0, 1) := by decide +kernel
theorem dX9_readLine_80 : decode cX9_readLine 80 = .ok (.iconst 3, 1) := by decide +kernel
theorem dX9_readLine_81 : decode cX9_readLine 81 = .ok (.iload 5, 2) := by decide +kernel
theorem dX9_readLine_83 : decode cX9_readLine 83 = .ok (.invokevirtual 313, 3) := by decide +kernel
theorem dX9_readLine_86 : decode cX9_readLine 86 = .ok (.ireturn, 1) := by decide +kernel
theorem dX9_readLine_87 : decode cX9_readLine 87 = .ok (.aload_n 1, 1) := by decide +kernel
theorem dX9_readLine_88 : decode cX9_readLine 88 = .ok (.iload 4, 2) := by decide +kernel
theorem dX9_readLine_90 : decode cX9_readLine 90 = .ok (.iload 6, 2) := by decide +kernel
theorem dX9_readLine_92 : decode cX9_readLine 92 = .ok (.invokevirtual 90, 3) := by decide +kernel
theorem dX9_readLine_95 : decode cX9_readLine 95 = .ok (.iconst (-1), 1) := by decide +kernel
theorem dX9_readLine_96 : decode cX9_readLine 96 = .ok (.if_icmp .eq 11, 3) := by decide +kernel
theorem dX9_readLine_99 : decode cX9_readLine 99 = .ok (.aload_n 0, 1) := by decide +kernel
theorem dX9_readLine_100 : decode cX9_readLine 100 = .ok (.bipush 6, 2) := by decide +kernel
theorem dX9_readLine_102 : decode cX9_readLine 102 = .ok (.iload_n 3, 1) := by decide +kernel
theorem dX9_readLine_103 : decode cX9_readLine 103 = .ok (.invokevirtual 313, 3) := by decide +kernel
theorem dX9_readLine_106 : decode cX9_readLine 106 = .ok (.ireturn, 1) := by decide +kernel
theorem dX9_readLine_107 : decode cX9_readLine 107 = .ok (.iconst 0, 1) := by decide +kernel
theorem dX9_readLine_108 : decode cX9_readLine 108 = .ok (.istore 7, 2) := by decide +kernel
theorem dX9_readLine_110 : decode cX9_readLine 110 = .ok (.aload_n 0, 1) := by decide +kernel
theorem dX9_readLine_111 : decode cX9_readLine 111 = .ok (.invokevirtual 301, 3) := by decide +kernel
theorem dX9_readLine_114 : decode cX9_readLine 114 = .ok (.bipush 115, 2) := by decide +kernel
theorem dX9_readLine_116 : decode cX9_readLine 116 = .ok (.if_icmp .ne 52, 3) := by decide +kernel
theorem dX9_readLine_119 : decode cX9_readLine 119 = .ok (.aload_n 0, 1) := by decide +kernel
theorem dX9_readLine_120 : decode cX9_readLine 120 = .ok (.dup, 1) := by decide +kernel
theorem dX9_readLine_121 : decode cX9_readLine 121 = .ok (.getfield 310, 3) := by decide +kernel
theorem dX9_readLine_124 : decode cX9_readLine 124 = .ok (.iconst 1, 1) := by decide +kernel
theorem dX9_readLine_125 : decode cX9_readLine 125 = .ok (.iadd, 1) := by decide +kernel
theorem dX9_readLine_126 : decode cX9_readLine 126 = .ok (.putfield 310, 3) := by decide +kernel
theorem dX9_readLine_129 : decode cX9_readLine 129 = .ok (.aload_n 0, 1) := by decide +kernel
theorem dX9_readLine_130 : decode cX9_readLine 130 = .ok (.invokevirtual 301, 3) := by decide +kernel
theorem dX9_readLine_133 : decode cX9_readLine 133 = .ok (.invokestatic 307, 3) := by decide +kernel
theorem dX9_readLine_136 : decode cX9_readLine 136 = .ok (.ifCond .ne 13, 3) := by decide +kernel
theorem dX9_readLine_139 : decode cX9_readLine 139 = .ok (.aload_n 0, 1) := by decide +kernel
theorem dX9_readLine_140 : decode cX9_readLine 140 = .ok (.iconst 1, 1) := by decide +kernel
theorem dX9_readLine_141 : decode cX9_readLine 141 = .ok (.aload_n 0, 1) := by decide +kernel
theorem dX9_readLine_142 : decode cX9_readLine 142 = .ok (.getfield 310, 3) := by decide +kernel
theorem dX9_readLine_145 : decode cX9_readLine 145 = .ok (.invokevirtual 313, 3) := by decide +kernel
theorem dX9_readLine_148 : decode cX9_readLine 148 = .ok (.ireturn, 1) := by decide +kernel
theorem dX9_readLine_149 : decode cX9_readLine 149 = .ok (.aload_n 0, 1) := by decide +kernel
theorem dX9_readLine_150 : decode cX9_readLine 150 = .ok (.invokevirtual 301, 3) := by decide +kernel
theorem dX9_readLine_153 : decode cX9_readLine 153 = .ok (.bipush 48, 2) := by decide +kernel
theorem dX9_readLine_155 : decode cX9_readLine 155 = .ok (.isub, 1) := by decide +kernel
theorem dX9_readLine_156 : decode cX9_readLine 156 = .ok (.istore 7, 2) := by decide +kernel
theorem dX9_readLine_158 : decode cX9_readLine 158 = .ok (.aload_n 0, 1) := by decide +kernel
theorem dX9_readLine_159 : decode cX9_readLine 159 = .ok (.dup, 1) := by decide +kernel
theorem dX9_readLine_160 : decode cX9_readLine 160 = .ok (.getfield 310, 3) := by decide +kernel
theorem dX9_readLine_163 : decode cX9_readLine 163 = .ok (.iconst 1, 1) := by decide +kernel
theorem dX9_readLine_164 : decode cX9_readLine 164 = .ok (.iadd, 1) := by decide +kernel
theorem dX9_readLine_165 : decode cX9_readLine 165 = .ok (.putfield 310, 3) := by decide +kernel
theorem dX9_readLine_168 : decode cX9_readLine 168 = .ok (.aload_n 0, 1) := by decide +kernel
theorem dX9_readLine_169 : decode cX9_readLine 169 = .ok (.invokevirtual 301, 3) := by decide +kernel
theorem dX9_readLine_172 : decode cX9_readLine 172 = .ok (.bipush 117, 2) := by decide +kernel
theorem dX9_readLine_174 : decode cX9_readLine 174 = .ok (.if_icmp .ne 7, 3) := by decide +kernel
theorem dX9_readLine_177 : decode cX9_readLine 177 = .ok (.iconst 1, 1) := by decide +kernel
theorem dX9_readLine_178 : decode cX9_readLine 178 = .ok (.goto 4, 3) := by decide +kernel
theorem dX9_readLine_181 : decode cX9_readLine 181 = .ok (.iconst 0, 1) := by decide +kernel
theorem dX9_readLine_182 : decode cX9_readLine 182 = .ok (.istore 8, 2) := by decide +kernel
theorem dX9_readLine_184 : decode cX9_readLine 184 = .ok (.iload 8, 2) := by decide +kernel
theorem dX9_readLine_186 : decode cX9_readLine 186 = .ok (.ifCond .eq 13, 3) := by decide +kernel
theorem dX9_readLine_189 : decode cX9_readLine 189 = .ok (.aload_n 0, 1) := by decide +kernel
theorem dX9_readLine_190 : decode cX9_readLine 190 = .ok (.dup, 1) := by decide +kernel
theorem dX9_readLine_191 : decode cX9_readLine 191 = .ok (.getfield 310, 3) := by decide +kernel
theorem dX9_readLine_194 : decode cX9_readLine 194 = .ok (.iconst 1, 1) := by decide +kernel
theorem dX9_readLine_195 : decode cX9_readLine 195 = .ok (.iadd, 1) := by decide +kernel
theorem dX9_readLine_196 : decode cX9_readLine 196 = .ok (.putfield 310, 3) := by decide +kernel
theorem dX9_readLine_199 : decode cX9_readLine 199 = .ok (.aload_n 1, 1) := by decide +kernel
theorem dX9_readLine_200 : decode cX9_readLine 200 = .ok (.iload_n 2, 1) := by decide +kernel
theorem dX9_readLine_201 : decode cX9_readLine 201 = .ok (.iload 4, 2) := by decide +kernel
theorem dX9_readLine_203 : decode cX9_readLine 203 = .ok (.iload 6, 2) := by decide +kernel
theorem dX9_readLine_205 : decode cX9_readLine 205 = .ok (.iload 7, 2) := by decide +kernel
theorem dX9_readLine_207 : decode cX9_readLine 207 = .ok (.iload 8, 2) := by decide +kernel
theorem dX9_readLine_209 : decode cX9_readLine 209 = .ok (.invokevirtual 94, 3) := by decide +kernel
theorem dX9_readLine_212 : decode cX9_readLine 212 = .ok (.iconst 1, 1) := by decide +kernel
theorem dX9_readLine_213 : decode cX9_readLine 213 = .ok (.ireturn, 1) := by decide +kernel
theorem dX9_readNotebook_0 : decode cX9_readNotebook 0 = .ok (.aload_n 1, 1) := by decide +kernel
theorem dX9_readNotebook_1 : decode cX9_readNotebook 1 = .ok (.invokevirtual 294, 3) := by decide +kernel
theorem dX9_readNotebook_4 : decode cX9_readNotebook 4 = .ok (.iconst 0, 1) := by decide +kernel
theorem dX9_readNotebook_5 : decode cX9_readNotebook 5 = .ok (.istore_n 2, 1) := by decide +kernel
theorem dX9_readNotebook_6 : decode cX9_readNotebook 6 = .ok (.iload_n 2, 1) := by decide +kernel
theorem dX9_readNotebook_7 : decode cX9_readNotebook 7 = .ok (.bipush 40, 2) := by decide +kernel
theorem dX9_readNotebook_9 : decode cX9_readNotebook 9 = .ok (.if_icmp .ge 49, 3) := by decide +kernel
theorem dX9_readNotebook_12 : decode cX9_readNotebook 12 = .ok (.aload_n 0, 1) := by decide +kernel
theorem dX9_readNotebook_13 : decode cX9_readNotebook 13 = .ok (.aload_n 1, 1) := by decide +kernel
theorem dX9_readNotebook_14 : decode cX9_readNotebook 14 = .ok (.iload_n 2, 1) := by decide +kernel
theorem dX9_readNotebook_15 : decode cX9_readNotebook 15 = .ok (.invokestatic 297, 3) := by decide +kernel
theorem dX9_readNotebook_18 : decode cX9_readNotebook 18 = .ok (.ifCond .ne 8, 3) := by decide +kernel
theorem dX9_readNotebook_21 : decode cX9_readNotebook 21 = .ok (.aload_n 0, 1) := by decide +kernel
theorem dX9_readNotebook_22 : decode cX9_readNotebook 22 = .ok (.getfield 220, 3) := by decide +kernel
theorem dX9_readNotebook_25 : decode cX9_readNotebook 25 = .ok (.ireturn, 1) := by decide +kernel
theorem dX9_readNotebook_26 : decode cX9_readNotebook 26 = .ok (.aload_n 0, 1) := by decide +kernel
theorem dX9_readNotebook_27 : decode cX9_readNotebook 27 = .ok (.invokevirtual 301, 3) := by decide +kernel
theorem dX9_readNotebook_30 : decode cX9_readNotebook 30 = .ok (.iconst (-1), 1) := by decide +kernel
theorem dX9_readNotebook_31 : decode cX9_readNotebook 31 = .ok (.if_icmp .ne 7, 3) := by decide +kernel
theorem dX9_readNotebook_34 : decode cX9_readNotebook 34 = .ok (.iload_n 2, 1) := by decide +kernel
theorem dX9_readNotebook_35 : decode cX9_readNotebook 35 = .ok (.iconst 1, 1) := by decide +kernel
theorem dX9_readNotebook_36 : decode cX9_readNotebook 36 = .ok (.iadd, 1) := by decide +kernel
theorem dX9_readNotebook_37 : decode cX9_readNotebook 37 = .ok (.ireturn, 1) := by decide +kernel
theorem dX9_readNotebook_38 : decode cX9_readNotebook 38 = .ok (.aload_n 0, 1) := by decide +kernel
theorem dX9_readNotebook_39 : decode cX9_readNotebook 39 = .ok (.bipush 59, 2) := by decide +kernel
theorem dX9_readNotebook_41 : decode cX9_readNotebook 41 = .ok (.invokevirtual 304, 3) := by decide +kernel
theorem dX9_readNotebook_44 : decode cX9_readNotebook 44 = .ok (.ifCond .ne 8, 3) := by decide +kernel
theorem dX9_readNotebook_47 : decode cX9_readNotebook 47 = .ok (.aload_n 0, 1) := by decide +kernel
theorem dX9_readNotebook_48 : decode cX9_readNotebook 48 = .ok (.getfield 220, 3) := by decide +kernel
theorem dX9_readNotebook_51 : decode cX9_readNotebook 51 = .ok (.ireturn, 1) := by decide +kernel
theorem dX9_readNotebook_52 : decode cX9_readNotebook 52 = .ok (.iinc 2 1, 3) := by decide +kernel
theorem dX9_readNotebook_55 : decode cX9_readNotebook 55 = .ok (.goto (-49), 3) := by decide +kernel
theorem dX9_readNotebook_58 : decode cX9_readNotebook 58 = .ok (.aload_n 0, 1) := by decide +kernel
theorem dX9_readNotebook_59 : decode cX9_readNotebook 59 = .ok (.aload_n 0, 1) := by decide +kernel
theorem dX9_readNotebook_60 : decode cX9_readNotebook 60 = .ok (.invokevirtual 301, 3) := by decide +kernel
theorem dX9_readNotebook_63 : decode cX9_readNotebook 63 = .ok (.invokestatic 307, 3) := by decide +kernel
theorem dX9_readNotebook_66 : decode cX9_readNotebook 66 = .ok (.ifCond .eq 7, 3) := by decide +kernel
theorem dX9_readNotebook_69 : decode cX9_readNotebook 69 = .ok (.iconst 4, 1) := by decide +kernel
theorem dX9_readNotebook_70 : decode cX9_readNotebook 70 = .ok (.goto 4, 3) := by decide +kernel
theorem dX9_readNotebook_73 : decode cX9_readNotebook 73 = .ok (.iconst 1, 1) := by decide +kernel
theorem dX9_readNotebook_74 : decode cX9_readNotebook 74 = .ok (.aload_n 0, 1) := by decide +kernel
theorem dX9_readNotebook_75 : decode cX9_readNotebook 75 = .ok (.getfield 310, 3) := by decide +kernel
theorem dX9_readNotebook_78 : decode cX9_readNotebook 78 = .ok (.invokevirtual 313, 3) := by decide +kernel
theorem dX9_readNotebook_81 : decode cX9_readNotebook 81 = .ok (.pop, 1) := by decide +kernel
theorem dX9_readNotebook_82 : decode cX9_readNotebook 82 = .ok (.aload_n 0, 1) := by decide +kernel
theorem dX9_readNotebook_83 : decode cX9_readNotebook 83 = .ok (.getfield 220, 3) := by decide +kernel
theorem dX9_readNotebook_86 : decode cX9_readNotebook 86 = .ok (.ireturn, 1) := by decide +kernel
theorem dX9_unlike_0 : decode cX9_unlike 0 = .ok (.iconst 0, 1) := by decide +kernel
theorem dX9_unlike_1 : decode cX9_unlike 1 = .ok (.istore_n 3, 1) := by decide +kernel
theorem dX9_unlike_2 : decode cX9_unlike 2 = .ok (.iconst 0, 1) := by decide +kernel
theorem dX9_unlike_3 : decode cX9_unlike 3 = .ok (.istore 4, 2) := by decide +kernel
theorem dX9_unlike_5 : decode cX9_unlike 5 = .ok (.iload 4, 2) := by decide +kernel
theorem dX9_unlike_7 : decode cX9_unlike 7 = .ok (.iload_n 2, 1) := by decide +kernel
theorem dX9_unlike_8 : decode cX9_unlike 8 = .ok (.if_icmp .ge 43, 3) := by decide +kernel
theorem dX9_unlike_11 : decode cX9_unlike 11 = .ok (.iload_n 3, 1) := by decide +kernel
theorem dX9_unlike_12 : decode cX9_unlike 12 = .ok (.iload_n 1, 1) := by decide +kernel
theorem dX9_unlike_13 : decode cX9_unlike 13 = .ok (.iload 4, 2) := by decide +kernel
theorem dX9_unlike_15 : decode cX9_unlike 15 = .ok (.ishr, 1) := by decide +kernel
theorem dX9_unlike_16 : decode cX9_unlike 16 = .ok (.iconst 1, 1) := by decide +kernel
theorem dX9_unlike_17 : decode cX9_unlike 17 = .ok (.iand, 1) := by decide +kernel
theorem dX9_unlike_18 : decode cX9_unlike 18 = .ok (.ifCond .eq 15, 3) := by decide +kernel
theorem dX9_unlike_21 : decode cX9_unlike 21 = .ok (.aload_n 0, 1) := by decide +kernel
theorem dX9_unlike_22 : decode cX9_unlike 22 = .ok (.getfield 25, 3) := by decide +kernel
theorem dX9_unlike_25 : decode cX9_unlike 25 = .ok (.iload 4, 2) := by decide +kernel
theorem dX9_unlike_27 : decode cX9_unlike 27 = .ok (.invokevirtual 265, 3) := by decide +kernel
theorem dX9_unlike_30 : decode cX9_unlike 30 = .ok (.goto 13, 3) := by decide +kernel
theorem dX9_unlike_33 : decode cX9_unlike 33 = .ok (.aload_n 0, 1) := by decide +kernel
theorem dX9_unlike_34 : decode cX9_unlike 34 = .ok (.getfield 25, 3) := by decide +kernel
theorem dX9_unlike_37 : decode cX9_unlike 37 = .ok (.iload 4, 2) := by decide +kernel
theorem dX9_unlike_39 : decode cX9_unlike 39 = .ok (.invokevirtual 265, 3) := by decide +kernel
theorem dX9_unlike_42 : decode cX9_unlike 42 = .ok (.ineg, 1) := by decide +kernel
theorem dX9_unlike_43 : decode cX9_unlike 43 = .ok (.iadd, 1) := by decide +kernel
theorem dX9_unlike_44 : decode cX9_unlike 44 = .ok (.istore_n 3, 1) := by decide +kernel
theorem dX9_unlike_45 : decode cX9_unlike 45 = .ok (.iinc 4 1, 3) := by decide +kernel
theorem dX9_unlike_48 : decode cX9_unlike 48 = .ok (.goto (-43), 3) := by decide +kernel
theorem dX9_unlike_51 : decode cX9_unlike 51 = .ok (.iload_n 3, 1) := by decide +kernel
theorem dX9_unlike_52 : decode cX9_unlike 52 = .ok (.invokestatic 319, 3) := by decide +kernel
theorem dX9_unlike_55 : decode cX9_unlike 55 = .ok (.ireturn, 1) := by decide +kernel
theorem dX0_read_0 : decode cX0_read 0 = .ok (.iconst 0, 1) := by decide +kernel
theorem dX0_read_1 : decode cX0_read 1 = .ok (.istore_n 3, 1) := by decide +kernel
theorem dX0_read_2 : decode cX0_read 2 = .ok (.iload_n 3, 1) := by decide +kernel
theorem dX0_read_3 : decode cX0_read 3 = .ok (.iload_n 2, 1) := by decide +kernel
theorem dX0_read_4 : decode cX0_read 4 = .ok (.if_icmp .ge 67, 3) := by decide +kernel
theorem dX0_read_7 : decode cX0_read 7 = .ok (.iload_n 3, 1) := by decide +kernel
theorem dX0_read_8 : decode cX0_read 8 = .ok (.bipush 7, 2) := by decide +kernel
theorem dX0_read_10 : decode cX0_read 10 = .ok (.if_icmp .ge 61, 3) := by decide +kernel
theorem dX0_read_13 : decode cX0_read 13 = .ok (.aload_n 0, 1) := by decide +kernel
theorem dX0_read_14 : decode cX0_read 14 = .ok (.getfield 9, 3) := by decide +kernel
theorem dX0_read_17 : decode cX0_read 17 = .ok (.iload_n 3, 1) := by decide +kernel
theorem dX0_read_18 : decode cX0_read 18 = .ok (.aload_n 1, 1) := by decide +kernel
theorem dX0_read_19 : decode cX0_read 19 = .ok (.iconst 2, 1) := by decide +kernel
theorem dX0_read_20 : decode cX0_read 20 = .ok (.iload_n 3, 1) := by decide +kernel
theorem dX0_read_21 : decode cX0_read 21 = .ok (.imul, 1) := by decide +kernel
theorem dX0_read_22 : decode cX0_read 22 = .ok (.invokevirtual 27, 3) := by decide +kernel
theorem dX0_read_25 : decode cX0_read 25 = .ok (.iastore, 1) := by decide +kernel
theorem dX0_read_26 : decode cX0_read 26 = .ok (.aload_n 0, 1) := by decide +kernel
theorem dX0_read_27 : decode cX0_read 27 = .ok (.getfield 15, 3) := by decide +kernel
theorem dX0_read_30 : decode cX0_read 30 = .ok (.iload_n 3, 1) := by decide +kernel
theorem dX0_read_31 : decode cX0_read 31 = .ok (.aload_n 1, 1) := by decide +kernel
theorem dX0_read_32 : decode cX0_read 32 = .ok (.iconst 2, 1) := by decide +kernel
theorem dX0_read_33 : decode cX0_read 33 = .ok (.iload_n 3, 1) := by decide +kernel
theorem dX0_read_34 : decode cX0_read 34 = .ok (.imul, 1) := by decide +kernel
theorem dX0_read_35 : decode cX0_read 35 = .ok (.iconst 1, 1) := by decide +kernel
theorem dX0_read_36 : decode cX0_read 36 = .ok (.iadd, 1) := by decide +kernel
theorem dX0_read_37 : decode cX0_read 37 = .ok (.invokevirtual 27, 3) := by decide +kernel
theorem dX0_read_40 : decode cX0_read 40 = .ok (.iastore, 1) := by decide +kernel
theorem dX0_read_41 : decode cX0_read 41 = .ok (.aload_n 0, 1) := by decide +kernel
theorem dX0_read_42 : decode cX0_read 42 = .ok (.getfield 9, 3) := by decide +kernel
theorem dX0_read_45 : decode cX0_read 45 = .ok (.iload_n 3, 1) := by decide +kernel
theorem dX0_read_46 : decode cX0_read 46 = .ok (.iaload, 1) := by decide +kernel
theorem dX0_read_47 : decode cX0_read 47 = .ok (.bipush 39, 2) := by decide +kernel
theorem dX0_read_49 : decode cX0_read 49 = .ok (.if_icmp .gt 14, 3) := by decide +kernel
theorem dX0_read_52 : decode cX0_read 52 = .ok (.aload_n 0, 1) := by decide +kernel
theorem dX0_read_53 : decode cX0_read 53 = .ok (.getfield 15, 3) := by decide +kernel
theorem dX0_read_56 : decode cX0_read 56 = .ok (.iload_n 3, 1) := by decide +kernel
theorem dX0_read_57 : decode cX0_read 57 = .ok (.iaload, 1) := by decide +kernel
theorem dX0_read_58 : decode cX0_read 58 = .ok (.bipush 20, 2) := by decide +kernel
theorem dX0_read_60 : decode cX0_read 60 = .ok (.if_icmp .le 5, 3) := by decide +kernel
theorem dX0_read_63 : decode cX0_read 63 = .ok (.iconst 0, 1) := by decide +kernel
theorem dX0_read_64 : decode cX0_read 64 = .ok (.ireturn, 1) := by decide +kernel
theorem dX0_read_65 : decode cX0_read 65 = .ok (.iinc 3 1, 3) := by decide +kernel
theorem dX0_read_68 : decode cX0_read 68 = .ok (.goto (-66), 3) := by decide +kernel
theorem dX0_read_71 : decode cX0_read 71 = .ok (.iconst 1, 1) := by decide +kernel
theorem dX0_read_72 : decode cX0_read 72 = .ok (.ireturn, 1) := by decide +kernel
theorem dX0_wayInAll_0 : decode cX0_wayInAll 0 = .ok (.aload_n 0, 1) := by decide +kernel
theorem dX0_wayInAll_1 : decode cX0_wayInAll 1 = .ok (.getfield 24, 3) := by decide +kernel
theorem dX0_wayInAll_4 : decode cX0_wayInAll 4 = .ok (.iconst 0, 1) := by decide +kernel
theorem dX0_wayInAll_5 : decode cX0_wayInAll 5 = .ok (.iaload, 1) := by decide +kernel
theorem dX0_wayInAll_6 : decode cX0_wayInAll 6 = .ok (.ireturn, 1) := by decide +kernel
theorem dX4_isFooting_0 : decode cX4_isFooting 0 = .ok (.iload_n 2, 1) := by decide +kernel
theorem dX4_isFooting_1 : decode cX4_isFooting 1 = .ok (.ifCond .eq 9, 3) := by decide +kernel
theorem dX4_isFooting_4 : decode cX4_isFooting 4 = .ok (.iload_n 2, 1) := by decide +kernel
theorem dX4_isFooting_5 : decode cX4_isFooting 5 = .ok (.bipush 21, 2) := by decide +kernel
theorem dX4_isFooting_7 : decode cX4_isFooting 7 = .ok (.if_icmp .ne 19, 3) := by decide +kernel
theorem dX4_isFooting_10 : decode cX4_isFooting 10 = .ok (.iload_n 1, 1) := by decide +kernel
theorem dX4_isFooting_11 : decode cX4_isFooting 11 = .ok (.ifCond .lt 13, 3) := by decide +kernel
theorem dX4_isFooting_14 : decode cX4_isFooting 14 = .ok (.iload_n 1, 1) := by decide +kernel
theorem dX4_isFooting_15 : decode cX4_isFooting 15 = .ok (.bipush 39, 2) := by decide +kernel
theorem dX4_isFooting_17 : decode cX4_isFooting 17 = .ok (.if_icmp .gt 7, 3) := by decide +kernel
theorem dX4_isFooting_20 : decode cX4_isFooting 20 = .ok (.iconst 1, 1) := by decide +kernel
theorem dX4_isFooting_21 : decode cX4_isFooting 21 = .ok (.goto 4, 3) := by decide +kernel
theorem dX4_isFooting_24 : decode cX4_isFooting 24 = .ok (.iconst 0, 1) := by decide +kernel
theorem dX4_isFooting_25 : decode cX4_isFooting 25 = .ok (.ireturn, 1) := by decide +kernel
theorem dX4_isFooting_26 : decode cX4_isFooting 26 = .ok (.aload_n 0, 1) := by decide +kernel
theorem dX4_isFooting_27 : decode cX4_isFooting 27 = .ok (.aload_n 0, 1) := by decide +kernel
theorem dX4_isFooting_28 : decode cX4_isFooting 28 = .ok (.iload_n 1, 1) := by decide +kernel
theorem dX4_isFooting_29 : decode cX4_isFooting 29 = .ok (.iload_n 2, 1) := by decide +kernel
theorem dX4_isFooting_30 : decode cX4_isFooting 30 = .ok (.invokevirtual 85, 3) := by decide +kernel
theorem dX4_isFooting_33 : decode cX4_isFooting 33 = .ok (.invokevirtual 90, 3) := by decide +kernel
theorem dX4_isFooting_36 : decode cX4_isFooting 36 = .ok (.ireturn, 1) := by decide +kernel
theorem dX4_go_0 : decode cX4_go 0 = .ok (.aload_n 0, 1) := by decide +kernel
theorem dX4_go_1 : decode cX4_go 1 = .ok (.iconst 0, 1) := by decide +kernel
theorem dX4_go_2 : decode cX4_go 2 = .ok (.putfield 22, 3) := by decide +kernel
theorem dX4_go_5 : decode cX4_go 5 = .ok (.aload_n 0, 1) := by decide +kernel
theorem dX4_go_6 : decode cX4_go 6 = .ok (.iload_n 3, 1) := by decide +kernel
theorem dX4_go_7 : decode cX4_go 7 = .ok (.putfield 25, 3) := by decide +kernel
theorem dX4_go_10 : decode cX4_go 10 = .ok (.aload_n 0, 1) := by decide +kernel
theorem dX4_go_11 : decode cX4_go 11 = .ok (.iconst 0, 1) := by decide +kernel
theorem dX4_go_12 : decode cX4_go 12 = .ok (.putfield 28, 3) := by decide +kernel
theorem dX4_go_15 : decode cX4_go 15 = .ok (.iconst 0, 1) := by decide +kernel
theorem dX4_go_16 : decode cX4_go 16 = .ok (.istore 4, 2) := by decide +kernel
theorem dX4_go_18 : decode cX4_go 18 = .ok (.iload 4, 2) := by decide +kernel
theorem dX4_go_20 : decode cX4_go 20 = .ok (.aload_n 0, 1) := by decide +kernel
theorem dX4_go_21 : decode cX4_go 21 = .ok (.getfield 18, 3) := by decide +kernel
theorem dX4_go_24 : decode cX4_go 24 = .ok (.if_icmp .ge 145, 3) := by decide +kernel
theorem dX4_go_27 : decode cX4_go 27 = .ok (.iload 4, 2) := by decide +kernel
theorem dX4_go_29 : decode cX4_go 29 = .ok (.bipush 60, 2) := by decide +kernel
theorem dX4_go_31 : decode cX4_go 31 = .ok (.if_icmp .ge 138, 3) := by decide +kernel
theorem dX4_go_34 : decode cX4_go 34 = .ok (.aload_n 0, 1) := by decide +kernel
theorem dX4_go_35 : decode cX4_go 35 = .ok (.getfield 28, 3) := by decide +kernel
theorem dX4_go_38 : decode cX4_go 38 = .ok (.bipush 21, 2) := by decide +kernel
theorem dX4_go_40 : decode cX4_go 40 = .ok (.if_icmp .ge 129, 3) := by decide +kernel
theorem dX4_go_43 : decode cX4_go 43 = .ok (.aload_n 0, 1) := by decide +kernel
theorem dX4_go_44 : decode cX4_go 44 = .ok (.getfield 25, 3) := by decide +kernel
theorem dX4_go_47 : decode cX4_go 47 = .ok (.aload_n 0, 1) := by decide +kernel
theorem dX4_go_48 : decode cX4_go 48 = .ok (.getfield 9, 3) := by decide +kernel
theorem dX4_go_51 : decode cX4_go 51 = .ok (.iload 4, 2) := by decide +kernel
theorem dX4_go_53 : decode cX4_go 53 = .ok (.iaload, 1) := by decide +kernel
theorem dX4_go_54 : decode cX4_go 54 = .ok (.iadd, 1) := by decide +kernel
theorem dX4_go_55 : decode cX4_go 55 = .ok (.istore 5, 2) := by decide +kernel
theorem dX4_go_57 : decode cX4_go 57 = .ok (.iconst 0, 1) := by decide +kernel
theorem dX4_go_58 : decode cX4_go 58 = .ok (.bipush 21, 2) := by decide +kernel
theorem dX4_go_60 : decode cX4_go 60 = .ok (.aload_n 0, 1) := by decide +kernel
theorem dX4_go_61 : decode cX4_go 61 = .ok (.getfield 28, 3) := by decide +kernel
theorem dX4_go_64 : decode cX4_go 64 = .ok (.aload_n 0, 1) := by decide +kernel
theorem dX4_go_65 : decode cX4_go 65 = .ok (.getfield 15, 3) := by decide +kernel
theorem dX4_go_68 : decode cX4_go 68 = .ok (.iload 4, 2) := by decide +kernel
theorem dX4_go_70 : decode cX4_go 70 = .ok (.iaload, 1) := by decide +kernel
theorem dX4_go_71 : decode cX4_go 71 = .ok (.iadd, 1) := by decide +kernel
theorem dX4_go_72 : decode cX4_go 72 = .ok (.invokestatic 72, 3) := by decide +kernel
theorem dX4_go_75 : decode cX4_go 75 = .ok (.invokestatic 78, 3) := by decide +kernel
theorem dX4_go_78 : decode cX4_go 78 = .ok (.istore 6, 2) := by decide +kernel
theorem dX4_go_80 : decode cX4_go 80 = .ok (.aload_n 0, 1) := by decide +kernel
theorem dX4_go_81 : decode cX4_go 81 = .ok (.getfield 9, 3) := by decide +kernel
theorem dX4_go_84 : decode cX4_go 84 = .ok (.iload 4, 2) := by decide +kernel
theorem dX4_go_86 : decode cX4_go 86 = .ok (.iaload, 1) := by decide +kernel
theorem dX4_go_87 : decode cX4_go 87 = .ok (.aload_n 0, 1) := by decide +kernel
theorem dX4_go_88 : decode cX4_go 88 = .ok (.getfield 9, 3) := by decide +kernel
theorem dX4_go_91 : decode cX4_go 91 = .ok (.iload 4, 2) := by decide +kernel
theorem dX4_go_93 : decode cX4_go 93 = .ok (.iaload, 1) := by decide +kernel
theorem dX4_go_94 : decode cX4_go 94 = .ok (.imul, 1) := by decide +kernel
theorem dX4_go_95 : decode cX4_go 95 = .ok (.aload_n 0, 1) := by decide +kernel
theorem dX4_go_96 : decode cX4_go 96 = .ok (.getfield 15, 3) := by decide +kernel
theorem dX4_go_99 : decode cX4_go 99 = .ok (.iload 4, 2) := by decide +kernel
theorem dX4_go_101 : decode cX4_go 101 = .ok (.iaload, 1) := by decide +kernel
theorem dX4_go_102 : decode cX4_go 102 = .ok (.aload_n 0, 1) := by decide +kernel
theorem dX4_go_103 : decode cX4_go 103 = .ok (.getfield 15, 3) := by decide +kernel
theorem dX4_go_106 : decode cX4_go 106 = .ok (.iload 4, 2) := by decide +kernel
theorem dX4_go_108 : decode cX4_go 108 = .ok (.iaload, 1) := by decide +kernel
theorem dX4_go_109 : decode cX4_go 109 = .ok (.imul, 1) := by decide +kernel
theorem dX4_go_110 : decode cX4_go 110 = .ok (.iadd, 1) := by decide +kernel
theorem dX4_go_111 : decode cX4_go 111 = .ok (.iload_n 2, 1) := by decide +kernel
theorem dX4_go_112 : decode cX4_go 112 = .ok (.iload_n 2, 1) := by decide +kernel
theorem dX4_go_113 : decode cX4_go 113 = .ok (.imul, 1) := by decide +kernel
theorem dX4_go_114 : decode cX4_go 114 = .ok (.if_icmp .gt 7, 3) := by decide +kernel
theorem dX4_go_117 : decode cX4_go 117 = .ok (.iconst 1, 1) := by decide +kernel
theorem dX4_go_118 : decode cX4_go 118 = .ok (.goto 4, 3) := by decide +kernel
theorem dX4_go_121 : decode cX4_go 121 = .ok (.iconst 0, 1) := by decide +kernel
theorem dX4_go_122 : decode cX4_go 122 = .ok (.istore 7, 2) := by decide +kernel
theorem dX4_go_124 : decode cX4_go 124 = .ok (.iload 7, 2) := by decide +kernel
theorem dX4_go_126 : decode cX4_go 126 = .ok (.ifCond .eq 14, 3) := by decide +kernel
theorem dX4_go_129 : decode cX4_go 129 = .ok (.aload_n 1, 1) := by decide +kernel
theorem dX4_go_130 : decode cX4_go 130 = .ok (.iload 5, 2) := by decide +kernel
theorem dX4_go_132 : decode cX4_go 132 = .ok (.iload 6, 2) := by decide +kernel
theorem dX4_go_134 : decode cX4_go 134 = .ok (.invokestatic 81, 3) := by decide +kernel
theorem dX4_go_137 : decode cX4_go 137 = .ok (.ifCond .ne 4, 3) := by decide +kernel
theorem dX4_go_140 : decode cX4_go 140 = .ok (.return_, 1) := by decide +kernel
theorem dX4_go_141 : decode cX4_go 141 = .ok (.aload_n 0, 1) := by decide +kernel
theorem dX4_go_142 : decode cX4_go 142 = .ok (.iload 5, 2) := by decide +kernel
theorem dX4_go_144 : decode cX4_go 144 = .ok (.putfield 25, 3) := by decide +kernel
theorem dX4_go_147 : decode cX4_go 147 = .ok (.aload_n 0, 1) := by decide +kernel
theorem dX4_go_148 : decode cX4_go 148 = .ok (.iload 6, 2) := by decide +kernel
theorem dX4_go_150 : decode cX4_go 150 = .ok (.putfield 28, 3) := by decide +kernel
theorem dX4_go_153 : decode cX4_go 153 = .ok (.aload_n 0, 1) := by decide +kernel
theorem dX4_go_154 : decode cX4_go 154 = .ok (.dup, 1) := by decide +kernel
theorem dX4_go_155 : decode cX4_go 155 = .ok (.getfield 22, 3) := by decide +kernel
theorem dX4_go_158 : decode cX4_go 158 = .ok (.iconst 1, 1) := by decide +kernel
theorem dX4_go_159 : decode cX4_go 159 = .ok (.iadd, 1) := by decide +kernel
theorem dX4_go_160 : decode cX4_go 160 = .ok (.putfield 22, 3) := by decide +kernel
theorem dX4_go_163 : decode cX4_go 163 = .ok (.iinc 4 1, 3) := by decide +kernel
theorem dX4_go_166 : decode cX4_go 166 = .ok (.goto (-148), 3) := by decide +kernel
theorem dX4_go_169 : decode cX4_go 169 = .ok (.return_, 1) := by decide +kernel
set_option maxHeartbeats 4000000 in
theorem s_X9_readLine (b : Nat) (hb : isF b) (v2 : Int32) (M : Mem) : AM yX9_readLine cX9_readLine 9 (some .boolean) 3 60 glC (fun ad => [.ref (ad 19), .ref (ad b), .int v2]) M (PI (fun r M' => (r = 0 ∨ r = 1) ∧ (∀ a, a ≠ 19 → a ≠ (b + 1) → a ≠ (b + 2) → a ≠ (b + 3) → a ≠ (b + 4) → a ≠ (b + 5) → M' a = M a))) := by
  refine AM.of (by decide) (fun _ => Nat.le_of_ble_eq_true rfl) (fun X ad cI cZ cB hX hR => ?_)
  show V X M [(0, .ref (ad 19)), (1, .ref (ad b)), (2, .int v2)] [] 0
  have hb0 : b = 1 ∨ b = 7 ∨ b = 13 := hb
  have hf_0 : ∀ a, a ≠ 19 → a ≠ (b + 1) → a ≠ (b + 2) → a ≠ (b + 3) → a ≠ (b + 4) → a ≠ (b + 5) → M a = M a := fun _ _ _ _ _ _ _ => rfl
  refine s_aload_n (k := 0) hX dX9_readLine_0 rfl rfl ?_
  refine s_get hX fX9_310 oC19 rfl dX9_readLine_1 ?_
  refine s_topi (fun x3_1 ex3_1 => ?_)
  refine s_istore_n (lv' := [(0, .ref (ad 19)), (1, .ref (ad b)), (2, .int v2), (3, .int x3_1)]) hX dX9_readLine_4 rfl (by decide) rfl ?_
  refine s_aload_n (k := 0) hX dX9_readLine_5 rfl rfl ?_
  refine s_iconst (v := (nI 2)) hX dX9_readLine_6 (by decide) ?_
  refine s_callVi hX (s_X7_number _ M (by decide)) mX7_number lX9_316 (by decide) (by decide) oC19 rfl rfl rfl rfl rfl (Nat.le_of_ble_eq_true rfl) dX9_readLine_7 (fun r7 M_2 hp7 => ?_)
  have hfM_2 : ∀ a, a ≠ 19 → a ≠ (b + 1) → a ≠ (b + 2) → a ≠ (b + 3) → a ≠ (b + 4) → a ≠ (b + 5) → M_2 a = M a := fun a q0 q1 q2 q3 q4 q5 => (hp7 a (by omega)).trans (hf_0 a q0 q1 q2 q3 q4 q5)
  refine s_istore (lv' := [(0, .ref (ad 19)), (1, .ref (ad b)), (2, .int v2), (3, .int x3_1), (4, .int r7)]) hX dX9_readLine_10 (by decide) rfl ?_
  refine s_iload (k := 4) hX dX9_readLine_12 rfl ?_
  refine s_iconst (v := (-1)) hX dX9_readLine_14 (by decide) ?_
  refine s_icmp_ne (tgt := 20) hX dX9_readLine_15 (by decide) (fun c15 => ?_) (fun c15 => ?_)
  · refine s_iload (k := 4) hX dX9_readLine_20 rfl ?_
    refine s_bipush (v := (nI 39)) hX dX9_readLine_22 (by decide) ?_
    refine s_icmp_le (tgt := 34) hX dX9_readLine_24 (by decide) (fun c24 => ?_) (fun c24 => ?_)
    · replace c24 := (q_le (by omega)).mp c24
      refine s_aload_n (k := 0) hX dX9_readLine_34 rfl rfl ?_
      refine s_bipush (v := (nI 44)) hX dX9_readLine_35 (by decide) ?_
      refine s_callVi hX (s_X7_skip _ M_2) mX7_skip lX9_304 (by decide) (by decide) oC19 rfl rfl rfl rfl rfl (Nat.le_of_ble_eq_true rfl) dX9_readLine_37 (fun r37 M_4 hp37 => ?_)
      obtain ⟨hz37, hq37⟩ := hp37
      have hfM_4 : ∀ a, a ≠ 19 → a ≠ (b + 1) → a ≠ (b + 2) → a ≠ (b + 3) → a ≠ (b + 4) → a ≠ (b + 5) → M_4 a = M a := fun a q0 q1 q2 q3 q4 q5 => (hq37 a (by omega)).trans (hfM_2 a q0 q1 q2 q3 q4 q5)
      refine s_if_ne (tgt := 45) hX dX9_readLine_40 (by decide) (fun c40 => ?_) (fun c40 => ?_)
      · replace c40 := mt z_eq.mpr c40
        refine s_aload_n (k := 0) hX dX9_readLine_45 rfl rfl ?_
        refine s_get hX fX9_310 oC19 rfl dX9_readLine_46 ?_
        refine s_topi (fun x5_5 ex5_5 => ?_)
        refine s_istore (lv' := [(0, .ref (ad 19)), (1, .ref (ad b)), (2, .int v2), (3, .int x3_1), (4, .int r7), (5, .int x5_5)]) hX dX9_readLine_49 (by decide) rfl ?_
        refine s_aload_n (k := 0) hX dX9_readLine_51 rfl rfl ?_
        refine s_iconst (v := (nI 2)) hX dX9_readLine_52 (by decide) ?_
        refine s_callVi hX (s_X7_number _ M_4 (by decide)) mX7_number lX9_316 (by decide) (by decide) oC19 rfl rfl rfl rfl rfl (Nat.le_of_ble_eq_true rfl) dX9_readLine_53 (fun r53 M_6 hp53 => ?_)
        have hfM_6 : ∀ a, a ≠ 19 → a ≠ (b + 1) → a ≠ (b + 2) → a ≠ (b + 3) → a ≠ (b + 4) → a ≠ (b + 5) → M_6 a = M a := fun a q0 q1 q2 q3 q4 q5 => (hp53 a (by omega)).trans (hfM_4 a q0 q1 q2 q3 q4 q5)
        refine s_istore (lv' := [(0, .ref (ad 19)), (1, .ref (ad b)), (2, .int v2), (3, .int x3_1), (4, .int r7), (5, .int x5_5), (6, .int r53)]) hX dX9_readLine_56 (by decide) rfl ?_
        refine s_iload (k := 6) hX dX9_readLine_58 rfl ?_
        refine s_iconst (v := (-1)) hX dX9_readLine_60 (by decide) ?_
        refine s_icmp_ne (tgt := 66) hX dX9_readLine_61 (by decide) (fun c61 => ?_) (fun c61 => ?_)
        · refine s_iload (k := 6) hX dX9_readLine_66 rfl ?_
          refine s_iconst (v := (nI 1)) hX dX9_readLine_68 (by decide) ?_
          refine s_icmp_lt (tgt := 79) hX dX9_readLine_69 (by decide) (fun c69 => ?_) (fun c69 => ?_)
          · replace c69 := (q_lt (by omega)).mp c69
            refine s_aload_n (k := 0) hX dX9_readLine_79 rfl rfl ?_
            refine s_iconst (v := (nI 3)) hX dX9_readLine_80 (by decide) ?_
            refine s_iload (k := 5) hX dX9_readLine_81 rfl ?_
            refine s_callVi hX (s_X7_refuse _ _ M_6) mX7_refuse lX9_313 (by decide) (by decide) oC19 rfl rfl rfl rfl rfl (Nat.le_of_ble_eq_true rfl) dX9_readLine_83 (fun r83 M_8 hp83 => ?_)
            obtain ⟨hz83, hq83⟩ := hp83
            have hfM_8 : ∀ a, a ≠ 19 → a ≠ (b + 1) → a ≠ (b + 2) → a ≠ (b + 3) → a ≠ (b + 4) → a ≠ (b + 5) → M_8 a = M a := fun a q0 q1 q2 q3 q4 q5 => (hq83 a (by omega)).trans (hfM_6 a q0 q1 q2 q3 q4 q5)
            exact s_zret hX hR dX9_readLine_86 hz83 ⟨hz83, hfM_8⟩
          · replace c69 := mt (q_lt (by omega)).mpr c69
            refine s_iload (k := 6) hX dX9_readLine_72 rfl ?_
            refine s_bipush (v := (nI 20)) hX dX9_readLine_74 (by decide) ?_
            refine s_icmp_le (tgt := 87) hX dX9_readLine_76 (by decide) (fun c76 => ?_) (fun c76 => ?_)
            · replace c76 := (q_le (by omega)).mp c76
              refine s_aload_n (k := 1) hX dX9_readLine_87 rfl rfl ?_
              refine s_iload (k := 4) hX dX9_readLine_88 rfl ?_
              refine s_iload (k := 6) hX dX9_readLine_90 rfl ?_
              refine s_callVi hX (s_X2_stoneAt b hb _ _ M_6) mX2_stoneAt lX9_90 (by decide) (by decide) (oF hb) rfl rfl rfl rfl rfl (Nat.le_of_ble_eq_true rfl) dX9_readLine_92 (fun r92 M_9 hp92 => ?_)
              subst hp92
              refine s_iconst (v := (-1)) hX dX9_readLine_95 (by decide) ?_
              refine s_icmp_eq (tgt := 107) hX dX9_readLine_96 (by decide) (fun c96 => ?_) (fun c96 => ?_)
              · refine s_iconst (v := (nI 0)) hX dX9_readLine_107 (by decide) ?_
                refine s_istore (lv' := [(0, .ref (ad 19)), (1, .ref (ad b)), (2, .int v2), (3, .int x3_1), (4, .int r7), (5, .int x5_5), (6, .int r53), (7, .int (nI 0))]) hX dX9_readLine_108 (by decide) rfl ?_
                refine s_aload_n (k := 0) hX dX9_readLine_110 rfl rfl ?_
                refine s_callVi hX (s_X7_here  M_6) mX7_here lX9_301 (by decide) (by decide) oC19 rfl rfl rfl rfl rfl (Nat.le_of_ble_eq_true rfl) dX9_readLine_111 (fun r111 M_11 hp111 => ?_)
                subst hp111
                refine s_bipush (v := (nI 115)) hX dX9_readLine_114 (by decide) ?_
                refine s_icmp_ne (tgt := 168) hX dX9_readLine_116 (by decide) (fun c116 => ?_) (fun c116 => ?_)
                · replace c116 := mt (q_eq (by omega)).mpr c116
                  refine s_aload_n (k := 0) hX dX9_readLine_168 rfl rfl ?_
                  refine s_callVi hX (s_X7_here  M_6) mX7_here lX9_301 (by decide) (by decide) oC19 rfl rfl rfl rfl rfl (Nat.le_of_ble_eq_true rfl) dX9_readLine_169 (fun r169 M_12 hp169 => ?_)
                  subst hp169
                  refine s_bipush (v := (nI 117)) hX dX9_readLine_172 (by decide) ?_
                  refine s_icmp_ne (tgt := 181) hX dX9_readLine_174 (by decide) (fun c174 => ?_) (fun c174 => ?_)
                  · replace c174 := mt (q_eq (by omega)).mpr c174
                    refine s_iconst (v := (nI 0)) hX dX9_readLine_181 (by decide) ?_
                    refine s_istore (lv' := [(0, .ref (ad 19)), (1, .ref (ad b)), (2, .int v2), (3, .int x3_1), (4, .int r7), (5, .int x5_5), (6, .int r53), (7, .int (nI 0)), (8, .int (nI 0))]) hX dX9_readLine_182 (by decide) rfl ?_
                    refine s_iload (k := 8) hX dX9_readLine_184 rfl ?_
                    refine s_if_eq (tgt := 199) hX dX9_readLine_186 (by decide) (fun c186 => ?_) (fun c186 => ?_)
                    · refine s_aload_n (k := 1) hX dX9_readLine_199 rfl rfl ?_
                      refine s_iload_n (k := 2) hX dX9_readLine_200 rfl rfl ?_
                      refine s_iload (k := 4) hX dX9_readLine_201 rfl ?_
                      refine s_iload (k := 6) hX dX9_readLine_203 rfl ?_
                      refine s_iload (k := 7) hX dX9_readLine_205 rfl ?_
                      refine s_iload (k := 8) hX dX9_readLine_207 rfl ?_
                      refine s_callVv hX (s_X2_lay b hb _ _ _ _ _ M_6) mX2_lay lX9_94 (by decide) (by decide) (oF hb) rfl rfl rfl rfl rfl (Nat.le_of_ble_eq_true rfl) dX9_readLine_209 (fun M_14 hp209 => ?_)
                      have hfM_14 : ∀ a, a ≠ 19 → a ≠ (b + 1) → a ≠ (b + 2) → a ≠ (b + 3) → a ≠ (b + 4) → a ≠ (b + 5) → M_14 a = M a := fun a q0 q1 q2 q3 q4 q5 => (hp209 a (by omega) (by omega) (by omega) (by omega) (by omega)).trans (hfM_6 a q0 q1 q2 q3 q4 q5)
                      refine s_iconst (v := (nI 1)) hX dX9_readLine_212 (by decide) ?_
                      exact s_zret hX hR dX9_readLine_213 (by decide) ⟨(by decide), hfM_14⟩
                    · first | exact absurd (by decide) c186 | exact absurd c186 (by decide)
                  · replace c174 := (q_eq (by omega)).mp c174
                    refine s_iconst (v := (nI 1)) hX dX9_readLine_177 (by decide) ?_
                    refine s_goto (tgt := 182) hX dX9_readLine_178 (by decide) ?_
                    refine s_istore (lv' := [(0, .ref (ad 19)), (1, .ref (ad b)), (2, .int v2), (3, .int x3_1), (4, .int r7), (5, .int x5_5), (6, .int r53), (7, .int (nI 0)), (8, .int (nI 1))]) hX dX9_readLine_182 (by decide) rfl ?_
                    refine s_iload (k := 8) hX dX9_readLine_184 rfl ?_
                    refine s_if_eq (tgt := 199) hX dX9_readLine_186 (by decide) (fun c186 => ?_) (fun c186 => ?_)
                    · first | exact absurd (by decide) c186 | exact absurd c186 (by decide)
                    · refine s_aload_n (k := 0) hX dX9_readLine_189 rfl rfl ?_
                      refine s_dup hX dX9_readLine_190 rfl ?_
                      refine s_get hX fX9_310 oC19 rfl dX9_readLine_191 ?_
                      refine s_iconst (v := (nI 1)) hX dX9_readLine_194 (by decide) ?_
                      refine s_iadd hX dX9_readLine_195 ?_
                      refine s_puti (ty := .int) hX fX9_310 oC19 rfl (Nat.le_of_ble_eq_true rfl) ty_7_3 rfl rfl dX9_readLine_196 ?_
                      refine s_mem (fun M_16 eM_16 => ?_)
                      have hfM_16 : ∀ a, a ≠ 19 → a ≠ (b + 1) → a ≠ (b + 2) → a ≠ (b + 3) → a ≠ (b + 4) → a ≠ (b + 5) → M_16 a = M a := fun a q0 q1 q2 q3 q4 q5 => (congrFun eM_16 a).trans ((mset_n (by omega)).trans (hfM_6 a q0 q1 q2 q3 q4 q5))
                      refine s_aload_n (k := 1) hX dX9_readLine_199 rfl rfl ?_
                      refine s_iload_n (k := 2) hX dX9_readLine_200 rfl rfl ?_
                      refine s_iload (k := 4) hX dX9_readLine_201 rfl ?_
                      refine s_iload (k := 6) hX dX9_readLine_203 rfl ?_
                      refine s_iload (k := 7) hX dX9_readLine_205 rfl ?_
                      refine s_iload (k := 8) hX dX9_readLine_207 rfl ?_
                      refine s_callVv hX (s_X2_lay b hb _ _ _ _ _ M_16) mX2_lay lX9_94 (by decide) (by decide) (oF hb) rfl rfl rfl rfl rfl (Nat.le_of_ble_eq_true rfl) dX9_readLine_209 (fun M_17 hp209 => ?_)
                      have hfM_17 : ∀ a, a ≠ 19 → a ≠ (b + 1) → a ≠ (b + 2) → a ≠ (b + 3) → a ≠ (b + 4) → a ≠ (b + 5) → M_17 a = M a := fun a q0 q1 q2 q3 q4 q5 => (hp209 a (by omega) (by omega) (by omega) (by omega) (by omega)).trans (hfM_16 a q0 q1 q2 q3 q4 q5)
                      refine s_iconst (v := (nI 1)) hX dX9_readLine_212 (by decide) ?_
                      exact s_zret hX hR dX9_readLine_213 (by decide) ⟨(by decide), hfM_17⟩
                · replace c116 := (q_eq (by omega)).mp c116
                  refine s_aload_n (k := 0) hX dX9_readLine_119 rfl rfl ?_
                  refine s_dup hX dX9_readLine_120 rfl ?_
                  refine s_get hX fX9_310 oC19 rfl dX9_readLine_121 ?_
                  refine s_iconst (v := (nI 1)) hX dX9_readLine_124 (by decide) ?_
                  refine s_iadd hX dX9_readLine_125 ?_
                  refine s_puti (ty := .int) hX fX9_310 oC19 rfl (Nat.le_of_ble_eq_true rfl) ty_7_3 rfl rfl dX9_readLine_126 ?_
                  refine s_mem (fun M_18 eM_18 => ?_)
                  have hfM_18 : ∀ a, a ≠ 19 → a ≠ (b + 1) → a ≠ (b + 2) → a ≠ (b + 3) → a ≠ (b + 4) → a ≠ (b + 5) → M_18 a = M a := fun a q0 q1 q2 q3 q4 q5 => (congrFun eM_18 a).trans ((mset_n (by omega)).trans (hfM_6 a q0 q1 q2 q3 q4 q5))
                  refine s_aload_n (k := 0) hX dX9_readLine_129 rfl rfl ?_
                  refine s_callVi hX (s_X7_here  M_18) mX7_here lX9_301 (by decide) (by decide) oC19 rfl rfl rfl rfl rfl (Nat.le_of_ble_eq_true rfl) dX9_readLine_130 (fun r130 M_19 hp130 => ?_)
                  subst hp130
                  refine s_callSi hX (s_X7_isDigit _ M_18) mX7_isDigit lX9_307 (by decide) (by decide) rfl rfl (Nat.le_of_ble_eq_true rfl) dX9_readLine_133 (fun r133 M_20 hp133 => ?_)
                  obtain ⟨hz133, hq133⟩ := hp133
                  subst hq133
                  refine s_if_ne (tgt := 149) hX dX9_readLine_136 (by decide) (fun c136 => ?_) (fun c136 => ?_)
                  · replace c136 := mt z_eq.mpr c136
                    refine s_aload_n (k := 0) hX dX9_readLine_149 rfl rfl ?_
                    refine s_callVi hX (s_X7_here  M_18) mX7_here lX9_301 (by decide) (by decide) oC19 rfl rfl rfl rfl rfl (Nat.le_of_ble_eq_true rfl) dX9_readLine_150 (fun r150 M_21 hp150 => ?_)
                    subst hp150
                    refine s_bipush (v := (nI 48)) hX dX9_readLine_153 (by decide) ?_
                    refine s_isub hX dX9_readLine_155 ?_
                    refine s_topi (fun x7_22 ex7_22 => ?_)
                    refine s_istore (lv' := [(0, .ref (ad 19)), (1, .ref (ad b)), (2, .int v2), (3, .int x3_1), (4, .int r7), (5, .int x5_5), (6, .int r53), (7, .int x7_22)]) hX dX9_readLine_156 (by decide) rfl ?_
                    refine s_aload_n (k := 0) hX dX9_readLine_158 rfl rfl ?_
                    refine s_dup hX dX9_readLine_159 rfl ?_
                    refine s_get hX fX9_310 oC19 rfl dX9_readLine_160 ?_
                    refine s_iconst (v := (nI 1)) hX dX9_readLine_163 (by decide) ?_
                    refine s_iadd hX dX9_readLine_164 ?_
                    refine s_puti (ty := .int) hX fX9_310 oC19 rfl (Nat.le_of_ble_eq_true rfl) ty_7_3 rfl rfl dX9_readLine_165 ?_
                    refine s_mem (fun M_23 eM_23 => ?_)
                    have hfM_23 : ∀ a, a ≠ 19 → a ≠ (b + 1) → a ≠ (b + 2) → a ≠ (b + 3) → a ≠ (b + 4) → a ≠ (b + 5) → M_23 a = M a := fun a q0 q1 q2 q3 q4 q5 => (congrFun eM_23 a).trans ((mset_n (by omega)).trans (hfM_18 a q0 q1 q2 q3 q4 q5))
                    refine s_aload_n (k := 0) hX dX9_readLine_168 rfl rfl ?_
                    refine s_callVi hX (s_X7_here  M_23) mX7_here lX9_301 (by decide) (by decide) oC19 rfl rfl rfl rfl rfl (Nat.le_of_ble_eq_true rfl) dX9_readLine_169 (fun r169 M_24 hp169 => ?_)
                    subst hp169
                    refine s_bipush (v := (nI 117)) hX dX9_readLine_172 (by decide) ?_
                    refine s_icmp_ne (tgt := 181) hX dX9_readLine_174 (by decide) (fun c174 => ?_) (fun c174 => ?_)
                    · replace c174 := mt (q_eq (by omega)).mpr c174
                      refine s_iconst (v := (nI 0)) hX dX9_readLine_181 (by decide) ?_
                      refine s_istore (lv' := [(0, .ref (ad 19)), (1, .ref (ad b)), (2, .int v2), (3, .int x3_1), (4, .int r7), (5, .int x5_5), (6, .int r53), (7, .int x7_22), (8, .int (nI 0))]) hX dX9_readLine_182 (by decide) rfl ?_
                      refine s_iload (k := 8) hX dX9_readLine_184 rfl ?_
                      refine s_if_eq (tgt := 199) hX dX9_readLine_186 (by decide) (fun c186 => ?_) (fun c186 => ?_)
                      · refine s_aload_n (k := 1) hX dX9_readLine_199 rfl rfl ?_
                        refine s_iload_n (k := 2) hX dX9_readLine_200 rfl rfl ?_
                        refine s_iload (k := 4) hX dX9_readLine_201 rfl ?_
                        refine s_iload (k := 6) hX dX9_readLine_203 rfl ?_
                        refine s_iload (k := 7) hX dX9_readLine_205 rfl ?_
                        refine s_iload (k := 8) hX dX9_readLine_207 rfl ?_
                        refine s_callVv hX (s_X2_lay b hb _ _ _ _ _ M_23) mX2_lay lX9_94 (by decide) (by decide) (oF hb) rfl rfl rfl rfl rfl (Nat.le_of_ble_eq_true rfl) dX9_readLine_209 (fun M_26 hp209 => ?_)
                        have hfM_26 : ∀ a, a ≠ 19 → a ≠ (b + 1) → a ≠ (b + 2) → a ≠ (b + 3) → a ≠ (b + 4) → a ≠ (b + 5) → M_26 a = M a := fun a q0 q1 q2 q3 q4 q5 => (hp209 a (by omega) (by omega) (by omega) (by omega) (by omega)).trans (hfM_23 a q0 q1 q2 q3 q4 q5)
                        refine s_iconst (v := (nI 1)) hX dX9_readLine_212 (by decide) ?_
                        exact s_zret hX hR dX9_readLine_213 (by decide) ⟨(by decide), hfM_26⟩
                      · first | exact absurd (by decide) c186 | exact absurd c186 (by decide)
                    · replace c174 := (q_eq (by omega)).mp c174
                      refine s_iconst (v := (nI 1)) hX dX9_readLine_177 (by decide) ?_
                      refine s_goto (tgt := 182) hX dX9_readLine_178 (by decide) ?_
                      refine s_istore (lv' := [(0, .ref (ad 19)), (1, .ref (ad b)), (2, .int v2), (3, .int x3_1), (4, .int r7), (5, .int x5_5), (6, .int r53), (7, .int x7_22), (8, .int (nI 1))]) hX dX9_readLine_182 (by decide) rfl ?_
                      refine s_iload (k := 8) hX dX9_readLine_184 rfl ?_
                      refine s_if_eq (tgt := 199) hX dX9_readLine_186 (by decide) (fun c186 => ?_) (fun c186 => ?_)
                      · first | exact absurd (by decide) c186 | exact absurd c186 (by decide)
                      · refine s_aload_n (k := 0) hX dX9_readLine_189 rfl rfl ?_
                        refine s_dup hX dX9_readLine_190 rfl ?_
                        refine s_get hX fX9_310 oC19 rfl dX9_readLine_191 ?_
                        refine s_iconst (v := (nI 1)) hX dX9_readLine_194 (by decide) ?_
                        refine s_iadd hX dX9_readLine_195 ?_
                        refine s_puti (ty := .int) hX fX9_310 oC19 rfl (Nat.le_of_ble_eq_true rfl) ty_7_3 rfl rfl dX9_readLine_196 ?_
                        refine s_mem (fun M_28 eM_28 => ?_)
                        have hfM_28 : ∀ a, a ≠ 19 → a ≠ (b + 1) → a ≠ (b + 2) → a ≠ (b + 3) → a ≠ (b + 4) → a ≠ (b + 5) → M_28 a = M a := fun a q0 q1 q2 q3 q4 q5 => (congrFun eM_28 a).trans ((mset_n (by omega)).trans (hfM_23 a q0 q1 q2 q3 q4 q5))
                        refine s_aload_n (k := 1) hX dX9_readLine_199 rfl rfl ?_
                        refine s_iload_n (k := 2) hX dX9_readLine_200 rfl rfl ?_
                        refine s_iload (k := 4) hX dX9_readLine_201 rfl ?_
                        refine s_iload (k := 6) hX dX9_readLine_203 rfl ?_
                        refine s_iload (k := 7) hX dX9_readLine_205 rfl ?_
                        refine s_iload (k := 8) hX dX9_readLine_207 rfl ?_
                        refine s_callVv hX (s_X2_lay b hb _ _ _ _ _ M_28) mX2_lay lX9_94 (by decide) (by decide) (oF hb) rfl rfl rfl rfl rfl (Nat.le_of_ble_eq_true rfl) dX9_readLine_209 (fun M_29 hp209 => ?_)
                        have hfM_29 : ∀ a, a ≠ 19 → a ≠ (b + 1) → a ≠ (b + 2) → a ≠ (b + 3) → a ≠ (b + 4) → a ≠ (b + 5) → M_29 a = M a := fun a q0 q1 q2 q3 q4 q5 => (hp209 a (by omega) (by omega) (by omega) (by omega) (by omega)).trans (hfM_28 a q0 q1 q2 q3 q4 q5)
                        refine s_iconst (v := (nI 1)) hX dX9_readLine_212 (by decide) ?_
                        exact s_zret hX hR dX9_readLine_213 (by decide) ⟨(by decide), hfM_29⟩
                  · replace c136 := z_eq.mp c136
                    refine s_aload_n (k := 0) hX dX9_readLine_139 rfl rfl ?_
                    refine s_iconst (v := (nI 1)) hX dX9_readLine_140 (by decide) ?_
                    refine s_aload_n (k := 0) hX dX9_readLine_141 rfl rfl ?_
                    refine s_get hX fX9_310 oC19 rfl dX9_readLine_142 ?_
                    refine s_callVi hX (s_X7_refuse _ _ M_18) mX7_refuse lX9_313 (by decide) (by decide) oC19 rfl rfl rfl rfl rfl (Nat.le_of_ble_eq_true rfl) dX9_readLine_145 (fun r145 M_30 hp145 => ?_)
                    obtain ⟨hz145, hq145⟩ := hp145
                    have hfM_30 : ∀ a, a ≠ 19 → a ≠ (b + 1) → a ≠ (b + 2) → a ≠ (b + 3) → a ≠ (b + 4) → a ≠ (b + 5) → M_30 a = M a := fun a q0 q1 q2 q3 q4 q5 => (hq145 a (by omega)).trans (hfM_18 a q0 q1 q2 q3 q4 q5)
                    exact s_zret hX hR dX9_readLine_148 hz145 ⟨hz145, hfM_30⟩
              · refine s_aload_n (k := 0) hX dX9_readLine_99 rfl rfl ?_
                refine s_bipush (v := (nI 6)) hX dX9_readLine_100 (by decide) ?_
                refine s_iload_n (k := 3) hX dX9_readLine_102 rfl rfl ?_
                refine s_callVi hX (s_X7_refuse _ _ M_6) mX7_refuse lX9_313 (by decide) (by decide) oC19 rfl rfl rfl rfl rfl (Nat.le_of_ble_eq_true rfl) dX9_readLine_103 (fun r103 M_31 hp103 => ?_)
                obtain ⟨hz103, hq103⟩ := hp103
                have hfM_31 : ∀ a, a ≠ 19 → a ≠ (b + 1) → a ≠ (b + 2) → a ≠ (b + 3) → a ≠ (b + 4) → a ≠ (b + 5) → M_31 a = M a := fun a q0 q1 q2 q3 q4 q5 => (hq103 a (by omega)).trans (hfM_6 a q0 q1 q2 q3 q4 q5)
                exact s_zret hX hR dX9_readLine_106 hz103 ⟨hz103, hfM_31⟩
            · replace c76 := mt (q_le (by omega)).mpr c76
              refine s_aload_n (k := 0) hX dX9_readLine_79 rfl rfl ?_
              refine s_iconst (v := (nI 3)) hX dX9_readLine_80 (by decide) ?_
              refine s_iload (k := 5) hX dX9_readLine_81 rfl ?_
              refine s_callVi hX (s_X7_refuse _ _ M_6) mX7_refuse lX9_313 (by decide) (by decide) oC19 rfl rfl rfl rfl rfl (Nat.le_of_ble_eq_true rfl) dX9_readLine_83 (fun r83 M_32 hp83 => ?_)
              obtain ⟨hz83, hq83⟩ := hp83
              have hfM_32 : ∀ a, a ≠ 19 → a ≠ (b + 1) → a ≠ (b + 2) → a ≠ (b + 3) → a ≠ (b + 4) → a ≠ (b + 5) → M_32 a = M a := fun a q0 q1 q2 q3 q4 q5 => (hq83 a (by omega)).trans (hfM_6 a q0 q1 q2 q3 q4 q5)
              exact s_zret hX hR dX9_readLine_86 hz83 ⟨hz83, hfM_32⟩
        · refine s_iconst (v := (nI 0)) hX dX9_readLine_64 (by decide) ?_
          exact s_zret hX hR dX9_readLine_65 (by decide) ⟨(by decide), hfM_6⟩
      · replace c40 := z_eq.mp c40
        refine s_iconst (v := (nI 0)) hX dX9_readLine_43 (by decide) ?_
        exact s_zret hX hR dX9_readLine_44 (by decide) ⟨(by decide), hfM_4⟩
    · replace c24 := mt (q_le (by omega)).mpr c24
      refine s_aload_n (k := 0) hX dX9_readLine_27 rfl rfl ?_
      refine s_iconst (v := (nI 3)) hX dX9_readLine_28 (by decide) ?_
      refine s_iload_n (k := 3) hX dX9_readLine_29 rfl rfl ?_
      refine s_callVi hX (s_X7_refuse _ _ M_2) mX7_refuse lX9_313 (by decide) (by decide) oC19 rfl rfl rfl rfl rfl (Nat.le_of_ble_eq_true rfl) dX9_readLine_30 (fun r30 M_33 hp30 => ?_)
      obtain ⟨hz30, hq30⟩ := hp30
      have hfM_33 : ∀ a, a ≠ 19 → a ≠ (b + 1) → a ≠ (b + 2) → a ≠ (b + 3) → a ≠ (b + 4) → a ≠ (b + 5) → M_33 a = M a := fun a q0 q1 q2 q3 q4 q5 => (hq30 a (by omega)).trans (hfM_2 a q0 q1 q2 q3 q4 q5)
      exact s_zret hX hR dX9_readLine_33 hz30 ⟨hz30, hfM_33⟩
  · refine s_iconst (v := (nI 0)) hX dX9_readLine_18 (by decide) ?_
    exact s_zret hX hR dX9_readLine_19 (by decide) ⟨(by decide), hfM_2⟩
set_option maxHeartbeats 4000000 in
theorem s_X9_readNotebook (b : Nat) (hb : isF b) (M : Mem) : AM yX9_readNotebook cX9_readNotebook 3 (some .int) 4 60 glC (fun ad => [.ref (ad 19), .ref (ad b)]) M (PI (fun _ M' => ∀ a, a ≠ 19 → a ≠ (b + 1) → a ≠ (b + 2) → a ≠ (b + 3) → a ≠ (b + 4) → a ≠ (b + 5) → M' a = M a)) := by
  refine AM.of (by decide) (fun _ => Nat.le_of_ble_eq_true rfl) (fun X ad cI cZ cB hX hR => ?_)
  show V X M [(0, .ref (ad 19)), (1, .ref (ad b))] [] 0
  have hb0 : b = 1 ∨ b = 7 ∨ b = 13 := hb
  have hf_0 : ∀ a, a ≠ 19 → a ≠ (b + 1) → a ≠ (b + 2) → a ≠ (b + 3) → a ≠ (b + 4) → a ≠ (b + 5) → M a = M a := fun _ _ _ _ _ _ _ => rfl
  refine s_aload_n (k := 1) hX dX9_readNotebook_0 rfl rfl ?_
  refine s_callVv hX (s_X2_clearStones b hb M) mX2_clearStones lX9_294 (by decide) (by decide) (oF hb) rfl rfl rfl rfl rfl (Nat.le_of_ble_eq_true rfl) dX9_readNotebook_1 (fun M_1 hp1 => ?_)
  have hfM_1 : ∀ a, a ≠ 19 → a ≠ (b + 1) → a ≠ (b + 2) → a ≠ (b + 3) → a ≠ (b + 4) → a ≠ (b + 5) → M_1 a = M a := fun a q0 q1 q2 q3 q4 q5 => (hp1 a (by omega)).trans (hf_0 a q0 q1 q2 q3 q4 q5)
  refine s_iconst (v := (nI 0)) hX dX9_readNotebook_4 (by decide) ?_
  refine s_istore_n (lv' := [(0, .ref (ad 19)), (1, .ref (ad b)), (2, .int (nI 0))]) hX dX9_readNotebook_5 rfl (by decide) rfl ?_
  have lp6 : ∀ (N6 : Nat) (i6 : Nat) (M6 : Mem), (i6 ≤ 40) → (40 < i6 + N6) → (∀ a, a ≠ 19 → a ≠ (b + 1) → a ≠ (b + 2) → a ≠ (b + 3) → a ≠ (b + 4) → a ≠ (b + 5) → M6 a = M a) → V X M6 [(0, .ref (ad 19)), (1, .ref (ad b)), (2, .int (nI i6))] [] 6 := by
    intro N6
    induction N6 with
    | zero => intro i6 M6 hi6 hN6 hf_6; exact absurd hN6 (by omega)
    | succ N6 ih6 =>
      intro i6 M6 hi6 hN6 hf_6
      refine s_iload_n (k := 2) hX dX9_readNotebook_6 rfl rfl ?_
      refine s_bipush (v := (nI 40)) hX dX9_readNotebook_7 (by decide) ?_
      refine s_icmp_ge (tgt := 58) hX dX9_readNotebook_9 (by decide) (fun c9 => ?_) (fun c9 => ?_)
      · replace c9 := (nI_leI (by omega) (by omega)).mp c9
        refine s_aload_n (k := 0) hX dX9_readNotebook_58 rfl rfl ?_
        refine s_aload_n (k := 0) hX dX9_readNotebook_59 rfl rfl ?_
        refine s_callVi hX (s_X7_here  M6) mX7_here lX9_301 (by decide) (by decide) oC19 rfl rfl rfl rfl rfl (Nat.le_of_ble_eq_true rfl) dX9_readNotebook_60 (fun r60 M_3 hp60 => ?_)
        subst hp60
        refine s_callSi hX (s_X7_isDigit _ M6) mX7_isDigit lX9_307 (by decide) (by decide) rfl rfl (Nat.le_of_ble_eq_true rfl) dX9_readNotebook_63 (fun r63 M_4 hp63 => ?_)
        obtain ⟨hz63, hq63⟩ := hp63
        subst hq63
        refine s_if_eq (tgt := 73) hX dX9_readNotebook_66 (by decide) (fun c66 => ?_) (fun c66 => ?_)
        · replace c66 := z_eq.mp c66
          refine s_iconst (v := (nI 1)) hX dX9_readNotebook_73 (by decide) ?_
          refine s_aload_n (k := 0) hX dX9_readNotebook_74 rfl rfl ?_
          refine s_get hX fX9_310 oC19 rfl dX9_readNotebook_75 ?_
          refine s_callVi hX (s_X7_refuse _ _ M6) mX7_refuse lX9_313 (by decide) (by decide) oC19 rfl rfl rfl rfl rfl (Nat.le_of_ble_eq_true rfl) dX9_readNotebook_78 (fun r78 M_5 hp78 => ?_)
          obtain ⟨hz78, hq78⟩ := hp78
          have hfM_5 : ∀ a, a ≠ 19 → a ≠ (b + 1) → a ≠ (b + 2) → a ≠ (b + 3) → a ≠ (b + 4) → a ≠ (b + 5) → M_5 a = M a := fun a q0 q1 q2 q3 q4 q5 => (hq78 a (by omega)).trans (hf_6 a q0 q1 q2 q3 q4 q5)
          refine s_pop hX dX9_readNotebook_81 rfl ?_
          refine s_aload_n (k := 0) hX dX9_readNotebook_82 rfl rfl ?_
          refine s_get hX fX9_220 oC19 rfl dX9_readNotebook_83 ?_
          exact s_iret hX hR dX9_readNotebook_86 hfM_5
        · replace c66 := mt z_eq.mpr c66
          refine s_iconst (v := (nI 4)) hX dX9_readNotebook_69 (by decide) ?_
          refine s_goto (tgt := 74) hX dX9_readNotebook_70 (by decide) ?_
          refine s_aload_n (k := 0) hX dX9_readNotebook_74 rfl rfl ?_
          refine s_get hX fX9_310 oC19 rfl dX9_readNotebook_75 ?_
          refine s_callVi hX (s_X7_refuse _ _ M6) mX7_refuse lX9_313 (by decide) (by decide) oC19 rfl rfl rfl rfl rfl (Nat.le_of_ble_eq_true rfl) dX9_readNotebook_78 (fun r78 M_6 hp78 => ?_)
          obtain ⟨hz78, hq78⟩ := hp78
          have hfM_6 : ∀ a, a ≠ 19 → a ≠ (b + 1) → a ≠ (b + 2) → a ≠ (b + 3) → a ≠ (b + 4) → a ≠ (b + 5) → M_6 a = M a := fun a q0 q1 q2 q3 q4 q5 => (hq78 a (by omega)).trans (hf_6 a q0 q1 q2 q3 q4 q5)
          refine s_pop hX dX9_readNotebook_81 rfl ?_
          refine s_aload_n (k := 0) hX dX9_readNotebook_82 rfl rfl ?_
          refine s_get hX fX9_220 oC19 rfl dX9_readNotebook_83 ?_
          exact s_iret hX hR dX9_readNotebook_86 hfM_6
      · replace c9 := mt (nI_leI (by omega) (by omega)).mpr c9
        refine s_aload_n (k := 0) hX dX9_readNotebook_12 rfl rfl ?_
        refine s_aload_n (k := 1) hX dX9_readNotebook_13 rfl rfl ?_
        refine s_iload_n (k := 2) hX dX9_readNotebook_14 rfl rfl ?_
        refine s_callSi hX (s_X9_readLine b hb _ M6) mX9_readLine lX9_297 (by decide) (by decide) rfl rfl (Nat.le_of_ble_eq_true rfl) dX9_readNotebook_15 (fun r15 M_7 hp15 => ?_)
        obtain ⟨hz15, hq15⟩ := hp15
        have hfM_7 : ∀ a, a ≠ 19 → a ≠ (b + 1) → a ≠ (b + 2) → a ≠ (b + 3) → a ≠ (b + 4) → a ≠ (b + 5) → M_7 a = M a := fun a q0 q1 q2 q3 q4 q5 => (hq15 a (by omega) (by omega) (by omega) (by omega) (by omega) (by omega)).trans (hf_6 a q0 q1 q2 q3 q4 q5)
        refine s_if_ne (tgt := 26) hX dX9_readNotebook_18 (by decide) (fun c18 => ?_) (fun c18 => ?_)
        · replace c18 := mt z_eq.mpr c18
          refine s_aload_n (k := 0) hX dX9_readNotebook_26 rfl rfl ?_
          refine s_callVi hX (s_X7_here  M_7) mX7_here lX9_301 (by decide) (by decide) oC19 rfl rfl rfl rfl rfl (Nat.le_of_ble_eq_true rfl) dX9_readNotebook_27 (fun r27 M_8 hp27 => ?_)
          subst hp27
          refine s_iconst (v := (-1)) hX dX9_readNotebook_30 (by decide) ?_
          refine s_icmp_ne (tgt := 38) hX dX9_readNotebook_31 (by decide) (fun c31 => ?_) (fun c31 => ?_)
          · refine s_aload_n (k := 0) hX dX9_readNotebook_38 rfl rfl ?_
            refine s_bipush (v := (nI 59)) hX dX9_readNotebook_39 (by decide) ?_
            refine s_callVi hX (s_X7_skip _ M_7) mX7_skip lX9_304 (by decide) (by decide) oC19 rfl rfl rfl rfl rfl (Nat.le_of_ble_eq_true rfl) dX9_readNotebook_41 (fun r41 M_9 hp41 => ?_)
            obtain ⟨hz41, hq41⟩ := hp41
            have hfM_9 : ∀ a, a ≠ 19 → a ≠ (b + 1) → a ≠ (b + 2) → a ≠ (b + 3) → a ≠ (b + 4) → a ≠ (b + 5) → M_9 a = M a := fun a q0 q1 q2 q3 q4 q5 => (hq41 a (by omega)).trans (hfM_7 a q0 q1 q2 q3 q4 q5)
            refine s_if_ne (tgt := 52) hX dX9_readNotebook_44 (by decide) (fun c44 => ?_) (fun c44 => ?_)
            · replace c44 := mt z_eq.mpr c44
              refine s_iinc (k := 2) (v := nI (i6 + 1)) (lv' := [(0, .ref (ad 19)), (1, .ref (ad b)), (2, .int (nI (i6 + 1)))]) hX dX9_readNotebook_52 (nI_1 _) (by decide) rfl rfl ?_
              refine s_goto (tgt := 6) hX dX9_readNotebook_55 (by decide) ?_
              exact ih6 _ _ (by omega) (by omega) hfM_9
            · replace c44 := z_eq.mp c44
              refine s_aload_n (k := 0) hX dX9_readNotebook_47 rfl rfl ?_
              refine s_get hX fX9_220 oC19 rfl dX9_readNotebook_48 ?_
              exact s_iret hX hR dX9_readNotebook_51 hfM_9
          · refine s_iload_n (k := 2) hX dX9_readNotebook_34 rfl rfl ?_
            refine s_iconst (v := (nI 1)) hX dX9_readNotebook_35 (by decide) ?_
            refine s_iadd hX dX9_readNotebook_36 ?_
            refine s_top (y := nI (i6 + 1)) (nI_add _ _) ?_
            exact s_iret hX hR dX9_readNotebook_37 hfM_7
        · replace c18 := z_eq.mp c18
          refine s_aload_n (k := 0) hX dX9_readNotebook_21 rfl rfl ?_
          refine s_get hX fX9_220 oC19 rfl dX9_readNotebook_22 ?_
          exact s_iret hX hR dX9_readNotebook_25 hfM_7
  exact lp6 (40 + 1) _ _ (by omega) (by omega) hfM_1
set_option maxHeartbeats 4000000 in
theorem s_X9_unlike (v1 : Int32) (v2 : Int32) (M : Mem) (hv : v2.toInt ≤ 8) : AM yX9_unlike cX9_unlike 5 (some .int) 1 60 glC (fun ad => [.ref (ad 0), .int v1, .int v2]) M (PI (fun _ M' => M = M')) := by
  refine AM.of (by decide) (fun _ => Nat.le_of_ble_eq_true rfl) (fun X ad cI cZ cB hX hR => ?_)
  show V X M [(0, .ref (ad 0)), (1, .int v1), (2, .int v2)] [] 0
  refine s_iconst (v := (nI 0)) hX dX9_unlike_0 (by decide) ?_
  refine s_istore_n (lv' := [(0, .ref (ad 0)), (1, .int v1), (2, .int v2), (3, .int (nI 0))]) hX dX9_unlike_1 rfl (by decide) rfl ?_
  refine s_iconst (v := (nI 0)) hX dX9_unlike_2 (by decide) ?_
  refine s_istore (lv' := [(0, .ref (ad 0)), (1, .int v1), (2, .int v2), (3, .int (nI 0)), (4, .int (nI 0))]) hX dX9_unlike_3 (by decide) rfl ?_
  have lp5 : ∀ (N5 : Nat) (i5 : Nat) (y3_5 : Int32), (i5 ≤ 8) → (8 < i5 + N5) → V X M [(0, .ref (ad 0)), (1, .int v1), (2, .int v2), (3, .int y3_5), (4, .int (nI i5))] [] 5 := by
    intro N5
    induction N5 with
    | zero => intro i5 y3_5 hi5 hN5; exact absurd hN5 (by omega)
    | succ N5 ih5 =>
      intro i5 y3_5 hi5 hN5
      refine s_iload (k := 4) hX dX9_unlike_5 rfl ?_
      refine s_iload_n (k := 2) hX dX9_unlike_7 rfl rfl ?_
      refine s_icmp_ge (tgt := 51) hX dX9_unlike_8 (by decide) (fun c8 => ?_) (fun c8 => ?_)
      · replace c8 := (q_le (by omega)).mp c8
        refine s_iload_n (k := 3) hX dX9_unlike_51 rfl rfl ?_
        refine s_mabs hX lX9_319 mJ9_abs (by decide) (Nat.le_of_ble_eq_true rfl) dX9_unlike_52 ?_
        exact s_iret hX hR dX9_unlike_55 rfl
      · replace c8 := mt (q_le (by omega)).mpr c8
        refine s_iload_n (k := 3) hX dX9_unlike_11 rfl rfl ?_
        refine s_iload_n (k := 1) hX dX9_unlike_12 rfl rfl ?_
        refine s_iload (k := 4) hX dX9_unlike_13 rfl ?_
        refine s_ishr hX dX9_unlike_15 ?_
        refine s_iconst (v := (nI 1)) hX dX9_unlike_16 (by decide) ?_
        refine s_iand hX dX9_unlike_17 ?_
        refine s_if_eq (tgt := 33) hX dX9_unlike_18 (by decide) (fun c18 => ?_) (fun c18 => ?_)
        · refine s_aload_n (k := 0) hX dX9_unlike_33 rfl rfl ?_
          refine s_get hX fX9_25 oC0 rfl dX9_unlike_34 ?_
          refine s_iload (k := 4) hX dX9_unlike_37 rfl ?_
          refine s_callVi hX (s_X7_byteAt _ M) mX7_byteAt lX9_265 (by decide) (by decide) oC19 rfl rfl rfl rfl rfl (Nat.le_of_ble_eq_true rfl) dX9_unlike_39 (fun r39 M_3 hp39 => ?_)
          subst hp39
          refine s_ineg hX dX9_unlike_42 ?_
          refine s_iadd hX dX9_unlike_43 ?_
          refine s_topi (fun x3_4 ex3_4 => ?_)
          refine s_istore_n (lv' := [(0, .ref (ad 0)), (1, .int v1), (2, .int v2), (4, .int (nI i5)), (3, .int x3_4)]) hX dX9_unlike_44 rfl (by decide) rfl ?_
          refine s_iinc (k := 3) (v := nI (i5 + 1)) (lv' := [(0, .ref (ad 0)), (1, .int v1), (2, .int v2), (3, .int x3_4), (4, .int (nI (i5 + 1)))]) hX dX9_unlike_45 (nI_1 _) (by decide) rfl rfl ?_
          refine s_goto (tgt := 5) hX dX9_unlike_48 (by decide) ?_
          exact ih5 _ _ (by omega) (by omega)
        · refine s_aload_n (k := 0) hX dX9_unlike_21 rfl rfl ?_
          refine s_get hX fX9_25 oC0 rfl dX9_unlike_22 ?_
          refine s_iload (k := 4) hX dX9_unlike_25 rfl ?_
          refine s_callVi hX (s_X7_byteAt _ M) mX7_byteAt lX9_265 (by decide) (by decide) oC19 rfl rfl rfl rfl rfl (Nat.le_of_ble_eq_true rfl) dX9_unlike_27 (fun r27 M_5 hp27 => ?_)
          subst hp27
          refine s_goto (tgt := 43) hX dX9_unlike_30 (by decide) ?_
          refine s_iadd hX dX9_unlike_43 ?_
          refine s_topi (fun x3_6 ex3_6 => ?_)
          refine s_istore_n (lv' := [(0, .ref (ad 0)), (1, .int v1), (2, .int v2), (4, .int (nI i5)), (3, .int x3_6)]) hX dX9_unlike_44 rfl (by decide) rfl ?_
          refine s_iinc (k := 3) (v := nI (i5 + 1)) (lv' := [(0, .ref (ad 0)), (1, .int v1), (2, .int v2), (3, .int x3_6), (4, .int (nI (i5 + 1)))]) hX dX9_unlike_45 (nI_1 _) (by decide) rfl rfl ?_
          refine s_goto (tgt := 5) hX dX9_unlike_48 (by decide) ?_
          exact ih5 _ _ (by omega) (by omega)
  exact lp5 (8 + 1) _ _ (by omega) (by omega)
set_option maxHeartbeats 4000000 in
theorem s_X0_read (v2 : Int32) (M : Mem) : AM yX0_read cX0_read 4 (some .boolean) 1 60 glC (fun ad => [.ref (ad 37), .ref (ad 19), .int v2]) M (PI (fun r M' => (r = 0 ∨ r = 1) ∧ (∀ a, a ≠ 38 → a ≠ 39 → M' a = M a))) := by
  refine AM.of (by decide) (fun _ => Nat.le_of_ble_eq_true rfl) (fun X ad cI cZ cB hX hR => ?_)
  show V X M [(0, .ref (ad 37)), (1, .ref (ad 19)), (2, .int v2)] [] 0
  have hf_0 : ∀ a, a ≠ 38 → a ≠ 39 → M a = M a := fun _ _ _ => rfl
  refine s_iconst (v := (nI 0)) hX dX0_read_0 (by decide) ?_
  refine s_istore_n (lv' := [(0, .ref (ad 37)), (1, .ref (ad 19)), (2, .int v2), (3, .int (nI 0))]) hX dX0_read_1 rfl (by decide) rfl ?_
  have lp2 : ∀ (N2 : Nat) (i2 : Nat) (M2 : Mem), (i2 ≤ 7) → (7 < i2 + N2) → (∀ a, a ≠ 38 → a ≠ 39 → M2 a = M a) → V X M2 [(0, .ref (ad 37)), (1, .ref (ad 19)), (2, .int v2), (3, .int (nI i2))] [] 2 := by
    intro N2
    induction N2 with
    | zero => intro i2 M2 hi2 hN2 hf_2; exact absurd hN2 (by omega)
    | succ N2 ih2 =>
      intro i2 M2 hi2 hN2 hf_2
      refine s_iload_n (k := 3) hX dX0_read_2 rfl rfl ?_
      refine s_iload_n (k := 2) hX dX0_read_3 rfl rfl ?_
      refine s_icmp_ge (tgt := 71) hX dX0_read_4 (by decide) (fun c4 => ?_) (fun c4 => ?_)
      · replace c4 := (q_le (by omega)).mp c4
        refine s_iconst (v := (nI 1)) hX dX0_read_71 (by decide) ?_
        exact s_zret hX hR dX0_read_72 (by decide) ⟨(by decide), hf_2⟩
      · replace c4 := mt (q_le (by omega)).mpr c4
        refine s_iload_n (k := 3) hX dX0_read_7 rfl rfl ?_
        refine s_bipush (v := (nI 7)) hX dX0_read_8 (by decide) ?_
        refine s_icmp_ge (tgt := 71) hX dX0_read_10 (by decide) (fun c10 => ?_) (fun c10 => ?_)
        · replace c10 := (nI_leI (by omega) (by omega)).mp c10
          refine s_iconst (v := (nI 1)) hX dX0_read_71 (by decide) ?_
          exact s_zret hX hR dX0_read_72 (by decide) ⟨(by decide), hf_2⟩
        · replace c10 := mt (nI_leI (by omega) (by omega)).mpr c10
          refine s_aload_n (k := 0) hX dX0_read_13 rfl rfl ?_
          refine s_get hX fX0_9 oC37 rfl dX0_read_14 ?_
          refine s_iload_n (k := 3) hX dX0_read_17 rfl rfl ?_
          refine s_aload_n (k := 1) hX dX0_read_18 rfl rfl ?_
          refine s_iconst (v := (nI 2)) hX dX0_read_19 (by decide) ?_
          refine s_iload_n (k := 3) hX dX0_read_20 rfl rfl ?_
          refine s_imul hX dX0_read_21 ?_
          refine s_callVi hX (s_X7_byteAt _ M2) mX7_byteAt lX0_27 (by decide) (by decide) oC19 rfl rfl rfl rfl rfl (Nat.le_of_ble_eq_true rfl) dX0_read_22 (fun r22 M_2 hp22 => ?_)
          subst hp22
          refine s_iastN hX aC38 (by omega) dX0_read_25 ?_
          refine s_mem (fun M_3 eM_3 => ?_)
          have hfM_3 : ∀ a, a ≠ 38 → a ≠ 39 → M_3 a = M a := fun a q0 q1 => (congrFun eM_3 a).trans ((mset_n (by omega)).trans (hf_2 a q0 q1))
          refine s_aload_n (k := 0) hX dX0_read_26 rfl rfl ?_
          refine s_get hX fX0_15 oC37 rfl dX0_read_27 ?_
          refine s_iload_n (k := 3) hX dX0_read_30 rfl rfl ?_
          refine s_aload_n (k := 1) hX dX0_read_31 rfl rfl ?_
          refine s_iconst (v := (nI 2)) hX dX0_read_32 (by decide) ?_
          refine s_iload_n (k := 3) hX dX0_read_33 rfl rfl ?_
          refine s_imul hX dX0_read_34 ?_
          refine s_iconst (v := (nI 1)) hX dX0_read_35 (by decide) ?_
          refine s_iadd hX dX0_read_36 ?_
          refine s_callVi hX (s_X7_byteAt _ M_3) mX7_byteAt lX0_27 (by decide) (by decide) oC19 rfl rfl rfl rfl rfl (Nat.le_of_ble_eq_true rfl) dX0_read_37 (fun r37 M_4 hp37 => ?_)
          subst hp37
          refine s_iastN hX aC39 (by omega) dX0_read_40 ?_
          refine s_mem (fun M_5 eM_5 => ?_)
          have hfM_5 : ∀ a, a ≠ 38 → a ≠ 39 → M_5 a = M a := fun a q0 q1 => (congrFun eM_5 a).trans ((mset_n (by omega)).trans (hfM_3 a q0 q1))
          refine s_aload_n (k := 0) hX dX0_read_41 rfl rfl ?_
          refine s_get hX fX0_9 oC37 rfl dX0_read_42 ?_
          refine s_iload_n (k := 3) hX dX0_read_45 rfl rfl ?_
          refine s_ialdN hX aC38 (by omega) dX0_read_46 ?_
          refine s_bipush (v := (nI 39)) hX dX0_read_47 (by decide) ?_
          refine s_icmp_gt (tgt := 63) hX dX0_read_49 (by decide) (fun c49 => ?_) (fun c49 => ?_)
          · replace c49 := (q_gt (by omega)).mp c49
            refine s_iconst (v := (nI 0)) hX dX0_read_63 (by decide) ?_
            exact s_zret hX hR dX0_read_64 (by decide) ⟨(by decide), hfM_5⟩
          · replace c49 := mt (q_gt (by omega)).mpr c49
            refine s_aload_n (k := 0) hX dX0_read_52 rfl rfl ?_
            refine s_get hX fX0_15 oC37 rfl dX0_read_53 ?_
            refine s_iload_n (k := 3) hX dX0_read_56 rfl rfl ?_
            refine s_ialdN hX aC39 (by omega) dX0_read_57 ?_
            refine s_bipush (v := (nI 20)) hX dX0_read_58 (by decide) ?_
            refine s_icmp_le (tgt := 65) hX dX0_read_60 (by decide) (fun c60 => ?_) (fun c60 => ?_)
            · replace c60 := (q_le (by omega)).mp c60
              refine s_iinc (k := 3) (v := nI (i2 + 1)) (lv' := [(0, .ref (ad 37)), (1, .ref (ad 19)), (2, .int v2), (3, .int (nI (i2 + 1)))]) hX dX0_read_65 (nI_1 _) (by decide) rfl rfl ?_
              refine s_goto (tgt := 2) hX dX0_read_68 (by decide) ?_
              exact ih2 _ _ (by omega) (by omega) hfM_5
            · replace c60 := mt (q_le (by omega)).mpr c60
              refine s_iconst (v := (nI 0)) hX dX0_read_63 (by decide) ?_
              exact s_zret hX hR dX0_read_64 (by decide) ⟨(by decide), hfM_5⟩
  exact lp2 (7 + 1) _ _ (by omega) (by omega) hf_0
set_option maxHeartbeats 4000000 in
theorem s_X0_wayInAll (M : Mem) : AM yX0_wayInAll cX0_wayInAll 1 (some .int) 0 60 glC (fun ad => [.ref (ad 37)]) M (PI (fun _ M' => M = M')) := by
  refine AM.of (by decide) (fun _ => Nat.le_of_ble_eq_true rfl) (fun X ad cI cZ cB hX hR => ?_)
  show V X M [(0, .ref (ad 37))] [] 0
  refine s_aload_n (k := 0) hX dX0_wayInAll_0 rfl rfl ?_
  refine s_get hX fX0_24 oC37 rfl dX0_wayInAll_1 ?_
  refine s_iconst (v := (nI 0)) hX dX0_wayInAll_4 (by decide) ?_
  refine s_ialdN hX aC42 (by omega) dX0_wayInAll_5 ?_
  exact s_iret hX hR dX0_wayInAll_6 rfl
set_option maxHeartbeats 4000000 in
theorem s_X4_isFooting (b : Nat) (hb : isF b) (v1 : Int32) (v2 : Int32) (M : Mem) : AM yX4_isFooting cX4_isFooting 3 (some .boolean) 1 60 glC (fun ad => [.ref (ad b), .int v1, .int v2]) M (PI (fun r M' => (r = 0 ∨ r = 1) ∧ M = M')) := by
  refine AM.of (by decide) (fun _ => Nat.le_of_ble_eq_true rfl) (fun X ad cI cZ cB hX hR => ?_)
  show V X M [(0, .ref (ad b)), (1, .int v1), (2, .int v2)] [] 0
  have hb0 : b = 1 ∨ b = 7 ∨ b = 13 := hb
  refine s_iload_n (k := 2) hX dX4_isFooting_0 rfl rfl ?_
  refine s_if_eq (tgt := 10) hX dX4_isFooting_1 (by decide) (fun c1 => ?_) (fun c1 => ?_)
  · replace c1 := z_eq.mp c1
    refine s_iload_n (k := 1) hX dX4_isFooting_10 rfl rfl ?_
    refine s_if_lt (tgt := 24) hX dX4_isFooting_11 (by decide) (fun c11 => ?_) (fun c11 => ?_)
    · replace c11 := z_lt.mp c11
      refine s_iconst (v := (nI 0)) hX dX4_isFooting_24 (by decide) ?_
      exact s_zret hX hR dX4_isFooting_25 (by decide) ⟨(by decide), rfl⟩
    · replace c11 := mt z_lt.mpr c11
      refine s_iload_n (k := 1) hX dX4_isFooting_14 rfl rfl ?_
      refine s_bipush (v := (nI 39)) hX dX4_isFooting_15 (by decide) ?_
      refine s_icmp_gt (tgt := 24) hX dX4_isFooting_17 (by decide) (fun c17 => ?_) (fun c17 => ?_)
      · replace c17 := (q_gt (by omega)).mp c17
        refine s_iconst (v := (nI 0)) hX dX4_isFooting_24 (by decide) ?_
        exact s_zret hX hR dX4_isFooting_25 (by decide) ⟨(by decide), rfl⟩
      · replace c17 := mt (q_gt (by omega)).mpr c17
        refine s_iconst (v := (nI 1)) hX dX4_isFooting_20 (by decide) ?_
        refine s_goto (tgt := 25) hX dX4_isFooting_21 (by decide) ?_
        exact s_zret hX hR dX4_isFooting_25 (by decide) ⟨(by decide), rfl⟩
  · replace c1 := mt z_eq.mpr c1
    refine s_iload_n (k := 2) hX dX4_isFooting_4 rfl rfl ?_
    refine s_bipush (v := (nI 21)) hX dX4_isFooting_5 (by decide) ?_
    refine s_icmp_ne (tgt := 26) hX dX4_isFooting_7 (by decide) (fun c7 => ?_) (fun c7 => ?_)
    · replace c7 := mt (q_eq (by omega)).mpr c7
      refine s_aload_n (k := 0) hX dX4_isFooting_26 rfl rfl ?_
      refine s_aload_n (k := 0) hX dX4_isFooting_27 rfl rfl ?_
      refine s_iload_n (k := 1) hX dX4_isFooting_28 rfl rfl ?_
      refine s_iload_n (k := 2) hX dX4_isFooting_29 rfl rfl ?_
      refine s_callVi hX (s_X2_stoneAt b hb _ _ M) mX2_stoneAt lX4_85 (by decide) (by decide) (oF hb) rfl rfl rfl rfl rfl (Nat.le_of_ble_eq_true rfl) dX4_isFooting_30 (fun r30 M_1 hp30 => ?_)
      subst hp30
      refine s_callVi hX (s_X2_isDry b hb _ M) mX2_isDry lX4_90 (by decide) (by decide) (oF hb) rfl rfl rfl rfl rfl (Nat.le_of_ble_eq_true rfl) dX4_isFooting_33 (fun r33 M_2 hp33 => ?_)
      obtain ⟨rfl, h2⟩ := hp33
      subst h2
      exact s_zret hX hR dX4_isFooting_36 bI_01 ⟨bI_01, rfl⟩
    · replace c7 := (q_eq (by omega)).mp c7
      refine s_iload_n (k := 1) hX dX4_isFooting_10 rfl rfl ?_
      refine s_if_lt (tgt := 24) hX dX4_isFooting_11 (by decide) (fun c11 => ?_) (fun c11 => ?_)
      · replace c11 := z_lt.mp c11
        refine s_iconst (v := (nI 0)) hX dX4_isFooting_24 (by decide) ?_
        exact s_zret hX hR dX4_isFooting_25 (by decide) ⟨(by decide), rfl⟩
      · replace c11 := mt z_lt.mpr c11
        refine s_iload_n (k := 1) hX dX4_isFooting_14 rfl rfl ?_
        refine s_bipush (v := (nI 39)) hX dX4_isFooting_15 (by decide) ?_
        refine s_icmp_gt (tgt := 24) hX dX4_isFooting_17 (by decide) (fun c17 => ?_) (fun c17 => ?_)
        · replace c17 := (q_gt (by omega)).mp c17
          refine s_iconst (v := (nI 0)) hX dX4_isFooting_24 (by decide) ?_
          exact s_zret hX hR dX4_isFooting_25 (by decide) ⟨(by decide), rfl⟩
        · replace c17 := mt (q_gt (by omega)).mpr c17
          refine s_iconst (v := (nI 1)) hX dX4_isFooting_20 (by decide) ?_
          refine s_goto (tgt := 25) hX dX4_isFooting_21 (by decide) ?_
          exact s_zret hX hR dX4_isFooting_25 (by decide) ⟨(by decide), rfl⟩
set_option maxHeartbeats 4000000 in
theorem s_X4_go (b : Nat) (hb : isF b) (v2 : Int32) (v3 : Int32) (M : Mem) : AM yX4_go cX4_go 8 none 2 60 glC (fun ad => [.ref (ad 34), .ref (ad b), .int v2, .int v3]) M (PV (fun M' => ∀ a, a ≠ 34 → M' a = M a)) := by
  refine AM.of (by decide) (fun _ => Nat.le_of_ble_eq_true rfl) (fun X ad cI cZ cB hX hR => ?_)
  show V X M [(0, .ref (ad 34)), (1, .ref (ad b)), (2, .int v2), (3, .int v3)] [] 0
  have hb0 : b = 1 ∨ b = 7 ∨ b = 13 := hb
  have hf_0 : ∀ a, a ≠ 34 → M a = M a := fun _ _ => rfl
  refine s_aload_n (k := 0) hX dX4_go_0 rfl rfl ?_
  refine s_iconst (v := (nI 0)) hX dX4_go_1 (by decide) ?_
  refine s_puti (ty := .int) hX fX4_22 oC34 rfl (Nat.le_of_ble_eq_true rfl) ty_4_3 rfl rfl dX4_go_2 ?_
  refine s_mem (fun M_1 eM_1 => ?_)
  have hfM_1 : ∀ a, a ≠ 34 → M_1 a = M a := fun a q0 => (congrFun eM_1 a).trans ((mset_n (by omega)).trans (hf_0 a q0))
  refine s_aload_n (k := 0) hX dX4_go_5 rfl rfl ?_
  refine s_iload_n (k := 3) hX dX4_go_6 rfl rfl ?_
  refine s_puti (ty := .int) hX fX4_25 oC34 rfl (Nat.le_of_ble_eq_true rfl) ty_4_4 rfl rfl dX4_go_7 ?_
  refine s_mem (fun M_2 eM_2 => ?_)
  have hfM_2 : ∀ a, a ≠ 34 → M_2 a = M a := fun a q0 => (congrFun eM_2 a).trans ((mset_n (by omega)).trans (hfM_1 a q0))
  refine s_aload_n (k := 0) hX dX4_go_10 rfl rfl ?_
  refine s_iconst (v := (nI 0)) hX dX4_go_11 (by decide) ?_
  refine s_puti (ty := .int) hX fX4_28 oC34 rfl (Nat.le_of_ble_eq_true rfl) ty_4_5 rfl rfl dX4_go_12 ?_
  refine s_mem (fun M_3 eM_3 => ?_)
  have hfM_3 : ∀ a, a ≠ 34 → M_3 a = M a := fun a q0 => (congrFun eM_3 a).trans ((mset_n (by omega)).trans (hfM_2 a q0))
  refine s_iconst (v := (nI 0)) hX dX4_go_15 (by decide) ?_
  refine s_istore (lv' := [(0, .ref (ad 34)), (1, .ref (ad b)), (2, .int v2), (3, .int v3), (4, .int (nI 0))]) hX dX4_go_16 (by decide) rfl ?_
  have lp18 : ∀ (N18 : Nat) (i18 : Nat) (M18 : Mem), (i18 ≤ 60) → (60 < i18 + N18) → (∀ a, a ≠ 34 → M18 a = M a) → V X M18 [(0, .ref (ad 34)), (1, .ref (ad b)), (2, .int v2), (3, .int v3), (4, .int (nI i18))] [] 18 := by
    intro N18
    induction N18 with
    | zero => intro i18 M18 hi18 hN18 hf_18; exact absurd hN18 (by omega)
    | succ N18 ih18 =>
      intro i18 M18 hi18 hN18 hf_18
      refine s_iload (k := 4) hX dX4_go_18 rfl ?_
      refine s_aload_n (k := 0) hX dX4_go_20 rfl rfl ?_
      refine s_get hX fX4_18 oC34 rfl dX4_go_21 ?_
      refine s_icmp_ge (tgt := 169) hX dX4_go_24 (by decide) (fun c24 => ?_) (fun c24 => ?_)
      · replace c24 := (q_le (by omega)).mp c24
        exact s_vret hX hR dX4_go_169 hf_18
      · replace c24 := mt (q_le (by omega)).mpr c24
        refine s_iload (k := 4) hX dX4_go_27 rfl ?_
        refine s_bipush (v := (nI 60)) hX dX4_go_29 (by decide) ?_
        refine s_icmp_ge (tgt := 169) hX dX4_go_31 (by decide) (fun c31 => ?_) (fun c31 => ?_)
        · replace c31 := (nI_leI (by omega) (by omega)).mp c31
          exact s_vret hX hR dX4_go_169 hf_18
        · replace c31 := mt (nI_leI (by omega) (by omega)).mpr c31
          refine s_aload_n (k := 0) hX dX4_go_34 rfl rfl ?_
          refine s_get hX fX4_28 oC34 rfl dX4_go_35 ?_
          refine s_bipush (v := (nI 21)) hX dX4_go_38 (by decide) ?_
          refine s_icmp_ge (tgt := 169) hX dX4_go_40 (by decide) (fun c40 => ?_) (fun c40 => ?_)
          · replace c40 := (q_ge (by omega)).mp c40
            exact s_vret hX hR dX4_go_169 hf_18
          · replace c40 := mt (q_ge (by omega)).mpr c40
            refine s_aload_n (k := 0) hX dX4_go_43 rfl rfl ?_
            refine s_get hX fX4_25 oC34 rfl dX4_go_44 ?_
            refine s_aload_n (k := 0) hX dX4_go_47 rfl rfl ?_
            refine s_get hX fX4_9 oC34 rfl dX4_go_48 ?_
            refine s_iload (k := 4) hX dX4_go_51 rfl ?_
            refine s_ialdN hX aC35 (by omega) dX4_go_53 ?_
            refine s_iadd hX dX4_go_54 ?_
            refine s_topi (fun x5_5 ex5_5 => ?_)
            refine s_istore (lv' := [(0, .ref (ad 34)), (1, .ref (ad b)), (2, .int v2), (3, .int v3), (4, .int (nI i18)), (5, .int x5_5)]) hX dX4_go_55 (by decide) rfl ?_
            refine s_iconst (v := (nI 0)) hX dX4_go_57 (by decide) ?_
            refine s_bipush (v := (nI 21)) hX dX4_go_58 (by decide) ?_
            refine s_aload_n (k := 0) hX dX4_go_60 rfl rfl ?_
            refine s_get hX fX4_28 oC34 rfl dX4_go_61 ?_
            refine s_aload_n (k := 0) hX dX4_go_64 rfl rfl ?_
            refine s_get hX fX4_15 oC34 rfl dX4_go_65 ?_
            refine s_iload (k := 4) hX dX4_go_68 rfl ?_
            refine s_ialdN hX aC36 (by omega) dX4_go_70 ?_
            refine s_iadd hX dX4_go_71 ?_
            refine s_mmin hX lX4_72 mJ9_min (by decide) (Nat.le_of_ble_eq_true rfl) dX4_go_72 ?_
            refine s_mmax hX lX4_78 mJ9_max (by decide) (Nat.le_of_ble_eq_true rfl) dX4_go_75 ?_
            refine s_topi (fun x6_6 ex6_6 => ?_)
            refine s_istore (lv' := [(0, .ref (ad 34)), (1, .ref (ad b)), (2, .int v2), (3, .int v3), (4, .int (nI i18)), (5, .int x5_5), (6, .int x6_6)]) hX dX4_go_78 (by decide) rfl ?_
            refine s_aload_n (k := 0) hX dX4_go_80 rfl rfl ?_
            refine s_get hX fX4_9 oC34 rfl dX4_go_81 ?_
            refine s_iload (k := 4) hX dX4_go_84 rfl ?_
            refine s_ialdN hX aC35 (by omega) dX4_go_86 ?_
            refine s_aload_n (k := 0) hX dX4_go_87 rfl rfl ?_
            refine s_get hX fX4_9 oC34 rfl dX4_go_88 ?_
            refine s_iload (k := 4) hX dX4_go_91 rfl ?_
            refine s_ialdN hX aC35 (by omega) dX4_go_93 ?_
            refine s_imul hX dX4_go_94 ?_
            refine s_aload_n (k := 0) hX dX4_go_95 rfl rfl ?_
            refine s_get hX fX4_15 oC34 rfl dX4_go_96 ?_
            refine s_iload (k := 4) hX dX4_go_99 rfl ?_
            refine s_ialdN hX aC36 (by omega) dX4_go_101 ?_
            refine s_aload_n (k := 0) hX dX4_go_102 rfl rfl ?_
            refine s_get hX fX4_15 oC34 rfl dX4_go_103 ?_
            refine s_iload (k := 4) hX dX4_go_106 rfl ?_
            refine s_ialdN hX aC36 (by omega) dX4_go_108 ?_
            refine s_imul hX dX4_go_109 ?_
            refine s_iadd hX dX4_go_110 ?_
            refine s_iload_n (k := 2) hX dX4_go_111 rfl rfl ?_
            refine s_iload_n (k := 2) hX dX4_go_112 rfl rfl ?_
            refine s_imul hX dX4_go_113 ?_
            refine s_icmp_gt (tgt := 121) hX dX4_go_114 (by decide) (fun c114 => ?_) (fun c114 => ?_)
            · refine s_iconst (v := (nI 0)) hX dX4_go_121 (by decide) ?_
              refine s_istore (lv' := [(0, .ref (ad 34)), (1, .ref (ad b)), (2, .int v2), (3, .int v3), (4, .int (nI i18)), (5, .int x5_5), (6, .int x6_6), (7, .int (nI 0))]) hX dX4_go_122 (by decide) rfl ?_
              refine s_iload (k := 7) hX dX4_go_124 rfl ?_
              refine s_if_eq (tgt := 140) hX dX4_go_126 (by decide) (fun c126 => ?_) (fun c126 => ?_)
              · exact s_vret hX hR dX4_go_140 hf_18
              · first | exact absurd (by decide) c126 | exact absurd c126 (by decide)
            · refine s_iconst (v := (nI 1)) hX dX4_go_117 (by decide) ?_
              refine s_goto (tgt := 122) hX dX4_go_118 (by decide) ?_
              refine s_istore (lv' := [(0, .ref (ad 34)), (1, .ref (ad b)), (2, .int v2), (3, .int v3), (4, .int (nI i18)), (5, .int x5_5), (6, .int x6_6), (7, .int (nI 1))]) hX dX4_go_122 (by decide) rfl ?_
              refine s_iload (k := 7) hX dX4_go_124 rfl ?_
              refine s_if_eq (tgt := 140) hX dX4_go_126 (by decide) (fun c126 => ?_) (fun c126 => ?_)
              · first | exact absurd (by decide) c126 | exact absurd c126 (by decide)
              · refine s_aload_n (k := 1) hX dX4_go_129 rfl rfl ?_
                refine s_iload (k := 5) hX dX4_go_130 rfl ?_
                refine s_iload (k := 6) hX dX4_go_132 rfl ?_
                refine s_callSi hX (s_X4_isFooting b hb _ _ M18) mX4_isFooting lX4_81 (by decide) (by decide) rfl rfl (Nat.le_of_ble_eq_true rfl) dX4_go_134 (fun r134 M_9 hp134 => ?_)
                obtain ⟨hz134, hq134⟩ := hp134
                subst hq134
                refine s_if_ne (tgt := 141) hX dX4_go_137 (by decide) (fun c137 => ?_) (fun c137 => ?_)
                · replace c137 := mt z_eq.mpr c137
                  refine s_aload_n (k := 0) hX dX4_go_141 rfl rfl ?_
                  refine s_iload (k := 5) hX dX4_go_142 rfl ?_
                  refine s_puti (ty := .int) hX fX4_25 oC34 rfl (Nat.le_of_ble_eq_true rfl) ty_4_4 rfl rfl dX4_go_144 ?_
                  refine s_mem (fun M_10 eM_10 => ?_)
                  have hfM_10 : ∀ a, a ≠ 34 → M_10 a = M a := fun a q0 => (congrFun eM_10 a).trans ((mset_n (by omega)).trans (hf_18 a q0))
                  refine s_aload_n (k := 0) hX dX4_go_147 rfl rfl ?_
                  refine s_iload (k := 6) hX dX4_go_148 rfl ?_
                  refine s_puti (ty := .int) hX fX4_28 oC34 rfl (Nat.le_of_ble_eq_true rfl) ty_4_5 rfl rfl dX4_go_150 ?_
                  refine s_mem (fun M_11 eM_11 => ?_)
                  have hfM_11 : ∀ a, a ≠ 34 → M_11 a = M a := fun a q0 => (congrFun eM_11 a).trans ((mset_n (by omega)).trans (hfM_10 a q0))
                  refine s_aload_n (k := 0) hX dX4_go_153 rfl rfl ?_
                  refine s_dup hX dX4_go_154 rfl ?_
                  refine s_get hX fX4_22 oC34 rfl dX4_go_155 ?_
                  refine s_iconst (v := (nI 1)) hX dX4_go_158 (by decide) ?_
                  refine s_iadd hX dX4_go_159 ?_
                  refine s_puti (ty := .int) hX fX4_22 oC34 rfl (Nat.le_of_ble_eq_true rfl) ty_4_3 rfl rfl dX4_go_160 ?_
                  refine s_mem (fun M_12 eM_12 => ?_)
                  have hfM_12 : ∀ a, a ≠ 34 → M_12 a = M a := fun a q0 => (congrFun eM_12 a).trans ((mset_n (by omega)).trans (hfM_11 a q0))
                  refine s_iinc (k := 4) (v := nI (i18 + 1)) (lv' := [(0, .ref (ad 34)), (1, .ref (ad b)), (2, .int v2), (3, .int v3), (5, .int x5_5), (6, .int x6_6), (7, .int (nI 1)), (4, .int (nI (i18 + 1)))]) hX dX4_go_163 (nI_1 _) (by decide) rfl rfl ?_
                  refine s_goto (tgt := 18) hX dX4_go_166 (by decide) ?_
                  refine s_loc [0, 1, 2, 3, 7] rfl ?_
                  exact ih18 _ _ (by omega) (by omega) hfM_12
                · replace c137 := z_eq.mp c137
                  exact s_vret hX hR dX4_go_140 hf_18
  exact lp18 (60 + 1) _ _ (by omega) (by omega) hfM_3
