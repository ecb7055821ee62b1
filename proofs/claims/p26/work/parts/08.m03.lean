theorem zcdX10_driest_0 : decode cX10_driest 0 = .ok (.aload_n 0, 1) ∧ decode cX10_driest 1 = .ok (.iload_n 1, 1) ∧ decode cX10_driest 2 = .ok (.invokevirtual 334, 3) ∧ decode cX10_driest 5 = .ok (.ifCond .eq 12, 3) ∧ decode cX10_driest 8 = .ok (.iload_n 2, 1) ∧ decode cX10_driest 9 = .ok (.iconst 0, 1) ∧ decode cX10_driest 10 = .ok (.iconst 1, 1) ∧ decode cX10_driest 11 = .ok (.invokestatic 132, 3) := by decide +kernel
theorem zcdX10_driest_14 : decode cX10_driest 14 = .ok (.ifCond .ne 5, 3) ∧ decode cX10_driest 17 = .ok (.iconst (-1), 1) ∧ decode cX10_driest 18 = .ok (.ireturn, 1) ∧ decode cX10_driest 19 = .ok (.aload_n 0, 1) ∧ decode cX10_driest 20 = .ok (.aload_n 0, 1) ∧ decode cX10_driest 21 = .ok (.getfield 19, 3) ∧ decode cX10_driest 24 = .ok (.iload_n 1, 1) ∧ decode cX10_driest 25 = .ok (.iaload, 1) := by decide +kernel
theorem zcdX10_driest_26 : decode cX10_driest 26 = .ok (.invokevirtual 344, 3) ∧ decode cX10_driest 29 = .ok (.istore_n 3, 1) ∧ decode cX10_driest 30 = .ok (.iload_n 3, 1) ∧ decode cX10_driest 31 = .ok (.ldc_w 343, 3) ∧ decode cX10_driest 34 = .ok (.if_icmp .lt 6, 3) ∧ decode cX10_driest 37 = .ok (.bipush (-2), 2) ∧ decode cX10_driest 39 = .ok (.ireturn, 1) ∧ decode cX10_driest 40 = .ok (.iload_n 2, 1) := by decide +kernel
theorem zcdX10_driest_41 : decode cX10_driest 41 = .ok (.ifCond .ne 10, 3) ∧ decode cX10_driest 44 = .ok (.iload_n 3, 1) ∧ decode cX10_driest 45 = .ok (.bipush 100, 2) ∧ decode cX10_driest 47 = .ok (.idiv, 1) ∧ decode cX10_driest 48 = .ok (.goto 7, 3) ∧ decode cX10_driest 51 = .ok (.iload_n 3, 1) ∧ decode cX10_driest 52 = .ok (.bipush 100, 2) ∧ decode cX10_driest 54 = .ok (.irem, 1) := by decide +kernel
theorem zcdX10_driest_55 : decode cX10_driest 55 = .ok (.ireturn, 1) ∧ decode cX10_endsPiece 0 = .ok (.aload_n 0, 1) ∧ decode cX10_endsPiece 1 = .ok (.invokevirtual 198, 3) ∧ decode cX10_endsPiece 4 = .ok (.bipush 10, 2) ∧ decode cX10_endsPiece 6 = .ok (.if_icmp .ne 33, 3) ∧ decode cX10_endsPiece 9 = .ok (.aload_n 0, 1) ∧ decode cX10_endsPiece 10 = .ok (.bipush 10, 2) ∧ decode cX10_endsPiece 12 = .ok (.iconst 0, 1) := by decide +kernel
theorem zcdX10_endsPiece_13 : decode cX10_endsPiece 13 = .ok (.invokevirtual 201, 3) ∧ decode cX10_endsPiece 16 = .ok (.aload_n 0, 1) ∧ decode cX10_endsPiece 17 = .ok (.aload_n 0, 1) ∧ decode cX10_endsPiece 18 = .ok (.getfield 195, 3) ∧ decode cX10_endsPiece 21 = .ok (.iconst 1, 1) ∧ decode cX10_endsPiece 22 = .ok (.isub, 1) ∧ decode cX10_endsPiece 23 = .ok (.putfield 195, 3) ∧ decode cX10_endsPiece 26 = .ok (.aload_n 0, 1) := by decide +kernel
theorem zcdX10_endsPiece_27 : decode cX10_endsPiece 27 = .ok (.aload_n 0, 1) ∧ decode cX10_endsPiece 28 = .ok (.getfield 192, 3) ∧ decode cX10_endsPiece 31 = .ok (.iconst 1, 1) ∧ decode cX10_endsPiece 32 = .ok (.isub, 1) ∧ decode cX10_endsPiece 33 = .ok (.putfield 192, 3) ∧ decode cX10_endsPiece 36 = .ok (.goto (-36), 3) ∧ decode cX10_endsPiece 39 = .ok (.return_, 1) ∧ decode cX10_here 0 = .ok (.aload_n 0, 1) := by decide +kernel
theorem zcdX10_here_1 : decode cX10_here 1 = .ok (.getfield 165, 3) ∧ decode cX10_here 4 = .ok (.aload_n 0, 1) ∧ decode cX10_here 5 = .ok (.getfield 168, 3) ∧ decode cX10_here 8 = .ok (.if_icmp .ge 19, 3) ∧ decode cX10_here 11 = .ok (.aload_n 0, 1) ∧ decode cX10_here 12 = .ok (.getfield 22, 3) ∧ decode cX10_here 15 = .ok (.aload_n 0, 1) ∧ decode cX10_here 16 = .ok (.getfield 165, 3) := by decide +kernel
theorem zcdX10_here_19 : decode cX10_here 19 = .ok (.baload, 1) ∧ decode cX10_here 20 = .ok (.sipush 255, 3) ∧ decode cX10_here 23 = .ok (.iand, 1) ∧ decode cX10_here 24 = .ok (.goto 4, 3) ∧ decode cX10_here 27 = .ok (.iconst (-1), 1) ∧ decode cX10_here 28 = .ok (.ireturn, 1) ∧ decode cX10_wrongAt 0 = .ok (.aload_n 0, 1) ∧ decode cX10_wrongAt 1 = .ok (.sipush (-1000), 3) := by decide +kernel
theorem zcdX10_wrongAt_4 : decode cX10_wrongAt 4 = .ok (.iload_n 1, 1) ∧ decode cX10_wrongAt 5 = .ok (.imul, 1) ∧ decode cX10_wrongAt 6 = .ok (.iload_n 2, 1) ∧ decode cX10_wrongAt 7 = .ok (.isub, 1) ∧ decode cX10_wrongAt 8 = .ok (.putfield 175, 3) ∧ decode cX10_wrongAt 11 = .ok (.iconst 0, 1) ∧ decode cX10_wrongAt 12 = .ok (.ireturn, 1) ∧ decode cX10_endsRound 0 = .ok (.aload_n 0, 1) := by decide +kernel
theorem zcdX10_endsRound_1 : decode cX10_endsRound 1 = .ok (.aload_n 0, 1) ∧ decode cX10_endsRound 2 = .ok (.getfield 165, 3) ∧ decode cX10_endsRound 5 = .ok (.iconst 1, 1) ∧ decode cX10_endsRound 6 = .ok (.iadd, 1) ∧ decode cX10_endsRound 7 = .ok (.putfield 165, 3) ∧ decode cX10_endsRound 10 = .ok (.iconst 1, 1) ∧ decode cX10_endsRound 11 = .ok (.istore_n 1, 1) ∧ decode cX10_endsRound 12 = .ok (.aload_n 0, 1) := by decide +kernel
theorem zcdX10_endsRound_13 : decode cX10_endsRound 13 = .ok (.invokevirtual 171, 3) ∧ decode cX10_endsRound 16 = .ok (.bipush 120, 2) ∧ decode cX10_endsRound 18 = .ok (.if_icmp .ne 55, 3) ∧ decode cX10_endsRound 21 = .ok (.aload_n 0, 1) ∧ decode cX10_endsRound 22 = .ok (.aload_n 0, 1) ∧ decode cX10_endsRound 23 = .ok (.getfield 165, 3) ∧ decode cX10_endsRound 26 = .ok (.iconst 1, 1) ∧ decode cX10_endsRound 27 = .ok (.iadd, 1) := by decide +kernel
theorem zcdX10_endsRound_28 : decode cX10_endsRound 28 = .ok (.putfield 165, 3) ∧ decode cX10_endsRound 31 = .ok (.aload_n 0, 1) ∧ decode cX10_endsRound 32 = .ok (.invokevirtual 171, 3) ∧ decode cX10_endsRound 35 = .ok (.bipush 50, 2) ∧ decode cX10_endsRound 37 = .ok (.bipush 57, 2) ∧ decode cX10_endsRound 39 = .ok (.invokestatic 132, 3) ∧ decode cX10_endsRound 42 = .ok (.ifCond .ne 13, 3) ∧ decode cX10_endsRound 45 = .ok (.aload_n 0, 1) := by decide +kernel
theorem zcdX10_endsRound_46 : decode cX10_endsRound 46 = .ok (.iconst 1, 1) ∧ decode cX10_endsRound 47 = .ok (.aload_n 0, 1) ∧ decode cX10_endsRound 48 = .ok (.getfield 165, 3) ∧ decode cX10_endsRound 51 = .ok (.invokevirtual 178, 3) ∧ decode cX10_endsRound 54 = .ok (.ireturn, 1) ∧ decode cX10_endsRound 55 = .ok (.aload_n 0, 1) ∧ decode cX10_endsRound 56 = .ok (.invokevirtual 171, 3) ∧ decode cX10_endsRound 59 = .ok (.bipush 48, 2) := by decide +kernel
theorem zcdX10_endsRound_61 : decode cX10_endsRound 61 = .ok (.isub, 1) ∧ decode cX10_endsRound 62 = .ok (.istore_n 1, 1) ∧ decode cX10_endsRound 63 = .ok (.aload_n 0, 1) ∧ decode cX10_endsRound 64 = .ok (.aload_n 0, 1) ∧ decode cX10_endsRound 65 = .ok (.getfield 165, 3) ∧ decode cX10_endsRound 68 = .ok (.iconst 1, 1) ∧ decode cX10_endsRound 69 = .ok (.iadd, 1) ∧ decode cX10_endsRound 70 = .ok (.putfield 165, 3) := by decide +kernel
theorem zcdX10_endsRound_73 : decode cX10_endsRound 73 = .ok (.aload_n 0, 1) ∧ decode cX10_endsRound 74 = .ok (.aload_n 0, 1) ∧ decode cX10_endsRound 75 = .ok (.getfield 362, 3) ∧ decode cX10_endsRound 78 = .ok (.iconst 1, 1) ∧ decode cX10_endsRound 79 = .ok (.isub, 1) ∧ decode cX10_endsRound 80 = .ok (.putfield 362, 3) ∧ decode cX10_endsRound 83 = .ok (.aload_n 0, 1) ∧ decode cX10_endsRound 84 = .ok (.getfield 359, 3) := by decide +kernel
theorem zcdX10_endsRound_87 : decode cX10_endsRound 87 = .ok (.aload_n 0, 1) ∧ decode cX10_endsRound 88 = .ok (.getfield 113, 3) ∧ decode cX10_endsRound 91 = .ok (.aload_n 0, 1) ∧ decode cX10_endsRound 92 = .ok (.getfield 362, 3) ∧ decode cX10_endsRound 95 = .ok (.iaload, 1) ∧ decode cX10_endsRound 96 = .ok (.isub, 1) ∧ decode cX10_endsRound 97 = .ok (.istore_n 2, 1) ∧ decode cX10_endsRound 98 = .ok (.aload_n 0, 1) := by decide +kernel
theorem zcdX10_endsRound_99 : decode cX10_endsRound 99 = .ok (.getfield 113, 3) ∧ decode cX10_endsRound 102 = .ok (.aload_n 0, 1) ∧ decode cX10_endsRound 103 = .ok (.getfield 362, 3) ∧ decode cX10_endsRound 106 = .ok (.iaload, 1) ∧ decode cX10_endsRound 107 = .ok (.iload_n 2, 1) ∧ decode cX10_endsRound 108 = .ok (.iload_n 1, 1) ∧ decode cX10_endsRound 109 = .ok (.imul, 1) ∧ decode cX10_endsRound 110 = .ok (.iadd, 1) := by decide +kernel
theorem zcdX10_endsRound_111 : decode cX10_endsRound 111 = .ok (.bipush 60, 2) ∧ decode cX10_endsRound 113 = .ok (.if_icmp .le 19, 3) ∧ decode cX10_endsRound 116 = .ok (.aload_n 0, 1) ∧ decode cX10_endsRound 117 = .ok (.bipush 6, 2) ∧ decode cX10_endsRound 119 = .ok (.aload_n 0, 1) ∧ decode cX10_endsRound 120 = .ok (.getfield 110, 3) ∧ decode cX10_endsRound 123 = .ok (.aload_n 0, 1) ∧ decode cX10_endsRound 124 = .ok (.getfield 362, 3) := by decide +kernel
theorem zcdX10_endsRound_127 : decode cX10_endsRound 127 = .ok (.iaload, 1) ∧ decode cX10_endsRound 128 = .ok (.invokevirtual 178, 3) ∧ decode cX10_endsRound 131 = .ok (.ireturn, 1) ∧ decode cX10_endsRound 132 = .ok (.iload_n 2, 1) ∧ decode cX10_endsRound 133 = .ok (.istore_n 3, 1) ∧ decode cX10_endsRound 134 = .ok (.iload_n 3, 1) ∧ decode cX10_endsRound 135 = .ok (.iload_n 2, 1) ∧ decode cX10_endsRound 136 = .ok (.iload_n 1, 1) := by decide +kernel
theorem zcdX10_endsRound_137 : decode cX10_endsRound 137 = .ok (.imul, 1) ∧ decode cX10_endsRound 138 = .ok (.if_icmp .ge 77, 3) ∧ decode cX10_endsRound 141 = .ok (.aload_n 0, 1) ∧ decode cX10_endsRound 142 = .ok (.getfield 104, 3) ∧ decode cX10_endsRound 145 = .ok (.aload_n 0, 1) ∧ decode cX10_endsRound 146 = .ok (.getfield 113, 3) ∧ decode cX10_endsRound 149 = .ok (.aload_n 0, 1) ∧ decode cX10_endsRound 150 = .ok (.getfield 362, 3) := by decide +kernel
theorem zcdX10_endsRound_153 : decode cX10_endsRound 153 = .ok (.iaload, 1) ∧ decode cX10_endsRound 154 = .ok (.iload_n 3, 1) ∧ decode cX10_endsRound 155 = .ok (.iadd, 1) ∧ decode cX10_endsRound 156 = .ok (.aload_n 0, 1) ∧ decode cX10_endsRound 157 = .ok (.getfield 104, 3) ∧ decode cX10_endsRound 160 = .ok (.aload_n 0, 1) ∧ decode cX10_endsRound 161 = .ok (.getfield 113, 3) ∧ decode cX10_endsRound 164 = .ok (.aload_n 0, 1) := by decide +kernel
theorem zcdX10_endsRound_165 : decode cX10_endsRound 165 = .ok (.getfield 362, 3) ∧ decode cX10_endsRound 168 = .ok (.iaload, 1) ∧ decode cX10_endsRound 169 = .ok (.iload_n 3, 1) ∧ decode cX10_endsRound 170 = .ok (.iadd, 1) ∧ decode cX10_endsRound 171 = .ok (.iload_n 2, 1) ∧ decode cX10_endsRound 172 = .ok (.isub, 1) ∧ decode cX10_endsRound 173 = .ok (.iaload, 1) ∧ decode cX10_endsRound 174 = .ok (.iastore, 1) := by decide +kernel
theorem zcdX10_endsRound_175 : decode cX10_endsRound 175 = .ok (.aload_n 0, 1) ∧ decode cX10_endsRound 176 = .ok (.getfield 107, 3) ∧ decode cX10_endsRound 179 = .ok (.aload_n 0, 1) ∧ decode cX10_endsRound 180 = .ok (.getfield 113, 3) ∧ decode cX10_endsRound 183 = .ok (.aload_n 0, 1) ∧ decode cX10_endsRound 184 = .ok (.getfield 362, 3) ∧ decode cX10_endsRound 187 = .ok (.iaload, 1) ∧ decode cX10_endsRound 188 = .ok (.iload_n 3, 1) := by decide +kernel
theorem zcdX10_endsRound_189 : decode cX10_endsRound 189 = .ok (.iadd, 1) ∧ decode cX10_endsRound 190 = .ok (.aload_n 0, 1) ∧ decode cX10_endsRound 191 = .ok (.getfield 107, 3) ∧ decode cX10_endsRound 194 = .ok (.aload_n 0, 1) ∧ decode cX10_endsRound 195 = .ok (.getfield 113, 3) ∧ decode cX10_endsRound 198 = .ok (.aload_n 0, 1) ∧ decode cX10_endsRound 199 = .ok (.getfield 362, 3) ∧ decode cX10_endsRound 202 = .ok (.iaload, 1) := by decide +kernel
theorem zcdX10_endsRound_203 : decode cX10_endsRound 203 = .ok (.iload_n 3, 1) ∧ decode cX10_endsRound 204 = .ok (.iadd, 1) ∧ decode cX10_endsRound 205 = .ok (.iload_n 2, 1) ∧ decode cX10_endsRound 206 = .ok (.isub, 1) ∧ decode cX10_endsRound 207 = .ok (.iaload, 1) ∧ decode cX10_endsRound 208 = .ok (.iastore, 1) ∧ decode cX10_endsRound 209 = .ok (.iinc 3 1, 3) ∧ decode cX10_endsRound 212 = .ok (.goto (-78), 3) := by decide +kernel
theorem zcdX10_endsRound_215 : decode cX10_endsRound 215 = .ok (.aload_n 0, 1) ∧ decode cX10_endsRound 216 = .ok (.aload_n 0, 1) ∧ decode cX10_endsRound 217 = .ok (.getfield 113, 3) ∧ decode cX10_endsRound 220 = .ok (.aload_n 0, 1) ∧ decode cX10_endsRound 221 = .ok (.getfield 362, 3) ∧ decode cX10_endsRound 224 = .ok (.iaload, 1) ∧ decode cX10_endsRound 225 = .ok (.iload_n 2, 1) ∧ decode cX10_endsRound 226 = .ok (.iload_n 1, 1) := by decide +kernel
theorem zcdX10_endsRound_227 : decode cX10_endsRound 227 = .ok (.imul, 1) ∧ decode cX10_endsRound 228 = .ok (.iadd, 1) ∧ decode cX10_endsRound 229 = .ok (.putfield 359, 3) ∧ decode cX10_endsRound 232 = .ok (.iconst 1, 1) ∧ decode cX10_endsRound 233 = .ok (.ireturn, 1) ∧ decode cX10_factOf 0 = .ok (.iload_n 0, 1) ∧ decode cX10_factOf 1 = .ok (.tableswitch 117 101 121 #[107, 117, 114, 117, 99, 117, 117, 117, 117, 109, 117, 117, 117, 111, 105, 117, 117, 117, 117, 101, 103], 99) ∧ decode cX10_factOf 100 = .ok (.iconst 0, 1) := by decide +kernel
theorem zcdX10_factOf_101 : decode cX10_factOf 101 = .ok (.ireturn, 1) ∧ decode cX10_factOf 102 = .ok (.iconst 1, 1) ∧ decode cX10_factOf 103 = .ok (.ireturn, 1) ∧ decode cX10_factOf 104 = .ok (.iconst 2, 1) ∧ decode cX10_factOf 105 = .ok (.ireturn, 1) ∧ decode cX10_factOf 106 = .ok (.iconst 3, 1) ∧ decode cX10_factOf 107 = .ok (.ireturn, 1) ∧ decode cX10_factOf 108 = .ok (.iconst 4, 1) := by decide +kernel
theorem zcdX10_factOf_109 : decode cX10_factOf 109 = .ok (.ireturn, 1) ∧ decode cX10_factOf 110 = .ok (.iconst 5, 1) ∧ decode cX10_factOf 111 = .ok (.ireturn, 1) ∧ decode cX10_factOf 112 = .ok (.bipush 6, 2) ∧ decode cX10_factOf 114 = .ok (.ireturn, 1) ∧ decode cX10_factOf 115 = .ok (.bipush 7, 2) ∧ decode cX10_factOf 117 = .ok (.ireturn, 1) ∧ decode cX10_factOf 118 = .ok (.iconst (-1), 1) := by decide +kernel
theorem zcdX10_factOf_119 : decode cX10_factOf 119 = .ok (.ireturn, 1) ∧ decode cX10_types 0 = .ok (.iconst 3, 1) ∧ decode cX10_types 1 = .ok (.istore_n 2, 1) ∧ decode cX10_types 2 = .ok (.iload_n 2, 1) ∧ decode cX10_types 3 = .ok (.ifCond .lt 35, 3) ∧ decode cX10_types 6 = .ok (.aload_n 0, 1) ∧ decode cX10_types 7 = .ok (.getfield 22, 3) ∧ decode cX10_types 10 = .ok (.aload_n 0, 1) := by decide +kernel
theorem zcdX10_types_11 : decode cX10_types 11 = .ok (.getfield 158, 3) ∧ decode cX10_types 14 = .ok (.iload_n 1, 1) ∧ decode cX10_types 15 = .ok (.bipush 8, 2) ∧ decode cX10_types 17 = .ok (.iload_n 2, 1) ∧ decode cX10_types 18 = .ok (.imul, 1) ∧ decode cX10_types 19 = .ok (.ishr, 1) ∧ decode cX10_types 20 = .ok (.i2b, 1) ∧ decode cX10_types 21 = .ok (.bastore, 1) := by decide +kernel
theorem zcdX10_types_22 : decode cX10_types 22 = .ok (.aload_n 0, 1) ∧ decode cX10_types 23 = .ok (.aload_n 0, 1) ∧ decode cX10_types 24 = .ok (.getfield 158, 3) ∧ decode cX10_types 27 = .ok (.iconst 1, 1) ∧ decode cX10_types 28 = .ok (.iadd, 1) ∧ decode cX10_types 29 = .ok (.putfield 158, 3) ∧ decode cX10_types 32 = .ok (.iinc 2 (-1), 3) ∧ decode cX10_types 35 = .ok (.goto (-33), 3) := by decide +kernel
theorem zcdX10_types_38 : decode cX10_types 38 = .ok (.return_, 1) ∧ decode cX10_feed 0 = .ok (.aload_n 0, 1) ∧ decode cX10_feed 1 = .ok (.getfield 158, 3) ∧ decode cX10_feed 4 = .ok (.bipush 20, 2) ∧ decode cX10_feed 6 = .ok (.iadd, 1) ∧ decode cX10_feed 7 = .ok (.sipush 260, 3) ∧ decode cX10_feed 10 = .ok (.if_icmp .le 5, 3) ∧ decode cX10_feed 13 = .ok (.iconst (-1), 1) := by decide +kernel
theorem zcdX10_feed_14 : decode cX10_feed 14 = .ok (.ireturn, 1) ∧ decode cX10_feed 15 = .ok (.aload_n 0, 1) ∧ decode cX10_feed 16 = .ok (.iload_n 1, 1) ∧ decode cX10_feed 17 = .ok (.invokevirtual 161, 3) ∧ decode cX10_feed 20 = .ok (.aload_n 0, 1) ∧ decode cX10_feed 21 = .ok (.iload_n 2, 1) ∧ decode cX10_feed 22 = .ok (.invokevirtual 161, 3) ∧ decode cX10_feed 25 = .ok (.aload_n 0, 1) := by decide +kernel
theorem zcdX10_feed_26 : decode cX10_feed 26 = .ok (.iload_n 3, 1) ∧ decode cX10_feed 27 = .ok (.invokevirtual 161, 3) ∧ decode cX10_feed 30 = .ok (.aload_n 0, 1) ∧ decode cX10_feed 31 = .ok (.iload 4, 2) ∧ decode cX10_feed 33 = .ok (.invokevirtual 161, 3) ∧ decode cX10_feed 36 = .ok (.aload_n 0, 1) ∧ decode cX10_feed 37 = .ok (.iload 5, 2) ∧ decode cX10_feed 39 = .ok (.invokevirtual 161, 3) := by decide +kernel
theorem zcdX10_feed_42 : decode cX10_feed 42 = .ok (.aload_n 0, 1) ∧ decode cX10_feed 43 = .ok (.getfield 158, 3) ∧ decode cX10_feed 46 = .ok (.ireturn, 1) ∧ decode cX10_nearTo 0 = .ok (.iconst 0, 1) ∧ decode cX10_nearTo 1 = .ok (.istore_n 2, 1) ∧ decode cX10_nearTo 2 = .ok (.iconst 0, 1) ∧ decode cX10_nearTo 3 = .ok (.istore_n 3, 1) ∧ decode cX10_nearTo 4 = .ok (.iload_n 3, 1) := by decide +kernel
theorem zcdX10_nearTo_5 : decode cX10_nearTo 5 = .ok (.bipush 40, 2) ∧ decode cX10_nearTo 7 = .ok (.if_icmp .ge 40, 3) ∧ decode cX10_nearTo 10 = .ok (.iload_n 3, 1) ∧ decode cX10_nearTo 11 = .ok (.iload_n 1, 1) ∧ decode cX10_nearTo 12 = .ok (.if_icmp .eq 29, 3) ∧ decode cX10_nearTo 15 = .ok (.aload_n 0, 1) ∧ decode cX10_nearTo 16 = .ok (.getfield 7, 3) ∧ decode cX10_nearTo 19 = .ok (.iconst 0, 1) := by decide +kernel
theorem zcdX10_nearTo_20 : decode cX10_nearTo 20 = .ok (.iload_n 3, 1) ∧ decode cX10_nearTo 21 = .ok (.iadd, 1) ∧ decode cX10_nearTo 22 = .ok (.iaload, 1) ∧ decode cX10_nearTo 23 = .ok (.iconst 1, 1) ∧ decode cX10_nearTo 24 = .ok (.if_icmp .ne 17, 3) ∧ decode cX10_nearTo 27 = .ok (.aload_n 0, 1) ∧ decode cX10_nearTo 28 = .ok (.iload_n 1, 1) ∧ decode cX10_nearTo 29 = .ok (.iload_n 3, 1) := by decide +kernel
theorem zcdX10_nearTo_30 : decode cX10_nearTo 30 = .ok (.invokevirtual 144, 3) ∧ decode cX10_nearTo 33 = .ok (.iconst 4, 1) ∧ decode cX10_nearTo 34 = .ok (.if_icmp .gt 7, 3) ∧ decode cX10_nearTo 37 = .ok (.iload_n 2, 1) ∧ decode cX10_nearTo 38 = .ok (.iconst 1, 1) ∧ decode cX10_nearTo 39 = .ok (.iadd, 1) ∧ decode cX10_nearTo 40 = .ok (.istore_n 2, 1) ∧ decode cX10_nearTo 41 = .ok (.iinc 3 1, 3) := by decide +kernel
theorem zcdX10_nearTo_44 : decode cX10_nearTo 44 = .ok (.goto (-40), 3) ∧ decode cX10_nearTo 47 = .ok (.iload_n 2, 1) ∧ decode cX10_nearTo 48 = .ok (.ireturn, 1) ∧ decode cX10_feels 0 = .ok (.aload_n 0, 1) ∧ decode cX10_feels 1 = .ok (.getfield 62, 3) ∧ decode cX10_feels 4 = .ok (.iconst 0, 1) ∧ decode cX10_feels 5 = .ok (.iload_n 1, 1) ∧ decode cX10_feels 6 = .ok (.iastore, 1) := by decide +kernel
theorem zcdX10_feels_7 : decode cX10_feels 7 = .ok (.aload_n 0, 1) ∧ decode cX10_feels 8 = .ok (.getfield 62, 3) ∧ decode cX10_feels 11 = .ok (.iconst 1, 1) ∧ decode cX10_feels 12 = .ok (.aload_n 0, 1) ∧ decode cX10_feels 13 = .ok (.getfield 7, 3) ∧ decode cX10_feels 16 = .ok (.bipush 40, 2) ∧ decode cX10_feels 18 = .ok (.iload_n 1, 1) ∧ decode cX10_feels 19 = .ok (.iadd, 1) := by decide +kernel
theorem zcdX10_feels_20 : decode cX10_feels 20 = .ok (.iaload, 1) ∧ decode cX10_feels 21 = .ok (.iastore, 1) ∧ decode cX10_feels 22 = .ok (.aload_n 0, 1) ∧ decode cX10_feels 23 = .ok (.getfield 62, 3) ∧ decode cX10_feels 26 = .ok (.iconst 2, 1) ∧ decode cX10_feels 27 = .ok (.aload_n 0, 1) ∧ decode cX10_feels 28 = .ok (.getfield 7, 3) ∧ decode cX10_feels 31 = .ok (.bipush 80, 2) := by decide +kernel
theorem zcdX10_feels_33 : decode cX10_feels 33 = .ok (.iload_n 1, 1) ∧ decode cX10_feels 34 = .ok (.iadd, 1) ∧ decode cX10_feels 35 = .ok (.iaload, 1) ∧ decode cX10_feels 36 = .ok (.iastore, 1) ∧ decode cX10_feels 37 = .ok (.aload_n 0, 1) ∧ decode cX10_feels 38 = .ok (.getfield 62, 3) ∧ decode cX10_feels 41 = .ok (.iconst 3, 1) ∧ decode cX10_feels 42 = .ok (.aload_n 0, 1) := by decide +kernel
theorem zcdX10_feels_43 : decode cX10_feels 43 = .ok (.getfield 7, 3) ∧ decode cX10_feels 46 = .ok (.bipush 120, 2) ∧ decode cX10_feels 48 = .ok (.iload_n 1, 1) ∧ decode cX10_feels 49 = .ok (.iadd, 1) ∧ decode cX10_feels 50 = .ok (.iaload, 1) ∧ decode cX10_feels 51 = .ok (.iastore, 1) ∧ decode cX10_feels 52 = .ok (.aload_n 0, 1) ∧ decode cX10_feels 53 = .ok (.getfield 62, 3) := by decide +kernel
theorem zcdX10_feels_56 : decode cX10_feels 56 = .ok (.iconst 4, 1) ∧ decode cX10_feels 57 = .ok (.aload_n 0, 1) ∧ decode cX10_feels 58 = .ok (.getfield 7, 3) ∧ decode cX10_feels 61 = .ok (.sipush 160, 3) ∧ decode cX10_feels 64 = .ok (.iload_n 1, 1) ∧ decode cX10_feels 65 = .ok (.iadd, 1) ∧ decode cX10_feels 66 = .ok (.iaload, 1) ∧ decode cX10_feels 67 = .ok (.iastore, 1) := by decide +kernel
theorem zcdX10_feels_68 : decode cX10_feels 68 = .ok (.aload_n 0, 1) ∧ decode cX10_feels 69 = .ok (.getfield 62, 3) ∧ decode cX10_feels 72 = .ok (.iconst 5, 1) ∧ decode cX10_feels 73 = .ok (.aload_n 0, 1) ∧ decode cX10_feels 74 = .ok (.iload_n 1, 1) ∧ decode cX10_feels 75 = .ok (.invokevirtual 268, 3) ∧ decode cX10_feels 78 = .ok (.iastore, 1) ∧ decode cX10_feels 79 = .ok (.aload_n 0, 1) := by decide +kernel
theorem zcdX10_feels_80 : decode cX10_feels 80 = .ok (.getfield 62, 3) ∧ decode cX10_feels 83 = .ok (.bipush 6, 2) ∧ decode cX10_feels 85 = .ok (.iload_n 2, 1) ∧ decode cX10_feels 86 = .ok (.iastore, 1) ∧ decode cX10_feels 87 = .ok (.aload_n 0, 1) ∧ decode cX10_feels 88 = .ok (.getfield 62, 3) ∧ decode cX10_feels 91 = .ok (.bipush 7, 2) ∧ decode cX10_feels 93 = .ok (.aload_n 0, 1) := by decide +kernel
theorem zcdX10_feels_94 : decode cX10_feels 94 = .ok (.getfield 7, 3) ∧ decode cX10_feels 97 = .ok (.sipush 200, 3) ∧ decode cX10_feels 100 = .ok (.iaload, 1) ∧ decode cX10_feels 101 = .ok (.bipush 100, 2) ∧ decode cX10_feels 103 = .ok (.irem, 1) ∧ decode cX10_feels 104 = .ok (.iastore, 1) ∧ decode cX10_feels 105 = .ok (.return_, 1) ∧ decode cX10_holdsAny 0 = .ok (.iconst 0, 1) := by decide +kernel
theorem zcdX10_holdsAny_1 : decode cX10_holdsAny 1 = .ok (.istore_n 2, 1) ∧ decode cX10_holdsAny 2 = .ok (.iload_n 2, 1) ∧ decode cX10_holdsAny 3 = .ok (.aload_n 0, 1) ∧ decode cX10_holdsAny 4 = .ok (.getfield 258, 3) ∧ decode cX10_holdsAny 7 = .ok (.if_icmp .ge 41, 3) ∧ decode cX10_holdsAny 10 = .ok (.aload_n 0, 1) ∧ decode cX10_holdsAny 11 = .ok (.getfield 47, 3) ∧ decode cX10_holdsAny 14 = .ok (.iload_n 2, 1) := by decide +kernel
theorem zcdX10_holdsAny_15 : decode cX10_holdsAny 15 = .ok (.iaload, 1) ∧ decode cX10_holdsAny 16 = .ok (.iload_n 1, 1) ∧ decode cX10_holdsAny 17 = .ok (.if_icmp .ne 25, 3) ∧ decode cX10_holdsAny 20 = .ok (.aload_n 0, 1) ∧ decode cX10_holdsAny 21 = .ok (.aload_n 0, 1) ∧ decode cX10_holdsAny 22 = .ok (.getfield 53, 3) ∧ decode cX10_holdsAny 25 = .ok (.iload_n 2, 1) ∧ decode cX10_holdsAny 26 = .ok (.iaload, 1) := by decide +kernel
theorem zcdX10_holdsAny_27 : decode cX10_holdsAny 27 = .ok (.aload_n 0, 1) ∧ decode cX10_holdsAny 28 = .ok (.getfield 56, 3) ∧ decode cX10_holdsAny 31 = .ok (.iload_n 2, 1) ∧ decode cX10_holdsAny 32 = .ok (.iaload, 1) ∧ decode cX10_holdsAny 33 = .ok (.invokevirtual 265, 3) ∧ decode cX10_holdsAny 36 = .ok (.iconst 1, 1) ∧ decode cX10_holdsAny 37 = .ok (.if_icmp .ne 5, 3) ∧ decode cX10_holdsAny 40 = .ok (.iconst 1, 1) := by decide +kernel
theorem zcdX10_holdsAny_41 : decode cX10_holdsAny 41 = .ok (.ireturn, 1) ∧ decode cX10_holdsAny 42 = .ok (.iinc 2 1, 3) ∧ decode cX10_holdsAny 45 = .ok (.goto (-43), 3) ∧ decode cX10_holdsAny 48 = .ok (.iconst 0, 1) ∧ decode cX10_holdsAny 49 = .ok (.ireturn, 1) ∧ decode cX10_moves 0 = .ok (.aload_n 0, 1) ∧ decode cX10_moves 1 = .ok (.getfield 7, 3) ∧ decode cX10_moves 4 = .ok (.sipush 201, 3) := by decide +kernel
theorem zcdX10_moves_7 : decode cX10_moves 7 = .ok (.sipush 25173, 3) ∧ decode cX10_moves 10 = .ok (.aload_n 0, 1) ∧ decode cX10_moves 11 = .ok (.getfield 7, 3) ∧ decode cX10_moves 14 = .ok (.sipush 201, 3) ∧ decode cX10_moves 17 = .ok (.iaload, 1) ∧ decode cX10_moves 18 = .ok (.imul, 1) ∧ decode cX10_moves 19 = .ok (.sipush 13849, 3) ∧ decode cX10_moves 22 = .ok (.iadd, 1) := by decide +kernel
theorem zcdX10_moves_23 : decode cX10_moves 23 = .ok (.ldc_w 283, 3) ∧ decode cX10_moves 26 = .ok (.irem, 1) ∧ decode cX10_moves 27 = .ok (.iastore, 1) ∧ decode cX10_moves 28 = .ok (.aload_n 0, 1) ∧ decode cX10_moves 29 = .ok (.getfield 7, 3) ∧ decode cX10_moves 32 = .ok (.sipush 201, 3) ∧ decode cX10_moves 35 = .ok (.iaload, 1) ∧ decode cX10_moves 36 = .ok (.bipush 10, 2) := by decide +kernel
theorem zcdX10_moves_38 : decode cX10_moves 38 = .ok (.irem, 1) ∧ decode cX10_moves 39 = .ok (.istore_n 2, 1) ∧ decode cX10_moves 40 = .ok (.aload_n 0, 1) ∧ decode cX10_moves 41 = .ok (.iload_n 1, 1) ∧ decode cX10_moves 42 = .ok (.iload_n 2, 1) ∧ decode cX10_moves 43 = .ok (.invokevirtual 284, 3) ∧ decode cX10_moves 46 = .ok (.aload_n 0, 1) ∧ decode cX10_moves 47 = .ok (.getfield 7, 3) := by decide +kernel
theorem zcdX10_moves_50 : decode cX10_moves 50 = .ok (.bipush 40, 2) ∧ decode cX10_moves 52 = .ok (.iload_n 1, 1) ∧ decode cX10_moves 53 = .ok (.iadd, 1) ∧ decode cX10_moves 54 = .ok (.iaload, 1) ∧ decode cX10_moves 55 = .ok (.aload_n 0, 1) ∧ decode cX10_moves 56 = .ok (.bipush 117, 2) ∧ decode cX10_moves 58 = .ok (.bipush 9, 2) ∧ decode cX10_moves 60 = .ok (.invokevirtual 287, 3) := by decide +kernel
theorem zcdX10_moves_63 : decode cX10_moves 63 = .ok (.iadd, 1) ∧ decode cX10_moves 64 = .ok (.aload_n 0, 1) ∧ decode cX10_moves 65 = .ok (.bipush 100, 2) ∧ decode cX10_moves 67 = .ok (.bipush 9, 2) ∧ decode cX10_moves 69 = .ok (.invokevirtual 287, 3) ∧ decode cX10_moves 72 = .ok (.isub, 1) ∧ decode cX10_moves 73 = .ok (.iconst 0, 1) ∧ decode cX10_moves 74 = .ok (.bipush 39, 2) := by decide +kernel
theorem zcdX10_moves_76 : decode cX10_moves 76 = .ok (.invokestatic 290, 3) ∧ decode cX10_moves 79 = .ok (.istore_n 3, 1) ∧ decode cX10_moves 80 = .ok (.aload_n 0, 1) ∧ decode cX10_moves 81 = .ok (.getfield 7, 3) ∧ decode cX10_moves 84 = .ok (.bipush 80, 2) ∧ decode cX10_moves 86 = .ok (.iload_n 1, 1) ∧ decode cX10_moves 87 = .ok (.iadd, 1) ∧ decode cX10_moves 88 = .ok (.iaload, 1) := by decide +kernel
theorem zcdX10_moves_89 : decode cX10_moves 89 = .ok (.aload_n 0, 1) ∧ decode cX10_moves 90 = .ok (.bipush 111, 2) ∧ decode cX10_moves 92 = .ok (.bipush 9, 2) ∧ decode cX10_moves 94 = .ok (.invokevirtual 287, 3) ∧ decode cX10_moves 97 = .ok (.iadd, 1) ∧ decode cX10_moves 98 = .ok (.aload_n 0, 1) ∧ decode cX10_moves 99 = .ok (.bipush 98, 2) ∧ decode cX10_moves 101 = .ok (.bipush 9, 2) := by decide +kernel
theorem zcdX10_moves_103 : decode cX10_moves 103 = .ok (.invokevirtual 287, 3) ∧ decode cX10_moves 106 = .ok (.isub, 1) ∧ decode cX10_moves 107 = .ok (.iconst 1, 1) ∧ decode cX10_moves 108 = .ok (.bipush 20, 2) ∧ decode cX10_moves 110 = .ok (.invokestatic 290, 3) ∧ decode cX10_moves 113 = .ok (.istore 4, 2) ∧ decode cX10_moves 115 = .ok (.aload_n 0, 1) ∧ decode cX10_moves 116 = .ok (.iload_n 3, 1) := by decide +kernel
theorem zcdX10_moves_117 : decode cX10_moves 117 = .ok (.iload 4, 2) ∧ decode cX10_moves 119 = .ok (.invokevirtual 147, 3) ∧ decode cX10_moves 122 = .ok (.istore 5, 2) ∧ decode cX10_moves 124 = .ok (.iload 5, 2) ∧ decode cX10_moves 126 = .ok (.iconst (-1), 1) ∧ decode cX10_moves 127 = .ok (.if_icmp .ne 37, 3) ∧ decode cX10_moves 130 = .ok (.aload_n 0, 1) ∧ decode cX10_moves 131 = .ok (.getfield 7, 3) := by decide +kernel
theorem zcdX10_moves_134 : decode cX10_moves 134 = .ok (.bipush 40, 2) ∧ decode cX10_moves 136 = .ok (.iload_n 1, 1) ∧ decode cX10_moves 137 = .ok (.iadd, 1) ∧ decode cX10_moves 138 = .ok (.iload_n 3, 1) ∧ decode cX10_moves 139 = .ok (.iastore, 1) ∧ decode cX10_moves 140 = .ok (.aload_n 0, 1) ∧ decode cX10_moves 141 = .ok (.getfield 7, 3) ∧ decode cX10_moves 144 = .ok (.bipush 80, 2) := by decide +kernel
theorem zcdX10_moves_146 : decode cX10_moves 146 = .ok (.iload_n 1, 1) ∧ decode cX10_moves 147 = .ok (.iadd, 1) ∧ decode cX10_moves 148 = .ok (.iload 4, 2) ∧ decode cX10_moves 150 = .ok (.iastore, 1) ∧ decode cX10_moves 151 = .ok (.aload_n 0, 1) ∧ decode cX10_moves 152 = .ok (.aload_n 0, 1) ∧ decode cX10_moves 153 = .ok (.getfield 293, 3) ∧ decode cX10_moves 156 = .ok (.iconst 1, 1) := by decide +kernel
theorem zcdX10_moves_157 : decode cX10_moves 157 = .ok (.iadd, 1) ∧ decode cX10_moves 158 = .ok (.putfield 293, 3) ∧ decode cX10_moves 161 = .ok (.goto 19, 3) ∧ decode cX10_moves 164 = .ok (.iload 5, 2) ∧ decode cX10_moves 166 = .ok (.iload_n 1, 1) ∧ decode cX10_moves 167 = .ok (.if_icmp .eq 13, 3) ∧ decode cX10_moves 170 = .ok (.aload_n 0, 1) ∧ decode cX10_moves 171 = .ok (.aload_n 0, 1) := by decide +kernel
theorem zcdX10_moves_172 : decode cX10_moves 172 = .ok (.getfield 296, 3) ∧ decode cX10_moves 175 = .ok (.iconst 1, 1) ∧ decode cX10_moves 176 = .ok (.iadd, 1) ∧ decode cX10_moves 177 = .ok (.putfield 296, 3) ∧ decode cX10_moves 180 = .ok (.aload_n 0, 1) ∧ decode cX10_moves 181 = .ok (.iload_n 1, 1) ∧ decode cX10_moves 182 = .ok (.iload_n 2, 1) ∧ decode cX10_moves 183 = .ok (.invokevirtual 284, 3) := by decide +kernel
theorem zcdX10_moves_186 : decode cX10_moves 186 = .ok (.aload_n 0, 1) ∧ decode cX10_moves 187 = .ok (.getfield 7, 3) ∧ decode cX10_moves 190 = .ok (.sipush 160, 3) ∧ decode cX10_moves 193 = .ok (.iload_n 1, 1) ∧ decode cX10_moves 194 = .ok (.iadd, 1) ∧ decode cX10_moves 195 = .ok (.aload_n 0, 1) ∧ decode cX10_moves 196 = .ok (.bipush 120, 2) ∧ decode cX10_moves 198 = .ok (.invokevirtual 299, 3) := by decide +kernel
theorem zcdX10_moves_201 : decode cX10_moves 201 = .ok (.ifCond .eq 7, 3) ∧ decode cX10_moves 204 = .ok (.iconst 1, 1) ∧ decode cX10_moves 205 = .ok (.goto 4, 3) ∧ decode cX10_moves 208 = .ok (.iconst 0, 1) ∧ decode cX10_moves 209 = .ok (.iastore, 1) ∧ decode cX10_moves 210 = .ok (.return_, 1) := by decide +kernel
set_option maxHeartbeats 4000000 in
theorem t_X10_driest (v1 : Int32) (v2 : Int32) (M : Mem) : AXi yX10_driest cX10_driest 4 (some .int) 3 39 glM (fun ad => [.ref (ad 0), .int v1, .int v2]) M (f_X10_driest M v1 v2) := by
  intro r0 h
  refine AM.of (by decide) (fun _ => Nat.le_of_ble_eq_true rfl) (fun X ad cI cZ cB hX hR => ?_)
  show V X M [(0, .ref (ad 0)), (1, .int v1), (2, .int v2)] [] 0
  refine s_aload_n (k := 0) hX zcdX10_driest_0.1 rfl rfl ?_
  refine s_iload_n (k := 1) hX zcdX10_driest_0.2.1 rfl rfl ?_
  refine e_callVp hX (t_X10_isPerson v1 M) mX10_isPerson lX10_334 (by decide) (by decide) oM0 rfl rfl rfl rfl rfl (Nat.le_of_ble_eq_true rfl) zcdX10_driest_0.2.2.1 h (fun r_1 h => ?_)
  refine e_if_eq (tgt := 17) hX zcdX10_driest_0.2.2.2.1 (by decide) z_eq h (fun h => ?_) (fun h => ?_)
  · refine s_iconst (v := (-1)) hX zcdX10_driest_14.2.1 (by decide) ?_
    exact e_ireti hX hR zcdX10_driest_14.2.2.1 h
  · refine s_iload_n (k := 2) hX zcdX10_driest_0.2.2.2.2.1 rfl rfl ?_
    refine s_iconst (v := (nI 0)) hX zcdX10_driest_0.2.2.2.2.2.1 (by decide) ?_
    refine s_iconst (v := (nI 1)) hX zcdX10_driest_0.2.2.2.2.2.2.1 (by decide) ?_
    refine e_callSp hX (t_X10_in v2 (nI 0) (nI 1) M) mX10_in lX10_132 (by decide) (by decide) rfl rfl (Nat.le_of_ble_eq_true rfl) zcdX10_driest_0.2.2.2.2.2.2.2 h (fun r_2 h => ?_)
    refine e_if_ne (tgt := 19) hX zcdX10_driest_14.1 (by decide) z_eq h (fun h => ?_) (fun h => ?_)
    · refine s_aload_n (k := 0) hX zcdX10_driest_14.2.2.2.1 rfl rfl ?_
      refine s_aload_n (k := 0) hX zcdX10_driest_14.2.2.2.2.1 rfl rfl ?_
      refine s_get hX fX10_19 oM0 rfl zcdX10_driest_14.2.2.2.2.2.1 ?_
      refine s_iload_n (k := 1) hX zcdX10_driest_14.2.2.2.2.2.2.1 rfl rfl ?_
      refine e_iald hX aM4 zcdX10_driest_14.2.2.2.2.2.2.2 h (fun h => ?_)
      refine e_callVi hX (t_X10_dryCost (M 4 (ix v1)) M) mX10_dryCost lX10_344 (by decide) (by decide) oM0 rfl rfl rfl rfl rfl (Nat.le_of_ble_eq_true rfl) zcdX10_driest_26.1 h (fun r_3 M_4 h => ?_)
      refine s_istore_n (lv' := [(0, .ref (ad 0)), (1, .int v1), (2, .int v2), (3, .int r_3)]) hX zcdX10_driest_26.2.1 rfl (by decide) rfl ?_
      refine s_iload_n (k := 3) hX zcdX10_driest_26.2.2.1 rfl rfl ?_
      refine s_ldcw (v := (nI 1000000)) hX kX10_343 zcdX10_driest_26.2.2.2.1 ?_
      refine e_icmp_lt (tgt := 40) hX zcdX10_driest_26.2.2.2.2.1 (by decide) (m_lt (by decide +kernel)) h (fun h => ?_) (fun h => ?_)
      · refine s_iload_n (k := 2) hX zcdX10_driest_26.2.2.2.2.2.2.2 rfl rfl ?_
        refine e_if_ne (tgt := 51) hX zcdX10_driest_41.1 (by decide) z_eq h (fun h => ?_) (fun h => ?_)
        · refine s_iload_n (k := 3) hX zcdX10_driest_41.2.2.2.2.2.1 rfl rfl ?_
          refine s_bipush (v := (nI 100)) hX zcdX10_driest_41.2.2.2.2.2.2.1 (by decide) ?_
          refine s_iremL hX zcdX10_driest_41.2.2.2.2.2.2.2 (by decide) ?_
          exact e_ireti hX hR zcdX10_driest_55.1 h
        · refine s_iload_n (k := 3) hX zcdX10_driest_41.2.1 rfl rfl ?_
          refine s_bipush (v := (nI 100)) hX zcdX10_driest_41.2.2.1 (by decide) ?_
          refine s_idiv hX zcdX10_driest_41.2.2.2.1 (by decide) ?_
          refine s_goto (tgt := 55) hX zcdX10_driest_41.2.2.2.2.1 (by decide) ?_
          exact e_ireti hX hR zcdX10_driest_55.1 h
      · refine s_bipush (v := (-2)) hX zcdX10_driest_26.2.2.2.2.2.1 (by decide) ?_
        exact e_ireti hX hR zcdX10_driest_26.2.2.2.2.2.2.1 h
    · refine s_iconst (v := (-1)) hX zcdX10_driest_14.2.1 (by decide) ?_
      exact e_ireti hX hR zcdX10_driest_14.2.2.1 h
set_option maxHeartbeats 4000000 in
theorem t_X10_endsPiece (M : Mem) : AXv yX10_endsPiece cX10_endsPiece 1 none 1 39 glM (fun ad => [.ref (ad 0)]) M (f_X10_endsPiece M) := by
  intro r0 h
  refine AM.of (by decide) (fun _ => Nat.le_of_ble_eq_true rfl) (fun X ad cI cZ cB hX hR => ?_)
  show V X M [(0, .ref (ad 0))] [] 0
  have lp0 : ∀ (N0 : Nat) (M0 : Mem), wlp1 f_X10_endsPiece_B0 N0 M0 = some r0 → V X M0 [(0, .ref (ad 0))] [] 0 := by
    intro N0
    induction N0 with
    | zero => exact fun _ h => e_none h
    | succ N0 ih0 =>
      intro M0 h
      replace h : f_X10_endsPiece_B0 (wlp1 f_X10_endsPiece_B0 N0) M0 = some r0 := h
      generalize wlp1 f_X10_endsPiece_B0 N0 = ag0 at ih0 h
      refine s_aload_n (k := 0) hX zcdX10_driest_55.2.1 rfl rfl ?_
      refine e_callVp hX (t_X10_waitTop M0) mX10_waitTop lX10_198 (by decide) (by decide) oM0 rfl rfl rfl rfl rfl (Nat.le_of_ble_eq_true rfl) zcdX10_driest_55.2.2.1 h (fun r_1 h => ?_)
      refine s_bipush (v := (nI 10)) hX zcdX10_driest_55.2.2.2.1 (by decide) ?_
      refine e_icmp_ne (tgt := 39) hX zcdX10_driest_55.2.2.2.2.1 (by decide) (m_eq (by decide +kernel)) h (fun h => ?_) (fun h => ?_)
      · exact e_vret hX hR zcdX10_endsPiece_27.2.2.2.2.2.2.1 h
      · refine s_aload_n (k := 0) hX zcdX10_driest_55.2.2.2.2.2.1 rfl rfl ?_
        refine s_bipush (v := (nI 10)) hX zcdX10_driest_55.2.2.2.2.2.2.1 (by decide) ?_
        refine s_iconst (v := (nI 0)) hX zcdX10_driest_55.2.2.2.2.2.2.2 (by decide) ?_
        refine e_callVv hX (t_X10_notes (nI 10) (nI 0) M0) mX10_notes lX10_201 (by decide) (by decide) oM0 rfl rfl rfl rfl rfl (Nat.le_of_ble_eq_true rfl) zcdX10_endsPiece_13.1 h (fun M_2 h => ?_)
        refine s_aload_n (k := 0) hX zcdX10_endsPiece_13.2.1 rfl rfl ?_
        refine s_aload_n (k := 0) hX zcdX10_endsPiece_13.2.2.1 rfl rfl ?_
        refine s_get hX fX10_195 oM0 rfl zcdX10_endsPiece_13.2.2.2.1 ?_
        refine s_iconst (v := (nI 1)) hX zcdX10_endsPiece_13.2.2.2.2.1 (by decide) ?_
        refine s_isub hX zcdX10_endsPiece_13.2.2.2.2.2.1 ?_
        refine s_puti (ty := .int) hX fX10_195 oM0 rfl (Nat.le_of_ble_eq_true rfl) ty_10_13 rfl rfl zcdX10_endsPiece_13.2.2.2.2.2.2.1 ?_
        refine e_bndM h (fun M_3 h => ?_)
        refine s_aload_n (k := 0) hX zcdX10_endsPiece_13.2.2.2.2.2.2.2 rfl rfl ?_
        refine s_aload_n (k := 0) hX zcdX10_endsPiece_27.1 rfl rfl ?_
        refine s_get hX fX10_192 oM0 rfl zcdX10_endsPiece_27.2.1 ?_
        refine s_iconst (v := (nI 1)) hX zcdX10_endsPiece_27.2.2.1 (by decide) ?_
        refine s_isub hX zcdX10_endsPiece_27.2.2.2.1 ?_
        refine s_puti (ty := .int) hX fX10_192 oM0 rfl (Nat.le_of_ble_eq_true rfl) ty_10_11 rfl rfl zcdX10_endsPiece_27.2.2.2.2.1 ?_
        refine e_bndM h (fun M_4 h => ?_)
        refine s_goto (tgt := 0) hX zcdX10_endsPiece_27.2.2.2.2.2.1 (by decide) ?_
        exact ih0 M_4 h
  exact lp0 FU M h
set_option maxHeartbeats 4000000 in
theorem t_X10_here (M : Mem) : AXp yX10_here cX10_here 1 (some .int) 0 39 glM (fun ad => [.ref (ad 0)]) M (f_X10_here M) := by
  intro r0 h
  refine AM.of (by decide) (fun _ => Nat.le_of_ble_eq_true rfl) (fun X ad cI cZ cB hX hR => ?_)
  show V X M [(0, .ref (ad 0))] [] 0
  refine s_aload_n (k := 0) hX zcdX10_endsPiece_27.2.2.2.2.2.2.2 rfl rfl ?_
  refine s_get hX fX10_165 oM0 rfl zcdX10_here_1.1 ?_
  refine s_aload_n (k := 0) hX zcdX10_here_1.2.1 rfl rfl ?_
  refine s_get hX fX10_168 oM0 rfl zcdX10_here_1.2.2.1 ?_
  refine e_icmp_ge (tgt := 27) hX zcdX10_here_1.2.2.2.1 (by decide) r_le h (fun h => ?_) (fun h => ?_)
  · refine s_iconst (v := (-1)) hX zcdX10_here_19.2.2.2.2.1 (by decide) ?_
    exact e_iretp hX hR zcdX10_here_19.2.2.2.2.2.1 h
  · refine s_aload_n (k := 0) hX zcdX10_here_1.2.2.2.2.1 rfl rfl ?_
    refine s_get hX fX10_22 oM0 rfl zcdX10_here_1.2.2.2.2.2.1 ?_
    refine s_aload_n (k := 0) hX zcdX10_here_1.2.2.2.2.2.2.1 rfl rfl ?_
    refine s_get hX fX10_165 oM0 rfl zcdX10_here_1.2.2.2.2.2.2.2 ?_
    refine e_bald hX aM5 zcdX10_here_19.1 h (fun h => ?_)
    refine s_sipush (v := (nI 255)) hX zcdX10_here_19.2.1 (by decide) ?_
    refine s_iand hX zcdX10_here_19.2.2.1 ?_
    refine s_goto (tgt := 28) hX zcdX10_here_19.2.2.2.1 (by decide) ?_
    exact e_iretp hX hR zcdX10_here_19.2.2.2.2.2.1 h
set_option maxHeartbeats 4000000 in
theorem t_X10_wrongAt (v1 : Int32) (v2 : Int32) (M : Mem) : AXi yX10_wrongAt cX10_wrongAt 3 (some .boolean) 0 39 glM (fun ad => [.ref (ad 0), .int v1, .int v2]) M (f_X10_wrongAt M v1 v2) := by
  intro r0 h
  refine AM.of (by decide) (fun _ => Nat.le_of_ble_eq_true rfl) (fun X ad cI cZ cB hX hR => ?_)
  show V X M [(0, .ref (ad 0)), (1, .int v1), (2, .int v2)] [] 0
  refine s_aload_n (k := 0) hX zcdX10_here_19.2.2.2.2.2.2.1 rfl rfl ?_
  refine s_sipush (v := (-1000)) hX zcdX10_here_19.2.2.2.2.2.2.2 (by decide) ?_
  refine s_iload_n (k := 1) hX zcdX10_wrongAt_4.1 rfl rfl ?_
  refine s_imul hX zcdX10_wrongAt_4.2.1 ?_
  refine s_iload_n (k := 2) hX zcdX10_wrongAt_4.2.2.1 rfl rfl ?_
  refine s_isub hX zcdX10_wrongAt_4.2.2.2.1 ?_
  refine s_puti (ty := .int) hX fX10_175 oM0 rfl (Nat.le_of_ble_eq_true rfl) ty_10_9 rfl rfl zcdX10_wrongAt_4.2.2.2.2.1 ?_
  refine e_bndM h (fun M_1 h => ?_)
  refine s_iconst (v := (nI 0)) hX zcdX10_wrongAt_4.2.2.2.2.2.1 (by decide) ?_
  exact e_zretiL hX hR zcdX10_wrongAt_4.2.2.2.2.2.2.1 (by decide) h
set_option maxHeartbeats 4000000 in
theorem t_X10_endsRound (M : Mem) : AXi yX10_endsRound cX10_endsRound 4 (some .boolean) 1 39 glM (fun ad => [.ref (ad 0)]) M (f_X10_endsRound M) := by
  intro r0 h
  refine AM.of (by decide) (fun _ => Nat.le_of_ble_eq_true rfl) (fun X ad cI cZ cB hX hR => ?_)
  show V X M [(0, .ref (ad 0))] [] 0
  refine s_aload_n (k := 0) hX zcdX10_wrongAt_4.2.2.2.2.2.2.2 rfl rfl ?_
  refine s_aload_n (k := 0) hX zcdX10_endsRound_1.1 rfl rfl ?_
  refine s_get hX fX10_165 oM0 rfl zcdX10_endsRound_1.2.1 ?_
  refine s_iconst (v := (nI 1)) hX zcdX10_endsRound_1.2.2.1 (by decide) ?_
  refine s_iadd hX zcdX10_endsRound_1.2.2.2.1 ?_
  refine s_puti (ty := .int) hX fX10_165 oM0 rfl (Nat.le_of_ble_eq_true rfl) ty_10_7 rfl rfl zcdX10_endsRound_1.2.2.2.2.1 ?_
  refine e_bndM h (fun M_1 h => ?_)
  refine s_iconst (v := (nI 1)) hX zcdX10_endsRound_1.2.2.2.2.2.1 (by decide) ?_
  refine s_istore_n (lv' := [(0, .ref (ad 0)), (1, .int (nI 1))]) hX zcdX10_endsRound_1.2.2.2.2.2.2.1 rfl (by decide) rfl ?_
  refine s_aload_n (k := 0) hX zcdX10_endsRound_1.2.2.2.2.2.2.2 rfl rfl ?_
  refine e_callVp hX (t_X10_here M_1) mX10_here lX10_171 (by decide) (by decide) oM0 rfl rfl rfl rfl rfl (Nat.le_of_ble_eq_true rfl) zcdX10_endsRound_13.1 h (fun r_2 h => ?_)
  refine s_bipush (v := (nI 120)) hX zcdX10_endsRound_13.2.1 (by decide) ?_
  have j73 : ∀ (N73 : Mem) (z1_73 : Int32), f_X10_endsRound_L73 N73 z1_73 = some r0 → V X N73 [(0, .ref (ad 0)), (1, .int z1_73)] [] 73 := by
    intro N73 z1_73 h
    refine s_aload_n (k := 0) hX zcdX10_endsRound_73.1 rfl rfl ?_
    refine s_aload_n (k := 0) hX zcdX10_endsRound_73.2.1 rfl rfl ?_
    refine s_get hX fX10_362 oM0 rfl zcdX10_endsRound_73.2.2.1 ?_
    refine s_iconst (v := (nI 1)) hX zcdX10_endsRound_73.2.2.2.1 (by decide) ?_
    refine s_isub hX zcdX10_endsRound_73.2.2.2.2.1 ?_
    refine s_puti (ty := .int) hX fX10_362 oM0 rfl (Nat.le_of_ble_eq_true rfl) ty_10_50 rfl rfl zcdX10_endsRound_73.2.2.2.2.2.1 ?_
    refine e_bndM h (fun M_3 h => ?_)
    refine s_aload_n (k := 0) hX zcdX10_endsRound_73.2.2.2.2.2.2.1 rfl rfl ?_
    refine s_get hX fX10_359 oM0 rfl zcdX10_endsRound_73.2.2.2.2.2.2.2 ?_
    refine s_aload_n (k := 0) hX zcdX10_endsRound_87.1 rfl rfl ?_
    refine s_get hX fX10_113 oM0 rfl zcdX10_endsRound_87.2.1 ?_
    refine s_aload_n (k := 0) hX zcdX10_endsRound_87.2.2.1 rfl rfl ?_
    refine s_get hX fX10_362 oM0 rfl zcdX10_endsRound_87.2.2.2.1 ?_
    refine e_iald hX aM35 zcdX10_endsRound_87.2.2.2.2.1 h (fun h => ?_)
    refine s_isub hX zcdX10_endsRound_87.2.2.2.2.2.1 ?_
    refine e_bnd h (fun x_4 h => ?_)
    refine s_istore_n (lv' := [(0, .ref (ad 0)), (1, .int z1_73), (2, .int x_4)]) hX zcdX10_endsRound_87.2.2.2.2.2.2.1 rfl (by decide) rfl ?_
    refine s_aload_n (k := 0) hX zcdX10_endsRound_87.2.2.2.2.2.2.2 rfl rfl ?_
    refine s_get hX fX10_113 oM0 rfl zcdX10_endsRound_99.1 ?_
    refine s_aload_n (k := 0) hX zcdX10_endsRound_99.2.1 rfl rfl ?_
    refine s_get hX fX10_362 oM0 rfl zcdX10_endsRound_99.2.2.1 ?_
    refine e_iald hX aM35 zcdX10_endsRound_99.2.2.2.1 h (fun h => ?_)
    refine s_iload_n (k := 2) hX zcdX10_endsRound_99.2.2.2.2.1 rfl rfl ?_
    refine s_iload_n (k := 1) hX zcdX10_endsRound_99.2.2.2.2.2.1 rfl rfl ?_
    refine s_imul hX zcdX10_endsRound_99.2.2.2.2.2.2.1 ?_
    refine s_iadd hX zcdX10_endsRound_99.2.2.2.2.2.2.2 ?_
    refine s_bipush (v := (nI 60)) hX zcdX10_endsRound_111.1 (by decide) ?_
    refine e_icmp_le (tgt := 132) hX zcdX10_endsRound_111.2.1 (by decide) (m_le (by decide +kernel)) h (fun h => ?_) (fun h => ?_)
    · refine s_iload_n (k := 2) hX zcdX10_endsRound_127.2.2.2.1 rfl rfl ?_
      refine s_istore_n (lv' := [(0, .ref (ad 0)), (1, .int z1_73), (2, .int x_4), (3, .int x_4)]) hX zcdX10_endsRound_127.2.2.2.2.1 rfl (by decide) rfl ?_
      have lp134 : ∀ (N134 : Nat) (M134 : Mem) (y3_134 : Int32), wlp2 (f_X10_endsRound_B134 z1_73 x_4) N134 M134 y3_134 = some r0 → V X M134 [(0, .ref (ad 0)), (1, .int z1_73), (2, .int x_4), (3, .int y3_134)] [] 134 := by
        intro N134
        induction N134 with
        | zero => exact fun _ _ h => e_none h
        | succ N134 ih134 =>
          intro M134 y3_134 h
          replace h : f_X10_endsRound_B134 z1_73 x_4 (wlp2 (f_X10_endsRound_B134 z1_73 x_4) N134) M134 y3_134 = some r0 := h
          generalize wlp2 (f_X10_endsRound_B134 z1_73 x_4) N134 = ag134 at ih134 h
          refine s_iload_n (k := 3) hX zcdX10_endsRound_127.2.2.2.2.2.1 rfl rfl ?_
          refine s_iload_n (k := 2) hX zcdX10_endsRound_127.2.2.2.2.2.2.1 rfl rfl ?_
          refine s_iload_n (k := 1) hX zcdX10_endsRound_127.2.2.2.2.2.2.2 rfl rfl ?_
          refine s_imul hX zcdX10_endsRound_137.1 ?_
          have j215 : f_X10_endsRound_L215 z1_73 x_4 M134 = some r0 → V X M134 [(0, .ref (ad 0)), (1, .int z1_73), (2, .int x_4)] [] 215 := by
            intro  h
            refine s_aload_n (k := 0) hX zcdX10_endsRound_215.1 rfl rfl ?_
            refine s_aload_n (k := 0) hX zcdX10_endsRound_215.2.1 rfl rfl ?_
            refine s_get hX fX10_113 oM0 rfl zcdX10_endsRound_215.2.2.1 ?_
            refine s_aload_n (k := 0) hX zcdX10_endsRound_215.2.2.2.1 rfl rfl ?_
            refine s_get hX fX10_362 oM0 rfl zcdX10_endsRound_215.2.2.2.2.1 ?_
            refine e_iald hX aM35 zcdX10_endsRound_215.2.2.2.2.2.1 h (fun h => ?_)
            refine s_iload_n (k := 2) hX zcdX10_endsRound_215.2.2.2.2.2.2.1 rfl rfl ?_
            refine s_iload_n (k := 1) hX zcdX10_endsRound_215.2.2.2.2.2.2.2 rfl rfl ?_
            refine s_imul hX zcdX10_endsRound_227.1 ?_
            refine s_iadd hX zcdX10_endsRound_227.2.1 ?_
            refine s_puti (ty := .int) hX fX10_359 oM0 rfl (Nat.le_of_ble_eq_true rfl) ty_10_49 rfl rfl zcdX10_endsRound_227.2.2.1 ?_
            refine e_bndM h (fun M_5 h => ?_)
            refine s_iconst (v := (nI 1)) hX zcdX10_endsRound_227.2.2.2.1 (by decide) ?_
            exact e_zretiL hX hR zcdX10_endsRound_227.2.2.2.2.1 (by decide) h
          refine e_icmp_ge (tgt := 215) hX zcdX10_endsRound_137.2.1 (by decide) r_le h (fun h => ?_) (fun h => ?_)
          · refine s_loc [0, 1, 2] rfl ?_
            exact j215 h
          · refine s_aload_n (k := 0) hX zcdX10_endsRound_137.2.2.1 rfl rfl ?_
            refine s_get hX fX10_104 oM0 rfl zcdX10_endsRound_137.2.2.2.1 ?_
            refine s_aload_n (k := 0) hX zcdX10_endsRound_137.2.2.2.2.1 rfl rfl ?_
            refine s_get hX fX10_113 oM0 rfl zcdX10_endsRound_137.2.2.2.2.2.1 ?_
            refine s_aload_n (k := 0) hX zcdX10_endsRound_137.2.2.2.2.2.2.1 rfl rfl ?_
            refine s_get hX fX10_362 oM0 rfl zcdX10_endsRound_137.2.2.2.2.2.2.2 ?_
            refine e_iald hX aM35 zcdX10_endsRound_153.1 h (fun h => ?_)
            refine s_iload_n (k := 3) hX zcdX10_endsRound_153.2.1 rfl rfl ?_
            refine s_iadd hX zcdX10_endsRound_153.2.2.1 ?_
            refine s_aload_n (k := 0) hX zcdX10_endsRound_153.2.2.2.1 rfl rfl ?_
            refine s_get hX fX10_104 oM0 rfl zcdX10_endsRound_153.2.2.2.2.1 ?_
            refine s_aload_n (k := 0) hX zcdX10_endsRound_153.2.2.2.2.2.1 rfl rfl ?_
            refine s_get hX fX10_113 oM0 rfl zcdX10_endsRound_153.2.2.2.2.2.2.1 ?_
            refine s_aload_n (k := 0) hX zcdX10_endsRound_153.2.2.2.2.2.2.2 rfl rfl ?_
            refine s_get hX fX10_362 oM0 rfl zcdX10_endsRound_165.1 ?_
            refine e_iald hX aM35 zcdX10_endsRound_165.2.1 h (fun h => ?_)
            refine s_iload_n (k := 3) hX zcdX10_endsRound_165.2.2.1 rfl rfl ?_
            refine s_iadd hX zcdX10_endsRound_165.2.2.2.1 ?_
            refine s_iload_n (k := 2) hX zcdX10_endsRound_165.2.2.2.2.1 rfl rfl ?_
            refine s_isub hX zcdX10_endsRound_165.2.2.2.2.2.1 ?_
            refine e_iald hX aM32 zcdX10_endsRound_165.2.2.2.2.2.2.1 h (fun h => ?_)
            refine e_iast hX aM32 zcdX10_endsRound_165.2.2.2.2.2.2.2 h (fun h => ?_)
            refine e_bndM h (fun M_6 h => ?_)
            refine s_aload_n (k := 0) hX zcdX10_endsRound_175.1 rfl rfl ?_
            refine s_get hX fX10_107 oM0 rfl zcdX10_endsRound_175.2.1 ?_
            refine s_aload_n (k := 0) hX zcdX10_endsRound_175.2.2.1 rfl rfl ?_
            refine s_get hX fX10_113 oM0 rfl zcdX10_endsRound_175.2.2.2.1 ?_
            refine s_aload_n (k := 0) hX zcdX10_endsRound_175.2.2.2.2.1 rfl rfl ?_
            refine s_get hX fX10_362 oM0 rfl zcdX10_endsRound_175.2.2.2.2.2.1 ?_
            refine e_iald hX aM35 zcdX10_endsRound_175.2.2.2.2.2.2.1 h (fun h => ?_)
            refine s_iload_n (k := 3) hX zcdX10_endsRound_175.2.2.2.2.2.2.2 rfl rfl ?_
            refine s_iadd hX zcdX10_endsRound_189.1 ?_
            refine s_aload_n (k := 0) hX zcdX10_endsRound_189.2.1 rfl rfl ?_
            refine s_get hX fX10_107 oM0 rfl zcdX10_endsRound_189.2.2.1 ?_
            refine s_aload_n (k := 0) hX zcdX10_endsRound_189.2.2.2.1 rfl rfl ?_
            refine s_get hX fX10_113 oM0 rfl zcdX10_endsRound_189.2.2.2.2.1 ?_
            refine s_aload_n (k := 0) hX zcdX10_endsRound_189.2.2.2.2.2.1 rfl rfl ?_
            refine s_get hX fX10_362 oM0 rfl zcdX10_endsRound_189.2.2.2.2.2.2.1 ?_
            refine e_iald hX aM35 zcdX10_endsRound_189.2.2.2.2.2.2.2 h (fun h => ?_)
            refine s_iload_n (k := 3) hX zcdX10_endsRound_203.1 rfl rfl ?_
            refine s_iadd hX zcdX10_endsRound_203.2.1 ?_
            refine s_iload_n (k := 2) hX zcdX10_endsRound_203.2.2.1 rfl rfl ?_
            refine s_isub hX zcdX10_endsRound_203.2.2.2.1 ?_
            refine e_iald hX aM33 zcdX10_endsRound_203.2.2.2.2.1 h (fun h => ?_)
            refine e_iast hX aM33 zcdX10_endsRound_203.2.2.2.2.2.1 h (fun h => ?_)
            refine e_bndM h (fun M_7 h => ?_)
            refine s_iinc (k := 3) (v := (y3_134 + (nI 1))) (lv' := [(0, .ref (ad 0)), (1, .int z1_73), (2, .int x_4), (3, .int (y3_134 + (nI 1)))]) hX zcdX10_endsRound_203.2.2.2.2.2.2.1 (congrArg (fun z => y3_134 + z) (by decide)) (by decide) rfl rfl ?_
            refine s_goto (tgt := 134) hX zcdX10_endsRound_203.2.2.2.2.2.2.2 (by decide) ?_
            exact ih134 M_7 (y3_134 + (nI 1)) h
      exact lp134 FU M_3 x_4 h
    · refine s_aload_n (k := 0) hX zcdX10_endsRound_111.2.2.1 rfl rfl ?_
      refine s_bipush (v := (nI 6)) hX zcdX10_endsRound_111.2.2.2.1 (by decide) ?_
      refine s_aload_n (k := 0) hX zcdX10_endsRound_111.2.2.2.2.1 rfl rfl ?_
      refine s_get hX fX10_110 oM0 rfl zcdX10_endsRound_111.2.2.2.2.2.1 ?_
      refine s_aload_n (k := 0) hX zcdX10_endsRound_111.2.2.2.2.2.2.1 rfl rfl ?_
      refine s_get hX fX10_362 oM0 rfl zcdX10_endsRound_111.2.2.2.2.2.2.2 ?_
      refine e_iald hX aM34 zcdX10_endsRound_127.1 h (fun h => ?_)
      refine e_callVi hX (t_X10_wrongAt (nI 6) (M_3 34 (ix (M_3 0 50))) M_3) mX10_wrongAt lX10_178 (by decide) (by decide) oM0 rfl rfl rfl rfl rfl (Nat.le_of_ble_eq_true rfl) zcdX10_endsRound_127.2.1 h (fun r_8 M_9 h => ?_)
      exact e_zreti hX hR zcdX10_endsRound_127.2.2.1 h
  refine e_icmp_ne (tgt := 73) hX zcdX10_endsRound_13.2.2.1 (by decide) (m_eq (by decide +kernel)) h (fun h => ?_) (fun h => ?_)
  · exact j73 M_1 (nI 1) h
  · refine s_aload_n (k := 0) hX zcdX10_endsRound_13.2.2.2.1 rfl rfl ?_
    refine s_aload_n (k := 0) hX zcdX10_endsRound_13.2.2.2.2.1 rfl rfl ?_
    refine s_get hX fX10_165 oM0 rfl zcdX10_endsRound_13.2.2.2.2.2.1 ?_
    refine s_iconst (v := (nI 1)) hX zcdX10_endsRound_13.2.2.2.2.2.2.1 (by decide) ?_
    refine s_iadd hX zcdX10_endsRound_13.2.2.2.2.2.2.2 ?_
    refine s_puti (ty := .int) hX fX10_165 oM0 rfl (Nat.le_of_ble_eq_true rfl) ty_10_7 rfl rfl zcdX10_endsRound_28.1 ?_
    refine e_bndM h (fun M_10 h => ?_)
    refine s_aload_n (k := 0) hX zcdX10_endsRound_28.2.1 rfl rfl ?_
    refine e_callVp hX (t_X10_here M_10) mX10_here lX10_171 (by decide) (by decide) oM0 rfl rfl rfl rfl rfl (Nat.le_of_ble_eq_true rfl) zcdX10_endsRound_28.2.2.1 h (fun r_11 h => ?_)
    refine s_bipush (v := (nI 50)) hX zcdX10_endsRound_28.2.2.2.1 (by decide) ?_
    refine s_bipush (v := (nI 57)) hX zcdX10_endsRound_28.2.2.2.2.1 (by decide) ?_
    refine e_callSp hX (t_X10_in r_11 (nI 50) (nI 57) M_10) mX10_in lX10_132 (by decide) (by decide) rfl rfl (Nat.le_of_ble_eq_true rfl) zcdX10_endsRound_28.2.2.2.2.2.1 h (fun r_12 h => ?_)
    refine e_if_ne (tgt := 55) hX zcdX10_endsRound_28.2.2.2.2.2.2.1 (by decide) z_eq h (fun h => ?_) (fun h => ?_)
    · refine s_aload_n (k := 0) hX zcdX10_endsRound_46.2.2.2.2.2.1 rfl rfl ?_
      refine e_callVp hX (t_X10_here M_10) mX10_here lX10_171 (by decide) (by decide) oM0 rfl rfl rfl rfl rfl (Nat.le_of_ble_eq_true rfl) zcdX10_endsRound_46.2.2.2.2.2.2.1 h (fun r_13 h => ?_)
      refine s_bipush (v := (nI 48)) hX zcdX10_endsRound_46.2.2.2.2.2.2.2 (by decide) ?_
      refine s_isub hX zcdX10_endsRound_61.1 ?_
      refine s_istore_n (lv' := [(0, .ref (ad 0)), (1, .int (r_13 - (nI 48)))]) hX zcdX10_endsRound_61.2.1 rfl (by decide) rfl ?_
      refine s_aload_n (k := 0) hX zcdX10_endsRound_61.2.2.1 rfl rfl ?_
      refine s_aload_n (k := 0) hX zcdX10_endsRound_61.2.2.2.1 rfl rfl ?_
      refine s_get hX fX10_165 oM0 rfl zcdX10_endsRound_61.2.2.2.2.1 ?_
      refine s_iconst (v := (nI 1)) hX zcdX10_endsRound_61.2.2.2.2.2.1 (by decide) ?_
      refine s_iadd hX zcdX10_endsRound_61.2.2.2.2.2.2.1 ?_
      refine s_puti (ty := .int) hX fX10_165 oM0 rfl (Nat.le_of_ble_eq_true rfl) ty_10_7 rfl rfl zcdX10_endsRound_61.2.2.2.2.2.2.2 ?_
      refine e_bndM h (fun M_14 h => ?_)
      exact j73 M_14 (r_13 - (nI 48)) h
    · refine s_aload_n (k := 0) hX zcdX10_endsRound_28.2.2.2.2.2.2.2 rfl rfl ?_
      refine s_iconst (v := (nI 1)) hX zcdX10_endsRound_46.1 (by decide) ?_
      refine s_aload_n (k := 0) hX zcdX10_endsRound_46.2.1 rfl rfl ?_
      refine s_get hX fX10_165 oM0 rfl zcdX10_endsRound_46.2.2.1 ?_
      refine e_callVi hX (t_X10_wrongAt (nI 1) (M_10 0 7) M_10) mX10_wrongAt lX10_178 (by decide) (by decide) oM0 rfl rfl rfl rfl rfl (Nat.le_of_ble_eq_true rfl) zcdX10_endsRound_46.2.2.2.1 h (fun r_15 M_16 h => ?_)
      exact e_zreti hX hR zcdX10_endsRound_46.2.2.2.2.1 h
set_option maxHeartbeats 4000000 in
theorem t_X10_factOf (v0 : Int32) (M : Mem) : AXp yX10_factOf cX10_factOf 1 (some .int) 0 39 glM (fun ad => [.int v0]) M (f_X10_factOf v0) := by
  intro r0 h
  refine AM.of (by decide) (fun _ => Nat.le_of_ble_eq_true rfl) (fun X ad cI cZ cB hX hR => ?_)
  show V X M [(0, .int v0)] [] 0
  refine s_iload_n (k := 0) hX zcdX10_endsRound_227.2.2.2.2.2.1 rfl rfl ?_
  refine e_if h (fun c101 h => ?_) (fun c101 h => ?_)
  · refine s_tabIn (tgt := 108) (off := 107) hX zcdX10_endsRound_227.2.2.2.2.2.2.1 (by omega) (by omega) (by rw [c101]; rfl) (by decide) ?_
    refine s_iconst (v := (nI 4)) hX zcdX10_factOf_101.2.2.2.2.2.2.2 (by decide) ?_
    exact e_iretp hX hR zcdX10_factOf_109.1 h
  refine e_if h (fun c103 h => ?_) (fun c103 h => ?_)
  · refine s_tabIn (tgt := 115) (off := 114) hX zcdX10_endsRound_227.2.2.2.2.2.2.1 (by omega) (by omega) (by rw [c103]; rfl) (by decide) ?_
    refine s_bipush (v := (nI 7)) hX zcdX10_factOf_109.2.2.2.2.2.1 (by decide) ?_
    exact e_iretp hX hR zcdX10_factOf_109.2.2.2.2.2.2.1 h
  refine e_if h (fun c105 h => ?_) (fun c105 h => ?_)
  · refine s_tabIn (tgt := 100) (off := 99) hX zcdX10_endsRound_227.2.2.2.2.2.2.1 (by omega) (by omega) (by rw [c105]; rfl) (by decide) ?_
    refine s_iconst (v := (nI 0)) hX zcdX10_endsRound_227.2.2.2.2.2.2.2 (by decide) ?_
    exact e_iretp hX hR zcdX10_factOf_101.1 h
  refine e_if h (fun c110 h => ?_) (fun c110 h => ?_)
  · refine s_tabIn (tgt := 110) (off := 109) hX zcdX10_endsRound_227.2.2.2.2.2.2.1 (by omega) (by omega) (by rw [c110]; rfl) (by decide) ?_
    refine s_iconst (v := (nI 5)) hX zcdX10_factOf_109.2.1 (by decide) ?_
    exact e_iretp hX hR zcdX10_factOf_109.2.2.1 h
  refine e_if h (fun c114 h => ?_) (fun c114 h => ?_)
  · refine s_tabIn (tgt := 112) (off := 111) hX zcdX10_endsRound_227.2.2.2.2.2.2.1 (by omega) (by omega) (by rw [c114]; rfl) (by decide) ?_
    refine s_bipush (v := (nI 6)) hX zcdX10_factOf_109.2.2.2.1 (by decide) ?_
    exact e_iretp hX hR zcdX10_factOf_109.2.2.2.2.1 h
  refine e_if h (fun c115 h => ?_) (fun c115 h => ?_)
  · refine s_tabIn (tgt := 106) (off := 105) hX zcdX10_endsRound_227.2.2.2.2.2.2.1 (by omega) (by omega) (by rw [c115]; rfl) (by decide) ?_
    refine s_iconst (v := (nI 3)) hX zcdX10_factOf_101.2.2.2.2.2.1 (by decide) ?_
    exact e_iretp hX hR zcdX10_factOf_101.2.2.2.2.2.2.1 h
  refine e_if h (fun c120 h => ?_) (fun c120 h => ?_)
  · refine s_tabIn (tgt := 102) (off := 101) hX zcdX10_endsRound_227.2.2.2.2.2.2.1 (by omega) (by omega) (by rw [c120]; rfl) (by decide) ?_
    refine s_iconst (v := (nI 1)) hX zcdX10_factOf_101.2.1 (by decide) ?_
    exact e_iretp hX hR zcdX10_factOf_101.2.2.1 h
  refine e_if h (fun c121 h => ?_) (fun c121 h => ?_)
  · refine s_tabIn (tgt := 104) (off := 103) hX zcdX10_endsRound_227.2.2.2.2.2.2.1 (by omega) (by omega) (by rw [c121]; rfl) (by decide) ?_
    refine s_iconst (v := (nI 2)) hX zcdX10_factOf_101.2.2.2.1 (by decide) ?_
    exact e_iretp hX hR zcdX10_factOf_101.2.2.2.2.1 h
  by_cases c102 : v0.toInt = 102
  · refine s_tabIn (tgt := 118) (off := 117) hX zcdX10_endsRound_227.2.2.2.2.2.2.1 (by omega) (by omega) (by rw [c102]; rfl) (by decide) ?_
    refine s_iconst (v := (-1)) hX zcdX10_factOf_109.2.2.2.2.2.2.2 (by decide) ?_
    exact e_iretp hX hR zcdX10_factOf_119.1 h
  by_cases c104 : v0.toInt = 104
  · refine s_tabIn (tgt := 118) (off := 117) hX zcdX10_endsRound_227.2.2.2.2.2.2.1 (by omega) (by omega) (by rw [c104]; rfl) (by decide) ?_
    refine s_iconst (v := (-1)) hX zcdX10_factOf_109.2.2.2.2.2.2.2 (by decide) ?_
    exact e_iretp hX hR zcdX10_factOf_119.1 h
  by_cases c106 : v0.toInt = 106
  · refine s_tabIn (tgt := 118) (off := 117) hX zcdX10_endsRound_227.2.2.2.2.2.2.1 (by omega) (by omega) (by rw [c106]; rfl) (by decide) ?_
    refine s_iconst (v := (-1)) hX zcdX10_factOf_109.2.2.2.2.2.2.2 (by decide) ?_
    exact e_iretp hX hR zcdX10_factOf_119.1 h
  by_cases c107 : v0.toInt = 107
  · refine s_tabIn (tgt := 118) (off := 117) hX zcdX10_endsRound_227.2.2.2.2.2.2.1 (by omega) (by omega) (by rw [c107]; rfl) (by decide) ?_
    refine s_iconst (v := (-1)) hX zcdX10_factOf_109.2.2.2.2.2.2.2 (by decide) ?_
    exact e_iretp hX hR zcdX10_factOf_119.1 h
  by_cases c108 : v0.toInt = 108
  · refine s_tabIn (tgt := 118) (off := 117) hX zcdX10_endsRound_227.2.2.2.2.2.2.1 (by omega) (by omega) (by rw [c108]; rfl) (by decide) ?_
    refine s_iconst (v := (-1)) hX zcdX10_factOf_109.2.2.2.2.2.2.2 (by decide) ?_
    exact e_iretp hX hR zcdX10_factOf_119.1 h
  by_cases c109 : v0.toInt = 109
  · refine s_tabIn (tgt := 118) (off := 117) hX zcdX10_endsRound_227.2.2.2.2.2.2.1 (by omega) (by omega) (by rw [c109]; rfl) (by decide) ?_
    refine s_iconst (v := (-1)) hX zcdX10_factOf_109.2.2.2.2.2.2.2 (by decide) ?_
    exact e_iretp hX hR zcdX10_factOf_119.1 h
  by_cases c111 : v0.toInt = 111
  · refine s_tabIn (tgt := 118) (off := 117) hX zcdX10_endsRound_227.2.2.2.2.2.2.1 (by omega) (by omega) (by rw [c111]; rfl) (by decide) ?_
    refine s_iconst (v := (-1)) hX zcdX10_factOf_109.2.2.2.2.2.2.2 (by decide) ?_
    exact e_iretp hX hR zcdX10_factOf_119.1 h
  by_cases c112 : v0.toInt = 112
  · refine s_tabIn (tgt := 118) (off := 117) hX zcdX10_endsRound_227.2.2.2.2.2.2.1 (by omega) (by omega) (by rw [c112]; rfl) (by decide) ?_
    refine s_iconst (v := (-1)) hX zcdX10_factOf_109.2.2.2.2.2.2.2 (by decide) ?_
    exact e_iretp hX hR zcdX10_factOf_119.1 h
  by_cases c113 : v0.toInt = 113
  · refine s_tabIn (tgt := 118) (off := 117) hX zcdX10_endsRound_227.2.2.2.2.2.2.1 (by omega) (by omega) (by rw [c113]; rfl) (by decide) ?_
    refine s_iconst (v := (-1)) hX zcdX10_factOf_109.2.2.2.2.2.2.2 (by decide) ?_
    exact e_iretp hX hR zcdX10_factOf_119.1 h
  by_cases c116 : v0.toInt = 116
  · refine s_tabIn (tgt := 118) (off := 117) hX zcdX10_endsRound_227.2.2.2.2.2.2.1 (by omega) (by omega) (by rw [c116]; rfl) (by decide) ?_
    refine s_iconst (v := (-1)) hX zcdX10_factOf_109.2.2.2.2.2.2.2 (by decide) ?_
    exact e_iretp hX hR zcdX10_factOf_119.1 h
  by_cases c117 : v0.toInt = 117
  · refine s_tabIn (tgt := 118) (off := 117) hX zcdX10_endsRound_227.2.2.2.2.2.2.1 (by omega) (by omega) (by rw [c117]; rfl) (by decide) ?_
    refine s_iconst (v := (-1)) hX zcdX10_factOf_109.2.2.2.2.2.2.2 (by decide) ?_
    exact e_iretp hX hR zcdX10_factOf_119.1 h
  by_cases c118 : v0.toInt = 118
  · refine s_tabIn (tgt := 118) (off := 117) hX zcdX10_endsRound_227.2.2.2.2.2.2.1 (by omega) (by omega) (by rw [c118]; rfl) (by decide) ?_
    refine s_iconst (v := (-1)) hX zcdX10_factOf_109.2.2.2.2.2.2.2 (by decide) ?_
    exact e_iretp hX hR zcdX10_factOf_119.1 h
  by_cases c119 : v0.toInt = 119
  · refine s_tabIn (tgt := 118) (off := 117) hX zcdX10_endsRound_227.2.2.2.2.2.2.1 (by omega) (by omega) (by rw [c119]; rfl) (by decide) ?_
    refine s_iconst (v := (-1)) hX zcdX10_factOf_109.2.2.2.2.2.2.2 (by decide) ?_
    exact e_iretp hX hR zcdX10_factOf_119.1 h
  refine s_tabOut (tgt := 118) hX zcdX10_endsRound_227.2.2.2.2.2.2.1 (by omega) (by decide) ?_
  refine s_iconst (v := (-1)) hX zcdX10_factOf_109.2.2.2.2.2.2.2 (by decide) ?_
  exact e_iretp hX hR zcdX10_factOf_119.1 h
set_option maxHeartbeats 4000000 in
theorem t_X10_types (v1 : Int32) (M : Mem) : AXv yX10_types cX10_types 3 none 0 39 glM (fun ad => [.ref (ad 0), .int v1]) M (f_X10_types M v1) := by
  intro r0 h
  refine AM.of (by decide) (fun _ => Nat.le_of_ble_eq_true rfl) (fun X ad cI cZ cB hX hR => ?_)
  show V X M [(0, .ref (ad 0)), (1, .int v1)] [] 0
  refine s_iconst (v := (nI 3)) hX zcdX10_factOf_119.2.1 (by decide) ?_
  refine s_istore_n (lv' := [(0, .ref (ad 0)), (1, .int v1), (2, .int (nI 3))]) hX zcdX10_factOf_119.2.2.1 rfl (by decide) rfl ?_
  have lp2 : ∀ (N2 : Nat) (M2 : Mem) (y2_2 : Int32), wlp2 (f_X10_types_B2 v1) N2 M2 y2_2 = some r0 → V X M2 [(0, .ref (ad 0)), (1, .int v1), (2, .int y2_2)] [] 2 := by
    intro N2
    induction N2 with
    | zero => exact fun _ _ h => e_none h
    | succ N2 ih2 =>
      intro M2 y2_2 h
      replace h : f_X10_types_B2 v1 (wlp2 (f_X10_types_B2 v1) N2) M2 y2_2 = some r0 := h
      generalize wlp2 (f_X10_types_B2 v1) N2 = ag2 at ih2 h
      refine s_iload_n (k := 2) hX zcdX10_factOf_119.2.2.2.1 rfl rfl ?_
      refine e_if_lt (tgt := 38) hX zcdX10_factOf_119.2.2.2.2.1 (by decide) z_lt h (fun h => ?_) (fun h => ?_)
      · exact e_vret hX hR zcdX10_types_38.1 h
      · refine s_aload_n (k := 0) hX zcdX10_factOf_119.2.2.2.2.2.1 rfl rfl ?_
        refine s_get hX fX10_22 oM0 rfl zcdX10_factOf_119.2.2.2.2.2.2.1 ?_
        refine s_aload_n (k := 0) hX zcdX10_factOf_119.2.2.2.2.2.2.2 rfl rfl ?_
        refine s_get hX fX10_158 oM0 rfl zcdX10_types_11.1 ?_
        refine s_iload_n (k := 1) hX zcdX10_types_11.2.1 rfl rfl ?_
        refine s_bipush (v := (nI 8)) hX zcdX10_types_11.2.2.1 (by decide) ?_
        refine s_iload_n (k := 2) hX zcdX10_types_11.2.2.2.1 rfl rfl ?_
        refine s_imul hX zcdX10_types_11.2.2.2.2.1 ?_
        refine e_ishr hX zcdX10_types_11.2.2.2.2.2.1 ?_
        refine s_i2b (v := i2b (shr v1 ((nI 8) * y2_2))) hX zcdX10_types_11.2.2.2.2.2.2.1 rfl ?_
        refine e_bast hX aM5 zcdX10_types_11.2.2.2.2.2.2.2 h (fun h => ?_)
        refine e_bndM h (fun M_1 h => ?_)
        refine s_aload_n (k := 0) hX zcdX10_types_22.1 rfl rfl ?_
        refine s_aload_n (k := 0) hX zcdX10_types_22.2.1 rfl rfl ?_
        refine s_get hX fX10_158 oM0 rfl zcdX10_types_22.2.2.1 ?_
        refine s_iconst (v := (nI 1)) hX zcdX10_types_22.2.2.2.1 (by decide) ?_
        refine s_iadd hX zcdX10_types_22.2.2.2.2.1 ?_
        refine s_puti (ty := .int) hX fX10_158 oM0 rfl (Nat.le_of_ble_eq_true rfl) ty_10_6 rfl rfl zcdX10_types_22.2.2.2.2.2.1 ?_
        refine e_bndM h (fun M_2 h => ?_)
        refine s_iinc (k := 2) (v := (y2_2 + (-1))) (lv' := [(0, .ref (ad 0)), (1, .int v1), (2, .int (y2_2 + (-1)))]) hX zcdX10_types_22.2.2.2.2.2.2.1 (congrArg (fun z => y2_2 + z) (by decide)) (by decide) rfl rfl ?_
        refine s_goto (tgt := 2) hX zcdX10_types_22.2.2.2.2.2.2.2 (by decide) ?_
        exact ih2 M_2 (y2_2 + (-1)) h
  exact lp2 FU M (nI 3) h
set_option maxHeartbeats 4000000 in
theorem t_X10_feed (v1 : Int32) (v2 : Int32) (v3 : Int32) (v4 : Int32) (v5 : Int32) (M : Mem) : AXi yX10_feed cX10_feed 6 (some .int) 1 39 glM (fun ad => [.ref (ad 0), .int v1, .int v2, .int v3, .int v4, .int v5]) M (f_X10_feed M v1 v2 v3 v4 v5) := by
  intro r0 h
  refine AM.of (by decide) (fun _ => Nat.le_of_ble_eq_true rfl) (fun X ad cI cZ cB hX hR => ?_)
  show V X M [(0, .ref (ad 0)), (1, .int v1), (2, .int v2), (3, .int v3), (4, .int v4), (5, .int v5)] [] 0
  refine s_aload_n (k := 0) hX zcdX10_types_38.2.1 rfl rfl ?_
  refine s_get hX fX10_158 oM0 rfl zcdX10_types_38.2.2.1 ?_
  refine s_bipush (v := (nI 20)) hX zcdX10_types_38.2.2.2.1 (by decide) ?_
  refine s_iadd hX zcdX10_types_38.2.2.2.2.1 ?_
  refine s_sipush (v := (nI 260)) hX zcdX10_types_38.2.2.2.2.2.1 (by decide) ?_
  refine e_icmp_le (tgt := 15) hX zcdX10_types_38.2.2.2.2.2.2.1 (by decide) (m_le (by decide +kernel)) h (fun h => ?_) (fun h => ?_)
  · refine s_aload_n (k := 0) hX zcdX10_feed_14.2.1 rfl rfl ?_
    refine s_iload_n (k := 1) hX zcdX10_feed_14.2.2.1 rfl rfl ?_
    refine e_callVv hX (t_X10_types v1 M) mX10_types lX10_161 (by decide) (by decide) oM0 rfl rfl rfl rfl rfl (Nat.le_of_ble_eq_true rfl) zcdX10_feed_14.2.2.2.1 h (fun M_1 h => ?_)
    refine s_aload_n (k := 0) hX zcdX10_feed_14.2.2.2.2.1 rfl rfl ?_
    refine s_iload_n (k := 2) hX zcdX10_feed_14.2.2.2.2.2.1 rfl rfl ?_
    refine e_callVv hX (t_X10_types v2 M_1) mX10_types lX10_161 (by decide) (by decide) oM0 rfl rfl rfl rfl rfl (Nat.le_of_ble_eq_true rfl) zcdX10_feed_14.2.2.2.2.2.2.1 h (fun M_2 h => ?_)
    refine s_aload_n (k := 0) hX zcdX10_feed_14.2.2.2.2.2.2.2 rfl rfl ?_
    refine s_iload_n (k := 3) hX zcdX10_feed_26.1 rfl rfl ?_
    refine e_callVv hX (t_X10_types v3 M_2) mX10_types lX10_161 (by decide) (by decide) oM0 rfl rfl rfl rfl rfl (Nat.le_of_ble_eq_true rfl) zcdX10_feed_26.2.1 h (fun M_3 h => ?_)
    refine s_aload_n (k := 0) hX zcdX10_feed_26.2.2.1 rfl rfl ?_
    refine s_iload (k := 4) hX zcdX10_feed_26.2.2.2.1 rfl ?_
    refine e_callVv hX (t_X10_types v4 M_3) mX10_types lX10_161 (by decide) (by decide) oM0 rfl rfl rfl rfl rfl (Nat.le_of_ble_eq_true rfl) zcdX10_feed_26.2.2.2.2.1 h (fun M_4 h => ?_)
    refine s_aload_n (k := 0) hX zcdX10_feed_26.2.2.2.2.2.1 rfl rfl ?_
    refine s_iload (k := 5) hX zcdX10_feed_26.2.2.2.2.2.2.1 rfl ?_
    refine e_callVv hX (t_X10_types v5 M_4) mX10_types lX10_161 (by decide) (by decide) oM0 rfl rfl rfl rfl rfl (Nat.le_of_ble_eq_true rfl) zcdX10_feed_26.2.2.2.2.2.2.2 h (fun M_5 h => ?_)
    refine s_aload_n (k := 0) hX zcdX10_feed_42.1 rfl rfl ?_
    refine s_get hX fX10_158 oM0 rfl zcdX10_feed_42.2.1 ?_
    exact e_ireti hX hR zcdX10_feed_42.2.2.1 h
  · refine s_iconst (v := (-1)) hX zcdX10_types_38.2.2.2.2.2.2.2 (by decide) ?_
    exact e_ireti hX hR zcdX10_feed_14.1 h
set_option maxHeartbeats 4000000 in
theorem t_X10_nearTo (v1 : Int32) (M : Mem) : AXp yX10_nearTo cX10_nearTo 4 (some .int) 1 39 glM (fun ad => [.ref (ad 0), .int v1]) M (f_X10_nearTo M v1) := by
  intro r0 h
  refine AM.of (by decide) (fun _ => Nat.le_of_ble_eq_true rfl) (fun X ad cI cZ cB hX hR => ?_)
  show V X M [(0, .ref (ad 0)), (1, .int v1)] [] 0
  refine s_iconst (v := (nI 0)) hX zcdX10_feed_42.2.2.2.1 (by decide) ?_
  refine s_istore_n (lv' := [(0, .ref (ad 0)), (1, .int v1), (2, .int (nI 0))]) hX zcdX10_feed_42.2.2.2.2.1 rfl (by decide) rfl ?_
  refine s_iconst (v := (nI 0)) hX zcdX10_feed_42.2.2.2.2.2.1 (by decide) ?_
  refine s_istore_n (lv' := [(0, .ref (ad 0)), (1, .int v1), (2, .int (nI 0)), (3, .int (nI 0))]) hX zcdX10_feed_42.2.2.2.2.2.2.1 rfl (by decide) rfl ?_
  have lp4 : ∀ (N4 : Nat) (y2_4 : Int32) (y3_4 : Int32), wlp2 (f_X10_nearTo_B4 M v1) N4 y2_4 y3_4 = some r0 → V X M [(0, .ref (ad 0)), (1, .int v1), (2, .int y2_4), (3, .int y3_4)] [] 4 := by
    intro N4
    induction N4 with
    | zero => exact fun _ _ h => e_none h
    | succ N4 ih4 =>
      intro y2_4 y3_4 h
      replace h : f_X10_nearTo_B4 M v1 (wlp2 (f_X10_nearTo_B4 M v1) N4) y2_4 y3_4 = some r0 := h
      generalize wlp2 (f_X10_nearTo_B4 M v1) N4 = ag4 at ih4 h
      refine s_iload_n (k := 3) hX zcdX10_feed_42.2.2.2.2.2.2.2 rfl rfl ?_
      refine s_bipush (v := (nI 40)) hX zcdX10_nearTo_5.1 (by decide) ?_
      refine e_icmp_ge (tgt := 47) hX zcdX10_nearTo_5.2.1 (by decide) (m_ge (by decide +kernel)) h (fun h => ?_) (fun h => ?_)
      · refine s_iload_n (k := 2) hX zcdX10_nearTo_44.2.1 rfl rfl ?_
        exact e_iretp hX hR zcdX10_nearTo_44.2.2.1 h
      · refine s_iload_n (k := 3) hX zcdX10_nearTo_5.2.2.1 rfl rfl ?_
        refine s_iload_n (k := 1) hX zcdX10_nearTo_5.2.2.2.1 rfl rfl ?_
        refine e_icmp_eq (tgt := 41) hX zcdX10_nearTo_5.2.2.2.2.1 (by decide) r_eq h (fun h => ?_) (fun h => ?_)
        · refine s_iinc (k := 3) (v := (y3_4 + (nI 1))) (lv' := [(0, .ref (ad 0)), (1, .int v1), (2, .int y2_4), (3, .int (y3_4 + (nI 1)))]) hX zcdX10_nearTo_30.2.2.2.2.2.2.2 (congrArg (fun z => y3_4 + z) (by decide)) (by decide) rfl rfl ?_
          refine s_goto (tgt := 4) hX zcdX10_nearTo_44.1 (by decide) ?_
          exact ih4 y2_4 (y3_4 + (nI 1)) h
        · refine s_aload_n (k := 0) hX zcdX10_nearTo_5.2.2.2.2.2.1 rfl rfl ?_
          refine s_get hX fX10_7 oM0 rfl zcdX10_nearTo_5.2.2.2.2.2.2.1 ?_
          refine s_iconst (v := (nI 0)) hX zcdX10_nearTo_5.2.2.2.2.2.2.2 (by decide) ?_
          refine s_iload_n (k := 3) hX zcdX10_nearTo_20.1 rfl rfl ?_
          refine s_iadd hX zcdX10_nearTo_20.2.1 ?_
          refine s_top (zadd _) ?_
          refine e_iald hX aM1 zcdX10_nearTo_20.2.2.1 h (fun h => ?_)
          refine s_iconst (v := (nI 1)) hX zcdX10_nearTo_20.2.2.2.1 (by decide) ?_
          refine e_icmp_ne (tgt := 41) hX zcdX10_nearTo_20.2.2.2.2.1 (by decide) (m_eq (by decide +kernel)) h (fun h => ?_) (fun h => ?_)
          · refine s_iinc (k := 3) (v := (y3_4 + (nI 1))) (lv' := [(0, .ref (ad 0)), (1, .int v1), (2, .int y2_4), (3, .int (y3_4 + (nI 1)))]) hX zcdX10_nearTo_30.2.2.2.2.2.2.2 (congrArg (fun z => y3_4 + z) (by decide)) (by decide) rfl rfl ?_
            refine s_goto (tgt := 4) hX zcdX10_nearTo_44.1 (by decide) ?_
            exact ih4 y2_4 (y3_4 + (nI 1)) h
          · refine s_aload_n (k := 0) hX zcdX10_nearTo_20.2.2.2.2.2.1 rfl rfl ?_
            refine s_iload_n (k := 1) hX zcdX10_nearTo_20.2.2.2.2.2.2.1 rfl rfl ?_
            refine s_iload_n (k := 3) hX zcdX10_nearTo_20.2.2.2.2.2.2.2 rfl rfl ?_
            refine e_callVp hX (t_X10_apart v1 y3_4 M) mX10_apart lX10_144 (by decide) (by decide) oM0 rfl rfl rfl rfl rfl (Nat.le_of_ble_eq_true rfl) zcdX10_nearTo_30.1 h (fun r_1 h => ?_)
            refine s_iconst (v := (nI 4)) hX zcdX10_nearTo_30.2.1 (by decide) ?_
            refine e_icmp_gt (tgt := 41) hX zcdX10_nearTo_30.2.2.1 (by decide) (m_gt (by decide +kernel)) h (fun h => ?_) (fun h => ?_)
            · refine s_iinc (k := 3) (v := (y3_4 + (nI 1))) (lv' := [(0, .ref (ad 0)), (1, .int v1), (2, .int y2_4), (3, .int (y3_4 + (nI 1)))]) hX zcdX10_nearTo_30.2.2.2.2.2.2.2 (congrArg (fun z => y3_4 + z) (by decide)) (by decide) rfl rfl ?_
              refine s_goto (tgt := 4) hX zcdX10_nearTo_44.1 (by decide) ?_
              exact ih4 y2_4 (y3_4 + (nI 1)) h
            · refine s_iload_n (k := 2) hX zcdX10_nearTo_30.2.2.2.1 rfl rfl ?_
              refine s_iconst (v := (nI 1)) hX zcdX10_nearTo_30.2.2.2.2.1 (by decide) ?_
              refine s_iadd hX zcdX10_nearTo_30.2.2.2.2.2.1 ?_
              refine s_istore_n (lv' := [(0, .ref (ad 0)), (1, .int v1), (3, .int y3_4), (2, .int (y2_4 + (nI 1)))]) hX zcdX10_nearTo_30.2.2.2.2.2.2.1 rfl (by decide) rfl ?_
              refine s_iinc (k := 2) (v := (y3_4 + (nI 1))) (lv' := [(0, .ref (ad 0)), (1, .int v1), (2, .int (y2_4 + (nI 1))), (3, .int (y3_4 + (nI 1)))]) hX zcdX10_nearTo_30.2.2.2.2.2.2.2 (congrArg (fun z => y3_4 + z) (by decide)) (by decide) rfl rfl ?_
              refine s_goto (tgt := 4) hX zcdX10_nearTo_44.1 (by decide) ?_
              exact ih4 (y2_4 + (nI 1)) (y3_4 + (nI 1)) h
  exact lp4 FU (nI 0) (nI 0) h
set_option maxHeartbeats 4000000 in
theorem t_X10_feels (v1 : Int32) (v2 : Int32) (M : Mem) : AXv yX10_feels cX10_feels 3 none 2 39 glM (fun ad => [.ref (ad 0), .int v1, .int v2]) M (f_X10_feels M v1 v2) := by
  intro r0 h
  refine AM.of (by decide) (fun _ => Nat.le_of_ble_eq_true rfl) (fun X ad cI cZ cB hX hR => ?_)
  show V X M [(0, .ref (ad 0)), (1, .int v1), (2, .int v2)] [] 0
  refine s_aload_n (k := 0) hX zcdX10_nearTo_44.2.2.2.1 rfl rfl ?_
  refine s_get hX fX10_62 oM0 rfl zcdX10_nearTo_44.2.2.2.2.1 ?_
  refine s_iconst (v := (nI 0)) hX zcdX10_nearTo_44.2.2.2.2.2.1 (by decide) ?_
  refine s_iload_n (k := 1) hX zcdX10_nearTo_44.2.2.2.2.2.2.1 rfl rfl ?_
  refine s_iastN hX aM18 (by decide) zcdX10_nearTo_44.2.2.2.2.2.2.2 ?_
  refine e_bndM h (fun M_1 h => ?_)
  refine s_aload_n (k := 0) hX zcdX10_feels_7.1 rfl rfl ?_
  refine s_get hX fX10_62 oM0 rfl zcdX10_feels_7.2.1 ?_
  refine s_iconst (v := (nI 1)) hX zcdX10_feels_7.2.2.1 (by decide) ?_
  refine s_aload_n (k := 0) hX zcdX10_feels_7.2.2.2.1 rfl rfl ?_
  refine s_get hX fX10_7 oM0 rfl zcdX10_feels_7.2.2.2.2.1 ?_
  refine s_bipush (v := (nI 40)) hX zcdX10_feels_7.2.2.2.2.2.1 (by decide) ?_
  refine s_iload_n (k := 1) hX zcdX10_feels_7.2.2.2.2.2.2.1 rfl rfl ?_
  refine s_iadd hX zcdX10_feels_7.2.2.2.2.2.2.2 ?_
  refine e_iald hX aM1 zcdX10_feels_20.1 h (fun h => ?_)
  refine s_iastN hX aM18 (by decide) zcdX10_feels_20.2.1 ?_
  refine e_bndM h (fun M_2 h => ?_)
  refine s_aload_n (k := 0) hX zcdX10_feels_20.2.2.1 rfl rfl ?_
  refine s_get hX fX10_62 oM0 rfl zcdX10_feels_20.2.2.2.1 ?_
  refine s_iconst (v := (nI 2)) hX zcdX10_feels_20.2.2.2.2.1 (by decide) ?_
  refine s_aload_n (k := 0) hX zcdX10_feels_20.2.2.2.2.2.1 rfl rfl ?_
  refine s_get hX fX10_7 oM0 rfl zcdX10_feels_20.2.2.2.2.2.2.1 ?_
  refine s_bipush (v := (nI 80)) hX zcdX10_feels_20.2.2.2.2.2.2.2 (by decide) ?_
  refine s_iload_n (k := 1) hX zcdX10_feels_33.1 rfl rfl ?_
  refine s_iadd hX zcdX10_feels_33.2.1 ?_
  refine e_iald hX aM1 zcdX10_feels_33.2.2.1 h (fun h => ?_)
  refine s_iastN hX aM18 (by decide) zcdX10_feels_33.2.2.2.1 ?_
  refine e_bndM h (fun M_3 h => ?_)
  refine s_aload_n (k := 0) hX zcdX10_feels_33.2.2.2.2.1 rfl rfl ?_
  refine s_get hX fX10_62 oM0 rfl zcdX10_feels_33.2.2.2.2.2.1 ?_
  refine s_iconst (v := (nI 3)) hX zcdX10_feels_33.2.2.2.2.2.2.1 (by decide) ?_
  refine s_aload_n (k := 0) hX zcdX10_feels_33.2.2.2.2.2.2.2 rfl rfl ?_
  refine s_get hX fX10_7 oM0 rfl zcdX10_feels_43.1 ?_
  refine s_bipush (v := (nI 120)) hX zcdX10_feels_43.2.1 (by decide) ?_
  refine s_iload_n (k := 1) hX zcdX10_feels_43.2.2.1 rfl rfl ?_
  refine s_iadd hX zcdX10_feels_43.2.2.2.1 ?_
  refine e_iald hX aM1 zcdX10_feels_43.2.2.2.2.1 h (fun h => ?_)
  refine s_iastN hX aM18 (by decide) zcdX10_feels_43.2.2.2.2.2.1 ?_
  refine e_bndM h (fun M_4 h => ?_)
  refine s_aload_n (k := 0) hX zcdX10_feels_43.2.2.2.2.2.2.1 rfl rfl ?_
  refine s_get hX fX10_62 oM0 rfl zcdX10_feels_43.2.2.2.2.2.2.2 ?_
  refine s_iconst (v := (nI 4)) hX zcdX10_feels_56.1 (by decide) ?_
  refine s_aload_n (k := 0) hX zcdX10_feels_56.2.1 rfl rfl ?_
  refine s_get hX fX10_7 oM0 rfl zcdX10_feels_56.2.2.1 ?_
  refine s_sipush (v := (nI 160)) hX zcdX10_feels_56.2.2.2.1 (by decide) ?_
  refine s_iload_n (k := 1) hX zcdX10_feels_56.2.2.2.2.1 rfl rfl ?_
  refine s_iadd hX zcdX10_feels_56.2.2.2.2.2.1 ?_
  refine e_iald hX aM1 zcdX10_feels_56.2.2.2.2.2.2.1 h (fun h => ?_)
  refine s_iastN hX aM18 (by decide) zcdX10_feels_56.2.2.2.2.2.2.2 ?_
  refine e_bndM h (fun M_5 h => ?_)
  refine s_aload_n (k := 0) hX zcdX10_feels_68.1 rfl rfl ?_
  refine s_get hX fX10_62 oM0 rfl zcdX10_feels_68.2.1 ?_
  refine s_iconst (v := (nI 5)) hX zcdX10_feels_68.2.2.1 (by decide) ?_
  refine s_aload_n (k := 0) hX zcdX10_feels_68.2.2.2.1 rfl rfl ?_
  refine s_iload_n (k := 1) hX zcdX10_feels_68.2.2.2.2.1 rfl rfl ?_
  refine e_callVp hX (t_X10_nearTo v1 M_5) mX10_nearTo lX10_268 (by decide) (by decide) oM0 rfl rfl rfl rfl rfl (Nat.le_of_ble_eq_true rfl) zcdX10_feels_68.2.2.2.2.2.1 h (fun r_6 h => ?_)
  refine s_iastN hX aM18 (by decide) zcdX10_feels_68.2.2.2.2.2.2.1 ?_
  refine e_bndM h (fun M_7 h => ?_)
  refine s_aload_n (k := 0) hX zcdX10_feels_68.2.2.2.2.2.2.2 rfl rfl ?_
  refine s_get hX fX10_62 oM0 rfl zcdX10_feels_80.1 ?_
  refine s_bipush (v := (nI 6)) hX zcdX10_feels_80.2.1 (by decide) ?_
  refine s_iload_n (k := 2) hX zcdX10_feels_80.2.2.1 rfl rfl ?_
  refine s_iastN hX aM18 (by decide) zcdX10_feels_80.2.2.2.1 ?_
  refine e_bndM h (fun M_8 h => ?_)
  refine s_aload_n (k := 0) hX zcdX10_feels_80.2.2.2.2.1 rfl rfl ?_
  refine s_get hX fX10_62 oM0 rfl zcdX10_feels_80.2.2.2.2.2.1 ?_
  refine s_bipush (v := (nI 7)) hX zcdX10_feels_80.2.2.2.2.2.2.1 (by decide) ?_
  refine s_aload_n (k := 0) hX zcdX10_feels_80.2.2.2.2.2.2.2 rfl rfl ?_
  refine s_get hX fX10_7 oM0 rfl zcdX10_feels_94.1 ?_
  refine s_sipush (v := (nI 200)) hX zcdX10_feels_94.2.1 (by decide) ?_
  refine s_ialdN hX aM1 (by decide) zcdX10_feels_94.2.2.1 ?_
  refine s_bipush (v := (nI 100)) hX zcdX10_feels_94.2.2.2.1 (by decide) ?_
  refine s_iremL hX zcdX10_feels_94.2.2.2.2.1 (by decide) ?_
  refine s_iastN hX aM18 (by decide) zcdX10_feels_94.2.2.2.2.2.1 ?_
  refine e_bndM h (fun M_9 h => ?_)
  exact e_vret hX hR zcdX10_feels_94.2.2.2.2.2.2.1 h
set_option maxHeartbeats 4000000 in
theorem t_X10_holdsAny (v1 : Int32) (M : Mem) : AXi yX10_holdsAny cX10_holdsAny 3 (some .boolean) 2 39 glM (fun ad => [.ref (ad 0), .int v1]) M (f_X10_holdsAny M v1) := by
  intro r0 h
  refine AM.of (by decide) (fun _ => Nat.le_of_ble_eq_true rfl) (fun X ad cI cZ cB hX hR => ?_)
  show V X M [(0, .ref (ad 0)), (1, .int v1)] [] 0
  refine s_iconst (v := (nI 0)) hX zcdX10_feels_94.2.2.2.2.2.2.2 (by decide) ?_
  refine s_istore_n (lv' := [(0, .ref (ad 0)), (1, .int v1), (2, .int (nI 0))]) hX zcdX10_holdsAny_1.1 rfl (by decide) rfl ?_
  have lp2 : ∀ (N2 : Nat) (M2 : Mem) (y2_2 : Int32), wlp2 (f_X10_holdsAny_B2 v1) N2 M2 y2_2 = some r0 → V X M2 [(0, .ref (ad 0)), (1, .int v1), (2, .int y2_2)] [] 2 := by
    intro N2
    induction N2 with
    | zero => exact fun _ _ h => e_none h
    | succ N2 ih2 =>
      intro M2 y2_2 h
      replace h : f_X10_holdsAny_B2 v1 (wlp2 (f_X10_holdsAny_B2 v1) N2) M2 y2_2 = some r0 := h
      generalize wlp2 (f_X10_holdsAny_B2 v1) N2 = ag2 at ih2 h
      refine s_iload_n (k := 2) hX zcdX10_holdsAny_1.2.1 rfl rfl ?_
      refine s_aload_n (k := 0) hX zcdX10_holdsAny_1.2.2.1 rfl rfl ?_
      refine s_get hX fX10_258 oM0 rfl zcdX10_holdsAny_1.2.2.2.1 ?_
      refine e_icmp_ge (tgt := 48) hX zcdX10_holdsAny_1.2.2.2.2.1 (by decide) r_le h (fun h => ?_) (fun h => ?_)
      · refine s_iconst (v := (nI 0)) hX zcdX10_holdsAny_41.2.2.2.1 (by decide) ?_
        exact e_zretiL hX hR zcdX10_holdsAny_41.2.2.2.2.1 (by decide) h
      · refine s_aload_n (k := 0) hX zcdX10_holdsAny_1.2.2.2.2.2.1 rfl rfl ?_
        refine s_get hX fX10_47 oM0 rfl zcdX10_holdsAny_1.2.2.2.2.2.2.1 ?_
        refine s_iload_n (k := 2) hX zcdX10_holdsAny_1.2.2.2.2.2.2.2 rfl rfl ?_
        refine e_iald hX aM13 zcdX10_holdsAny_15.1 h (fun h => ?_)
        refine s_iload_n (k := 1) hX zcdX10_holdsAny_15.2.1 rfl rfl ?_
        refine e_icmp_ne (tgt := 42) hX zcdX10_holdsAny_15.2.2.1 (by decide) r_eq h (fun h => ?_) (fun h => ?_)
        · refine s_iinc (k := 2) (v := (y2_2 + (nI 1))) (lv' := [(0, .ref (ad 0)), (1, .int v1), (2, .int (y2_2 + (nI 1)))]) hX zcdX10_holdsAny_41.2.1 (congrArg (fun z => y2_2 + z) (by decide)) (by decide) rfl rfl ?_
          refine s_goto (tgt := 2) hX zcdX10_holdsAny_41.2.2.1 (by decide) ?_
          exact ih2 M2 (y2_2 + (nI 1)) h
        · refine s_aload_n (k := 0) hX zcdX10_holdsAny_15.2.2.2.1 rfl rfl ?_
          refine s_aload_n (k := 0) hX zcdX10_holdsAny_15.2.2.2.2.1 rfl rfl ?_
          refine s_get hX fX10_53 oM0 rfl zcdX10_holdsAny_15.2.2.2.2.2.1 ?_
          refine s_iload_n (k := 2) hX zcdX10_holdsAny_15.2.2.2.2.2.2.1 rfl rfl ?_
          refine e_iald hX aM15 zcdX10_holdsAny_15.2.2.2.2.2.2.2 h (fun h => ?_)
          refine s_aload_n (k := 0) hX zcdX10_holdsAny_27.1 rfl rfl ?_
          refine s_get hX fX10_56 oM0 rfl zcdX10_holdsAny_27.2.1 ?_
          refine s_iload_n (k := 2) hX zcdX10_holdsAny_27.2.2.1 rfl rfl ?_
          refine e_iald hX aM16 zcdX10_holdsAny_27.2.2.2.1 h (fun h => ?_)
          refine e_callVi hX (t_X10_comesTo (M2 15 (ix y2_2)) (M2 16 (ix y2_2)) M2) mX10_comesTo lX10_265 (by decide) (by decide) oM0 rfl rfl rfl rfl rfl (Nat.le_of_ble_eq_true rfl) zcdX10_holdsAny_27.2.2.2.2.1 h (fun r_1 M_2 h => ?_)
          refine s_iconst (v := (nI 1)) hX zcdX10_holdsAny_27.2.2.2.2.2.1 (by decide) ?_
          refine e_icmp_ne (tgt := 42) hX zcdX10_holdsAny_27.2.2.2.2.2.2.1 (by decide) (m_eq (by decide +kernel)) h (fun h => ?_) (fun h => ?_)
          · refine s_iinc (k := 2) (v := (y2_2 + (nI 1))) (lv' := [(0, .ref (ad 0)), (1, .int v1), (2, .int (y2_2 + (nI 1)))]) hX zcdX10_holdsAny_41.2.1 (congrArg (fun z => y2_2 + z) (by decide)) (by decide) rfl rfl ?_
            refine s_goto (tgt := 2) hX zcdX10_holdsAny_41.2.2.1 (by decide) ?_
            exact ih2 M_2 (y2_2 + (nI 1)) h
          · refine s_iconst (v := (nI 1)) hX zcdX10_holdsAny_27.2.2.2.2.2.2.2 (by decide) ?_
            exact e_zretiL hX hR zcdX10_holdsAny_41.1 (by decide) h
  exact lp2 FU M (nI 0) h
set_option maxHeartbeats 4000000 in
theorem t_X10_moves (v1 : Int32) (M : Mem) : AXv yX10_moves cX10_moves 6 none 3 39 glM (fun ad => [.ref (ad 0), .int v1]) M (f_X10_moves M v1) := by
  intro r0 h
  refine AM.of (by decide) (fun _ => Nat.le_of_ble_eq_true rfl) (fun X ad cI cZ cB hX hR => ?_)
  show V X M [(0, .ref (ad 0)), (1, .int v1)] [] 0
  refine s_aload_n (k := 0) hX zcdX10_holdsAny_41.2.2.2.2.2.1 rfl rfl ?_
  refine s_get hX fX10_7 oM0 rfl zcdX10_holdsAny_41.2.2.2.2.2.2.1 ?_
  refine s_sipush (v := (nI 201)) hX zcdX10_holdsAny_41.2.2.2.2.2.2.2 (by decide) ?_
  refine s_sipush (v := (nI 25173)) hX zcdX10_moves_7.1 (by decide) ?_
  refine s_aload_n (k := 0) hX zcdX10_moves_7.2.1 rfl rfl ?_
  refine s_get hX fX10_7 oM0 rfl zcdX10_moves_7.2.2.1 ?_
  refine s_sipush (v := (nI 201)) hX zcdX10_moves_7.2.2.2.1 (by decide) ?_
  refine s_ialdN hX aM1 (by decide) zcdX10_moves_7.2.2.2.2.1 ?_
  refine s_imul hX zcdX10_moves_7.2.2.2.2.2.1 ?_
  refine s_sipush (v := (nI 13849)) hX zcdX10_moves_7.2.2.2.2.2.2.1 (by decide) ?_
  refine s_iadd hX zcdX10_moves_7.2.2.2.2.2.2.2 ?_
  refine s_ldcw (v := (nI 65536)) hX kX10_283 zcdX10_moves_23.1 ?_
  refine s_iremL hX zcdX10_moves_23.2.1 (by decide) ?_
  refine s_iastN hX aM1 (by decide) zcdX10_moves_23.2.2.1 ?_
  refine e_bndM h (fun M_1 h => ?_)
  refine s_aload_n (k := 0) hX zcdX10_moves_23.2.2.2.1 rfl rfl ?_
  refine s_get hX fX10_7 oM0 rfl zcdX10_moves_23.2.2.2.2.1 ?_
  refine s_sipush (v := (nI 201)) hX zcdX10_moves_23.2.2.2.2.2.1 (by decide) ?_
  refine s_ialdN hX aM1 (by decide) zcdX10_moves_23.2.2.2.2.2.2.1 ?_
  refine s_bipush (v := (nI 10)) hX zcdX10_moves_23.2.2.2.2.2.2.2 (by decide) ?_
  refine s_iremL hX zcdX10_moves_38.1 (by decide) ?_
  refine e_bnd h (fun x_2 h => ?_)
  refine s_istore_n (lv' := [(0, .ref (ad 0)), (1, .int v1), (2, .int x_2)]) hX zcdX10_moves_38.2.1 rfl (by decide) rfl ?_
  refine s_aload_n (k := 0) hX zcdX10_moves_38.2.2.1 rfl rfl ?_
  refine s_iload_n (k := 1) hX zcdX10_moves_38.2.2.2.1 rfl rfl ?_
  refine s_iload_n (k := 2) hX zcdX10_moves_38.2.2.2.2.1 rfl rfl ?_
  refine e_callVv hX (t_X10_feels v1 x_2 M_1) mX10_feels lX10_284 (by decide) (by decide) oM0 rfl rfl rfl rfl rfl (Nat.le_of_ble_eq_true rfl) zcdX10_moves_38.2.2.2.2.2.1 h (fun M_3 h => ?_)
  refine s_aload_n (k := 0) hX zcdX10_moves_38.2.2.2.2.2.2.1 rfl rfl ?_
  refine s_get hX fX10_7 oM0 rfl zcdX10_moves_38.2.2.2.2.2.2.2 ?_
  refine s_bipush (v := (nI 40)) hX zcdX10_moves_50.1 (by decide) ?_
  refine s_iload_n (k := 1) hX zcdX10_moves_50.2.1 rfl rfl ?_
  refine s_iadd hX zcdX10_moves_50.2.2.1 ?_
  refine e_iald hX aM1 zcdX10_moves_50.2.2.2.1 h (fun h => ?_)
  refine s_aload_n (k := 0) hX zcdX10_moves_50.2.2.2.2.1 rfl rfl ?_
  refine s_bipush (v := (nI 117)) hX zcdX10_moves_50.2.2.2.2.2.1 (by decide) ?_
  refine s_bipush (v := (nI 9)) hX zcdX10_moves_50.2.2.2.2.2.2.1 (by decide) ?_
  refine e_callVi hX (t_X10_byLaw (nI 117) (nI 9) M_3) mX10_byLaw lX10_287 (by decide) (by decide) oM0 rfl rfl rfl rfl rfl (Nat.le_of_ble_eq_true rfl) zcdX10_moves_50.2.2.2.2.2.2.2 h (fun r_4 M_5 h => ?_)
  refine s_iadd hX zcdX10_moves_63.1 ?_
  refine s_aload_n (k := 0) hX zcdX10_moves_63.2.1 rfl rfl ?_
  refine s_bipush (v := (nI 100)) hX zcdX10_moves_63.2.2.1 (by decide) ?_
  refine s_bipush (v := (nI 9)) hX zcdX10_moves_63.2.2.2.1 (by decide) ?_
  refine e_callVi hX (t_X10_byLaw (nI 100) (nI 9) M_5) mX10_byLaw lX10_287 (by decide) (by decide) oM0 rfl rfl rfl rfl rfl (Nat.le_of_ble_eq_true rfl) zcdX10_moves_63.2.2.2.2.1 h (fun r_6 M_7 h => ?_)
  refine s_isub hX zcdX10_moves_63.2.2.2.2.2.1 ?_
  refine s_iconst (v := (nI 0)) hX zcdX10_moves_63.2.2.2.2.2.2.1 (by decide) ?_
  refine s_bipush (v := (nI 39)) hX zcdX10_moves_63.2.2.2.2.2.2.2 (by decide) ?_
  refine e_callSp hX (t_X10_bounded (((M_3 1 (ix ((nI 40) + v1))) + r_4) - r_6) (nI 0) (nI 39) M_7) mX10_bounded lX10_290 (by decide) (by decide) rfl rfl (Nat.le_of_ble_eq_true rfl) zcdX10_moves_76.1 h (fun r_8 h => ?_)
  refine s_istore_n (lv' := [(0, .ref (ad 0)), (1, .int v1), (2, .int x_2), (3, .int r_8)]) hX zcdX10_moves_76.2.1 rfl (by decide) rfl ?_
  refine s_aload_n (k := 0) hX zcdX10_moves_76.2.2.1 rfl rfl ?_
  refine s_get hX fX10_7 oM0 rfl zcdX10_moves_76.2.2.2.1 ?_
  refine s_bipush (v := (nI 80)) hX zcdX10_moves_76.2.2.2.2.1 (by decide) ?_
  refine s_iload_n (k := 1) hX zcdX10_moves_76.2.2.2.2.2.1 rfl rfl ?_
  refine s_iadd hX zcdX10_moves_76.2.2.2.2.2.2.1 ?_
  refine e_iald hX aM1 zcdX10_moves_76.2.2.2.2.2.2.2 h (fun h => ?_)
  refine s_aload_n (k := 0) hX zcdX10_moves_89.1 rfl rfl ?_
  refine s_bipush (v := (nI 111)) hX zcdX10_moves_89.2.1 (by decide) ?_
  refine s_bipush (v := (nI 9)) hX zcdX10_moves_89.2.2.1 (by decide) ?_
  refine e_callVi hX (t_X10_byLaw (nI 111) (nI 9) M_7) mX10_byLaw lX10_287 (by decide) (by decide) oM0 rfl rfl rfl rfl rfl (Nat.le_of_ble_eq_true rfl) zcdX10_moves_89.2.2.2.1 h (fun r_9 M_10 h => ?_)
  refine s_iadd hX zcdX10_moves_89.2.2.2.2.1 ?_
  refine s_aload_n (k := 0) hX zcdX10_moves_89.2.2.2.2.2.1 rfl rfl ?_
  refine s_bipush (v := (nI 98)) hX zcdX10_moves_89.2.2.2.2.2.2.1 (by decide) ?_
  refine s_bipush (v := (nI 9)) hX zcdX10_moves_89.2.2.2.2.2.2.2 (by decide) ?_
  refine e_callVi hX (t_X10_byLaw (nI 98) (nI 9) M_10) mX10_byLaw lX10_287 (by decide) (by decide) oM0 rfl rfl rfl rfl rfl (Nat.le_of_ble_eq_true rfl) zcdX10_moves_103.1 h (fun r_11 M_12 h => ?_)
  refine s_isub hX zcdX10_moves_103.2.1 ?_
  refine s_iconst (v := (nI 1)) hX zcdX10_moves_103.2.2.1 (by decide) ?_
  refine s_bipush (v := (nI 20)) hX zcdX10_moves_103.2.2.2.1 (by decide) ?_
  refine e_callSp hX (t_X10_bounded (((M_7 1 (ix ((nI 80) + v1))) + r_9) - r_11) (nI 1) (nI 20) M_12) mX10_bounded lX10_290 (by decide) (by decide) rfl rfl (Nat.le_of_ble_eq_true rfl) zcdX10_moves_103.2.2.2.2.1 h (fun r_13 h => ?_)
  refine s_istore (lv' := [(0, .ref (ad 0)), (1, .int v1), (2, .int x_2), (3, .int r_8), (4, .int r_13)]) hX zcdX10_moves_103.2.2.2.2.2.1 (by decide) rfl ?_
  refine s_aload_n (k := 0) hX zcdX10_moves_103.2.2.2.2.2.2.1 rfl rfl ?_
  refine s_iload_n (k := 3) hX zcdX10_moves_103.2.2.2.2.2.2.2 rfl rfl ?_
  refine s_iload (k := 4) hX zcdX10_moves_117.1 rfl ?_
  refine e_callVp hX (t_X10_stoneAt r_8 r_13 M_12) mX10_stoneAt lX10_147 (by decide) (by decide) oM0 rfl rfl rfl rfl rfl (Nat.le_of_ble_eq_true rfl) zcdX10_moves_117.2.1 h (fun r_14 h => ?_)
  refine s_istore (lv' := [(0, .ref (ad 0)), (1, .int v1), (2, .int x_2), (3, .int r_8), (4, .int r_13), (5, .int r_14)]) hX zcdX10_moves_117.2.2.1 (by decide) rfl ?_
  refine s_iload (k := 5) hX zcdX10_moves_117.2.2.2.1 rfl ?_
  refine s_iconst (v := (-1)) hX zcdX10_moves_117.2.2.2.2.1 (by decide) ?_
  have j180 : ∀ (N180 : Mem), f_X10_moves_L180 v1 x_2 N180 = some r0 → V X N180 [(0, .ref (ad 0)), (1, .int v1), (2, .int x_2)] [] 180 := by
    intro N180 h
    refine s_aload_n (k := 0) hX zcdX10_moves_172.2.2.2.2.1 rfl rfl ?_
    refine s_iload_n (k := 1) hX zcdX10_moves_172.2.2.2.2.2.1 rfl rfl ?_
    refine s_iload_n (k := 2) hX zcdX10_moves_172.2.2.2.2.2.2.1 rfl rfl ?_
    refine e_callVv hX (t_X10_feels v1 x_2 N180) mX10_feels lX10_284 (by decide) (by decide) oM0 rfl rfl rfl rfl rfl (Nat.le_of_ble_eq_true rfl) zcdX10_moves_172.2.2.2.2.2.2.2 h (fun M_15 h => ?_)
    refine s_aload_n (k := 0) hX zcdX10_moves_186.1 rfl rfl ?_
    refine s_get hX fX10_7 oM0 rfl zcdX10_moves_186.2.1 ?_
    refine s_sipush (v := (nI 160)) hX zcdX10_moves_186.2.2.1 (by decide) ?_
    refine s_iload_n (k := 1) hX zcdX10_moves_186.2.2.2.1 rfl rfl ?_
    refine s_iadd hX zcdX10_moves_186.2.2.2.2.1 ?_
    refine s_aload_n (k := 0) hX zcdX10_moves_186.2.2.2.2.2.1 rfl rfl ?_
    refine s_bipush (v := (nI 120)) hX zcdX10_moves_186.2.2.2.2.2.2.1 (by decide) ?_
    refine e_callVi hX (t_X10_holdsAny (nI 120) M_15) mX10_holdsAny lX10_299 (by decide) (by decide) oM0 rfl rfl rfl rfl rfl (Nat.le_of_ble_eq_true rfl) zcdX10_moves_186.2.2.2.2.2.2.2 h (fun r_16 M_17 h => ?_)
    have j209 : ∀ (t0_209 : Int32), f_X10_moves_L209 v1 M_17 t0_209 = some r0 → V X M_17 [] [.int t0_209, .int ((nI 160) + v1), .ref (ad 1)] 209 := by
      intro t0_209 h
      refine e_iast hX aM1 zcdX10_moves_201.2.2.2.2.1 h (fun h => ?_)
      refine e_bndM h (fun M_18 h => ?_)
      exact e_vret hX hR zcdX10_moves_201.2.2.2.2.2 h
    refine e_if_eq (tgt := 208) hX zcdX10_moves_201.1 (by decide) z_eq h (fun h => ?_) (fun h => ?_)
    · refine s_iconst (v := (nI 0)) hX zcdX10_moves_201.2.2.2.1 (by decide) ?_
      refine s_loc [] rfl ?_
      exact j209 (nI 0) h
    · refine s_iconst (v := (nI 1)) hX zcdX10_moves_201.2.1 (by decide) ?_
      refine s_goto (tgt := 209) hX zcdX10_moves_201.2.2.1 (by decide) ?_
      refine s_loc [] rfl ?_
      exact j209 (nI 1) h
  refine e_icmp_ne (tgt := 164) hX zcdX10_moves_117.2.2.2.2.2.1 (by decide) (m_eq (by decide +kernel)) h (fun h => ?_) (fun h => ?_)
  · refine s_iload (k := 5) hX zcdX10_moves_157.2.2.2.1 rfl ?_
    refine s_iload_n (k := 1) hX zcdX10_moves_157.2.2.2.2.1 rfl rfl ?_
    refine e_icmp_eq (tgt := 180) hX zcdX10_moves_157.2.2.2.2.2.1 (by decide) r_eq h (fun h => ?_) (fun h => ?_)
    · refine s_loc [0, 1, 2] rfl ?_
      exact j180 M_12 h
    · refine s_aload_n (k := 0) hX zcdX10_moves_157.2.2.2.2.2.2.1 rfl rfl ?_
      refine s_aload_n (k := 0) hX zcdX10_moves_157.2.2.2.2.2.2.2 rfl rfl ?_
      refine s_get hX fX10_296 oM0 rfl zcdX10_moves_172.1 ?_
      refine s_iconst (v := (nI 1)) hX zcdX10_moves_172.2.1 (by decide) ?_
      refine s_iadd hX zcdX10_moves_172.2.2.1 ?_
      refine s_puti (ty := .int) hX fX10_296 oM0 rfl (Nat.le_of_ble_eq_true rfl) ty_10_35 rfl rfl zcdX10_moves_172.2.2.2.1 ?_
      refine e_bndM h (fun M_19 h => ?_)
      refine s_loc [0, 1, 2] rfl ?_
      exact j180 M_19 h
  · refine s_aload_n (k := 0) hX zcdX10_moves_117.2.2.2.2.2.2.1 rfl rfl ?_
    refine s_get hX fX10_7 oM0 rfl zcdX10_moves_117.2.2.2.2.2.2.2 ?_
    refine s_bipush (v := (nI 40)) hX zcdX10_moves_134.1 (by decide) ?_
    refine s_iload_n (k := 1) hX zcdX10_moves_134.2.1 rfl rfl ?_
    refine s_iadd hX zcdX10_moves_134.2.2.1 ?_
    refine s_iload_n (k := 3) hX zcdX10_moves_134.2.2.2.1 rfl rfl ?_
    refine e_iast hX aM1 zcdX10_moves_134.2.2.2.2.1 h (fun h => ?_)
    refine e_bndM h (fun M_20 h => ?_)
    refine s_aload_n (k := 0) hX zcdX10_moves_134.2.2.2.2.2.1 rfl rfl ?_
    refine s_get hX fX10_7 oM0 rfl zcdX10_moves_134.2.2.2.2.2.2.1 ?_
    refine s_bipush (v := (nI 80)) hX zcdX10_moves_134.2.2.2.2.2.2.2 (by decide) ?_
    refine s_iload_n (k := 1) hX zcdX10_moves_146.1 rfl rfl ?_
    refine s_iadd hX zcdX10_moves_146.2.1 ?_
    refine s_iload (k := 4) hX zcdX10_moves_146.2.2.1 rfl ?_
    refine e_iast hX aM1 zcdX10_moves_146.2.2.2.1 h (fun h => ?_)
    refine e_bndM h (fun M_21 h => ?_)
    refine s_aload_n (k := 0) hX zcdX10_moves_146.2.2.2.2.1 rfl rfl ?_
    refine s_aload_n (k := 0) hX zcdX10_moves_146.2.2.2.2.2.1 rfl rfl ?_
    refine s_get hX fX10_293 oM0 rfl zcdX10_moves_146.2.2.2.2.2.2.1 ?_
    refine s_iconst (v := (nI 1)) hX zcdX10_moves_146.2.2.2.2.2.2.2 (by decide) ?_
    refine s_iadd hX zcdX10_moves_157.1 ?_
    refine s_puti (ty := .int) hX fX10_293 oM0 rfl (Nat.le_of_ble_eq_true rfl) ty_10_34 rfl rfl zcdX10_moves_157.2.1 ?_
    refine e_bndM h (fun M_22 h => ?_)
    refine s_goto (tgt := 180) hX zcdX10_moves_157.2.2.1 (by decide) ?_
    refine s_loc [0, 1, 2] rfl ?_
    exact j180 M_22 h
