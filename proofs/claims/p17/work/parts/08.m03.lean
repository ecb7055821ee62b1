theorem dX10_driest_0 : decode cX10_driest 0 = .ok (.aload_n 0, 1) := by decide +kernel
theorem dX10_driest_1 : decode cX10_driest 1 = .ok (.iload_n 1, 1) := by decide +kernel
theorem dX10_driest_2 : decode cX10_driest 2 = .ok (.invokevirtual 334, 3) := by decide +kernel
theorem dX10_driest_5 : decode cX10_driest 5 = .ok (.ifCond .eq 12, 3) := by decide +kernel
theorem dX10_driest_8 : decode cX10_driest 8 = .ok (.iload_n 2, 1) := by decide +kernel
theorem dX10_driest_9 : decode cX10_driest 9 = .ok (.iconst 0, 1) := by decide +kernel
theorem dX10_driest_10 : decode cX10_driest 10 = .ok (.iconst 1, 1) := by decide +kernel
theorem dX10_driest_11 : decode cX10_driest 11 = .ok (.invokestatic 132, 3) := by decide +kernel
theorem dX10_driest_14 : decode cX10_driest 14 = .ok (.ifCond .ne 5, 3) := by decide +kernel
theorem dX10_driest_17 : decode cX10_driest 17 = .ok (.iconst (-1), 1) := by decide +kernel
theorem dX10_driest_18 : decode cX10_driest 18 = .ok (.ireturn, 1) := by decide +kernel
theorem dX10_driest_19 : decode cX10_driest 19 = .ok (.aload_n 0, 1) := by decide +kernel
theorem dX10_driest_20 : decode cX10_driest 20 = .ok (.aload_n 0, 1) := by decide +kernel
theorem dX10_driest_21 : decode cX10_driest 21 = .ok (.getfield 19, 3) := by decide +kernel
theorem dX10_driest_24 : decode cX10_driest 24 = .ok (.iload_n 1, 1) := by decide +kernel
theorem dX10_driest_25 : decode cX10_driest 25 = .ok (.iaload, 1) := by decide +kernel
theorem dX10_driest_26 : decode cX10_driest 26 = .ok (.invokevirtual 344, 3) := by decide +kernel
theorem dX10_driest_29 : decode cX10_driest 29 = .ok (.istore_n 3, 1) := by decide +kernel
theorem dX10_driest_30 : decode cX10_driest 30 = .ok (.iload_n 3, 1) := by decide +kernel
theorem dX10_driest_31 : decode cX10_driest 31 = .ok (.ldc_w 343, 3) := by decide +kernel
theorem dX10_driest_34 : decode cX10_driest 34 = .ok (.if_icmp .lt 6, 3) := by decide +kernel
theorem dX10_driest_37 : decode cX10_driest 37 = .ok (.bipush (-2), 2) := by decide +kernel
theorem dX10_driest_39 : decode cX10_driest 39 = .ok (.ireturn, 1) := by decide +kernel
theorem dX10_driest_40 : decode cX10_driest 40 = .ok (.iload_n 2, 1) := by decide +kernel
theorem dX10_driest_41 : decode cX10_driest 41 = .ok (.ifCond .ne 10, 3) := by decide +kernel
theorem dX10_driest_44 : decode cX10_driest 44 = .ok (.iload_n 3, 1) := by decide +kernel
theorem dX10_driest_45 : decode cX10_driest 45 = .ok (.bipush 100, 2) := by decide +kernel
theorem dX10_driest_47 : decode cX10_driest 47 = .ok (.idiv, 1) := by decide +kernel
theorem dX10_driest_48 : decode cX10_driest 48 = .ok (.goto 7, 3) := by decide +kernel
theorem dX10_driest_51 : decode cX10_driest 51 = .ok (.iload_n 3, 1) := by decide +kernel
theorem dX10_driest_52 : decode cX10_driest 52 = .ok (.bipush 100, 2) := by decide +kernel
theorem dX10_driest_54 : decode cX10_driest 54 = .ok (.irem, 1) := by decide +kernel
theorem dX10_driest_55 : decode cX10_driest 55 = .ok (.ireturn, 1) := by decide +kernel
theorem dX10_endsPiece_0 : decode cX10_endsPiece 0 = .ok (.aload_n 0, 1) := by decide +kernel
theorem dX10_endsPiece_1 : decode cX10_endsPiece 1 = .ok (.invokevirtual 198, 3) := by decide +kernel
theorem dX10_endsPiece_4 : decode cX10_endsPiece 4 = .ok (.bipush 10, 2) := by decide +kernel
theorem dX10_endsPiece_6 : decode cX10_endsPiece 6 = .ok (.if_icmp .ne 33, 3) := by decide +kernel
theorem dX10_endsPiece_9 : decode cX10_endsPiece 9 = .ok (.aload_n 0, 1) := by decide +kernel
theorem dX10_endsPiece_10 : decode cX10_endsPiece 10 = .ok (.bipush 10, 2) := by decide +kernel
theorem dX10_endsPiece_12 : decode cX10_endsPiece 12 = .ok (.iconst 0, 1) := by decide +kernel
theorem dX10_endsPiece_13 : decode cX10_endsPiece 13 = .ok (.invokevirtual 201, 3) := by decide +kernel
theorem dX10_endsPiece_16 : decode cX10_endsPiece 16 = .ok (.aload_n 0, 1) := by decide +kernel
theorem dX10_endsPiece_17 : decode cX10_endsPiece 17 = .ok (.aload_n 0, 1) := by decide +kernel
theorem dX10_endsPiece_18 : decode cX10_endsPiece 18 = .ok (.getfield 195, 3) := by decide +kernel
theorem dX10_endsPiece_21 : decode cX10_endsPiece 21 = .ok (.iconst 1, 1) := by decide +kernel
theorem dX10_endsPiece_22 : decode cX10_endsPiece 22 = .ok (.isub, 1) := by decide +kernel
theorem dX10_endsPiece_23 : decode cX10_endsPiece 23 = .ok (.putfield 195, 3) := by decide +kernel
theorem dX10_endsPiece_26 : decode cX10_endsPiece 26 = .ok (.aload_n 0, 1) := by decide +kernel
theorem dX10_endsPiece_27 : decode cX10_endsPiece 27 = .ok (.aload_n 0, 1) := by decide +kernel
theorem dX10_endsPiece_28 : decode cX10_endsPiece 28 = .ok (.getfield 192, 3) := by decide +kernel
theorem dX10_endsPiece_31 : decode cX10_endsPiece 31 = .ok (.iconst 1, 1) := by decide +kernel
theorem dX10_endsPiece_32 : decode cX10_endsPiece 32 = .ok (.isub, 1) := by decide +kernel
theorem dX10_endsPiece_33 : decode cX10_endsPiece 33 = .ok (.putfield 192, 3) := by decide +kernel
theorem dX10_endsPiece_36 : decode cX10_endsPiece 36 = .ok (.goto (-36), 3) := by decide +kernel
theorem dX10_endsPiece_39 : decode cX10_endsPiece 39 = .ok (.return_, 1) := by decide +kernel
theorem dX10_here_0 : decode cX10_here 0 = .ok (.aload_n 0, 1) := by decide +kernel
theorem dX10_here_1 : decode cX10_here 1 = .ok (.getfield 165, 3) := by decide +kernel
theorem dX10_here_4 : decode cX10_here 4 = .ok (.aload_n 0, 1) := by decide +kernel
theorem dX10_here_5 : decode cX10_here 5 = .ok (.getfield 168, 3) := by decide +kernel
theorem dX10_here_8 : decode cX10_here 8 = .ok (.if_icmp .ge 19, 3) := by decide +kernel
theorem dX10_here_11 : decode cX10_here 11 = .ok (.aload_n 0, 1) := by decide +kernel
theorem dX10_here_12 : decode cX10_here 12 = .ok (.getfield 22, 3) := by decide +kernel
theorem dX10_here_15 : decode cX10_here 15 = .ok (.aload_n 0, 1) := by decide +kernel
theorem dX10_here_16 : decode cX10_here 16 = .ok (.getfield 165, 3) := by decide +kernel
theorem dX10_here_19 : decode cX10_here 19 = .ok (.baload, 1) := by decide +kernel
theorem dX10_here_20 : decode cX10_here 20 = .ok (.sipush 255, 3) := by decide +kernel
theorem dX10_here_23 : decode cX10_here 23 = .ok (.iand, 1) := by decide +kernel
theorem dX10_here_24 : decode cX10_here 24 = .ok (.goto 4, 3) := by decide +kernel
theorem dX10_here_27 : decode cX10_here 27 = .ok (.iconst (-1), 1) := by decide +kernel
theorem dX10_here_28 : decode cX10_here 28 = .ok (.ireturn, 1) := by decide +kernel
theorem dX10_wrongAt_0 : decode cX10_wrongAt 0 = .ok (.aload_n 0, 1) := by decide +kernel
theorem dX10_wrongAt_1 : decode cX10_wrongAt 1 = .ok (.sipush (-1000), 3) := by decide +kernel
theorem dX10_wrongAt_4 : decode cX10_wrongAt 4 = .ok (.iload_n 1, 1) := by decide +kernel
theorem dX10_wrongAt_5 : decode cX10_wrongAt 5 = .ok (.imul, 1) := by decide +kernel
theorem dX10_wrongAt_6 : decode cX10_wrongAt 6 = .ok (.iload_n 2, 1) := by decide +kernel
theorem dX10_wrongAt_7 : decode cX10_wrongAt 7 = .ok (.isub, 1) := by decide +kernel
theorem dX10_wrongAt_8 : decode cX10_wrongAt 8 = .ok (.putfield 175, 3) := by decide +kernel
theorem dX10_wrongAt_11 : decode cX10_wrongAt 11 = .ok (.iconst 0, 1) := by decide +kernel
theorem dX10_wrongAt_12 : decode cX10_wrongAt 12 = .ok (.ireturn, 1) := by decide +kernel
theorem dX10_endsRound_0 : decode cX10_endsRound 0 = .ok (.aload_n 0, 1) := by decide +kernel
theorem dX10_endsRound_1 : decode cX10_endsRound 1 = .ok (.aload_n 0, 1) := by decide +kernel
theorem dX10_endsRound_2 : decode cX10_endsRound 2 = .ok (.getfield 165, 3) := by decide +kernel
theorem dX10_endsRound_5 : decode cX10_endsRound 5 = .ok (.iconst 1, 1) := by decide +kernel
theorem dX10_endsRound_6 : decode cX10_endsRound 6 = .ok (.iadd, 1) := by decide +kernel
theorem dX10_endsRound_7 : decode cX10_endsRound 7 = .ok (.putfield 165, 3) := by decide +kernel
theorem dX10_endsRound_10 : decode cX10_endsRound 10 = .ok (.iconst 1, 1) := by decide +kernel
theorem dX10_endsRound_11 : decode cX10_endsRound 11 = .ok (.istore_n 1, 1) := by decide +kernel
theorem dX10_endsRound_12 : decode cX10_endsRound 12 = .ok (.aload_n 0, 1) := by decide +kernel
theorem dX10_endsRound_13 : decode cX10_endsRound 13 = .ok (.invokevirtual 171, 3) := by decide +kernel
theorem dX10_endsRound_16 : decode cX10_endsRound 16 = .ok (.bipush 120, 2) := by decide +kernel
theorem dX10_endsRound_18 : decode cX10_endsRound 18 = .ok (.if_icmp .ne 55, 3) := by decide +kernel
theorem dX10_endsRound_21 : decode cX10_endsRound 21 = .ok (.aload_n 0, 1) := by decide +kernel
theorem dX10_endsRound_22 : decode cX10_endsRound 22 = .ok (.aload_n 0, 1) := by decide +kernel
theorem dX10_endsRound_23 : decode cX10_endsRound 23 = .ok (.getfield 165, 3) := by decide +kernel
theorem dX10_endsRound_26 : decode cX10_endsRound 26 = .ok (.iconst 1, 1) := by decide +kernel
theorem dX10_endsRound_27 : decode cX10_endsRound 27 = .ok (.iadd, 1) := by decide +kernel
theorem dX10_endsRound_28 : decode cX10_endsRound 28 = .ok (.putfield 165, 3) := by decide +kernel
theorem dX10_endsRound_31 : decode cX10_endsRound 31 = .ok (.aload_n 0, 1) := by decide +kernel
theorem dX10_endsRound_32 : decode cX10_endsRound 32 = .ok (.invokevirtual 171, 3) := by decide +kernel
theorem dX10_endsRound_35 : decode cX10_endsRound 35 = .ok (.bipush 50, 2) := by decide +kernel
theorem dX10_endsRound_37 : decode cX10_endsRound 37 = .ok (.bipush 57, 2) := by decide +kernel
theorem dX10_endsRound_39 : decode cX10_endsRound 39 = .ok (.invokestatic 132, 3) := by decide +kernel
theorem dX10_endsRound_42 : decode cX10_endsRound 42 = .ok (.ifCond .ne 13, 3) := by decide +kernel
theorem dX10_endsRound_45 : decode cX10_endsRound 45 = .ok (.aload_n 0, 1) := by decide +kernel
theorem dX10_endsRound_46 : decode cX10_endsRound 46 = .ok (.iconst 1, 1) := by decide +kernel
theorem dX10_endsRound_47 : decode cX10_endsRound 47 = .ok (.aload_n 0, 1) := by decide +kernel
theorem dX10_endsRound_48 : decode cX10_endsRound 48 = .ok (.getfield 165, 3) := by decide +kernel
theorem dX10_endsRound_51 : decode cX10_endsRound 51 = .ok (.invokevirtual 178, 3) := by decide +kernel
theorem dX10_endsRound_54 : decode cX10_endsRound 54 = .ok (.ireturn, 1) := by decide +kernel
theorem dX10_endsRound_55 : decode cX10_endsRound 55 = .ok (.aload_n 0, 1) := by decide +kernel
theorem dX10_endsRound_56 : decode cX10_endsRound 56 = .ok (.invokevirtual 171, 3) := by decide +kernel
theorem dX10_endsRound_59 : decode cX10_endsRound 59 = .ok (.bipush 48, 2) := by decide +kernel
theorem dX10_endsRound_61 : decode cX10_endsRound 61 = .ok (.isub, 1) := by decide +kernel
theorem dX10_endsRound_62 : decode cX10_endsRound 62 = .ok (.istore_n 1, 1) := by decide +kernel
theorem dX10_endsRound_63 : decode cX10_endsRound 63 = .ok (.aload_n 0, 1) := by decide +kernel
theorem dX10_endsRound_64 : decode cX10_endsRound 64 = .ok (.aload_n 0, 1) := by decide +kernel
theorem dX10_endsRound_65 : decode cX10_endsRound 65 = .ok (.getfield 165, 3) := by decide +kernel
theorem dX10_endsRound_68 : decode cX10_endsRound 68 = .ok (.iconst 1, 1) := by decide +kernel
theorem dX10_endsRound_69 : decode cX10_endsRound 69 = .ok (.iadd, 1) := by decide +kernel
theorem dX10_endsRound_70 : decode cX10_endsRound 70 = .ok (.putfield 165, 3) := by decide +kernel
theorem dX10_endsRound_73 : decode cX10_endsRound 73 = .ok (.aload_n 0, 1) := by decide +kernel
theorem dX10_endsRound_74 : decode cX10_endsRound 74 = .ok (.aload_n 0, 1) := by decide +kernel
theorem dX10_endsRound_75 : decode cX10_endsRound 75 = .ok (.getfield 362, 3) := by decide +kernel
theorem dX10_endsRound_78 : decode cX10_endsRound 78 = .ok (.iconst 1, 1) := by decide +kernel
theorem dX10_endsRound_79 : decode cX10_endsRound 79 = .ok (.isub, 1) := by decide +kernel
theorem dX10_endsRound_80 : decode cX10_endsRound 80 = .ok (.putfield 362, 3) := by decide +kernel
theorem dX10_endsRound_83 : decode cX10_endsRound 83 = .ok (.aload_n 0, 1) := by decide +kernel
theorem dX10_endsRound_84 : decode cX10_endsRound 84 = .ok (.getfield 359, 3) := by decide +kernel
theorem dX10_endsRound_87 : decode cX10_endsRound 87 = .ok (.aload_n 0, 1) := by decide +kernel
theorem dX10_endsRound_88 : decode cX10_endsRound 88 = .ok (.getfield 113, 3) := by decide +kernel
theorem dX10_endsRound_91 : decode cX10_endsRound 91 = .ok (.aload_n 0, 1) := by decide +kernel
theorem dX10_endsRound_92 : decode cX10_endsRound 92 = .ok (.getfield 362, 3) := by decide +kernel
theorem dX10_endsRound_95 : decode cX10_endsRound 95 = .ok (.iaload, 1) := by decide +kernel
theorem dX10_endsRound_96 : decode cX10_endsRound 96 = .ok (.isub, 1) := by decide +kernel
theorem dX10_endsRound_97 : decode cX10_endsRound 97 = .ok (.istore_n 2, 1) := by decide +kernel
theorem dX10_endsRound_98 : decode cX10_endsRound 98 = .ok (.aload_n 0, 1) := by decide +kernel
theorem dX10_endsRound_99 : decode cX10_endsRound 99 = .ok (.getfield 113, 3) := by decide +kernel
theorem dX10_endsRound_102 : decode cX10_endsRound 102 = .ok (.aload_n 0, 1) := by decide +kernel
theorem dX10_endsRound_103 : decode cX10_endsRound 103 = .ok (.getfield 362, 3) := by decide +kernel
theorem dX10_endsRound_106 : decode cX10_endsRound 106 = .ok (.iaload, 1) := by decide +kernel
theorem dX10_endsRound_107 : decode cX10_endsRound 107 = .ok (.iload_n 2, 1) := by decide +kernel
theorem dX10_endsRound_108 : decode cX10_endsRound 108 = .ok (.iload_n 1, 1) := by decide +kernel
theorem dX10_endsRound_109 : decode cX10_endsRound 109 = .ok (.imul, 1) := by decide +kernel
theorem dX10_endsRound_110 : decode cX10_endsRound 110 = .ok (.iadd, 1) := by decide +kernel
theorem dX10_endsRound_111 : decode cX10_endsRound 111 = .ok (.bipush 60, 2) := by decide +kernel
theorem dX10_endsRound_113 : decode cX10_endsRound 113 = .ok (.if_icmp .le 19, 3) := by decide +kernel
theorem dX10_endsRound_116 : decode cX10_endsRound 116 = .ok (.aload_n 0, 1) := by decide +kernel
theorem dX10_endsRound_117 : decode cX10_endsRound 117 = .ok (.bipush 6, 2) := by decide +kernel
theorem dX10_endsRound_119 : decode cX10_endsRound 119 = .ok (.aload_n 0, 1) := by decide +kernel
theorem dX10_endsRound_120 : decode cX10_endsRound 120 = .ok (.getfield 110, 3) := by decide +kernel
theorem dX10_endsRound_123 : decode cX10_endsRound 123 = .ok (.aload_n 0, 1) := by decide +kernel
theorem dX10_endsRound_124 : decode cX10_endsRound 124 = .ok (.getfield 362, 3) := by decide +kernel
theorem dX10_endsRound_127 : decode cX10_endsRound 127 = .ok (.iaload, 1) := by decide +kernel
theorem dX10_endsRound_128 : decode cX10_endsRound 128 = .ok (.invokevirtual 178, 3) := by decide +kernel
theorem dX10_endsRound_131 : decode cX10_endsRound 131 = .ok (.ireturn, 1) := by decide +kernel
theorem dX10_endsRound_132 : decode cX10_endsRound 132 = .ok (.iload_n 2, 1) := by decide +kernel
theorem dX10_endsRound_133 : decode cX10_endsRound 133 = .ok (.istore_n 3, 1) := by decide +kernel
theorem dX10_endsRound_134 : decode cX10_endsRound 134 = .ok (.iload_n 3, 1) := by decide +kernel
theorem dX10_endsRound_135 : decode cX10_endsRound 135 = .ok (.iload_n 2, 1) := by decide +kernel
theorem dX10_endsRound_136 : decode cX10_endsRound 136 = .ok (.iload_n 1, 1) := by decide +kernel
theorem dX10_endsRound_137 : decode cX10_endsRound 137 = .ok (.imul, 1) := by decide +kernel
theorem dX10_endsRound_138 : decode cX10_endsRound 138 = .ok (.if_icmp .ge 77, 3) := by decide +kernel
theorem dX10_endsRound_141 : decode cX10_endsRound 141 = .ok (.aload_n 0, 1) := by decide +kernel
theorem dX10_endsRound_142 : decode cX10_endsRound 142 = .ok (.getfield 104, 3) := by decide +kernel
theorem dX10_endsRound_145 : decode cX10_endsRound 145 = .ok (.aload_n 0, 1) := by decide +kernel
theorem dX10_endsRound_146 : decode cX10_endsRound 146 = .ok (.getfield 113, 3) := by decide +kernel
theorem dX10_endsRound_149 : decode cX10_endsRound 149 = .ok (.aload_n 0, 1) := by decide +kernel
theorem dX10_endsRound_150 : decode cX10_endsRound 150 = .ok (.getfield 362, 3) := by decide +kernel
theorem dX10_endsRound_153 : decode cX10_endsRound 153 = .ok (.iaload, 1) := by decide +kernel
theorem dX10_endsRound_154 : decode cX10_endsRound 154 = .ok (.iload_n 3, 1) := by decide +kernel
theorem dX10_endsRound_155 : decode cX10_endsRound 155 = .ok (.iadd, 1) := by decide +kernel
theorem dX10_endsRound_156 : decode cX10_endsRound 156 = .ok (.aload_n 0, 1) := by decide +kernel
theorem dX10_endsRound_157 : decode cX10_endsRound 157 = .ok (.getfield 104, 3) := by decide +kernel
theorem dX10_endsRound_160 : decode cX10_endsRound 160 = .ok (.aload_n 0, 1) := by decide +kernel
theorem dX10_endsRound_161 : decode cX10_endsRound 161 = .ok (.getfield 113, 3) := by decide +kernel
theorem dX10_endsRound_164 : decode cX10_endsRound 164 = .ok (.aload_n 0, 1) := by decide +kernel
theorem dX10_endsRound_165 : decode cX10_endsRound 165 = .ok (.getfield 362, 3) := by decide +kernel
theorem dX10_endsRound_168 : decode cX10_endsRound 168 = .ok (.iaload, 1) := by decide +kernel
theorem dX10_endsRound_169 : decode cX10_endsRound 169 = .ok (.iload_n 3, 1) := by decide +kernel
theorem dX10_endsRound_170 : decode cX10_endsRound 170 = .ok (.iadd, 1) := by decide +kernel
theorem dX10_endsRound_171 : decode cX10_endsRound 171 = .ok (.iload_n 2, 1) := by decide +kernel
theorem dX10_endsRound_172 : decode cX10_endsRound 172 = .ok (.isub, 1) := by decide +kernel
theorem dX10_endsRound_173 : decode cX10_endsRound 173 = .ok (.iaload, 1) := by decide +kernel
theorem dX10_endsRound_174 : decode cX10_endsRound 174 = .ok (.iastore, 1) := by decide +kernel
theorem dX10_endsRound_175 : decode cX10_endsRound 175 = .ok (.aload_n 0, 1) := by decide +kernel
theorem dX10_endsRound_176 : decode cX10_endsRound 176 = .ok (.getfield 107, 3) := by decide +kernel
theorem dX10_endsRound_179 : decode cX10_endsRound 179 = .ok (.aload_n 0, 1) := by decide +kernel
theorem dX10_endsRound_180 : decode cX10_endsRound 180 = .ok (.getfield 113, 3) := by decide +kernel
theorem dX10_endsRound_183 : decode cX10_endsRound 183 = .ok (.aload_n 0, 1) := by decide +kernel
theorem dX10_endsRound_184 : decode cX10_endsRound 184 = .ok (.getfield 362, 3) := by decide +kernel
theorem dX10_endsRound_187 : decode cX10_endsRound 187 = .ok (.iaload, 1) := by decide +kernel
theorem dX10_endsRound_188 : decode cX10_endsRound 188 = .ok (.iload_n 3, 1) := by decide +kernel
theorem dX10_endsRound_189 : decode cX10_endsRound 189 = .ok (.iadd, 1) := by decide +kernel
theorem dX10_endsRound_190 : decode cX10_endsRound 190 = .ok (.aload_n 0, 1) := by decide +kernel
theorem dX10_endsRound_191 : decode cX10_endsRound 191 = .ok (.getfield 107, 3) := by decide +kernel
theorem dX10_endsRound_194 : decode cX10_endsRound 194 = .ok (.aload_n 0, 1) := by decide +kernel
theorem dX10_endsRound_195 : decode cX10_endsRound 195 = .ok (.getfield 113, 3) := by decide +kernel
theorem dX10_endsRound_198 : decode cX10_endsRound 198 = .ok (.aload_n 0, 1) := by decide +kernel
theorem dX10_endsRound_199 : decode cX10_endsRound 199 = .ok (.getfield 362, 3) := by decide +kernel
theorem dX10_endsRound_202 : decode cX10_endsRound 202 = .ok (.iaload, 1) := by decide +kernel
theorem dX10_endsRound_203 : decode cX10_endsRound 203 = .ok (.iload_n 3, 1) := by decide +kernel
theorem dX10_endsRound_204 : decode cX10_endsRound 204 = .ok (.iadd, 1) := by decide +kernel
theorem dX10_endsRound_205 : decode cX10_endsRound 205 = .ok (.iload_n 2, 1) := by decide +kernel
theorem dX10_endsRound_206 : decode cX10_endsRound 206 = .ok (.isub, 1) := by decide +kernel
theorem dX10_endsRound_207 : decode cX10_endsRound 207 = .ok (.iaload, 1) := by decide +kernel
theorem dX10_endsRound_208 : decode cX10_endsRound 208 = .ok (.iastore, 1) := by decide +kernel
theorem dX10_endsRound_209 : decode cX10_endsRound 209 = .ok (.iinc 3 1, 3) := by decide +kernel
theorem dX10_endsRound_212 : decode cX10_endsRound 212 = .ok (.goto (-78), 3) := by decide +kernel
theorem dX10_endsRound_215 : decode cX10_endsRound 215 = .ok (.aload_n 0, 1) := by decide +kernel
theorem dX10_endsRound_216 : decode cX10_endsRound 216 = .ok (.aload_n 0, 1) := by decide +kernel
theorem dX10_endsRound_217 : decode cX10_endsRound 217 = .ok (.getfield 113, 3) := by decide +kernel
theorem dX10_endsRound_220 : decode cX10_endsRound 220 = .ok (.aload_n 0, 1) := by decide +kernel
theorem dX10_endsRound_221 : decode cX10_endsRound 221 = .ok (.getfield 362, 3) := by decide +kernel
theorem dX10_endsRound_224 : decode cX10_endsRound 224 = .ok (.iaload, 1) := by decide +kernel
theorem dX10_endsRound_225 : decode cX10_endsRound 225 = .ok (.iload_n 2, 1) := by decide +kernel
theorem dX10_endsRound_226 : decode cX10_endsRound 226 = .ok (.iload_n 1, 1) := by decide +kernel
theorem dX10_endsRound_227 : decode cX10_endsRound 227 = .ok (.imul, 1) := by decide +kernel
theorem dX10_endsRound_228 : decode cX10_endsRound 228 = .ok (.iadd, 1) := by decide +kernel
theorem dX10_endsRound_229 : decode cX10_endsRound 229 = .ok (.putfield 359, 3) := by decide +kernel
theorem dX10_endsRound_232 : decode cX10_endsRound 232 = .ok (.iconst 1, 1) := by decide +kernel
theorem dX10_endsRound_233 : decode cX10_endsRound 233 = .ok (.ireturn, 1) := by decide +kernel
theorem dX10_factOf_0 : decode cX10_factOf 0 = .ok (.iload_n 0, 1) := by decide +kernel
theorem dX10_factOf_1 : decode cX10_factOf 1 = .ok (.tableswitch 117 101 121 #[107, 117, 114, 117, 99, 117, 117, 117, 117, 109, 117, 117, 117, 111, 105, 117, 117, 117, 117, 101, 103], 99) := by decide +kernel
theorem dX10_factOf_100 : decode cX10_factOf 100 = .ok (.iconst 0, 1) := by decide +kernel
theorem dX10_factOf_101 : decode cX10_factOf 101 = .ok (.ireturn, 1) := by decide +kernel
theorem dX10_factOf_102 : decode cX10_factOf 102 = .ok (.iconst 1, 1) := by decide +kernel
theorem dX10_factOf_103 : decode cX10_factOf 103 = .ok (.ireturn, 1) := by decide +kernel
theorem dX10_factOf_104 : decode cX10_factOf 104 = .ok (.iconst 2, 1) := by decide +kernel
theorem dX10_factOf_105 : decode cX10_factOf 105 = .ok (.ireturn, 1) := by decide +kernel
theorem dX10_factOf_106 : decode cX10_factOf 106 = .ok (.iconst 3, 1) := by decide +kernel
theorem dX10_factOf_107 : decode cX10_factOf 107 = .ok (.ireturn, 1) := by decide +kernel
theorem dX10_factOf_108 : decode cX10_factOf 108 = .ok (.iconst 4, 1) := by decide +kernel
theorem dX10_factOf_109 : decode cX10_factOf 109 = .ok (.ireturn, 1) := by decide +kernel
theorem dX10_factOf_110 : decode cX10_factOf 110 = .ok (.iconst 5, 1) := by decide +kernel
theorem dX10_factOf_111 : decode cX10_factOf 111 = .ok (.ireturn, 1) := by decide +kernel
theorem dX10_factOf_112 : decode cX10_factOf 112 = .ok (.bipush 6, 2) := by decide +kernel
theorem dX10_factOf_114 : decode cX10_factOf 114 = .ok (.ireturn, 1) := by decide +kernel
theorem dX10_factOf_115 : decode cX10_factOf 115 = .ok (.bipush 7, 2) := by decide +kernel
theorem dX10_factOf_117 : decode cX10_factOf 117 = .ok (.ireturn, 1) := by decide +kernel
theorem dX10_factOf_118 : decode cX10_factOf 118 = .ok (.iconst (-1), 1) := by decide +kernel
theorem dX10_factOf_119 : decode cX10_factOf 119 = .ok (.ireturn, 1) := by decide +kernel
theorem dX10_types_0 : decode cX10_types 0 = .ok (.iconst 3, 1) := by decide +kernel
theorem dX10_types_1 : decode cX10_types 1 = .ok (.istore_n 2, 1) := by decide +kernel
theorem dX10_types_2 : decode cX10_types 2 = .ok (.iload_n 2, 1) := by decide +kernel
theorem dX10_types_3 : decode cX10_types 3 = .ok (.ifCond .lt 35, 3) := by decide +kernel
theorem dX10_types_6 : decode cX10_types 6 = .ok (.aload_n 0, 1) := by decide +kernel
theorem dX10_types_7 : decode cX10_types 7 = .ok (.getfield 22, 3) := by decide +kernel
theorem dX10_types_10 : decode cX10_types 10 = .ok (.aload_n 0, 1) := by decide +kernel
theorem dX10_types_11 : decode cX10_types 11 = .ok (.getfield 158, 3) := by decide +kernel
theorem dX10_types_14 : decode cX10_types 14 = .ok (.iload_n 1, 1) := by decide +kernel
theorem dX10_types_15 : decode cX10_types 15 = .ok (.bipush 8, 2) := by decide +kernel
theorem dX10_types_17 : decode cX10_types 17 = .ok (.iload_n 2, 1) := by decide +kernel
theorem dX10_types_18 : decode cX10_types 18 = .ok (.imul, 1) := by decide +kernel
theorem dX10_types_19 : decode cX10_types 19 = .ok (.ishr, 1) := by decide +kernel
theorem dX10_types_20 : decode cX10_types 20 = .ok (.i2b, 1) := by decide +kernel
theorem dX10_types_21 : decode cX10_types 21 = .ok (.bastore, 1) := by decide +kernel
theorem dX10_types_22 : decode cX10_types 22 = .ok (.aload_n 0, 1) := by decide +kernel
theorem dX10_types_23 : decode cX10_types 23 = .ok (.aload_n 0, 1) := by decide +kernel
theorem dX10_types_24 : decode cX10_types 24 = .ok (.getfield 158, 3) := by decide +kernel
theorem dX10_types_27 : decode cX10_types 27 = .ok (.iconst 1, 1) := by decide +kernel
theorem dX10_types_28 : decode cX10_types 28 = .ok (.iadd, 1) := by decide +kernel
theorem dX10_types_29 : decode cX10_types 29 = .ok (.putfield 158, 3) := by decide +kernel
theorem dX10_types_32 : decode cX10_types 32 = .ok (.iinc 2 (-1), 3) := by decide +kernel
theorem dX10_types_35 : decode cX10_types 35 = .ok (.goto (-33), 3) := by decide +kernel
theorem dX10_types_38 : decode cX10_types 38 = .ok (.return_, 1) := by decide +kernel
theorem dX10_feed_0 : decode cX10_feed 0 = .ok (.aload_n 0, 1) := by decide +kernel
theorem dX10_feed_1 : decode cX10_feed 1 = .ok (.getfield 158, 3) := by decide +kernel
theorem dX10_feed_4 : decode cX10_feed 4 = .ok (.bipush 20, 2) := by decide +kernel
theorem dX10_feed_6 : decode cX10_feed 6 = .ok (.iadd, 1) := by decide +kernel
theorem dX10_feed_7 : decode cX10_feed 7 = .ok (.sipush 260, 3) := by decide +kernel
theorem dX10_feed_10 : decode cX10_feed 10 = .ok (.if_icmp .le 5, 3) := by decide +kernel
theorem dX10_feed_13 : decode cX10_feed 13 = .ok (.iconst (-1), 1) := by decide +kernel
theorem dX10_feed_14 : decode cX10_feed 14 = .ok (.ireturn, 1) := by decide +kernel
theorem dX10_feed_15 : decode cX10_feed 15 = .ok (.aload_n 0, 1) := by decide +kernel
theorem dX10_feed_16 : decode cX10_feed 16 = .ok (.iload_n 1, 1) := by decide +kernel
theorem dX10_feed_17 : decode cX10_feed 17 = .ok (.invokevirtual 161, 3) := by decide +kernel
theorem dX10_feed_20 : decode cX10_feed 20 = .ok (.aload_n 0, 1) := by decide +kernel
theorem dX10_feed_21 : decode cX10_feed 21 = .ok (.iload_n 2, 1) := by decide +kernel
theorem dX10_feed_22 : decode cX10_feed 22 = .ok (.invokevirtual 161, 3) := by decide +kernel
theorem dX10_feed_25 : decode cX10_feed 25 = .ok (.aload_n 0, 1) := by decide +kernel
theorem dX10_feed_26 : decode cX10_feed 26 = .ok (.iload_n 3, 1) := by decide +kernel
theorem dX10_feed_27 : decode cX10_feed 27 = .ok (.invokevirtual 161, 3) := by decide +kernel
theorem dX10_feed_30 : decode cX10_feed 30 = .ok (.aload_n 0, 1) := by decide +kernel
theorem dX10_feed_31 : decode cX10_feed 31 = .ok (.iload 4, 2) := by decide +kernel
theorem dX10_feed_33 : decode cX10_feed 33 = .ok (.invokevirtual 161, 3) := by decide +kernel
theorem dX10_feed_36 : decode cX10_feed 36 = .ok (.aload_n 0, 1) := by decide +kernel
theorem dX10_feed_37 : decode cX10_feed 37 = .ok (.iload 5, 2) := by decide +kernel
theorem dX10_feed_39 : decode cX10_feed 39 = .ok (.invokevirtual 161, 3) := by decide +kernel
theorem dX10_feed_42 : decode cX10_feed 42 = .ok (.aload_n 0, 1) := by decide +kernel
theorem dX10_feed_43 : decode cX10_feed 43 = .ok (.getfield 158, 3) := by decide +kernel
theorem dX10_feed_46 : decode cX10_feed 46 = .ok (.ireturn, 1) := by decide +kernel
theorem dX10_nearTo_0 : decode cX10_nearTo 0 = .ok (.iconst 0, 1) := by decide +kernel
theorem dX10_nearTo_1 : decode cX10_nearTo 1 = .ok (.istore_n 2, 1) := by decide +kernel
theorem dX10_nearTo_2 : decode cX10_nearTo 2 = .ok (.iconst 0, 1) := by decide +kernel
theorem dX10_nearTo_3 : decode cX10_nearTo 3 = .ok (.istore_n 3, 1) := by decide +kernel
theorem dX10_nearTo_4 : decode cX10_nearTo 4 = .ok (.iload_n 3, 1) := by decide +kernel
theorem dX10_nearTo_5 : decode cX10_nearTo 5 = .ok (.bipush 40, 2) := by decide +kernel
theorem dX10_nearTo_7 : decode cX10_nearTo 7 = .ok (.if_icmp .ge 40, 3) := by decide +kernel
theorem dX10_nearTo_10 : decode cX10_nearTo 10 = .ok (.iload_n 3, 1) := by decide +kernel
theorem dX10_nearTo_11 : decode cX10_nearTo 11 = .ok (.iload_n 1, 1) := by decide +kernel
theorem dX10_nearTo_12 : decode cX10_nearTo 12 = .ok (.if_icmp .eq 29, 3) := by decide +kernel
theorem dX10_nearTo_15 : decode cX10_nearTo 15 = .ok (.aload_n 0, 1) := by decide +kernel
theorem dX10_nearTo_16 : decode cX10_nearTo 16 = .ok (.getfield 7, 3) := by decide +kernel
theorem dX10_nearTo_19 : decode cX10_nearTo 19 = .ok (.iconst 0, 1) := by decide +kernel
theorem dX10_nearTo_20 : decode cX10_nearTo 20 = .ok (.iload_n 3, 1) := by decide +kernel
theorem dX10_nearTo_21 : decode cX10_nearTo 21 = .ok (.iadd, 1) := by decide +kernel
theorem dX10_nearTo_22 : decode cX10_nearTo 22 = .ok (.iaload, 1) := by decide +kernel
theorem dX10_nearTo_23 : decode cX10_nearTo 23 = .ok (.iconst 1, 1) := by decide +kernel
theorem dX10_nearTo_24 : decode cX10_nearTo 24 = .ok (.if_icmp .ne 17, 3) := by decide +kernel
theorem dX10_nearTo_27 : decode cX10_nearTo 27 = .ok (.aload_n 0, 1) := by decide +kernel
theorem dX10_nearTo_28 : decode cX10_nearTo 28 = .ok (.iload_n 1, 1) := by decide +kernel
theorem dX10_nearTo_29 : decode cX10_nearTo 29 = .ok (.iload_n 3, 1) := by decide +kernel
theorem dX10_nearTo_30 : decode cX10_nearTo 30 = .ok (.invokevirtual 144, 3) := by decide +kernel
theorem dX10_nearTo_33 : decode cX10_nearTo 33 = .ok (.iconst 4, 1) := by decide +kernel
theorem dX10_nearTo_34 : decode cX10_nearTo 34 = .ok (.if_icmp .gt 7, 3) := by decide +kernel
theorem dX10_nearTo_37 : decode cX10_nearTo 37 = .ok (.iload_n 2, 1) := by decide +kernel
theorem dX10_nearTo_38 : decode cX10_nearTo 38 = .ok (.iconst 1, 1) := by decide +kernel
theorem dX10_nearTo_39 : decode cX10_nearTo 39 = .ok (.iadd, 1) := by decide +kernel
theorem dX10_nearTo_40 : decode cX10_nearTo 40 = .ok (.istore_n 2, 1) := by decide +kernel
theorem dX10_nearTo_41 : decode cX10_nearTo 41 = .ok (.iinc 3 1, 3) := by decide +kernel
theorem dX10_nearTo_44 : decode cX10_nearTo 44 = .ok (.goto (-40), 3) := by decide +kernel
theorem dX10_nearTo_47 : decode cX10_nearTo 47 = .ok (.iload_n 2, 1) := by decide +kernel
theorem dX10_nearTo_48 : decode cX10_nearTo 48 = .ok (.ireturn, 1) := by decide +kernel
theorem dX10_feels_0 : decode cX10_feels 0 = .ok (.aload_n 0, 1) := by decide +kernel
theorem dX10_feels_1 : decode cX10_feels 1 = .ok (.getfield 62, 3) := by decide +kernel
theorem dX10_feels_4 : decode cX10_feels 4 = .ok (.iconst 0, 1) := by decide +kernel
theorem dX10_feels_5 : decode cX10_feels 5 = .ok (.iload_n 1, 1) := by decide +kernel
theorem dX10_feels_6 : decode cX10_feels 6 = .ok (.iastore, 1) := by decide +kernel
theorem dX10_feels_7 : decode cX10_feels 7 = .ok (.aload_n 0, 1) := by decide +kernel
theorem dX10_feels_8 : decode cX10_feels 8 = .ok (.getfield 62, 3) := by decide +kernel
theorem dX10_feels_11 : decode cX10_feels 11 = .ok (.iconst 1, 1) := by decide +kernel
theorem dX10_feels_12 : decode cX10_feels 12 = .ok (.aload_n 0, 1) := by decide +kernel
theorem dX10_feels_13 : decode cX10_feels 13 = .ok (.getfield 7, 3) := by decide +kernel
theorem dX10_feels_16 : decode cX10_feels 16 = .ok (.bipush 40, 2) := by decide +kernel
theorem dX10_feels_18 : decode cX10_feels 18 = .ok (.iload_n 1, 1) := by decide +kernel
theorem dX10_feels_19 : decode cX10_feels 19 = .ok (.iadd, 1) := by decide +kernel
theorem dX10_feels_20 : decode cX10_feels 20 = .ok (.iaload, 1) := by decide +kernel
theorem dX10_feels_21 : decode cX10_feels 21 = .ok (.iastore, 1) := by decide +kernel
theorem dX10_feels_22 : decode cX10_feels 22 = .ok (.aload_n 0, 1) := by decide +kernel
theorem dX10_feels_23 : decode cX10_feels 23 = .ok (.getfield 62, 3) := by decide +kernel
theorem dX10_feels_26 : decode cX10_feels 26 = .ok (.iconst 2, 1) := by decide +kernel
theorem dX10_feels_27 : decode cX10_feels 27 = .ok (.aload_n 0, 1) := by decide +kernel
theorem dX10_feels_28 : decode cX10_feels 28 = .ok (.getfield 7, 3) := by decide +kernel
theorem dX10_feels_31 : decode cX10_feels 31 = .ok (.bipush 80, 2) := by decide +kernel
theorem dX10_feels_33 : decode cX10_feels 33 = .ok (.iload_n 1, 1) := by decide +kernel
theorem dX10_feels_34 : decode cX10_feels 34 = .ok (.iadd, 1) := by decide +kernel
theorem dX10_feels_35 : decode cX10_feels 35 = .ok (.iaload, 1) := by decide +kernel
theorem dX10_feels_36 : decode cX10_feels 36 = .ok (.iastore, 1) := by decide +kernel
theorem dX10_feels_37 : decode cX10_feels 37 = .ok (.aload_n 0, 1) := by decide +kernel
theorem dX10_feels_38 : decode cX10_feels 38 = .ok (.getfield 62, 3) := by decide +kernel
theorem dX10_feels_41 : decode cX10_feels 41 = .ok (.iconst 3, 1) := by decide +kernel
theorem dX10_feels_42 : decode cX10_feels 42 = .ok (.aload_n 0, 1) := by decide +kernel
theorem dX10_feels_43 : decode cX10_feels 43 = .ok (.getfield 7, 3) := by decide +kernel
theorem dX10_feels_46 : decode cX10_feels 46 = .ok (.bipush 120, 2) := by decide +kernel
theorem dX10_feels_48 : decode cX10_feels 48 = .ok (.iload_n 1, 1) := by decide +kernel
theorem dX10_feels_49 : decode cX10_feels 49 = .ok (.iadd, 1) := by decide +kernel
theorem dX10_feels_50 : decode cX10_feels 50 = .ok (.iaload, 1) := by decide +kernel
theorem dX10_feels_51 : decode cX10_feels 51 = .ok (.iastore, 1) := by decide +kernel
theorem dX10_feels_52 : decode cX10_feels 52 = .ok (.aload_n 0, 1) := by decide +kernel
theorem dX10_feels_53 : decode cX10_feels 53 = .ok (.getfield 62, 3) := by decide +kernel
theorem dX10_feels_56 : decode cX10_feels 56 = .ok (.iconst 4, 1) := by decide +kernel
theorem dX10_feels_57 : decode cX10_feels 57 = .ok (.aload_n 0, 1) := by decide +kernel
theorem dX10_feels_58 : decode cX10_feels 58 = .ok (.getfield 7, 3) := by decide +kernel
theorem dX10_feels_61 : decode cX10_feels 61 = .ok (.sipush 160, 3) := by decide +kernel
theorem dX10_feels_64 : decode cX10_feels 64 = .ok (.iload_n 1, 1) := by decide +kernel
theorem dX10_feels_65 : decode cX10_feels 65 = .ok (.iadd, 1) := by decide +kernel
theorem dX10_feels_66 : decode cX10_feels 66 = .ok (.iaload, 1) := by decide +kernel
theorem dX10_feels_67 : decode cX10_feels 67 = .ok (.iastore, 1) := by decide +kernel
theorem dX10_feels_68 : decode cX10_feels 68 = .ok (.aload_n 0, 1) := by decide +kernel
theorem dX10_feels_69 : decode cX10_feels 69 = .ok (.getfield 62, 3) := by decide +kernel
theorem dX10_feels_72 : decode cX10_feels 72 = .ok (.iconst 5, 1) := by decide +kernel
theorem dX10_feels_73 : decode cX10_feels 73 = .ok (.aload_n 0, 1) := by decide +kernel
theorem dX10_feels_74 : decode cX10_feels 74 = .ok (.iload_n 1, 1) := by decide +kernel
theorem dX10_feels_75 : decode cX10_feels 75 = .ok (.invokevirtual 268, 3) := by decide +kernel
theorem dX10_feels_78 : decode cX10_feels 78 = .ok (.iastore, 1) := by decide +kernel
theorem dX10_feels_79 : decode cX10_feels 79 = .ok (.aload_n 0, 1) := by decide +kernel
theorem dX10_feels_80 : decode cX10_feels 80 = .ok (.getfield 62, 3) := by decide +kernel
theorem dX10_feels_83 : decode cX10_feels 83 = .ok (.bipush 6, 2) := by decide +kernel
theorem dX10_feels_85 : decode cX10_feels 85 = .ok (.iload_n 2, 1) := by decide +kernel
theorem dX10_feels_86 : decode cX10_feels 86 = .ok (.iastore, 1) := by decide +kernel
theorem dX10_feels_87 : decode cX10_feels 87 = .ok (.aload_n 0, 1) := by decide +kernel
theorem dX10_feels_88 : decode cX10_feels 88 = .ok (.getfield 62, 3) := by decide +kernel
theorem dX10_feels_91 : decode cX10_feels 91 = .ok (.bipush 7, 2) := by decide +kernel
theorem dX10_feels_93 : decode cX10_feels 93 = .ok (.aload_n 0, 1) := by decide +kernel
theorem dX10_feels_94 : decode cX10_feels 94 = .ok (.getfield 7, 3) := by decide +kernel
theorem dX10_feels_97 : decode cX10_feels 97 = .ok (.sipush 200, 3) := by decide +kernel
theorem dX10_feels_100 : decode cX10_feels 100 = .ok (.iaload, 1) := by decide +kernel
theorem dX10_feels_101 : decode cX10_feels 101 = .ok (.bipush 100, 2) := by decide +kernel
theorem dX10_feels_103 : decode cX10_feels 103 = .ok (.irem, 1) := by decide +kernel
theorem dX10_feels_104 : decode cX10_feels 104 = .ok (.iastore, 1) := by decide +kernel
theorem dX10_feels_105 : decode cX10_feels 105 = .ok (.return_, 1) := by decide +kernel
theorem dX10_holdsAny_0 : decode cX10_holdsAny 0 = .ok (.iconst 0, 1) := by decide +kernel
theorem dX10_holdsAny_1 : decode cX10_holdsAny 1 = .ok (.istore_n 2, 1) := by decide +kernel
theorem dX10_holdsAny_2 : decode cX10_holdsAny 2 = .ok (.iload_n 2, 1) := by decide +kernel
theorem dX10_holdsAny_3 : decode cX10_holdsAny 3 = .ok (.aload_n 0, 1) := by decide +kernel
theorem dX10_holdsAny_4 : decode cX10_holdsAny 4 = .ok (.getfield 258, 3) := by decide +kernel
theorem dX10_holdsAny_7 : decode cX10_holdsAny 7 = .ok (.if_icmp .ge 41, 3) := by decide +kernel
theorem dX10_holdsAny_10 : decode cX10_holdsAny 10 = .ok (.aload_n 0, 1) := by decide +kernel
theorem dX10_holdsAny_11 : decode cX10_holdsAny 11 = .ok (.getfield 47, 3) := by decide +kernel
theorem dX10_holdsAny_14 : decode cX10_holdsAny 14 = .ok (.iload_n 2, 1) := by decide +kernel
theorem dX10_holdsAny_15 : decode cX10_holdsAny 15 = .ok (.iaload, 1) := by decide +kernel
theorem dX10_holdsAny_16 : decode cX10_holdsAny 16 = .ok (.iload_n 1, 1) := by decide +kernel
theorem dX10_holdsAny_17 : decode cX10_holdsAny 17 = .ok (.if_icmp .ne 25, 3) := by decide +kernel
theorem dX10_holdsAny_20 : decode cX10_holdsAny 20 = .ok (.aload_n 0, 1) := by decide +kernel
theorem dX10_holdsAny_21 : decode cX10_holdsAny 21 = .ok (.aload_n 0, 1) := by decide +kernel
theorem dX10_holdsAny_22 : decode cX10_holdsAny 22 = .ok (.getfield 53, 3) := by decide +kernel
theorem dX10_holdsAny_25 : decode cX10_holdsAny 25 = .ok (.iload_n 2, 1) := by decide +kernel
theorem dX10_holdsAny_26 : decode cX10_holdsAny 26 = .ok (.iaload, 1) := by decide +kernel
theorem dX10_holdsAny_27 : decode cX10_holdsAny 27 = .ok (.aload_n 0, 1) := by decide +kernel
theorem dX10_holdsAny_28 : decode cX10_holdsAny 28 = .ok (.getfield 56, 3) := by decide +kernel
theorem dX10_holdsAny_31 : decode cX10_holdsAny 31 = .ok (.iload_n 2, 1) := by decide +kernel
theorem dX10_holdsAny_32 : decode cX10_holdsAny 32 = .ok (.iaload, 1) := by decide +kernel
theorem dX10_holdsAny_33 : decode cX10_holdsAny 33 = .ok (.invokevirtual 265, 3) := by decide +kernel
theorem dX10_holdsAny_36 : decode cX10_holdsAny 36 = .ok (.iconst 1, 1) := by decide +kernel
theorem dX10_holdsAny_37 : decode cX10_holdsAny 37 = .ok (.if_icmp .ne 5, 3) := by decide +kernel
theorem dX10_holdsAny_40 : decode cX10_holdsAny 40 = .ok (.iconst 1, 1) := by decide +kernel
theorem dX10_holdsAny_41 : decode cX10_holdsAny 41 = .ok (.ireturn, 1) := by decide +kernel
theorem dX10_holdsAny_42 : decode cX10_holdsAny 42 = .ok (.iinc 2 1, 3) := by decide +kernel
theorem dX10_holdsAny_45 : decode cX10_holdsAny 45 = .ok (.goto (-43), 3) := by decide +kernel
theorem dX10_holdsAny_48 : decode cX10_holdsAny 48 = .ok (.iconst 0, 1) := by decide +kernel
theorem dX10_holdsAny_49 : decode cX10_holdsAny 49 = .ok (.ireturn, 1) := by decide +kernel
theorem dX10_moves_0 : decode cX10_moves 0 = .ok (.aload_n 0, 1) := by decide +kernel
theorem dX10_moves_1 : decode cX10_moves 1 = .ok (.getfield 7, 3) := by decide +kernel
theorem dX10_moves_4 : decode cX10_moves 4 = .ok (.sipush 201, 3) := by decide +kernel
theorem dX10_moves_7 : decode cX10_moves 7 = .ok (.sipush 25173, 3) := by decide +kernel
theorem dX10_moves_10 : decode cX10_moves 10 = .ok (.aload_n 0, 1) := by decide +kernel
theorem dX10_moves_11 : decode cX10_moves 11 = .ok (.getfield 7, 3) := by decide +kernel
theorem dX10_moves_14 : decode cX10_moves 14 = .ok (.sipush 201, 3) := by decide +kernel
theorem dX10_moves_17 : decode cX10_moves 17 = .ok (.iaload, 1) := by decide +kernel
theorem dX10_moves_18 : decode cX10_moves 18 = .ok (.imul, 1) := by decide +kernel
theorem dX10_moves_19 : decode cX10_moves 19 = .ok (.sipush 13849, 3) := by decide +kernel
theorem dX10_moves_22 : decode cX10_moves 22 = .ok (.iadd, 1) := by decide +kernel
theorem dX10_moves_23 : decode cX10_moves 23 = .ok (.ldc_w 283, 3) := by decide +kernel
theorem dX10_moves_26 : decode cX10_moves 26 = .ok (.irem, 1) := by decide +kernel
theorem dX10_moves_27 : decode cX10_moves 27 = .ok (.iastore, 1) := by decide +kernel
theorem dX10_moves_28 : decode cX10_moves 28 = .ok (.aload_n 0, 1) := by decide +kernel
theorem dX10_moves_29 : decode cX10_moves 29 = .ok (.getfield 7, 3) := by decide +kernel
theorem dX10_moves_32 : decode cX10_moves 32 = .ok (.sipush 201, 3) := by decide +kernel
theorem dX10_moves_35 : decode cX10_moves 35 = .ok (.iaload, 1) := by decide +kernel
theorem dX10_moves_36 : decode cX10_moves 36 = .ok (.bipush 10, 2) := by decide +kernel
theorem dX10_moves_38 : decode cX10_moves 38 = .ok (.irem, 1) := by decide +kernel
theorem dX10_moves_39 : decode cX10_moves 39 = .ok (.istore_n 2, 1) := by decide +kernel
theorem dX10_moves_40 : decode cX10_moves 40 = .ok (.aload_n 0, 1) := by decide +kernel
theorem dX10_moves_41 : decode cX10_moves 41 = .ok (.iload_n 1, 1) := by decide +kernel
theorem dX10_moves_42 : decode cX10_moves 42 = .ok (.iload_n 2, 1) := by decide +kernel
theorem dX10_moves_43 : decode cX10_moves 43 = .ok (.invokevirtual 284, 3) := by decide +kernel
theorem dX10_moves_46 : decode cX10_moves 46 = .ok (.aload_n 0, 1) := by decide +kernel
theorem dX10_moves_47 : decode cX10_moves 47 = .ok (.getfield 7, 3) := by decide +kernel
theorem dX10_moves_50 : decode cX10_moves 50 = .ok (.bipush 40, 2) := by decide +kernel
theorem dX10_moves_52 : decode cX10_moves 52 = .ok (.iload_n 1, 1) := by decide +kernel
theorem dX10_moves_53 : decode cX10_moves 53 = .ok (.iadd, 1) := by decide +kernel
theorem dX10_moves_54 : decode cX10_moves 54 = .ok (.iaload, 1) := by decide +kernel
theorem dX10_moves_55 : decode cX10_moves 55 = .ok (.aload_n 0, 1) := by decide +kernel
theorem dX10_moves_56 : decode cX10_moves 56 = .ok (.bipush 117, 2) := by decide +kernel
theorem dX10_moves_58 : decode cX10_moves 58 = .ok (.bipush 9, 2) := by decide +kernel
theorem dX10_moves_60 : decode cX10_moves 60 = .ok (.invokevirtual 287, 3) := by decide +kernel
theorem dX10_moves_63 : decode cX10_moves 63 = .ok (.iadd, 1) := by decide +kernel
theorem dX10_moves_64 : decode cX10_moves 64 = .ok (.aload_n 0, 1) := by decide +kernel
theorem dX10_moves_65 : decode cX10_moves 65 = .ok (.bipush 100, 2) := by decide +kernel
theorem dX10_moves_67 : decode cX10_moves 67 = .ok (.bipush 9, 2) := by decide +kernel
theorem dX10_moves_69 : decode cX10_moves 69 = .ok (.invokevirtual 287, 3) := by decide +kernel
theorem dX10_moves_72 : decode cX10_moves 72 = .ok (.isub, 1) := by decide +kernel
theorem dX10_moves_73 : decode cX10_moves 73 = .ok (.iconst 0, 1) := by decide +kernel
theorem dX10_moves_74 : decode cX10_moves 74 = .ok (.bipush 39, 2) := by decide +kernel
theorem dX10_moves_76 : decode cX10_moves 76 = .ok (.invokestatic 290, 3) := by decide +kernel
theorem dX10_moves_79 : decode cX10_moves 79 = .ok (.istore_n 3, 1) := by decide +kernel
theorem dX10_moves_80 : decode cX10_moves 80 = .ok (.aload_n 0, 1) := by decide +kernel
theorem dX10_moves_81 : decode cX10_moves 81 = .ok (.getfield 7, 3) := by decide +kernel
theorem dX10_moves_84 : decode cX10_moves 84 = .ok (.bipush 80, 2) := by decide +kernel
theorem dX10_moves_86 : decode cX10_moves 86 = .ok (.iload_n 1, 1) := by decide +kernel
theorem dX10_moves_87 : decode cX10_moves 87 = .ok (.iadd, 1) := by decide +kernel
theorem dX10_moves_88 : decode cX10_moves 88 = .ok (.iaload, 1) := by decide +kernel
theorem dX10_moves_89 : decode cX10_moves 89 = .ok (.aload_n 0, 1) := by decide +kernel
theorem dX10_moves_90 : decode cX10_moves 90 = .ok (.bipush 111, 2) := by decide +kernel
theorem dX10_moves_92 : decode cX10_moves 92 = .ok (.bipush 9, 2) := by decide +kernel
theorem dX10_moves_94 : decode cX10_moves 94 = .ok (.invokevirtual 287, 3) := by decide +kernel
theorem dX10_moves_97 : decode cX10_moves 97 = .ok (.iadd, 1) := by decide +kernel
theorem dX10_moves_98 : decode cX10_moves 98 = .ok (.aload_n 0, 1) := by decide +kernel
theorem dX10_moves_99 : decode cX10_moves 99 = .ok (.bipush 98, 2) := by decide +kernel
theorem dX10_moves_101 : decode cX10_moves 101 = .ok (.bipush 9, 2) := by decide +kernel
theorem dX10_moves_103 : decode cX10_moves 103 = .ok (.invokevirtual 287, 3) := by decide +kernel
theorem dX10_moves_106 : decode cX10_moves 106 = .ok (.isub, 1) := by decide +kernel
theorem dX10_moves_107 : decode cX10_moves 107 = .ok (.iconst 1, 1) := by decide +kernel
theorem dX10_moves_108 : decode cX10_moves 108 = .ok (.bipush 20, 2) := by decide +kernel
theorem dX10_moves_110 : decode cX10_moves 110 = .ok (.invokestatic 290, 3) := by decide +kernel
theorem dX10_moves_113 : decode cX10_moves 113 = .ok (.istore 4, 2) := by decide +kernel
theorem dX10_moves_115 : decode cX10_moves 115 = .ok (.aload_n 0, 1) := by decide +kernel
theorem dX10_moves_116 : decode cX10_moves 116 = .ok (.iload_n 3, 1) := by decide +kernel
theorem dX10_moves_117 : decode cX10_moves 117 = .ok (.iload 4, 2) := by decide +kernel
theorem dX10_moves_119 : decode cX10_moves 119 = .ok (.invokevirtual 147, 3) := by decide +kernel
theorem dX10_moves_122 : decode cX10_moves 122 = .ok (.istore 5, 2) := by decide +kernel
theorem dX10_moves_124 : decode cX10_moves 124 = .ok (.iload 5, 2) := by decide +kernel
theorem dX10_moves_126 : decode cX10_moves 126 = .ok (.iconst (-1), 1) := by decide +kernel
theorem dX10_moves_127 : decode cX10_moves 127 = .ok (.if_icmp .ne 37, 3) := by decide +kernel
theorem dX10_moves_130 : decode cX10_moves 130 = .ok (.aload_n 0, 1) := by decide +kernel
theorem dX10_moves_131 : decode cX10_moves 131 = .ok (.getfield 7, 3) := by decide +kernel
theorem dX10_moves_134 : decode cX10_moves 134 = .ok (.bipush 40, 2) := by decide +kernel
theorem dX10_moves_136 : decode cX10_moves 136 = .ok (.iload_n 1, 1) := by decide +kernel
theorem dX10_moves_137 : decode cX10_moves 137 = .ok (.iadd, 1) := by decide +kernel
theorem dX10_moves_138 : decode cX10_moves 138 = .ok (.iload_n 3, 1) := by decide +kernel
theorem dX10_moves_139 : decode cX10_moves 139 = .ok (.iastore, 1) := by decide +kernel
theorem dX10_moves_140 : decode cX10_moves 140 = .ok (.aload_n 0, 1) := by decide +kernel
theorem dX10_moves_141 : decode cX10_moves 141 = .ok (.getfield 7, 3) := by decide +kernel
theorem dX10_moves_144 : decode cX10_moves 144 = .ok (.bipush 80, 2) := by decide +kernel
theorem dX10_moves_146 : decode cX10_moves 146 = .ok (.iload_n 1, 1) := by decide +kernel
theorem dX10_moves_147 : decode cX10_moves 147 = .ok (.iadd, 1) := by decide +kernel
theorem dX10_moves_148 : decode cX10_moves 148 = .ok (.iload 4, 2) := by decide +kernel
theorem dX10_moves_150 : decode cX10_moves 150 = .ok (.iastore, 1) := by decide +kernel
theorem dX10_moves_151 : decode cX10_moves 151 = .ok (.aload_n 0, 1) := by decide +kernel
theorem dX10_moves_152 : decode cX10_moves 152 = .ok (.aload_n 0, 1) := by decide +kernel
theorem dX10_moves_153 : decode cX10_moves 153 = .ok (.getfield 293, 3) := by decide +kernel
theorem dX10_moves_156 : decode cX10_moves 156 = .ok (.iconst 1, 1) := by decide +kernel
theorem dX10_moves_157 : decode cX10_moves 157 = .ok (.iadd, 1) := by decide +kernel
theorem dX10_moves_158 : decode cX10_moves 158 = .ok (.putfield 293, 3) := by decide +kernel
theorem dX10_moves_161 : decode cX10_moves 161 = .ok (.goto 19, 3) := by decide +kernel
theorem dX10_moves_164 : decode cX10_moves 164 = .ok (.iload 5, 2) := by decide +kernel
theorem dX10_moves_166 : decode cX10_moves 166 = .ok (.iload_n 1, 1) := by decide +kernel
theorem dX10_moves_167 : decode cX10_moves 167 = .ok (.if_icmp .eq 13, 3) := by decide +kernel
theorem dX10_moves_170 : decode cX10_moves 170 = .ok (.aload_n 0, 1) := by decide +kernel
theorem dX10_moves_171 : decode cX10_moves 171 = .ok (.aload_n 0, 1) := by decide +kernel
theorem dX10_moves_172 : decode cX10_moves 172 = .ok (.getfield 296, 3) := by decide +kernel
theorem dX10_moves_175 : decode cX10_moves 175 = .ok (.iconst 1, 1) := by decide +kernel
theorem dX10_moves_176 : decode cX10_moves 176 = .ok (.iadd, 1) := by decide +kernel
theorem dX10_moves_177 : decode cX10_moves 177 = .ok (.putfield 296, 3) := by decide +kernel
theorem dX10_moves_180 : decode cX10_moves 180 = .ok (.aload_n 0, 1) := by decide +kernel
theorem dX10_moves_181 : decode cX10_moves 181 = .ok (.iload_n 1, 1) := by decide +kernel
theorem dX10_moves_182 : decode cX10_moves 182 = .ok (.iload_n 2, 1) := by decide +kernel
theorem dX10_moves_183 : decode cX10_moves 183 = .ok (.invokevirtual 284, 3) := by decide +kernel
theorem dX10_moves_186 : decode cX10_moves 186 = .ok (.aload_n 0, 1) := by decide +kernel
theorem dX10_moves_187 : decode cX10_moves 187 = .ok (.getfield 7, 3) := by decide +kernel
theorem dX10_moves_190 : decode cX10_moves 190 = .ok (.sipush 160, 3) := by decide +kernel
theorem dX10_moves_193 : decode cX10_moves 193 = .ok (.iload_n 1, 1) := by decide +kernel
theorem dX10_moves_194 : decode cX10_moves 194 = .ok (.iadd, 1) := by decide +kernel
theorem dX10_moves_195 : decode cX10_moves 195 = .ok (.aload_n 0, 1) := by decide +kernel
theorem dX10_moves_196 : decode cX10_moves 196 = .ok (.bipush 120, 2) := by decide +kernel
theorem dX10_moves_198 : decode cX10_moves 198 = .ok (.invokevirtual 299, 3) := by decide +kernel
theorem dX10_moves_201 : decode cX10_moves 201 = .ok (.ifCond .eq 7, 3) := by decide +kernel
theorem dX10_moves_204 : decode cX10_moves 204 = .ok (.iconst 1, 1) := by decide +kernel
theorem dX10_moves_205 : decode cX10_moves 205 = .ok (.goto 4, 3) := by decide +kernel
theorem dX10_moves_208 : decode cX10_moves 208 = .ok (.iconst 0, 1) := by decide +kernel
theorem dX10_moves_209 : decode cX10_moves 209 = .ok (.iastore, 1) := by decide +kernel
theorem dX10_moves_210 : decode cX10_moves 210 = .ok (.return_, 1) := by decide +kernel
set_option maxHeartbeats 4000000 in
theorem t_X10_driest (v1 : Int32) (v2 : Int32) (M : Mem) : AXi yX10_driest cX10_driest 4 (some .int) 3 39 glM (fun ad => [.ref (ad 0), .int v1, .int v2]) M (f_X10_driest M v1 v2) := by
  intro r0 h
  refine AM.of (by decide) (fun _ => Nat.le_of_ble_eq_true rfl) (fun X ad cI cZ cB hX hR => ?_)
  show V X M [(0, .ref (ad 0)), (1, .int v1), (2, .int v2)] [] 0
  refine s_aload_n (k := 0) hX dX10_driest_0 rfl rfl ?_
  refine s_iload_n (k := 1) hX dX10_driest_1 rfl rfl ?_
  refine e_callVp hX (t_X10_isPerson v1 M) mX10_isPerson lX10_334 (by decide) (by decide) oM0 rfl rfl rfl rfl rfl (Nat.le_of_ble_eq_true rfl) dX10_driest_2 h (fun r_1 h => ?_)
  refine e_if_eq (tgt := 17) hX dX10_driest_5 (by decide) z_eq h (fun h => ?_) (fun h => ?_)
  · refine s_iconst (v := (-1)) hX dX10_driest_17 (by decide) ?_
    exact e_ireti hX hR dX10_driest_18 h
  · refine s_iload_n (k := 2) hX dX10_driest_8 rfl rfl ?_
    refine s_iconst (v := (nI 0)) hX dX10_driest_9 (by decide) ?_
    refine s_iconst (v := (nI 1)) hX dX10_driest_10 (by decide) ?_
    refine e_callSp hX (t_X10_in v2 (nI 0) (nI 1) M) mX10_in lX10_132 (by decide) (by decide) rfl rfl (Nat.le_of_ble_eq_true rfl) dX10_driest_11 h (fun r_2 h => ?_)
    refine e_if_ne (tgt := 19) hX dX10_driest_14 (by decide) z_eq h (fun h => ?_) (fun h => ?_)
    · refine s_aload_n (k := 0) hX dX10_driest_19 rfl rfl ?_
      refine s_aload_n (k := 0) hX dX10_driest_20 rfl rfl ?_
      refine s_get hX fX10_19 oM0 rfl dX10_driest_21 ?_
      refine s_iload_n (k := 1) hX dX10_driest_24 rfl rfl ?_
      refine e_iald hX aM4 dX10_driest_25 h (fun h => ?_)
      refine e_callVi hX (t_X10_dryCost (M 4 (ix v1)) M) mX10_dryCost lX10_344 (by decide) (by decide) oM0 rfl rfl rfl rfl rfl (Nat.le_of_ble_eq_true rfl) dX10_driest_26 h (fun r_3 M_4 h => ?_)
      refine s_istore_n (lv' := [(0, .ref (ad 0)), (1, .int v1), (2, .int v2), (3, .int r_3)]) hX dX10_driest_29 rfl (by decide) rfl ?_
      refine s_iload_n (k := 3) hX dX10_driest_30 rfl rfl ?_
      refine s_ldcw (v := (nI 1000000)) hX kX10_343 dX10_driest_31 ?_
      refine e_icmp_lt (tgt := 40) hX dX10_driest_34 (by decide) (m_lt (by decide +kernel)) h (fun h => ?_) (fun h => ?_)
      · refine s_iload_n (k := 2) hX dX10_driest_40 rfl rfl ?_
        refine e_if_ne (tgt := 51) hX dX10_driest_41 (by decide) z_eq h (fun h => ?_) (fun h => ?_)
        · refine s_iload_n (k := 3) hX dX10_driest_51 rfl rfl ?_
          refine s_bipush (v := (nI 100)) hX dX10_driest_52 (by decide) ?_
          refine s_iremL hX dX10_driest_54 (by decide) ?_
          exact e_ireti hX hR dX10_driest_55 h
        · refine s_iload_n (k := 3) hX dX10_driest_44 rfl rfl ?_
          refine s_bipush (v := (nI 100)) hX dX10_driest_45 (by decide) ?_
          refine s_idiv hX dX10_driest_47 (by decide) ?_
          refine s_goto (tgt := 55) hX dX10_driest_48 (by decide) ?_
          exact e_ireti hX hR dX10_driest_55 h
      · refine s_bipush (v := (-2)) hX dX10_driest_37 (by decide) ?_
        exact e_ireti hX hR dX10_driest_39 h
    · refine s_iconst (v := (-1)) hX dX10_driest_17 (by decide) ?_
      exact e_ireti hX hR dX10_driest_18 h
set_option maxHeartbeats 4000000 in
theorem t_X10_endsPiece (M : Mem) : AXv yX10_endsPiece cX10_endsPiece 1 none 1 39 glM (fun ad => [.ref (ad 0)]) M (f_X10_endsPiece M) := by
  intro r0 h
  refine AM.of (by decide) (fun _ => Nat.le_of_ble_eq_true rfl) (fun X ad cI cZ cB hX hR => ?_)
  show V X M [(0, .ref (ad 0))] [] 0
  have lp0 : ∀ (N0 : Nat) (M0 : Mem), wlp1 f_X10_endsPiece_B0 N0 M0 = some r0 → V X M0 [(0, .ref (ad 0))] [] 0 := by
    intro N0
    induction N0 with
    | zero => exact fun _ h => e_none h
    | succ N0 ih0 =>
      intro M0 h
      replace h : f_X10_endsPiece_B0 (wlp1 f_X10_endsPiece_B0 N0) M0 = some r0 := h
      generalize wlp1 f_X10_endsPiece_B0 N0 = ag0 at ih0 h
      refine s_aload_n (k := 0) hX dX10_endsPiece_0 rfl rfl ?_
      refine e_callVp hX (t_X10_waitTop M0) mX10_waitTop lX10_198 (by decide) (by decide) oM0 rfl rfl rfl rfl rfl (Nat.le_of_ble_eq_true rfl) dX10_endsPiece_1 h (fun r_1 h => ?_)
      refine s_bipush (v := (nI 10)) hX dX10_endsPiece_4 (by decide) ?_
      refine e_icmp_ne (tgt := 39) hX dX10_endsPiece_6 (by decide) (m_eq (by decide +kernel)) h (fun h => ?_) (fun h => ?_)
      · exact e_vret hX hR dX10_endsPiece_39 h
      · refine s_aload_n (k := 0) hX dX10_endsPiece_9 rfl rfl ?_
        refine s_bipush (v := (nI 10)) hX dX10_endsPiece_10 (by decide) ?_
        refine s_iconst (v := (nI 0)) hX dX10_endsPiece_12 (by decide) ?_
        refine e_callVv hX (t_X10_notes (nI 10) (nI 0) M0) mX10_notes lX10_201 (by decide) (by decide) oM0 rfl rfl rfl rfl rfl (Nat.le_of_ble_eq_true rfl) dX10_endsPiece_13 h (fun M_2 h => ?_)
        refine s_aload_n (k := 0) hX dX10_endsPiece_16 rfl rfl ?_
        refine s_aload_n (k := 0) hX dX10_endsPiece_17 rfl rfl ?_
        refine s_get hX fX10_195 oM0 rfl dX10_endsPiece_18 ?_
        refine s_iconst (v := (nI 1)) hX dX10_endsPiece_21 (by decide) ?_
        refine s_isub hX dX10_endsPiece_22 ?_
        refine s_puti (ty := .int) hX fX10_195 oM0 rfl (Nat.le_of_ble_eq_true rfl) ty_10_13 rfl rfl dX10_endsPiece_23 ?_
        refine e_bndM h (fun M_3 h => ?_)
        refine s_aload_n (k := 0) hX dX10_endsPiece_26 rfl rfl ?_
        refine s_aload_n (k := 0) hX dX10_endsPiece_27 rfl rfl ?_
        refine s_get hX fX10_192 oM0 rfl dX10_endsPiece_28 ?_
        refine s_iconst (v := (nI 1)) hX dX10_endsPiece_31 (by decide) ?_
        refine s_isub hX dX10_endsPiece_32 ?_
        refine s_puti (ty := .int) hX fX10_192 oM0 rfl (Nat.le_of_ble_eq_true rfl) ty_10_11 rfl rfl dX10_endsPiece_33 ?_
        refine e_bndM h (fun M_4 h => ?_)
        refine s_goto (tgt := 0) hX dX10_endsPiece_36 (by decide) ?_
        exact ih0 M_4 h
  exact lp0 FU M h
set_option maxHeartbeats 4000000 in
theorem t_X10_here (M : Mem) : AXp yX10_here cX10_here 1 (some .int) 0 39 glM (fun ad => [.ref (ad 0)]) M (f_X10_here M) := by
  intro r0 h
  refine AM.of (by decide) (fun _ => Nat.le_of_ble_eq_true rfl) (fun X ad cI cZ cB hX hR => ?_)
  show V X M [(0, .ref (ad 0))] [] 0
  refine s_aload_n (k := 0) hX dX10_here_0 rfl rfl ?_
  refine s_get hX fX10_165 oM0 rfl dX10_here_1 ?_
  refine s_aload_n (k := 0) hX dX10_here_4 rfl rfl ?_
  refine s_get hX fX10_168 oM0 rfl dX10_here_5 ?_
  refine e_icmp_ge (tgt := 27) hX dX10_here_8 (by decide) r_le h (fun h => ?_) (fun h => ?_)
  · refine s_iconst (v := (-1)) hX dX10_here_27 (by decide) ?_
    exact e_iretp hX hR dX10_here_28 h
  · refine s_aload_n (k := 0) hX dX10_here_11 rfl rfl ?_
    refine s_get hX fX10_22 oM0 rfl dX10_here_12 ?_
    refine s_aload_n (k := 0) hX dX10_here_15 rfl rfl ?_
    refine s_get hX fX10_165 oM0 rfl dX10_here_16 ?_
    refine e_bald hX aM5 dX10_here_19 h (fun h => ?_)
    refine s_sipush (v := (nI 255)) hX dX10_here_20 (by decide) ?_
    refine s_iand hX dX10_here_23 ?_
    refine s_goto (tgt := 28) hX dX10_here_24 (by decide) ?_
    exact e_iretp hX hR dX10_here_28 h
set_option maxHeartbeats 4000000 in
theorem t_X10_wrongAt (v1 : Int32) (v2 : Int32) (M : Mem) : AXi yX10_wrongAt cX10_wrongAt 3 (some .boolean) 0 39 glM (fun ad => [.ref (ad 0), .int v1, .int v2]) M (f_X10_wrongAt M v1 v2) := by
  intro r0 h
  refine AM.of (by decide) (fun _ => Nat.le_of_ble_eq_true rfl) (fun X ad cI cZ cB hX hR => ?_)
  show V X M [(0, .ref (ad 0)), (1, .int v1), (2, .int v2)] [] 0
  refine s_aload_n (k := 0) hX dX10_wrongAt_0 rfl rfl ?_
  refine s_sipush (v := (-1000)) hX dX10_wrongAt_1 (by decide) ?_
  refine s_iload_n (k := 1) hX dX10_wrongAt_4 rfl rfl ?_
  refine s_imul hX dX10_wrongAt_5 ?_
  refine s_iload_n (k := 2) hX dX10_wrongAt_6 rfl rfl ?_
  refine s_isub hX dX10_wrongAt_7 ?_
  refine s_puti (ty := .int) hX fX10_175 oM0 rfl (Nat.le_of_ble_eq_true rfl) ty_10_9 rfl rfl dX10_wrongAt_8 ?_
  refine e_bndM h (fun M_1 h => ?_)
  refine s_iconst (v := (nI 0)) hX dX10_wrongAt_11 (by decide) ?_
  exact e_zretiL hX hR dX10_wrongAt_12 (by decide) h
set_option maxHeartbeats 4000000 in
theorem t_X10_endsRound (M : Mem) : AXi yX10_endsRound cX10_endsRound 4 (some .boolean) 1 39 glM (fun ad => [.ref (ad 0)]) M (f_X10_endsRound M) := by
  intro r0 h
  refine AM.of (by decide) (fun _ => Nat.le_of_ble_eq_true rfl) (fun X ad cI cZ cB hX hR => ?_)
  show V X M [(0, .ref (ad 0))] [] 0
  refine s_aload_n (k := 0) hX dX10_endsRound_0 rfl rfl ?_
  refine s_aload_n (k := 0) hX dX10_endsRound_1 rfl rfl ?_
  refine s_get hX fX10_165 oM0 rfl dX10_endsRound_2 ?_
  refine s_iconst (v := (nI 1)) hX dX10_endsRound_5 (by decide) ?_
  refine s_iadd hX dX10_endsRound_6 ?_
  refine s_puti (ty := .int) hX fX10_165 oM0 rfl (Nat.le_of_ble_eq_true rfl) ty_10_7 rfl rfl dX10_endsRound_7 ?_
  refine e_bndM h (fun M_1 h => ?_)
  refine s_iconst (v := (nI 1)) hX dX10_endsRound_10 (by decide) ?_
  refine s_istore_n (lv' := [(0, .ref (ad 0)), (1, .int (nI 1))]) hX dX10_endsRound_11 rfl (by decide) rfl ?_
  refine s_aload_n (k := 0) hX dX10_endsRound_12 rfl rfl ?_
  refine e_callVp hX (t_X10_here M_1) mX10_here lX10_171 (by decide) (by decide) oM0 rfl rfl rfl rfl rfl (Nat.le_of_ble_eq_true rfl) dX10_endsRound_13 h (fun r_2 h => ?_)
  refine s_bipush (v := (nI 120)) hX dX10_endsRound_16 (by decide) ?_
  have j73 : ∀ (N73 : Mem) (z1_73 : Int32), f_X10_endsRound_L73 N73 z1_73 = some r0 → V X N73 [(0, .ref (ad 0)), (1, .int z1_73)] [] 73 := by
    intro N73 z1_73 h
    refine s_aload_n (k := 0) hX dX10_endsRound_73 rfl rfl ?_
    refine s_aload_n (k := 0) hX dX10_endsRound_74 rfl rfl ?_
    refine s_get hX fX10_362 oM0 rfl dX10_endsRound_75 ?_
    refine s_iconst (v := (nI 1)) hX dX10_endsRound_78 (by decide) ?_
    refine s_isub hX dX10_endsRound_79 ?_
    refine s_puti (ty := .int) hX fX10_362 oM0 rfl (Nat.le_of_ble_eq_true rfl) ty_10_50 rfl rfl dX10_endsRound_80 ?_
    refine e_bndM h (fun M_3 h => ?_)
    refine s_aload_n (k := 0) hX dX10_endsRound_83 rfl rfl ?_
    refine s_get hX fX10_359 oM0 rfl dX10_endsRound_84 ?_
    refine s_aload_n (k := 0) hX dX10_endsRound_87 rfl rfl ?_
    refine s_get hX fX10_113 oM0 rfl dX10_endsRound_88 ?_
    refine s_aload_n (k := 0) hX dX10_endsRound_91 rfl rfl ?_
    refine s_get hX fX10_362 oM0 rfl dX10_endsRound_92 ?_
    refine e_iald hX aM35 dX10_endsRound_95 h (fun h => ?_)
    refine s_isub hX dX10_endsRound_96 ?_
    refine e_bnd h (fun x_4 h => ?_)
    refine s_istore_n (lv' := [(0, .ref (ad 0)), (1, .int z1_73), (2, .int x_4)]) hX dX10_endsRound_97 rfl (by decide) rfl ?_
    refine s_aload_n (k := 0) hX dX10_endsRound_98 rfl rfl ?_
    refine s_get hX fX10_113 oM0 rfl dX10_endsRound_99 ?_
    refine s_aload_n (k := 0) hX dX10_endsRound_102 rfl rfl ?_
    refine s_get hX fX10_362 oM0 rfl dX10_endsRound_103 ?_
    refine e_iald hX aM35 dX10_endsRound_106 h (fun h => ?_)
    refine s_iload_n (k := 2) hX dX10_endsRound_107 rfl rfl ?_
    refine s_iload_n (k := 1) hX dX10_endsRound_108 rfl rfl ?_
    refine s_imul hX dX10_endsRound_109 ?_
    refine s_iadd hX dX10_endsRound_110 ?_
    refine s_bipush (v := (nI 60)) hX dX10_endsRound_111 (by decide) ?_
    refine e_icmp_le (tgt := 132) hX dX10_endsRound_113 (by decide) (m_le (by decide +kernel)) h (fun h => ?_) (fun h => ?_)
    · refine s_iload_n (k := 2) hX dX10_endsRound_132 rfl rfl ?_
      refine s_istore_n (lv' := [(0, .ref (ad 0)), (1, .int z1_73), (2, .int x_4), (3, .int x_4)]) hX dX10_endsRound_133 rfl (by decide) rfl ?_
      have lp134 : ∀ (N134 : Nat) (M134 : Mem) (y3_134 : Int32), wlp2 (f_X10_endsRound_B134 z1_73 x_4) N134 M134 y3_134 = some r0 → V X M134 [(0, .ref (ad 0)), (1, .int z1_73), (2, .int x_4), (3, .int y3_134)] [] 134 := by
        intro N134
        induction N134 with
        | zero => exact fun _ _ h => e_none h
        | succ N134 ih134 =>
          intro M134 y3_134 h
          replace h : f_X10_endsRound_B134 z1_73 x_4 (wlp2 (f_X10_endsRound_B134 z1_73 x_4) N134) M134 y3_134 = some r0 := h
          generalize wlp2 (f_X10_endsRound_B134 z1_73 x_4) N134 = ag134 at ih134 h
          refine s_iload_n (k := 3) hX dX10_endsRound_134 rfl rfl ?_
          refine s_iload_n (k := 2) hX dX10_endsRound_135 rfl rfl ?_
          refine s_iload_n (k := 1) hX dX10_endsRound_136 rfl rfl ?_
          refine s_imul hX dX10_endsRound_137 ?_
          have j215 : f_X10_endsRound_L215 z1_73 x_4 M134 = some r0 → V X M134 [(0, .ref (ad 0)), (1, .int z1_73), (2, .int x_4)] [] 215 := by
            intro  h
            refine s_aload_n (k := 0) hX dX10_endsRound_215 rfl rfl ?_
            refine s_aload_n (k := 0) hX dX10_endsRound_216 rfl rfl ?_
            refine s_get hX fX10_113 oM0 rfl dX10_endsRound_217 ?_
            refine s_aload_n (k := 0) hX dX10_endsRound_220 rfl rfl ?_
            refine s_get hX fX10_362 oM0 rfl dX10_endsRound_221 ?_
            refine e_iald hX aM35 dX10_endsRound_224 h (fun h => ?_)
            refine s_iload_n (k := 2) hX dX10_endsRound_225 rfl rfl ?_
            refine s_iload_n (k := 1) hX dX10_endsRound_226 rfl rfl ?_
            refine s_imul hX dX10_endsRound_227 ?_
            refine s_iadd hX dX10_endsRound_228 ?_
            refine s_puti (ty := .int) hX fX10_359 oM0 rfl (Nat.le_of_ble_eq_true rfl) ty_10_49 rfl rfl dX10_endsRound_229 ?_
            refine e_bndM h (fun M_5 h => ?_)
            refine s_iconst (v := (nI 1)) hX dX10_endsRound_232 (by decide) ?_
            exact e_zretiL hX hR dX10_endsRound_233 (by decide) h
          refine e_icmp_ge (tgt := 215) hX dX10_endsRound_138 (by decide) r_le h (fun h => ?_) (fun h => ?_)
          · refine s_loc [0, 1, 2] rfl ?_
            exact j215 h
          · refine s_aload_n (k := 0) hX dX10_endsRound_141 rfl rfl ?_
            refine s_get hX fX10_104 oM0 rfl dX10_endsRound_142 ?_
            refine s_aload_n (k := 0) hX dX10_endsRound_145 rfl rfl ?_
            refine s_get hX fX10_113 oM0 rfl dX10_endsRound_146 ?_
            refine s_aload_n (k := 0) hX dX10_endsRound_149 rfl rfl ?_
            refine s_get hX fX10_362 oM0 rfl dX10_endsRound_150 ?_
            refine e_iald hX aM35 dX10_endsRound_153 h (fun h => ?_)
            refine s_iload_n (k := 3) hX dX10_endsRound_154 rfl rfl ?_
            refine s_iadd hX dX10_endsRound_155 ?_
            refine s_aload_n (k := 0) hX dX10_endsRound_156 rfl rfl ?_
            refine s_get hX fX10_104 oM0 rfl dX10_endsRound_157 ?_
            refine s_aload_n (k := 0) hX dX10_endsRound_160 rfl rfl ?_
            refine s_get hX fX10_113 oM0 rfl dX10_endsRound_161 ?_
            refine s_aload_n (k := 0) hX dX10_endsRound_164 rfl rfl ?_
            refine s_get hX fX10_362 oM0 rfl dX10_endsRound_165 ?_
            refine e_iald hX aM35 dX10_endsRound_168 h (fun h => ?_)
            refine s_iload_n (k := 3) hX dX10_endsRound_169 rfl rfl ?_
            refine s_iadd hX dX10_endsRound_170 ?_
            refine s_iload_n (k := 2) hX dX10_endsRound_171 rfl rfl ?_
            refine s_isub hX dX10_endsRound_172 ?_
            refine e_iald hX aM32 dX10_endsRound_173 h (fun h => ?_)
            refine e_iast hX aM32 dX10_endsRound_174 h (fun h => ?_)
            refine e_bndM h (fun M_6 h => ?_)
            refine s_aload_n (k := 0) hX dX10_endsRound_175 rfl rfl ?_
            refine s_get hX fX10_107 oM0 rfl dX10_endsRound_176 ?_
            refine s_aload_n (k := 0) hX dX10_endsRound_179 rfl rfl ?_
            refine s_get hX fX10_113 oM0 rfl dX10_endsRound_180 ?_
            refine s_aload_n (k := 0) hX dX10_endsRound_183 rfl rfl ?_
            refine s_get hX fX10_362 oM0 rfl dX10_endsRound_184 ?_
            refine e_iald hX aM35 dX10_endsRound_187 h (fun h => ?_)
            refine s_iload_n (k := 3) hX dX10_endsRound_188 rfl rfl ?_
            refine s_iadd hX dX10_endsRound_189 ?_
            refine s_aload_n (k := 0) hX dX10_endsRound_190 rfl rfl ?_
            refine s_get hX fX10_107 oM0 rfl dX10_endsRound_191 ?_
            refine s_aload_n (k := 0) hX dX10_endsRound_194 rfl rfl ?_
            refine s_get hX fX10_113 oM0 rfl dX10_endsRound_195 ?_
            refine s_aload_n (k := 0) hX dX10_endsRound_198 rfl rfl ?_
            refine s_get hX fX10_362 oM0 rfl dX10_endsRound_199 ?_
            refine e_iald hX aM35 dX10_endsRound_202 h (fun h => ?_)
            refine s_iload_n (k := 3) hX dX10_endsRound_203 rfl rfl ?_
            refine s_iadd hX dX10_endsRound_204 ?_
            refine s_iload_n (k := 2) hX dX10_endsRound_205 rfl rfl ?_
            refine s_isub hX dX10_endsRound_206 ?_
            refine e_iald hX aM33 dX10_endsRound_207 h (fun h => ?_)
            refine e_iast hX aM33 dX10_endsRound_208 h (fun h => ?_)
            refine e_bndM h (fun M_7 h => ?_)
            refine s_iinc (k := 3) (v := (y3_134 + (nI 1))) (lv' := [(0, .ref (ad 0)), (1, .int z1_73), (2, .int x_4), (3, .int (y3_134 + (nI 1)))]) hX dX10_endsRound_209 (congrArg (fun z => y3_134 + z) (by decide)) (by decide) rfl rfl ?_
            refine s_goto (tgt := 134) hX dX10_endsRound_212 (by decide) ?_
            exact ih134 M_7 (y3_134 + (nI 1)) h
      exact lp134 FU M_3 x_4 h
    · refine s_aload_n (k := 0) hX dX10_endsRound_116 rfl rfl ?_
      refine s_bipush (v := (nI 6)) hX dX10_endsRound_117 (by decide) ?_
      refine s_aload_n (k := 0) hX dX10_endsRound_119 rfl rfl ?_
      refine s_get hX fX10_110 oM0 rfl dX10_endsRound_120 ?_
      refine s_aload_n (k := 0) hX dX10_endsRound_123 rfl rfl ?_
      refine s_get hX fX10_362 oM0 rfl dX10_endsRound_124 ?_
      refine e_iald hX aM34 dX10_endsRound_127 h (fun h => ?_)
      refine e_callVi hX (t_X10_wrongAt (nI 6) (M_3 34 (ix (M_3 0 50))) M_3) mX10_wrongAt lX10_178 (by decide) (by decide) oM0 rfl rfl rfl rfl rfl (Nat.le_of_ble_eq_true rfl) dX10_endsRound_128 h (fun r_8 M_9 h => ?_)
      exact e_zreti hX hR dX10_endsRound_131 h
  refine e_icmp_ne (tgt := 73) hX dX10_endsRound_18 (by decide) (m_eq (by decide +kernel)) h (fun h => ?_) (fun h => ?_)
  · exact j73 M_1 (nI 1) h
  · refine s_aload_n (k := 0) hX dX10_endsRound_21 rfl rfl ?_
    refine s_aload_n (k := 0) hX dX10_endsRound_22 rfl rfl ?_
    refine s_get hX fX10_165 oM0 rfl dX10_endsRound_23 ?_
    refine s_iconst (v := (nI 1)) hX dX10_endsRound_26 (by decide) ?_
    refine s_iadd hX dX10_endsRound_27 ?_
    refine s_puti (ty := .int) hX fX10_165 oM0 rfl (Nat.le_of_ble_eq_true rfl) ty_10_7 rfl rfl dX10_endsRound_28 ?_
    refine e_bndM h (fun M_10 h => ?_)
    refine s_aload_n (k := 0) hX dX10_endsRound_31 rfl rfl ?_
    refine e_callVp hX (t_X10_here M_10) mX10_here lX10_171 (by decide) (by decide) oM0 rfl rfl rfl rfl rfl (Nat.le_of_ble_eq_true rfl) dX10_endsRound_32 h (fun r_11 h => ?_)
    refine s_bipush (v := (nI 50)) hX dX10_endsRound_35 (by decide) ?_
    refine s_bipush (v := (nI 57)) hX dX10_endsRound_37 (by decide) ?_
    refine e_callSp hX (t_X10_in r_11 (nI 50) (nI 57) M_10) mX10_in lX10_132 (by decide) (by decide) rfl rfl (Nat.le_of_ble_eq_true rfl) dX10_endsRound_39 h (fun r_12 h => ?_)
    refine e_if_ne (tgt := 55) hX dX10_endsRound_42 (by decide) z_eq h (fun h => ?_) (fun h => ?_)
    · refine s_aload_n (k := 0) hX dX10_endsRound_55 rfl rfl ?_
      refine e_callVp hX (t_X10_here M_10) mX10_here lX10_171 (by decide) (by decide) oM0 rfl rfl rfl rfl rfl (Nat.le_of_ble_eq_true rfl) dX10_endsRound_56 h (fun r_13 h => ?_)
      refine s_bipush (v := (nI 48)) hX dX10_endsRound_59 (by decide) ?_
      refine s_isub hX dX10_endsRound_61 ?_
      refine s_istore_n (lv' := [(0, .ref (ad 0)), (1, .int (r_13 - (nI 48)))]) hX dX10_endsRound_62 rfl (by decide) rfl ?_
      refine s_aload_n (k := 0) hX dX10_endsRound_63 rfl rfl ?_
      refine s_aload_n (k := 0) hX dX10_endsRound_64 rfl rfl ?_
      refine s_get hX fX10_165 oM0 rfl dX10_endsRound_65 ?_
      refine s_iconst (v := (nI 1)) hX dX10_endsRound_68 (by decide) ?_
      refine s_iadd hX dX10_endsRound_69 ?_
      refine s_puti (ty := .int) hX fX10_165 oM0 rfl (Nat.le_of_ble_eq_true rfl) ty_10_7 rfl rfl dX10_endsRound_70 ?_
      refine e_bndM h (fun M_14 h => ?_)
      exact j73 M_14 (r_13 - (nI 48)) h
    · refine s_aload_n (k := 0) hX dX10_endsRound_45 rfl rfl ?_
      refine s_iconst (v := (nI 1)) hX dX10_endsRound_46 (by decide) ?_
      refine s_aload_n (k := 0) hX dX10_endsRound_47 rfl rfl ?_
      refine s_get hX fX10_165 oM0 rfl dX10_endsRound_48 ?_
      refine e_callVi hX (t_X10_wrongAt (nI 1) (M_10 0 7) M_10) mX10_wrongAt lX10_178 (by decide) (by decide) oM0 rfl rfl rfl rfl rfl (Nat.le_of_ble_eq_true rfl) dX10_endsRound_51 h (fun r_15 M_16 h => ?_)
      exact e_zreti hX hR dX10_endsRound_54 h
set_option maxHeartbeats 4000000 in
theorem t_X10_factOf (v0 : Int32) (M : Mem) : AXp yX10_factOf cX10_factOf 1 (some .int) 0 39 glM (fun ad => [.int v0]) M (f_X10_factOf v0) := by
  intro r0 h
  refine AM.of (by decide) (fun _ => Nat.le_of_ble_eq_true rfl) (fun X ad cI cZ cB hX hR => ?_)
  show V X M [(0, .int v0)] [] 0
  refine s_iload_n (k := 0) hX dX10_factOf_0 rfl rfl ?_
  refine e_if h (fun c101 h => ?_) (fun c101 h => ?_)
  · refine s_tabIn (tgt := 108) (off := 107) hX dX10_factOf_1 (by omega) (by omega) (by rw [c101]; rfl) (by decide) ?_
    refine s_iconst (v := (nI 4)) hX dX10_factOf_108 (by decide) ?_
    exact e_iretp hX hR dX10_factOf_109 h
  refine e_if h (fun c103 h => ?_) (fun c103 h => ?_)
  · refine s_tabIn (tgt := 115) (off := 114) hX dX10_factOf_1 (by omega) (by omega) (by rw [c103]; rfl) (by decide) ?_
    refine s_bipush (v := (nI 7)) hX dX10_factOf_115 (by decide) ?_
    exact e_iretp hX hR dX10_factOf_117 h
  refine e_if h (fun c105 h => ?_) (fun c105 h => ?_)
  · refine s_tabIn (tgt := 100) (off := 99) hX dX10_factOf_1 (by omega) (by omega) (by rw [c105]; rfl) (by decide) ?_
    refine s_iconst (v := (nI 0)) hX dX10_factOf_100 (by decide) ?_
    exact e_iretp hX hR dX10_factOf_101 h
  refine e_if h (fun c110 h => ?_) (fun c110 h => ?_)
  · refine s_tabIn (tgt := 110) (off := 109) hX dX10_factOf_1 (by omega) (by omega) (by rw [c110]; rfl) (by decide) ?_
    refine s_iconst (v := (nI 5)) hX dX10_factOf_110 (by decide) ?_
    exact e_iretp hX hR dX10_factOf_111 h
  refine e_if h (fun c114 h => ?_) (fun c114 h => ?_)
  · refine s_tabIn (tgt := 112) (off := 111) hX dX10_factOf_1 (by omega) (by omega) (by rw [c114]; rfl) (by decide) ?_
    refine s_bipush (v := (nI 6)) hX dX10_factOf_112 (by decide) ?_
    exact e_iretp hX hR dX10_factOf_114 h
  refine e_if h (fun c115 h => ?_) (fun c115 h => ?_)
  · refine s_tabIn (tgt := 106) (off := 105) hX dX10_factOf_1 (by omega) (by omega) (by rw [c115]; rfl) (by decide) ?_
    refine s_iconst (v := (nI 3)) hX dX10_factOf_106 (by decide) ?_
    exact e_iretp hX hR dX10_factOf_107 h
  refine e_if h (fun c120 h => ?_) (fun c120 h => ?_)
  · refine s_tabIn (tgt := 102) (off := 101) hX dX10_factOf_1 (by omega) (by omega) (by rw [c120]; rfl) (by decide) ?_
    refine s_iconst (v := (nI 1)) hX dX10_factOf_102 (by decide) ?_
    exact e_iretp hX hR dX10_factOf_103 h
  refine e_if h (fun c121 h => ?_) (fun c121 h => ?_)
  · refine s_tabIn (tgt := 104) (off := 103) hX dX10_factOf_1 (by omega) (by omega) (by rw [c121]; rfl) (by decide) ?_
    refine s_iconst (v := (nI 2)) hX dX10_factOf_104 (by decide) ?_
    exact e_iretp hX hR dX10_factOf_105 h
  by_cases c102 : v0.toInt = 102
  · refine s_tabIn (tgt := 118) (off := 117) hX dX10_factOf_1 (by omega) (by omega) (by rw [c102]; rfl) (by decide) ?_
    refine s_iconst (v := (-1)) hX dX10_factOf_118 (by decide) ?_
    exact e_iretp hX hR dX10_factOf_119 h
  by_cases c104 : v0.toInt = 104
  · refine s_tabIn (tgt := 118) (off := 117) hX dX10_factOf_1 (by omega) (by omega) (by rw [c104]; rfl) (by decide) ?_
    refine s_iconst (v := (-1)) hX dX10_factOf_118 (by decide) ?_
    exact e_iretp hX hR dX10_factOf_119 h
  by_cases c106 : v0.toInt = 106
  · refine s_tabIn (tgt := 118) (off := 117) hX dX10_factOf_1 (by omega) (by omega) (by rw [c106]; rfl) (by decide) ?_
    refine s_iconst (v := (-1)) hX dX10_factOf_118 (by decide) ?_
    exact e_iretp hX hR dX10_factOf_119 h
  by_cases c107 : v0.toInt = 107
  · refine s_tabIn (tgt := 118) (off := 117) hX dX10_factOf_1 (by omega) (by omega) (by rw [c107]; rfl) (by decide) ?_
    refine s_iconst (v := (-1)) hX dX10_factOf_118 (by decide) ?_
    exact e_iretp hX hR dX10_factOf_119 h
  by_cases c108 : v0.toInt = 108
  · refine s_tabIn (tgt := 118) (off := 117) hX dX10_factOf_1 (by omega) (by omega) (by rw [c108]; rfl) (by decide) ?_
    refine s_iconst (v := (-1)) hX dX10_factOf_118 (by decide) ?_
    exact e_iretp hX hR dX10_factOf_119 h
  by_cases c109 : v0.toInt = 109
  · refine s_tabIn (tgt := 118) (off := 117) hX dX10_factOf_1 (by omega) (by omega) (by rw [c109]; rfl) (by decide) ?_
    refine s_iconst (v := (-1)) hX dX10_factOf_118 (by decide) ?_
    exact e_iretp hX hR dX10_factOf_119 h
  by_cases c111 : v0.toInt = 111
  · refine s_tabIn (tgt := 118) (off := 117) hX dX10_factOf_1 (by omega) (by omega) (by rw [c111]; rfl) (by decide) ?_
    refine s_iconst (v := (-1)) hX dX10_factOf_118 (by decide) ?_
    exact e_iretp hX hR dX10_factOf_119 h
  by_cases c112 : v0.toInt = 112
  · refine s_tabIn (tgt := 118) (off := 117) hX dX10_factOf_1 (by omega) (by omega) (by rw [c112]; rfl) (by decide) ?_
    refine s_iconst (v := (-1)) hX dX10_factOf_118 (by decide) ?_
    exact e_iretp hX hR dX10_factOf_119 h
  by_cases c113 : v0.toInt = 113
  · refine s_tabIn (tgt := 118) (off := 117) hX dX10_factOf_1 (by omega) (by omega) (by rw [c113]; rfl) (by decide) ?_
    refine s_iconst (v := (-1)) hX dX10_factOf_118 (by decide) ?_
    exact e_iretp hX hR dX10_factOf_119 h
  by_cases c116 : v0.toInt = 116
  · refine s_tabIn (tgt := 118) (off := 117) hX dX10_factOf_1 (by omega) (by omega) (by rw [c116]; rfl) (by decide) ?_
    refine s_iconst (v := (-1)) hX dX10_factOf_118 (by decide) ?_
    exact e_iretp hX hR dX10_factOf_119 h
  by_cases c117 : v0.toInt = 117
  · refine s_tabIn (tgt := 118) (off := 117) hX dX10_factOf_1 (by omega) (by omega) (by rw [c117]; rfl) (by decide) ?_
    refine s_iconst (v := (-1)) hX dX10_factOf_118 (by decide) ?_
    exact e_iretp hX hR dX10_factOf_119 h
  by_cases c118 : v0.toInt = 118
  · refine s_tabIn (tgt := 118) (off := 117) hX dX10_factOf_1 (by omega) (by omega) (by rw [c118]; rfl) (by decide) ?_
    refine s_iconst (v := (-1)) hX dX10_factOf_118 (by decide) ?_
    exact e_iretp hX hR dX10_factOf_119 h
  by_cases c119 : v0.toInt = 119
  · refine s_tabIn (tgt := 118) (off := 117) hX dX10_factOf_1 (by omega) (by omega) (by rw [c119]; rfl) (by decide) ?_
    refine s_iconst (v := (-1)) hX dX10_factOf_118 (by decide) ?_
    exact e_iretp hX hR dX10_factOf_119 h
  refine s_tabOut (tgt := 118) hX dX10_factOf_1 (by omega) (by decide) ?_
  refine s_iconst (v := (-1)) hX dX10_factOf_118 (by decide) ?_
  exact e_iretp hX hR dX10_factOf_119 h
set_option maxHeartbeats 4000000 in
theorem t_X10_types (v1 : Int32) (M : Mem) : AXv yX10_types cX10_types 3 none 0 39 glM (fun ad => [.ref (ad 0), .int v1]) M (f_X10_types M v1) := by
  intro r0 h
  refine AM.of (by decide) (fun _ => Nat.le_of_ble_eq_true rfl) (fun X ad cI cZ cB hX hR => ?_)
  show V X M [(0, .ref (ad 0)), (1, .int v1)] [] 0
  refine s_iconst (v := (nI 3)) hX dX10_types_0 (by decide) ?_
  refine s_istore_n (lv' := [(0, .ref (ad 0)), (1, .int v1), (2, .int (nI 3))]) hX dX10_types_1 rfl (by decide) rfl ?_
  have lp2 : ∀ (N2 : Nat) (M2 : Mem) (y2_2 : Int32), wlp2 (f_X10_types_B2 v1) N2 M2 y2_2 = some r0 → V X M2 [(0, .ref (ad 0)), (1, .int v1), (2, .int y2_2)] [] 2 := by
    intro N2
    induction N2 with
    | zero => exact fun _ _ h => e_none h
    | succ N2 ih2 =>
      intro M2 y2_2 h
      replace h : f_X10_types_B2 v1 (wlp2 (f_X10_types_B2 v1) N2) M2 y2_2 = some r0 := h
      generalize wlp2 (f_X10_types_B2 v1) N2 = ag2 at ih2 h
      refine s_iload_n (k := 2) hX dX10_types_2 rfl rfl ?_
      refine e_if_lt (tgt := 38) hX dX10_types_3 (by decide) z_lt h (fun h => ?_) (fun h => ?_)
      · exact e_vret hX hR dX10_types_38 h
      · refine s_aload_n (k := 0) hX dX10_types_6 rfl rfl ?_
        refine s_get hX fX10_22 oM0 rfl dX10_types_7 ?_
        refine s_aload_n (k := 0) hX dX10_types_10 rfl rfl ?_
        refine s_get hX fX10_158 oM0 rfl dX10_types_11 ?_
        refine s_iload_n (k := 1) hX dX10_types_14 rfl rfl ?_
        refine s_bipush (v := (nI 8)) hX dX10_types_15 (by decide) ?_
        refine s_iload_n (k := 2) hX dX10_types_17 rfl rfl ?_
        refine s_imul hX dX10_types_18 ?_
        refine e_ishr hX dX10_types_19 ?_
        refine s_i2b (v := i2b (shr v1 ((nI 8) * y2_2))) hX dX10_types_20 rfl ?_
        refine e_bast hX aM5 dX10_types_21 h (fun h => ?_)
        refine e_bndM h (fun M_1 h => ?_)
        refine s_aload_n (k := 0) hX dX10_types_22 rfl rfl ?_
        refine s_aload_n (k := 0) hX dX10_types_23 rfl rfl ?_
        refine s_get hX fX10_158 oM0 rfl dX10_types_24 ?_
        refine s_iconst (v := (nI 1)) hX dX10_types_27 (by decide) ?_
        refine s_iadd hX dX10_types_28 ?_
        refine s_puti (ty := .int) hX fX10_158 oM0 rfl (Nat.le_of_ble_eq_true rfl) ty_10_6 rfl rfl dX10_types_29 ?_
        refine e_bndM h (fun M_2 h => ?_)
        refine s_iinc (k := 2) (v := (y2_2 + (-1))) (lv' := [(0, .ref (ad 0)), (1, .int v1), (2, .int (y2_2 + (-1)))]) hX dX10_types_32 (congrArg (fun z => y2_2 + z) (by decide)) (by decide) rfl rfl ?_
        refine s_goto (tgt := 2) hX dX10_types_35 (by decide) ?_
        exact ih2 M_2 (y2_2 + (-1)) h
  exact lp2 FU M (nI 3) h
set_option maxHeartbeats 4000000 in
theorem t_X10_feed (v1 : Int32) (v2 : Int32) (v3 : Int32) (v4 : Int32) (v5 : Int32) (M : Mem) : AXi yX10_feed cX10_feed 6 (some .int) 1 39 glM (fun ad => [.ref (ad 0), .int v1, .int v2, .int v3, .int v4, .int v5]) M (f_X10_feed M v1 v2 v3 v4 v5) := by
  intro r0 h
  refine AM.of (by decide) (fun _ => Nat.le_of_ble_eq_true rfl) (fun X ad cI cZ cB hX hR => ?_)
  show V X M [(0, .ref (ad 0)), (1, .int v1), (2, .int v2), (3, .int v3), (4, .int v4), (5, .int v5)] [] 0
  refine s_aload_n (k := 0) hX dX10_feed_0 rfl rfl ?_
  refine s_get hX fX10_158 oM0 rfl dX10_feed_1 ?_
  refine s_bipush (v := (nI 20)) hX dX10_feed_4 (by decide) ?_
  refine s_iadd hX dX10_feed_6 ?_
  refine s_sipush (v := (nI 260)) hX dX10_feed_7 (by decide) ?_
  refine e_icmp_le (tgt := 15) hX dX10_feed_10 (by decide) (m_le (by decide +kernel)) h (fun h => ?_) (fun h => ?_)
  · refine s_aload_n (k := 0) hX dX10_feed_15 rfl rfl ?_
    refine s_iload_n (k := 1) hX dX10_feed_16 rfl rfl ?_
    refine e_callVv hX (t_X10_types v1 M) mX10_types lX10_161 (by decide) (by decide) oM0 rfl rfl rfl rfl rfl (Nat.le_of_ble_eq_true rfl) dX10_feed_17 h (fun M_1 h => ?_)
    refine s_aload_n (k := 0) hX dX10_feed_20 rfl rfl ?_
    refine s_iload_n (k := 2) hX dX10_feed_21 rfl rfl ?_
    refine e_callVv hX (t_X10_types v2 M_1) mX10_types lX10_161 (by decide) (by decide) oM0 rfl rfl rfl rfl rfl (Nat.le_of_ble_eq_true rfl) dX10_feed_22 h (fun M_2 h => ?_)
    refine s_aload_n (k := 0) hX dX10_feed_25 rfl rfl ?_
    refine s_iload_n (k := 3) hX dX10_feed_26 rfl rfl ?_
    refine e_callVv hX (t_X10_types v3 M_2) mX10_types lX10_161 (by decide) (by decide) oM0 rfl rfl rfl rfl rfl (Nat.le_of_ble_eq_true rfl) dX10_feed_27 h (fun M_3 h => ?_)
    refine s_aload_n (k := 0) hX dX10_feed_30 rfl rfl ?_
    refine s_iload (k := 4) hX dX10_feed_31 rfl ?_
    refine e_callVv hX (t_X10_types v4 M_3) mX10_types lX10_161 (by decide) (by decide) oM0 rfl rfl rfl rfl rfl (Nat.le_of_ble_eq_true rfl) dX10_feed_33 h (fun M_4 h => ?_)
    refine s_aload_n (k := 0) hX dX10_feed_36 rfl rfl ?_
    refine s_iload (k := 5) hX dX10_feed_37 rfl ?_
    refine e_callVv hX (t_X10_types v5 M_4) mX10_types lX10_161 (by decide) (by decide) oM0 rfl rfl rfl rfl rfl (Nat.le_of_ble_eq_true rfl) dX10_feed_39 h (fun M_5 h => ?_)
    refine s_aload_n (k := 0) hX dX10_feed_42 rfl rfl ?_
    refine s_get hX fX10_158 oM0 rfl dX10_feed_43 ?_
    exact e_ireti hX hR dX10_feed_46 h
  · refine s_iconst (v := (-1)) hX dX10_feed_13 (by decide) ?_
    exact e_ireti hX hR dX10_feed_14 h
set_option maxHeartbeats 4000000 in
theorem t_X10_nearTo (v1 : Int32) (M : Mem) : AXp yX10_nearTo cX10_nearTo 4 (some .int) 1 39 glM (fun ad => [.ref (ad 0), .int v1]) M (f_X10_nearTo M v1) := by
  intro r0 h
  refine AM.of (by decide) (fun _ => Nat.le_of_ble_eq_true rfl) (fun X ad cI cZ cB hX hR => ?_)
  show V X M [(0, .ref (ad 0)), (1, .int v1)] [] 0
  refine s_iconst (v := (nI 0)) hX dX10_nearTo_0 (by decide) ?_
  refine s_istore_n (lv' := [(0, .ref (ad 0)), (1, .int v1), (2, .int (nI 0))]) hX dX10_nearTo_1 rfl (by decide) rfl ?_
  refine s_iconst (v := (nI 0)) hX dX10_nearTo_2 (by decide) ?_
  refine s_istore_n (lv' := [(0, .ref (ad 0)), (1, .int v1), (2, .int (nI 0)), (3, .int (nI 0))]) hX dX10_nearTo_3 rfl (by decide) rfl ?_
  have lp4 : ∀ (N4 : Nat) (y2_4 : Int32) (y3_4 : Int32), wlp2 (f_X10_nearTo_B4 M v1) N4 y2_4 y3_4 = some r0 → V X M [(0, .ref (ad 0)), (1, .int v1), (2, .int y2_4), (3, .int y3_4)] [] 4 := by
    intro N4
    induction N4 with
    | zero => exact fun _ _ h => e_none h
    | succ N4 ih4 =>
      intro y2_4 y3_4 h
      replace h : f_X10_nearTo_B4 M v1 (wlp2 (f_X10_nearTo_B4 M v1) N4) y2_4 y3_4 = some r0 := h
      generalize wlp2 (f_X10_nearTo_B4 M v1) N4 = ag4 at ih4 h
      refine s_iload_n (k := 3) hX dX10_nearTo_4 rfl rfl ?_
      refine s_bipush (v := (nI 40)) hX dX10_nearTo_5 (by decide) ?_
      refine e_icmp_ge (tgt := 47) hX dX10_nearTo_7 (by decide) (m_ge (by decide +kernel)) h (fun h => ?_) (fun h => ?_)
      · refine s_iload_n (k := 2) hX dX10_nearTo_47 rfl rfl ?_
        exact e_iretp hX hR dX10_nearTo_48 h
      · refine s_iload_n (k := 3) hX dX10_nearTo_10 rfl rfl ?_
        refine s_iload_n (k := 1) hX dX10_nearTo_11 rfl rfl ?_
        refine e_icmp_eq (tgt := 41) hX dX10_nearTo_12 (by decide) r_eq h (fun h => ?_) (fun h => ?_)
        · refine s_iinc (k := 3) (v := (y3_4 + (nI 1))) (lv' := [(0, .ref (ad 0)), (1, .int v1), (2, .int y2_4), (3, .int (y3_4 + (nI 1)))]) hX dX10_nearTo_41 (congrArg (fun z => y3_4 + z) (by decide)) (by decide) rfl rfl ?_
          refine s_goto (tgt := 4) hX dX10_nearTo_44 (by decide) ?_
          exact ih4 y2_4 (y3_4 + (nI 1)) h
        · refine s_aload_n (k := 0) hX dX10_nearTo_15 rfl rfl ?_
          refine s_get hX fX10_7 oM0 rfl dX10_nearTo_16 ?_
          refine s_iconst (v := (nI 0)) hX dX10_nearTo_19 (by decide) ?_
          refine s_iload_n (k := 3) hX dX10_nearTo_20 rfl rfl ?_
          refine s_iadd hX dX10_nearTo_21 ?_
          refine s_top (zadd _) ?_
          refine e_iald hX aM1 dX10_nearTo_22 h (fun h => ?_)
          refine s_iconst (v := (nI 1)) hX dX10_nearTo_23 (by decide) ?_
          refine e_icmp_ne (tgt := 41) hX dX10_nearTo_24 (by decide) (m_eq (by decide +kernel)) h (fun h => ?_) (fun h => ?_)
          · refine s_iinc (k := 3) (v := (y3_4 + (nI 1))) (lv' := [(0, .ref (ad 0)), (1, .int v1), (2, .int y2_4), (3, .int (y3_4 + (nI 1)))]) hX dX10_nearTo_41 (congrArg (fun z => y3_4 + z) (by decide)) (by decide) rfl rfl ?_
            refine s_goto (tgt := 4) hX dX10_nearTo_44 (by decide) ?_
            exact ih4 y2_4 (y3_4 + (nI 1)) h
          · refine s_aload_n (k := 0) hX dX10_nearTo_27 rfl rfl ?_
            refine s_iload_n (k := 1) hX dX10_nearTo_28 rfl rfl ?_
            refine s_iload_n (k := 3) hX dX10_nearTo_29 rfl rfl ?_
            refine e_callVp hX (t_X10_apart v1 y3_4 M) mX10_apart lX10_144 (by decide) (by decide) oM0 rfl rfl rfl rfl rfl (Nat.le_of_ble_eq_true rfl) dX10_nearTo_30 h (fun r_1 h => ?_)
            refine s_iconst (v := (nI 4)) hX dX10_nearTo_33 (by decide) ?_
            refine e_icmp_gt (tgt := 41) hX dX10_nearTo_34 (by decide) (m_gt (by decide +kernel)) h (fun h => ?_) (fun h => ?_)
            · refine s_iinc (k := 3) (v := (y3_4 + (nI 1))) (lv' := [(0, .ref (ad 0)), (1, .int v1), (2, .int y2_4), (3, .int (y3_4 + (nI 1)))]) hX dX10_nearTo_41 (congrArg (fun z => y3_4 + z) (by decide)) (by decide) rfl rfl ?_
              refine s_goto (tgt := 4) hX dX10_nearTo_44 (by decide) ?_
              exact ih4 y2_4 (y3_4 + (nI 1)) h
            · refine s_iload_n (k := 2) hX dX10_nearTo_37 rfl rfl ?_
              refine s_iconst (v := (nI 1)) hX dX10_nearTo_38 (by decide) ?_
              refine s_iadd hX dX10_nearTo_39 ?_
              refine s_istore_n (lv' := [(0, .ref (ad 0)), (1, .int v1), (3, .int y3_4), (2, .int (y2_4 + (nI 1)))]) hX dX10_nearTo_40 rfl (by decide) rfl ?_
              refine s_iinc (k := 2) (v := (y3_4 + (nI 1))) (lv' := [(0, .ref (ad 0)), (1, .int v1), (2, .int (y2_4 + (nI 1))), (3, .int (y3_4 + (nI 1)))]) hX dX10_nearTo_41 (congrArg (fun z => y3_4 + z) (by decide)) (by decide) rfl rfl ?_
              refine s_goto (tgt := 4) hX dX10_nearTo_44 (by decide) ?_
              exact ih4 (y2_4 + (nI 1)) (y3_4 + (nI 1)) h
  exact lp4 FU (nI 0) (nI 0) h
set_option maxHeartbeats 4000000 in
theorem t_X10_feels (v1 : Int32) (v2 : Int32) (M : Mem) : AXv yX10_feels cX10_feels 3 none 2 39 glM (fun ad => [.ref (ad 0), .int v1, .int v2]) M (f_X10_feels M v1 v2) := by
  intro r0 h
  refine AM.of (by decide) (fun _ => Nat.le_of_ble_eq_true rfl) (fun X ad cI cZ cB hX hR => ?_)
  show V X M [(0, .ref (ad 0)), (1, .int v1), (2, .int v2)] [] 0
  refine s_aload_n (k := 0) hX dX10_feels_0 rfl rfl ?_
  refine s_get hX fX10_62 oM0 rfl dX10_feels_1 ?_
  refine s_iconst (v := (nI 0)) hX dX10_feels_4 (by decide) ?_
  refine s_iload_n (k := 1) hX dX10_feels_5 rfl rfl ?_
  refine s_iastN hX aM18 (by decide) dX10_feels_6 ?_
  refine e_bndM h (fun M_1 h => ?_)
  refine s_aload_n (k := 0) hX dX10_feels_7 rfl rfl ?_
  refine s_get hX fX10_62 oM0 rfl dX10_feels_8 ?_
  refine s_iconst (v := (nI 1)) hX dX10_feels_11 (by decide) ?_
  refine s_aload_n (k := 0) hX dX10_feels_12 rfl rfl ?_
  refine s_get hX fX10_7 oM0 rfl dX10_feels_13 ?_
  refine s_bipush (v := (nI 40)) hX dX10_feels_16 (by decide) ?_
  refine s_iload_n (k := 1) hX dX10_feels_18 rfl rfl ?_
  refine s_iadd hX dX10_feels_19 ?_
  refine e_iald hX aM1 dX10_feels_20 h (fun h => ?_)
  refine s_iastN hX aM18 (by decide) dX10_feels_21 ?_
  refine e_bndM h (fun M_2 h => ?_)
  refine s_aload_n (k := 0) hX dX10_feels_22 rfl rfl ?_
  refine s_get hX fX10_62 oM0 rfl dX10_feels_23 ?_
  refine s_iconst (v := (nI 2)) hX dX10_feels_26 (by decide) ?_
  refine s_aload_n (k := 0) hX dX10_feels_27 rfl rfl ?_
  refine s_get hX fX10_7 oM0 rfl dX10_feels_28 ?_
  refine s_bipush (v := (nI 80)) hX dX10_feels_31 (by decide) ?_
  refine s_iload_n (k := 1) hX dX10_feels_33 rfl rfl ?_
  refine s_iadd hX dX10_feels_34 ?_
  refine e_iald hX aM1 dX10_feels_35 h (fun h => ?_)
  refine s_iastN hX aM18 (by decide) dX10_feels_36 ?_
  refine e_bndM h (fun M_3 h => ?_)
  refine s_aload_n (k := 0) hX dX10_feels_37 rfl rfl ?_
  refine s_get hX fX10_62 oM0 rfl dX10_feels_38 ?_
  refine s_iconst (v := (nI 3)) hX dX10_feels_41 (by decide) ?_
  refine s_aload_n (k := 0) hX dX10_feels_42 rfl rfl ?_
  refine s_get hX fX10_7 oM0 rfl dX10_feels_43 ?_
  refine s_bipush (v := (nI 120)) hX dX10_feels_46 (by decide) ?_
  refine s_iload_n (k := 1) hX dX10_feels_48 rfl rfl ?_
  refine s_iadd hX dX10_feels_49 ?_
  refine e_iald hX aM1 dX10_feels_50 h (fun h => ?_)
  refine s_iastN hX aM18 (by decide) dX10_feels_51 ?_
  refine e_bndM h (fun M_4 h => ?_)
  refine s_aload_n (k := 0) hX dX10_feels_52 rfl rfl ?_
  refine s_get hX fX10_62 oM0 rfl dX10_feels_53 ?_
  refine s_iconst (v := (nI 4)) hX dX10_feels_56 (by decide) ?_
  refine s_aload_n (k := 0) hX dX10_feels_57 rfl rfl ?_
  refine s_get hX fX10_7 oM0 rfl dX10_feels_58 ?_
  refine s_sipush (v := (nI 160)) hX dX10_feels_61 (by decide) ?_
  refine s_iload_n (k := 1) hX dX10_feels_64 rfl rfl ?_
  refine s_iadd hX dX10_feels_65 ?_
  refine e_iald hX aM1 dX10_feels_66 h (fun h => ?_)
  refine s_iastN hX aM18 (by decide) dX10_feels_67 ?_
  refine e_bndM h (fun M_5 h => ?_)
  refine s_aload_n (k := 0) hX dX10_feels_68 rfl rfl ?_
  refine s_get hX fX10_62 oM0 rfl dX10_feels_69 ?_
  refine s_iconst (v := (nI 5)) hX dX10_feels_72 (by decide) ?_
  refine s_aload_n (k := 0) hX dX10_feels_73 rfl rfl ?_
  refine s_iload_n (k := 1) hX dX10_feels_74 rfl rfl ?_
  refine e_callVp hX (t_X10_nearTo v1 M_5) mX10_nearTo lX10_268 (by decide) (by decide) oM0 rfl rfl rfl rfl rfl (Nat.le_of_ble_eq_true rfl) dX10_feels_75 h (fun r_6 h => ?_)
  refine s_iastN hX aM18 (by decide) dX10_feels_78 ?_
  refine e_bndM h (fun M_7 h => ?_)
  refine s_aload_n (k := 0) hX dX10_feels_79 rfl rfl ?_
  refine s_get hX fX10_62 oM0 rfl dX10_feels_80 ?_
  refine s_bipush (v := (nI 6)) hX dX10_feels_83 (by decide) ?_
  refine s_iload_n (k := 2) hX dX10_feels_85 rfl rfl ?_
  refine s_iastN hX aM18 (by decide) dX10_feels_86 ?_
  refine e_bndM h (fun M_8 h => ?_)
  refine s_aload_n (k := 0) hX dX10_feels_87 rfl rfl ?_
  refine s_get hX fX10_62 oM0 rfl dX10_feels_88 ?_
  refine s_bipush (v := (nI 7)) hX dX10_feels_91 (by decide) ?_
  refine s_aload_n (k := 0) hX dX10_feels_93 rfl rfl ?_
  refine s_get hX fX10_7 oM0 rfl dX10_feels_94 ?_
  refine s_sipush (v := (nI 200)) hX dX10_feels_97 (by decide) ?_
  refine s_ialdN hX aM1 (by decide) dX10_feels_100 ?_
  refine s_bipush (v := (nI 100)) hX dX10_feels_101 (by decide) ?_
  refine s_iremL hX dX10_feels_103 (by decide) ?_
  refine s_iastN hX aM18 (by decide) dX10_feels_104 ?_
  refine e_bndM h (fun M_9 h => ?_)
  exact e_vret hX hR dX10_feels_105 h
set_option maxHeartbeats 4000000 in
theorem t_X10_holdsAny (v1 : Int32) (M : Mem) : AXi yX10_holdsAny cX10_holdsAny 3 (some .boolean) 2 39 glM (fun ad => [.ref (ad 0), .int v1]) M (f_X10_holdsAny M v1) := by
  intro r0 h
  refine AM.of (by decide) (fun _ => Nat.le_of_ble_eq_true rfl) (fun X ad cI cZ cB hX hR => ?_)
  show V X M [(0, .ref (ad 0)), (1, .int v1)] [] 0
  refine s_iconst (v := (nI 0)) hX dX10_holdsAny_0 (by decide) ?_
  refine s_istore_n (lv' := [(0, .ref (ad 0)), (1, .int v1), (2, .int (nI 0))]) hX dX10_holdsAny_1 rfl (by decide) rfl ?_
  have lp2 : ∀ (N2 : Nat) (M2 : Mem) (y2_2 : Int32), wlp2 (f_X10_holdsAny_B2 v1) N2 M2 y2_2 = some r0 → V X M2 [(0, .ref (ad 0)), (1, .int v1), (2, .int y2_2)] [] 2 := by
    intro N2
    induction N2 with
    | zero => exact fun _ _ h => e_none h
    | succ N2 ih2 =>
      intro M2 y2_2 h
      replace h : f_X10_holdsAny_B2 v1 (wlp2 (f_X10_holdsAny_B2 v1) N2) M2 y2_2 = some r0 := h
      generalize wlp2 (f_X10_holdsAny_B2 v1) N2 = ag2 at ih2 h
      refine s_iload_n (k := 2) hX dX10_holdsAny_2 rfl rfl ?_
      refine s_aload_n (k := 0) hX dX10_holdsAny_3 rfl rfl ?_
      refine s_get hX fX10_258 oM0 rfl dX10_holdsAny_4 ?_
      refine e_icmp_ge (tgt := 48) hX dX10_holdsAny_7 (by decide) r_le h (fun h => ?_) (fun h => ?_)
      · refine s_iconst (v := (nI 0)) hX dX10_holdsAny_48 (by decide) ?_
        exact e_zretiL hX hR dX10_holdsAny_49 (by decide) h
      · refine s_aload_n (k := 0) hX dX10_holdsAny_10 rfl rfl ?_
        refine s_get hX fX10_47 oM0 rfl dX10_holdsAny_11 ?_
        refine s_iload_n (k := 2) hX dX10_holdsAny_14 rfl rfl ?_
        refine e_iald hX aM13 dX10_holdsAny_15 h (fun h => ?_)
        refine s_iload_n (k := 1) hX dX10_holdsAny_16 rfl rfl ?_
        refine e_icmp_ne (tgt := 42) hX dX10_holdsAny_17 (by decide) r_eq h (fun h => ?_) (fun h => ?_)
        · refine s_iinc (k := 2) (v := (y2_2 + (nI 1))) (lv' := [(0, .ref (ad 0)), (1, .int v1), (2, .int (y2_2 + (nI 1)))]) hX dX10_holdsAny_42 (congrArg (fun z => y2_2 + z) (by decide)) (by decide) rfl rfl ?_
          refine s_goto (tgt := 2) hX dX10_holdsAny_45 (by decide) ?_
          exact ih2 M2 (y2_2 + (nI 1)) h
        · refine s_aload_n (k := 0) hX dX10_holdsAny_20 rfl rfl ?_
          refine s_aload_n (k := 0) hX dX10_holdsAny_21 rfl rfl ?_
          refine s_get hX fX10_53 oM0 rfl dX10_holdsAny_22 ?_
          refine s_iload_n (k := 2) hX dX10_holdsAny_25 rfl rfl ?_
          refine e_iald hX aM15 dX10_holdsAny_26 h (fun h => ?_)
          refine s_aload_n (k := 0) hX dX10_holdsAny_27 rfl rfl ?_
          refine s_get hX fX10_56 oM0 rfl dX10_holdsAny_28 ?_
          refine s_iload_n (k := 2) hX dX10_holdsAny_31 rfl rfl ?_
          refine e_iald hX aM16 dX10_holdsAny_32 h (fun h => ?_)
          refine e_callVi hX (t_X10_comesTo (M2 15 (ix y2_2)) (M2 16 (ix y2_2)) M2) mX10_comesTo lX10_265 (by decide) (by decide) oM0 rfl rfl rfl rfl rfl (Nat.le_of_ble_eq_true rfl) dX10_holdsAny_33 h (fun r_1 M_2 h => ?_)
          refine s_iconst (v := (nI 1)) hX dX10_holdsAny_36 (by decide) ?_
          refine e_icmp_ne (tgt := 42) hX dX10_holdsAny_37 (by decide) (m_eq (by decide +kernel)) h (fun h => ?_) (fun h => ?_)
          · refine s_iinc (k := 2) (v := (y2_2 + (nI 1))) (lv' := [(0, .ref (ad 0)), (1, .int v1), (2, .int (y2_2 + (nI 1)))]) hX dX10_holdsAny_42 (congrArg (fun z => y2_2 + z) (by decide)) (by decide) rfl rfl ?_
            refine s_goto (tgt := 2) hX dX10_holdsAny_45 (by decide) ?_
            exact ih2 M_2 (y2_2 + (nI 1)) h
          · refine s_iconst (v := (nI 1)) hX dX10_holdsAny_40 (by decide) ?_
            exact e_zretiL hX hR dX10_holdsAny_41 (by decide) h
  exact lp2 FU M (nI 0) h
set_option maxHeartbeats 4000000 in
theorem t_X10_moves (v1 : Int32) (M : Mem) : AXv yX10_moves cX10_moves 6 none 3 39 glM (fun ad => [.ref (ad 0), .int v1]) M (f_X10_moves M v1) := by
  intro r0 h
  refine AM.of (by decide) (fun _ => Nat.le_of_ble_eq_true rfl) (fun X ad cI cZ cB hX hR => ?_)
  show V X M [(0, .ref (ad 0)), (1, .int v1)] [] 0
  refine s_aload_n (k := 0) hX dX10_moves_0 rfl rfl ?_
  refine s_get hX fX10_7 oM0 rfl dX10_moves_1 ?_
  refine s_sipush (v := (nI 201)) hX dX10_moves_4 (by decide) ?_
  refine s_sipush (v := (nI 25173)) hX dX10_moves_7 (by decide) ?_
  refine s_aload_n (k := 0) hX dX10_moves_10 rfl rfl ?_
  refine s_get hX fX10_7 oM0 rfl dX10_moves_11 ?_
  refine s_sipush (v := (nI 201)) hX dX10_moves_14 (by decide) ?_
  refine s_ialdN hX aM1 (by decide) dX10_moves_17 ?_
  refine s_imul hX dX10_moves_18 ?_
  refine s_sipush (v := (nI 13849)) hX dX10_moves_19 (by decide) ?_
  refine s_iadd hX dX10_moves_22 ?_
  refine s_ldcw (v := (nI 65536)) hX kX10_283 dX10_moves_23 ?_
  refine s_iremL hX dX10_moves_26 (by decide) ?_
  refine s_iastN hX aM1 (by decide) dX10_moves_27 ?_
  refine e_bndM h (fun M_1 h => ?_)
  refine s_aload_n (k := 0) hX dX10_moves_28 rfl rfl ?_
  refine s_get hX fX10_7 oM0 rfl dX10_moves_29 ?_
  refine s_sipush (v := (nI 201)) hX dX10_moves_32 (by decide) ?_
  refine s_ialdN hX aM1 (by decide) dX10_moves_35 ?_
  refine s_bipush (v := (nI 10)) hX dX10_moves_36 (by decide) ?_
  refine s_iremL hX dX10_moves_38 (by decide) ?_
  refine e_bnd h (fun x_2 h => ?_)
  refine s_istore_n (lv' := [(0, .ref (ad 0)), (1, .int v1), (2, .int x_2)]) hX dX10_moves_39 rfl (by decide) rfl ?_
  refine s_aload_n (k := 0) hX dX10_moves_40 rfl rfl ?_
  refine s_iload_n (k := 1) hX dX10_moves_41 rfl rfl ?_
  refine s_iload_n (k := 2) hX dX10_moves_42 rfl rfl ?_
  refine e_callVv hX (t_X10_feels v1 x_2 M_1) mX10_feels lX10_284 (by decide) (by decide) oM0 rfl rfl rfl rfl rfl (Nat.le_of_ble_eq_true rfl) dX10_moves_43 h (fun M_3 h => ?_)
  refine s_aload_n (k := 0) hX dX10_moves_46 rfl rfl ?_
  refine s_get hX fX10_7 oM0 rfl dX10_moves_47 ?_
  refine s_bipush (v := (nI 40)) hX dX10_moves_50 (by decide) ?_
  refine s_iload_n (k := 1) hX dX10_moves_52 rfl rfl ?_
  refine s_iadd hX dX10_moves_53 ?_
  refine e_iald hX aM1 dX10_moves_54 h (fun h => ?_)
  refine s_aload_n (k := 0) hX dX10_moves_55 rfl rfl ?_
  refine s_bipush (v := (nI 117)) hX dX10_moves_56 (by decide) ?_
  refine s_bipush (v := (nI 9)) hX dX10_moves_58 (by decide) ?_
  refine e_callVi hX (t_X10_byLaw (nI 117) (nI 9) M_3) mX10_byLaw lX10_287 (by decide) (by decide) oM0 rfl rfl rfl rfl rfl (Nat.le_of_ble_eq_true rfl) dX10_moves_60 h (fun r_4 M_5 h => ?_)
  refine s_iadd hX dX10_moves_63 ?_
  refine s_aload_n (k := 0) hX dX10_moves_64 rfl rfl ?_
  refine s_bipush (v := (nI 100)) hX dX10_moves_65 (by decide) ?_
  refine s_bipush (v := (nI 9)) hX dX10_moves_67 (by decide) ?_
  refine e_callVi hX (t_X10_byLaw (nI 100) (nI 9) M_5) mX10_byLaw lX10_287 (by decide) (by decide) oM0 rfl rfl rfl rfl rfl (Nat.le_of_ble_eq_true rfl) dX10_moves_69 h (fun r_6 M_7 h => ?_)
  refine s_isub hX dX10_moves_72 ?_
  refine s_iconst (v := (nI 0)) hX dX10_moves_73 (by decide) ?_
  refine s_bipush (v := (nI 39)) hX dX10_moves_74 (by decide) ?_
  refine e_callSp hX (t_X10_bounded (((M_3 1 (ix ((nI 40) + v1))) + r_4) - r_6) (nI 0) (nI 39) M_7) mX10_bounded lX10_290 (by decide) (by decide) rfl rfl (Nat.le_of_ble_eq_true rfl) dX10_moves_76 h (fun r_8 h => ?_)
  refine s_istore_n (lv' := [(0, .ref (ad 0)), (1, .int v1), (2, .int x_2), (3, .int r_8)]) hX dX10_moves_79 rfl (by decide) rfl ?_
  refine s_aload_n (k := 0) hX dX10_moves_80 rfl rfl ?_
  refine s_get hX fX10_7 oM0 rfl dX10_moves_81 ?_
  refine s_bipush (v := (nI 80)) hX dX10_moves_84 (by decide) ?_
  refine s_iload_n (k := 1) hX dX10_moves_86 rfl rfl ?_
  refine s_iadd hX dX10_moves_87 ?_
  refine e_iald hX aM1 dX10_moves_88 h (fun h => ?_)
  refine s_aload_n (k := 0) hX dX10_moves_89 rfl rfl ?_
  refine s_bipush (v := (nI 111)) hX dX10_moves_90 (by decide) ?_
  refine s_bipush (v := (nI 9)) hX dX10_moves_92 (by decide) ?_
  refine e_callVi hX (t_X10_byLaw (nI 111) (nI 9) M_7) mX10_byLaw lX10_287 (by decide) (by decide) oM0 rfl rfl rfl rfl rfl (Nat.le_of_ble_eq_true rfl) dX10_moves_94 h (fun r_9 M_10 h => ?_)
  refine s_iadd hX dX10_moves_97 ?_
  refine s_aload_n (k := 0) hX dX10_moves_98 rfl rfl ?_
  refine s_bipush (v := (nI 98)) hX dX10_moves_99 (by decide) ?_
  refine s_bipush (v := (nI 9)) hX dX10_moves_101 (by decide) ?_
  refine e_callVi hX (t_X10_byLaw (nI 98) (nI 9) M_10) mX10_byLaw lX10_287 (by decide) (by decide) oM0 rfl rfl rfl rfl rfl (Nat.le_of_ble_eq_true rfl) dX10_moves_103 h (fun r_11 M_12 h => ?_)
  refine s_isub hX dX10_moves_106 ?_
  refine s_iconst (v := (nI 1)) hX dX10_moves_107 (by decide) ?_
  refine s_bipush (v := (nI 20)) hX dX10_moves_108 (by decide) ?_
  refine e_callSp hX (t_X10_bounded (((M_7 1 (ix ((nI 80) + v1))) + r_9) - r_11) (nI 1) (nI 20) M_12) mX10_bounded lX10_290 (by decide) (by decide) rfl rfl (Nat.le_of_ble_eq_true rfl) dX10_moves_110 h (fun r_13 h => ?_)
  refine s_istore (lv' := [(0, .ref (ad 0)), (1, .int v1), (2, .int x_2), (3, .int r_8), (4, .int r_13)]) hX dX10_moves_113 (by decide) rfl ?_
  refine s_aload_n (k := 0) hX dX10_moves_115 rfl rfl ?_
  refine s_iload_n (k := 3) hX dX10_moves_116 rfl rfl ?_
  refine s_iload (k := 4) hX dX10_moves_117 rfl ?_
  refine e_callVp hX (t_X10_stoneAt r_8 r_13 M_12) mX10_stoneAt lX10_147 (by decide) (by decide) oM0 rfl rfl rfl rfl rfl (Nat.le_of_ble_eq_true rfl) dX10_moves_119 h (fun r_14 h => ?_)
  refine s_istore (lv' := [(0, .ref (ad 0)), (1, .int v1), (2, .int x_2), (3, .int r_8), (4, .int r_13), (5, .int r_14)]) hX dX10_moves_122 (by decide) rfl ?_
  refine s_iload (k := 5) hX dX10_moves_124 rfl ?_
  refine s_iconst (v := (-1)) hX dX10_moves_126 (by decide) ?_
  have j180 : ∀ (N180 : Mem), f_X10_moves_L180 v1 x_2 N180 = some r0 → V X N180 [(0, .ref (ad 0)), (1, .int v1), (2, .int x_2)] [] 180 := by
    intro N180 h
    refine s_aload_n (k := 0) hX dX10_moves_180 rfl rfl ?_
    refine s_iload_n (k := 1) hX dX10_moves_181 rfl rfl ?_
    refine s_iload_n (k := 2) hX dX10_moves_182 rfl rfl ?_
    refine e_callVv hX (t_X10_feels v1 x_2 N180) mX10_feels lX10_284 (by decide) (by decide) oM0 rfl rfl rfl rfl rfl (Nat.le_of_ble_eq_true rfl) dX10_moves_183 h (fun M_15 h => ?_)
    refine s_aload_n (k := 0) hX dX10_moves_186 rfl rfl ?_
    refine s_get hX fX10_7 oM0 rfl dX10_moves_187 ?_
    refine s_sipush (v := (nI 160)) hX dX10_moves_190 (by decide) ?_
    refine s_iload_n (k := 1) hX dX10_moves_193 rfl rfl ?_
    refine s_iadd hX dX10_moves_194 ?_
    refine s_aload_n (k := 0) hX dX10_moves_195 rfl rfl ?_
    refine s_bipush (v := (nI 120)) hX dX10_moves_196 (by decide) ?_
    refine e_callVi hX (t_X10_holdsAny (nI 120) M_15) mX10_holdsAny lX10_299 (by decide) (by decide) oM0 rfl rfl rfl rfl rfl (Nat.le_of_ble_eq_true rfl) dX10_moves_198 h (fun r_16 M_17 h => ?_)
    have j209 : ∀ (t0_209 : Int32), f_X10_moves_L209 v1 M_17 t0_209 = some r0 → V X M_17 [] [.int t0_209, .int ((nI 160) + v1), .ref (ad 1)] 209 := by
      intro t0_209 h
      refine e_iast hX aM1 dX10_moves_209 h (fun h => ?_)
      refine e_bndM h (fun M_18 h => ?_)
      exact e_vret hX hR dX10_moves_210 h
    refine e_if_eq (tgt := 208) hX dX10_moves_201 (by decide) z_eq h (fun h => ?_) (fun h => ?_)
    · refine s_iconst (v := (nI 0)) hX dX10_moves_208 (by decide) ?_
      refine s_loc [] rfl ?_
      exact j209 (nI 0) h
    · refine s_iconst (v := (nI 1)) hX dX10_moves_204 (by decide) ?_
      refine s_goto (tgt := 209) hX dX10_moves_205 (by decide) ?_
      refine s_loc [] rfl ?_
      exact j209 (nI 1) h
  refine e_icmp_ne (tgt := 164) hX dX10_moves_127 (by decide) (m_eq (by decide +kernel)) h (fun h => ?_) (fun h => ?_)
  · refine s_iload (k := 5) hX dX10_moves_164 rfl ?_
    refine s_iload_n (k := 1) hX dX10_moves_166 rfl rfl ?_
    refine e_icmp_eq (tgt := 180) hX dX10_moves_167 (by decide) r_eq h (fun h => ?_) (fun h => ?_)
    · refine s_loc [0, 1, 2] rfl ?_
      exact j180 M_12 h
    · refine s_aload_n (k := 0) hX dX10_moves_170 rfl rfl ?_
      refine s_aload_n (k := 0) hX dX10_moves_171 rfl rfl ?_
      refine s_get hX fX10_296 oM0 rfl dX10_moves_172 ?_
      refine s_iconst (v := (nI 1)) hX dX10_moves_175 (by decide) ?_
      refine s_iadd hX dX10_moves_176 ?_
      refine s_puti (ty := .int) hX fX10_296 oM0 rfl (Nat.le_of_ble_eq_true rfl) ty_10_35 rfl rfl dX10_moves_177 ?_
      refine e_bndM h (fun M_19 h => ?_)
      refine s_loc [0, 1, 2] rfl ?_
      exact j180 M_19 h
  · refine s_aload_n (k := 0) hX dX10_moves_130 rfl rfl ?_
    refine s_get hX fX10_7 oM0 rfl dX10_moves_131 ?_
    refine s_bipush (v := (nI 40)) hX dX10_moves_134 (by decide) ?_
    refine s_iload_n (k := 1) hX dX10_moves_136 rfl rfl ?_
    refine s_iadd hX dX10_moves_137 ?_
    refine s_iload_n (k := 3) hX dX10_moves_138 rfl rfl ?_
    refine e_iast hX aM1 dX10_moves_139 h (fun h => ?_)
    refine e_bndM h (fun M_20 h => ?_)
    refine s_aload_n (k := 0) hX dX10_moves_140 rfl rfl ?_
    refine s_get hX fX10_7 oM0 rfl dX10_moves_141 ?_
    refine s_bipush (v := (nI 80)) hX dX10_moves_144 (by decide) ?_
    refine s_iload_n (k := 1) hX dX10_moves_146 rfl rfl ?_
    refine s_iadd hX dX10_moves_147 ?_
    refine s_iload (k := 4) hX dX10_moves_148 rfl ?_
    refine e_iast hX aM1 dX10_moves_150 h (fun h => ?_)
    refine e_bndM h (fun M_21 h => ?_)
    refine s_aload_n (k := 0) hX dX10_moves_151 rfl rfl ?_
    refine s_aload_n (k := 0) hX dX10_moves_152 rfl rfl ?_
    refine s_get hX fX10_293 oM0 rfl dX10_moves_153 ?_
    refine s_iconst (v := (nI 1)) hX dX10_moves_156 (by decide) ?_
    refine s_iadd hX dX10_moves_157 ?_
    refine s_puti (ty := .int) hX fX10_293 oM0 rfl (Nat.le_of_ble_eq_true rfl) ty_10_34 rfl rfl dX10_moves_158 ?_
    refine e_bndM h (fun M_22 h => ?_)
    refine s_goto (tgt := 180) hX dX10_moves_161 (by decide) ?_
    refine s_loc [0, 1, 2] rfl ?_
    exact j180 M_22 h
