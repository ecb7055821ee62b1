theorem zcdX10_islands_0 : decode cX10_islands 0 = .ok (.iload_n 1, 1) ∧ decode cX10_islands 1 = .ok (.iconst 1, 1) ∧ decode cX10_islands 2 = .ok (.bipush 30, 2) ∧ decode cX10_islands 4 = .ok (.invokestatic 132, 3) ∧ decode cX10_islands 7 = .ok (.ifCond .eq 17, 3) ∧ decode cX10_islands 10 = .ok (.iload_n 2, 1) ∧ decode cX10_islands 11 = .ok (.bipush 100, 2) ∧ decode cX10_islands 13 = .ok (.if_icmp .eq 13, 3) := by decide +kernel
theorem zcdX10_islands_16 : decode cX10_islands 16 = .ok (.aload_n 0, 1) ∧ decode cX10_islands 17 = .ok (.iload_n 2, 1) ∧ decode cX10_islands 18 = .ok (.invokevirtual 154, 3) ∧ decode cX10_islands 21 = .ok (.ifCond .ne 5, 3) ∧ decode cX10_islands 24 = .ok (.iconst (-1), 1) ∧ decode cX10_islands 25 = .ok (.ireturn, 1) ∧ decode cX10_islands 26 = .ok (.aload_n 0, 1) ∧ decode cX10_islands 27 = .ok (.iload_n 1, 1) := by decide +kernel
theorem zcdX10_islands_28 : decode cX10_islands 28 = .ok (.invokevirtual 356, 3) ∧ decode cX10_islands 31 = .ok (.istore_n 3, 1) ∧ decode cX10_islands 32 = .ok (.iload_n 2, 1) ∧ decode cX10_islands 33 = .ok (.bipush 100, 2) ∧ decode cX10_islands 35 = .ok (.if_icmp .ne 5, 3) ∧ decode cX10_islands 38 = .ok (.iload_n 3, 1) ∧ decode cX10_islands 39 = .ok (.ireturn, 1) ∧ decode cX10_islands 40 = .ok (.iconst 0, 1) := by decide +kernel
theorem zcdX10_islands_41 : decode cX10_islands 41 = .ok (.istore 4, 2) ∧ decode cX10_islands 43 = .ok (.iconst 0, 1) ∧ decode cX10_islands 44 = .ok (.istore 5, 2) ∧ decode cX10_islands 46 = .ok (.iload 5, 2) ∧ decode cX10_islands 48 = .ok (.bipush 40, 2) ∧ decode cX10_islands 50 = .ok (.if_icmp .ge 41, 3) ∧ decode cX10_islands 53 = .ok (.aload_n 0, 1) ∧ decode cX10_islands 54 = .ok (.getfield 101, 3) := by decide +kernel
theorem zcdX10_islands_57 : decode cX10_islands 57 = .ok (.iload_n 2, 1) ∧ decode cX10_islands 58 = .ok (.iaload, 1) ∧ decode cX10_islands 59 = .ok (.iconst (-1), 1) ∧ decode cX10_islands 60 = .ok (.if_icmp .eq 25, 3) ∧ decode cX10_islands 63 = .ok (.aload_n 0, 1) ∧ decode cX10_islands 64 = .ok (.getfield 101, 3) ∧ decode cX10_islands 67 = .ok (.iload 5, 2) ∧ decode cX10_islands 69 = .ok (.iaload, 1) := by decide +kernel
theorem zcdX10_islands_70 : decode cX10_islands 70 = .ok (.aload_n 0, 1) ∧ decode cX10_islands 71 = .ok (.getfield 101, 3) ∧ decode cX10_islands 74 = .ok (.iload_n 2, 1) ∧ decode cX10_islands 75 = .ok (.iaload, 1) ∧ decode cX10_islands 76 = .ok (.if_icmp .ne 9, 3) ∧ decode cX10_islands 79 = .ok (.iload 4, 2) ∧ decode cX10_islands 81 = .ok (.iconst 1, 1) ∧ decode cX10_islands 82 = .ok (.iadd, 1) := by decide +kernel
theorem zcdX10_islands_83 : decode cX10_islands 83 = .ok (.istore 4, 2) ∧ decode cX10_islands 85 = .ok (.iinc 5 1, 3) ∧ decode cX10_islands 88 = .ok (.goto (-42), 3) ∧ decode cX10_islands 91 = .ok (.iload 4, 2) ∧ decode cX10_islands 93 = .ok (.ireturn, 1) ∧ decode cX10_jumps 0 = .ok (.aload_n 0, 1) ∧ decode cX10_jumps 1 = .ok (.getfield 29, 3) ∧ decode cX10_jumps 4 = .ok (.aload_n 0, 1) := by decide +kernel
theorem zcdX10_jumps_5 : decode cX10_jumps 5 = .ok (.getfield 195, 3) ∧ decode cX10_jumps 8 = .ok (.ldc 191, 2) ∧ decode cX10_jumps 10 = .ok (.iload_n 1, 1) ∧ decode cX10_jumps 11 = .ok (.imul, 1) ∧ decode cX10_jumps 12 = .ok (.aload_n 0, 1) ∧ decode cX10_jumps 13 = .ok (.getfield 188, 3) ∧ decode cX10_jumps 16 = .ok (.iadd, 1) ∧ decode cX10_jumps 17 = .ok (.iastore, 1) := by decide +kernel
theorem zcdX10_jumps_18 : decode cX10_jumps 18 = .ok (.aload_n 0, 1) ∧ decode cX10_jumps 19 = .ok (.aload_n 0, 1) ∧ decode cX10_jumps 20 = .ok (.getfield 195, 3) ∧ decode cX10_jumps 23 = .ok (.iconst 1, 1) ∧ decode cX10_jumps 24 = .ok (.iadd, 1) ∧ decode cX10_jumps 25 = .ok (.putfield 195, 3) ∧ decode cX10_jumps 28 = .ok (.aload_n 0, 1) ∧ decode cX10_jumps 29 = .ok (.iload_n 1, 1) := by decide +kernel
theorem zcdX10_jumps_30 : decode cX10_jumps 30 = .ok (.iconst 0, 1) ∧ decode cX10_jumps 31 = .ok (.invokevirtual 201, 3) ∧ decode cX10_jumps 34 = .ok (.aload_n 0, 1) ∧ decode cX10_jumps 35 = .ok (.aload_n 0, 1) ∧ decode cX10_jumps 36 = .ok (.getfield 165, 3) ∧ decode cX10_jumps 39 = .ok (.iconst 1, 1) ∧ decode cX10_jumps 40 = .ok (.iadd, 1) ∧ decode cX10_jumps 41 = .ok (.putfield 165, 3) := by decide +kernel
theorem zcdX10_jumps_44 : decode cX10_jumps 44 = .ok (.return_, 1) ∧ decode cX10_keep 0 = .ok (.aload_n 0, 1) ∧ decode cX10_keep 1 = .ok (.iconst 1, 1) ∧ decode cX10_keep 2 = .ok (.putfield 415, 3) ∧ decode cX10_keep 5 = .ok (.aload_n 0, 1) ∧ decode cX10_keep 6 = .ok (.getfield 7, 3) ∧ decode cX10_keep 9 = .ok (.aload_n 0, 1) ∧ decode cX10_keep 10 = .ok (.getfield 16, 3) := by decide +kernel
theorem zcdX10_keep_13 : decode cX10_keep 13 = .ok (.invokestatic 315, 3) ∧ decode cX10_keep 16 = .ok (.aload_n 0, 1) ∧ decode cX10_keep 17 = .ok (.getfield 7, 3) ∧ decode cX10_keep 20 = .ok (.sipush 200, 3) ∧ decode cX10_keep 23 = .ok (.iaload, 1) ∧ decode cX10_keep 24 = .ok (.ireturn, 1) ∧ decode cX10_key 0 = .ok (.aload_n 0, 1) ∧ decode cX10_key 1 = .ok (.iload_n 1, 1) := by decide +kernel
theorem zcdX10_key_2 : decode cX10_key 2 = .ok (.invokevirtual 334, 3) ∧ decode cX10_key 5 = .ok (.ifCond .eq 12, 3) ∧ decode cX10_key 8 = .ok (.iload_n 2, 1) ∧ decode cX10_key 9 = .ok (.iconst 0, 1) ∧ decode cX10_key 10 = .ok (.iconst 1, 1) ∧ decode cX10_key 11 = .ok (.invokestatic 132, 3) ∧ decode cX10_key 14 = .ok (.ifCond .ne 5, 3) ∧ decode cX10_key 17 = .ok (.iconst (-1), 1) := by decide +kernel
theorem zcdX10_key_18 : decode cX10_key 18 = .ok (.ireturn, 1) ∧ decode cX10_key 19 = .ok (.aload_n 0, 1) ∧ decode cX10_key 20 = .ok (.getfield 19, 3) ∧ decode cX10_key 23 = .ok (.iload_n 1, 1) ∧ decode cX10_key 24 = .ok (.iaload, 1) ∧ decode cX10_key 25 = .ok (.istore_n 3, 1) ∧ decode cX10_key 26 = .ok (.aload_n 0, 1) ∧ decode cX10_key 27 = .ok (.iload_n 3, 1) := by decide +kernel
theorem zcdX10_key_28 : decode cX10_key 28 = .ok (.invokevirtual 337, 3) ∧ decode cX10_key 31 = .ok (.iconst (-1), 1) ∧ decode cX10_key 32 = .ok (.if_icmp .ne 6, 3) ∧ decode cX10_key 35 = .ok (.bipush (-3), 2) ∧ decode cX10_key 37 = .ok (.ireturn, 1) ∧ decode cX10_key 38 = .ok (.iconst 0, 1) ∧ decode cX10_key 39 = .ok (.istore 4, 2) ∧ decode cX10_key 41 = .ok (.bipush (-2), 2) := by decide +kernel
theorem zcdX10_key_43 : decode cX10_key 43 = .ok (.istore 5, 2) ∧ decode cX10_key 45 = .ok (.bipush 39, 2) ∧ decode cX10_key 47 = .ok (.istore 6, 2) ∧ decode cX10_key 49 = .ok (.iload 6, 2) ∧ decode cX10_key 51 = .ok (.ifCond .lt 79, 3) ∧ decode cX10_key 54 = .ok (.aload_n 0, 1) ∧ decode cX10_key 55 = .ok (.iload 6, 2) ∧ decode cX10_key 57 = .ok (.invokevirtual 319, 3) := by decide +kernel
theorem zcdX10_key_60 : decode cX10_key 60 = .ok (.ifCond .ne 6, 3) ∧ decode cX10_key 63 = .ok (.goto 61, 3) ∧ decode cX10_key 66 = .ok (.aload_n 0, 1) ∧ decode cX10_key 67 = .ok (.getfield 7, 3) ∧ decode cX10_key 70 = .ok (.sipush 160, 3) ∧ decode cX10_key 73 = .ok (.iload 6, 2) ∧ decode cX10_key 75 = .ok (.iadd, 1) ∧ decode cX10_key 76 = .ok (.iconst 1, 1) := by decide +kernel
theorem zcdX10_key_77 : decode cX10_key 77 = .ok (.iastore, 1) ∧ decode cX10_key 78 = .ok (.aload_n 0, 1) ∧ decode cX10_key 79 = .ok (.iload_n 3, 1) ∧ decode cX10_key 80 = .ok (.invokevirtual 337, 3) ∧ decode cX10_key 83 = .ok (.iconst (-1), 1) ∧ decode cX10_key 84 = .ok (.if_icmp .ne 7, 3) ∧ decode cX10_key 87 = .ok (.iconst 1, 1) ∧ decode cX10_key 88 = .ok (.goto 4, 3) := by decide +kernel
theorem zcdX10_key_91 : decode cX10_key 91 = .ok (.iconst 0, 1) ∧ decode cX10_key 92 = .ok (.istore 7, 2) ∧ decode cX10_key 94 = .ok (.aload_n 0, 1) ∧ decode cX10_key 95 = .ok (.getfield 7, 3) ∧ decode cX10_key 98 = .ok (.sipush 160, 3) ∧ decode cX10_key 101 = .ok (.iload 6, 2) ∧ decode cX10_key 103 = .ok (.iadd, 1) ∧ decode cX10_key 104 = .ok (.iconst 0, 1) := by decide +kernel
theorem zcdX10_key_105 : decode cX10_key 105 = .ok (.iastore, 1) ∧ decode cX10_key 106 = .ok (.iload 7, 2) ∧ decode cX10_key 108 = .ok (.ifCond .ne 6, 3) ∧ decode cX10_key 111 = .ok (.goto 13, 3) ∧ decode cX10_key 114 = .ok (.iload 4, 2) ∧ decode cX10_key 116 = .ok (.iconst 1, 1) ∧ decode cX10_key 117 = .ok (.iadd, 1) ∧ decode cX10_key 118 = .ok (.istore 4, 2) := by decide +kernel
theorem zcdX10_key_120 : decode cX10_key 120 = .ok (.iload 6, 2) ∧ decode cX10_key 122 = .ok (.istore 5, 2) ∧ decode cX10_key 124 = .ok (.iinc 6 (-1), 3) ∧ decode cX10_key 127 = .ok (.goto (-78), 3) ∧ decode cX10_key 130 = .ok (.iload_n 2, 1) ∧ decode cX10_key 131 = .ok (.ifCond .ne 8, 3) ∧ decode cX10_key 134 = .ok (.iload 4, 2) ∧ decode cX10_key 136 = .ok (.goto 5, 3) := by decide +kernel
theorem zcdX10_key_139 : decode cX10_key 139 = .ok (.iload 5, 2) ∧ decode cX10_key 141 = .ok (.ireturn, 1) ∧ decode cX10_lands 0 = .ok (.aload_n 0, 1) ∧ decode cX10_lands 1 = .ok (.invokevirtual 198, 3) ∧ decode cX10_lands 4 = .ok (.bipush 11, 2) ∧ decode cX10_lands 6 = .ok (.if_icmp .eq 16, 3) ∧ decode cX10_lands 9 = .ok (.iload_n 1, 1) ∧ decode cX10_lands 10 = .ok (.ifCond .eq 63, 3) := by decide +kernel
theorem zcdX10_lands_13 : decode cX10_lands 13 = .ok (.aload_n 0, 1) ∧ decode cX10_lands 14 = .ok (.invokevirtual 198, 3) ∧ decode cX10_lands 17 = .ok (.bipush 12, 2) ∧ decode cX10_lands 19 = .ok (.if_icmp .ne 54, 3) ∧ decode cX10_lands 22 = .ok (.aload_n 0, 1) ∧ decode cX10_lands 23 = .ok (.getfield 29, 3) ∧ decode cX10_lands 26 = .ok (.aload_n 0, 1) ∧ decode cX10_lands 27 = .ok (.getfield 195, 3) := by decide +kernel
theorem zcdX10_lands_30 : decode cX10_lands 30 = .ok (.iconst 1, 1) ∧ decode cX10_lands 31 = .ok (.isub, 1) ∧ decode cX10_lands 32 = .ok (.iaload, 1) ∧ decode cX10_lands 33 = .ok (.ldc 191, 2) ∧ decode cX10_lands 35 = .ok (.irem, 1) ∧ decode cX10_lands 36 = .ok (.istore_n 2, 1) ∧ decode cX10_lands 37 = .ok (.aload_n 0, 1) ∧ decode cX10_lands 38 = .ok (.getfield 26, 3) := by decide +kernel
theorem zcdX10_lands_41 : decode cX10_lands 41 = .ok (.iload_n 2, 1) ∧ decode cX10_lands 42 = .ok (.ldc 191, 2) ∧ decode cX10_lands 44 = .ok (.aload_n 0, 1) ∧ decode cX10_lands 45 = .ok (.getfield 26, 3) ∧ decode cX10_lands 48 = .ok (.iload_n 2, 1) ∧ decode cX10_lands 49 = .ok (.iaload, 1) ∧ decode cX10_lands 50 = .ok (.ldc 191, 2) ∧ decode cX10_lands 52 = .ok (.idiv, 1) := by decide +kernel
theorem zcdX10_lands_53 : decode cX10_lands 53 = .ok (.imul, 1) ∧ decode cX10_lands 54 = .ok (.aload_n 0, 1) ∧ decode cX10_lands 55 = .ok (.getfield 188, 3) ∧ decode cX10_lands 58 = .ok (.iadd, 1) ∧ decode cX10_lands 59 = .ok (.iastore, 1) ∧ decode cX10_lands 60 = .ok (.aload_n 0, 1) ∧ decode cX10_lands 61 = .ok (.aload_n 0, 1) ∧ decode cX10_lands 62 = .ok (.getfield 195, 3) := by decide +kernel
theorem zcdX10_lands_65 : decode cX10_lands 65 = .ok (.iconst 1, 1) ∧ decode cX10_lands 66 = .ok (.isub, 1) ∧ decode cX10_lands 67 = .ok (.putfield 195, 3) ∧ decode cX10_lands 70 = .ok (.goto (-70), 3) ∧ decode cX10_lands 73 = .ok (.return_, 1) ∧ decode cX10_opens 0 = .ok (.aload_n 0, 1) ∧ decode cX10_opens 1 = .ok (.getfield 192, 3) ∧ decode cX10_opens 4 = .ok (.bipush 6, 2) := by decide +kernel
theorem zcdX10_opens_6 : decode cX10_opens 6 = .ok (.if_icmp .ne 13, 3) ∧ decode cX10_opens 9 = .ok (.aload_n 0, 1) ∧ decode cX10_opens 10 = .ok (.iconst 5, 1) ∧ decode cX10_opens 11 = .ok (.aload_n 0, 1) ∧ decode cX10_opens 12 = .ok (.getfield 165, 3) ∧ decode cX10_opens 15 = .ok (.invokevirtual 178, 3) ∧ decode cX10_opens 18 = .ok (.ireturn, 1) ∧ decode cX10_opens 19 = .ok (.aload_n 0, 1) := by decide +kernel
theorem zcdX10_opens_20 : decode cX10_opens 20 = .ok (.aload_n 0, 1) ∧ decode cX10_opens 21 = .ok (.getfield 192, 3) ∧ decode cX10_opens 24 = .ok (.iconst 1, 1) ∧ decode cX10_opens 25 = .ok (.iadd, 1) ∧ decode cX10_opens 26 = .ok (.putfield 192, 3) ∧ decode cX10_opens 29 = .ok (.aload_n 0, 1) ∧ decode cX10_opens 30 = .ok (.getfield 29, 3) ∧ decode cX10_opens 33 = .ok (.aload_n 0, 1) := by decide +kernel
theorem zcdX10_opens_34 : decode cX10_opens 34 = .ok (.getfield 195, 3) ∧ decode cX10_opens 37 = .ok (.ldc 191, 2) ∧ decode cX10_opens 39 = .ok (.iload_n 1, 1) ∧ decode cX10_opens 40 = .ok (.imul, 1) ∧ decode cX10_opens 41 = .ok (.iastore, 1) ∧ decode cX10_opens 42 = .ok (.aload_n 0, 1) ∧ decode cX10_opens 43 = .ok (.aload_n 0, 1) ∧ decode cX10_opens 44 = .ok (.getfield 195, 3) := by decide +kernel
theorem zcdX10_opens_47 : decode cX10_opens 47 = .ok (.iconst 1, 1) ∧ decode cX10_opens 48 = .ok (.iadd, 1) ∧ decode cX10_opens 49 = .ok (.putfield 195, 3) ∧ decode cX10_opens 52 = .ok (.aload_n 0, 1) ∧ decode cX10_opens 53 = .ok (.aload_n 0, 1) ∧ decode cX10_opens 54 = .ok (.getfield 165, 3) ∧ decode cX10_opens 57 = .ok (.iconst 1, 1) ∧ decode cX10_opens 58 = .ok (.iadd, 1) := by decide +kernel
theorem zcdX10_opens_59 : decode cX10_opens 59 = .ok (.putfield 165, 3) ∧ decode cX10_opens 62 = .ok (.iconst 1, 1) ∧ decode cX10_opens 63 = .ok (.ireturn, 1) ∧ decode cX10_readsNumber 0 = .ok (.aload_n 0, 1) ∧ decode cX10_readsNumber 1 = .ok (.getfield 165, 3) ∧ decode cX10_readsNumber 4 = .ok (.istore_n 1, 1) ∧ decode cX10_readsNumber 5 = .ok (.aload_n 0, 1) ∧ decode cX10_readsNumber 6 = .ok (.iconst 0, 1) := by decide +kernel
theorem zcdX10_readsNumber_7 : decode cX10_readsNumber 7 = .ok (.putfield 181, 3) ∧ decode cX10_readsNumber 10 = .ok (.aload_n 0, 1) ∧ decode cX10_readsNumber 11 = .ok (.invokevirtual 184, 3) ∧ decode cX10_readsNumber 14 = .ok (.ifCond .eq 55, 3) ∧ decode cX10_readsNumber 17 = .ok (.aload_n 0, 1) ∧ decode cX10_readsNumber 18 = .ok (.getfield 165, 3) ∧ decode cX10_readsNumber 21 = .ok (.iload_n 1, 1) ∧ decode cX10_readsNumber 22 = .ok (.iconst 5, 1) := by decide +kernel
theorem zcdX10_readsNumber_23 : decode cX10_readsNumber 23 = .ok (.iadd, 1) ∧ decode cX10_readsNumber 24 = .ok (.if_icmp .ne 13, 3) ∧ decode cX10_readsNumber 27 = .ok (.aload_n 0, 1) ∧ decode cX10_readsNumber 28 = .ok (.iconst 2, 1) ∧ decode cX10_readsNumber 29 = .ok (.aload_n 0, 1) ∧ decode cX10_readsNumber 30 = .ok (.getfield 165, 3) ∧ decode cX10_readsNumber 33 = .ok (.invokevirtual 178, 3) ∧ decode cX10_readsNumber 36 = .ok (.ireturn, 1) := by decide +kernel
theorem zcdX10_readsNumber_37 : decode cX10_readsNumber 37 = .ok (.aload_n 0, 1) ∧ decode cX10_readsNumber 38 = .ok (.bipush 10, 2) ∧ decode cX10_readsNumber 40 = .ok (.aload_n 0, 1) ∧ decode cX10_readsNumber 41 = .ok (.getfield 181, 3) ∧ decode cX10_readsNumber 44 = .ok (.imul, 1) ∧ decode cX10_readsNumber 45 = .ok (.aload_n 0, 1) ∧ decode cX10_readsNumber 46 = .ok (.invokevirtual 171, 3) ∧ decode cX10_readsNumber 49 = .ok (.iadd, 1) := by decide +kernel
theorem zcdX10_readsNumber_50 : decode cX10_readsNumber 50 = .ok (.bipush 48, 2) ∧ decode cX10_readsNumber 52 = .ok (.isub, 1) ∧ decode cX10_readsNumber 53 = .ok (.putfield 181, 3) ∧ decode cX10_readsNumber 56 = .ok (.aload_n 0, 1) ∧ decode cX10_readsNumber 57 = .ok (.aload_n 0, 1) ∧ decode cX10_readsNumber 58 = .ok (.getfield 165, 3) ∧ decode cX10_readsNumber 61 = .ok (.iconst 1, 1) ∧ decode cX10_readsNumber 62 = .ok (.iadd, 1) := by decide +kernel
theorem zcdX10_readsNumber_63 : decode cX10_readsNumber 63 = .ok (.putfield 165, 3) ∧ decode cX10_readsNumber 66 = .ok (.goto (-56), 3) ∧ decode cX10_readsNumber 69 = .ok (.iconst 1, 1) ∧ decode cX10_readsNumber 70 = .ok (.ireturn, 1) ∧ decode cX10_readsFactor 0 = .ok (.aload_n 0, 1) ∧ decode cX10_readsFactor 1 = .ok (.invokevirtual 171, 3) ∧ decode cX10_readsFactor 4 = .ok (.bipush 91, 2) ∧ decode cX10_readsFactor 6 = .ok (.if_icmp .ne 14, 3) := by decide +kernel
theorem zcdX10_readsFactor_9 : decode cX10_readsFactor 9 = .ok (.aload_n 0, 1) ∧ decode cX10_readsFactor 10 = .ok (.bipush 14, 2) ∧ decode cX10_readsFactor 12 = .ok (.invokevirtual 205, 3) ∧ decode cX10_readsFactor 15 = .ok (.ifCond .ne (-15), 3) ∧ decode cX10_readsFactor 18 = .ok (.iconst 0, 1) ∧ decode cX10_readsFactor 19 = .ok (.ireturn, 1) ∧ decode cX10_readsFactor 20 = .ok (.aload_n 0, 1) ∧ decode cX10_readsFactor 21 = .ok (.invokevirtual 184, 3) := by decide +kernel
theorem zcdX10_readsFactor_24 : decode cX10_readsFactor 24 = .ok (.ifCond .eq 23, 3) ∧ decode cX10_readsFactor 27 = .ok (.aload_n 0, 1) ∧ decode cX10_readsFactor 28 = .ok (.invokevirtual 208, 3) ∧ decode cX10_readsFactor 31 = .ok (.ifCond .ne 5, 3) ∧ decode cX10_readsFactor 34 = .ok (.iconst 0, 1) ∧ decode cX10_readsFactor 35 = .ok (.ireturn, 1) ∧ decode cX10_readsFactor 36 = .ok (.aload_n 0, 1) ∧ decode cX10_readsFactor 37 = .ok (.iconst 0, 1) := by decide +kernel
theorem zcdX10_readsFactor_38 : decode cX10_readsFactor 38 = .ok (.aload_n 0, 1) ∧ decode cX10_readsFactor 39 = .ok (.getfield 181, 3) ∧ decode cX10_readsFactor 42 = .ok (.invokevirtual 201, 3) ∧ decode cX10_readsFactor 45 = .ok (.iconst 1, 1) ∧ decode cX10_readsFactor 46 = .ok (.ireturn, 1) ∧ decode cX10_readsFactor 47 = .ok (.aload_n 0, 1) ∧ decode cX10_readsFactor 48 = .ok (.invokevirtual 171, 3) ∧ decode cX10_readsFactor 51 = .ok (.invokestatic 211, 3) := by decide +kernel
theorem zcdX10_readsFactor_54 : decode cX10_readsFactor 54 = .ok (.istore_n 1, 1) ∧ decode cX10_readsFactor 55 = .ok (.iload_n 1, 1) ∧ decode cX10_readsFactor 56 = .ok (.iconst (-1), 1) ∧ decode cX10_readsFactor 57 = .ok (.if_icmp .ne 13, 3) ∧ decode cX10_readsFactor 60 = .ok (.aload_n 0, 1) ∧ decode cX10_readsFactor 61 = .ok (.iconst 1, 1) ∧ decode cX10_readsFactor 62 = .ok (.aload_n 0, 1) ∧ decode cX10_readsFactor 63 = .ok (.getfield 165, 3) := by decide +kernel
theorem zcdX10_readsFactor_66 : decode cX10_readsFactor 66 = .ok (.invokevirtual 178, 3) ∧ decode cX10_readsFactor 69 = .ok (.ireturn, 1) ∧ decode cX10_readsFactor 70 = .ok (.aload_n 0, 1) ∧ decode cX10_readsFactor 71 = .ok (.iconst 1, 1) ∧ decode cX10_readsFactor 72 = .ok (.iload_n 1, 1) ∧ decode cX10_readsFactor 73 = .ok (.invokevirtual 201, 3) ∧ decode cX10_readsFactor 76 = .ok (.aload_n 0, 1) ∧ decode cX10_readsFactor 77 = .ok (.aload_n 0, 1) := by decide +kernel
theorem zcdX10_readsFactor_78 : decode cX10_readsFactor 78 = .ok (.getfield 165, 3) ∧ decode cX10_readsFactor 81 = .ok (.iconst 1, 1) ∧ decode cX10_readsFactor 82 = .ok (.iadd, 1) ∧ decode cX10_readsFactor 83 = .ok (.putfield 165, 3) ∧ decode cX10_readsFactor 86 = .ok (.iconst 1, 1) ∧ decode cX10_readsFactor 87 = .ok (.ireturn, 1) ∧ decode cX10_sumSign 0 = .ok (.iload_n 0, 1) ∧ decode cX10_sumSign 1 = .ok (.bipush 43, 2) := by decide +kernel
theorem zcdX10_sumSign_3 : decode cX10_sumSign 3 = .ok (.if_icmp .ne 7, 3) ∧ decode cX10_sumSign 6 = .ok (.iconst 2, 1) ∧ decode cX10_sumSign 7 = .ok (.goto 45, 3) ∧ decode cX10_sumSign 10 = .ok (.iload_n 0, 1) ∧ decode cX10_sumSign 11 = .ok (.bipush 45, 2) ∧ decode cX10_sumSign 13 = .ok (.if_icmp .ne 7, 3) ∧ decode cX10_sumSign 16 = .ok (.iconst 3, 1) ∧ decode cX10_sumSign 17 = .ok (.goto 35, 3) := by decide +kernel
theorem zcdX10_sumSign_20 : decode cX10_sumSign 20 = .ok (.iload_n 0, 1) ∧ decode cX10_sumSign 21 = .ok (.bipush 42, 2) ∧ decode cX10_sumSign 23 = .ok (.if_icmp .ne 7, 3) ∧ decode cX10_sumSign 26 = .ok (.iconst 4, 1) ∧ decode cX10_sumSign 27 = .ok (.goto 25, 3) ∧ decode cX10_sumSign 30 = .ok (.iload_n 0, 1) ∧ decode cX10_sumSign 31 = .ok (.bipush 47, 2) ∧ decode cX10_sumSign 33 = .ok (.if_icmp .ne 7, 3) := by decide +kernel
theorem zcdX10_sumSign_36 : decode cX10_sumSign 36 = .ok (.iconst 5, 1) ∧ decode cX10_sumSign 37 = .ok (.goto 15, 3) ∧ decode cX10_sumSign 40 = .ok (.iload_n 0, 1) ∧ decode cX10_sumSign 41 = .ok (.bipush 37, 2) ∧ decode cX10_sumSign 43 = .ok (.if_icmp .ne 8, 3) ∧ decode cX10_sumSign 46 = .ok (.bipush 6, 2) ∧ decode cX10_sumSign 48 = .ok (.goto 4, 3) ∧ decode cX10_sumSign 51 = .ok (.iconst (-1), 1) := by decide +kernel
theorem zcdX10_sumSign_52 : decode cX10_sumSign 52 = .ok (.ireturn, 1) ∧ decode cX10_readsSum 0 = .ok (.aload_n 0, 1) ∧ decode cX10_readsSum 1 = .ok (.getfield 195, 3) ∧ decode cX10_readsSum 4 = .ok (.istore_n 1, 1) ∧ decode cX10_readsSum 5 = .ok (.aload_n 0, 1) ∧ decode cX10_readsSum 6 = .ok (.invokevirtual 215, 3) ∧ decode cX10_readsSum 9 = .ok (.ifCond .ne 5, 3) ∧ decode cX10_readsSum 12 = .ok (.iconst 0, 1) := by decide +kernel
theorem zcdX10_readsSum_13 : decode cX10_readsSum 13 = .ok (.ireturn, 1) ∧ decode cX10_readsSum 14 = .ok (.aload_n 0, 1) ∧ decode cX10_readsSum 15 = .ok (.invokevirtual 171, 3) ∧ decode cX10_readsSum 18 = .ok (.invokestatic 218, 3) ∧ decode cX10_readsSum 21 = .ok (.istore_n 2, 1) ∧ decode cX10_readsSum 22 = .ok (.iload_n 2, 1) ∧ decode cX10_readsSum 23 = .ok (.iconst (-1), 1) ∧ decode cX10_readsSum 24 = .ok (.if_icmp .eq 59, 3) := by decide +kernel
theorem zcdX10_readsSum_27 : decode cX10_readsSum 27 = .ok (.aload_n 0, 1) ∧ decode cX10_readsSum 28 = .ok (.iload_n 2, 1) ∧ decode cX10_readsSum 29 = .ok (.iconst 4, 1) ∧ decode cX10_readsSum 30 = .ok (.if_icmp .ge 7, 3) ∧ decode cX10_readsSum 33 = .ok (.iconst 1, 1) ∧ decode cX10_readsSum 34 = .ok (.goto 4, 3) ∧ decode cX10_readsSum 37 = .ok (.iconst 0, 1) ∧ decode cX10_readsSum 38 = .ok (.invokevirtual 221, 3) := by decide +kernel
theorem zcdX10_readsSum_41 : decode cX10_readsSum 41 = .ok (.aload_n 0, 1) ∧ decode cX10_readsSum 42 = .ok (.getfield 29, 3) ∧ decode cX10_readsSum 45 = .ok (.aload_n 0, 1) ∧ decode cX10_readsSum 46 = .ok (.getfield 195, 3) ∧ decode cX10_readsSum 49 = .ok (.ldc 191, 2) ∧ decode cX10_readsSum 51 = .ok (.iload_n 2, 1) ∧ decode cX10_readsSum 52 = .ok (.imul, 1) ∧ decode cX10_readsSum 53 = .ok (.iastore, 1) := by decide +kernel
theorem zcdX10_readsSum_54 : decode cX10_readsSum 54 = .ok (.aload_n 0, 1) ∧ decode cX10_readsSum 55 = .ok (.aload_n 0, 1) ∧ decode cX10_readsSum 56 = .ok (.getfield 195, 3) ∧ decode cX10_readsSum 59 = .ok (.iconst 1, 1) ∧ decode cX10_readsSum 60 = .ok (.iadd, 1) ∧ decode cX10_readsSum 61 = .ok (.putfield 195, 3) ∧ decode cX10_readsSum 64 = .ok (.aload_n 0, 1) ∧ decode cX10_readsSum 65 = .ok (.aload_n 0, 1) := by decide +kernel
theorem zcdX10_readsSum_66 : decode cX10_readsSum 66 = .ok (.getfield 165, 3) ∧ decode cX10_readsSum 69 = .ok (.iconst 1, 1) ∧ decode cX10_readsSum 70 = .ok (.iadd, 1) ∧ decode cX10_readsSum 71 = .ok (.putfield 165, 3) ∧ decode cX10_readsSum 74 = .ok (.aload_n 0, 1) ∧ decode cX10_readsSum 75 = .ok (.invokevirtual 215, 3) ∧ decode cX10_readsSum 78 = .ok (.ifCond .ne 85, 3) ∧ decode cX10_readsSum 81 = .ok (.iconst 0, 1) := by decide +kernel
theorem zcdX10_readsSum_82 : decode cX10_readsSum 82 = .ok (.ireturn, 1) ∧ decode cX10_readsSum 83 = .ok (.aload_n 0, 1) ∧ decode cX10_readsSum 84 = .ok (.invokevirtual 171, 3) ∧ decode cX10_readsSum 87 = .ok (.bipush 93, 2) ∧ decode cX10_readsSum 89 = .ok (.if_icmp .ne 49, 3) ∧ decode cX10_readsSum 92 = .ok (.aload_n 0, 1) ∧ decode cX10_readsSum 93 = .ok (.iload_n 1, 1) ∧ decode cX10_readsSum 94 = .ok (.invokevirtual 225, 3) := by decide +kernel
theorem zcdX10_readsSum_97 : decode cX10_readsSum 97 = .ok (.ifCond .eq 41, 3) ∧ decode cX10_readsSum 100 = .ok (.aload_n 0, 1) ∧ decode cX10_readsSum 101 = .ok (.iconst 1, 1) ∧ decode cX10_readsSum 102 = .ok (.invokevirtual 221, 3) ∧ decode cX10_readsSum 105 = .ok (.aload_n 0, 1) ∧ decode cX10_readsSum 106 = .ok (.aload_n 0, 1) ∧ decode cX10_readsSum 107 = .ok (.getfield 195, 3) ∧ decode cX10_readsSum 110 = .ok (.iconst 1, 1) := by decide +kernel
theorem zcdX10_readsSum_111 : decode cX10_readsSum 111 = .ok (.isub, 1) ∧ decode cX10_readsSum 112 = .ok (.putfield 195, 3) ∧ decode cX10_readsSum 115 = .ok (.aload_n 0, 1) ∧ decode cX10_readsSum 116 = .ok (.aload_n 0, 1) ∧ decode cX10_readsSum 117 = .ok (.getfield 192, 3) ∧ decode cX10_readsSum 120 = .ok (.iconst 1, 1) ∧ decode cX10_readsSum 121 = .ok (.isub, 1) ∧ decode cX10_readsSum 122 = .ok (.putfield 192, 3) := by decide +kernel
theorem zcdX10_readsSum_125 : decode cX10_readsSum 125 = .ok (.aload_n 0, 1) ∧ decode cX10_readsSum 126 = .ok (.aload_n 0, 1) ∧ decode cX10_readsSum 127 = .ok (.getfield 165, 3) ∧ decode cX10_readsSum 130 = .ok (.iconst 1, 1) ∧ decode cX10_readsSum 131 = .ok (.iadd, 1) ∧ decode cX10_readsSum 132 = .ok (.putfield 165, 3) ∧ decode cX10_readsSum 135 = .ok (.goto 28, 3) ∧ decode cX10_readsSum 138 = .ok (.aload_n 0, 1) := by decide +kernel
theorem zcdX10_readsSum_139 : decode cX10_readsSum 139 = .ok (.iload_n 1, 1) ∧ decode cX10_readsSum 140 = .ok (.invokevirtual 225, 3) ∧ decode cX10_readsSum 143 = .ok (.ifCond .eq 13, 3) ∧ decode cX10_readsSum 146 = .ok (.aload_n 0, 1) ∧ decode cX10_readsSum 147 = .ok (.iconst 1, 1) ∧ decode cX10_readsSum 148 = .ok (.aload_n 0, 1) ∧ decode cX10_readsSum 149 = .ok (.getfield 165, 3) ∧ decode cX10_readsSum 152 = .ok (.invokevirtual 178, 3) := by decide +kernel
theorem zcdX10_readsSum_155 : decode cX10_readsSum 155 = .ok (.ireturn, 1) ∧ decode cX10_readsSum 156 = .ok (.aload_n 0, 1) ∧ decode cX10_readsSum 157 = .ok (.iconst 1, 1) ∧ decode cX10_readsSum 158 = .ok (.invokevirtual 221, 3) ∧ decode cX10_readsSum 161 = .ok (.iconst 1, 1) ∧ decode cX10_readsSum 162 = .ok (.ireturn, 1) ∧ decode cX10_readsSum 163 = .ok (.goto (-149), 3) ∧ decode cX10_readsCompared 0 = .ok (.aload_n 0, 1) := by decide +kernel
theorem zcdX10_readsCompared_1 : decode cX10_readsCompared 1 = .ok (.invokevirtual 228, 3) ∧ decode cX10_readsCompared 4 = .ok (.ifCond .ne 5, 3) ∧ decode cX10_readsCompared 7 = .ok (.iconst 0, 1) ∧ decode cX10_readsCompared 8 = .ok (.ireturn, 1) ∧ decode cX10_readsCompared 9 = .ok (.aload_n 0, 1) ∧ decode cX10_readsCompared 10 = .ok (.invokevirtual 171, 3) ∧ decode cX10_readsCompared 13 = .ok (.bipush 60, 2) ∧ decode cX10_readsCompared 15 = .ok (.if_icmp .ne 8, 3) := by decide +kernel
theorem zcdX10_readsCompared_18 : decode cX10_readsCompared 18 = .ok (.bipush 7, 2) ∧ decode cX10_readsCompared 20 = .ok (.goto 32, 3) ∧ decode cX10_readsCompared 23 = .ok (.aload_n 0, 1) ∧ decode cX10_readsCompared 24 = .ok (.invokevirtual 171, 3) ∧ decode cX10_readsCompared 27 = .ok (.bipush 62, 2) ∧ decode cX10_readsCompared 29 = .ok (.if_icmp .ne 8, 3) ∧ decode cX10_readsCompared 32 = .ok (.bipush 8, 2) ∧ decode cX10_readsCompared 34 = .ok (.goto 18, 3) := by decide +kernel
theorem zcdX10_readsCompared_37 : decode cX10_readsCompared 37 = .ok (.aload_n 0, 1) ∧ decode cX10_readsCompared 38 = .ok (.invokevirtual 171, 3) ∧ decode cX10_readsCompared 41 = .ok (.bipush 61, 2) ∧ decode cX10_readsCompared 43 = .ok (.if_icmp .ne 8, 3) ∧ decode cX10_readsCompared 46 = .ok (.bipush 9, 2) ∧ decode cX10_readsCompared 48 = .ok (.goto 4, 3) ∧ decode cX10_readsCompared 51 = .ok (.iconst (-1), 1) ∧ decode cX10_readsCompared 52 = .ok (.istore_n 1, 1) := by decide +kernel
theorem zcdX10_readsCompared_53 : decode cX10_readsCompared 53 = .ok (.iload_n 1, 1) ∧ decode cX10_readsCompared 54 = .ok (.iconst (-1), 1) ∧ decode cX10_readsCompared 55 = .ok (.if_icmp .ne 13, 3) ∧ decode cX10_readsCompared 58 = .ok (.aload_n 0, 1) ∧ decode cX10_readsCompared 59 = .ok (.iconst 1, 1) ∧ decode cX10_readsCompared 60 = .ok (.aload_n 0, 1) ∧ decode cX10_readsCompared 61 = .ok (.getfield 165, 3) ∧ decode cX10_readsCompared 64 = .ok (.invokevirtual 178, 3) := by decide +kernel
theorem zcdX10_readsCompared_67 : decode cX10_readsCompared 67 = .ok (.ireturn, 1) ∧ decode cX10_readsCompared 68 = .ok (.aload_n 0, 1) ∧ decode cX10_readsCompared 69 = .ok (.aload_n 0, 1) ∧ decode cX10_readsCompared 70 = .ok (.getfield 165, 3) ∧ decode cX10_readsCompared 73 = .ok (.iconst 1, 1) ∧ decode cX10_readsCompared 74 = .ok (.iadd, 1) ∧ decode cX10_readsCompared 75 = .ok (.putfield 165, 3) ∧ decode cX10_readsCompared 78 = .ok (.aload_n 0, 1) := by decide +kernel
theorem zcdX10_readsCompared_79 : decode cX10_readsCompared 79 = .ok (.invokevirtual 228, 3) ∧ decode cX10_readsCompared 82 = .ok (.ifCond .ne 5, 3) ∧ decode cX10_readsCompared 85 = .ok (.iconst 0, 1) ∧ decode cX10_readsCompared 86 = .ok (.ireturn, 1) ∧ decode cX10_readsCompared 87 = .ok (.aload_n 0, 1) ∧ decode cX10_readsCompared 88 = .ok (.iload_n 1, 1) ∧ decode cX10_readsCompared 89 = .ok (.iconst 0, 1) ∧ decode cX10_readsCompared 90 = .ok (.invokevirtual 201, 3) := by decide +kernel
theorem zcdX10_readsCompared_93 : decode cX10_readsCompared 93 = .ok (.aload_n 0, 1) ∧ decode cX10_readsCompared 94 = .ok (.invokevirtual 231, 3) ∧ decode cX10_readsCompared 97 = .ok (.iconst 1, 1) ∧ decode cX10_readsCompared 98 = .ok (.ireturn, 1) := by decide +kernel
set_option maxHeartbeats 4000000 in
theorem t_X10_islands (v1 : Int32) (v2 : Int32) (M : Mem) : AXi yX10_islands cX10_islands 6 (some .int) 3 39 glM (fun ad => [.ref (ad 0), .int v1, .int v2]) M (f_X10_islands M v1 v2) := by
  intro r0 h
  refine AM.of (by decide) (fun _ => Nat.le_of_ble_eq_true rfl) (fun X ad cI cZ cB hX hR => ?_)
  show V X M [(0, .ref (ad 0)), (1, .int v1), (2, .int v2)] [] 0
  refine s_iload_n (k := 1) hX zcdX10_islands_0.1 rfl rfl ?_
  refine s_iconst (v := (nI 1)) hX zcdX10_islands_0.2.1 (by decide) ?_
  refine s_bipush (v := (nI 30)) hX zcdX10_islands_0.2.2.1 (by decide) ?_
  refine e_callSp hX (t_X10_in v1 (nI 1) (nI 30) M) mX10_in lX10_132 (by decide) (by decide) rfl rfl (Nat.le_of_ble_eq_true rfl) zcdX10_islands_0.2.2.2.1 h (fun r_1 h => ?_)
  refine e_if_eq (tgt := 24) hX zcdX10_islands_0.2.2.2.2.1 (by decide) z_eq h (fun h => ?_) (fun h => ?_)
  · refine s_iconst (v := (-1)) hX zcdX10_islands_16.2.2.2.2.1 (by decide) ?_
    exact e_ireti hX hR zcdX10_islands_16.2.2.2.2.2.1 h
  · refine s_iload_n (k := 2) hX zcdX10_islands_0.2.2.2.2.2.1 rfl rfl ?_
    refine s_bipush (v := (nI 100)) hX zcdX10_islands_0.2.2.2.2.2.2.1 (by decide) ?_
    have j26 : f_X10_islands_L26 M v1 v2 = some r0 → V X M [(0, .ref (ad 0)), (1, .int v1), (2, .int v2)] [] 26 := by
      intro  h
      refine s_aload_n (k := 0) hX zcdX10_islands_16.2.2.2.2.2.2.1 rfl rfl ?_
      refine s_iload_n (k := 1) hX zcdX10_islands_16.2.2.2.2.2.2.2 rfl rfl ?_
      refine e_callVi hX (t_X10_laysIslands v1 M) mX10_laysIslands lX10_356 (by decide) (by decide) oM0 rfl rfl rfl rfl rfl (Nat.le_of_ble_eq_true rfl) zcdX10_islands_28.1 h (fun r_2 M_3 h => ?_)
      refine s_istore_n (lv' := [(0, .ref (ad 0)), (1, .int v1), (2, .int v2), (3, .int r_2)]) hX zcdX10_islands_28.2.1 rfl (by decide) rfl ?_
      refine s_iload_n (k := 2) hX zcdX10_islands_28.2.2.1 rfl rfl ?_
      refine s_bipush (v := (nI 100)) hX zcdX10_islands_28.2.2.2.1 (by decide) ?_
      refine e_icmp_ne (tgt := 40) hX zcdX10_islands_28.2.2.2.2.1 (by decide) (m_eq (by decide +kernel)) h (fun h => ?_) (fun h => ?_)
      · refine s_iconst (v := (nI 0)) hX zcdX10_islands_28.2.2.2.2.2.2.2 (by decide) ?_
        refine s_istore (lv' := [(0, .ref (ad 0)), (1, .int v1), (2, .int v2), (3, .int r_2), (4, .int (nI 0))]) hX zcdX10_islands_41.1 (by decide) rfl ?_
        refine s_iconst (v := (nI 0)) hX zcdX10_islands_41.2.1 (by decide) ?_
        refine s_istore (lv' := [(0, .ref (ad 0)), (1, .int v1), (2, .int v2), (3, .int r_2), (4, .int (nI 0)), (5, .int (nI 0))]) hX zcdX10_islands_41.2.2.1 (by decide) rfl ?_
        have lp46 : ∀ (N46 : Nat) (y4_46 : Int32) (y5_46 : Int32), wlp2 (f_X10_islands_B46 v2 M_3) N46 y4_46 y5_46 = some r0 → V X M_3 [(0, .ref (ad 0)), (2, .int v2), (4, .int y4_46), (5, .int y5_46)] [] 46 := by
          intro N46
          induction N46 with
          | zero => exact fun _ _ h => e_none h
          | succ N46 ih46 =>
            intro y4_46 y5_46 h
            replace h : f_X10_islands_B46 v2 M_3 (wlp2 (f_X10_islands_B46 v2 M_3) N46) y4_46 y5_46 = some r0 := h
            generalize wlp2 (f_X10_islands_B46 v2 M_3) N46 = ag46 at ih46 h
            refine s_iload (k := 3) hX zcdX10_islands_41.2.2.2.1 rfl ?_
            refine s_bipush (v := (nI 40)) hX zcdX10_islands_41.2.2.2.2.1 (by decide) ?_
            refine e_icmp_ge (tgt := 91) hX zcdX10_islands_41.2.2.2.2.2.1 (by decide) (m_ge (by decide +kernel)) h (fun h => ?_) (fun h => ?_)
            · refine s_iload (k := 2) hX zcdX10_islands_83.2.2.2.1 rfl ?_
              exact e_ireti hX hR zcdX10_islands_83.2.2.2.2.1 h
            · refine s_aload_n (k := 0) hX zcdX10_islands_41.2.2.2.2.2.2.1 rfl rfl ?_
              refine s_get hX fX10_101 oM0 rfl zcdX10_islands_41.2.2.2.2.2.2.2 ?_
              refine s_iload_n (k := 1) hX zcdX10_islands_57.1 rfl rfl ?_
              refine e_iald hX aM31 zcdX10_islands_57.2.1 h (fun h => ?_)
              refine s_iconst (v := (-1)) hX zcdX10_islands_57.2.2.1 (by decide) ?_
              refine e_icmp_eq (tgt := 85) hX zcdX10_islands_57.2.2.2.1 (by decide) (m_eq (by decide +kernel)) h (fun h => ?_) (fun h => ?_)
              · refine s_iinc (k := 3) (v := (y5_46 + (nI 1))) (lv' := [(0, .ref (ad 0)), (2, .int v2), (4, .int y4_46), (5, .int (y5_46 + (nI 1)))]) hX zcdX10_islands_83.2.1 (congrArg (fun z => y5_46 + z) (by decide)) (by decide) rfl rfl ?_
                refine s_goto (tgt := 46) hX zcdX10_islands_83.2.2.1 (by decide) ?_
                exact ih46 y4_46 (y5_46 + (nI 1)) h
              · refine s_aload_n (k := 0) hX zcdX10_islands_57.2.2.2.2.1 rfl rfl ?_
                refine s_get hX fX10_101 oM0 rfl zcdX10_islands_57.2.2.2.2.2.1 ?_
                refine s_iload (k := 3) hX zcdX10_islands_57.2.2.2.2.2.2.1 rfl ?_
                refine e_iald hX aM31 zcdX10_islands_57.2.2.2.2.2.2.2 h (fun h => ?_)
                refine s_aload_n (k := 0) hX zcdX10_islands_70.1 rfl rfl ?_
                refine s_get hX fX10_101 oM0 rfl zcdX10_islands_70.2.1 ?_
                refine s_iload_n (k := 1) hX zcdX10_islands_70.2.2.1 rfl rfl ?_
                refine e_iald hX aM31 zcdX10_islands_70.2.2.2.1 h (fun h => ?_)
                refine e_icmp_ne (tgt := 85) hX zcdX10_islands_70.2.2.2.2.1 (by decide) r_eq h (fun h => ?_) (fun h => ?_)
                · refine s_iinc (k := 3) (v := (y5_46 + (nI 1))) (lv' := [(0, .ref (ad 0)), (2, .int v2), (4, .int y4_46), (5, .int (y5_46 + (nI 1)))]) hX zcdX10_islands_83.2.1 (congrArg (fun z => y5_46 + z) (by decide)) (by decide) rfl rfl ?_
                  refine s_goto (tgt := 46) hX zcdX10_islands_83.2.2.1 (by decide) ?_
                  exact ih46 y4_46 (y5_46 + (nI 1)) h
                · refine s_iload (k := 2) hX zcdX10_islands_70.2.2.2.2.2.1 rfl ?_
                  refine s_iconst (v := (nI 1)) hX zcdX10_islands_70.2.2.2.2.2.2.1 (by decide) ?_
                  refine s_iadd hX zcdX10_islands_70.2.2.2.2.2.2.2 ?_
                  refine s_istore (lv' := [(0, .ref (ad 0)), (2, .int v2), (5, .int y5_46), (4, .int (y4_46 + (nI 1)))]) hX zcdX10_islands_83.1 (by decide) rfl ?_
                  refine s_iinc (k := 2) (v := (y5_46 + (nI 1))) (lv' := [(0, .ref (ad 0)), (2, .int v2), (4, .int (y4_46 + (nI 1))), (5, .int (y5_46 + (nI 1)))]) hX zcdX10_islands_83.2.1 (congrArg (fun z => y5_46 + z) (by decide)) (by decide) rfl rfl ?_
                  refine s_goto (tgt := 46) hX zcdX10_islands_83.2.2.1 (by decide) ?_
                  exact ih46 (y4_46 + (nI 1)) (y5_46 + (nI 1)) h
        refine s_loc [0, 2, 4, 5] rfl ?_
        exact lp46 FU (nI 0) (nI 0) h
      · refine s_iload_n (k := 3) hX zcdX10_islands_28.2.2.2.2.2.1 rfl rfl ?_
        exact e_ireti hX hR zcdX10_islands_28.2.2.2.2.2.2.1 h
    refine e_icmp_eq (tgt := 26) hX zcdX10_islands_0.2.2.2.2.2.2.2 (by decide) (m_eq (by decide +kernel)) h (fun h => ?_) (fun h => ?_)
    · exact j26 h
    · refine s_aload_n (k := 0) hX zcdX10_islands_16.1 rfl rfl ?_
      refine s_iload_n (k := 2) hX zcdX10_islands_16.2.1 rfl rfl ?_
      refine e_callVp hX (t_X10_isStone v2 M) mX10_isStone lX10_154 (by decide) (by decide) oM0 rfl rfl rfl rfl rfl (Nat.le_of_ble_eq_true rfl) zcdX10_islands_16.2.2.1 h (fun r_4 h => ?_)
      refine e_if_ne (tgt := 26) hX zcdX10_islands_16.2.2.2.1 (by decide) z_eq h (fun h => ?_) (fun h => ?_)
      · exact j26 h
      · refine s_iconst (v := (-1)) hX zcdX10_islands_16.2.2.2.2.1 (by decide) ?_
        exact e_ireti hX hR zcdX10_islands_16.2.2.2.2.2.1 h
set_option maxHeartbeats 4000000 in
theorem t_X10_jumps (v1 : Int32) (M : Mem) : AXv yX10_jumps cX10_jumps 2 none 1 39 glM (fun ad => [.ref (ad 0), .int v1]) M (f_X10_jumps M v1) := by
  intro r0 h
  refine AM.of (by decide) (fun _ => Nat.le_of_ble_eq_true rfl) (fun X ad cI cZ cB hX hR => ?_)
  show V X M [(0, .ref (ad 0)), (1, .int v1)] [] 0
  refine s_aload_n (k := 0) hX zcdX10_islands_83.2.2.2.2.2.1 rfl rfl ?_
  refine s_get hX fX10_29 oM0 rfl zcdX10_islands_83.2.2.2.2.2.2.1 ?_
  refine s_aload_n (k := 0) hX zcdX10_islands_83.2.2.2.2.2.2.2 rfl rfl ?_
  refine s_get hX fX10_195 oM0 rfl zcdX10_jumps_5.1 ?_
  refine s_ldc (v := (nI 1048576)) hX kX10_191 zcdX10_jumps_5.2.1 ?_
  refine s_iload_n (k := 1) hX zcdX10_jumps_5.2.2.1 rfl rfl ?_
  refine s_imul hX zcdX10_jumps_5.2.2.2.1 ?_
  refine s_aload_n (k := 0) hX zcdX10_jumps_5.2.2.2.2.1 rfl rfl ?_
  refine s_get hX fX10_188 oM0 rfl zcdX10_jumps_5.2.2.2.2.2.1 ?_
  refine s_iadd hX zcdX10_jumps_5.2.2.2.2.2.2.1 ?_
  refine e_iast hX aM7 zcdX10_jumps_5.2.2.2.2.2.2.2 h (fun h => ?_)
  refine e_bndM h (fun M_1 h => ?_)
  refine s_aload_n (k := 0) hX zcdX10_jumps_18.1 rfl rfl ?_
  refine s_aload_n (k := 0) hX zcdX10_jumps_18.2.1 rfl rfl ?_
  refine s_get hX fX10_195 oM0 rfl zcdX10_jumps_18.2.2.1 ?_
  refine s_iconst (v := (nI 1)) hX zcdX10_jumps_18.2.2.2.1 (by decide) ?_
  refine s_iadd hX zcdX10_jumps_18.2.2.2.2.1 ?_
  refine s_puti (ty := .int) hX fX10_195 oM0 rfl (Nat.le_of_ble_eq_true rfl) ty_10_13 rfl rfl zcdX10_jumps_18.2.2.2.2.2.1 ?_
  refine e_bndM h (fun M_2 h => ?_)
  refine s_aload_n (k := 0) hX zcdX10_jumps_18.2.2.2.2.2.2.1 rfl rfl ?_
  refine s_iload_n (k := 1) hX zcdX10_jumps_18.2.2.2.2.2.2.2 rfl rfl ?_
  refine s_iconst (v := (nI 0)) hX zcdX10_jumps_30.1 (by decide) ?_
  refine e_callVv hX (t_X10_notes v1 (nI 0) M_2) mX10_notes lX10_201 (by decide) (by decide) oM0 rfl rfl rfl rfl rfl (Nat.le_of_ble_eq_true rfl) zcdX10_jumps_30.2.1 h (fun M_3 h => ?_)
  refine s_aload_n (k := 0) hX zcdX10_jumps_30.2.2.1 rfl rfl ?_
  refine s_aload_n (k := 0) hX zcdX10_jumps_30.2.2.2.1 rfl rfl ?_
  refine s_get hX fX10_165 oM0 rfl zcdX10_jumps_30.2.2.2.2.1 ?_
  refine s_iconst (v := (nI 1)) hX zcdX10_jumps_30.2.2.2.2.2.1 (by decide) ?_
  refine s_iadd hX zcdX10_jumps_30.2.2.2.2.2.2.1 ?_
  refine s_puti (ty := .int) hX fX10_165 oM0 rfl (Nat.le_of_ble_eq_true rfl) ty_10_7 rfl rfl zcdX10_jumps_30.2.2.2.2.2.2.2 ?_
  refine e_bndM h (fun M_4 h => ?_)
  exact e_vret hX hR zcdX10_jumps_44.1 h
set_option maxHeartbeats 4000000 in
theorem t_X10_keep (M : Mem) : AXi yX10_keep cX10_keep 1 (some .int) 1 39 glM (fun ad => [.ref (ad 0)]) M (f_X10_keep M) := by
  intro r0 h
  refine AM.of (by decide) (fun _ => Nat.le_of_ble_eq_true rfl) (fun X ad cI cZ cB hX hR => ?_)
  show V X M [(0, .ref (ad 0))] [] 0
  refine s_aload_n (k := 0) hX zcdX10_jumps_44.2.1 rfl rfl ?_
  refine s_iconst (v := (nI 1)) hX zcdX10_jumps_44.2.2.1 (by decide) ?_
  refine s_puti (ty := .boolean) hX fX10_415 oM0 rfl (Nat.le_of_ble_eq_true rfl) ty_10_54 rfl rfl zcdX10_jumps_44.2.2.2.1 ?_
  refine e_bndM h (fun M_1 h => ?_)
  refine s_aload_n (k := 0) hX zcdX10_jumps_44.2.2.2.2.1 rfl rfl ?_
  refine s_get hX fX10_7 oM0 rfl zcdX10_jumps_44.2.2.2.2.2.1 ?_
  refine s_aload_n (k := 0) hX zcdX10_jumps_44.2.2.2.2.2.2.1 rfl rfl ?_
  refine s_get hX fX10_16 oM0 rfl zcdX10_jumps_44.2.2.2.2.2.2.2 ?_
  refine e_callSv hX (t_X10_copies 1 202 aM1 (by decide) 3 202 aM3 (by decide) M_1) mX10_copies lX10_315 (by decide) (by decide) rfl rfl (Nat.le_of_ble_eq_true rfl) zcdX10_keep_13.1 h (fun M_2 h => ?_)
  refine s_aload_n (k := 0) hX zcdX10_keep_13.2.1 rfl rfl ?_
  refine s_get hX fX10_7 oM0 rfl zcdX10_keep_13.2.2.1 ?_
  refine s_sipush (v := (nI 200)) hX zcdX10_keep_13.2.2.2.1 (by decide) ?_
  refine s_ialdN hX aM1 (by decide) zcdX10_keep_13.2.2.2.2.1 ?_
  exact e_ireti hX hR zcdX10_keep_13.2.2.2.2.2.1 h
set_option maxHeartbeats 4000000 in
theorem t_X10_key (v1 : Int32) (v2 : Int32) (M : Mem) : AXi yX10_key cX10_key 8 (some .int) 4 39 glM (fun ad => [.ref (ad 0), .int v1, .int v2]) M (f_X10_key M v1 v2) := by
  intro r0 h
  refine AM.of (by decide) (fun _ => Nat.le_of_ble_eq_true rfl) (fun X ad cI cZ cB hX hR => ?_)
  show V X M [(0, .ref (ad 0)), (1, .int v1), (2, .int v2)] [] 0
  refine s_aload_n (k := 0) hX zcdX10_keep_13.2.2.2.2.2.2.1 rfl rfl ?_
  refine s_iload_n (k := 1) hX zcdX10_keep_13.2.2.2.2.2.2.2 rfl rfl ?_
  refine e_callVp hX (t_X10_isPerson v1 M) mX10_isPerson lX10_334 (by decide) (by decide) oM0 rfl rfl rfl rfl rfl (Nat.le_of_ble_eq_true rfl) zcdX10_key_2.1 h (fun r_1 h => ?_)
  refine e_if_eq (tgt := 17) hX zcdX10_key_2.2.1 (by decide) z_eq h (fun h => ?_) (fun h => ?_)
  · refine s_iconst (v := (-1)) hX zcdX10_key_2.2.2.2.2.2.2.2 (by decide) ?_
    exact e_ireti hX hR zcdX10_key_18.1 h
  · refine s_iload_n (k := 2) hX zcdX10_key_2.2.2.1 rfl rfl ?_
    refine s_iconst (v := (nI 0)) hX zcdX10_key_2.2.2.2.1 (by decide) ?_
    refine s_iconst (v := (nI 1)) hX zcdX10_key_2.2.2.2.2.1 (by decide) ?_
    refine e_callSp hX (t_X10_in v2 (nI 0) (nI 1) M) mX10_in lX10_132 (by decide) (by decide) rfl rfl (Nat.le_of_ble_eq_true rfl) zcdX10_key_2.2.2.2.2.2.1 h (fun r_2 h => ?_)
    refine e_if_ne (tgt := 19) hX zcdX10_key_2.2.2.2.2.2.2.1 (by decide) z_eq h (fun h => ?_) (fun h => ?_)
    · refine s_aload_n (k := 0) hX zcdX10_key_18.2.1 rfl rfl ?_
      refine s_get hX fX10_19 oM0 rfl zcdX10_key_18.2.2.1 ?_
      refine s_iload_n (k := 1) hX zcdX10_key_18.2.2.2.1 rfl rfl ?_
      refine e_iald hX aM4 zcdX10_key_18.2.2.2.2.1 h (fun h => ?_)
      refine e_bnd h (fun x_3 h => ?_)
      refine s_istore_n (lv' := [(0, .ref (ad 0)), (1, .int v1), (2, .int v2), (3, .int x_3)]) hX zcdX10_key_18.2.2.2.2.2.1 rfl (by decide) rfl ?_
      refine s_aload_n (k := 0) hX zcdX10_key_18.2.2.2.2.2.2.1 rfl rfl ?_
      refine s_iload_n (k := 3) hX zcdX10_key_18.2.2.2.2.2.2.2 rfl rfl ?_
      refine e_callVi hX (t_X10_crossing x_3 M) mX10_crossing lX10_337 (by decide) (by decide) oM0 rfl rfl rfl rfl rfl (Nat.le_of_ble_eq_true rfl) zcdX10_key_28.1 h (fun r_4 M_5 h => ?_)
      refine s_iconst (v := (-1)) hX zcdX10_key_28.2.1 (by decide) ?_
      refine e_icmp_ne (tgt := 38) hX zcdX10_key_28.2.2.1 (by decide) (m_eq (by decide +kernel)) h (fun h => ?_) (fun h => ?_)
      · refine s_iconst (v := (nI 0)) hX zcdX10_key_28.2.2.2.2.2.1 (by decide) ?_
        refine s_istore (lv' := [(0, .ref (ad 0)), (1, .int v1), (2, .int v2), (3, .int x_3), (4, .int (nI 0))]) hX zcdX10_key_28.2.2.2.2.2.2.1 (by decide) rfl ?_
        refine s_bipush (v := (-2)) hX zcdX10_key_28.2.2.2.2.2.2.2 (by decide) ?_
        refine s_istore (lv' := [(0, .ref (ad 0)), (1, .int v1), (2, .int v2), (3, .int x_3), (4, .int (nI 0)), (5, .int (-2))]) hX zcdX10_key_43.1 (by decide) rfl ?_
        refine s_bipush (v := (nI 39)) hX zcdX10_key_43.2.1 (by decide) ?_
        refine s_istore (lv' := [(0, .ref (ad 0)), (1, .int v1), (2, .int v2), (3, .int x_3), (4, .int (nI 0)), (5, .int (-2)), (6, .int (nI 39))]) hX zcdX10_key_43.2.2.1 (by decide) rfl ?_
        have lp49 : ∀ (N49 : Nat) (M49 : Mem) (y4_49 : Int32) (y5_49 : Int32) (y6_49 : Int32), wlp4 (f_X10_key_B49 v2 x_3) N49 M49 y4_49 y5_49 y6_49 = some r0 → V X M49 [(0, .ref (ad 0)), (2, .int v2), (3, .int x_3), (4, .int y4_49), (5, .int y5_49), (6, .int y6_49)] [] 49 := by
          intro N49
          induction N49 with
          | zero => exact fun _ _ _ _ h => e_none h
          | succ N49 ih49 =>
            intro M49 y4_49 y5_49 y6_49 h
            replace h : f_X10_key_B49 v2 x_3 (wlp4 (f_X10_key_B49 v2 x_3) N49) M49 y4_49 y5_49 y6_49 = some r0 := h
            generalize wlp4 (f_X10_key_B49 v2 x_3) N49 = ag49 at ih49 h
            refine s_iload (k := 5) hX zcdX10_key_43.2.2.2.1 rfl ?_
            have j130 : f_X10_key_L130 v2 M49 y4_49 y5_49 = some r0 → V X M49 [(2, .int v2), (4, .int y4_49), (5, .int y5_49)] [] 130 := by
              intro  h
              refine s_iload_n (k := 0) hX zcdX10_key_120.2.2.2.2.1 rfl rfl ?_
              refine e_if_ne (tgt := 139) hX zcdX10_key_120.2.2.2.2.2.1 (by decide) z_eq h (fun h => ?_) (fun h => ?_)
              · refine s_iload (k := 2) hX zcdX10_key_139.1 rfl ?_
                exact e_ireti hX hR zcdX10_key_139.2.1 h
              · refine s_iload (k := 1) hX zcdX10_key_120.2.2.2.2.2.2.1 rfl ?_
                refine s_goto (tgt := 141) hX zcdX10_key_120.2.2.2.2.2.2.2 (by decide) ?_
                exact e_ireti hX hR zcdX10_key_139.2.1 h
            refine e_if_lt (tgt := 130) hX zcdX10_key_43.2.2.2.2.1 (by decide) z_lt h (fun h => ?_) (fun h => ?_)
            · refine s_loc [1, 3, 4] rfl ?_
              exact j130 h
            · refine s_aload_n (k := 0) hX zcdX10_key_43.2.2.2.2.2.1 rfl rfl ?_
              refine s_iload (k := 5) hX zcdX10_key_43.2.2.2.2.2.2.1 rfl ?_
              refine e_callVp hX (t_X10_isDry y6_49 M49) mX10_isDry lX10_319 (by decide) (by decide) oM0 rfl rfl rfl rfl rfl (Nat.le_of_ble_eq_true rfl) zcdX10_key_43.2.2.2.2.2.2.2 h (fun r_6 h => ?_)
              refine e_if_ne (tgt := 66) hX zcdX10_key_60.1 (by decide) z_eq h (fun h => ?_) (fun h => ?_)
              · refine s_aload_n (k := 0) hX zcdX10_key_60.2.2.1 rfl rfl ?_
                refine s_get hX fX10_7 oM0 rfl zcdX10_key_60.2.2.2.1 ?_
                refine s_sipush (v := (nI 160)) hX zcdX10_key_60.2.2.2.2.1 (by decide) ?_
                refine s_iload (k := 5) hX zcdX10_key_60.2.2.2.2.2.1 rfl ?_
                refine s_iadd hX zcdX10_key_60.2.2.2.2.2.2.1 ?_
                refine s_iconst (v := (nI 1)) hX zcdX10_key_60.2.2.2.2.2.2.2 (by decide) ?_
                refine e_iast hX aM1 zcdX10_key_77.1 h (fun h => ?_)
                refine e_bndM h (fun M_7 h => ?_)
                refine s_aload_n (k := 0) hX zcdX10_key_77.2.1 rfl rfl ?_
                refine s_iload_n (k := 2) hX zcdX10_key_77.2.2.1 rfl rfl ?_
                refine e_callVi hX (t_X10_crossing x_3 M_7) mX10_crossing lX10_337 (by decide) (by decide) oM0 rfl rfl rfl rfl rfl (Nat.le_of_ble_eq_true rfl) zcdX10_key_77.2.2.2.1 h (fun r_8 M_9 h => ?_)
                refine s_iconst (v := (-1)) hX zcdX10_key_77.2.2.2.2.1 (by decide) ?_
                have j92 : ∀ (t0_92 : Int32), f_X10_key_L92 ag49 y4_49 y5_49 y6_49 M_9 t0_92 = some r0 → V X M_9 [(0, .ref (ad 0)), (2, .int v2), (3, .int x_3), (4, .int y4_49), (5, .int y5_49), (6, .int y6_49)] [.int t0_92] 92 := by
                  intro t0_92 h
                  refine s_istore (lv' := [(0, .ref (ad 0)), (2, .int v2), (3, .int x_3), (4, .int y4_49), (5, .int y5_49), (6, .int y6_49), (7, .int t0_92)]) hX zcdX10_key_91.2.1 (by decide) rfl ?_
                  refine s_aload_n (k := 0) hX zcdX10_key_91.2.2.1 rfl rfl ?_
                  refine s_get hX fX10_7 oM0 rfl zcdX10_key_91.2.2.2.1 ?_
                  refine s_sipush (v := (nI 160)) hX zcdX10_key_91.2.2.2.2.1 (by decide) ?_
                  refine s_iload (k := 5) hX zcdX10_key_91.2.2.2.2.2.1 rfl ?_
                  refine s_iadd hX zcdX10_key_91.2.2.2.2.2.2.1 ?_
                  refine s_iconst (v := (nI 0)) hX zcdX10_key_91.2.2.2.2.2.2.2 (by decide) ?_
                  refine e_iast hX aM1 zcdX10_key_105.1 h (fun h => ?_)
                  refine e_bndM h (fun M_10 h => ?_)
                  refine s_iload (k := 6) hX zcdX10_key_105.2.1 rfl ?_
                  refine e_if_ne (tgt := 114) hX zcdX10_key_105.2.2.1 (by decide) z_eq h (fun h => ?_) (fun h => ?_)
                  · refine s_iload (k := 3) hX zcdX10_key_105.2.2.2.2.1 rfl ?_
                    refine s_iconst (v := (nI 1)) hX zcdX10_key_105.2.2.2.2.2.1 (by decide) ?_
                    refine s_iadd hX zcdX10_key_105.2.2.2.2.2.2.1 ?_
                    refine s_istore (lv' := [(0, .ref (ad 0)), (2, .int v2), (3, .int x_3), (5, .int y5_49), (6, .int y6_49), (7, .int t0_92), (4, .int (y4_49 + (nI 1)))]) hX zcdX10_key_105.2.2.2.2.2.2.2 (by decide) rfl ?_
                    refine s_iload (k := 4) hX zcdX10_key_120.1 rfl ?_
                    refine s_istore (lv' := [(0, .ref (ad 0)), (2, .int v2), (3, .int x_3), (6, .int y6_49), (7, .int t0_92), (4, .int (y4_49 + (nI 1))), (5, .int y6_49)]) hX zcdX10_key_120.2.1 (by decide) rfl ?_
                    refine s_iinc (k := 3) (v := (y6_49 + (-1))) (lv' := [(0, .ref (ad 0)), (2, .int v2), (3, .int x_3), (7, .int t0_92), (4, .int (y4_49 + (nI 1))), (5, .int y6_49), (6, .int (y6_49 + (-1)))]) hX zcdX10_key_120.2.2.1 (congrArg (fun z => y6_49 + z) (by decide)) (by decide) rfl rfl ?_
                    refine s_goto (tgt := 49) hX zcdX10_key_120.2.2.2.1 (by decide) ?_
                    refine s_loc [0, 1, 2, 4, 5, 6] rfl ?_
                    exact ih49 M_10 (y4_49 + (nI 1)) y6_49 (y6_49 + (-1)) h
                  · refine s_goto (tgt := 124) hX zcdX10_key_105.2.2.2.1 (by decide) ?_
                    refine s_iinc (k := 5) (v := (y6_49 + (-1))) (lv' := [(0, .ref (ad 0)), (2, .int v2), (3, .int x_3), (4, .int y4_49), (5, .int y5_49), (7, .int t0_92), (6, .int (y6_49 + (-1)))]) hX zcdX10_key_120.2.2.1 (congrArg (fun z => y6_49 + z) (by decide)) (by decide) rfl rfl ?_
                    refine s_goto (tgt := 49) hX zcdX10_key_120.2.2.2.1 (by decide) ?_
                    refine s_loc [0, 1, 2, 3, 4, 6] rfl ?_
                    exact ih49 M_10 y4_49 y5_49 (y6_49 + (-1)) h
                refine e_icmp_ne (tgt := 91) hX zcdX10_key_77.2.2.2.2.2.1 (by decide) (m_eq (by decide +kernel)) h (fun h => ?_) (fun h => ?_)
                · refine s_iconst (v := (nI 0)) hX zcdX10_key_91.1 (by decide) ?_
                  exact j92 (nI 0) h
                · refine s_iconst (v := (nI 1)) hX zcdX10_key_77.2.2.2.2.2.2.1 (by decide) ?_
                  refine s_goto (tgt := 92) hX zcdX10_key_77.2.2.2.2.2.2.2 (by decide) ?_
                  exact j92 (nI 1) h
              · refine s_goto (tgt := 124) hX zcdX10_key_60.2.1 (by decide) ?_
                refine s_iinc (k := 5) (v := (y6_49 + (-1))) (lv' := [(0, .ref (ad 0)), (2, .int v2), (3, .int x_3), (4, .int y4_49), (5, .int y5_49), (6, .int (y6_49 + (-1)))]) hX zcdX10_key_120.2.2.1 (congrArg (fun z => y6_49 + z) (by decide)) (by decide) rfl rfl ?_
                refine s_goto (tgt := 49) hX zcdX10_key_120.2.2.2.1 (by decide) ?_
                exact ih49 M49 y4_49 y5_49 (y6_49 + (-1)) h
        refine s_loc [0, 2, 3, 4, 5, 6] rfl ?_
        exact lp49 FU M_5 (nI 0) (-2) (nI 39) h
      · refine s_bipush (v := (-3)) hX zcdX10_key_28.2.2.2.1 (by decide) ?_
        exact e_ireti hX hR zcdX10_key_28.2.2.2.2.1 h
    · refine s_iconst (v := (-1)) hX zcdX10_key_2.2.2.2.2.2.2.2 (by decide) ?_
      exact e_ireti hX hR zcdX10_key_18.1 h
set_option maxHeartbeats 4000000 in
theorem t_X10_lands (v1 : Int32) (M : Mem) : AXv yX10_lands cX10_lands 3 none 1 39 glM (fun ad => [.ref (ad 0), .int v1]) M (f_X10_lands M v1) := by
  intro r0 h
  refine AM.of (by decide) (fun _ => Nat.le_of_ble_eq_true rfl) (fun X ad cI cZ cB hX hR => ?_)
  show V X M [(0, .ref (ad 0)), (1, .int v1)] [] 0
  have lp0 : ∀ (N0 : Nat) (M0 : Mem), wlp1 (f_X10_lands_B0 v1) N0 M0 = some r0 → V X M0 [(0, .ref (ad 0)), (1, .int v1)] [] 0 := by
    intro N0
    induction N0 with
    | zero => exact fun _ h => e_none h
    | succ N0 ih0 =>
      intro M0 h
      replace h : f_X10_lands_B0 v1 (wlp1 (f_X10_lands_B0 v1) N0) M0 = some r0 := h
      generalize wlp1 (f_X10_lands_B0 v1) N0 = ag0 at ih0 h
      refine s_aload_n (k := 0) hX zcdX10_key_139.2.2.1 rfl rfl ?_
      refine e_callVp hX (t_X10_waitTop M0) mX10_waitTop lX10_198 (by decide) (by decide) oM0 rfl rfl rfl rfl rfl (Nat.le_of_ble_eq_true rfl) zcdX10_key_139.2.2.2.1 h (fun r_1 h => ?_)
      refine s_bipush (v := (nI 11)) hX zcdX10_key_139.2.2.2.2.1 (by decide) ?_
      have j22 : f_X10_lands_L22 ag0 M0 = some r0 → V X M0 [(0, .ref (ad 0)), (1, .int v1)] [] 22 := by
        intro  h
        refine s_aload_n (k := 0) hX zcdX10_lands_13.2.2.2.2.1 rfl rfl ?_
        refine s_get hX fX10_29 oM0 rfl zcdX10_lands_13.2.2.2.2.2.1 ?_
        refine s_aload_n (k := 0) hX zcdX10_lands_13.2.2.2.2.2.2.1 rfl rfl ?_
        refine s_get hX fX10_195 oM0 rfl zcdX10_lands_13.2.2.2.2.2.2.2 ?_
        refine s_iconst (v := (nI 1)) hX zcdX10_lands_30.1 (by decide) ?_
        refine s_isub hX zcdX10_lands_30.2.1 ?_
        refine e_iald hX aM7 zcdX10_lands_30.2.2.1 h (fun h => ?_)
        refine s_ldc (v := (nI 1048576)) hX kX10_191 zcdX10_lands_30.2.2.2.1 ?_
        refine s_iremL hX zcdX10_lands_30.2.2.2.2.1 (by decide) ?_
        refine e_bnd h (fun x_2 h => ?_)
        refine s_istore_n (lv' := [(0, .ref (ad 0)), (1, .int v1), (2, .int x_2)]) hX zcdX10_lands_30.2.2.2.2.2.1 rfl (by decide) rfl ?_
        refine s_aload_n (k := 0) hX zcdX10_lands_30.2.2.2.2.2.2.1 rfl rfl ?_
        refine s_get hX fX10_26 oM0 rfl zcdX10_lands_30.2.2.2.2.2.2.2 ?_
        refine s_iload_n (k := 2) hX zcdX10_lands_41.1 rfl rfl ?_
        refine s_ldc (v := (nI 1048576)) hX kX10_191 zcdX10_lands_41.2.1 ?_
        refine s_aload_n (k := 0) hX zcdX10_lands_41.2.2.1 rfl rfl ?_
        refine s_get hX fX10_26 oM0 rfl zcdX10_lands_41.2.2.2.1 ?_
        refine s_iload_n (k := 2) hX zcdX10_lands_41.2.2.2.2.1 rfl rfl ?_
        refine e_iald hX aM6 zcdX10_lands_41.2.2.2.2.2.1 h (fun h => ?_)
        refine s_ldc (v := (nI 1048576)) hX kX10_191 zcdX10_lands_41.2.2.2.2.2.2.1 ?_
        refine s_idiv hX zcdX10_lands_41.2.2.2.2.2.2.2 (by decide) ?_
        refine s_imul hX zcdX10_lands_53.1 ?_
        refine s_aload_n (k := 0) hX zcdX10_lands_53.2.1 rfl rfl ?_
        refine s_get hX fX10_188 oM0 rfl zcdX10_lands_53.2.2.1 ?_
        refine s_iadd hX zcdX10_lands_53.2.2.2.1 ?_
        refine e_iast hX aM6 zcdX10_lands_53.2.2.2.2.1 h (fun h => ?_)
        refine e_bndM h (fun M_3 h => ?_)
        refine s_aload_n (k := 0) hX zcdX10_lands_53.2.2.2.2.2.1 rfl rfl ?_
        refine s_aload_n (k := 0) hX zcdX10_lands_53.2.2.2.2.2.2.1 rfl rfl ?_
        refine s_get hX fX10_195 oM0 rfl zcdX10_lands_53.2.2.2.2.2.2.2 ?_
        refine s_iconst (v := (nI 1)) hX zcdX10_lands_65.1 (by decide) ?_
        refine s_isub hX zcdX10_lands_65.2.1 ?_
        refine s_puti (ty := .int) hX fX10_195 oM0 rfl (Nat.le_of_ble_eq_true rfl) ty_10_13 rfl rfl zcdX10_lands_65.2.2.1 ?_
        refine e_bndM h (fun M_4 h => ?_)
        refine s_goto (tgt := 0) hX zcdX10_lands_65.2.2.2.1 (by decide) ?_
        refine s_loc [0, 1] rfl ?_
        exact ih0 M_4 h
      refine e_icmp_eq (tgt := 22) hX zcdX10_key_139.2.2.2.2.2.1 (by decide) (m_eq (by decide +kernel)) h (fun h => ?_) (fun h => ?_)
      · exact j22 h
      · refine s_iload_n (k := 1) hX zcdX10_key_139.2.2.2.2.2.2.1 rfl rfl ?_
        refine e_if_eq (tgt := 73) hX zcdX10_key_139.2.2.2.2.2.2.2 (by decide) z_eq h (fun h => ?_) (fun h => ?_)
        · exact e_vret hX hR zcdX10_lands_65.2.2.2.2.1 h
        · refine s_aload_n (k := 0) hX zcdX10_lands_13.1 rfl rfl ?_
          refine e_callVp hX (t_X10_waitTop M0) mX10_waitTop lX10_198 (by decide) (by decide) oM0 rfl rfl rfl rfl rfl (Nat.le_of_ble_eq_true rfl) zcdX10_lands_13.2.1 h (fun r_5 h => ?_)
          refine s_bipush (v := (nI 12)) hX zcdX10_lands_13.2.2.1 (by decide) ?_
          refine e_icmp_ne (tgt := 73) hX zcdX10_lands_13.2.2.2.1 (by decide) (m_eq (by decide +kernel)) h (fun h => ?_) (fun h => ?_)
          · exact e_vret hX hR zcdX10_lands_65.2.2.2.2.1 h
          · exact j22 h
  exact lp0 FU M h
set_option maxHeartbeats 4000000 in
theorem t_X10_opens (v1 : Int32) (M : Mem) : AXi yX10_opens cX10_opens 2 (some .boolean) 1 39 glM (fun ad => [.ref (ad 0), .int v1]) M (f_X10_opens M v1) := by
  intro r0 h
  refine AM.of (by decide) (fun _ => Nat.le_of_ble_eq_true rfl) (fun X ad cI cZ cB hX hR => ?_)
  show V X M [(0, .ref (ad 0)), (1, .int v1)] [] 0
  refine s_aload_n (k := 0) hX zcdX10_lands_65.2.2.2.2.2.1 rfl rfl ?_
  refine s_get hX fX10_192 oM0 rfl zcdX10_lands_65.2.2.2.2.2.2.1 ?_
  refine s_bipush (v := (nI 6)) hX zcdX10_lands_65.2.2.2.2.2.2.2 (by decide) ?_
  refine e_icmp_ne (tgt := 19) hX zcdX10_opens_6.1 (by decide) (m_eq (by decide +kernel)) h (fun h => ?_) (fun h => ?_)
  · refine s_aload_n (k := 0) hX zcdX10_opens_6.2.2.2.2.2.2.2 rfl rfl ?_
    refine s_aload_n (k := 0) hX zcdX10_opens_20.1 rfl rfl ?_
    refine s_get hX fX10_192 oM0 rfl zcdX10_opens_20.2.1 ?_
    refine s_iconst (v := (nI 1)) hX zcdX10_opens_20.2.2.1 (by decide) ?_
    refine s_iadd hX zcdX10_opens_20.2.2.2.1 ?_
    refine s_puti (ty := .int) hX fX10_192 oM0 rfl (Nat.le_of_ble_eq_true rfl) ty_10_11 rfl rfl zcdX10_opens_20.2.2.2.2.1 ?_
    refine e_bndM h (fun M_1 h => ?_)
    refine s_aload_n (k := 0) hX zcdX10_opens_20.2.2.2.2.2.1 rfl rfl ?_
    refine s_get hX fX10_29 oM0 rfl zcdX10_opens_20.2.2.2.2.2.2.1 ?_
    refine s_aload_n (k := 0) hX zcdX10_opens_20.2.2.2.2.2.2.2 rfl rfl ?_
    refine s_get hX fX10_195 oM0 rfl zcdX10_opens_34.1 ?_
    refine s_ldc (v := (nI 1048576)) hX kX10_191 zcdX10_opens_34.2.1 ?_
    refine s_iload_n (k := 1) hX zcdX10_opens_34.2.2.1 rfl rfl ?_
    refine s_imul hX zcdX10_opens_34.2.2.2.1 ?_
    refine e_iast hX aM7 zcdX10_opens_34.2.2.2.2.1 h (fun h => ?_)
    refine e_bndM h (fun M_2 h => ?_)
    refine s_aload_n (k := 0) hX zcdX10_opens_34.2.2.2.2.2.1 rfl rfl ?_
    refine s_aload_n (k := 0) hX zcdX10_opens_34.2.2.2.2.2.2.1 rfl rfl ?_
    refine s_get hX fX10_195 oM0 rfl zcdX10_opens_34.2.2.2.2.2.2.2 ?_
    refine s_iconst (v := (nI 1)) hX zcdX10_opens_47.1 (by decide) ?_
    refine s_iadd hX zcdX10_opens_47.2.1 ?_
    refine s_puti (ty := .int) hX fX10_195 oM0 rfl (Nat.le_of_ble_eq_true rfl) ty_10_13 rfl rfl zcdX10_opens_47.2.2.1 ?_
    refine e_bndM h (fun M_3 h => ?_)
    refine s_aload_n (k := 0) hX zcdX10_opens_47.2.2.2.1 rfl rfl ?_
    refine s_aload_n (k := 0) hX zcdX10_opens_47.2.2.2.2.1 rfl rfl ?_
    refine s_get hX fX10_165 oM0 rfl zcdX10_opens_47.2.2.2.2.2.1 ?_
    refine s_iconst (v := (nI 1)) hX zcdX10_opens_47.2.2.2.2.2.2.1 (by decide) ?_
    refine s_iadd hX zcdX10_opens_47.2.2.2.2.2.2.2 ?_
    refine s_puti (ty := .int) hX fX10_165 oM0 rfl (Nat.le_of_ble_eq_true rfl) ty_10_7 rfl rfl zcdX10_opens_59.1 ?_
    refine e_bndM h (fun M_4 h => ?_)
    refine s_iconst (v := (nI 1)) hX zcdX10_opens_59.2.1 (by decide) ?_
    exact e_zretiL hX hR zcdX10_opens_59.2.2.1 (by decide) h
  · refine s_aload_n (k := 0) hX zcdX10_opens_6.2.1 rfl rfl ?_
    refine s_iconst (v := (nI 5)) hX zcdX10_opens_6.2.2.1 (by decide) ?_
    refine s_aload_n (k := 0) hX zcdX10_opens_6.2.2.2.1 rfl rfl ?_
    refine s_get hX fX10_165 oM0 rfl zcdX10_opens_6.2.2.2.2.1 ?_
    refine e_callVi hX (t_X10_wrongAt (nI 5) (M 0 7) M) mX10_wrongAt lX10_178 (by decide) (by decide) oM0 rfl rfl rfl rfl rfl (Nat.le_of_ble_eq_true rfl) zcdX10_opens_6.2.2.2.2.2.1 h (fun r_5 M_6 h => ?_)
    exact e_zreti hX hR zcdX10_opens_6.2.2.2.2.2.2.1 h
set_option maxHeartbeats 4000000 in
theorem t_X10_readsNumber (M : Mem) : AXi yX10_readsNumber cX10_readsNumber 2 (some .boolean) 2 39 glM (fun ad => [.ref (ad 0)]) M (f_X10_readsNumber M) := by
  intro r0 h
  refine AM.of (by decide) (fun _ => Nat.le_of_ble_eq_true rfl) (fun X ad cI cZ cB hX hR => ?_)
  show V X M [(0, .ref (ad 0))] [] 0
  refine s_aload_n (k := 0) hX zcdX10_opens_59.2.2.2.1 rfl rfl ?_
  refine s_get hX fX10_165 oM0 rfl zcdX10_opens_59.2.2.2.2.1 ?_
  refine e_bnd h (fun x_1 h => ?_)
  refine s_istore_n (lv' := [(0, .ref (ad 0)), (1, .int x_1)]) hX zcdX10_opens_59.2.2.2.2.2.1 rfl (by decide) rfl ?_
  refine s_aload_n (k := 0) hX zcdX10_opens_59.2.2.2.2.2.2.1 rfl rfl ?_
  refine s_iconst (v := (nI 0)) hX zcdX10_opens_59.2.2.2.2.2.2.2 (by decide) ?_
  refine s_puti (ty := .int) hX fX10_181 oM0 rfl (Nat.le_of_ble_eq_true rfl) ty_10_10 rfl rfl zcdX10_readsNumber_7.1 ?_
  refine e_bndM h (fun M_2 h => ?_)
  have lp10 : ∀ (N10 : Nat) (M10 : Mem), wlp1 (f_X10_readsNumber_B10 x_1) N10 M10 = some r0 → V X M10 [(0, .ref (ad 0)), (1, .int x_1)] [] 10 := by
    intro N10
    induction N10 with
    | zero => exact fun _ h => e_none h
    | succ N10 ih10 =>
      intro M10 h
      replace h : f_X10_readsNumber_B10 x_1 (wlp1 (f_X10_readsNumber_B10 x_1) N10) M10 = some r0 := h
      generalize wlp1 (f_X10_readsNumber_B10 x_1) N10 = ag10 at ih10 h
      refine s_aload_n (k := 0) hX zcdX10_readsNumber_7.2.1 rfl rfl ?_
      refine e_callVp hX (t_X10_isDigit M10) mX10_isDigit lX10_184 (by decide) (by decide) oM0 rfl rfl rfl rfl rfl (Nat.le_of_ble_eq_true rfl) zcdX10_readsNumber_7.2.2.1 h (fun r_3 h => ?_)
      refine e_if_eq (tgt := 69) hX zcdX10_readsNumber_7.2.2.2.1 (by decide) z_eq h (fun h => ?_) (fun h => ?_)
      · refine s_iconst (v := (nI 1)) hX zcdX10_readsNumber_63.2.2.1 (by decide) ?_
        exact e_zretiL hX hR zcdX10_readsNumber_63.2.2.2.1 (by decide) h
      · refine s_aload_n (k := 0) hX zcdX10_readsNumber_7.2.2.2.2.1 rfl rfl ?_
        refine s_get hX fX10_165 oM0 rfl zcdX10_readsNumber_7.2.2.2.2.2.1 ?_
        refine s_iload_n (k := 1) hX zcdX10_readsNumber_7.2.2.2.2.2.2.1 rfl rfl ?_
        refine s_iconst (v := (nI 5)) hX zcdX10_readsNumber_7.2.2.2.2.2.2.2 (by decide) ?_
        refine s_iadd hX zcdX10_readsNumber_23.1 ?_
        have j27 : f_X10_readsNumber_L27 M10 = some r0 → V X M10 [(0, .ref (ad 0))] [] 27 := by
          intro  h
          refine s_aload_n (k := 0) hX zcdX10_readsNumber_23.2.2.1 rfl rfl ?_
          refine s_iconst (v := (nI 2)) hX zcdX10_readsNumber_23.2.2.2.1 (by decide) ?_
          refine s_aload_n (k := 0) hX zcdX10_readsNumber_23.2.2.2.2.1 rfl rfl ?_
          refine s_get hX fX10_165 oM0 rfl zcdX10_readsNumber_23.2.2.2.2.2.1 ?_
          refine e_callVi hX (t_X10_wrongAt (nI 2) (M10 0 7) M10) mX10_wrongAt lX10_178 (by decide) (by decide) oM0 rfl rfl rfl rfl rfl (Nat.le_of_ble_eq_true rfl) zcdX10_readsNumber_23.2.2.2.2.2.2.1 h (fun r_4 M_5 h => ?_)
          exact e_zreti hX hR zcdX10_readsNumber_23.2.2.2.2.2.2.2 h
        refine e_icmp_ne (tgt := 37) hX zcdX10_readsNumber_23.2.1 (by decide) r_eq h (fun h => ?_) (fun h => ?_)
        · refine s_aload_n (k := 0) hX zcdX10_readsNumber_37.1 rfl rfl ?_
          refine s_bipush (v := (nI 10)) hX zcdX10_readsNumber_37.2.1 (by decide) ?_
          refine s_aload_n (k := 0) hX zcdX10_readsNumber_37.2.2.1 rfl rfl ?_
          refine s_get hX fX10_181 oM0 rfl zcdX10_readsNumber_37.2.2.2.1 ?_
          refine s_imul hX zcdX10_readsNumber_37.2.2.2.2.1 ?_
          refine s_aload_n (k := 0) hX zcdX10_readsNumber_37.2.2.2.2.2.1 rfl rfl ?_
          refine e_callVp hX (t_X10_here M10) mX10_here lX10_171 (by decide) (by decide) oM0 rfl rfl rfl rfl rfl (Nat.le_of_ble_eq_true rfl) zcdX10_readsNumber_37.2.2.2.2.2.2.1 h (fun r_6 h => ?_)
          refine s_iadd hX zcdX10_readsNumber_37.2.2.2.2.2.2.2 ?_
          refine s_bipush (v := (nI 48)) hX zcdX10_readsNumber_50.1 (by decide) ?_
          refine s_isub hX zcdX10_readsNumber_50.2.1 ?_
          refine s_puti (ty := .int) hX fX10_181 oM0 rfl (Nat.le_of_ble_eq_true rfl) ty_10_10 rfl rfl zcdX10_readsNumber_50.2.2.1 ?_
          refine e_bndM h (fun M_7 h => ?_)
          refine s_aload_n (k := 0) hX zcdX10_readsNumber_50.2.2.2.1 rfl rfl ?_
          refine s_aload_n (k := 0) hX zcdX10_readsNumber_50.2.2.2.2.1 rfl rfl ?_
          refine s_get hX fX10_165 oM0 rfl zcdX10_readsNumber_50.2.2.2.2.2.1 ?_
          refine s_iconst (v := (nI 1)) hX zcdX10_readsNumber_50.2.2.2.2.2.2.1 (by decide) ?_
          refine s_iadd hX zcdX10_readsNumber_50.2.2.2.2.2.2.2 ?_
          refine s_puti (ty := .int) hX fX10_165 oM0 rfl (Nat.le_of_ble_eq_true rfl) ty_10_7 rfl rfl zcdX10_readsNumber_63.1 ?_
          refine e_bndM h (fun M_8 h => ?_)
          refine s_goto (tgt := 10) hX zcdX10_readsNumber_63.2.1 (by decide) ?_
          exact ih10 M_8 h
        · refine s_loc [0] rfl ?_
          exact j27 h
  exact lp10 FU M_2 h
set_option maxHeartbeats 4000000 in
theorem t_X10_readsFactor (M : Mem) : AXi yX10_readsFactor cX10_readsFactor 2 (some .boolean) 3 39 glM (fun ad => [.ref (ad 0)]) M (f_X10_readsFactor M) := by
  intro r0 h
  refine AM.of (by decide) (fun _ => Nat.le_of_ble_eq_true rfl) (fun X ad cI cZ cB hX hR => ?_)
  show V X M [(0, .ref (ad 0))] [] 0
  have lp0 : ∀ (N0 : Nat) (M0 : Mem), wlp1 f_X10_readsFactor_B0 N0 M0 = some r0 → V X M0 [(0, .ref (ad 0))] [] 0 := by
    intro N0
    induction N0 with
    | zero => exact fun _ h => e_none h
    | succ N0 ih0 =>
      intro M0 h
      replace h : f_X10_readsFactor_B0 (wlp1 f_X10_readsFactor_B0 N0) M0 = some r0 := h
      generalize wlp1 f_X10_readsFactor_B0 N0 = ag0 at ih0 h
      refine s_aload_n (k := 0) hX zcdX10_readsNumber_63.2.2.2.2.1 rfl rfl ?_
      refine e_callVp hX (t_X10_here M0) mX10_here lX10_171 (by decide) (by decide) oM0 rfl rfl rfl rfl rfl (Nat.le_of_ble_eq_true rfl) zcdX10_readsNumber_63.2.2.2.2.2.1 h (fun r_1 h => ?_)
      refine s_bipush (v := (nI 91)) hX zcdX10_readsNumber_63.2.2.2.2.2.2.1 (by decide) ?_
      have j20 : f_X10_readsFactor_L20 M0 = some r0 → V X M0 [(0, .ref (ad 0))] [] 20 := by
        intro  h
        refine s_aload_n (k := 0) hX zcdX10_readsFactor_9.2.2.2.2.2.2.1 rfl rfl ?_
        refine e_callVp hX (t_X10_isDigit M0) mX10_isDigit lX10_184 (by decide) (by decide) oM0 rfl rfl rfl rfl rfl (Nat.le_of_ble_eq_true rfl) zcdX10_readsFactor_9.2.2.2.2.2.2.2 h (fun r_2 h => ?_)
        refine e_if_eq (tgt := 47) hX zcdX10_readsFactor_24.1 (by decide) z_eq h (fun h => ?_) (fun h => ?_)
        · refine s_aload_n (k := 0) hX zcdX10_readsFactor_38.2.2.2.2.2.1 rfl rfl ?_
          refine e_callVp hX (t_X10_here M0) mX10_here lX10_171 (by decide) (by decide) oM0 rfl rfl rfl rfl rfl (Nat.le_of_ble_eq_true rfl) zcdX10_readsFactor_38.2.2.2.2.2.2.1 h (fun r_3 h => ?_)
          refine e_callSp hX (t_X10_factOf r_3 M0) mX10_factOf lX10_211 (by decide) (by decide) rfl rfl (Nat.le_of_ble_eq_true rfl) zcdX10_readsFactor_38.2.2.2.2.2.2.2 h (fun r_4 h => ?_)
          refine s_istore_n (lv' := [(0, .ref (ad 0)), (1, .int r_4)]) hX zcdX10_readsFactor_54.1 rfl (by decide) rfl ?_
          refine s_iload_n (k := 1) hX zcdX10_readsFactor_54.2.1 rfl rfl ?_
          refine s_iconst (v := (-1)) hX zcdX10_readsFactor_54.2.2.1 (by decide) ?_
          refine e_icmp_ne (tgt := 70) hX zcdX10_readsFactor_54.2.2.2.1 (by decide) (m_eq (by decide +kernel)) h (fun h => ?_) (fun h => ?_)
          · refine s_aload_n (k := 0) hX zcdX10_readsFactor_66.2.2.1 rfl rfl ?_
            refine s_iconst (v := (nI 1)) hX zcdX10_readsFactor_66.2.2.2.1 (by decide) ?_
            refine s_iload_n (k := 1) hX zcdX10_readsFactor_66.2.2.2.2.1 rfl rfl ?_
            refine e_callVv hX (t_X10_notes (nI 1) r_4 M0) mX10_notes lX10_201 (by decide) (by decide) oM0 rfl rfl rfl rfl rfl (Nat.le_of_ble_eq_true rfl) zcdX10_readsFactor_66.2.2.2.2.2.1 h (fun M_5 h => ?_)
            refine s_aload_n (k := 0) hX zcdX10_readsFactor_66.2.2.2.2.2.2.1 rfl rfl ?_
            refine s_aload_n (k := 0) hX zcdX10_readsFactor_66.2.2.2.2.2.2.2 rfl rfl ?_
            refine s_get hX fX10_165 oM0 rfl zcdX10_readsFactor_78.1 ?_
            refine s_iconst (v := (nI 1)) hX zcdX10_readsFactor_78.2.1 (by decide) ?_
            refine s_iadd hX zcdX10_readsFactor_78.2.2.1 ?_
            refine s_puti (ty := .int) hX fX10_165 oM0 rfl (Nat.le_of_ble_eq_true rfl) ty_10_7 rfl rfl zcdX10_readsFactor_78.2.2.2.1 ?_
            refine e_bndM h (fun M_6 h => ?_)
            refine s_iconst (v := (nI 1)) hX zcdX10_readsFactor_78.2.2.2.2.1 (by decide) ?_
            exact e_zretiL hX hR zcdX10_readsFactor_78.2.2.2.2.2.1 (by decide) h
          · refine s_aload_n (k := 0) hX zcdX10_readsFactor_54.2.2.2.2.1 rfl rfl ?_
            refine s_iconst (v := (nI 1)) hX zcdX10_readsFactor_54.2.2.2.2.2.1 (by decide) ?_
            refine s_aload_n (k := 0) hX zcdX10_readsFactor_54.2.2.2.2.2.2.1 rfl rfl ?_
            refine s_get hX fX10_165 oM0 rfl zcdX10_readsFactor_54.2.2.2.2.2.2.2 ?_
            refine e_callVi hX (t_X10_wrongAt (nI 1) (M0 0 7) M0) mX10_wrongAt lX10_178 (by decide) (by decide) oM0 rfl rfl rfl rfl rfl (Nat.le_of_ble_eq_true rfl) zcdX10_readsFactor_66.1 h (fun r_7 M_8 h => ?_)
            exact e_zreti hX hR zcdX10_readsFactor_66.2.1 h
        · refine s_aload_n (k := 0) hX zcdX10_readsFactor_24.2.1 rfl rfl ?_
          refine e_callVi hX (t_X10_readsNumber M0) mX10_readsNumber lX10_208 (by decide) (by decide) oM0 rfl rfl rfl rfl rfl (Nat.le_of_ble_eq_true rfl) zcdX10_readsFactor_24.2.2.1 h (fun r_9 M_10 h => ?_)
          refine e_if_ne (tgt := 36) hX zcdX10_readsFactor_24.2.2.2.1 (by decide) z_eq h (fun h => ?_) (fun h => ?_)
          · refine s_aload_n (k := 0) hX zcdX10_readsFactor_24.2.2.2.2.2.2.1 rfl rfl ?_
            refine s_iconst (v := (nI 0)) hX zcdX10_readsFactor_24.2.2.2.2.2.2.2 (by decide) ?_
            refine s_aload_n (k := 0) hX zcdX10_readsFactor_38.1 rfl rfl ?_
            refine s_get hX fX10_181 oM0 rfl zcdX10_readsFactor_38.2.1 ?_
            refine e_callVv hX (t_X10_notes (nI 0) (M_10 0 10) M_10) mX10_notes lX10_201 (by decide) (by decide) oM0 rfl rfl rfl rfl rfl (Nat.le_of_ble_eq_true rfl) zcdX10_readsFactor_38.2.2.1 h (fun M_11 h => ?_)
            refine s_iconst (v := (nI 1)) hX zcdX10_readsFactor_38.2.2.2.1 (by decide) ?_
            exact e_zretiL hX hR zcdX10_readsFactor_38.2.2.2.2.1 (by decide) h
          · refine s_iconst (v := (nI 0)) hX zcdX10_readsFactor_24.2.2.2.2.1 (by decide) ?_
            exact e_zretiL hX hR zcdX10_readsFactor_24.2.2.2.2.2.1 (by decide) h
      refine e_icmp_ne (tgt := 20) hX zcdX10_readsNumber_63.2.2.2.2.2.2.2 (by decide) (m_eq (by decide +kernel)) h (fun h => ?_) (fun h => ?_)
      · exact j20 h
      · refine s_aload_n (k := 0) hX zcdX10_readsFactor_9.1 rfl rfl ?_
        refine s_bipush (v := (nI 14)) hX zcdX10_readsFactor_9.2.1 (by decide) ?_
        refine e_callVi hX (t_X10_opens (nI 14) M0) mX10_opens lX10_205 (by decide) (by decide) oM0 rfl rfl rfl rfl rfl (Nat.le_of_ble_eq_true rfl) zcdX10_readsFactor_9.2.2.1 h (fun r_12 M_13 h => ?_)
        refine e_if_ne (tgt := 0) hX zcdX10_readsFactor_9.2.2.2.1 (by decide) z_eq h (fun h => ?_) (fun h => ?_)
        · exact ih0 M_13 h
        · refine s_iconst (v := (nI 0)) hX zcdX10_readsFactor_9.2.2.2.2.1 (by decide) ?_
          exact e_zretiL hX hR zcdX10_readsFactor_9.2.2.2.2.2.1 (by decide) h
  exact lp0 FU M h
set_option maxHeartbeats 4000000 in
theorem t_X10_sumSign (v0 : Int32) (M : Mem) : AXp yX10_sumSign cX10_sumSign 1 (some .int) 0 39 glM (fun ad => [.int v0]) M (f_X10_sumSign v0) := by
  intro r0 h
  refine AM.of (by decide) (fun _ => Nat.le_of_ble_eq_true rfl) (fun X ad cI cZ cB hX hR => ?_)
  show V X M [(0, .int v0)] [] 0
  refine s_iload_n (k := 0) hX zcdX10_readsFactor_78.2.2.2.2.2.2.1 rfl rfl ?_
  refine s_bipush (v := (nI 43)) hX zcdX10_readsFactor_78.2.2.2.2.2.2.2 (by decide) ?_
  refine e_icmp_ne (tgt := 10) hX zcdX10_sumSign_3.1 (by decide) (m_eq (by decide +kernel)) h (fun h => ?_) (fun h => ?_)
  · refine s_iload_n (k := 0) hX zcdX10_sumSign_3.2.2.2.1 rfl rfl ?_
    refine s_bipush (v := (nI 45)) hX zcdX10_sumSign_3.2.2.2.2.1 (by decide) ?_
    refine e_icmp_ne (tgt := 20) hX zcdX10_sumSign_3.2.2.2.2.2.1 (by decide) (m_eq (by decide +kernel)) h (fun h => ?_) (fun h => ?_)
    · refine s_iload_n (k := 0) hX zcdX10_sumSign_20.1 rfl rfl ?_
      refine s_bipush (v := (nI 42)) hX zcdX10_sumSign_20.2.1 (by decide) ?_
      refine e_icmp_ne (tgt := 30) hX zcdX10_sumSign_20.2.2.1 (by decide) (m_eq (by decide +kernel)) h (fun h => ?_) (fun h => ?_)
      · refine s_iload_n (k := 0) hX zcdX10_sumSign_20.2.2.2.2.2.1 rfl rfl ?_
        refine s_bipush (v := (nI 47)) hX zcdX10_sumSign_20.2.2.2.2.2.2.1 (by decide) ?_
        refine e_icmp_ne (tgt := 40) hX zcdX10_sumSign_20.2.2.2.2.2.2.2 (by decide) (m_eq (by decide +kernel)) h (fun h => ?_) (fun h => ?_)
        · refine s_iload_n (k := 0) hX zcdX10_sumSign_36.2.2.1 rfl rfl ?_
          refine s_bipush (v := (nI 37)) hX zcdX10_sumSign_36.2.2.2.1 (by decide) ?_
          refine e_icmp_ne (tgt := 51) hX zcdX10_sumSign_36.2.2.2.2.1 (by decide) (m_eq (by decide +kernel)) h (fun h => ?_) (fun h => ?_)
          · refine s_iconst (v := (-1)) hX zcdX10_sumSign_36.2.2.2.2.2.2.2 (by decide) ?_
            exact e_iretp hX hR zcdX10_sumSign_52.1 h
          · refine s_bipush (v := (nI 6)) hX zcdX10_sumSign_36.2.2.2.2.2.1 (by decide) ?_
            refine s_goto (tgt := 52) hX zcdX10_sumSign_36.2.2.2.2.2.2.1 (by decide) ?_
            exact e_iretp hX hR zcdX10_sumSign_52.1 h
        · refine s_iconst (v := (nI 5)) hX zcdX10_sumSign_36.1 (by decide) ?_
          refine s_goto (tgt := 52) hX zcdX10_sumSign_36.2.1 (by decide) ?_
          exact e_iretp hX hR zcdX10_sumSign_52.1 h
      · refine s_iconst (v := (nI 4)) hX zcdX10_sumSign_20.2.2.2.1 (by decide) ?_
        refine s_goto (tgt := 52) hX zcdX10_sumSign_20.2.2.2.2.1 (by decide) ?_
        exact e_iretp hX hR zcdX10_sumSign_52.1 h
    · refine s_iconst (v := (nI 3)) hX zcdX10_sumSign_3.2.2.2.2.2.2.1 (by decide) ?_
      refine s_goto (tgt := 52) hX zcdX10_sumSign_3.2.2.2.2.2.2.2 (by decide) ?_
      exact e_iretp hX hR zcdX10_sumSign_52.1 h
  · refine s_iconst (v := (nI 2)) hX zcdX10_sumSign_3.2.1 (by decide) ?_
    refine s_goto (tgt := 52) hX zcdX10_sumSign_3.2.2.1 (by decide) ?_
    exact e_iretp hX hR zcdX10_sumSign_52.1 h
set_option maxHeartbeats 4000000 in
theorem t_X10_readsSum (M : Mem) : AXi yX10_readsSum cX10_readsSum 3 (some .boolean) 4 39 glM (fun ad => [.ref (ad 0)]) M (f_X10_readsSum M) := by
  intro r0 h
  refine AM.of (by decide) (fun _ => Nat.le_of_ble_eq_true rfl) (fun X ad cI cZ cB hX hR => ?_)
  show V X M [(0, .ref (ad 0))] [] 0
  refine s_aload_n (k := 0) hX zcdX10_sumSign_52.2.1 rfl rfl ?_
  refine s_get hX fX10_195 oM0 rfl zcdX10_sumSign_52.2.2.1 ?_
  refine e_bnd h (fun x_1 h => ?_)
  refine s_istore_n (lv' := [(0, .ref (ad 0)), (1, .int x_1)]) hX zcdX10_sumSign_52.2.2.2.1 rfl (by decide) rfl ?_
  refine s_aload_n (k := 0) hX zcdX10_sumSign_52.2.2.2.2.1 rfl rfl ?_
  refine e_callVi hX (t_X10_readsFactor M) mX10_readsFactor lX10_215 (by decide) (by decide) oM0 rfl rfl rfl rfl rfl (Nat.le_of_ble_eq_true rfl) zcdX10_sumSign_52.2.2.2.2.2.1 h (fun r_2 M_3 h => ?_)
  refine e_if_ne (tgt := 14) hX zcdX10_sumSign_52.2.2.2.2.2.2.1 (by decide) z_eq h (fun h => ?_) (fun h => ?_)
  · have lp14 : ∀ (N14 : Nat) (M14 : Mem), wlp1 (f_X10_readsSum_B14 x_1) N14 M14 = some r0 → V X M14 [(0, .ref (ad 0)), (1, .int x_1)] [] 14 := by
      intro N14
      induction N14 with
      | zero => exact fun _ h => e_none h
      | succ N14 ih14 =>
        intro M14 h
        replace h : f_X10_readsSum_B14 x_1 (wlp1 (f_X10_readsSum_B14 x_1) N14) M14 = some r0 := h
        generalize wlp1 (f_X10_readsSum_B14 x_1) N14 = ag14 at ih14 h
        refine s_aload_n (k := 0) hX zcdX10_readsSum_13.2.1 rfl rfl ?_
        refine e_callVp hX (t_X10_here M14) mX10_here lX10_171 (by decide) (by decide) oM0 rfl rfl rfl rfl rfl (Nat.le_of_ble_eq_true rfl) zcdX10_readsSum_13.2.2.1 h (fun r_4 h => ?_)
        refine e_callSp hX (t_X10_sumSign r_4 M14) mX10_sumSign lX10_218 (by decide) (by decide) rfl rfl (Nat.le_of_ble_eq_true rfl) zcdX10_readsSum_13.2.2.2.1 h (fun r_5 h => ?_)
        refine s_istore_n (lv' := [(0, .ref (ad 0)), (1, .int x_1), (2, .int r_5)]) hX zcdX10_readsSum_13.2.2.2.2.1 rfl (by decide) rfl ?_
        refine s_iload_n (k := 2) hX zcdX10_readsSum_13.2.2.2.2.2.1 rfl rfl ?_
        refine s_iconst (v := (-1)) hX zcdX10_readsSum_13.2.2.2.2.2.2.1 (by decide) ?_
        refine e_icmp_eq (tgt := 83) hX zcdX10_readsSum_13.2.2.2.2.2.2.2 (by decide) (m_eq (by decide +kernel)) h (fun h => ?_) (fun h => ?_)
        · refine s_aload_n (k := 0) hX zcdX10_readsSum_82.2.1 rfl rfl ?_
          refine e_callVp hX (t_X10_here M14) mX10_here lX10_171 (by decide) (by decide) oM0 rfl rfl rfl rfl rfl (Nat.le_of_ble_eq_true rfl) zcdX10_readsSum_82.2.2.1 h (fun r_6 h => ?_)
          refine s_bipush (v := (nI 93)) hX zcdX10_readsSum_82.2.2.2.1 (by decide) ?_
          have j138 : f_X10_readsSum_L138 x_1 M14 = some r0 → V X M14 [(0, .ref (ad 0)), (1, .int x_1)] [] 138 := by
            intro  h
            refine s_aload_n (k := 0) hX zcdX10_readsSum_125.2.2.2.2.2.2.2 rfl rfl ?_
            refine s_iload_n (k := 1) hX zcdX10_readsSum_139.1 rfl rfl ?_
            refine e_callVp hX (t_X10_hasOpenSum x_1 M14) mX10_hasOpenSum lX10_225 (by decide) (by decide) oM0 rfl rfl rfl rfl rfl (Nat.le_of_ble_eq_true rfl) zcdX10_readsSum_139.2.1 h (fun r_7 h => ?_)
            refine e_if_eq (tgt := 156) hX zcdX10_readsSum_139.2.2.1 (by decide) z_eq h (fun h => ?_) (fun h => ?_)
            · refine s_aload_n (k := 0) hX zcdX10_readsSum_155.2.1 rfl rfl ?_
              refine s_iconst (v := (nI 1)) hX zcdX10_readsSum_155.2.2.1 (by decide) ?_
              refine e_callVv hX (t_X10_closesSums (nI 1) M14) mX10_closesSums lX10_221 (by decide) (by decide) oM0 rfl rfl rfl rfl rfl (Nat.le_of_ble_eq_true rfl) zcdX10_readsSum_155.2.2.2.1 h (fun M_8 h => ?_)
              refine s_iconst (v := (nI 1)) hX zcdX10_readsSum_155.2.2.2.2.1 (by decide) ?_
              exact e_zretiL hX hR zcdX10_readsSum_155.2.2.2.2.2.1 (by decide) h
            · refine s_aload_n (k := 0) hX zcdX10_readsSum_139.2.2.2.1 rfl rfl ?_
              refine s_iconst (v := (nI 1)) hX zcdX10_readsSum_139.2.2.2.2.1 (by decide) ?_
              refine s_aload_n (k := 0) hX zcdX10_readsSum_139.2.2.2.2.2.1 rfl rfl ?_
              refine s_get hX fX10_165 oM0 rfl zcdX10_readsSum_139.2.2.2.2.2.2.1 ?_
              refine e_callVi hX (t_X10_wrongAt (nI 1) (M14 0 7) M14) mX10_wrongAt lX10_178 (by decide) (by decide) oM0 rfl rfl rfl rfl rfl (Nat.le_of_ble_eq_true rfl) zcdX10_readsSum_139.2.2.2.2.2.2.2 h (fun r_9 M_10 h => ?_)
              exact e_zreti hX hR zcdX10_readsSum_155.1 h
          refine e_icmp_ne (tgt := 138) hX zcdX10_readsSum_82.2.2.2.2.1 (by decide) (m_eq (by decide +kernel)) h (fun h => ?_) (fun h => ?_)
          · refine s_loc [0, 1] rfl ?_
            exact j138 h
          · refine s_aload_n (k := 0) hX zcdX10_readsSum_82.2.2.2.2.2.1 rfl rfl ?_
            refine s_iload_n (k := 1) hX zcdX10_readsSum_82.2.2.2.2.2.2.1 rfl rfl ?_
            refine e_callVp hX (t_X10_hasOpenSum x_1 M14) mX10_hasOpenSum lX10_225 (by decide) (by decide) oM0 rfl rfl rfl rfl rfl (Nat.le_of_ble_eq_true rfl) zcdX10_readsSum_82.2.2.2.2.2.2.2 h (fun r_11 h => ?_)
            refine e_if_eq (tgt := 138) hX zcdX10_readsSum_97.1 (by decide) z_eq h (fun h => ?_) (fun h => ?_)
            · refine s_loc [0, 1] rfl ?_
              exact j138 h
            · refine s_aload_n (k := 0) hX zcdX10_readsSum_97.2.1 rfl rfl ?_
              refine s_iconst (v := (nI 1)) hX zcdX10_readsSum_97.2.2.1 (by decide) ?_
              refine e_callVv hX (t_X10_closesSums (nI 1) M14) mX10_closesSums lX10_221 (by decide) (by decide) oM0 rfl rfl rfl rfl rfl (Nat.le_of_ble_eq_true rfl) zcdX10_readsSum_97.2.2.2.1 h (fun M_12 h => ?_)
              refine s_aload_n (k := 0) hX zcdX10_readsSum_97.2.2.2.2.1 rfl rfl ?_
              refine s_aload_n (k := 0) hX zcdX10_readsSum_97.2.2.2.2.2.1 rfl rfl ?_
              refine s_get hX fX10_195 oM0 rfl zcdX10_readsSum_97.2.2.2.2.2.2.1 ?_
              refine s_iconst (v := (nI 1)) hX zcdX10_readsSum_97.2.2.2.2.2.2.2 (by decide) ?_
              refine s_isub hX zcdX10_readsSum_111.1 ?_
              refine s_puti (ty := .int) hX fX10_195 oM0 rfl (Nat.le_of_ble_eq_true rfl) ty_10_13 rfl rfl zcdX10_readsSum_111.2.1 ?_
              refine e_bndM h (fun M_13 h => ?_)
              refine s_aload_n (k := 0) hX zcdX10_readsSum_111.2.2.1 rfl rfl ?_
              refine s_aload_n (k := 0) hX zcdX10_readsSum_111.2.2.2.1 rfl rfl ?_
              refine s_get hX fX10_192 oM0 rfl zcdX10_readsSum_111.2.2.2.2.1 ?_
              refine s_iconst (v := (nI 1)) hX zcdX10_readsSum_111.2.2.2.2.2.1 (by decide) ?_
              refine s_isub hX zcdX10_readsSum_111.2.2.2.2.2.2.1 ?_
              refine s_puti (ty := .int) hX fX10_192 oM0 rfl (Nat.le_of_ble_eq_true rfl) ty_10_11 rfl rfl zcdX10_readsSum_111.2.2.2.2.2.2.2 ?_
              refine e_bndM h (fun M_14 h => ?_)
              refine s_aload_n (k := 0) hX zcdX10_readsSum_125.1 rfl rfl ?_
              refine s_aload_n (k := 0) hX zcdX10_readsSum_125.2.1 rfl rfl ?_
              refine s_get hX fX10_165 oM0 rfl zcdX10_readsSum_125.2.2.1 ?_
              refine s_iconst (v := (nI 1)) hX zcdX10_readsSum_125.2.2.2.1 (by decide) ?_
              refine s_iadd hX zcdX10_readsSum_125.2.2.2.2.1 ?_
              refine s_puti (ty := .int) hX fX10_165 oM0 rfl (Nat.le_of_ble_eq_true rfl) ty_10_7 rfl rfl zcdX10_readsSum_125.2.2.2.2.2.1 ?_
              refine e_bndM h (fun M_15 h => ?_)
              refine s_goto (tgt := 163) hX zcdX10_readsSum_125.2.2.2.2.2.2.1 (by decide) ?_
              refine s_goto (tgt := 14) hX zcdX10_readsSum_155.2.2.2.2.2.2.1 (by decide) ?_
              refine s_loc [0, 1] rfl ?_
              exact ih14 M_15 h
        · refine s_aload_n (k := 0) hX zcdX10_readsSum_27.1 rfl rfl ?_
          refine s_iload_n (k := 2) hX zcdX10_readsSum_27.2.1 rfl rfl ?_
          refine s_iconst (v := (nI 4)) hX zcdX10_readsSum_27.2.2.1 (by decide) ?_
          have j38 : ∀ (t0_38 : Int32), f_X10_readsSum_L38 ag14 M14 r_5 t0_38 = some r0 → V X M14 [(0, .ref (ad 0)), (1, .int x_1), (2, .int r_5)] [.int t0_38, .ref (ad 0)] 38 := by
            intro t0_38 h
            refine e_callVv hX (t_X10_closesSums t0_38 M14) mX10_closesSums lX10_221 (by decide) (by decide) oM0 rfl rfl rfl rfl rfl (Nat.le_of_ble_eq_true rfl) zcdX10_readsSum_27.2.2.2.2.2.2.2 h (fun M_16 h => ?_)
            refine s_aload_n (k := 0) hX zcdX10_readsSum_41.1 rfl rfl ?_
            refine s_get hX fX10_29 oM0 rfl zcdX10_readsSum_41.2.1 ?_
            refine s_aload_n (k := 0) hX zcdX10_readsSum_41.2.2.1 rfl rfl ?_
            refine s_get hX fX10_195 oM0 rfl zcdX10_readsSum_41.2.2.2.1 ?_
            refine s_ldc (v := (nI 1048576)) hX kX10_191 zcdX10_readsSum_41.2.2.2.2.1 ?_
            refine s_iload_n (k := 2) hX zcdX10_readsSum_41.2.2.2.2.2.1 rfl rfl ?_
            refine s_imul hX zcdX10_readsSum_41.2.2.2.2.2.2.1 ?_
            refine e_iast hX aM7 zcdX10_readsSum_41.2.2.2.2.2.2.2 h (fun h => ?_)
            refine e_bndM h (fun M_17 h => ?_)
            refine s_aload_n (k := 0) hX zcdX10_readsSum_54.1 rfl rfl ?_
            refine s_aload_n (k := 0) hX zcdX10_readsSum_54.2.1 rfl rfl ?_
            refine s_get hX fX10_195 oM0 rfl zcdX10_readsSum_54.2.2.1 ?_
            refine s_iconst (v := (nI 1)) hX zcdX10_readsSum_54.2.2.2.1 (by decide) ?_
            refine s_iadd hX zcdX10_readsSum_54.2.2.2.2.1 ?_
            refine s_puti (ty := .int) hX fX10_195 oM0 rfl (Nat.le_of_ble_eq_true rfl) ty_10_13 rfl rfl zcdX10_readsSum_54.2.2.2.2.2.1 ?_
            refine e_bndM h (fun M_18 h => ?_)
            refine s_aload_n (k := 0) hX zcdX10_readsSum_54.2.2.2.2.2.2.1 rfl rfl ?_
            refine s_aload_n (k := 0) hX zcdX10_readsSum_54.2.2.2.2.2.2.2 rfl rfl ?_
            refine s_get hX fX10_165 oM0 rfl zcdX10_readsSum_66.1 ?_
            refine s_iconst (v := (nI 1)) hX zcdX10_readsSum_66.2.1 (by decide) ?_
            refine s_iadd hX zcdX10_readsSum_66.2.2.1 ?_
            refine s_puti (ty := .int) hX fX10_165 oM0 rfl (Nat.le_of_ble_eq_true rfl) ty_10_7 rfl rfl zcdX10_readsSum_66.2.2.2.1 ?_
            refine e_bndM h (fun M_19 h => ?_)
            refine s_aload_n (k := 0) hX zcdX10_readsSum_66.2.2.2.2.1 rfl rfl ?_
            refine e_callVi hX (t_X10_readsFactor M_19) mX10_readsFactor lX10_215 (by decide) (by decide) oM0 rfl rfl rfl rfl rfl (Nat.le_of_ble_eq_true rfl) zcdX10_readsSum_66.2.2.2.2.2.1 h (fun r_20 M_21 h => ?_)
            refine e_if_ne (tgt := 163) hX zcdX10_readsSum_66.2.2.2.2.2.2.1 (by decide) z_eq h (fun h => ?_) (fun h => ?_)
            · refine s_goto (tgt := 14) hX zcdX10_readsSum_155.2.2.2.2.2.2.1 (by decide) ?_
              refine s_loc [0, 1] rfl ?_
              exact ih14 M_21 h
            · refine s_iconst (v := (nI 0)) hX zcdX10_readsSum_66.2.2.2.2.2.2.2 (by decide) ?_
              exact e_zretiL hX hR zcdX10_readsSum_82.1 (by decide) h
          refine e_icmp_ge (tgt := 37) hX zcdX10_readsSum_27.2.2.2.1 (by decide) (m_ge (by decide +kernel)) h (fun h => ?_) (fun h => ?_)
          · refine s_iconst (v := (nI 0)) hX zcdX10_readsSum_27.2.2.2.2.2.2.1 (by decide) ?_
            exact j38 (nI 0) h
          · refine s_iconst (v := (nI 1)) hX zcdX10_readsSum_27.2.2.2.2.1 (by decide) ?_
            refine s_goto (tgt := 38) hX zcdX10_readsSum_27.2.2.2.2.2.1 (by decide) ?_
            exact j38 (nI 1) h
    exact lp14 FU M_3 h
  · refine s_iconst (v := (nI 0)) hX zcdX10_sumSign_52.2.2.2.2.2.2.2 (by decide) ?_
    exact e_zretiL hX hR zcdX10_readsSum_13.1 (by decide) h
set_option maxHeartbeats 4000000 in
theorem t_X10_readsCompared (M : Mem) : AXi yX10_readsCompared cX10_readsCompared 2 (some .boolean) 5 39 glM (fun ad => [.ref (ad 0)]) M (f_X10_readsCompared M) := by
  intro r0 h
  refine AM.of (by decide) (fun _ => Nat.le_of_ble_eq_true rfl) (fun X ad cI cZ cB hX hR => ?_)
  show V X M [(0, .ref (ad 0))] [] 0
  refine s_aload_n (k := 0) hX zcdX10_readsSum_155.2.2.2.2.2.2.2 rfl rfl ?_
  refine e_callVi hX (t_X10_readsSum M) mX10_readsSum lX10_228 (by decide) (by decide) oM0 rfl rfl rfl rfl rfl (Nat.le_of_ble_eq_true rfl) zcdX10_readsCompared_1.1 h (fun r_1 M_2 h => ?_)
  refine e_if_ne (tgt := 9) hX zcdX10_readsCompared_1.2.1 (by decide) z_eq h (fun h => ?_) (fun h => ?_)
  · refine s_aload_n (k := 0) hX zcdX10_readsCompared_1.2.2.2.2.1 rfl rfl ?_
    refine e_callVp hX (t_X10_here M_2) mX10_here lX10_171 (by decide) (by decide) oM0 rfl rfl rfl rfl rfl (Nat.le_of_ble_eq_true rfl) zcdX10_readsCompared_1.2.2.2.2.2.1 h (fun r_3 h => ?_)
    refine s_bipush (v := (nI 60)) hX zcdX10_readsCompared_1.2.2.2.2.2.2.1 (by decide) ?_
    have j52 : ∀ (t0_52 : Int32), f_X10_readsCompared_L52 M_2 t0_52 = some r0 → V X M_2 [(0, .ref (ad 0))] [.int t0_52] 52 := by
      intro t0_52 h
      refine s_istore_n (lv' := [(0, .ref (ad 0)), (1, .int t0_52)]) hX zcdX10_readsCompared_37.2.2.2.2.2.2.2 rfl (by decide) rfl ?_
      refine s_iload_n (k := 1) hX zcdX10_readsCompared_53.1 rfl rfl ?_
      refine s_iconst (v := (-1)) hX zcdX10_readsCompared_53.2.1 (by decide) ?_
      refine e_icmp_ne (tgt := 68) hX zcdX10_readsCompared_53.2.2.1 (by decide) (m_eq (by decide +kernel)) h (fun h => ?_) (fun h => ?_)
      · refine s_aload_n (k := 0) hX zcdX10_readsCompared_67.2.1 rfl rfl ?_
        refine s_aload_n (k := 0) hX zcdX10_readsCompared_67.2.2.1 rfl rfl ?_
        refine s_get hX fX10_165 oM0 rfl zcdX10_readsCompared_67.2.2.2.1 ?_
        refine s_iconst (v := (nI 1)) hX zcdX10_readsCompared_67.2.2.2.2.1 (by decide) ?_
        refine s_iadd hX zcdX10_readsCompared_67.2.2.2.2.2.1 ?_
        refine s_puti (ty := .int) hX fX10_165 oM0 rfl (Nat.le_of_ble_eq_true rfl) ty_10_7 rfl rfl zcdX10_readsCompared_67.2.2.2.2.2.2.1 ?_
        refine e_bndM h (fun M_4 h => ?_)
        refine s_aload_n (k := 0) hX zcdX10_readsCompared_67.2.2.2.2.2.2.2 rfl rfl ?_
        refine e_callVi hX (t_X10_readsSum M_4) mX10_readsSum lX10_228 (by decide) (by decide) oM0 rfl rfl rfl rfl rfl (Nat.le_of_ble_eq_true rfl) zcdX10_readsCompared_79.1 h (fun r_5 M_6 h => ?_)
        refine e_if_ne (tgt := 87) hX zcdX10_readsCompared_79.2.1 (by decide) z_eq h (fun h => ?_) (fun h => ?_)
        · refine s_aload_n (k := 0) hX zcdX10_readsCompared_79.2.2.2.2.1 rfl rfl ?_
          refine s_iload_n (k := 1) hX zcdX10_readsCompared_79.2.2.2.2.2.1 rfl rfl ?_
          refine s_iconst (v := (nI 0)) hX zcdX10_readsCompared_79.2.2.2.2.2.2.1 (by decide) ?_
          refine e_callVv hX (t_X10_notes t0_52 (nI 0) M_6) mX10_notes lX10_201 (by decide) (by decide) oM0 rfl rfl rfl rfl rfl (Nat.le_of_ble_eq_true rfl) zcdX10_readsCompared_79.2.2.2.2.2.2.2 h (fun M_7 h => ?_)
          refine s_aload_n (k := 0) hX zcdX10_readsCompared_93.1 rfl rfl ?_
          refine e_callVv hX (t_X10_endsPiece M_7) mX10_endsPiece lX10_231 (by decide) (by decide) oM0 rfl rfl rfl rfl rfl (Nat.le_of_ble_eq_true rfl) zcdX10_readsCompared_93.2.1 h (fun M_8 h => ?_)
          refine s_iconst (v := (nI 1)) hX zcdX10_readsCompared_93.2.2.1 (by decide) ?_
          exact e_zretiL hX hR zcdX10_readsCompared_93.2.2.2 (by decide) h
        · refine s_iconst (v := (nI 0)) hX zcdX10_readsCompared_79.2.2.1 (by decide) ?_
          exact e_zretiL hX hR zcdX10_readsCompared_79.2.2.2.1 (by decide) h
      · refine s_aload_n (k := 0) hX zcdX10_readsCompared_53.2.2.2.1 rfl rfl ?_
        refine s_iconst (v := (nI 1)) hX zcdX10_readsCompared_53.2.2.2.2.1 (by decide) ?_
        refine s_aload_n (k := 0) hX zcdX10_readsCompared_53.2.2.2.2.2.1 rfl rfl ?_
        refine s_get hX fX10_165 oM0 rfl zcdX10_readsCompared_53.2.2.2.2.2.2.1 ?_
        refine e_callVi hX (t_X10_wrongAt (nI 1) (M_2 0 7) M_2) mX10_wrongAt lX10_178 (by decide) (by decide) oM0 rfl rfl rfl rfl rfl (Nat.le_of_ble_eq_true rfl) zcdX10_readsCompared_53.2.2.2.2.2.2.2 h (fun r_9 M_10 h => ?_)
        exact e_zreti hX hR zcdX10_readsCompared_67.1 h
    refine e_icmp_ne (tgt := 23) hX zcdX10_readsCompared_1.2.2.2.2.2.2.2 (by decide) (m_eq (by decide +kernel)) h (fun h => ?_) (fun h => ?_)
    · refine s_aload_n (k := 0) hX zcdX10_readsCompared_18.2.2.1 rfl rfl ?_
      refine e_callVp hX (t_X10_here M_2) mX10_here lX10_171 (by decide) (by decide) oM0 rfl rfl rfl rfl rfl (Nat.le_of_ble_eq_true rfl) zcdX10_readsCompared_18.2.2.2.1 h (fun r_11 h => ?_)
      refine s_bipush (v := (nI 62)) hX zcdX10_readsCompared_18.2.2.2.2.1 (by decide) ?_
      refine e_icmp_ne (tgt := 37) hX zcdX10_readsCompared_18.2.2.2.2.2.1 (by decide) (m_eq (by decide +kernel)) h (fun h => ?_) (fun h => ?_)
      · refine s_aload_n (k := 0) hX zcdX10_readsCompared_37.1 rfl rfl ?_
        refine e_callVp hX (t_X10_here M_2) mX10_here lX10_171 (by decide) (by decide) oM0 rfl rfl rfl rfl rfl (Nat.le_of_ble_eq_true rfl) zcdX10_readsCompared_37.2.1 h (fun r_12 h => ?_)
        refine s_bipush (v := (nI 61)) hX zcdX10_readsCompared_37.2.2.1 (by decide) ?_
        refine e_icmp_ne (tgt := 51) hX zcdX10_readsCompared_37.2.2.2.1 (by decide) (m_eq (by decide +kernel)) h (fun h => ?_) (fun h => ?_)
        · refine s_iconst (v := (-1)) hX zcdX10_readsCompared_37.2.2.2.2.2.2.1 (by decide) ?_
          exact j52 (-1) h
        · refine s_bipush (v := (nI 9)) hX zcdX10_readsCompared_37.2.2.2.2.1 (by decide) ?_
          refine s_goto (tgt := 52) hX zcdX10_readsCompared_37.2.2.2.2.2.1 (by decide) ?_
          exact j52 (nI 9) h
      · refine s_bipush (v := (nI 8)) hX zcdX10_readsCompared_18.2.2.2.2.2.2.1 (by decide) ?_
        refine s_goto (tgt := 52) hX zcdX10_readsCompared_18.2.2.2.2.2.2.2 (by decide) ?_
        exact j52 (nI 8) h
    · refine s_bipush (v := (nI 7)) hX zcdX10_readsCompared_18.1 (by decide) ?_
      refine s_goto (tgt := 52) hX zcdX10_readsCompared_18.2.1 (by decide) ?_
      exact j52 (nI 7) h
  · refine s_iconst (v := (nI 0)) hX zcdX10_readsCompared_1.2.2.1 (by decide) ?_
    exact e_zretiL hX hR zcdX10_readsCompared_1.2.2.2.1 (by decide) h
