theorem zcdX5_turn_0 : decode cX5_turn 0 = .ok (.aload_n 1, 1) ∧ decode cX5_turn 1 = .ok (.iload_n 3, 1) ∧ decode cX5_turn 2 = .ok (.invokevirtual 35, 3) ∧ decode cX5_turn 5 = .ok (.ifCond .ne 4, 3) ∧ decode cX5_turn 8 = .ok (.return_, 1) ∧ decode cX5_turn 9 = .ok (.aload_n 0, 1) ∧ decode cX5_turn 10 = .ok (.getfield 11, 3) ∧ decode cX5_turn 13 = .ok (.bipush 6, 2) := by decide +kernel
theorem zcdX5_turn_15 : decode cX5_turn 15 = .ok (.aload_n 1, 1) ∧ decode cX5_turn 16 = .ok (.invokevirtual 39, 3) ∧ decode cX5_turn 19 = .ok (.iastore, 1) ∧ decode cX5_turn 20 = .ok (.aload_n 0, 1) ∧ decode cX5_turn 21 = .ok (.aload_n 1, 1) ∧ decode cX5_turn 22 = .ok (.aload_n 2, 1) ∧ decode cX5_turn 23 = .ok (.iload_n 3, 1) ∧ decode cX5_turn 24 = .ok (.invokevirtual 43, 3) := by decide +kernel
theorem zcdX5_turn_27 : decode cX5_turn 27 = .ok (.aload_n 2, 1) ∧ decode cX5_turn 28 = .ok (.bipush 117, 2) ∧ decode cX5_turn 30 = .ok (.aload_n 0, 1) ∧ decode cX5_turn 31 = .ok (.getfield 11, 3) ∧ decode cX5_turn 34 = .ok (.invokevirtual 46, 3) ∧ decode cX5_turn 37 = .ok (.aload_n 2, 1) ∧ decode cX5_turn 38 = .ok (.bipush 100, 2) ∧ decode cX5_turn 40 = .ok (.aload_n 0, 1) := by decide +kernel
theorem zcdX5_turn_41 : decode cX5_turn 41 = .ok (.getfield 11, 3) ∧ decode cX5_turn 44 = .ok (.invokevirtual 46, 3) ∧ decode cX5_turn 47 = .ok (.isub, 1) ∧ decode cX5_turn 48 = .ok (.istore 4, 2) ∧ decode cX5_turn 50 = .ok (.aload_n 2, 1) ∧ decode cX5_turn 51 = .ok (.bipush 111, 2) ∧ decode cX5_turn 53 = .ok (.aload_n 0, 1) ∧ decode cX5_turn 54 = .ok (.getfield 11, 3) := by decide +kernel
theorem zcdX5_turn_57 : decode cX5_turn 57 = .ok (.invokevirtual 46, 3) ∧ decode cX5_turn 60 = .ok (.aload_n 2, 1) ∧ decode cX5_turn 61 = .ok (.bipush 98, 2) ∧ decode cX5_turn 63 = .ok (.aload_n 0, 1) ∧ decode cX5_turn 64 = .ok (.getfield 11, 3) ∧ decode cX5_turn 67 = .ok (.invokevirtual 46, 3) ∧ decode cX5_turn 70 = .ok (.isub, 1) ∧ decode cX5_turn 71 = .ok (.istore 5, 2) := by decide +kernel
theorem zcdX5_turn_73 : decode cX5_turn 73 = .ok (.aload_n 0, 1) ∧ decode cX5_turn 74 = .ok (.aload_n 1, 1) ∧ decode cX5_turn 75 = .ok (.iload_n 3, 1) ∧ decode cX5_turn 76 = .ok (.iload 4, 2) ∧ decode cX5_turn 78 = .ok (.iload 5, 2) ∧ decode cX5_turn 80 = .ok (.invokevirtual 52, 3) ∧ decode cX5_turn 83 = .ok (.aload_n 0, 1) ∧ decode cX5_turn 84 = .ok (.aload_n 1, 1) := by decide +kernel
theorem zcdX5_turn_85 : decode cX5_turn 85 = .ok (.aload_n 2, 1) ∧ decode cX5_turn 86 = .ok (.iload_n 3, 1) ∧ decode cX5_turn 87 = .ok (.invokevirtual 43, 3) ∧ decode cX5_turn 90 = .ok (.aload_n 1, 1) ∧ decode cX5_turn 91 = .ok (.getfield 56, 3) ∧ decode cX5_turn 94 = .ok (.iload_n 3, 1) ∧ decode cX5_turn 95 = .ok (.aload_n 2, 1) ∧ decode cX5_turn 96 = .ok (.aload_n 0, 1) := by decide +kernel
theorem zcdX5_turn_97 : decode cX5_turn 97 = .ok (.getfield 11, 3) ∧ decode cX5_turn 100 = .ok (.invokevirtual 59, 3) ∧ decode cX5_turn 103 = .ok (.bastore, 1) ∧ decode cX5_turn 104 = .ok (.return_, 1) ∧ decode cX5_pass 0 = .ok (.aload_n 0, 1) ∧ decode cX5_pass 1 = .ok (.iconst 0, 1) ∧ decode cX5_pass 2 = .ok (.putfield 15, 3) ∧ decode cX5_pass 5 = .ok (.aload_n 0, 1) := by decide +kernel
theorem zcdX5_pass_6 : decode cX5_pass 6 = .ok (.iconst 0, 1) ∧ decode cX5_pass 7 = .ok (.putfield 19, 3) ∧ decode cX5_pass 10 = .ok (.iconst 0, 1) ∧ decode cX5_pass 11 = .ok (.istore 4, 2) ∧ decode cX5_pass 13 = .ok (.iload 4, 2) ∧ decode cX5_pass 15 = .ok (.iload_n 3, 1) ∧ decode cX5_pass 16 = .ok (.if_icmp .ge 63, 3) ∧ decode cX5_pass 19 = .ok (.aload_n 1, 1) := by decide +kernel
theorem zcdX5_pass_20 : decode cX5_pass 20 = .ok (.getfield 22, 3) ∧ decode cX5_pass 23 = .ok (.sipush 9999, 3) ∧ decode cX5_pass 26 = .ok (.if_icmp .ge 53, 3) ∧ decode cX5_pass 29 = .ok (.iconst 0, 1) ∧ decode cX5_pass 30 = .ok (.istore 5, 2) ∧ decode cX5_pass 32 = .ok (.iload 5, 2) ∧ decode cX5_pass 34 = .ok (.bipush 40, 2) ∧ decode cX5_pass 36 = .ok (.if_icmp .ge 27, 3) := by decide +kernel
theorem zcdX5_pass_39 : decode cX5_pass 39 = .ok (.aload_n 1, 1) ∧ decode cX5_pass 40 = .ok (.getfield 27, 3) ∧ decode cX5_pass 43 = .ok (.iload 5, 2) ∧ decode cX5_pass 45 = .ok (.baload, 1) ∧ decode cX5_pass 46 = .ok (.ifCond .eq 11, 3) ∧ decode cX5_pass 49 = .ok (.aload_n 0, 1) ∧ decode cX5_pass 50 = .ok (.aload_n 1, 1) ∧ decode cX5_pass 51 = .ok (.aload_n 2, 1) := by decide +kernel
theorem zcdX5_pass_52 : decode cX5_pass 52 = .ok (.iload 5, 2) ∧ decode cX5_pass 54 = .ok (.invokevirtual 31, 3) ∧ decode cX5_pass 57 = .ok (.iinc 5 1, 3) ∧ decode cX5_pass 60 = .ok (.goto (-28), 3) ∧ decode cX5_pass 63 = .ok (.aload_n 1, 1) ∧ decode cX5_pass 64 = .ok (.dup, 1) ∧ decode cX5_pass 65 = .ok (.getfield 22, 3) ∧ decode cX5_pass 68 = .ok (.iconst 1, 1) := by decide +kernel
theorem zcdX5_pass_69 : decode cX5_pass 69 = .ok (.iadd, 1) ∧ decode cX5_pass 70 = .ok (.putfield 22, 3) ∧ decode cX5_pass 73 = .ok (.iinc 4 1, 3) ∧ decode cX5_pass 76 = .ok (.goto (-63), 3) ∧ decode cX5_pass 79 = .ok (.return_, 1) ∧ decode cX6_nearest 0 = .ok (.iconst (-1), 1) ∧ decode cX6_nearest 1 = .ok (.istore_n 2, 1) ∧ decode cX6_nearest 2 = .ok (.iconst 0, 1) := by decide +kernel
theorem zcdX6_nearest_3 : decode cX6_nearest 3 = .ok (.istore_n 3, 1) ∧ decode cX6_nearest 4 = .ok (.iload_n 3, 1) ∧ decode cX6_nearest 5 = .ok (.bipush 40, 2) ∧ decode cX6_nearest 7 = .ok (.if_icmp .ge 53, 3) ∧ decode cX6_nearest 10 = .ok (.aload_n 0, 1) ∧ decode cX6_nearest 11 = .ok (.iload_n 1, 1) ∧ decode cX6_nearest 12 = .ok (.invokevirtual 34, 3) ∧ decode cX6_nearest 15 = .ok (.ifCond .eq 45, 3) := by decide +kernel
theorem zcdX6_nearest_18 : decode cX6_nearest 18 = .ok (.iload_n 3, 1) ∧ decode cX6_nearest 19 = .ok (.iload_n 1, 1) ∧ decode cX6_nearest 20 = .ok (.if_icmp .eq 34, 3) ∧ decode cX6_nearest 23 = .ok (.aload_n 0, 1) ∧ decode cX6_nearest 24 = .ok (.getfield 21, 3) ∧ decode cX6_nearest 27 = .ok (.iload_n 3, 1) ∧ decode cX6_nearest 28 = .ok (.baload, 1) ∧ decode cX6_nearest 29 = .ok (.ifCond .eq 25, 3) := by decide +kernel
theorem zcdX6_nearest_32 : decode cX6_nearest 32 = .ok (.iload_n 2, 1) ∧ decode cX6_nearest 33 = .ok (.iconst (-1), 1) ∧ decode cX6_nearest 34 = .ok (.if_icmp .eq 18, 3) ∧ decode cX6_nearest 37 = .ok (.aload_n 0, 1) ∧ decode cX6_nearest 38 = .ok (.iload_n 1, 1) ∧ decode cX6_nearest 39 = .ok (.iload_n 3, 1) ∧ decode cX6_nearest 40 = .ok (.invokevirtual 52, 3) ∧ decode cX6_nearest 43 = .ok (.aload_n 0, 1) := by decide +kernel
theorem zcdX6_nearest_44 : decode cX6_nearest 44 = .ok (.iload_n 1, 1) ∧ decode cX6_nearest 45 = .ok (.iload_n 2, 1) ∧ decode cX6_nearest 46 = .ok (.invokevirtual 52, 3) ∧ decode cX6_nearest 49 = .ok (.if_icmp .ge 5, 3) ∧ decode cX6_nearest 52 = .ok (.iload_n 3, 1) ∧ decode cX6_nearest 53 = .ok (.istore_n 2, 1) ∧ decode cX6_nearest 54 = .ok (.iinc 3 1, 3) ∧ decode cX6_nearest 57 = .ok (.goto (-53), 3) := by decide +kernel
theorem zcdX6_nearest_60 : decode cX6_nearest 60 = .ok (.iload_n 2, 1) ∧ decode cX6_nearest 61 = .ok (.ireturn, 1) ∧ decode cX6_closest 0 = .ok (.bipush (-2), 2) ∧ decode cX6_closest 2 = .ok (.istore_n 1, 1) ∧ decode cX6_closest 3 = .ok (.iconst 0, 1) ∧ decode cX6_closest 4 = .ok (.istore_n 2, 1) ∧ decode cX6_closest 5 = .ok (.iload_n 2, 1) ∧ decode cX6_closest 6 = .ok (.bipush 40, 2) := by decide +kernel
theorem zcdX6_closest_8 : decode cX6_closest 8 = .ok (.if_icmp .ge 43, 3) ∧ decode cX6_closest 11 = .ok (.aload_n 0, 1) ∧ decode cX6_closest 12 = .ok (.iload_n 2, 1) ∧ decode cX6_closest 13 = .ok (.invokestatic 48, 3) ∧ decode cX6_closest 16 = .ok (.istore_n 3, 1) ∧ decode cX6_closest 17 = .ok (.iload_n 3, 1) ∧ decode cX6_closest 18 = .ok (.iconst (-1), 1) ∧ decode cX6_closest 19 = .ok (.if_icmp .eq 26, 3) := by decide +kernel
theorem zcdX6_closest_22 : decode cX6_closest 22 = .ok (.iload_n 1, 1) ∧ decode cX6_closest 23 = .ok (.bipush (-2), 2) ∧ decode cX6_closest 25 = .ok (.if_icmp .eq 13, 3) ∧ decode cX6_closest 28 = .ok (.aload_n 0, 1) ∧ decode cX6_closest 29 = .ok (.iload_n 2, 1) ∧ decode cX6_closest 30 = .ok (.iload_n 3, 1) ∧ decode cX6_closest 31 = .ok (.invokevirtual 52, 3) ∧ decode cX6_closest 34 = .ok (.iload_n 1, 1) := by decide +kernel
theorem zcdX6_closest_35 : decode cX6_closest 35 = .ok (.if_icmp .ge 10, 3) ∧ decode cX6_closest 38 = .ok (.aload_n 0, 1) ∧ decode cX6_closest 39 = .ok (.iload_n 2, 1) ∧ decode cX6_closest 40 = .ok (.iload_n 3, 1) ∧ decode cX6_closest 41 = .ok (.invokevirtual 52, 3) ∧ decode cX6_closest 44 = .ok (.istore_n 1, 1) ∧ decode cX6_closest 45 = .ok (.iinc 2 1, 3) ∧ decode cX6_closest 48 = .ok (.goto (-43), 3) := by decide +kernel
theorem zcdX6_closest_51 : decode cX6_closest 51 = .ok (.iload_n 1, 1) ∧ decode cX6_closest 52 = .ok (.ireturn, 1) ∧ decode cX6_countOnLine 0 = .ok (.aload_n 0, 1) ∧ decode cX6_countOnLine 1 = .ok (.iload_n 1, 1) ∧ decode cX6_countOnLine 2 = .ok (.invokevirtual 34, 3) ∧ decode cX6_countOnLine 5 = .ok (.ifCond .eq 11, 3) ∧ decode cX6_countOnLine 8 = .ok (.aload_n 0, 1) ∧ decode cX6_countOnLine 9 = .ok (.iload_n 2, 1) := by decide +kernel
theorem zcdX6_countOnLine_10 : decode cX6_countOnLine 10 = .ok (.invokevirtual 34, 3) ∧ decode cX6_countOnLine 13 = .ok (.ifCond .ne 5, 3) ∧ decode cX6_countOnLine 16 = .ok (.iconst 0, 1) ∧ decode cX6_countOnLine 17 = .ok (.ireturn, 1) ∧ decode cX6_countOnLine 18 = .ok (.aload_n 0, 1) ∧ decode cX6_countOnLine 19 = .ok (.getfield 38, 3) ∧ decode cX6_countOnLine 22 = .ok (.iload_n 2, 1) ∧ decode cX6_countOnLine 23 = .ok (.iaload, 1) := by decide +kernel
theorem zcdX6_countOnLine_24 : decode cX6_countOnLine 24 = .ok (.aload_n 0, 1) ∧ decode cX6_countOnLine 25 = .ok (.getfield 38, 3) ∧ decode cX6_countOnLine 28 = .ok (.iload_n 1, 1) ∧ decode cX6_countOnLine 29 = .ok (.iaload, 1) ∧ decode cX6_countOnLine 30 = .ok (.isub, 1) ∧ decode cX6_countOnLine 31 = .ok (.istore_n 3, 1) ∧ decode cX6_countOnLine 32 = .ok (.aload_n 0, 1) ∧ decode cX6_countOnLine 33 = .ok (.getfield 42, 3) := by decide +kernel
theorem zcdX6_countOnLine_36 : decode cX6_countOnLine 36 = .ok (.iload_n 2, 1) ∧ decode cX6_countOnLine 37 = .ok (.iaload, 1) ∧ decode cX6_countOnLine 38 = .ok (.aload_n 0, 1) ∧ decode cX6_countOnLine 39 = .ok (.getfield 42, 3) ∧ decode cX6_countOnLine 42 = .ok (.iload_n 1, 1) ∧ decode cX6_countOnLine 43 = .ok (.iaload, 1) ∧ decode cX6_countOnLine 44 = .ok (.isub, 1) ∧ decode cX6_countOnLine 45 = .ok (.istore 4, 2) := by decide +kernel
theorem zcdX6_countOnLine_47 : decode cX6_countOnLine 47 = .ok (.iconst 0, 1) ∧ decode cX6_countOnLine 48 = .ok (.istore 5, 2) ∧ decode cX6_countOnLine 50 = .ok (.iconst 0, 1) ∧ decode cX6_countOnLine 51 = .ok (.istore 6, 2) ∧ decode cX6_countOnLine 53 = .ok (.iload 6, 2) ∧ decode cX6_countOnLine 55 = .ok (.bipush 40, 2) ∧ decode cX6_countOnLine 57 = .ok (.if_icmp .ge 58, 3) ∧ decode cX6_countOnLine 60 = .ok (.aload_n 0, 1) := by decide +kernel
theorem zcdX6_countOnLine_61 : decode cX6_countOnLine 61 = .ok (.getfield 21, 3) ∧ decode cX6_countOnLine 64 = .ok (.iload 6, 2) ∧ decode cX6_countOnLine 66 = .ok (.baload, 1) ∧ decode cX6_countOnLine 67 = .ok (.ifCond .eq 42, 3) ∧ decode cX6_countOnLine 70 = .ok (.iload_n 3, 1) ∧ decode cX6_countOnLine 71 = .ok (.aload_n 0, 1) ∧ decode cX6_countOnLine 72 = .ok (.getfield 42, 3) ∧ decode cX6_countOnLine 75 = .ok (.iload 6, 2) := by decide +kernel
theorem zcdX6_countOnLine_77 : decode cX6_countOnLine 77 = .ok (.iaload, 1) ∧ decode cX6_countOnLine 78 = .ok (.aload_n 0, 1) ∧ decode cX6_countOnLine 79 = .ok (.getfield 42, 3) ∧ decode cX6_countOnLine 82 = .ok (.iload_n 1, 1) ∧ decode cX6_countOnLine 83 = .ok (.iaload, 1) ∧ decode cX6_countOnLine 84 = .ok (.isub, 1) ∧ decode cX6_countOnLine 85 = .ok (.imul, 1) ∧ decode cX6_countOnLine 86 = .ok (.iload 4, 2) := by decide +kernel
theorem zcdX6_countOnLine_88 : decode cX6_countOnLine 88 = .ok (.aload_n 0, 1) ∧ decode cX6_countOnLine 89 = .ok (.getfield 38, 3) ∧ decode cX6_countOnLine 92 = .ok (.iload 6, 2) ∧ decode cX6_countOnLine 94 = .ok (.iaload, 1) ∧ decode cX6_countOnLine 95 = .ok (.aload_n 0, 1) ∧ decode cX6_countOnLine 96 = .ok (.getfield 38, 3) ∧ decode cX6_countOnLine 99 = .ok (.iload_n 1, 1) ∧ decode cX6_countOnLine 100 = .ok (.iaload, 1) := by decide +kernel
theorem zcdX6_countOnLine_101 : decode cX6_countOnLine 101 = .ok (.isub, 1) ∧ decode cX6_countOnLine 102 = .ok (.imul, 1) ∧ decode cX6_countOnLine 103 = .ok (.if_icmp .ne 6, 3) ∧ decode cX6_countOnLine 106 = .ok (.iinc 5 1, 3) ∧ decode cX6_countOnLine 109 = .ok (.iinc 6 1, 3) ∧ decode cX6_countOnLine 112 = .ok (.goto (-59), 3) ∧ decode cX6_countOnLine 115 = .ok (.iload 5, 2) ∧ decode cX6_countOnLine 117 = .ok (.ireturn, 1) := by decide +kernel
theorem zcdX6_line_0 : decode cX6_line 0 = .ok (.iconst 2, 1) ∧ decode cX6_line 1 = .ok (.aload_n 0, 1) ∧ decode cX6_line 2 = .ok (.invokevirtual 9, 3) ∧ decode cX6_line 5 = .ok (.invokestatic 15, 3) ∧ decode cX6_line 8 = .ok (.istore_n 1, 1) ∧ decode cX6_line 9 = .ok (.iconst 0, 1) ∧ decode cX6_line 10 = .ok (.istore_n 2, 1) ∧ decode cX6_line 11 = .ok (.iload_n 2, 1) := by decide +kernel
theorem zcdX6_line_12 : decode cX6_line 12 = .ok (.bipush 40, 2) ∧ decode cX6_line 14 = .ok (.if_icmp .ge 54, 3) ∧ decode cX6_line 17 = .ok (.iload_n 2, 1) ∧ decode cX6_line 18 = .ok (.iconst 1, 1) ∧ decode cX6_line 19 = .ok (.iadd, 1) ∧ decode cX6_line 20 = .ok (.istore_n 3, 1) ∧ decode cX6_line 21 = .ok (.iload_n 3, 1) ∧ decode cX6_line 22 = .ok (.bipush 40, 2) := by decide +kernel
theorem zcdX6_line_24 : decode cX6_line 24 = .ok (.if_icmp .ge 38, 3) ∧ decode cX6_line 27 = .ok (.aload_n 0, 1) ∧ decode cX6_line 28 = .ok (.getfield 21, 3) ∧ decode cX6_line 31 = .ok (.iload_n 2, 1) ∧ decode cX6_line 32 = .ok (.baload, 1) ∧ decode cX6_line 33 = .ok (.ifCond .eq 23, 3) ∧ decode cX6_line 36 = .ok (.aload_n 0, 1) ∧ decode cX6_line 37 = .ok (.getfield 21, 3) := by decide +kernel
theorem zcdX6_line_40 : decode cX6_line 40 = .ok (.iload_n 3, 1) ∧ decode cX6_line 41 = .ok (.baload, 1) ∧ decode cX6_line 42 = .ok (.ifCond .eq 14, 3) ∧ decode cX6_line 45 = .ok (.iload_n 1, 1) ∧ decode cX6_line 46 = .ok (.aload_n 0, 1) ∧ decode cX6_line 47 = .ok (.iload_n 2, 1) ∧ decode cX6_line 48 = .ok (.iload_n 3, 1) ∧ decode cX6_line 49 = .ok (.invokestatic 25, 3) := by decide +kernel
theorem zcdX6_line_52 : decode cX6_line 52 = .ok (.invokestatic 31, 3) ∧ decode cX6_line 55 = .ok (.istore_n 1, 1) ∧ decode cX6_line 56 = .ok (.iinc 3 1, 3) ∧ decode cX6_line 59 = .ok (.goto (-38), 3) ∧ decode cX6_line 62 = .ok (.iinc 2 1, 3) ∧ decode cX6_line 65 = .ok (.goto (-54), 3) ∧ decode cX6_line 68 = .ok (.iload_n 1, 1) ∧ decode cX6_line 69 = .ok (.ireturn, 1) := by decide +kernel
theorem zcdX6_pairs_0 : decode cX6_pairs 0 = .ok (.iconst 0, 1) ∧ decode cX6_pairs 1 = .ok (.istore_n 1, 1) ∧ decode cX6_pairs 2 = .ok (.iconst 0, 1) ∧ decode cX6_pairs 3 = .ok (.istore_n 2, 1) ∧ decode cX6_pairs 4 = .ok (.iload_n 2, 1) ∧ decode cX6_pairs 5 = .ok (.bipush 40, 2) ∧ decode cX6_pairs 7 = .ok (.if_icmp .ge 32, 3) ∧ decode cX6_pairs 10 = .ok (.aload_n 0, 1) := by decide +kernel
theorem zcdX6_pairs_11 : decode cX6_pairs 11 = .ok (.iload_n 2, 1) ∧ decode cX6_pairs 12 = .ok (.invokestatic 48, 3) ∧ decode cX6_pairs 15 = .ok (.istore_n 3, 1) ∧ decode cX6_pairs 16 = .ok (.iload_n 3, 1) ∧ decode cX6_pairs 17 = .ok (.iload_n 2, 1) ∧ decode cX6_pairs 18 = .ok (.if_icmp .le 15, 3) ∧ decode cX6_pairs 21 = .ok (.aload_n 0, 1) ∧ decode cX6_pairs 22 = .ok (.iload_n 3, 1) := by decide +kernel
theorem zcdX6_pairs_23 : decode cX6_pairs 23 = .ok (.invokestatic 48, 3) ∧ decode cX6_pairs 26 = .ok (.iload_n 2, 1) ∧ decode cX6_pairs 27 = .ok (.if_icmp .ne 6, 3) ∧ decode cX6_pairs 30 = .ok (.iinc 1 1, 3) ∧ decode cX6_pairs 33 = .ok (.iinc 2 1, 3) ∧ decode cX6_pairs 36 = .ok (.goto (-32), 3) ∧ decode cX6_pairs 39 = .ok (.iload_n 1, 1) ∧ decode cX6_pairs 40 = .ok (.ireturn, 1) := by decide +kernel
theorem zcdX6_yardApart_0 : decode cX6_yardApart 0 = .ok (.iconst 0, 1) ∧ decode cX6_yardApart 1 = .ok (.istore_n 1, 1) ∧ decode cX6_yardApart 2 = .ok (.iconst 0, 1) ∧ decode cX6_yardApart 3 = .ok (.istore_n 2, 1) ∧ decode cX6_yardApart 4 = .ok (.iload_n 2, 1) ∧ decode cX6_yardApart 5 = .ok (.bipush 40, 2) ∧ decode cX6_yardApart 7 = .ok (.if_icmp .ge 60, 3) ∧ decode cX6_yardApart 10 = .ok (.aload_n 0, 1) := by decide +kernel
theorem zcdX6_yardApart_11 : decode cX6_yardApart 11 = .ok (.getfield 21, 3) ∧ decode cX6_yardApart 14 = .ok (.iload_n 2, 1) ∧ decode cX6_yardApart 15 = .ok (.baload, 1) ∧ decode cX6_yardApart 16 = .ok (.ifCond .eq 45, 3) ∧ decode cX6_yardApart 19 = .ok (.iconst 1, 1) ∧ decode cX6_yardApart 20 = .ok (.istore_n 3, 1) ∧ decode cX6_yardApart 21 = .ok (.iload_n 3, 1) ∧ decode cX6_yardApart 22 = .ok (.bipush 20, 2) := by decide +kernel
theorem zcdX6_yardApart_24 : decode cX6_yardApart 24 = .ok (.if_icmp .ge 31, 3) ∧ decode cX6_yardApart 27 = .ok (.aload_n 0, 1) ∧ decode cX6_yardApart 28 = .ok (.aload_n 0, 1) ∧ decode cX6_yardApart 29 = .ok (.getfield 38, 3) ∧ decode cX6_yardApart 32 = .ok (.iload_n 2, 1) ∧ decode cX6_yardApart 33 = .ok (.iaload, 1) ∧ decode cX6_yardApart 34 = .ok (.aload_n 0, 1) ∧ decode cX6_yardApart 35 = .ok (.getfield 42, 3) := by decide +kernel
theorem zcdX6_yardApart_38 : decode cX6_yardApart 38 = .ok (.iload_n 2, 1) ∧ decode cX6_yardApart 39 = .ok (.iaload, 1) ∧ decode cX6_yardApart 40 = .ok (.iload_n 3, 1) ∧ decode cX6_yardApart 41 = .ok (.iadd, 1) ∧ decode cX6_yardApart 42 = .ok (.invokevirtual 45, 3) ∧ decode cX6_yardApart 45 = .ok (.iconst (-1), 1) ∧ decode cX6_yardApart 46 = .ok (.if_icmp .eq 9, 3) ∧ decode cX6_yardApart 49 = .ok (.iinc 3 1, 3) := by decide +kernel
theorem zcdX6_yardApart_52 : decode cX6_yardApart 52 = .ok (.goto (-31), 3) ∧ decode cX6_yardApart 55 = .ok (.iload_n 1, 1) ∧ decode cX6_yardApart 56 = .ok (.iload_n 3, 1) ∧ decode cX6_yardApart 57 = .ok (.invokestatic 31, 3) ∧ decode cX6_yardApart 60 = .ok (.istore_n 1, 1) ∧ decode cX6_yardApart 61 = .ok (.iinc 2 1, 3) ∧ decode cX6_yardApart 64 = .ok (.goto (-60), 3) ∧ decode cX6_yardApart 67 = .ok (.iload_n 1, 1) := by decide +kernel
theorem zcdX6_yardApart_68 : decode cX6_yardApart 68 = .ok (.ireturn, 1) ∧ decode cX7_append 0 = .ok (.bipush 24, 2) ∧ decode cX7_append 2 = .ok (.istore_n 2, 1) ∧ decode cX7_append 3 = .ok (.iload_n 2, 1) ∧ decode cX7_append 4 = .ok (.ifCond .lt 52, 3) ∧ decode cX7_append 7 = .ok (.aload_n 0, 1) ∧ decode cX7_append 8 = .ok (.getfield 15, 3) ∧ decode cX7_append 11 = .ok (.ifCond .lt 39, 3) := by decide +kernel
theorem zcdX7_append_14 : decode cX7_append 14 = .ok (.aload_n 0, 1) ∧ decode cX7_append 15 = .ok (.getfield 15, 3) ∧ decode cX7_append 18 = .ok (.sipush 260, 3) ∧ decode cX7_append 21 = .ok (.if_icmp .ge 29, 3) ∧ decode cX7_append 24 = .ok (.aload_n 0, 1) ∧ decode cX7_append 25 = .ok (.getfield 9, 3) ∧ decode cX7_append 28 = .ok (.aload_n 0, 1) ∧ decode cX7_append 29 = .ok (.getfield 15, 3) := by decide +kernel
theorem zcdX7_append_32 : decode cX7_append 32 = .ok (.iload_n 1, 1) ∧ decode cX7_append 33 = .ok (.iload_n 2, 1) ∧ decode cX7_append 34 = .ok (.ishr, 1) ∧ decode cX7_append 35 = .ok (.sipush 255, 3) ∧ decode cX7_append 38 = .ok (.iand, 1) ∧ decode cX7_append 39 = .ok (.iastore, 1) ∧ decode cX7_append 40 = .ok (.aload_n 0, 1) ∧ decode cX7_append 41 = .ok (.dup, 1) := by decide +kernel
theorem zcdX7_append_42 : decode cX7_append 42 = .ok (.getfield 15, 3) ∧ decode cX7_append 45 = .ok (.iconst 1, 1) ∧ decode cX7_append 46 = .ok (.iadd, 1) ∧ decode cX7_append 47 = .ok (.putfield 15, 3) ∧ decode cX7_append 50 = .ok (.iinc 2 (-8), 3) ∧ decode cX7_append 53 = .ok (.goto (-50), 3) ∧ decode cX7_append 56 = .ok (.return_, 1) ∧ decode cX7_holds 0 = .ok (.iload_n 1, 1) := by decide +kernel
theorem zcdX7_holds_1 : decode cX7_holds 1 = .ok (.iload_n 2, 1) ∧ decode cX7_holds 2 = .ok (.if_icmp .lt 20, 3) ∧ decode cX7_holds 5 = .ok (.iload_n 1, 1) ∧ decode cX7_holds 6 = .ok (.iload_n 3, 1) ∧ decode cX7_holds 7 = .ok (.if_icmp .gt 15, 3) ∧ decode cX7_holds 10 = .ok (.iload_n 1, 1) ∧ decode cX7_holds 11 = .ok (.aload_n 0, 1) ∧ decode cX7_holds 12 = .ok (.getfield 15, 3) := by decide +kernel
theorem zcdX7_holds_15 : decode cX7_holds 15 = .ok (.if_icmp .gt 7, 3) ∧ decode cX7_holds 18 = .ok (.iconst 1, 1) ∧ decode cX7_holds 19 = .ok (.goto 4, 3) ∧ decode cX7_holds 22 = .ok (.iconst 0, 1) ∧ decode cX7_holds 23 = .ok (.ireturn, 1) ∧ decode cX7_open 0 = .ok (.aload_n 0, 1) ∧ decode cX7_open 1 = .ok (.iload_n 1, 1) ∧ decode cX7_open 2 = .ok (.putfield 19, 3) := by decide +kernel
theorem zcdX7_open_5 : decode cX7_open 5 = .ok (.aload_n 0, 1) ∧ decode cX7_open 6 = .ok (.iconst 0, 1) ∧ decode cX7_open 7 = .ok (.putfield 22, 3) ∧ decode cX7_open 10 = .ok (.aload_n 0, 1) ∧ decode cX7_open 11 = .ok (.iconst 0, 1) ∧ decode cX7_open 12 = .ok (.putfield 25, 3) ∧ decode cX7_open 15 = .ok (.aload_n 0, 1) ∧ decode cX7_open 16 = .ok (.iconst 0, 1) := by decide +kernel
theorem zcdX7_open_17 : decode cX7_open 17 = .ok (.putfield 15, 3) ∧ decode cX7_open 20 = .ok (.return_, 1) ∧ decode cX8_spreadOn 0 = .ok (.iload_n 3, 1) ∧ decode cX8_spreadOn 1 = .ok (.ifCond .lt 17, 3) ∧ decode cX8_spreadOn 4 = .ok (.iload_n 3, 1) ∧ decode cX8_spreadOn 5 = .ok (.bipush 42, 2) ∧ decode cX8_spreadOn 7 = .ok (.if_icmp .ge 11, 3) ∧ decode cX8_spreadOn 10 = .ok (.aload 4, 2) := by decide +kernel
theorem zcdX8_spreadOn_12 : decode cX8_spreadOn 12 = .ok (.arraylength, 1) ∧ decode cX8_spreadOn 13 = .ok (.bipush 42, 2) ∧ decode cX8_spreadOn 15 = .ok (.if_icmp .ge 5, 3) ∧ decode cX8_spreadOn 18 = .ok (.iconst 0, 1) ∧ decode cX8_spreadOn 19 = .ok (.ireturn, 1) ∧ decode cX8_spreadOn 20 = .ok (.aload 4, 2) ∧ decode cX8_spreadOn 22 = .ok (.iload_n 3, 1) ∧ decode cX8_spreadOn 23 = .ok (.iconst 0, 1) := by decide +kernel
theorem zcdX8_spreadOn_24 : decode cX8_spreadOn 24 = .ok (.iastore, 1) ∧ decode cX8_spreadOn 25 = .ok (.aload_n 0, 1) ∧ decode cX8_spreadOn 26 = .ok (.getfield 18, 3) ∧ decode cX8_spreadOn 29 = .ok (.iconst 0, 1) ∧ decode cX8_spreadOn 30 = .ok (.iload_n 3, 1) ∧ decode cX8_spreadOn 31 = .ok (.iastore, 1) ∧ decode cX8_spreadOn 32 = .ok (.iconst 1, 1) ∧ decode cX8_spreadOn 33 = .ok (.istore 6, 2) := by decide +kernel
theorem zcdX8_spreadOn_35 : decode cX8_spreadOn 35 = .ok (.iconst 0, 1) ∧ decode cX8_spreadOn 36 = .ok (.istore 7, 2) ∧ decode cX8_spreadOn 38 = .ok (.iload 7, 2) ∧ decode cX8_spreadOn 40 = .ok (.iload 6, 2) ∧ decode cX8_spreadOn 42 = .ok (.if_icmp .ge 120, 3) ∧ decode cX8_spreadOn 45 = .ok (.iload 7, 2) ∧ decode cX8_spreadOn 47 = .ok (.bipush 42, 2) ∧ decode cX8_spreadOn 49 = .ok (.if_icmp .ge 113, 3) := by decide +kernel
theorem zcdX8_spreadOn_52 : decode cX8_spreadOn 52 = .ok (.aload_n 0, 1) ∧ decode cX8_spreadOn 53 = .ok (.getfield 18, 3) ∧ decode cX8_spreadOn 56 = .ok (.iload 7, 2) ∧ decode cX8_spreadOn 58 = .ok (.iaload, 1) ∧ decode cX8_spreadOn 59 = .ok (.istore 8, 2) ∧ decode cX8_spreadOn 61 = .ok (.iload 8, 2) ∧ decode cX8_spreadOn 63 = .ok (.ifCond .lt 20, 3) ∧ decode cX8_spreadOn 66 = .ok (.iload 8, 2) := by decide +kernel
theorem zcdX8_spreadOn_68 : decode cX8_spreadOn 68 = .ok (.bipush 42, 2) ∧ decode cX8_spreadOn 70 = .ok (.if_icmp .ge 13, 3) ∧ decode cX8_spreadOn 73 = .ok (.aload 4, 2) ∧ decode cX8_spreadOn 75 = .ok (.iload 8, 2) ∧ decode cX8_spreadOn 77 = .ok (.iaload, 1) ∧ decode cX8_spreadOn 78 = .ok (.iconst 1, 1) ∧ decode cX8_spreadOn 79 = .ok (.iadd, 1) ∧ decode cX8_spreadOn 80 = .ok (.goto 4, 3) := by decide +kernel
theorem zcdX8_spreadOn_83 : decode cX8_spreadOn 83 = .ok (.iconst 0, 1) ∧ decode cX8_spreadOn 84 = .ok (.istore 9, 2) ∧ decode cX8_spreadOn 86 = .ok (.iconst 0, 1) ∧ decode cX8_spreadOn 87 = .ok (.istore 10, 2) ∧ decode cX8_spreadOn 89 = .ok (.iload 10, 2) ∧ decode cX8_spreadOn 91 = .ok (.iload 5, 2) ∧ decode cX8_spreadOn 93 = .ok (.if_icmp .ge 63, 3) ∧ decode cX8_spreadOn 96 = .ok (.iload 10, 2) := by decide +kernel
theorem zcdX8_spreadOn_98 : decode cX8_spreadOn 98 = .ok (.bipush 42, 2) ∧ decode cX8_spreadOn 100 = .ok (.if_icmp .ge 56, 3) ∧ decode cX8_spreadOn 103 = .ok (.aload 4, 2) ∧ decode cX8_spreadOn 105 = .ok (.iload 10, 2) ∧ decode cX8_spreadOn 107 = .ok (.iaload, 1) ∧ decode cX8_spreadOn 108 = .ok (.iconst (-1), 1) ∧ decode cX8_spreadOn 109 = .ok (.if_icmp .ne 41, 3) ∧ decode cX8_spreadOn 112 = .ok (.iload 6, 2) := by decide +kernel
theorem zcdX8_spreadOn_114 : decode cX8_spreadOn 114 = .ok (.bipush 42, 2) ∧ decode cX8_spreadOn 116 = .ok (.if_icmp .ge 34, 3) ∧ decode cX8_spreadOn 119 = .ok (.aload_n 1, 1) ∧ decode cX8_spreadOn 120 = .ok (.iload 8, 2) ∧ decode cX8_spreadOn 122 = .ok (.iload 10, 2) ∧ decode cX8_spreadOn 124 = .ok (.iload_n 2, 1) ∧ decode cX8_spreadOn 125 = .ok (.invokevirtual 41, 3) ∧ decode cX8_spreadOn 128 = .ok (.ifCond .eq 22, 3) := by decide +kernel
theorem zcdX8_spreadOn_131 : decode cX8_spreadOn 131 = .ok (.aload 4, 2) ∧ decode cX8_spreadOn 133 = .ok (.iload 10, 2) ∧ decode cX8_spreadOn 135 = .ok (.iload 9, 2) ∧ decode cX8_spreadOn 137 = .ok (.iastore, 1) ∧ decode cX8_spreadOn 138 = .ok (.aload_n 0, 1) ∧ decode cX8_spreadOn 139 = .ok (.getfield 18, 3) ∧ decode cX8_spreadOn 142 = .ok (.iload 6, 2) ∧ decode cX8_spreadOn 144 = .ok (.iload 10, 2) := by decide +kernel
theorem zcdX8_spreadOn_146 : decode cX8_spreadOn 146 = .ok (.iastore, 1) ∧ decode cX8_spreadOn 147 = .ok (.iinc 6 1, 3) ∧ decode cX8_spreadOn 150 = .ok (.iinc 10 1, 3) ∧ decode cX8_spreadOn 153 = .ok (.goto (-64), 3) ∧ decode cX8_spreadOn 156 = .ok (.iinc 7 1, 3) ∧ decode cX8_spreadOn 159 = .ok (.goto (-121), 3) ∧ decode cX8_spreadOn 162 = .ok (.iload 6, 2) ∧ decode cX8_spreadOn 164 = .ok (.ireturn, 1) := by decide +kernel
theorem zcdX8_spread_0 : decode cX8_spread 0 = .ok (.aload 4, 2) ∧ decode cX8_spread 2 = .ok (.iconst (-1), 1) ∧ decode cX8_spread 3 = .ok (.invokestatic 31, 3) ∧ decode cX8_spread 6 = .ok (.aload_n 0, 1) ∧ decode cX8_spread 7 = .ok (.aload_n 1, 1) ∧ decode cX8_spread 8 = .ok (.iload_n 2, 1) ∧ decode cX8_spread 9 = .ok (.iload_n 3, 1) ∧ decode cX8_spread 10 = .ok (.aload 4, 2) := by decide +kernel
theorem zcdX8_spread_12 : decode cX8_spread 12 = .ok (.iload 5, 2) ∧ decode cX8_spread 14 = .ok (.invokevirtual 37, 3) ∧ decode cX8_spread 17 = .ok (.ireturn, 1) ∧ decode cX8_canCross 0 = .ok (.aload_n 0, 1) ∧ decode cX8_canCross 1 = .ok (.aload_n 1, 1) ∧ decode cX8_canCross 2 = .ok (.iload_n 2, 1) ∧ decode cX8_canCross 3 = .ok (.bipush 40, 2) ∧ decode cX8_canCross 5 = .ok (.aload_n 0, 1) := by decide +kernel
theorem zcdX8_canCross_6 : decode cX8_canCross 6 = .ok (.getfield 9, 3) ∧ decode cX8_canCross 9 = .ok (.bipush 42, 2) ∧ decode cX8_canCross 11 = .ok (.invokevirtual 47, 3) ∧ decode cX8_canCross 14 = .ok (.pop, 1) ∧ decode cX8_canCross 15 = .ok (.aload_n 0, 1) ∧ decode cX8_canCross 16 = .ok (.getfield 9, 3) ∧ decode cX8_canCross 19 = .ok (.bipush 41, 2) ∧ decode cX8_canCross 21 = .ok (.iaload, 1) := by decide +kernel
theorem zcdX8_canCross_22 : decode cX8_canCross 22 = .ok (.iconst (-1), 1) ∧ decode cX8_canCross 23 = .ok (.if_icmp .eq 7, 3) ∧ decode cX8_canCross 26 = .ok (.iconst 1, 1) ∧ decode cX8_canCross 27 = .ok (.goto 4, 3) ∧ decode cX8_canCross 30 = .ok (.iconst 0, 1) ∧ decode cX8_canCross 31 = .ok (.ireturn, 1) := by decide +kernel
set_option maxHeartbeats 4000000 in
theorem t_X5_turn (b : Nat) (hb : isF b) (c : Nat) (hc : isL c) (v3 : Int32) (M : Mem) : AXv yX5_turn cX5_turn 6 none 4 60 glC (fun ad => [.ref (ad 21), .ref (ad b), .ref (ad c), .int v3]) M (f_X5_turn b c M v3) := by
  intro r0 h
  refine AM.of (by decide) (fun _ => Nat.le_of_ble_eq_true rfl) (fun X ad cI cZ cB hX hR => ?_)
  show V X M [(0, .ref (ad 21)), (1, .ref (ad b)), (2, .ref (ad c)), (3, .int v3)] [] 0
  refine s_aload_n (k := 1) hX zcdX5_turn_0.1 rfl rfl ?_
  refine s_iload_n (k := 3) hX zcdX5_turn_0.2.1 rfl rfl ?_
  refine e_callVp hX (t_X2_isTold b hb v3 M) mX2_isTold lX5_35 (by decide) (by decide) (oF hb) rfl rfl rfl rfl rfl (Nat.le_of_ble_eq_true rfl) zcdX5_turn_0.2.2.1 h (fun r_1 h => ?_)
  refine e_if_ne (tgt := 9) hX zcdX5_turn_0.2.2.2.1 (by decide) z_eq h (fun h => ?_) (fun h => ?_)
  · refine s_aload_n (k := 0) hX zcdX5_turn_0.2.2.2.2.2.1 rfl rfl ?_
    refine s_get hX fX5_11 oC21 rfl zcdX5_turn_0.2.2.2.2.2.2.1 ?_
    refine s_bipush (v := (nI 6)) hX zcdX5_turn_0.2.2.2.2.2.2.2 (by decide) ?_
    refine s_aload_n (k := 1) hX zcdX5_turn_15.1 rfl rfl ?_
    refine e_callVi hX (t_X2_draw b hb M) mX2_draw lX5_39 (by decide) (by decide) (oF hb) rfl rfl rfl rfl rfl (Nat.le_of_ble_eq_true rfl) zcdX5_turn_15.2.1 h (fun r_2 M_3 h => ?_)
    refine s_iastN hX aC22 (by decide) zcdX5_turn_15.2.2.1 ?_
    refine e_bndM h (fun M_4 h => ?_)
    refine s_aload_n (k := 0) hX zcdX5_turn_15.2.2.2.1 rfl rfl ?_
    refine s_aload_n (k := 1) hX zcdX5_turn_15.2.2.2.2.1 rfl rfl ?_
    refine s_aload_n (k := 2) hX zcdX5_turn_15.2.2.2.2.2.1 rfl rfl ?_
    refine s_iload_n (k := 3) hX zcdX5_turn_15.2.2.2.2.2.2.1 rfl rfl ?_
    refine e_callVv hX (t_X5_look b hb c hc v3 M_4) mX5_look lX5_43 (by decide) (by decide) oC21 rfl rfl rfl rfl rfl (Nat.le_of_ble_eq_true rfl) zcdX5_turn_15.2.2.2.2.2.2.2 h (fun M_5 h => ?_)
    refine s_aload_n (k := 2) hX zcdX5_turn_27.1 rfl rfl ?_
    refine s_bipush (v := (nI 117)) hX zcdX5_turn_27.2.1 (by decide) ?_
    refine s_aload_n (k := 0) hX zcdX5_turn_27.2.2.1 rfl rfl ?_
    refine s_get hX fX5_11 oC21 rfl zcdX5_turn_27.2.2.2.1 ?_
    refine e_callVi hX (t_X3_amountOf c hc (nI 117) M_5) mX3_amountOf lX5_46 (by decide) (by decide) (oL hc) rfl rfl rfl rfl rfl (Nat.le_of_ble_eq_true rfl) zcdX5_turn_27.2.2.2.2.1 h (fun r_6 M_7 h => ?_)
    refine s_aload_n (k := 2) hX zcdX5_turn_27.2.2.2.2.2.1 rfl rfl ?_
    refine s_bipush (v := (nI 100)) hX zcdX5_turn_27.2.2.2.2.2.2.1 (by decide) ?_
    refine s_aload_n (k := 0) hX zcdX5_turn_27.2.2.2.2.2.2.2 rfl rfl ?_
    refine s_get hX fX5_11 oC21 rfl zcdX5_turn_41.1 ?_
    refine e_callVi hX (t_X3_amountOf c hc (nI 100) M_7) mX3_amountOf lX5_46 (by decide) (by decide) (oL hc) rfl rfl rfl rfl rfl (Nat.le_of_ble_eq_true rfl) zcdX5_turn_41.2.1 h (fun r_8 M_9 h => ?_)
    refine s_isub hX zcdX5_turn_41.2.2.1 ?_
    refine e_bnd h (fun x_10 h => ?_)
    refine s_istore (lv' := [(0, .ref (ad 21)), (1, .ref (ad b)), (2, .ref (ad c)), (3, .int v3), (4, .int x_10)]) hX zcdX5_turn_41.2.2.2.1 (by decide) rfl ?_
    refine s_aload_n (k := 2) hX zcdX5_turn_41.2.2.2.2.1 rfl rfl ?_
    refine s_bipush (v := (nI 111)) hX zcdX5_turn_41.2.2.2.2.2.1 (by decide) ?_
    refine s_aload_n (k := 0) hX zcdX5_turn_41.2.2.2.2.2.2.1 rfl rfl ?_
    refine s_get hX fX5_11 oC21 rfl zcdX5_turn_41.2.2.2.2.2.2.2 ?_
    refine e_callVi hX (t_X3_amountOf c hc (nI 111) M_9) mX3_amountOf lX5_46 (by decide) (by decide) (oL hc) rfl rfl rfl rfl rfl (Nat.le_of_ble_eq_true rfl) zcdX5_turn_57.1 h (fun r_11 M_12 h => ?_)
    refine s_aload_n (k := 2) hX zcdX5_turn_57.2.1 rfl rfl ?_
    refine s_bipush (v := (nI 98)) hX zcdX5_turn_57.2.2.1 (by decide) ?_
    refine s_aload_n (k := 0) hX zcdX5_turn_57.2.2.2.1 rfl rfl ?_
    refine s_get hX fX5_11 oC21 rfl zcdX5_turn_57.2.2.2.2.1 ?_
    refine e_callVi hX (t_X3_amountOf c hc (nI 98) M_12) mX3_amountOf lX5_46 (by decide) (by decide) (oL hc) rfl rfl rfl rfl rfl (Nat.le_of_ble_eq_true rfl) zcdX5_turn_57.2.2.2.2.2.1 h (fun r_13 M_14 h => ?_)
    refine s_isub hX zcdX5_turn_57.2.2.2.2.2.2.1 ?_
    refine e_bnd h (fun x_15 h => ?_)
    refine s_istore (lv' := [(0, .ref (ad 21)), (1, .ref (ad b)), (2, .ref (ad c)), (3, .int v3), (4, .int x_10), (5, .int x_15)]) hX zcdX5_turn_57.2.2.2.2.2.2.2 (by decide) rfl ?_
    refine s_aload_n (k := 0) hX zcdX5_turn_73.1 rfl rfl ?_
    refine s_aload_n (k := 1) hX zcdX5_turn_73.2.1 rfl rfl ?_
    refine s_iload_n (k := 3) hX zcdX5_turn_73.2.2.1 rfl rfl ?_
    refine s_iload (k := 4) hX zcdX5_turn_73.2.2.2.1 rfl ?_
    refine s_iload (k := 5) hX zcdX5_turn_73.2.2.2.2.1 rfl ?_
    refine e_callVv hX (t_X5_shift b hb v3 x_10 x_15 M_14) mX5_shift lX5_52 (by decide) (by decide) oC21 rfl rfl rfl rfl rfl (Nat.le_of_ble_eq_true rfl) zcdX5_turn_73.2.2.2.2.2.1 h (fun M_16 h => ?_)
    refine s_aload_n (k := 0) hX zcdX5_turn_73.2.2.2.2.2.2.1 rfl rfl ?_
    refine s_aload_n (k := 1) hX zcdX5_turn_73.2.2.2.2.2.2.2 rfl rfl ?_
    refine s_aload_n (k := 2) hX zcdX5_turn_85.1 rfl rfl ?_
    refine s_iload_n (k := 3) hX zcdX5_turn_85.2.1 rfl rfl ?_
    refine e_callVv hX (t_X5_look b hb c hc v3 M_16) mX5_look lX5_43 (by decide) (by decide) oC21 rfl rfl rfl rfl rfl (Nat.le_of_ble_eq_true rfl) zcdX5_turn_85.2.2.1 h (fun M_17 h => ?_)
    refine s_aload_n (k := 1) hX zcdX5_turn_85.2.2.2.1 rfl rfl ?_
    refine s_get hX fX5_56 (oF hb) rfl zcdX5_turn_85.2.2.2.2.1 ?_
    refine s_iload_n (k := 3) hX zcdX5_turn_85.2.2.2.2.2.1 rfl rfl ?_
    refine s_aload_n (k := 2) hX zcdX5_turn_85.2.2.2.2.2.2.1 rfl rfl ?_
    refine s_aload_n (k := 0) hX zcdX5_turn_85.2.2.2.2.2.2.2 rfl rfl ?_
    refine s_get hX fX5_11 oC21 rfl zcdX5_turn_97.1 ?_
    refine e_callVi hX (t_X3_doesSink c hc M_17) mX3_doesSink lX5_59 (by decide) (by decide) (oL hc) rfl rfl rfl rfl rfl (Nat.le_of_ble_eq_true rfl) zcdX5_turn_97.2.1 h (fun r_18 M_19 h => ?_)
    refine e_zast hX (aF5 hb) zcdX5_turn_97.2.2.1 h (fun h => ?_)
    refine e_bndM h (fun M_20 h => ?_)
    exact e_vret hX hR zcdX5_turn_97.2.2.2.1 h
  · exact e_vret hX hR zcdX5_turn_0.2.2.2.2.1 h
set_option maxHeartbeats 4000000 in
theorem t_X5_pass (b : Nat) (hb : isF b) (c : Nat) (hc : isL c) (v3 : Int32) (M : Mem) : AXv yX5_pass cX5_pass 6 none 5 60 glC (fun ad => [.ref (ad 21), .ref (ad b), .ref (ad c), .int v3]) M (f_X5_pass b c M v3) := by
  intro r0 h
  refine AM.of (by decide) (fun _ => Nat.le_of_ble_eq_true rfl) (fun X ad cI cZ cB hX hR => ?_)
  show V X M [(0, .ref (ad 21)), (1, .ref (ad b)), (2, .ref (ad c)), (3, .int v3)] [] 0
  refine s_aload_n (k := 0) hX zcdX5_turn_97.2.2.2.2.1 rfl rfl ?_
  refine s_iconst (v := (nI 0)) hX zcdX5_turn_97.2.2.2.2.2.1 (by decide) ?_
  refine s_puti (ty := .int) hX fX5_15 oC21 rfl (Nat.le_of_ble_eq_true rfl) ty_5_1 rfl rfl zcdX5_turn_97.2.2.2.2.2.2.1 ?_
  refine e_bndM h (fun M_1 h => ?_)
  refine s_aload_n (k := 0) hX zcdX5_turn_97.2.2.2.2.2.2.2 rfl rfl ?_
  refine s_iconst (v := (nI 0)) hX zcdX5_pass_6.1 (by decide) ?_
  refine s_puti (ty := .int) hX fX5_19 oC21 rfl (Nat.le_of_ble_eq_true rfl) ty_5_2 rfl rfl zcdX5_pass_6.2.1 ?_
  refine e_bndM h (fun M_2 h => ?_)
  refine s_iconst (v := (nI 0)) hX zcdX5_pass_6.2.2.1 (by decide) ?_
  refine s_istore (lv' := [(0, .ref (ad 21)), (1, .ref (ad b)), (2, .ref (ad c)), (3, .int v3), (4, .int (nI 0))]) hX zcdX5_pass_6.2.2.2.1 (by decide) rfl ?_
  have lp13 : ∀ (N13 : Nat) (M13 : Mem) (y4_13 : Int32), wlp2 (f_X5_pass_B13 b c v3) N13 M13 y4_13 = some r0 → V X M13 [(0, .ref (ad 21)), (1, .ref (ad b)), (2, .ref (ad c)), (3, .int v3), (4, .int y4_13)] [] 13 := by
    intro N13
    induction N13 with
    | zero => exact fun _ _ h => e_none h
    | succ N13 ih13 =>
      intro M13 y4_13 h
      replace h : f_X5_pass_B13 b c v3 (wlp2 (f_X5_pass_B13 b c v3) N13) M13 y4_13 = some r0 := h
      generalize wlp2 (f_X5_pass_B13 b c v3) N13 = ag13 at ih13 h
      refine s_iload (k := 4) hX zcdX5_pass_6.2.2.2.2.1 rfl ?_
      refine s_iload_n (k := 3) hX zcdX5_pass_6.2.2.2.2.2.1 rfl rfl ?_
      refine e_icmp_ge (tgt := 79) hX zcdX5_pass_6.2.2.2.2.2.2.1 (by decide) r_le h (fun h => ?_) (fun h => ?_)
      · exact e_vret hX hR zcdX5_pass_69.2.2.2.2.1 h
      · refine s_aload_n (k := 1) hX zcdX5_pass_6.2.2.2.2.2.2.2 rfl rfl ?_
        refine s_get hX fX5_22 (oF hb) rfl zcdX5_pass_20.1 ?_
        refine s_sipush (v := (nI 9999)) hX zcdX5_pass_20.2.1 (by decide) ?_
        refine e_icmp_ge (tgt := 79) hX zcdX5_pass_20.2.2.1 (by decide) (m_ge (by decide +kernel)) h (fun h => ?_) (fun h => ?_)
        · exact e_vret hX hR zcdX5_pass_69.2.2.2.2.1 h
        · refine s_iconst (v := (nI 0)) hX zcdX5_pass_20.2.2.2.1 (by decide) ?_
          refine s_istore (lv' := [(0, .ref (ad 21)), (1, .ref (ad b)), (2, .ref (ad c)), (3, .int v3), (4, .int y4_13), (5, .int (nI 0))]) hX zcdX5_pass_20.2.2.2.2.1 (by decide) rfl ?_
          have lp32 : ∀ (N32 : Nat) (M32 : Mem) (y5_32 : Int32), wlp2 (f_X5_pass_B32 b c ag13 y4_13) N32 M32 y5_32 = some r0 → V X M32 [(0, .ref (ad 21)), (1, .ref (ad b)), (2, .ref (ad c)), (3, .int v3), (4, .int y4_13), (5, .int y5_32)] [] 32 := by
            intro N32
            induction N32 with
            | zero => exact fun _ _ h => e_none h
            | succ N32 ih32 =>
              intro M32 y5_32 h
              replace h : f_X5_pass_B32 b c ag13 y4_13 (wlp2 (f_X5_pass_B32 b c ag13 y4_13) N32) M32 y5_32 = some r0 := h
              generalize wlp2 (f_X5_pass_B32 b c ag13 y4_13) N32 = ag32 at ih32 h
              refine s_iload (k := 5) hX zcdX5_pass_20.2.2.2.2.2.1 rfl ?_
              refine s_bipush (v := (nI 40)) hX zcdX5_pass_20.2.2.2.2.2.2.1 (by decide) ?_
              have j63 : f_X5_pass_L63 b ag13 y4_13 M32 = some r0 → V X M32 [(0, .ref (ad 21)), (1, .ref (ad b)), (2, .ref (ad c)), (3, .int v3), (4, .int y4_13)] [] 63 := by
                intro  h
                refine s_aload_n (k := 1) hX zcdX5_pass_52.2.2.2.2.1 rfl rfl ?_
                refine s_dup hX zcdX5_pass_52.2.2.2.2.2.1 rfl ?_
                refine s_get hX fX5_22 (oF hb) rfl zcdX5_pass_52.2.2.2.2.2.2.1 ?_
                refine s_iconst (v := (nI 1)) hX zcdX5_pass_52.2.2.2.2.2.2.2 (by decide) ?_
                refine s_iadd hX zcdX5_pass_69.1 ?_
                refine s_puti (ty := .int) hX fX5_22 (oF hb) rfl (Nat.le_of_ble_eq_true rfl) ty_2_5 rfl rfl zcdX5_pass_69.2.1 ?_
                refine e_bndM h (fun M_3 h => ?_)
                refine s_iinc (k := 4) (v := (y4_13 + (nI 1))) (lv' := [(0, .ref (ad 21)), (1, .ref (ad b)), (2, .ref (ad c)), (3, .int v3), (4, .int (y4_13 + (nI 1)))]) hX zcdX5_pass_69.2.2.1 (congrArg (fun z => y4_13 + z) (by decide)) (by decide) rfl rfl ?_
                refine s_goto (tgt := 13) hX zcdX5_pass_69.2.2.2.1 (by decide) ?_
                exact ih13 M_3 (y4_13 + (nI 1)) h
              refine e_icmp_ge (tgt := 63) hX zcdX5_pass_20.2.2.2.2.2.2.2 (by decide) (m_ge (by decide +kernel)) h (fun h => ?_) (fun h => ?_)
              · refine s_loc [0, 1, 2, 3, 4] rfl ?_
                exact j63 h
              · refine s_aload_n (k := 1) hX zcdX5_pass_39.1 rfl rfl ?_
                refine s_get hX fX5_27 (oF hb) rfl zcdX5_pass_39.2.1 ?_
                refine s_iload (k := 5) hX zcdX5_pass_39.2.2.1 rfl ?_
                refine e_zald hX (aF4 hb) zcdX5_pass_39.2.2.2.1 h (fun h => ?_)
                refine e_if_eq (tgt := 57) hX zcdX5_pass_39.2.2.2.2.1 (by decide) z_eq h (fun h => ?_) (fun h => ?_)
                · refine s_iinc (k := 5) (v := (y5_32 + (nI 1))) (lv' := [(0, .ref (ad 21)), (1, .ref (ad b)), (2, .ref (ad c)), (3, .int v3), (4, .int y4_13), (5, .int (y5_32 + (nI 1)))]) hX zcdX5_pass_52.2.2.1 (congrArg (fun z => y5_32 + z) (by decide)) (by decide) rfl rfl ?_
                  refine s_goto (tgt := 32) hX zcdX5_pass_52.2.2.2.1 (by decide) ?_
                  exact ih32 M32 (y5_32 + (nI 1)) h
                · refine s_aload_n (k := 0) hX zcdX5_pass_39.2.2.2.2.2.1 rfl rfl ?_
                  refine s_aload_n (k := 1) hX zcdX5_pass_39.2.2.2.2.2.2.1 rfl rfl ?_
                  refine s_aload_n (k := 2) hX zcdX5_pass_39.2.2.2.2.2.2.2 rfl rfl ?_
                  refine s_iload (k := 5) hX zcdX5_pass_52.1 rfl ?_
                  refine e_callVv hX (t_X5_turn b hb c hc y5_32 M32) mX5_turn lX5_31 (by decide) (by decide) oC21 rfl rfl rfl rfl rfl (Nat.le_of_ble_eq_true rfl) zcdX5_pass_52.2.1 h (fun M_4 h => ?_)
                  refine s_iinc (k := 5) (v := (y5_32 + (nI 1))) (lv' := [(0, .ref (ad 21)), (1, .ref (ad b)), (2, .ref (ad c)), (3, .int v3), (4, .int y4_13), (5, .int (y5_32 + (nI 1)))]) hX zcdX5_pass_52.2.2.1 (congrArg (fun z => y5_32 + z) (by decide)) (by decide) rfl rfl ?_
                  refine s_goto (tgt := 32) hX zcdX5_pass_52.2.2.2.1 (by decide) ?_
                  exact ih32 M_4 (y5_32 + (nI 1)) h
          exact lp32 FU M13 (nI 0) h
  exact lp13 FU M_2 (nI 0) h
set_option maxHeartbeats 4000000 in
theorem t_X6_nearest (b : Nat) (hb : isF b) (v1 : Int32) (M : Mem) : AXp yX6_nearest cX6_nearest 4 (some .int) 2 60 glC (fun ad => [.ref (ad b), .int v1]) M (f_X6_nearest b M v1) := by
  intro r0 h
  refine AM.of (by decide) (fun _ => Nat.le_of_ble_eq_true rfl) (fun X ad cI cZ cB hX hR => ?_)
  show V X M [(0, .ref (ad b)), (1, .int v1)] [] 0
  refine s_iconst (v := (-1)) hX zcdX5_pass_69.2.2.2.2.2.1 (by decide) ?_
  refine s_istore_n (lv' := [(0, .ref (ad b)), (1, .int v1), (2, .int (-1))]) hX zcdX5_pass_69.2.2.2.2.2.2.1 rfl (by decide) rfl ?_
  refine s_iconst (v := (nI 0)) hX zcdX5_pass_69.2.2.2.2.2.2.2 (by decide) ?_
  refine s_istore_n (lv' := [(0, .ref (ad b)), (1, .int v1), (2, .int (-1)), (3, .int (nI 0))]) hX zcdX6_nearest_3.1 rfl (by decide) rfl ?_
  have lp4 : ∀ (N4 : Nat) (y2_4 : Int32) (y3_4 : Int32), wlp2 (f_X6_nearest_B4 b M v1) N4 y2_4 y3_4 = some r0 → V X M [(0, .ref (ad b)), (1, .int v1), (2, .int y2_4), (3, .int y3_4)] [] 4 := by
    intro N4
    induction N4 with
    | zero => exact fun _ _ h => e_none h
    | succ N4 ih4 =>
      intro y2_4 y3_4 h
      replace h : f_X6_nearest_B4 b M v1 (wlp2 (f_X6_nearest_B4 b M v1) N4) y2_4 y3_4 = some r0 := h
      generalize wlp2 (f_X6_nearest_B4 b M v1) N4 = ag4 at ih4 h
      refine s_iload_n (k := 3) hX zcdX6_nearest_3.2.1 rfl rfl ?_
      refine s_bipush (v := (nI 40)) hX zcdX6_nearest_3.2.2.1 (by decide) ?_
      refine e_icmp_ge (tgt := 60) hX zcdX6_nearest_3.2.2.2.1 (by decide) (m_ge (by decide +kernel)) h (fun h => ?_) (fun h => ?_)
      · refine s_iload_n (k := 2) hX zcdX6_nearest_60.1 rfl rfl ?_
        exact e_iretp hX hR zcdX6_nearest_60.2.1 h
      · refine s_aload_n (k := 0) hX zcdX6_nearest_3.2.2.2.2.1 rfl rfl ?_
        refine s_iload_n (k := 1) hX zcdX6_nearest_3.2.2.2.2.2.1 rfl rfl ?_
        refine e_callVp hX (t_X2_isTold b hb v1 M) mX2_isTold lX6_34 (by decide) (by decide) (oF hb) rfl rfl rfl rfl rfl (Nat.le_of_ble_eq_true rfl) zcdX6_nearest_3.2.2.2.2.2.2.1 h (fun r_1 h => ?_)
        refine e_if_eq (tgt := 60) hX zcdX6_nearest_3.2.2.2.2.2.2.2 (by decide) z_eq h (fun h => ?_) (fun h => ?_)
        · refine s_iload_n (k := 2) hX zcdX6_nearest_60.1 rfl rfl ?_
          exact e_iretp hX hR zcdX6_nearest_60.2.1 h
        · refine s_iload_n (k := 3) hX zcdX6_nearest_18.1 rfl rfl ?_
          refine s_iload_n (k := 1) hX zcdX6_nearest_18.2.1 rfl rfl ?_
          refine e_icmp_eq (tgt := 54) hX zcdX6_nearest_18.2.2.1 (by decide) r_eq h (fun h => ?_) (fun h => ?_)
          · refine s_iinc (k := 3) (v := (y3_4 + (nI 1))) (lv' := [(0, .ref (ad b)), (1, .int v1), (2, .int y2_4), (3, .int (y3_4 + (nI 1)))]) hX zcdX6_nearest_44.2.2.2.2.2.2.1 (congrArg (fun z => y3_4 + z) (by decide)) (by decide) rfl rfl ?_
            refine s_goto (tgt := 4) hX zcdX6_nearest_44.2.2.2.2.2.2.2 (by decide) ?_
            exact ih4 y2_4 (y3_4 + (nI 1)) h
          · refine s_aload_n (k := 0) hX zcdX6_nearest_18.2.2.2.1 rfl rfl ?_
            refine s_get hX fX6_21 (oF hb) rfl zcdX6_nearest_18.2.2.2.2.1 ?_
            refine s_iload_n (k := 3) hX zcdX6_nearest_18.2.2.2.2.2.1 rfl rfl ?_
            refine e_zald hX (aF4 hb) zcdX6_nearest_18.2.2.2.2.2.2.1 h (fun h => ?_)
            refine e_if_eq (tgt := 54) hX zcdX6_nearest_18.2.2.2.2.2.2.2 (by decide) z_eq h (fun h => ?_) (fun h => ?_)
            · refine s_iinc (k := 3) (v := (y3_4 + (nI 1))) (lv' := [(0, .ref (ad b)), (1, .int v1), (2, .int y2_4), (3, .int (y3_4 + (nI 1)))]) hX zcdX6_nearest_44.2.2.2.2.2.2.1 (congrArg (fun z => y3_4 + z) (by decide)) (by decide) rfl rfl ?_
              refine s_goto (tgt := 4) hX zcdX6_nearest_44.2.2.2.2.2.2.2 (by decide) ?_
              exact ih4 y2_4 (y3_4 + (nI 1)) h
            · refine s_iload_n (k := 2) hX zcdX6_nearest_32.1 rfl rfl ?_
              refine s_iconst (v := (-1)) hX zcdX6_nearest_32.2.1 (by decide) ?_
              refine e_icmp_eq (tgt := 52) hX zcdX6_nearest_32.2.2.1 (by decide) (m_eq (by decide +kernel)) h (fun h => ?_) (fun h => ?_)
              · refine s_iload_n (k := 3) hX zcdX6_nearest_44.2.2.2.2.1 rfl rfl ?_
                refine s_istore_n (lv' := [(0, .ref (ad b)), (1, .int v1), (3, .int y3_4), (2, .int y3_4)]) hX zcdX6_nearest_44.2.2.2.2.2.1 rfl (by decide) rfl ?_
                refine s_iinc (k := 2) (v := (y3_4 + (nI 1))) (lv' := [(0, .ref (ad b)), (1, .int v1), (2, .int y3_4), (3, .int (y3_4 + (nI 1)))]) hX zcdX6_nearest_44.2.2.2.2.2.2.1 (congrArg (fun z => y3_4 + z) (by decide)) (by decide) rfl rfl ?_
                refine s_goto (tgt := 4) hX zcdX6_nearest_44.2.2.2.2.2.2.2 (by decide) ?_
                exact ih4 y3_4 (y3_4 + (nI 1)) h
              · refine s_aload_n (k := 0) hX zcdX6_nearest_32.2.2.2.1 rfl rfl ?_
                refine s_iload_n (k := 1) hX zcdX6_nearest_32.2.2.2.2.1 rfl rfl ?_
                refine s_iload_n (k := 3) hX zcdX6_nearest_32.2.2.2.2.2.1 rfl rfl ?_
                refine e_callVp hX (t_X2_squares b hb v1 y3_4 M) mX2_squares lX6_52 (by decide) (by decide) (oF hb) rfl rfl rfl rfl rfl (Nat.le_of_ble_eq_true rfl) zcdX6_nearest_32.2.2.2.2.2.2.1 h (fun r_2 h => ?_)
                refine s_aload_n (k := 0) hX zcdX6_nearest_32.2.2.2.2.2.2.2 rfl rfl ?_
                refine s_iload_n (k := 1) hX zcdX6_nearest_44.1 rfl rfl ?_
                refine s_iload_n (k := 2) hX zcdX6_nearest_44.2.1 rfl rfl ?_
                refine e_callVp hX (t_X2_squares b hb v1 y2_4 M) mX2_squares lX6_52 (by decide) (by decide) (oF hb) rfl rfl rfl rfl rfl (Nat.le_of_ble_eq_true rfl) zcdX6_nearest_44.2.2.1 h (fun r_3 h => ?_)
                refine e_icmp_ge (tgt := 54) hX zcdX6_nearest_44.2.2.2.1 (by decide) r_le h (fun h => ?_) (fun h => ?_)
                · refine s_iinc (k := 3) (v := (y3_4 + (nI 1))) (lv' := [(0, .ref (ad b)), (1, .int v1), (2, .int y2_4), (3, .int (y3_4 + (nI 1)))]) hX zcdX6_nearest_44.2.2.2.2.2.2.1 (congrArg (fun z => y3_4 + z) (by decide)) (by decide) rfl rfl ?_
                  refine s_goto (tgt := 4) hX zcdX6_nearest_44.2.2.2.2.2.2.2 (by decide) ?_
                  exact ih4 y2_4 (y3_4 + (nI 1)) h
                · refine s_iload_n (k := 3) hX zcdX6_nearest_44.2.2.2.2.1 rfl rfl ?_
                  refine s_istore_n (lv' := [(0, .ref (ad b)), (1, .int v1), (3, .int y3_4), (2, .int y3_4)]) hX zcdX6_nearest_44.2.2.2.2.2.1 rfl (by decide) rfl ?_
                  refine s_iinc (k := 2) (v := (y3_4 + (nI 1))) (lv' := [(0, .ref (ad b)), (1, .int v1), (2, .int y3_4), (3, .int (y3_4 + (nI 1)))]) hX zcdX6_nearest_44.2.2.2.2.2.2.1 (congrArg (fun z => y3_4 + z) (by decide)) (by decide) rfl rfl ?_
                  refine s_goto (tgt := 4) hX zcdX6_nearest_44.2.2.2.2.2.2.2 (by decide) ?_
                  exact ih4 y3_4 (y3_4 + (nI 1)) h
  exact lp4 FU (-1) (nI 0) h
set_option maxHeartbeats 4000000 in
theorem t_X6_closest (b : Nat) (hb : isF b) (M : Mem) : AXp yX6_closest cX6_closest 4 (some .int) 3 60 glC (fun ad => [.ref (ad b)]) M (f_X6_closest b M) := by
  intro r0 h
  refine AM.of (by decide) (fun _ => Nat.le_of_ble_eq_true rfl) (fun X ad cI cZ cB hX hR => ?_)
  show V X M [(0, .ref (ad b))] [] 0
  refine s_bipush (v := (-2)) hX zcdX6_nearest_60.2.2.1 (by decide) ?_
  refine s_istore_n (lv' := [(0, .ref (ad b)), (1, .int (-2))]) hX zcdX6_nearest_60.2.2.2.1 rfl (by decide) rfl ?_
  refine s_iconst (v := (nI 0)) hX zcdX6_nearest_60.2.2.2.2.1 (by decide) ?_
  refine s_istore_n (lv' := [(0, .ref (ad b)), (1, .int (-2)), (2, .int (nI 0))]) hX zcdX6_nearest_60.2.2.2.2.2.1 rfl (by decide) rfl ?_
  have lp5 : ∀ (N5 : Nat) (y1_5 : Int32) (y2_5 : Int32), wlp2 (f_X6_closest_B5 b M) N5 y1_5 y2_5 = some r0 → V X M [(0, .ref (ad b)), (1, .int y1_5), (2, .int y2_5)] [] 5 := by
    intro N5
    induction N5 with
    | zero => exact fun _ _ h => e_none h
    | succ N5 ih5 =>
      intro y1_5 y2_5 h
      replace h : f_X6_closest_B5 b M (wlp2 (f_X6_closest_B5 b M) N5) y1_5 y2_5 = some r0 := h
      generalize wlp2 (f_X6_closest_B5 b M) N5 = ag5 at ih5 h
      refine s_iload_n (k := 2) hX zcdX6_nearest_60.2.2.2.2.2.2.1 rfl rfl ?_
      refine s_bipush (v := (nI 40)) hX zcdX6_nearest_60.2.2.2.2.2.2.2 (by decide) ?_
      refine e_icmp_ge (tgt := 51) hX zcdX6_closest_8.1 (by decide) (m_ge (by decide +kernel)) h (fun h => ?_) (fun h => ?_)
      · refine s_iload_n (k := 1) hX zcdX6_closest_51.1 rfl rfl ?_
        exact e_iretp hX hR zcdX6_closest_51.2.1 h
      · refine s_aload_n (k := 0) hX zcdX6_closest_8.2.1 rfl rfl ?_
        refine s_iload_n (k := 2) hX zcdX6_closest_8.2.2.1 rfl rfl ?_
        refine e_callSp hX (t_X6_nearest b hb y2_5 M) mX6_nearest lX6_48 (by decide) (by decide) rfl rfl (Nat.le_of_ble_eq_true rfl) zcdX6_closest_8.2.2.2.1 h (fun r_1 h => ?_)
        refine s_istore_n (lv' := [(0, .ref (ad b)), (1, .int y1_5), (2, .int y2_5), (3, .int r_1)]) hX zcdX6_closest_8.2.2.2.2.1 rfl (by decide) rfl ?_
        refine s_iload_n (k := 3) hX zcdX6_closest_8.2.2.2.2.2.1 rfl rfl ?_
        refine s_iconst (v := (-1)) hX zcdX6_closest_8.2.2.2.2.2.2.1 (by decide) ?_
        refine e_icmp_eq (tgt := 45) hX zcdX6_closest_8.2.2.2.2.2.2.2 (by decide) (m_eq (by decide +kernel)) h (fun h => ?_) (fun h => ?_)
        · refine s_iinc (k := 2) (v := (y2_5 + (nI 1))) (lv' := [(0, .ref (ad b)), (1, .int y1_5), (3, .int r_1), (2, .int (y2_5 + (nI 1)))]) hX zcdX6_closest_35.2.2.2.2.2.2.1 (congrArg (fun z => y2_5 + z) (by decide)) (by decide) rfl rfl ?_
          refine s_goto (tgt := 5) hX zcdX6_closest_35.2.2.2.2.2.2.2 (by decide) ?_
          refine s_loc [0, 1, 3] rfl ?_
          exact ih5 y1_5 (y2_5 + (nI 1)) h
        · refine s_iload_n (k := 1) hX zcdX6_closest_22.1 rfl rfl ?_
          refine s_bipush (v := (-2)) hX zcdX6_closest_22.2.1 (by decide) ?_
          have j38 : f_X6_closest_L38 b M ag5 y2_5 r_1 = some r0 → V X M [(0, .ref (ad b)), (2, .int y2_5), (3, .int r_1)] [] 38 := by
            intro  h
            refine s_aload_n (k := 0) hX zcdX6_closest_35.2.1 rfl rfl ?_
            refine s_iload_n (k := 1) hX zcdX6_closest_35.2.2.1 rfl rfl ?_
            refine s_iload_n (k := 2) hX zcdX6_closest_35.2.2.2.1 rfl rfl ?_
            refine e_callVp hX (t_X2_squares b hb y2_5 r_1 M) mX2_squares lX6_52 (by decide) (by decide) (oF hb) rfl rfl rfl rfl rfl (Nat.le_of_ble_eq_true rfl) zcdX6_closest_35.2.2.2.2.1 h (fun r_2 h => ?_)
            refine s_istore_n (lv' := [(0, .ref (ad b)), (2, .int y2_5), (3, .int r_1), (1, .int r_2)]) hX zcdX6_closest_35.2.2.2.2.2.1 rfl (by decide) rfl ?_
            refine s_iinc (k := 1) (v := (y2_5 + (nI 1))) (lv' := [(0, .ref (ad b)), (3, .int r_1), (1, .int r_2), (2, .int (y2_5 + (nI 1)))]) hX zcdX6_closest_35.2.2.2.2.2.2.1 (congrArg (fun z => y2_5 + z) (by decide)) (by decide) rfl rfl ?_
            refine s_goto (tgt := 5) hX zcdX6_closest_35.2.2.2.2.2.2.2 (by decide) ?_
            refine s_loc [0, 2, 3] rfl ?_
            exact ih5 r_2 (y2_5 + (nI 1)) h
          refine e_icmp_eq (tgt := 38) hX zcdX6_closest_22.2.2.1 (by decide) (m_eq (by decide +kernel)) h (fun h => ?_) (fun h => ?_)
          · refine s_loc [0, 2, 3] rfl ?_
            exact j38 h
          · refine s_aload_n (k := 0) hX zcdX6_closest_22.2.2.2.1 rfl rfl ?_
            refine s_iload_n (k := 2) hX zcdX6_closest_22.2.2.2.2.1 rfl rfl ?_
            refine s_iload_n (k := 3) hX zcdX6_closest_22.2.2.2.2.2.1 rfl rfl ?_
            refine e_callVp hX (t_X2_squares b hb y2_5 r_1 M) mX2_squares lX6_52 (by decide) (by decide) (oF hb) rfl rfl rfl rfl rfl (Nat.le_of_ble_eq_true rfl) zcdX6_closest_22.2.2.2.2.2.2.1 h (fun r_3 h => ?_)
            refine s_iload_n (k := 1) hX zcdX6_closest_22.2.2.2.2.2.2.2 rfl rfl ?_
            refine e_icmp_ge (tgt := 45) hX zcdX6_closest_35.1 (by decide) r_le h (fun h => ?_) (fun h => ?_)
            · refine s_iinc (k := 2) (v := (y2_5 + (nI 1))) (lv' := [(0, .ref (ad b)), (1, .int y1_5), (3, .int r_1), (2, .int (y2_5 + (nI 1)))]) hX zcdX6_closest_35.2.2.2.2.2.2.1 (congrArg (fun z => y2_5 + z) (by decide)) (by decide) rfl rfl ?_
              refine s_goto (tgt := 5) hX zcdX6_closest_35.2.2.2.2.2.2.2 (by decide) ?_
              refine s_loc [0, 1, 3] rfl ?_
              exact ih5 y1_5 (y2_5 + (nI 1)) h
            · refine s_loc [0, 2, 3] rfl ?_
              exact j38 h
  exact lp5 FU (-2) (nI 0) h
set_option maxHeartbeats 4000000 in
theorem t_X6_countOnLine (b : Nat) (hb : isF b) (v1 : Int32) (v2 : Int32) (M : Mem) : AXp yX6_countOnLine cX6_countOnLine 7 (some .int) 1 60 glC (fun ad => [.ref (ad b), .int v1, .int v2]) M (f_X6_countOnLine b M v1 v2) := by
  intro r0 h
  refine AM.of (by decide) (fun _ => Nat.le_of_ble_eq_true rfl) (fun X ad cI cZ cB hX hR => ?_)
  show V X M [(0, .ref (ad b)), (1, .int v1), (2, .int v2)] [] 0
  refine s_aload_n (k := 0) hX zcdX6_closest_51.2.2.1 rfl rfl ?_
  refine s_iload_n (k := 1) hX zcdX6_closest_51.2.2.2.1 rfl rfl ?_
  refine e_callVp hX (t_X2_isTold b hb v1 M) mX2_isTold lX6_34 (by decide) (by decide) (oF hb) rfl rfl rfl rfl rfl (Nat.le_of_ble_eq_true rfl) zcdX6_closest_51.2.2.2.2.1 h (fun r_1 h => ?_)
  refine e_if_eq (tgt := 16) hX zcdX6_closest_51.2.2.2.2.2.1 (by decide) z_eq h (fun h => ?_) (fun h => ?_)
  · refine s_iconst (v := (nI 0)) hX zcdX6_countOnLine_10.2.2.1 (by decide) ?_
    exact e_iretp hX hR zcdX6_countOnLine_10.2.2.2.1 h
  · refine s_aload_n (k := 0) hX zcdX6_closest_51.2.2.2.2.2.2.1 rfl rfl ?_
    refine s_iload_n (k := 2) hX zcdX6_closest_51.2.2.2.2.2.2.2 rfl rfl ?_
    refine e_callVp hX (t_X2_isTold b hb v2 M) mX2_isTold lX6_34 (by decide) (by decide) (oF hb) rfl rfl rfl rfl rfl (Nat.le_of_ble_eq_true rfl) zcdX6_countOnLine_10.1 h (fun r_2 h => ?_)
    refine e_if_ne (tgt := 18) hX zcdX6_countOnLine_10.2.1 (by decide) z_eq h (fun h => ?_) (fun h => ?_)
    · refine s_aload_n (k := 0) hX zcdX6_countOnLine_10.2.2.2.2.1 rfl rfl ?_
      refine s_get hX fX6_38 (oF hb) rfl zcdX6_countOnLine_10.2.2.2.2.2.1 ?_
      refine s_iload_n (k := 2) hX zcdX6_countOnLine_10.2.2.2.2.2.2.1 rfl rfl ?_
      refine e_iald hX (aF1 hb) zcdX6_countOnLine_10.2.2.2.2.2.2.2 h (fun h => ?_)
      refine s_aload_n (k := 0) hX zcdX6_countOnLine_24.1 rfl rfl ?_
      refine s_get hX fX6_38 (oF hb) rfl zcdX6_countOnLine_24.2.1 ?_
      refine s_iload_n (k := 1) hX zcdX6_countOnLine_24.2.2.1 rfl rfl ?_
      refine e_iald hX (aF1 hb) zcdX6_countOnLine_24.2.2.2.1 h (fun h => ?_)
      refine s_isub hX zcdX6_countOnLine_24.2.2.2.2.1 ?_
      refine e_bnd h (fun x_3 h => ?_)
      refine s_istore_n (lv' := [(0, .ref (ad b)), (1, .int v1), (2, .int v2), (3, .int x_3)]) hX zcdX6_countOnLine_24.2.2.2.2.2.1 rfl (by decide) rfl ?_
      refine s_aload_n (k := 0) hX zcdX6_countOnLine_24.2.2.2.2.2.2.1 rfl rfl ?_
      refine s_get hX fX6_42 (oF hb) rfl zcdX6_countOnLine_24.2.2.2.2.2.2.2 ?_
      refine s_iload_n (k := 2) hX zcdX6_countOnLine_36.1 rfl rfl ?_
      refine e_iald hX (aF2 hb) zcdX6_countOnLine_36.2.1 h (fun h => ?_)
      refine s_aload_n (k := 0) hX zcdX6_countOnLine_36.2.2.1 rfl rfl ?_
      refine s_get hX fX6_42 (oF hb) rfl zcdX6_countOnLine_36.2.2.2.1 ?_
      refine s_iload_n (k := 1) hX zcdX6_countOnLine_36.2.2.2.2.1 rfl rfl ?_
      refine e_iald hX (aF2 hb) zcdX6_countOnLine_36.2.2.2.2.2.1 h (fun h => ?_)
      refine s_isub hX zcdX6_countOnLine_36.2.2.2.2.2.2.1 ?_
      refine e_bnd h (fun x_4 h => ?_)
      refine s_istore (lv' := [(0, .ref (ad b)), (1, .int v1), (2, .int v2), (3, .int x_3), (4, .int x_4)]) hX zcdX6_countOnLine_36.2.2.2.2.2.2.2 (by decide) rfl ?_
      refine s_iconst (v := (nI 0)) hX zcdX6_countOnLine_47.1 (by decide) ?_
      refine s_istore (lv' := [(0, .ref (ad b)), (1, .int v1), (2, .int v2), (3, .int x_3), (4, .int x_4), (5, .int (nI 0))]) hX zcdX6_countOnLine_47.2.1 (by decide) rfl ?_
      refine s_iconst (v := (nI 0)) hX zcdX6_countOnLine_47.2.2.1 (by decide) ?_
      refine s_istore (lv' := [(0, .ref (ad b)), (1, .int v1), (2, .int v2), (3, .int x_3), (4, .int x_4), (5, .int (nI 0)), (6, .int (nI 0))]) hX zcdX6_countOnLine_47.2.2.2.1 (by decide) rfl ?_
      have lp53 : ∀ (N53 : Nat) (y5_53 : Int32) (y6_53 : Int32), wlp2 (f_X6_countOnLine_B53 b M v1 x_3 x_4) N53 y5_53 y6_53 = some r0 → V X M [(0, .ref (ad b)), (1, .int v1), (3, .int x_3), (4, .int x_4), (5, .int y5_53), (6, .int y6_53)] [] 53 := by
        intro N53
        induction N53 with
        | zero => exact fun _ _ h => e_none h
        | succ N53 ih53 =>
          intro y5_53 y6_53 h
          replace h : f_X6_countOnLine_B53 b M v1 x_3 x_4 (wlp2 (f_X6_countOnLine_B53 b M v1 x_3 x_4) N53) y5_53 y6_53 = some r0 := h
          generalize wlp2 (f_X6_countOnLine_B53 b M v1 x_3 x_4) N53 = ag53 at ih53 h
          refine s_iload (k := 5) hX zcdX6_countOnLine_47.2.2.2.2.1 rfl ?_
          refine s_bipush (v := (nI 40)) hX zcdX6_countOnLine_47.2.2.2.2.2.1 (by decide) ?_
          refine e_icmp_ge (tgt := 115) hX zcdX6_countOnLine_47.2.2.2.2.2.2.1 (by decide) (m_ge (by decide +kernel)) h (fun h => ?_) (fun h => ?_)
          · refine s_iload (k := 4) hX zcdX6_countOnLine_101.2.2.2.2.2.2.1 rfl ?_
            exact e_iretp hX hR zcdX6_countOnLine_101.2.2.2.2.2.2.2 h
          · refine s_aload_n (k := 0) hX zcdX6_countOnLine_47.2.2.2.2.2.2.2 rfl rfl ?_
            refine s_get hX fX6_21 (oF hb) rfl zcdX6_countOnLine_61.1 ?_
            refine s_iload (k := 5) hX zcdX6_countOnLine_61.2.1 rfl ?_
            refine e_zald hX (aF4 hb) zcdX6_countOnLine_61.2.2.1 h (fun h => ?_)
            refine e_if_eq (tgt := 109) hX zcdX6_countOnLine_61.2.2.2.1 (by decide) z_eq h (fun h => ?_) (fun h => ?_)
            · refine s_iinc (k := 5) (v := (y6_53 + (nI 1))) (lv' := [(0, .ref (ad b)), (1, .int v1), (3, .int x_3), (4, .int x_4), (5, .int y5_53), (6, .int (y6_53 + (nI 1)))]) hX zcdX6_countOnLine_101.2.2.2.2.1 (congrArg (fun z => y6_53 + z) (by decide)) (by decide) rfl rfl ?_
              refine s_goto (tgt := 53) hX zcdX6_countOnLine_101.2.2.2.2.2.1 (by decide) ?_
              exact ih53 y5_53 (y6_53 + (nI 1)) h
            · refine s_iload_n (k := 2) hX zcdX6_countOnLine_61.2.2.2.2.1 rfl rfl ?_
              refine s_aload_n (k := 0) hX zcdX6_countOnLine_61.2.2.2.2.2.1 rfl rfl ?_
              refine s_get hX fX6_42 (oF hb) rfl zcdX6_countOnLine_61.2.2.2.2.2.2.1 ?_
              refine s_iload (k := 5) hX zcdX6_countOnLine_61.2.2.2.2.2.2.2 rfl ?_
              refine e_iald hX (aF2 hb) zcdX6_countOnLine_77.1 h (fun h => ?_)
              refine s_aload_n (k := 0) hX zcdX6_countOnLine_77.2.1 rfl rfl ?_
              refine s_get hX fX6_42 (oF hb) rfl zcdX6_countOnLine_77.2.2.1 ?_
              refine s_iload_n (k := 1) hX zcdX6_countOnLine_77.2.2.2.1 rfl rfl ?_
              refine e_iald hX (aF2 hb) zcdX6_countOnLine_77.2.2.2.2.1 h (fun h => ?_)
              refine s_isub hX zcdX6_countOnLine_77.2.2.2.2.2.1 ?_
              refine s_imul hX zcdX6_countOnLine_77.2.2.2.2.2.2.1 ?_
              refine s_iload (k := 3) hX zcdX6_countOnLine_77.2.2.2.2.2.2.2 rfl ?_
              refine s_aload_n (k := 0) hX zcdX6_countOnLine_88.1 rfl rfl ?_
              refine s_get hX fX6_38 (oF hb) rfl zcdX6_countOnLine_88.2.1 ?_
              refine s_iload (k := 5) hX zcdX6_countOnLine_88.2.2.1 rfl ?_
              refine e_iald hX (aF1 hb) zcdX6_countOnLine_88.2.2.2.1 h (fun h => ?_)
              refine s_aload_n (k := 0) hX zcdX6_countOnLine_88.2.2.2.2.1 rfl rfl ?_
              refine s_get hX fX6_38 (oF hb) rfl zcdX6_countOnLine_88.2.2.2.2.2.1 ?_
              refine s_iload_n (k := 1) hX zcdX6_countOnLine_88.2.2.2.2.2.2.1 rfl rfl ?_
              refine e_iald hX (aF1 hb) zcdX6_countOnLine_88.2.2.2.2.2.2.2 h (fun h => ?_)
              refine s_isub hX zcdX6_countOnLine_101.1 ?_
              refine s_imul hX zcdX6_countOnLine_101.2.1 ?_
              refine e_icmp_ne (tgt := 109) hX zcdX6_countOnLine_101.2.2.1 (by decide) r_eq h (fun h => ?_) (fun h => ?_)
              · refine s_iinc (k := 5) (v := (y6_53 + (nI 1))) (lv' := [(0, .ref (ad b)), (1, .int v1), (3, .int x_3), (4, .int x_4), (5, .int y5_53), (6, .int (y6_53 + (nI 1)))]) hX zcdX6_countOnLine_101.2.2.2.2.1 (congrArg (fun z => y6_53 + z) (by decide)) (by decide) rfl rfl ?_
                refine s_goto (tgt := 53) hX zcdX6_countOnLine_101.2.2.2.2.2.1 (by decide) ?_
                exact ih53 y5_53 (y6_53 + (nI 1)) h
              · refine s_iinc (k := 4) (v := (y5_53 + (nI 1))) (lv' := [(0, .ref (ad b)), (1, .int v1), (3, .int x_3), (4, .int x_4), (6, .int y6_53), (5, .int (y5_53 + (nI 1)))]) hX zcdX6_countOnLine_101.2.2.2.1 (congrArg (fun z => y5_53 + z) (by decide)) (by decide) rfl rfl ?_
                refine s_iinc (k := 4) (v := (y6_53 + (nI 1))) (lv' := [(0, .ref (ad b)), (1, .int v1), (3, .int x_3), (4, .int x_4), (5, .int (y5_53 + (nI 1))), (6, .int (y6_53 + (nI 1)))]) hX zcdX6_countOnLine_101.2.2.2.2.1 (congrArg (fun z => y6_53 + z) (by decide)) (by decide) rfl rfl ?_
                refine s_goto (tgt := 53) hX zcdX6_countOnLine_101.2.2.2.2.2.1 (by decide) ?_
                exact ih53 (y5_53 + (nI 1)) (y6_53 + (nI 1)) h
      refine s_loc [0, 1, 3, 4, 5, 6] rfl ?_
      exact lp53 FU (nI 0) (nI 0) h
    · refine s_iconst (v := (nI 0)) hX zcdX6_countOnLine_10.2.2.1 (by decide) ?_
      exact e_iretp hX hR zcdX6_countOnLine_10.2.2.2.1 h
set_option maxHeartbeats 4000000 in
theorem t_X6_line (b : Nat) (hb : isF b) (M : Mem) : AXp yX6_line cX6_line 4 (some .int) 2 60 glC (fun ad => [.ref (ad b)]) M (f_X6_line b M) := by
  intro r0 h
  refine AM.of (by decide) (fun _ => Nat.le_of_ble_eq_true rfl) (fun X ad cI cZ cB hX hR => ?_)
  show V X M [(0, .ref (ad b))] [] 0
  refine s_iconst (v := (nI 2)) hX zcdX6_line_0.1 (by decide) ?_
  refine s_aload_n (k := 0) hX zcdX6_line_0.2.1 rfl rfl ?_
  refine e_callVp hX (t_X2_countTold b hb M) mX2_countTold lX6_9 (by decide) (by decide) (oF hb) rfl rfl rfl rfl rfl (Nat.le_of_ble_eq_true rfl) zcdX6_line_0.2.2.1 h (fun r_1 h => ?_)
  refine e_mmin hX lX6_15 mJ9_min (by omega) (Nat.le_of_ble_eq_true rfl) zcdX6_line_0.2.2.2.1 ?_
  refine e_bnd h (fun x_2 h => ?_)
  refine s_istore_n (lv' := [(0, .ref (ad b)), (1, .int x_2)]) hX zcdX6_line_0.2.2.2.2.1 rfl (by decide) rfl ?_
  refine s_iconst (v := (nI 0)) hX zcdX6_line_0.2.2.2.2.2.1 (by decide) ?_
  refine s_istore_n (lv' := [(0, .ref (ad b)), (1, .int x_2), (2, .int (nI 0))]) hX zcdX6_line_0.2.2.2.2.2.2.1 rfl (by decide) rfl ?_
  have lp11 : ∀ (N11 : Nat) (y1_11 : Int32) (y2_11 : Int32), wlp2 (f_X6_line_B11 b M) N11 y1_11 y2_11 = some r0 → V X M [(0, .ref (ad b)), (1, .int y1_11), (2, .int y2_11)] [] 11 := by
    intro N11
    induction N11 with
    | zero => exact fun _ _ h => e_none h
    | succ N11 ih11 =>
      intro y1_11 y2_11 h
      replace h : f_X6_line_B11 b M (wlp2 (f_X6_line_B11 b M) N11) y1_11 y2_11 = some r0 := h
      generalize wlp2 (f_X6_line_B11 b M) N11 = ag11 at ih11 h
      refine s_iload_n (k := 2) hX zcdX6_line_0.2.2.2.2.2.2.2 rfl rfl ?_
      refine s_bipush (v := (nI 40)) hX zcdX6_line_12.1 (by decide) ?_
      refine e_icmp_ge (tgt := 68) hX zcdX6_line_12.2.1 (by decide) (m_ge (by decide +kernel)) h (fun h => ?_) (fun h => ?_)
      · refine s_iload_n (k := 1) hX zcdX6_line_52.2.2.2.2.2.2.1 rfl rfl ?_
        exact e_iretp hX hR zcdX6_line_52.2.2.2.2.2.2.2 h
      · refine s_iload_n (k := 2) hX zcdX6_line_12.2.2.1 rfl rfl ?_
        refine s_iconst (v := (nI 1)) hX zcdX6_line_12.2.2.2.1 (by decide) ?_
        refine s_iadd hX zcdX6_line_12.2.2.2.2.1 ?_
        refine s_istore_n (lv' := [(0, .ref (ad b)), (1, .int y1_11), (2, .int y2_11), (3, .int (y2_11 + (nI 1)))]) hX zcdX6_line_12.2.2.2.2.2.1 rfl (by decide) rfl ?_
        have lp21 : ∀ (N21 : Nat) (y1_21 : Int32) (y3_21 : Int32), wlp2 (f_X6_line_B21 b M ag11 y2_11) N21 y1_21 y3_21 = some r0 → V X M [(0, .ref (ad b)), (1, .int y1_21), (2, .int y2_11), (3, .int y3_21)] [] 21 := by
          intro N21
          induction N21 with
          | zero => exact fun _ _ h => e_none h
          | succ N21 ih21 =>
            intro y1_21 y3_21 h
            replace h : f_X6_line_B21 b M ag11 y2_11 (wlp2 (f_X6_line_B21 b M ag11 y2_11) N21) y1_21 y3_21 = some r0 := h
            generalize wlp2 (f_X6_line_B21 b M ag11 y2_11) N21 = ag21 at ih21 h
            refine s_iload_n (k := 3) hX zcdX6_line_12.2.2.2.2.2.2.1 rfl rfl ?_
            refine s_bipush (v := (nI 40)) hX zcdX6_line_12.2.2.2.2.2.2.2 (by decide) ?_
            refine e_icmp_ge (tgt := 62) hX zcdX6_line_24.1 (by decide) (m_ge (by decide +kernel)) h (fun h => ?_) (fun h => ?_)
            · refine s_iinc (k := 2) (v := (y2_11 + (nI 1))) (lv' := [(0, .ref (ad b)), (1, .int y1_21), (3, .int y3_21), (2, .int (y2_11 + (nI 1)))]) hX zcdX6_line_52.2.2.2.2.1 (congrArg (fun z => y2_11 + z) (by decide)) (by decide) rfl rfl ?_
              refine s_goto (tgt := 11) hX zcdX6_line_52.2.2.2.2.2.1 (by decide) ?_
              refine s_loc [0, 1, 3] rfl ?_
              exact ih11 y1_21 (y2_11 + (nI 1)) h
            · refine s_aload_n (k := 0) hX zcdX6_line_24.2.1 rfl rfl ?_
              refine s_get hX fX6_21 (oF hb) rfl zcdX6_line_24.2.2.1 ?_
              refine s_iload_n (k := 2) hX zcdX6_line_24.2.2.2.1 rfl rfl ?_
              refine e_zald hX (aF4 hb) zcdX6_line_24.2.2.2.2.1 h (fun h => ?_)
              refine e_if_eq (tgt := 56) hX zcdX6_line_24.2.2.2.2.2.1 (by decide) z_eq h (fun h => ?_) (fun h => ?_)
              · refine s_iinc (k := 3) (v := (y3_21 + (nI 1))) (lv' := [(0, .ref (ad b)), (1, .int y1_21), (2, .int y2_11), (3, .int (y3_21 + (nI 1)))]) hX zcdX6_line_52.2.2.1 (congrArg (fun z => y3_21 + z) (by decide)) (by decide) rfl rfl ?_
                refine s_goto (tgt := 21) hX zcdX6_line_52.2.2.2.1 (by decide) ?_
                exact ih21 y1_21 (y3_21 + (nI 1)) h
              · refine s_aload_n (k := 0) hX zcdX6_line_24.2.2.2.2.2.2.1 rfl rfl ?_
                refine s_get hX fX6_21 (oF hb) rfl zcdX6_line_24.2.2.2.2.2.2.2 ?_
                refine s_iload_n (k := 3) hX zcdX6_line_40.1 rfl rfl ?_
                refine e_zald hX (aF4 hb) zcdX6_line_40.2.1 h (fun h => ?_)
                refine e_if_eq (tgt := 56) hX zcdX6_line_40.2.2.1 (by decide) z_eq h (fun h => ?_) (fun h => ?_)
                · refine s_iinc (k := 3) (v := (y3_21 + (nI 1))) (lv' := [(0, .ref (ad b)), (1, .int y1_21), (2, .int y2_11), (3, .int (y3_21 + (nI 1)))]) hX zcdX6_line_52.2.2.1 (congrArg (fun z => y3_21 + z) (by decide)) (by decide) rfl rfl ?_
                  refine s_goto (tgt := 21) hX zcdX6_line_52.2.2.2.1 (by decide) ?_
                  exact ih21 y1_21 (y3_21 + (nI 1)) h
                · refine s_iload_n (k := 1) hX zcdX6_line_40.2.2.2.1 rfl rfl ?_
                  refine s_aload_n (k := 0) hX zcdX6_line_40.2.2.2.2.1 rfl rfl ?_
                  refine s_iload_n (k := 2) hX zcdX6_line_40.2.2.2.2.2.1 rfl rfl ?_
                  refine s_iload_n (k := 3) hX zcdX6_line_40.2.2.2.2.2.2.1 rfl rfl ?_
                  refine e_callSp hX (t_X6_countOnLine b hb y2_11 y3_21 M) mX6_countOnLine lX6_25 (by decide) (by decide) rfl rfl (Nat.le_of_ble_eq_true rfl) zcdX6_line_40.2.2.2.2.2.2.2 h (fun r_3 h => ?_)
                  refine e_mmax hX lX6_31 mJ9_max (by omega) (Nat.le_of_ble_eq_true rfl) zcdX6_line_52.1 ?_
                  refine e_bnd h (fun x_4 h => ?_)
                  refine s_istore_n (lv' := [(0, .ref (ad b)), (2, .int y2_11), (3, .int y3_21), (1, .int x_4)]) hX zcdX6_line_52.2.1 rfl (by decide) rfl ?_
                  refine s_iinc (k := 2) (v := (y3_21 + (nI 1))) (lv' := [(0, .ref (ad b)), (2, .int y2_11), (1, .int x_4), (3, .int (y3_21 + (nI 1)))]) hX zcdX6_line_52.2.2.1 (congrArg (fun z => y3_21 + z) (by decide)) (by decide) rfl rfl ?_
                  refine s_goto (tgt := 21) hX zcdX6_line_52.2.2.2.1 (by decide) ?_
                  refine s_loc [0, 2, 1, 3] rfl ?_
                  exact ih21 x_4 (y3_21 + (nI 1)) h
        exact lp21 FU y1_11 (y2_11 + (nI 1)) h
  exact lp11 FU x_2 (nI 0) h
set_option maxHeartbeats 4000000 in
theorem t_X6_pairs (b : Nat) (hb : isF b) (M : Mem) : AXp yX6_pairs cX6_pairs 4 (some .int) 3 60 glC (fun ad => [.ref (ad b)]) M (f_X6_pairs b M) := by
  intro r0 h
  refine AM.of (by decide) (fun _ => Nat.le_of_ble_eq_true rfl) (fun X ad cI cZ cB hX hR => ?_)
  show V X M [(0, .ref (ad b))] [] 0
  refine s_iconst (v := (nI 0)) hX zcdX6_pairs_0.1 (by decide) ?_
  refine s_istore_n (lv' := [(0, .ref (ad b)), (1, .int (nI 0))]) hX zcdX6_pairs_0.2.1 rfl (by decide) rfl ?_
  refine s_iconst (v := (nI 0)) hX zcdX6_pairs_0.2.2.1 (by decide) ?_
  refine s_istore_n (lv' := [(0, .ref (ad b)), (1, .int (nI 0)), (2, .int (nI 0))]) hX zcdX6_pairs_0.2.2.2.1 rfl (by decide) rfl ?_
  have lp4 : ∀ (N4 : Nat) (y1_4 : Int32) (y2_4 : Int32), wlp2 (f_X6_pairs_B4 b M) N4 y1_4 y2_4 = some r0 → V X M [(0, .ref (ad b)), (1, .int y1_4), (2, .int y2_4)] [] 4 := by
    intro N4
    induction N4 with
    | zero => exact fun _ _ h => e_none h
    | succ N4 ih4 =>
      intro y1_4 y2_4 h
      replace h : f_X6_pairs_B4 b M (wlp2 (f_X6_pairs_B4 b M) N4) y1_4 y2_4 = some r0 := h
      generalize wlp2 (f_X6_pairs_B4 b M) N4 = ag4 at ih4 h
      refine s_iload_n (k := 2) hX zcdX6_pairs_0.2.2.2.2.1 rfl rfl ?_
      refine s_bipush (v := (nI 40)) hX zcdX6_pairs_0.2.2.2.2.2.1 (by decide) ?_
      refine e_icmp_ge (tgt := 39) hX zcdX6_pairs_0.2.2.2.2.2.2.1 (by decide) (m_ge (by decide +kernel)) h (fun h => ?_) (fun h => ?_)
      · refine s_iload_n (k := 1) hX zcdX6_pairs_23.2.2.2.2.2.2.1 rfl rfl ?_
        exact e_iretp hX hR zcdX6_pairs_23.2.2.2.2.2.2.2 h
      · refine s_aload_n (k := 0) hX zcdX6_pairs_0.2.2.2.2.2.2.2 rfl rfl ?_
        refine s_iload_n (k := 2) hX zcdX6_pairs_11.1 rfl rfl ?_
        refine e_callSp hX (t_X6_nearest b hb y2_4 M) mX6_nearest lX6_48 (by decide) (by decide) rfl rfl (Nat.le_of_ble_eq_true rfl) zcdX6_pairs_11.2.1 h (fun r_1 h => ?_)
        refine s_istore_n (lv' := [(0, .ref (ad b)), (1, .int y1_4), (2, .int y2_4), (3, .int r_1)]) hX zcdX6_pairs_11.2.2.1 rfl (by decide) rfl ?_
        refine s_iload_n (k := 3) hX zcdX6_pairs_11.2.2.2.1 rfl rfl ?_
        refine s_iload_n (k := 2) hX zcdX6_pairs_11.2.2.2.2.1 rfl rfl ?_
        refine e_icmp_le (tgt := 33) hX zcdX6_pairs_11.2.2.2.2.2.1 (by decide) r_le h (fun h => ?_) (fun h => ?_)
        · refine s_iinc (k := 2) (v := (y2_4 + (nI 1))) (lv' := [(0, .ref (ad b)), (1, .int y1_4), (3, .int r_1), (2, .int (y2_4 + (nI 1)))]) hX zcdX6_pairs_23.2.2.2.2.1 (congrArg (fun z => y2_4 + z) (by decide)) (by decide) rfl rfl ?_
          refine s_goto (tgt := 4) hX zcdX6_pairs_23.2.2.2.2.2.1 (by decide) ?_
          refine s_loc [0, 1, 3] rfl ?_
          exact ih4 y1_4 (y2_4 + (nI 1)) h
        · refine s_aload_n (k := 0) hX zcdX6_pairs_11.2.2.2.2.2.2.1 rfl rfl ?_
          refine s_iload_n (k := 3) hX zcdX6_pairs_11.2.2.2.2.2.2.2 rfl rfl ?_
          refine e_callSp hX (t_X6_nearest b hb r_1 M) mX6_nearest lX6_48 (by decide) (by decide) rfl rfl (Nat.le_of_ble_eq_true rfl) zcdX6_pairs_23.1 h (fun r_2 h => ?_)
          refine s_iload_n (k := 2) hX zcdX6_pairs_23.2.1 rfl rfl ?_
          refine e_icmp_ne (tgt := 33) hX zcdX6_pairs_23.2.2.1 (by decide) r_eq h (fun h => ?_) (fun h => ?_)
          · refine s_iinc (k := 2) (v := (y2_4 + (nI 1))) (lv' := [(0, .ref (ad b)), (1, .int y1_4), (3, .int r_1), (2, .int (y2_4 + (nI 1)))]) hX zcdX6_pairs_23.2.2.2.2.1 (congrArg (fun z => y2_4 + z) (by decide)) (by decide) rfl rfl ?_
            refine s_goto (tgt := 4) hX zcdX6_pairs_23.2.2.2.2.2.1 (by decide) ?_
            refine s_loc [0, 1, 3] rfl ?_
            exact ih4 y1_4 (y2_4 + (nI 1)) h
          · refine s_iinc (k := 1) (v := (y1_4 + (nI 1))) (lv' := [(0, .ref (ad b)), (2, .int y2_4), (3, .int r_1), (1, .int (y1_4 + (nI 1)))]) hX zcdX6_pairs_23.2.2.2.1 (congrArg (fun z => y1_4 + z) (by decide)) (by decide) rfl rfl ?_
            refine s_iinc (k := 1) (v := (y2_4 + (nI 1))) (lv' := [(0, .ref (ad b)), (3, .int r_1), (1, .int (y1_4 + (nI 1))), (2, .int (y2_4 + (nI 1)))]) hX zcdX6_pairs_23.2.2.2.2.1 (congrArg (fun z => y2_4 + z) (by decide)) (by decide) rfl rfl ?_
            refine s_goto (tgt := 4) hX zcdX6_pairs_23.2.2.2.2.2.1 (by decide) ?_
            refine s_loc [0, 2, 3] rfl ?_
            exact ih4 (y1_4 + (nI 1)) (y2_4 + (nI 1)) h
  exact lp4 FU (nI 0) (nI 0) h
set_option maxHeartbeats 4000000 in
theorem t_X6_yardApart (b : Nat) (hb : isF b) (M : Mem) : AXp yX6_yardApart cX6_yardApart 4 (some .int) 1 60 glC (fun ad => [.ref (ad b)]) M (f_X6_yardApart b M) := by
  intro r0 h
  refine AM.of (by decide) (fun _ => Nat.le_of_ble_eq_true rfl) (fun X ad cI cZ cB hX hR => ?_)
  show V X M [(0, .ref (ad b))] [] 0
  refine s_iconst (v := (nI 0)) hX zcdX6_yardApart_0.1 (by decide) ?_
  refine s_istore_n (lv' := [(0, .ref (ad b)), (1, .int (nI 0))]) hX zcdX6_yardApart_0.2.1 rfl (by decide) rfl ?_
  refine s_iconst (v := (nI 0)) hX zcdX6_yardApart_0.2.2.1 (by decide) ?_
  refine s_istore_n (lv' := [(0, .ref (ad b)), (1, .int (nI 0)), (2, .int (nI 0))]) hX zcdX6_yardApart_0.2.2.2.1 rfl (by decide) rfl ?_
  have lp4 : ∀ (N4 : Nat) (y1_4 : Int32) (y2_4 : Int32), wlp2 (f_X6_yardApart_B4 b M) N4 y1_4 y2_4 = some r0 → V X M [(0, .ref (ad b)), (1, .int y1_4), (2, .int y2_4)] [] 4 := by
    intro N4
    induction N4 with
    | zero => exact fun _ _ h => e_none h
    | succ N4 ih4 =>
      intro y1_4 y2_4 h
      replace h : f_X6_yardApart_B4 b M (wlp2 (f_X6_yardApart_B4 b M) N4) y1_4 y2_4 = some r0 := h
      generalize wlp2 (f_X6_yardApart_B4 b M) N4 = ag4 at ih4 h
      refine s_iload_n (k := 2) hX zcdX6_yardApart_0.2.2.2.2.1 rfl rfl ?_
      refine s_bipush (v := (nI 40)) hX zcdX6_yardApart_0.2.2.2.2.2.1 (by decide) ?_
      refine e_icmp_ge (tgt := 67) hX zcdX6_yardApart_0.2.2.2.2.2.2.1 (by decide) (m_ge (by decide +kernel)) h (fun h => ?_) (fun h => ?_)
      · refine s_iload_n (k := 1) hX zcdX6_yardApart_52.2.2.2.2.2.2.2 rfl rfl ?_
        exact e_iretp hX hR zcdX6_yardApart_68.1 h
      · refine s_aload_n (k := 0) hX zcdX6_yardApart_0.2.2.2.2.2.2.2 rfl rfl ?_
        refine s_get hX fX6_21 (oF hb) rfl zcdX6_yardApart_11.1 ?_
        refine s_iload_n (k := 2) hX zcdX6_yardApart_11.2.1 rfl rfl ?_
        refine e_zald hX (aF4 hb) zcdX6_yardApart_11.2.2.1 h (fun h => ?_)
        refine e_if_eq (tgt := 61) hX zcdX6_yardApart_11.2.2.2.1 (by decide) z_eq h (fun h => ?_) (fun h => ?_)
        · refine s_iinc (k := 2) (v := (y2_4 + (nI 1))) (lv' := [(0, .ref (ad b)), (1, .int y1_4), (2, .int (y2_4 + (nI 1)))]) hX zcdX6_yardApart_52.2.2.2.2.2.1 (congrArg (fun z => y2_4 + z) (by decide)) (by decide) rfl rfl ?_
          refine s_goto (tgt := 4) hX zcdX6_yardApart_52.2.2.2.2.2.2.1 (by decide) ?_
          exact ih4 y1_4 (y2_4 + (nI 1)) h
        · refine s_iconst (v := (nI 1)) hX zcdX6_yardApart_11.2.2.2.2.1 (by decide) ?_
          refine s_istore_n (lv' := [(0, .ref (ad b)), (1, .int y1_4), (2, .int y2_4), (3, .int (nI 1))]) hX zcdX6_yardApart_11.2.2.2.2.2.1 rfl (by decide) rfl ?_
          have lp21 : ∀ (N21 : Nat) (y3_21 : Int32), wlp1 (f_X6_yardApart_B21 b M ag4 y1_4 y2_4) N21 y3_21 = some r0 → V X M [(0, .ref (ad b)), (1, .int y1_4), (2, .int y2_4), (3, .int y3_21)] [] 21 := by
            intro N21
            induction N21 with
            | zero => exact fun _ h => e_none h
            | succ N21 ih21 =>
              intro y3_21 h
              replace h : f_X6_yardApart_B21 b M ag4 y1_4 y2_4 (wlp1 (f_X6_yardApart_B21 b M ag4 y1_4 y2_4) N21) y3_21 = some r0 := h
              generalize wlp1 (f_X6_yardApart_B21 b M ag4 y1_4 y2_4) N21 = ag21 at ih21 h
              refine s_iload_n (k := 3) hX zcdX6_yardApart_11.2.2.2.2.2.2.1 rfl rfl ?_
              refine s_bipush (v := (nI 20)) hX zcdX6_yardApart_11.2.2.2.2.2.2.2 (by decide) ?_
              have j55 : f_X6_yardApart_L55 ag4 y1_4 y2_4 y3_21 = some r0 → V X M [(0, .ref (ad b)), (1, .int y1_4), (2, .int y2_4), (3, .int y3_21)] [] 55 := by
                intro  h
                refine s_iload_n (k := 1) hX zcdX6_yardApart_52.2.1 rfl rfl ?_
                refine s_iload_n (k := 3) hX zcdX6_yardApart_52.2.2.1 rfl rfl ?_
                refine e_mmax hX lX6_31 mJ9_max (by omega) (Nat.le_of_ble_eq_true rfl) zcdX6_yardApart_52.2.2.2.1 ?_
                refine e_bnd h (fun x_1 h => ?_)
                refine s_istore_n (lv' := [(0, .ref (ad b)), (2, .int y2_4), (3, .int y3_21), (1, .int x_1)]) hX zcdX6_yardApart_52.2.2.2.2.1 rfl (by decide) rfl ?_
                refine s_iinc (k := 1) (v := (y2_4 + (nI 1))) (lv' := [(0, .ref (ad b)), (3, .int y3_21), (1, .int x_1), (2, .int (y2_4 + (nI 1)))]) hX zcdX6_yardApart_52.2.2.2.2.2.1 (congrArg (fun z => y2_4 + z) (by decide)) (by decide) rfl rfl ?_
                refine s_goto (tgt := 4) hX zcdX6_yardApart_52.2.2.2.2.2.2.1 (by decide) ?_
                refine s_loc [0, 2, 3] rfl ?_
                exact ih4 x_1 (y2_4 + (nI 1)) h
              refine e_icmp_ge (tgt := 55) hX zcdX6_yardApart_24.1 (by decide) (m_ge (by decide +kernel)) h (fun h => ?_) (fun h => ?_)
              · exact j55 h
              · refine s_aload_n (k := 0) hX zcdX6_yardApart_24.2.1 rfl rfl ?_
                refine s_aload_n (k := 0) hX zcdX6_yardApart_24.2.2.1 rfl rfl ?_
                refine s_get hX fX6_38 (oF hb) rfl zcdX6_yardApart_24.2.2.2.1 ?_
                refine s_iload_n (k := 2) hX zcdX6_yardApart_24.2.2.2.2.1 rfl rfl ?_
                refine e_iald hX (aF1 hb) zcdX6_yardApart_24.2.2.2.2.2.1 h (fun h => ?_)
                refine s_aload_n (k := 0) hX zcdX6_yardApart_24.2.2.2.2.2.2.1 rfl rfl ?_
                refine s_get hX fX6_42 (oF hb) rfl zcdX6_yardApart_24.2.2.2.2.2.2.2 ?_
                refine s_iload_n (k := 2) hX zcdX6_yardApart_38.1 rfl rfl ?_
                refine e_iald hX (aF2 hb) zcdX6_yardApart_38.2.1 h (fun h => ?_)
                refine s_iload_n (k := 3) hX zcdX6_yardApart_38.2.2.1 rfl rfl ?_
                refine s_iadd hX zcdX6_yardApart_38.2.2.2.1 ?_
                refine e_callVp hX (t_X2_stoneAt b hb (M (b + 1) (ix y2_4)) ((M (b + 2) (ix y2_4)) + y3_21) M) mX2_stoneAt lX6_45 (by decide) (by decide) (oF hb) rfl rfl rfl rfl rfl (Nat.le_of_ble_eq_true rfl) zcdX6_yardApart_38.2.2.2.2.1 h (fun r_2 h => ?_)
                refine s_iconst (v := (-1)) hX zcdX6_yardApart_38.2.2.2.2.2.1 (by decide) ?_
                refine e_icmp_eq (tgt := 55) hX zcdX6_yardApart_38.2.2.2.2.2.2.1 (by decide) (m_eq (by decide +kernel)) h (fun h => ?_) (fun h => ?_)
                · exact j55 h
                · refine s_iinc (k := 3) (v := (y3_21 + (nI 1))) (lv' := [(0, .ref (ad b)), (1, .int y1_4), (2, .int y2_4), (3, .int (y3_21 + (nI 1)))]) hX zcdX6_yardApart_38.2.2.2.2.2.2.2 (congrArg (fun z => y3_21 + z) (by decide)) (by decide) rfl rfl ?_
                  refine s_goto (tgt := 21) hX zcdX6_yardApart_52.1 (by decide) ?_
                  exact ih21 (y3_21 + (nI 1)) h
          exact lp21 FU (nI 1) h
  exact lp4 FU (nI 0) (nI 0) h
set_option maxHeartbeats 4000000 in
theorem t_X7_append (v1 : Int32) (M : Mem) : AXv yX7_append cX7_append 3 none 0 60 glC (fun ad => [.ref (ad 19), .int v1]) M (f_X7_append M v1) := by
  intro r0 h
  refine AM.of (by decide) (fun _ => Nat.le_of_ble_eq_true rfl) (fun X ad cI cZ cB hX hR => ?_)
  show V X M [(0, .ref (ad 19)), (1, .int v1)] [] 0
  refine s_bipush (v := (nI 24)) hX zcdX6_yardApart_68.2.1 (by decide) ?_
  refine s_istore_n (lv' := [(0, .ref (ad 19)), (1, .int v1), (2, .int (nI 24))]) hX zcdX6_yardApart_68.2.2.1 rfl (by decide) rfl ?_
  have lp3 : ∀ (N3 : Nat) (M3 : Mem) (y2_3 : Int32), wlp2 (f_X7_append_B3 v1) N3 M3 y2_3 = some r0 → V X M3 [(0, .ref (ad 19)), (1, .int v1), (2, .int y2_3)] [] 3 := by
    intro N3
    induction N3 with
    | zero => exact fun _ _ h => e_none h
    | succ N3 ih3 =>
      intro M3 y2_3 h
      replace h : f_X7_append_B3 v1 (wlp2 (f_X7_append_B3 v1) N3) M3 y2_3 = some r0 := h
      generalize wlp2 (f_X7_append_B3 v1) N3 = ag3 at ih3 h
      refine s_iload_n (k := 2) hX zcdX6_yardApart_68.2.2.2.1 rfl rfl ?_
      refine e_if_lt (tgt := 56) hX zcdX6_yardApart_68.2.2.2.2.1 (by decide) z_lt h (fun h => ?_) (fun h => ?_)
      · exact e_vret hX hR zcdX7_append_42.2.2.2.2.2.2.1 h
      · refine s_aload_n (k := 0) hX zcdX6_yardApart_68.2.2.2.2.2.1 rfl rfl ?_
        refine s_get hX fX7_15 oC19 rfl zcdX6_yardApart_68.2.2.2.2.2.2.1 ?_
        refine e_if_lt (tgt := 50) hX zcdX6_yardApart_68.2.2.2.2.2.2.2 (by decide) z_lt h (fun h => ?_) (fun h => ?_)
        · refine s_iinc (k := 2) (v := (y2_3 + (-8))) (lv' := [(0, .ref (ad 19)), (1, .int v1), (2, .int (y2_3 + (-8)))]) hX zcdX7_append_42.2.2.2.2.1 (congrArg (fun z => y2_3 + z) (by decide)) (by decide) rfl rfl ?_
          refine s_goto (tgt := 3) hX zcdX7_append_42.2.2.2.2.2.1 (by decide) ?_
          exact ih3 M3 (y2_3 + (-8)) h
        · refine s_aload_n (k := 0) hX zcdX7_append_14.1 rfl rfl ?_
          refine s_get hX fX7_15 oC19 rfl zcdX7_append_14.2.1 ?_
          refine s_sipush (v := (nI 260)) hX zcdX7_append_14.2.2.1 (by decide) ?_
          refine e_icmp_ge (tgt := 50) hX zcdX7_append_14.2.2.2.1 (by decide) (m_ge (by decide +kernel)) h (fun h => ?_) (fun h => ?_)
          · refine s_iinc (k := 2) (v := (y2_3 + (-8))) (lv' := [(0, .ref (ad 19)), (1, .int v1), (2, .int (y2_3 + (-8)))]) hX zcdX7_append_42.2.2.2.2.1 (congrArg (fun z => y2_3 + z) (by decide)) (by decide) rfl rfl ?_
            refine s_goto (tgt := 3) hX zcdX7_append_42.2.2.2.2.2.1 (by decide) ?_
            exact ih3 M3 (y2_3 + (-8)) h
          · refine s_aload_n (k := 0) hX zcdX7_append_14.2.2.2.2.1 rfl rfl ?_
            refine s_get hX fX7_9 oC19 rfl zcdX7_append_14.2.2.2.2.2.1 ?_
            refine s_aload_n (k := 0) hX zcdX7_append_14.2.2.2.2.2.2.1 rfl rfl ?_
            refine s_get hX fX7_15 oC19 rfl zcdX7_append_14.2.2.2.2.2.2.2 ?_
            refine s_iload_n (k := 1) hX zcdX7_append_32.1 rfl rfl ?_
            refine s_iload_n (k := 2) hX zcdX7_append_32.2.1 rfl rfl ?_
            refine e_ishr hX zcdX7_append_32.2.2.1 ?_
            refine s_sipush (v := (nI 255)) hX zcdX7_append_32.2.2.2.1 (by decide) ?_
            refine s_iand hX zcdX7_append_32.2.2.2.2.1 ?_
            refine e_iast hX aC20 zcdX7_append_32.2.2.2.2.2.1 h (fun h => ?_)
            refine e_bndM h (fun M_1 h => ?_)
            refine s_aload_n (k := 0) hX zcdX7_append_32.2.2.2.2.2.2.1 rfl rfl ?_
            refine s_dup hX zcdX7_append_32.2.2.2.2.2.2.2 rfl ?_
            refine s_get hX fX7_15 oC19 rfl zcdX7_append_42.1 ?_
            refine s_iconst (v := (nI 1)) hX zcdX7_append_42.2.1 (by decide) ?_
            refine s_iadd hX zcdX7_append_42.2.2.1 ?_
            refine s_puti (ty := .int) hX fX7_15 oC19 rfl (Nat.le_of_ble_eq_true rfl) ty_7_1 rfl rfl zcdX7_append_42.2.2.2.1 ?_
            refine e_bndM h (fun M_2 h => ?_)
            refine s_iinc (k := 2) (v := (y2_3 + (-8))) (lv' := [(0, .ref (ad 19)), (1, .int v1), (2, .int (y2_3 + (-8)))]) hX zcdX7_append_42.2.2.2.2.1 (congrArg (fun z => y2_3 + z) (by decide)) (by decide) rfl rfl ?_
            refine s_goto (tgt := 3) hX zcdX7_append_42.2.2.2.2.2.1 (by decide) ?_
            exact ih3 M_2 (y2_3 + (-8)) h
  exact lp3 FU M (nI 24) h
set_option maxHeartbeats 4000000 in
theorem t_X7_holds (v1 : Int32) (v2 : Int32) (v3 : Int32) (M : Mem) : AXp yX7_holds cX7_holds 4 (some .boolean) 0 60 glC (fun ad => [.ref (ad 19), .int v1, .int v2, .int v3]) M (f_X7_holds M v1 v2 v3) := by
  intro r0 h
  refine AM.of (by decide) (fun _ => Nat.le_of_ble_eq_true rfl) (fun X ad cI cZ cB hX hR => ?_)
  show V X M [(0, .ref (ad 19)), (1, .int v1), (2, .int v2), (3, .int v3)] [] 0
  refine s_iload_n (k := 1) hX zcdX7_append_42.2.2.2.2.2.2.2 rfl rfl ?_
  refine s_iload_n (k := 2) hX zcdX7_holds_1.1 rfl rfl ?_
  refine e_icmp_lt (tgt := 22) hX zcdX7_holds_1.2.1 (by decide) r_lt h (fun h => ?_) (fun h => ?_)
  · refine s_iconst (v := (nI 0)) hX zcdX7_holds_15.2.2.2.1 (by decide) ?_
    exact e_zretpL hX hR zcdX7_holds_15.2.2.2.2.1 (by decide) h
  · refine s_iload_n (k := 1) hX zcdX7_holds_1.2.2.1 rfl rfl ?_
    refine s_iload_n (k := 3) hX zcdX7_holds_1.2.2.2.1 rfl rfl ?_
    refine e_icmp_gt (tgt := 22) hX zcdX7_holds_1.2.2.2.2.1 (by decide) r_lt h (fun h => ?_) (fun h => ?_)
    · refine s_iconst (v := (nI 0)) hX zcdX7_holds_15.2.2.2.1 (by decide) ?_
      exact e_zretpL hX hR zcdX7_holds_15.2.2.2.2.1 (by decide) h
    · refine s_iload_n (k := 1) hX zcdX7_holds_1.2.2.2.2.2.1 rfl rfl ?_
      refine s_aload_n (k := 0) hX zcdX7_holds_1.2.2.2.2.2.2.1 rfl rfl ?_
      refine s_get hX fX7_15 oC19 rfl zcdX7_holds_1.2.2.2.2.2.2.2 ?_
      refine e_icmp_gt (tgt := 22) hX zcdX7_holds_15.1 (by decide) r_lt h (fun h => ?_) (fun h => ?_)
      · refine s_iconst (v := (nI 0)) hX zcdX7_holds_15.2.2.2.1 (by decide) ?_
        exact e_zretpL hX hR zcdX7_holds_15.2.2.2.2.1 (by decide) h
      · refine s_iconst (v := (nI 1)) hX zcdX7_holds_15.2.1 (by decide) ?_
        refine s_goto (tgt := 23) hX zcdX7_holds_15.2.2.1 (by decide) ?_
        exact e_zretpL hX hR zcdX7_holds_15.2.2.2.2.1 (by decide) h
set_option maxHeartbeats 4000000 in
theorem t_X7_open (v1 : Int32) (M : Mem) : AXv yX7_open cX7_open 2 none 0 60 glC (fun ad => [.ref (ad 19), .int v1]) M (f_X7_open M v1) := by
  intro r0 h
  refine AM.of (by decide) (fun _ => Nat.le_of_ble_eq_true rfl) (fun X ad cI cZ cB hX hR => ?_)
  show V X M [(0, .ref (ad 19)), (1, .int v1)] [] 0
  refine s_aload_n (k := 0) hX zcdX7_holds_15.2.2.2.2.2.1 rfl rfl ?_
  refine s_iload_n (k := 1) hX zcdX7_holds_15.2.2.2.2.2.2.1 rfl rfl ?_
  refine s_puti (ty := .int) hX fX7_19 oC19 rfl (Nat.le_of_ble_eq_true rfl) ty_7_2 rfl rfl zcdX7_holds_15.2.2.2.2.2.2.2 ?_
  refine e_bndM h (fun M_1 h => ?_)
  refine s_aload_n (k := 0) hX zcdX7_open_5.1 rfl rfl ?_
  refine s_iconst (v := (nI 0)) hX zcdX7_open_5.2.1 (by decide) ?_
  refine s_puti (ty := .int) hX fX7_22 oC19 rfl (Nat.le_of_ble_eq_true rfl) ty_7_3 rfl rfl zcdX7_open_5.2.2.1 ?_
  refine e_bndM h (fun M_2 h => ?_)
  refine s_aload_n (k := 0) hX zcdX7_open_5.2.2.2.1 rfl rfl ?_
  refine s_iconst (v := (nI 0)) hX zcdX7_open_5.2.2.2.2.1 (by decide) ?_
  refine s_puti (ty := .int) hX fX7_25 oC19 rfl (Nat.le_of_ble_eq_true rfl) ty_7_4 rfl rfl zcdX7_open_5.2.2.2.2.2.1 ?_
  refine e_bndM h (fun M_3 h => ?_)
  refine s_aload_n (k := 0) hX zcdX7_open_5.2.2.2.2.2.2.1 rfl rfl ?_
  refine s_iconst (v := (nI 0)) hX zcdX7_open_5.2.2.2.2.2.2.2 (by decide) ?_
  refine s_puti (ty := .int) hX fX7_15 oC19 rfl (Nat.le_of_ble_eq_true rfl) ty_7_1 rfl rfl zcdX7_open_17.1 ?_
  refine e_bndM h (fun M_4 h => ?_)
  exact e_vret hX hR zcdX7_open_17.2.1 h
set_option maxHeartbeats 4000000 in
theorem t_X8_spreadOn (b : Nat) (hb : isF b) (k len_k : Nat) (hk : ∀ {ad : Nat → Nat} {cI cZ cB : ClassId}, IA (glC ad cI cZ cB) 60 k cI len_k) (hlk : len_k < 2 ^ 31) (v2 : Int32) (v3 : Int32) (v5 : Int32) (M : Mem) : AXi yX8_spreadOn cX8_spreadOn 11 (some .int) 3 60 glC (fun ad => [.ref (ad 23), .ref (ad b), .int v2, .int v3, .ref (ad k), .int v5]) M (f_X8_spreadOn b k len_k M v2 v3 v5) := by
  intro r0 h
  refine AM.of (by decide) (fun _ => Nat.le_of_ble_eq_true rfl) (fun X ad cI cZ cB hX hR => ?_)
  show V X M [(0, .ref (ad 23)), (1, .ref (ad b)), (2, .int v2), (3, .int v3), (4, .ref (ad k)), (5, .int v5)] [] 0
  refine s_iload_n (k := 3) hX zcdX7_open_17.2.2.1 rfl rfl ?_
  refine e_if_lt (tgt := 18) hX zcdX7_open_17.2.2.2.1 (by decide) z_lt h (fun h => ?_) (fun h => ?_)
  · refine s_iconst (v := (nI 0)) hX zcdX8_spreadOn_12.2.2.2.1 (by decide) ?_
    exact e_ireti hX hR zcdX8_spreadOn_12.2.2.2.2.1 h
  · refine s_iload_n (k := 3) hX zcdX7_open_17.2.2.2.2.1 rfl rfl ?_
    refine s_bipush (v := (nI 42)) hX zcdX7_open_17.2.2.2.2.2.1 (by decide) ?_
    refine e_icmp_ge (tgt := 18) hX zcdX7_open_17.2.2.2.2.2.2.1 (by decide) (m_ge (by decide +kernel)) h (fun h => ?_) (fun h => ?_)
    · refine s_iconst (v := (nI 0)) hX zcdX8_spreadOn_12.2.2.2.1 (by decide) ?_
      exact e_ireti hX hR zcdX8_spreadOn_12.2.2.2.2.1 h
    · refine s_aload (k := 4) hX zcdX7_open_17.2.2.2.2.2.2.2 rfl ?_
      refine s_alen (v := nI len_k) hX hk rfl zcdX8_spreadOn_12.1 ?_
      refine s_bipush (v := (nI 42)) hX zcdX8_spreadOn_12.2.1 (by decide) ?_
      refine e_icmp_ge (tgt := 20) hX zcdX8_spreadOn_12.2.2.1 (by decide) (m_ge (by decide +kernel)) h (fun h => ?_) (fun h => ?_)
      · refine s_aload (k := 4) hX zcdX8_spreadOn_12.2.2.2.2.2.1 rfl ?_
        refine s_iload_n (k := 3) hX zcdX8_spreadOn_12.2.2.2.2.2.2.1 rfl rfl ?_
        refine s_iconst (v := (nI 0)) hX zcdX8_spreadOn_12.2.2.2.2.2.2.2 (by decide) ?_
        refine e_iast hX hk zcdX8_spreadOn_24.1 h (fun h => ?_)
        refine e_bndM h (fun M_1 h => ?_)
        refine s_aload_n (k := 0) hX zcdX8_spreadOn_24.2.1 rfl rfl ?_
        refine s_get hX fX8_18 oC23 rfl zcdX8_spreadOn_24.2.2.1 ?_
        refine s_iconst (v := (nI 0)) hX zcdX8_spreadOn_24.2.2.2.1 (by decide) ?_
        refine s_iload_n (k := 3) hX zcdX8_spreadOn_24.2.2.2.2.1 rfl rfl ?_
        refine s_iastN hX aC26 (by decide) zcdX8_spreadOn_24.2.2.2.2.2.1 ?_
        refine e_bndM h (fun M_2 h => ?_)
        refine s_iconst (v := (nI 1)) hX zcdX8_spreadOn_24.2.2.2.2.2.2.1 (by decide) ?_
        refine s_istore (lv' := [(0, .ref (ad 23)), (1, .ref (ad b)), (2, .int v2), (3, .int v3), (4, .ref (ad k)), (5, .int v5), (6, .int (nI 1))]) hX zcdX8_spreadOn_24.2.2.2.2.2.2.2 (by decide) rfl ?_
        refine s_iconst (v := (nI 0)) hX zcdX8_spreadOn_35.1 (by decide) ?_
        refine s_istore (lv' := [(0, .ref (ad 23)), (1, .ref (ad b)), (2, .int v2), (3, .int v3), (4, .ref (ad k)), (5, .int v5), (6, .int (nI 1)), (7, .int (nI 0))]) hX zcdX8_spreadOn_35.2.1 (by decide) rfl ?_
        have lp38 : ∀ (N38 : Nat) (M38 : Mem) (y6_38 : Int32) (y7_38 : Int32), wlp3 (f_X8_spreadOn_B38 b k len_k v2 v5) N38 M38 y6_38 y7_38 = some r0 → V X M38 [(0, .ref (ad 23)), (1, .ref (ad b)), (2, .int v2), (4, .ref (ad k)), (5, .int v5), (6, .int y6_38), (7, .int y7_38)] [] 38 := by
          intro N38
          induction N38 with
          | zero => exact fun _ _ _ h => e_none h
          | succ N38 ih38 =>
            intro M38 y6_38 y7_38 h
            replace h : f_X8_spreadOn_B38 b k len_k v2 v5 (wlp3 (f_X8_spreadOn_B38 b k len_k v2 v5) N38) M38 y6_38 y7_38 = some r0 := h
            generalize wlp3 (f_X8_spreadOn_B38 b k len_k v2 v5) N38 = ag38 at ih38 h
            refine s_iload (k := 6) hX zcdX8_spreadOn_35.2.2.1 rfl ?_
            refine s_iload (k := 5) hX zcdX8_spreadOn_35.2.2.2.1 rfl ?_
            refine e_icmp_ge (tgt := 162) hX zcdX8_spreadOn_35.2.2.2.2.1 (by decide) r_le h (fun h => ?_) (fun h => ?_)
            · refine s_iload (k := 5) hX zcdX8_spreadOn_146.2.2.2.2.2.2.1 rfl ?_
              exact e_ireti hX hR zcdX8_spreadOn_146.2.2.2.2.2.2.2 h
            · refine s_iload (k := 6) hX zcdX8_spreadOn_35.2.2.2.2.2.1 rfl ?_
              refine s_bipush (v := (nI 42)) hX zcdX8_spreadOn_35.2.2.2.2.2.2.1 (by decide) ?_
              refine e_icmp_ge (tgt := 162) hX zcdX8_spreadOn_35.2.2.2.2.2.2.2 (by decide) (m_ge (by decide +kernel)) h (fun h => ?_) (fun h => ?_)
              · refine s_iload (k := 5) hX zcdX8_spreadOn_146.2.2.2.2.2.2.1 rfl ?_
                exact e_ireti hX hR zcdX8_spreadOn_146.2.2.2.2.2.2.2 h
              · refine s_aload_n (k := 0) hX zcdX8_spreadOn_52.1 rfl rfl ?_
                refine s_get hX fX8_18 oC23 rfl zcdX8_spreadOn_52.2.1 ?_
                refine s_iload (k := 6) hX zcdX8_spreadOn_52.2.2.1 rfl ?_
                refine e_iald hX aC26 zcdX8_spreadOn_52.2.2.2.1 h (fun h => ?_)
                refine e_bnd h (fun x_3 h => ?_)
                refine s_istore (lv' := [(0, .ref (ad 23)), (1, .ref (ad b)), (2, .int v2), (4, .ref (ad k)), (5, .int v5), (6, .int y6_38), (7, .int y7_38), (8, .int x_3)]) hX zcdX8_spreadOn_52.2.2.2.2.1 (by decide) rfl ?_
                refine s_iload (k := 7) hX zcdX8_spreadOn_52.2.2.2.2.2.1 rfl ?_
                have j84 : ∀ (t0_84 : Int32), f_X8_spreadOn_L84 b k len_k v2 v5 ag38 M38 y6_38 y7_38 x_3 t0_84 = some r0 → V X M38 [(0, .ref (ad 23)), (1, .ref (ad b)), (2, .int v2), (4, .ref (ad k)), (5, .int v5), (6, .int y6_38), (7, .int y7_38), (8, .int x_3)] [.int t0_84] 84 := by
                  intro t0_84 h
                  refine s_istore (lv' := [(0, .ref (ad 23)), (1, .ref (ad b)), (2, .int v2), (4, .ref (ad k)), (5, .int v5), (6, .int y6_38), (7, .int y7_38), (8, .int x_3), (9, .int t0_84)]) hX zcdX8_spreadOn_83.2.1 (by decide) rfl ?_
                  refine s_iconst (v := (nI 0)) hX zcdX8_spreadOn_83.2.2.1 (by decide) ?_
                  refine s_istore (lv' := [(0, .ref (ad 23)), (1, .ref (ad b)), (2, .int v2), (4, .ref (ad k)), (5, .int v5), (6, .int y6_38), (7, .int y7_38), (8, .int x_3), (9, .int t0_84), (10, .int (nI 0))]) hX zcdX8_spreadOn_83.2.2.2.1 (by decide) rfl ?_
                  have lp89 : ∀ (N89 : Nat) (M89 : Mem) (y6_89 : Int32) (y10_89 : Int32), wlp3 (f_X8_spreadOn_B89 b k len_k v2 v5 ag38 y7_38 x_3 t0_84) N89 M89 y6_89 y10_89 = some r0 → V X M89 [(0, .ref (ad 23)), (1, .ref (ad b)), (2, .int v2), (4, .ref (ad k)), (5, .int v5), (6, .int y6_89), (7, .int y7_38), (8, .int x_3), (9, .int t0_84), (10, .int y10_89)] [] 89 := by
                    intro N89
                    induction N89 with
                    | zero => exact fun _ _ _ h => e_none h
                    | succ N89 ih89 =>
                      intro M89 y6_89 y10_89 h
                      replace h : f_X8_spreadOn_B89 b k len_k v2 v5 ag38 y7_38 x_3 t0_84 (wlp3 (f_X8_spreadOn_B89 b k len_k v2 v5 ag38 y7_38 x_3 t0_84) N89) M89 y6_89 y10_89 = some r0 := h
                      generalize wlp3 (f_X8_spreadOn_B89 b k len_k v2 v5 ag38 y7_38 x_3 t0_84) N89 = ag89 at ih89 h
                      refine s_iload (k := 9) hX zcdX8_spreadOn_83.2.2.2.2.1 rfl ?_
                      refine s_iload (k := 4) hX zcdX8_spreadOn_83.2.2.2.2.2.1 rfl ?_
                      refine e_icmp_ge (tgt := 156) hX zcdX8_spreadOn_83.2.2.2.2.2.2.1 (by decide) r_le h (fun h => ?_) (fun h => ?_)
                      · refine s_iinc (k := 6) (v := (y7_38 + (nI 1))) (lv' := [(0, .ref (ad 23)), (1, .ref (ad b)), (2, .int v2), (4, .ref (ad k)), (5, .int v5), (6, .int y6_89), (8, .int x_3), (9, .int t0_84), (10, .int y10_89), (7, .int (y7_38 + (nI 1)))]) hX zcdX8_spreadOn_146.2.2.2.2.1 (congrArg (fun z => y7_38 + z) (by decide)) (by decide) rfl rfl ?_
                        refine s_goto (tgt := 38) hX zcdX8_spreadOn_146.2.2.2.2.2.1 (by decide) ?_
                        refine s_loc [0, 1, 2, 3, 4, 5, 9] rfl ?_
                        exact ih38 M89 y6_89 (y7_38 + (nI 1)) h
                      · refine s_iload (k := 9) hX zcdX8_spreadOn_83.2.2.2.2.2.2.2 rfl ?_
                        refine s_bipush (v := (nI 42)) hX zcdX8_spreadOn_98.1 (by decide) ?_
                        refine e_icmp_ge (tgt := 156) hX zcdX8_spreadOn_98.2.1 (by decide) (m_ge (by decide +kernel)) h (fun h => ?_) (fun h => ?_)
                        · refine s_iinc (k := 6) (v := (y7_38 + (nI 1))) (lv' := [(0, .ref (ad 23)), (1, .ref (ad b)), (2, .int v2), (4, .ref (ad k)), (5, .int v5), (6, .int y6_89), (8, .int x_3), (9, .int t0_84), (10, .int y10_89), (7, .int (y7_38 + (nI 1)))]) hX zcdX8_spreadOn_146.2.2.2.2.1 (congrArg (fun z => y7_38 + z) (by decide)) (by decide) rfl rfl ?_
                          refine s_goto (tgt := 38) hX zcdX8_spreadOn_146.2.2.2.2.2.1 (by decide) ?_
                          refine s_loc [0, 1, 2, 3, 4, 5, 9] rfl ?_
                          exact ih38 M89 y6_89 (y7_38 + (nI 1)) h
                        · refine s_aload (k := 3) hX zcdX8_spreadOn_98.2.2.1 rfl ?_
                          refine s_iload (k := 9) hX zcdX8_spreadOn_98.2.2.2.1 rfl ?_
                          refine e_iald hX hk zcdX8_spreadOn_98.2.2.2.2.1 h (fun h => ?_)
                          refine s_iconst (v := (-1)) hX zcdX8_spreadOn_98.2.2.2.2.2.1 (by decide) ?_
                          refine e_icmp_ne (tgt := 150) hX zcdX8_spreadOn_98.2.2.2.2.2.2.1 (by decide) (m_eq (by decide +kernel)) h (fun h => ?_) (fun h => ?_)
                          · refine s_iinc (k := 9) (v := (y10_89 + (nI 1))) (lv' := [(0, .ref (ad 23)), (1, .ref (ad b)), (2, .int v2), (4, .ref (ad k)), (5, .int v5), (6, .int y6_89), (7, .int y7_38), (8, .int x_3), (9, .int t0_84), (10, .int (y10_89 + (nI 1)))]) hX zcdX8_spreadOn_146.2.2.1 (congrArg (fun z => y10_89 + z) (by decide)) (by decide) rfl rfl ?_
                            refine s_goto (tgt := 89) hX zcdX8_spreadOn_146.2.2.2.1 (by decide) ?_
                            exact ih89 M89 y6_89 (y10_89 + (nI 1)) h
                          · refine s_iload (k := 5) hX zcdX8_spreadOn_98.2.2.2.2.2.2.2 rfl ?_
                            refine s_bipush (v := (nI 42)) hX zcdX8_spreadOn_114.1 (by decide) ?_
                            refine e_icmp_ge (tgt := 150) hX zcdX8_spreadOn_114.2.1 (by decide) (m_ge (by decide +kernel)) h (fun h => ?_) (fun h => ?_)
                            · refine s_iinc (k := 9) (v := (y10_89 + (nI 1))) (lv' := [(0, .ref (ad 23)), (1, .ref (ad b)), (2, .int v2), (4, .ref (ad k)), (5, .int v5), (6, .int y6_89), (7, .int y7_38), (8, .int x_3), (9, .int t0_84), (10, .int (y10_89 + (nI 1)))]) hX zcdX8_spreadOn_146.2.2.1 (congrArg (fun z => y10_89 + z) (by decide)) (by decide) rfl rfl ?_
                              refine s_goto (tgt := 89) hX zcdX8_spreadOn_146.2.2.2.1 (by decide) ?_
                              exact ih89 M89 y6_89 (y10_89 + (nI 1)) h
                            · refine s_aload_n (k := 1) hX zcdX8_spreadOn_114.2.2.1 rfl rfl ?_
                              refine s_iload (k := 7) hX zcdX8_spreadOn_114.2.2.2.1 rfl ?_
                              refine s_iload (k := 9) hX zcdX8_spreadOn_114.2.2.2.2.1 rfl ?_
                              refine s_iload_n (k := 2) hX zcdX8_spreadOn_114.2.2.2.2.2.1 rfl rfl ?_
                              refine e_callVp hX (t_X2_isStep b hb x_3 y10_89 v2 M89) mX2_isStep lX8_41 (by decide) (by decide) (oF hb) rfl rfl rfl rfl rfl (Nat.le_of_ble_eq_true rfl) zcdX8_spreadOn_114.2.2.2.2.2.2.1 h (fun r_4 h => ?_)
                              refine e_if_eq (tgt := 150) hX zcdX8_spreadOn_114.2.2.2.2.2.2.2 (by decide) z_eq h (fun h => ?_) (fun h => ?_)
                              · refine s_iinc (k := 9) (v := (y10_89 + (nI 1))) (lv' := [(0, .ref (ad 23)), (1, .ref (ad b)), (2, .int v2), (4, .ref (ad k)), (5, .int v5), (6, .int y6_89), (7, .int y7_38), (8, .int x_3), (9, .int t0_84), (10, .int (y10_89 + (nI 1)))]) hX zcdX8_spreadOn_146.2.2.1 (congrArg (fun z => y10_89 + z) (by decide)) (by decide) rfl rfl ?_
                                refine s_goto (tgt := 89) hX zcdX8_spreadOn_146.2.2.2.1 (by decide) ?_
                                exact ih89 M89 y6_89 (y10_89 + (nI 1)) h
                              · refine s_aload (k := 3) hX zcdX8_spreadOn_131.1 rfl ?_
                                refine s_iload (k := 9) hX zcdX8_spreadOn_131.2.1 rfl ?_
                                refine s_iload (k := 8) hX zcdX8_spreadOn_131.2.2.1 rfl ?_
                                refine e_iast hX hk zcdX8_spreadOn_131.2.2.2.1 h (fun h => ?_)
                                refine e_bndM h (fun M_5 h => ?_)
                                refine s_aload_n (k := 0) hX zcdX8_spreadOn_131.2.2.2.2.1 rfl rfl ?_
                                refine s_get hX fX8_18 oC23 rfl zcdX8_spreadOn_131.2.2.2.2.2.1 ?_
                                refine s_iload (k := 5) hX zcdX8_spreadOn_131.2.2.2.2.2.2.1 rfl ?_
                                refine s_iload (k := 9) hX zcdX8_spreadOn_131.2.2.2.2.2.2.2 rfl ?_
                                refine e_iast hX aC26 zcdX8_spreadOn_146.1 h (fun h => ?_)
                                refine e_bndM h (fun M_6 h => ?_)
                                refine s_iinc (k := 5) (v := (y6_89 + (nI 1))) (lv' := [(0, .ref (ad 23)), (1, .ref (ad b)), (2, .int v2), (4, .ref (ad k)), (5, .int v5), (7, .int y7_38), (8, .int x_3), (9, .int t0_84), (10, .int y10_89), (6, .int (y6_89 + (nI 1)))]) hX zcdX8_spreadOn_146.2.1 (congrArg (fun z => y6_89 + z) (by decide)) (by decide) rfl rfl ?_
                                refine s_iinc (k := 8) (v := (y10_89 + (nI 1))) (lv' := [(0, .ref (ad 23)), (1, .ref (ad b)), (2, .int v2), (4, .ref (ad k)), (5, .int v5), (7, .int y7_38), (8, .int x_3), (9, .int t0_84), (6, .int (y6_89 + (nI 1))), (10, .int (y10_89 + (nI 1)))]) hX zcdX8_spreadOn_146.2.2.1 (congrArg (fun z => y10_89 + z) (by decide)) (by decide) rfl rfl ?_
                                refine s_goto (tgt := 89) hX zcdX8_spreadOn_146.2.2.2.1 (by decide) ?_
                                refine s_loc [0, 1, 2, 3, 4, 8, 5, 6, 7, 9] rfl ?_
                                exact ih89 M_6 (y6_89 + (nI 1)) (y10_89 + (nI 1)) h
                  exact lp89 FU M38 y6_38 (nI 0) h
                have j83 : f_X8_spreadOn_L83 b k len_k v2 v5 ag38 M38 y6_38 y7_38 x_3 = some r0 → V X M38 [(0, .ref (ad 23)), (1, .ref (ad b)), (2, .int v2), (4, .ref (ad k)), (5, .int v5), (6, .int y6_38), (7, .int y7_38), (8, .int x_3)] [] 83 := by
                  intro  h
                  refine s_iconst (v := (nI 0)) hX zcdX8_spreadOn_83.1 (by decide) ?_
                  exact j84 (nI 0) h
                refine e_if_lt (tgt := 83) hX zcdX8_spreadOn_52.2.2.2.2.2.2.1 (by decide) z_lt h (fun h => ?_) (fun h => ?_)
                · exact j83 h
                · refine s_iload (k := 7) hX zcdX8_spreadOn_52.2.2.2.2.2.2.2 rfl ?_
                  refine s_bipush (v := (nI 42)) hX zcdX8_spreadOn_68.1 (by decide) ?_
                  refine e_icmp_ge (tgt := 83) hX zcdX8_spreadOn_68.2.1 (by decide) (m_ge (by decide +kernel)) h (fun h => ?_) (fun h => ?_)
                  · exact j83 h
                  · refine s_aload (k := 3) hX zcdX8_spreadOn_68.2.2.1 rfl ?_
                    refine s_iload (k := 7) hX zcdX8_spreadOn_68.2.2.2.1 rfl ?_
                    refine e_iald hX hk zcdX8_spreadOn_68.2.2.2.2.1 h (fun h => ?_)
                    refine s_iconst (v := (nI 1)) hX zcdX8_spreadOn_68.2.2.2.2.2.1 (by decide) ?_
                    refine s_iadd hX zcdX8_spreadOn_68.2.2.2.2.2.2.1 ?_
                    refine s_goto (tgt := 84) hX zcdX8_spreadOn_68.2.2.2.2.2.2.2 (by decide) ?_
                    exact j84 ((M38 k (ix x_3)) + (nI 1)) h
        refine s_loc [0, 1, 2, 4, 5, 6, 7] rfl ?_
        exact lp38 FU M_2 (nI 1) (nI 0) h
      · refine s_iconst (v := (nI 0)) hX zcdX8_spreadOn_12.2.2.2.1 (by decide) ?_
        exact e_ireti hX hR zcdX8_spreadOn_12.2.2.2.2.1 h
set_option maxHeartbeats 4000000 in
theorem t_X8_spread (b : Nat) (hb : isF b) (k len_k : Nat) (hk : ∀ {ad : Nat → Nat} {cI cZ cB : ClassId}, IA (glC ad cI cZ cB) 60 k cI len_k) (hlk : len_k < 2 ^ 31) (v2 : Int32) (v3 : Int32) (v5 : Int32) (M : Mem) : AXi yX8_spread cX8_spread 6 (some .int) 4 60 glC (fun ad => [.ref (ad 23), .ref (ad b), .int v2, .int v3, .ref (ad k), .int v5]) M (f_X8_spread b k len_k M v2 v3 v5) := by
  intro r0 h
  refine AM.of (by decide) (fun _ => Nat.le_of_ble_eq_true rfl) (fun X ad cI cZ cB hX hR => ?_)
  show V X M [(0, .ref (ad 23)), (1, .ref (ad b)), (2, .int v2), (3, .int v3), (4, .ref (ad k)), (5, .int v5)] [] 0
  refine s_aload (k := 4) hX zcdX8_spread_0.1 rfl ?_
  refine s_iconst (v := (-1)) hX zcdX8_spread_0.2.1 (by decide) ?_
  refine e_callSv hX (t_J7_fill_53178 k len_k hk hlk (-1) M) mJ7_fill_53178 lX8_31 (by decide) (by decide) rfl rfl (Nat.le_of_ble_eq_true rfl) zcdX8_spread_0.2.2.1 h (fun M_1 h => ?_)
  refine s_aload_n (k := 0) hX zcdX8_spread_0.2.2.2.1 rfl rfl ?_
  refine s_aload_n (k := 1) hX zcdX8_spread_0.2.2.2.2.1 rfl rfl ?_
  refine s_iload_n (k := 2) hX zcdX8_spread_0.2.2.2.2.2.1 rfl rfl ?_
  refine s_iload_n (k := 3) hX zcdX8_spread_0.2.2.2.2.2.2.1 rfl rfl ?_
  refine s_aload (k := 4) hX zcdX8_spread_0.2.2.2.2.2.2.2 rfl ?_
  refine s_iload (k := 5) hX zcdX8_spread_12.1 rfl ?_
  refine e_callVi hX (t_X8_spreadOn b hb k len_k hk hlk v2 v3 v5 M_1) mX8_spreadOn lX8_37 (by decide) (by decide) oC23 rfl rfl rfl rfl rfl (Nat.le_of_ble_eq_true rfl) zcdX8_spread_12.2.1 h (fun r_2 M_3 h => ?_)
  exact e_ireti hX hR zcdX8_spread_12.2.2.1 h
set_option maxHeartbeats 4000000 in
theorem t_X8_canCross (b : Nat) (hb : isF b) (v2 : Int32) (M : Mem) : AXi yX8_canCross cX8_canCross 3 (some .boolean) 5 60 glC (fun ad => [.ref (ad 23), .ref (ad b), .int v2]) M (f_X8_canCross b M v2) := by
  intro r0 h
  refine AM.of (by decide) (fun _ => Nat.le_of_ble_eq_true rfl) (fun X ad cI cZ cB hX hR => ?_)
  show V X M [(0, .ref (ad 23)), (1, .ref (ad b)), (2, .int v2)] [] 0
  refine s_aload_n (k := 0) hX zcdX8_spread_12.2.2.2.1 rfl rfl ?_
  refine s_aload_n (k := 1) hX zcdX8_spread_12.2.2.2.2.1 rfl rfl ?_
  refine s_iload_n (k := 2) hX zcdX8_spread_12.2.2.2.2.2.1 rfl rfl ?_
  refine s_bipush (v := (nI 40)) hX zcdX8_spread_12.2.2.2.2.2.2.1 (by decide) ?_
  refine s_aload_n (k := 0) hX zcdX8_spread_12.2.2.2.2.2.2.2 rfl rfl ?_
  refine s_get hX fX8_9 oC23 rfl zcdX8_canCross_6.1 ?_
  refine s_bipush (v := (nI 42)) hX zcdX8_canCross_6.2.1 (by decide) ?_
  refine e_callVi hX (t_X8_spread b hb 24 42 aC24 (by decide) v2 (nI 40) (nI 42) M) mX8_spread lX8_47 (by decide) (by decide) oC23 rfl rfl rfl rfl rfl (Nat.le_of_ble_eq_true rfl) zcdX8_canCross_6.2.2.1 h (fun r_1 M_2 h => ?_)
  refine s_pop hX zcdX8_canCross_6.2.2.2.1 rfl ?_
  refine s_aload_n (k := 0) hX zcdX8_canCross_6.2.2.2.2.1 rfl rfl ?_
  refine s_get hX fX8_9 oC23 rfl zcdX8_canCross_6.2.2.2.2.2.1 ?_
  refine s_bipush (v := (nI 41)) hX zcdX8_canCross_6.2.2.2.2.2.2.1 (by decide) ?_
  refine s_ialdN hX aC24 (by decide) zcdX8_canCross_6.2.2.2.2.2.2.2 ?_
  refine s_iconst (v := (-1)) hX zcdX8_canCross_22.1 (by decide) ?_
  refine e_icmp_eq (tgt := 30) hX zcdX8_canCross_22.2.1 (by decide) (m_eq (by decide +kernel)) h (fun h => ?_) (fun h => ?_)
  · refine s_iconst (v := (nI 0)) hX zcdX8_canCross_22.2.2.2.2.1 (by decide) ?_
    exact e_zretiL hX hR zcdX8_canCross_22.2.2.2.2.2 (by decide) h
  · refine s_iconst (v := (nI 1)) hX zcdX8_canCross_22.2.2.1 (by decide) ?_
    refine s_goto (tgt := 31) hX zcdX8_canCross_22.2.2.2.1 (by decide) ?_
    exact e_zretiL hX hR zcdX8_canCross_22.2.2.2.2.2 (by decide) h
