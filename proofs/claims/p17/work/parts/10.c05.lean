theorem dX5_turn_0 : decode cX5_turn 0 = .ok (.aload_n 1, 1) := by decide +kernel
theorem dX5_turn_1 : decode cX5_turn 1 = .ok (.iload_n 3, 1) := by decide +kernel
theorem dX5_turn_2 : decode cX5_turn 2 = .ok (.invokevirtual 35, 3) := by decide +kernel
theorem dX5_turn_5 : decode cX5_turn 5 = .ok (.ifCond .ne 4, 3) := by decide +kernel
theorem dX5_turn_8 : decode cX5_turn 8 = .ok (.return_, 1) := by decide +kernel
theorem dX5_turn_9 : decode cX5_turn 9 = .ok (.aload_n 0, 1) := by decide +kernel
theorem dX5_turn_10 : decode cX5_turn 10 = .ok (.getfield 11, 3) := by decide +kernel
theorem dX5_turn_13 : decode cX5_turn 13 = .ok (.bipush 6, 2) := by decide +kernel
theorem dX5_turn_15 : decode cX5_turn 15 = .ok (.aload_n 1, 1) := by decide +kernel
theorem dX5_turn_16 : decode cX5_turn 16 = .ok (.invokevirtual 39, 3) := by decide +kernel
theorem dX5_turn_19 : decode cX5_turn 19 = .ok (.iastore, 1) := by decide +kernel
theorem dX5_turn_20 : decode cX5_turn 20 = .ok (.aload_n 0, 1) := by decide +kernel
theorem dX5_turn_21 : decode cX5_turn 21 = .ok (.aload_n 1, 1) := by decide +kernel
theorem dX5_turn_22 : decode cX5_turn 22 = .ok (.aload_n 2, 1) := by decide +kernel
theorem dX5_turn_23 : decode cX5_turn 23 = .ok (.iload_n 3, 1) := by decide +kernel
theorem dX5_turn_24 : decode cX5_turn 24 = .ok (.invokevirtual 43, 3) := by decide +kernel
theorem dX5_turn_27 : decode cX5_turn 27 = .ok (.aload_n 2, 1) := by decide +kernel
theorem dX5_turn_28 : decode cX5_turn 28 = .ok (.bipush 117, 2) := by decide +kernel
theorem dX5_turn_30 : decode cX5_turn 30 = .ok (.aload_n 0, 1) := by decide +kernel
theorem dX5_turn_31 : decode cX5_turn 31 = .ok (.getfield 11, 3) := by decide +kernel
theorem dX5_turn_34 : decode cX5_turn 34 = .ok (.invokevirtual 46, 3) := by decide +kernel
theorem dX5_turn_37 : decode cX5_turn 37 = .ok (.aload_n 2, 1) := by decide +kernel
theorem dX5_turn_38 : decode cX5_turn 38 = .ok (.bipush 100, 2) := by decide +kernel
theorem dX5_turn_40 : decode cX5_turn 40 = .ok (.aload_n 0, 1) := by decide +kernel
theorem dX5_turn_41 : decode cX5_turn 41 = .ok (.getfield 11, 3) := by decide +kernel
theorem dX5_turn_44 : decode cX5_turn 44 = .ok (.invokevirtual 46, 3) := by decide +kernel
theorem dX5_turn_47 : decode cX5_turn 47 = .ok (.isub, 1) := by decide +kernel
theorem dX5_turn_48 : decode cX5_turn 48 = .ok (.istore 4, 2) := by decide +kernel
theorem dX5_turn_50 : decode cX5_turn 50 = .ok (.aload_n 2, 1) := by decide +kernel
theorem dX5_turn_51 : decode cX5_turn 51 = .ok (.bipush 111, 2) := by decide +kernel
theorem dX5_turn_53 : decode cX5_turn 53 = .ok (.aload_n 0, 1) := by decide +kernel
theorem dX5_turn_54 : decode cX5_turn 54 = .ok (.getfield 11, 3) := by decide +kernel
theorem dX5_turn_57 : decode cX5_turn 57 = .ok (.invokevirtual 46, 3) := by decide +kernel
theorem dX5_turn_60 : decode cX5_turn 60 = .ok (.aload_n 2, 1) := by decide +kernel
theorem dX5_turn_61 : decode cX5_turn 61 = .ok (.bipush 98, 2) := by decide +kernel
theorem dX5_turn_63 : decode cX5_turn 63 = .ok (.aload_n 0, 1) := by decide +kernel
theorem dX5_turn_64 : decode cX5_turn 64 = .ok (.getfield 11, 3) := by decide +kernel
theorem dX5_turn_67 : decode cX5_turn 67 = .ok (.invokevirtual 46, 3) := by decide +kernel
theorem dX5_turn_70 : decode cX5_turn 70 = .ok (.isub, 1) := by decide +kernel
theorem dX5_turn_71 : decode cX5_turn 71 = .ok (.istore 5, 2) := by decide +kernel
theorem dX5_turn_73 : decode cX5_turn 73 = .ok (.aload_n 0, 1) := by decide +kernel
theorem dX5_turn_74 : decode cX5_turn 74 = .ok (.aload_n 1, 1) := by decide +kernel
theorem dX5_turn_75 : decode cX5_turn 75 = .ok (.iload_n 3, 1) := by decide +kernel
theorem dX5_turn_76 : decode cX5_turn 76 = .ok (.iload 4, 2) := by decide +kernel
theorem dX5_turn_78 : decode cX5_turn 78 = .ok (.iload 5, 2) := by decide +kernel
theorem dX5_turn_80 : decode cX5_turn 80 = .ok (.invokevirtual 52, 3) := by decide +kernel
theorem dX5_turn_83 : decode cX5_turn 83 = .ok (.aload_n 0, 1) := by decide +kernel
theorem dX5_turn_84 : decode cX5_turn 84 = .ok (.aload_n 1, 1) := by decide +kernel
theorem dX5_turn_85 : decode cX5_turn 85 = .ok (.aload_n 2, 1) := by decide +kernel
theorem dX5_turn_86 : decode cX5_turn 86 = .ok (.iload_n 3, 1) := by decide +kernel
theorem dX5_turn_87 : decode cX5_turn 87 = .ok (.invokevirtual 43, 3) := by decide +kernel
theorem dX5_turn_90 : decode cX5_turn 90 = .ok (.aload_n 1, 1) := by decide +kernel
theorem dX5_turn_91 : decode cX5_turn 91 = .ok (.getfield 56, 3) := by decide +kernel
theorem dX5_turn_94 : decode cX5_turn 94 = .ok (.iload_n 3, 1) := by decide +kernel
theorem dX5_turn_95 : decode cX5_turn 95 = .ok (.aload_n 2, 1) := by decide +kernel
theorem dX5_turn_96 : decode cX5_turn 96 = .ok (.aload_n 0, 1) := by decide +kernel
theorem dX5_turn_97 : decode cX5_turn 97 = .ok (.getfield 11, 3) := by decide +kernel
theorem dX5_turn_100 : decode cX5_turn 100 = .ok (.invokevirtual 59, 3) := by decide +kernel
theorem dX5_turn_103 : decode cX5_turn 103 = .ok (.bastore, 1) := by decide +kernel
theorem dX5_turn_104 : decode cX5_turn 104 = .ok (.return_, 1) := by decide +kernel
theorem dX5_pass_0 : decode cX5_pass 0 = .ok (.aload_n 0, 1) := by decide +kernel
theorem dX5_pass_1 : decode cX5_pass 1 = .ok (.iconst 0, 1) := by decide +kernel
theorem dX5_pass_2 : decode cX5_pass 2 = .ok (.putfield 15, 3) := by decide +kernel
theorem dX5_pass_5 : decode cX5_pass 5 = .ok (.aload_n 0, 1) := by decide +kernel
theorem dX5_pass_6 : decode cX5_pass 6 = .ok (.iconst 0, 1) := by decide +kernel
theorem dX5_pass_7 : decode cX5_pass 7 = .ok (.putfield 19, 3) := by decide +kernel
theorem dX5_pass_10 : decode cX5_pass 10 = .ok (.iconst 0, 1) := by decide +kernel
theorem dX5_pass_11 : decode cX5_pass 11 = .ok (.istore 4, 2) := by decide +kernel
theorem dX5_pass_13 : decode cX5_pass 13 = .ok (.iload 4, 2) := by decide +kernel
theorem dX5_pass_15 : decode cX5_pass 15 = .ok (.iload_n 3, 1) := by decide +kernel
theorem dX5_pass_16 : decode cX5_pass 16 = .ok (.if_icmp .ge 63, 3) := by decide +kernel
theorem dX5_pass_19 : decode cX5_pass 19 = .ok (.aload_n 1, 1) := by decide +kernel
theorem dX5_pass_20 : decode cX5_pass 20 = .ok (.getfield 22, 3) := by decide +kernel
theorem dX5_pass_23 : decode cX5_pass 23 = .ok (.sipush 9999, 3) := by decide +kernel
theorem dX5_pass_26 : decode cX5_pass 26 = .ok (.if_icmp .ge 53, 3) := by decide +kernel
theorem dX5_pass_29 : decode cX5_pass 29 = .ok (.iconst 0, 1) := by decide +kernel
theorem dX5_pass_30 : decode cX5_pass 30 = .ok (.istore 5, 2) := by decide +kernel
theorem dX5_pass_32 : decode cX5_pass 32 = .ok (.iload 5, 2) := by decide +kernel
theorem dX5_pass_34 : decode cX5_pass 34 = .ok (.bipush 40, 2) := by decide +kernel
theorem dX5_pass_36 : decode cX5_pass 36 = .ok (.if_icmp .ge 27, 3) := by decide +kernel
theorem dX5_pass_39 : decode cX5_pass 39 = .ok (.aload_n 1, 1) := by decide +kernel
theorem dX5_pass_40 : decode cX5_pass 40 = .ok (.getfield 27, 3) := by decide +kernel
theorem dX5_pass_43 : decode cX5_pass 43 = .ok (.iload 5, 2) := by decide +kernel
theorem dX5_pass_45 : decode cX5_pass 45 = .ok (.baload, 1) := by decide +kernel
theorem dX5_pass_46 : decode cX5_pass 46 = .ok (.ifCond .eq 11, 3) := by decide +kernel
theorem dX5_pass_49 : decode cX5_pass 49 = .ok (.aload_n 0, 1) := by decide +kernel
theorem dX5_pass_50 : decode cX5_pass 50 = .ok (.aload_n 1, 1) := by decide +kernel
theorem dX5_pass_51 : decode cX5_pass 51 = .ok (.aload_n 2, 1) := by decide +kernel
theorem dX5_pass_52 : decode cX5_pass 52 = .ok (.iload 5, 2) := by decide +kernel
theorem dX5_pass_54 : decode cX5_pass 54 = .ok (.invokevirtual 31, 3) := by decide +kernel
theorem dX5_pass_57 : decode cX5_pass 57 = .ok (.iinc 5 1, 3) := by decide +kernel
theorem dX5_pass_60 : decode cX5_pass 60 = .ok (.goto (-28), 3) := by decide +kernel
theorem dX5_pass_63 : decode cX5_pass 63 = .ok (.aload_n 1, 1) := by decide +kernel
theorem dX5_pass_64 : decode cX5_pass 64 = .ok (.dup, 1) := by decide +kernel
theorem dX5_pass_65 : decode cX5_pass 65 = .ok (.getfield 22, 3) := by decide +kernel
theorem dX5_pass_68 : decode cX5_pass 68 = .ok (.iconst 1, 1) := by decide +kernel
theorem dX5_pass_69 : decode cX5_pass 69 = .ok (.iadd, 1) := by decide +kernel
theorem dX5_pass_70 : decode cX5_pass 70 = .ok (.putfield 22, 3) := by decide +kernel
theorem dX5_pass_73 : decode cX5_pass 73 = .ok (.iinc 4 1, 3) := by decide +kernel
theorem dX5_pass_76 : decode cX5_pass 76 = .ok (.goto (-63), 3) := by decide +kernel
theorem dX5_pass_79 : decode cX5_pass 79 = .ok (.return_, 1) := by decide +kernel
theorem dX6_nearest_0 : decode cX6_nearest 0 = .ok (.iconst (-1), 1) := by decide +kernel
theorem dX6_nearest_1 : decode cX6_nearest 1 = .ok (.istore_n 2, 1) := by decide +kernel
theorem dX6_nearest_2 : decode cX6_nearest 2 = .ok (.iconst 0, 1) := by decide +kernel
theorem dX6_nearest_3 : decode cX6_nearest 3 = .ok (.istore_n 3, 1) := by decide +kernel
theorem dX6_nearest_4 : decode cX6_nearest 4 = .ok (.iload_n 3, 1) := by decide +kernel
theorem dX6_nearest_5 : decode cX6_nearest 5 = .ok (.bipush 40, 2) := by decide +kernel
theorem dX6_nearest_7 : decode cX6_nearest 7 = .ok (.if_icmp .ge 53, 3) := by decide +kernel
theorem dX6_nearest_10 : decode cX6_nearest 10 = .ok (.aload_n 0, 1) := by decide +kernel
theorem dX6_nearest_11 : decode cX6_nearest 11 = .ok (.iload_n 1, 1) := by decide +kernel
theorem dX6_nearest_12 : decode cX6_nearest 12 = .ok (.invokevirtual 34, 3) := by decide +kernel
theorem dX6_nearest_15 : decode cX6_nearest 15 = .ok (.ifCond .eq 45, 3) := by decide +kernel
theorem dX6_nearest_18 : decode cX6_nearest 18 = .ok (.iload_n 3, 1) := by decide +kernel
theorem dX6_nearest_19 : decode cX6_nearest 19 = .ok (.iload_n 1, 1) := by decide +kernel
theorem dX6_nearest_20 : decode cX6_nearest 20 = .ok (.if_icmp .eq 34, 3) := by decide +kernel
theorem dX6_nearest_23 : decode cX6_nearest 23 = .ok (.aload_n 0, 1) := by decide +kernel
theorem dX6_nearest_24 : decode cX6_nearest 24 = .ok (.getfield 21, 3) := by decide +kernel
theorem dX6_nearest_27 : decode cX6_nearest 27 = .ok (.iload_n 3, 1) := by decide +kernel
theorem dX6_nearest_28 : decode cX6_nearest 28 = .ok (.baload, 1) := by decide +kernel
theorem dX6_nearest_29 : decode cX6_nearest 29 = .ok (.ifCond .eq 25, 3) := by decide +kernel
theorem dX6_nearest_32 : decode cX6_nearest 32 = .ok (.iload_n 2, 1) := by decide +kernel
theorem dX6_nearest_33 : decode cX6_nearest 33 = .ok (.iconst (-1), 1) := by decide +kernel
theorem dX6_nearest_34 : decode cX6_nearest 34 = .ok (.if_icmp .eq 18, 3) := by decide +kernel
theorem dX6_nearest_37 : decode cX6_nearest 37 = .ok (.aload_n 0, 1) := by decide +kernel
theorem dX6_nearest_38 : decode cX6_nearest 38 = .ok (.iload_n 1, 1) := by decide +kernel
theorem dX6_nearest_39 : decode cX6_nearest 39 = .ok (.iload_n 3, 1) := by decide +kernel
theorem dX6_nearest_40 : decode cX6_nearest 40 = .ok (.invokevirtual 52, 3) := by decide +kernel
theorem dX6_nearest_43 : decode cX6_nearest 43 = .ok (.aload_n 0, 1) := by decide +kernel
theorem dX6_nearest_44 : decode cX6_nearest 44 = .ok (.iload_n 1, 1) := by decide +kernel
theorem dX6_nearest_45 : decode cX6_nearest 45 = .ok (.iload_n 2, 1) := by decide +kernel
theorem dX6_nearest_46 : decode cX6_nearest 46 = .ok (.invokevirtual 52, 3) := by decide +kernel
theorem dX6_nearest_49 : decode cX6_nearest 49 = .ok (.if_icmp .ge 5, 3) := by decide +kernel
theorem dX6_nearest_52 : decode cX6_nearest 52 = .ok (.iload_n 3, 1) := by decide +kernel
theorem dX6_nearest_53 : decode cX6_nearest 53 = .ok (.istore_n 2, 1) := by decide +kernel
theorem dX6_nearest_54 : decode cX6_nearest 54 = .ok (.iinc 3 1, 3) := by decide +kernel
theorem dX6_nearest_57 : decode cX6_nearest 57 = .ok (.goto (-53), 3) := by decide +kernel
theorem dX6_nearest_60 : decode cX6_nearest 60 = .ok (.iload_n 2, 1) := by decide +kernel
theorem dX6_nearest_61 : decode cX6_nearest 61 = .ok (.ireturn, 1) := by decide +kernel
theorem dX6_closest_0 : decode cX6_closest 0 = .ok (.bipush (-2), 2) := by decide +kernel
theorem dX6_closest_2 : decode cX6_closest 2 = .ok (.istore_n 1, 1) := by decide +kernel
theorem dX6_closest_3 : decode cX6_closest 3 = .ok (.iconst 0, 1) := by decide +kernel
theorem dX6_closest_4 : decode cX6_closest 4 = .ok (.istore_n 2, 1) := by decide +kernel
theorem dX6_closest_5 : decode cX6_closest 5 = .ok (.iload_n 2, 1) := by decide +kernel
theorem dX6_closest_6 : decode cX6_closest 6 = .ok (.bipush 40, 2) := by decide +kernel
theorem dX6_closest_8 : decode cX6_closest 8 = .ok (.if_icmp .ge 43, 3) := by decide +kernel
theorem dX6_closest_11 : decode cX6_closest 11 = .ok (.aload_n 0, 1) := by decide +kernel
theorem dX6_closest_12 : decode cX6_closest 12 = .ok (.iload_n 2, 1) := by decide +kernel
theorem dX6_closest_13 : decode cX6_closest 13 = .ok (.invokestatic 48, 3) := by decide +kernel
theorem dX6_closest_16 : decode cX6_closest 16 = .ok (.istore_n 3, 1) := by decide +kernel
theorem dX6_closest_17 : decode cX6_closest 17 = .ok (.iload_n 3, 1) := by decide +kernel
theorem dX6_closest_18 : decode cX6_closest 18 = .ok (.iconst (-1), 1) := by decide +kernel
theorem dX6_closest_19 : decode cX6_closest 19 = .ok (.if_icmp .eq 26, 3) := by decide +kernel
theorem dX6_closest_22 : decode cX6_closest 22 = .ok (.iload_n 1, 1) := by decide +kernel
theorem dX6_closest_23 : decode cX6_closest 23 = .ok (.bipush (-2), 2) := by decide +kernel
theorem dX6_closest_25 : decode cX6_closest 25 = .ok (.if_icmp .eq 13, 3) := by decide +kernel
theorem dX6_closest_28 : decode cX6_closest 28 = .ok (.aload_n 0, 1) := by decide +kernel
theorem dX6_closest_29 : decode cX6_closest 29 = .ok (.iload_n 2, 1) := by decide +kernel
theorem dX6_closest_30 : decode cX6_closest 30 = .ok (.iload_n 3, 1) := by decide +kernel
theorem dX6_closest_31 : decode cX6_closest 31 = .ok (.invokevirtual 52, 3) := by decide +kernel
theorem dX6_closest_34 : decode cX6_closest 34 = .ok (.iload_n 1, 1) := by decide +kernel
theorem dX6_closest_35 : decode cX6_closest 35 = .ok (.if_icmp .ge 10, 3) := by decide +kernel
theorem dX6_closest_38 : decode cX6_closest 38 = .ok (.aload_n 0, 1) := by decide +kernel
theorem dX6_closest_39 : decode cX6_closest 39 = .ok (.iload_n 2, 1) := by decide +kernel
theorem dX6_closest_40 : decode cX6_closest 40 = .ok (.iload_n 3, 1) := by decide +kernel
theorem dX6_closest_41 : decode cX6_closest 41 = .ok (.invokevirtual 52, 3) := by decide +kernel
theorem dX6_closest_44 : decode cX6_closest 44 = .ok (.istore_n 1, 1) := by decide +kernel
theorem dX6_closest_45 : decode cX6_closest 45 = .ok (.iinc 2 1, 3) := by decide +kernel
theorem dX6_closest_48 : decode cX6_closest 48 = .ok (.goto (-43), 3) := by decide +kernel
theorem dX6_closest_51 : decode cX6_closest 51 = .ok (.iload_n 1, 1) := by decide +kernel
theorem dX6_closest_52 : decode cX6_closest 52 = .ok (.ireturn, 1) := by decide +kernel
theorem dX6_countOnLine_0 : decode cX6_countOnLine 0 = .ok (.aload_n 0, 1) := by decide +kernel
theorem dX6_countOnLine_1 : decode cX6_countOnLine 1 = .ok (.iload_n 1, 1) := by decide +kernel
theorem dX6_countOnLine_2 : decode cX6_countOnLine 2 = .ok (.invokevirtual 34, 3) := by decide +kernel
theorem dX6_countOnLine_5 : decode cX6_countOnLine 5 = .ok (.ifCond .eq 11, 3) := by decide +kernel
theorem dX6_countOnLine_8 : decode cX6_countOnLine 8 = .ok (.aload_n 0, 1) := by decide +kernel
theorem dX6_countOnLine_9 : decode cX6_countOnLine 9 = .ok (.iload_n 2, 1) := by decide +kernel
theorem dX6_countOnLine_10 : decode cX6_countOnLine 10 = .ok (.invokevirtual 34, 3) := by decide +kernel
theorem dX6_countOnLine_13 : decode cX6_countOnLine 13 = .ok (.ifCond .ne 5, 3) := by decide +kernel
theorem dX6_countOnLine_16 : decode cX6_countOnLine 16 = .ok (.iconst 0, 1) := by decide +kernel
theorem dX6_countOnLine_17 : decode cX6_countOnLine 17 = .ok (.ireturn, 1) := by decide +kernel
theorem dX6_countOnLine_18 : decode cX6_countOnLine 18 = .ok (.aload_n 0, 1) := by decide +kernel
theorem dX6_countOnLine_19 : decode cX6_countOnLine 19 = .ok (.getfield 38, 3) := by decide +kernel
theorem dX6_countOnLine_22 : decode cX6_countOnLine 22 = .ok (.iload_n 2, 1) := by decide +kernel
theorem dX6_countOnLine_23 : decode cX6_countOnLine 23 = .ok (.iaload, 1) := by decide +kernel
theorem dX6_countOnLine_24 : decode cX6_countOnLine 24 = .ok (.aload_n 0, 1) := by decide +kernel
theorem dX6_countOnLine_25 : decode cX6_countOnLine 25 = .ok (.getfield 38, 3) := by decide +kernel
theorem dX6_countOnLine_28 : decode cX6_countOnLine 28 = .ok (.iload_n 1, 1) := by decide +kernel
theorem dX6_countOnLine_29 : decode cX6_countOnLine 29 = .ok (.iaload, 1) := by decide +kernel
theorem dX6_countOnLine_30 : decode cX6_countOnLine 30 = .ok (.isub, 1) := by decide +kernel
theorem dX6_countOnLine_31 : decode cX6_countOnLine 31 = .ok (.istore_n 3, 1) := by decide +kernel
theorem dX6_countOnLine_32 : decode cX6_countOnLine 32 = .ok (.aload_n 0, 1) := by decide +kernel
theorem dX6_countOnLine_33 : decode cX6_countOnLine 33 = .ok (.getfield 42, 3) := by decide +kernel
theorem dX6_countOnLine_36 : decode cX6_countOnLine 36 = .ok (.iload_n 2, 1) := by decide +kernel
theorem dX6_countOnLine_37 : decode cX6_countOnLine 37 = .ok (.iaload, 1) := by decide +kernel
theorem dX6_countOnLine_38 : decode cX6_countOnLine 38 = .ok (.aload_n 0, 1) := by decide +kernel
theorem dX6_countOnLine_39 : decode cX6_countOnLine 39 = .ok (.getfield 42, 3) := by decide +kernel
theorem dX6_countOnLine_42 : decode cX6_countOnLine 42 = .ok (.iload_n 1, 1) := by decide +kernel
theorem dX6_countOnLine_43 : decode cX6_countOnLine 43 = .ok (.iaload, 1) := by decide +kernel
theorem dX6_countOnLine_44 : decode cX6_countOnLine 44 = .ok (.isub, 1) := by decide +kernel
theorem dX6_countOnLine_45 : decode cX6_countOnLine 45 = .ok (.istore 4, 2) := by decide +kernel
theorem dX6_countOnLine_47 : decode cX6_countOnLine 47 = .ok (.iconst 0, 1) := by decide +kernel
theorem dX6_countOnLine_48 : decode cX6_countOnLine 48 = .ok (.istore 5, 2) := by decide +kernel
theorem dX6_countOnLine_50 : decode cX6_countOnLine 50 = .ok (.iconst 0, 1) := by decide +kernel
theorem dX6_countOnLine_51 : decode cX6_countOnLine 51 = .ok (.istore 6, 2) := by decide +kernel
theorem dX6_countOnLine_53 : decode cX6_countOnLine 53 = .ok (.iload 6, 2) := by decide +kernel
theorem dX6_countOnLine_55 : decode cX6_countOnLine 55 = .ok (.bipush 40, 2) := by decide +kernel
theorem dX6_countOnLine_57 : decode cX6_countOnLine 57 = .ok (.if_icmp .ge 58, 3) := by decide +kernel
theorem dX6_countOnLine_60 : decode cX6_countOnLine 60 = .ok (.aload_n 0, 1) := by decide +kernel
theorem dX6_countOnLine_61 : decode cX6_countOnLine 61 = .ok (.getfield 21, 3) := by decide +kernel
theorem dX6_countOnLine_64 : decode cX6_countOnLine 64 = .ok (.iload 6, 2) := by decide +kernel
theorem dX6_countOnLine_66 : decode cX6_countOnLine 66 = .ok (.baload, 1) := by decide +kernel
theorem dX6_countOnLine_67 : decode cX6_countOnLine 67 = .ok (.ifCond .eq 42, 3) := by decide +kernel
theorem dX6_countOnLine_70 : decode cX6_countOnLine 70 = .ok (.iload_n 3, 1) := by decide +kernel
theorem dX6_countOnLine_71 : decode cX6_countOnLine 71 = .ok (.aload_n 0, 1) := by decide +kernel
theorem dX6_countOnLine_72 : decode cX6_countOnLine 72 = .ok (.getfield 42, 3) := by decide +kernel
theorem dX6_countOnLine_75 : decode cX6_countOnLine 75 = .ok (.iload 6, 2) := by decide +kernel
theorem dX6_countOnLine_77 : decode cX6_countOnLine 77 = .ok (.iaload, 1) := by decide +kernel
theorem dX6_countOnLine_78 : decode cX6_countOnLine 78 = .ok (.aload_n 0, 1) := by decide +kernel
theorem dX6_countOnLine_79 : decode cX6_countOnLine 79 = .ok (.getfield 42, 3) := by decide +kernel
theorem dX6_countOnLine_82 : decode cX6_countOnLine 82 = .ok (.iload_n 1, 1) := by decide +kernel
theorem dX6_countOnLine_83 : decode cX6_countOnLine 83 = .ok (.iaload, 1) := by decide +kernel
theorem dX6_countOnLine_84 : decode cX6_countOnLine 84 = .ok (.isub, 1) := by decide +kernel
theorem dX6_countOnLine_85 : decode cX6_countOnLine 85 = .ok (.imul, 1) := by decide +kernel
theorem dX6_countOnLine_86 : decode cX6_countOnLine 86 = .ok (.iload 4, 2) := by decide +kernel
theorem dX6_countOnLine_88 : decode cX6_countOnLine 88 = .ok (.aload_n 0, 1) := by decide +kernel
theorem dX6_countOnLine_89 : decode cX6_countOnLine 89 = .ok (.getfield 38, 3) := by decide +kernel
theorem dX6_countOnLine_92 : decode cX6_countOnLine 92 = .ok (.iload 6, 2) := by decide +kernel
theorem dX6_countOnLine_94 : decode cX6_countOnLine 94 = .ok (.iaload, 1) := by decide +kernel
theorem dX6_countOnLine_95 : decode cX6_countOnLine 95 = .ok (.aload_n 0, 1) := by decide +kernel
theorem dX6_countOnLine_96 : decode cX6_countOnLine 96 = .ok (.getfield 38, 3) := by decide +kernel
theorem dX6_countOnLine_99 : decode cX6_countOnLine 99 = .ok (.iload_n 1, 1) := by decide +kernel
theorem dX6_countOnLine_100 : decode cX6_countOnLine 100 = .ok (.iaload, 1) := by decide +kernel
theorem dX6_countOnLine_101 : decode cX6_countOnLine 101 = .ok (.isub, 1) := by decide +kernel
theorem dX6_countOnLine_102 : decode cX6_countOnLine 102 = .ok (.imul, 1) := by decide +kernel
theorem dX6_countOnLine_103 : decode cX6_countOnLine 103 = .ok (.if_icmp .ne 6, 3) := by decide +kernel
theorem dX6_countOnLine_106 : decode cX6_countOnLine 106 = .ok (.iinc 5 1, 3) := by decide +kernel
theorem dX6_countOnLine_109 : decode cX6_countOnLine 109 = .ok (.iinc 6 1, 3) := by decide +kernel
theorem dX6_countOnLine_112 : decode cX6_countOnLine 112 = .ok (.goto (-59), 3) := by decide +kernel
theorem dX6_countOnLine_115 : decode cX6_countOnLine 115 = .ok (.iload 5, 2) := by decide +kernel
theorem dX6_countOnLine_117 : decode cX6_countOnLine 117 = .ok (.ireturn, 1) := by decide +kernel
theorem dX6_line_0 : decode cX6_line 0 = .ok (.iconst 2, 1) := by decide +kernel
theorem dX6_line_1 : decode cX6_line 1 = .ok (.aload_n 0, 1) := by decide +kernel
theorem dX6_line_2 : decode cX6_line 2 = .ok (.invokevirtual 9, 3) := by decide +kernel
theorem dX6_line_5 : decode cX6_line 5 = .ok (.invokestatic 15, 3) := by decide +kernel
theorem dX6_line_8 : decode cX6_line 8 = .ok (.istore_n 1, 1) := by decide +kernel
theorem dX6_line_9 : decode cX6_line 9 = .ok (.iconst 0, 1) := by decide +kernel
theorem dX6_line_10 : decode cX6_line 10 = .ok (.istore_n 2, 1) := by decide +kernel
theorem dX6_line_11 : decode cX6_line 11 = .ok (.iload_n 2, 1) := by decide +kernel
theorem dX6_line_12 : decode cX6_line 12 = .ok (.bipush 40, 2) := by decide +kernel
theorem dX6_line_14 : decode cX6_line 14 = .ok (.if_icmp .ge 54, 3) := by decide +kernel
theorem dX6_line_17 : decode cX6_line 17 = .ok (.iload_n 2, 1) := by decide +kernel
theorem dX6_line_18 : decode cX6_line 18 = .ok (.iconst 1, 1) := by decide +kernel
theorem dX6_line_19 : decode cX6_line 19 = .ok (.iadd, 1) := by decide +kernel
theorem dX6_line_20 : decode cX6_line 20 = .ok (.istore_n 3, 1) := by decide +kernel
theorem dX6_line_21 : decode cX6_line 21 = .ok (.iload_n 3, 1) := by decide +kernel
theorem dX6_line_22 : decode cX6_line 22 = .ok (.bipush 40, 2) := by decide +kernel
theorem dX6_line_24 : decode cX6_line 24 = .ok (.if_icmp .ge 38, 3) := by decide +kernel
theorem dX6_line_27 : decode cX6_line 27 = .ok (.aload_n 0, 1) := by decide +kernel
theorem dX6_line_28 : decode cX6_line 28 = .ok (.getfield 21, 3) := by decide +kernel
theorem dX6_line_31 : decode cX6_line 31 = .ok (.iload_n 2, 1) := by decide +kernel
theorem dX6_line_32 : decode cX6_line 32 = .ok (.baload, 1) := by decide +kernel
theorem dX6_line_33 : decode cX6_line 33 = .ok (.ifCond .eq 23, 3) := by decide +kernel
theorem dX6_line_36 : decode cX6_line 36 = .ok (.aload_n 0, 1) := by decide +kernel
theorem dX6_line_37 : decode cX6_line 37 = .ok (.getfield 21, 3) := by decide +kernel
theorem dX6_line_40 : decode cX6_line 40 = .ok (.iload_n 3, 1) := by decide +kernel
theorem dX6_line_41 : decode cX6_line 41 = .ok (.baload, 1) := by decide +kernel
theorem dX6_line_42 : decode cX6_line 42 = .ok (.ifCond .eq 14, 3) := by decide +kernel
theorem dX6_line_45 : decode cX6_line 45 = .ok (.iload_n 1, 1) := by decide +kernel
theorem dX6_line_46 : decode cX6_line 46 = .ok (.aload_n 0, 1) := by decide +kernel
theorem dX6_line_47 : decode cX6_line 47 = .ok (.iload_n 2, 1) := by decide +kernel
theorem dX6_line_48 : decode cX6_line 48 = .ok (.iload_n 3, 1) := by decide +kernel
theorem dX6_line_49 : decode cX6_line 49 = .ok (.invokestatic 25, 3) := by decide +kernel
theorem dX6_line_52 : decode cX6_line 52 = .ok (.invokestatic 31, 3) := by decide +kernel
theorem dX6_line_55 : decode cX6_line 55 = .ok (.istore_n 1, 1) := by decide +kernel
theorem dX6_line_56 : decode cX6_line 56 = .ok (.iinc 3 1, 3) := by decide +kernel
theorem dX6_line_59 : decode cX6_line 59 = .ok (.goto (-38), 3) := by decide +kernel
theorem dX6_line_62 : decode cX6_line 62 = .ok (.iinc 2 1, 3) := by decide +kernel
theorem dX6_line_65 : decode cX6_line 65 = .ok (.goto (-54), 3) := by decide +kernel
theorem dX6_line_68 : decode cX6_line 68 = .ok (.iload_n 1, 1) := by decide +kernel
theorem dX6_line_69 : decode cX6_line 69 = .ok (.ireturn, 1) := by decide +kernel
theorem dX6_pairs_0 : decode cX6_pairs 0 = .ok (.iconst 0, 1) := by decide +kernel
theorem dX6_pairs_1 : decode cX6_pairs 1 = .ok (.istore_n 1, 1) := by decide +kernel
theorem dX6_pairs_2 : decode cX6_pairs 2 = .ok (.iconst 0, 1) := by decide +kernel
theorem dX6_pairs_3 : decode cX6_pairs 3 = .ok (.istore_n 2, 1) := by decide +kernel
theorem dX6_pairs_4 : decode cX6_pairs 4 = .ok (.iload_n 2, 1) := by decide +kernel
theorem dX6_pairs_5 : decode cX6_pairs 5 = .ok (.bipush 40, 2) := by decide +kernel
theorem dX6_pairs_7 : decode cX6_pairs 7 = .ok (.if_icmp .ge 32, 3) := by decide +kernel
theorem dX6_pairs_10 : decode cX6_pairs 10 = .ok (.aload_n 0, 1) := by decide +kernel
theorem dX6_pairs_11 : decode cX6_pairs 11 = .ok (.iload_n 2, 1) := by decide +kernel
theorem dX6_pairs_12 : decode cX6_pairs 12 = .ok (.invokestatic 48, 3) := by decide +kernel
theorem dX6_pairs_15 : decode cX6_pairs 15 = .ok (.istore_n 3, 1) := by decide +kernel
theorem dX6_pairs_16 : decode cX6_pairs 16 = .ok (.iload_n 3, 1) := by decide +kernel
theorem dX6_pairs_17 : decode cX6_pairs 17 = .ok (.iload_n 2, 1) := by decide +kernel
theorem dX6_pairs_18 : decode cX6_pairs 18 = .ok (.if_icmp .le 15, 3) := by decide +kernel
theorem dX6_pairs_21 : decode cX6_pairs 21 = .ok (.aload_n 0, 1) := by decide +kernel
theorem dX6_pairs_22 : decode cX6_pairs 22 = .ok (.iload_n 3, 1) := by decide +kernel
theorem dX6_pairs_23 : decode cX6_pairs 23 = .ok (.invokestatic 48, 3) := by decide +kernel
theorem dX6_pairs_26 : decode cX6_pairs 26 = .ok (.iload_n 2, 1) := by decide +kernel
theorem dX6_pairs_27 : decode cX6_pairs 27 = .ok (.if_icmp .ne 6, 3) := by decide +kernel
theorem dX6_pairs_30 : decode cX6_pairs 30 = .ok (.iinc 1 1, 3) := by decide +kernel
theorem dX6_pairs_33 : decode cX6_pairs 33 = .ok (.iinc 2 1, 3) := by decide +kernel
theorem dX6_pairs_36 : decode cX6_pairs 36 = .ok (.goto (-32), 3) := by decide +kernel
theorem dX6_pairs_39 : decode cX6_pairs 39 = .ok (.iload_n 1, 1) := by decide +kernel
theorem dX6_pairs_40 : decode cX6_pairs 40 = .ok (.ireturn, 1) := by decide +kernel
theorem dX6_yardApart_0 : decode cX6_yardApart 0 = .ok (.iconst 0, 1) := by decide +kernel
theorem dX6_yardApart_1 : decode cX6_yardApart 1 = .ok (.istore_n 1, 1) := by decide +kernel
theorem dX6_yardApart_2 : decode cX6_yardApart 2 = .ok (.iconst 0, 1) := by decide +kernel
theorem dX6_yardApart_3 : decode cX6_yardApart 3 = .ok (.istore_n 2, 1) := by decide +kernel
theorem dX6_yardApart_4 : decode cX6_yardApart 4 = .ok (.iload_n 2, 1) := by decide +kernel
theorem dX6_yardApart_5 : decode cX6_yardApart 5 = .ok (.bipush 40, 2) := by decide +kernel
theorem dX6_yardApart_7 : decode cX6_yardApart 7 = .ok (.if_icmp .ge 60, 3) := by decide +kernel
theorem dX6_yardApart_10 : decode cX6_yardApart 10 = .ok (.aload_n 0, 1) := by decide +kernel
theorem dX6_yardApart_11 : decode cX6_yardApart 11 = .ok (.getfield 21, 3) := by decide +kernel
theorem dX6_yardApart_14 : decode cX6_yardApart 14 = .ok (.iload_n 2, 1) := by decide +kernel
theorem dX6_yardApart_15 : decode cX6_yardApart 15 = .ok (.baload, 1) := by decide +kernel
theorem dX6_yardApart_16 : decode cX6_yardApart 16 = .ok (.ifCond .eq 45, 3) := by decide +kernel
theorem dX6_yardApart_19 : decode cX6_yardApart 19 = .ok (.iconst 1, 1) := by decide +kernel
theorem dX6_yardApart_20 : decode cX6_yardApart 20 = .ok (.istore_n 3, 1) := by decide +kernel
theorem dX6_yardApart_21 : decode cX6_yardApart 21 = .ok (.iload_n 3, 1) := by decide +kernel
theorem dX6_yardApart_22 : decode cX6_yardApart 22 = .ok (.bipush 20, 2) := by decide +kernel
theorem dX6_yardApart_24 : decode cX6_yardApart 24 = .ok (.if_icmp .ge 31, 3) := by decide +kernel
theorem dX6_yardApart_27 : decode cX6_yardApart 27 = .ok (.aload_n 0, 1) := by decide +kernel
theorem dX6_yardApart_28 : decode cX6_yardApart 28 = .ok (.aload_n 0, 1) := by decide +kernel
theorem dX6_yardApart_29 : decode cX6_yardApart 29 = .ok (.getfield 38, 3) := by decide +kernel
theorem dX6_yardApart_32 : decode cX6_yardApart 32 = .ok (.iload_n 2, 1) := by decide +kernel
theorem dX6_yardApart_33 : decode cX6_yardApart 33 = .ok (.iaload, 1) := by decide +kernel
theorem dX6_yardApart_34 : decode cX6_yardApart 34 = .ok (.aload_n 0, 1) := by decide +kernel
theorem dX6_yardApart_35 : decode cX6_yardApart 35 = .ok (.getfield 42, 3) := by decide +kernel
theorem dX6_yardApart_38 : decode cX6_yardApart 38 = .ok (.iload_n 2, 1) := by decide +kernel
theorem dX6_yardApart_39 : decode cX6_yardApart 39 = .ok (.iaload, 1) := by decide +kernel
theorem dX6_yardApart_40 : decode cX6_yardApart 40 = .ok (.iload_n 3, 1) := by decide +kernel
theorem dX6_yardApart_41 : decode cX6_yardApart 41 = .ok (.iadd, 1) := by decide +kernel
theorem dX6_yardApart_42 : decode cX6_yardApart 42 = .ok (.invokevirtual 45, 3) := by decide +kernel
theorem dX6_yardApart_45 : decode cX6_yardApart 45 = .ok (.iconst (-1), 1) := by decide +kernel
theorem dX6_yardApart_46 : decode cX6_yardApart 46 = .ok (.if_icmp .eq 9, 3) := by decide +kernel
theorem dX6_yardApart_49 : decode cX6_yardApart 49 = .ok (.iinc 3 1, 3) := by decide +kernel
theorem dX6_yardApart_52 : decode cX6_yardApart 52 = .ok (.goto (-31), 3) := by decide +kernel
theorem dX6_yardApart_55 : decode cX6_yardApart 55 = .ok (.iload_n 1, 1) := by decide +kernel
theorem dX6_yardApart_56 : decode cX6_yardApart 56 = .ok (.iload_n 3, 1) := by decide +kernel
theorem dX6_yardApart_57 : decode cX6_yardApart 57 = .ok (.invokestatic 31, 3) := by decide +kernel
theorem dX6_yardApart_60 : decode cX6_yardApart 60 = .ok (.istore_n 1, 1) := by decide +kernel
theorem dX6_yardApart_61 : decode cX6_yardApart 61 = .ok (.iinc 2 1, 3) := by decide +kernel
theorem dX6_yardApart_64 : decode cX6_yardApart 64 = .ok (.goto (-60), 3) := by decide +kernel
theorem dX6_yardApart_67 : decode cX6_yardApart 67 = .ok (.iload_n 1, 1) := by decide +kernel
theorem dX6_yardApart_68 : decode cX6_yardApart 68 = .ok (.ireturn, 1) := by decide +kernel
theorem dX7_append_0 : decode cX7_append 0 = .ok (.bipush 24, 2) := by decide +kernel
theorem dX7_append_2 : decode cX7_append 2 = .ok (.istore_n 2, 1) := by decide +kernel
theorem dX7_append_3 : decode cX7_append 3 = .ok (.iload_n 2, 1) := by decide +kernel
theorem dX7_append_4 : decode cX7_append 4 = .ok (.ifCond .lt 52, 3) := by decide +kernel
theorem dX7_append_7 : decode cX7_append 7 = .ok (.aload_n 0, 1) := by decide +kernel
theorem dX7_append_8 : decode cX7_append 8 = .ok (.getfield 15, 3) := by decide +kernel
theorem dX7_append_11 : decode cX7_append 11 = .ok (.ifCond .lt 39, 3) := by decide +kernel
theorem dX7_append_14 : decode cX7_append 14 = .ok (.aload_n 0, 1) := by decide +kernel
theorem dX7_append_15 : decode cX7_append 15 = .ok (.getfield 15, 3) := by decide +kernel
theorem dX7_append_18 : decode cX7_append 18 = .ok (.sipush 260, 3) := by decide +kernel
theorem dX7_append_21 : decode cX7_append 21 = .ok (.if_icmp .ge 29, 3) := by decide +kernel
theorem dX7_append_24 : decode cX7_append 24 = .ok (.aload_n 0, 1) := by decide +kernel
theorem dX7_append_25 : decode cX7_append 25 = .ok (.getfield 9, 3) := by decide +kernel
theorem dX7_append_28 : decode cX7_append 28 = .ok (.aload_n 0, 1) := by decide +kernel
theorem dX7_append_29 : decode cX7_append 29 = .ok (.getfield 15, 3) := by decide +kernel
theorem dX7_append_32 : decode cX7_append 32 = .ok (.iload_n 1, 1) := by decide +kernel
theorem dX7_append_33 : decode cX7_append 33 = .ok (.iload_n 2, 1) := by decide +kernel
theorem dX7_append_34 : decode cX7_append 34 = .ok (.ishr, 1) := by decide +kernel
theorem dX7_append_35 : decode cX7_append 35 = .ok (.sipush 255, 3) := by decide +kernel
theorem dX7_append_38 : decode cX7_append 38 = .ok (.iand, 1) := by decide +kernel
theorem dX7_append_39 : decode cX7_append 39 = .ok (.iastore, 1) := by decide +kernel
theorem dX7_append_40 : decode cX7_append 40 = .ok (.aload_n 0, 1) := by decide +kernel
theorem dX7_append_41 : decode cX7_append 41 = .ok (.dup, 1) := by decide +kernel
theorem dX7_append_42 : decode cX7_append 42 = .ok (.getfield 15, 3) := by decide +kernel
theorem dX7_append_45 : decode cX7_append 45 = .ok (.iconst 1, 1) := by decide +kernel
theorem dX7_append_46 : decode cX7_append 46 = .ok (.iadd, 1) := by decide +kernel
theorem dX7_append_47 : decode cX7_append 47 = .ok (.putfield 15, 3) := by decide +kernel
theorem dX7_append_50 : decode cX7_append 50 = .ok (.iinc 2 (-8), 3) := by decide +kernel
theorem dX7_append_53 : decode cX7_append 53 = .ok (.goto (-50), 3) := by decide +kernel
theorem dX7_append_56 : decode cX7_append 56 = .ok (.return_, 1) := by decide +kernel
theorem dX7_holds_0 : decode cX7_holds 0 = .ok (.iload_n 1, 1) := by decide +kernel
theorem dX7_holds_1 : decode cX7_holds 1 = .ok (.iload_n 2, 1) := by decide +kernel
theorem dX7_holds_2 : decode cX7_holds 2 = .ok (.if_icmp .lt 20, 3) := by decide +kernel
theorem dX7_holds_5 : decode cX7_holds 5 = .ok (.iload_n 1, 1) := by decide +kernel
theorem dX7_holds_6 : decode cX7_holds 6 = .ok (.iload_n 3, 1) := by decide +kernel
theorem dX7_holds_7 : decode cX7_holds 7 = .ok (.if_icmp .gt 15, 3) := by decide +kernel
theorem dX7_holds_10 : decode cX7_holds 10 = .ok (.iload_n 1, 1) := by decide +kernel
theorem dX7_holds_11 : decode cX7_holds 11 = .ok (.aload_n 0, 1) := by decide +kernel
theorem dX7_holds_12 : decode cX7_holds 12 = .ok (.getfield 15, 3) := by decide +kernel
theorem dX7_holds_15 : decode cX7_holds 15 = .ok (.if_icmp .gt 7, 3) := by decide +kernel
theorem dX7_holds_18 : decode cX7_holds 18 = .ok (.iconst 1, 1) := by decide +kernel
theorem dX7_holds_19 : decode cX7_holds 19 = .ok (.goto 4, 3) := by decide +kernel
theorem dX7_holds_22 : decode cX7_holds 22 = .ok (.iconst 0, 1) := by decide +kernel
theorem dX7_holds_23 : decode cX7_holds 23 = .ok (.ireturn, 1) := by decide +kernel
theorem dX7_open_0 : decode cX7_open 0 = .ok (.aload_n 0, 1) := by decide +kernel
theorem dX7_open_1 : decode cX7_open 1 = .ok (.iload_n 1, 1) := by decide +kernel
theorem dX7_open_2 : decode cX7_open 2 = .ok (.putfield 19, 3) := by decide +kernel
theorem dX7_open_5 : decode cX7_open 5 = .ok (.aload_n 0, 1) := by decide +kernel
theorem dX7_open_6 : decode cX7_open 6 = .ok (.iconst 0, 1) := by decide +kernel
theorem dX7_open_7 : decode cX7_open 7 = .ok (.putfield 22, 3) := by decide +kernel
theorem dX7_open_10 : decode cX7_open 10 = .ok (.aload_n 0, 1) := by decide +kernel
theorem dX7_open_11 : decode cX7_open 11 = .ok (.iconst 0, 1) := by decide +kernel
theorem dX7_open_12 : decode cX7_open 12 = .ok (.putfield 25, 3) := by decide +kernel
theorem dX7_open_15 : decode cX7_open 15 = .ok (.aload_n 0, 1) := by decide +kernel
theorem dX7_open_16 : decode cX7_open 16 = .ok (.iconst 0, 1) := by decide +kernel
theorem dX7_open_17 : decode cX7_open 17 = .ok (.putfield 15, 3) := by decide +kernel
theorem dX7_open_20 : decode cX7_open 20 = .ok (.return_, 1) := by decide +kernel
theorem dX8_spreadOn_0 : decode cX8_spreadOn 0 = .ok (.iload_n 3, 1) := by decide +kernel
theorem dX8_spreadOn_1 : decode cX8_spreadOn 1 = .ok (.ifCond .lt 17, 3) := by decide +kernel
theorem dX8_spreadOn_4 : decode cX8_spreadOn 4 = .ok (.iload_n 3, 1) := by decide +kernel
theorem dX8_spreadOn_5 : decode cX8_spreadOn 5 = .ok (.bipush 42, 2) := by decide +kernel
theorem dX8_spreadOn_7 : decode cX8_spreadOn 7 = .ok (.if_icmp .ge 11, 3) := by decide +kernel
theorem dX8_spreadOn_10 : decode cX8_spreadOn 10 = .ok (.aload 4, 2) := by decide +kernel
theorem dX8_spreadOn_12 : decode cX8_spreadOn 12 = .ok (.arraylength, 1) := by decide +kernel
theorem dX8_spreadOn_13 : decode cX8_spreadOn 13 = .ok (.bipush 42, 2) := by decide +kernel
theorem dX8_spreadOn_15 : decode cX8_spreadOn 15 = .ok (.if_icmp .ge 5, 3) := by decide +kernel
theorem dX8_spreadOn_18 : decode cX8_spreadOn 18 = .ok (.iconst 0, 1) := by decide +kernel
theorem dX8_spreadOn_19 : decode cX8_spreadOn 19 = .ok (.ireturn, 1) := by decide +kernel
theorem dX8_spreadOn_20 : decode cX8_spreadOn 20 = .ok (.aload 4, 2) := by decide +kernel
theorem dX8_spreadOn_22 : decode cX8_spreadOn 22 = .ok (.iload_n 3, 1) := by decide +kernel
theorem dX8_spreadOn_23 : decode cX8_spreadOn 23 = .ok (.iconst 0, 1) := by decide +kernel
theorem dX8_spreadOn_24 : decode cX8_spreadOn 24 = .ok (.iastore, 1) := by decide +kernel
theorem dX8_spreadOn_25 : decode cX8_spreadOn 25 = .ok (.aload_n 0, 1) := by decide +kernel
theorem dX8_spreadOn_26 : decode cX8_spreadOn 26 = .ok (.getfield 18, 3) := by decide +kernel
theorem dX8_spreadOn_29 : decode cX8_spreadOn 29 = .ok (.iconst 0, 1) := by decide +kernel
theorem dX8_spreadOn_30 : decode cX8_spreadOn 30 = .ok (.iload_n 3, 1) := by decide +kernel
theorem dX8_spreadOn_31 : decode cX8_spreadOn 31 = .ok (.iastore, 1) := by decide +kernel
theorem dX8_spreadOn_32 : decode cX8_spreadOn 32 = .ok (.iconst 1, 1) := by decide +kernel
theorem dX8_spreadOn_33 : decode cX8_spreadOn 33 = .ok (.istore 6, 2) := by decide +kernel
theorem dX8_spreadOn_35 : decode cX8_spreadOn 35 = .ok (.iconst 0, 1) := by decide +kernel
theorem dX8_spreadOn_36 : decode cX8_spreadOn 36 = .ok (.istore 7, 2) := by decide +kernel
theorem dX8_spreadOn_38 : decode cX8_spreadOn 38 = .ok (.iload 7, 2) := by decide +kernel
theorem dX8_spreadOn_40 : decode cX8_spreadOn 40 = .ok (.iload 6, 2) := by decide +kernel
theorem dX8_spreadOn_42 : decode cX8_spreadOn 42 = .ok (.if_icmp .ge 120, 3) := by decide +kernel
theorem dX8_spreadOn_45 : decode cX8_spreadOn 45 = .ok (.iload 7, 2) := by decide +kernel
theorem dX8_spreadOn_47 : decode cX8_spreadOn 47 = .ok (.bipush 42, 2) := by decide +kernel
theorem dX8_spreadOn_49 : decode cX8_spreadOn 49 = .ok (.if_icmp .ge 113, 3) := by decide +kernel
theorem dX8_spreadOn_52 : decode cX8_spreadOn 52 = .ok (.aload_n 0, 1) := by decide +kernel
theorem dX8_spreadOn_53 : decode cX8_spreadOn 53 = .ok (.getfield 18, 3) := by decide +kernel
theorem dX8_spreadOn_56 : decode cX8_spreadOn 56 = .ok (.iload 7, 2) := by decide +kernel
theorem dX8_spreadOn_58 : decode cX8_spreadOn 58 = .ok (.iaload, 1) := by decide +kernel
theorem dX8_spreadOn_59 : decode cX8_spreadOn 59 = .ok (.istore 8, 2) := by decide +kernel
theorem dX8_spreadOn_61 : decode cX8_spreadOn 61 = .ok (.iload 8, 2) := by decide +kernel
theorem dX8_spreadOn_63 : decode cX8_spreadOn 63 = .ok (.ifCond .lt 20, 3) := by decide +kernel
theorem dX8_spreadOn_66 : decode cX8_spreadOn 66 = .ok (.iload 8, 2) := by decide +kernel
theorem dX8_spreadOn_68 : decode cX8_spreadOn 68 = .ok (.bipush 42, 2) := by decide +kernel
theorem dX8_spreadOn_70 : decode cX8_spreadOn 70 = .ok (.if_icmp .ge 13, 3) := by decide +kernel
theorem dX8_spreadOn_73 : decode cX8_spreadOn 73 = .ok (.aload 4, 2) := by decide +kernel
theorem dX8_spreadOn_75 : decode cX8_spreadOn 75 = .ok (.iload 8, 2) := by decide +kernel
theorem dX8_spreadOn_77 : decode cX8_spreadOn 77 = .ok (.iaload, 1) := by decide +kernel
theorem dX8_spreadOn_78 : decode cX8_spreadOn 78 = .ok (.iconst 1, 1) := by decide +kernel
theorem dX8_spreadOn_79 : decode cX8_spreadOn 79 = .ok (.iadd, 1) := by decide +kernel
theorem dX8_spreadOn_80 : decode cX8_spreadOn 80 = .ok (.goto 4, 3) := by decide +kernel
theorem dX8_spreadOn_83 : decode cX8_spreadOn 83 = .ok (.iconst 0, 1) := by decide +kernel
theorem dX8_spreadOn_84 : decode cX8_spreadOn 84 = .ok (.istore 9, 2) := by decide +kernel
theorem dX8_spreadOn_86 : decode cX8_spreadOn 86 = .ok (.iconst 0, 1) := by decide +kernel
theorem dX8_spreadOn_87 : decode cX8_spreadOn 87 = .ok (.istore 10, 2) := by decide +kernel
theorem dX8_spreadOn_89 : decode cX8_spreadOn 89 = .ok (.iload 10, 2) := by decide +kernel
theorem dX8_spreadOn_91 : decode cX8_spreadOn 91 = .ok (.iload 5, 2) := by decide +kernel
theorem dX8_spreadOn_93 : decode cX8_spreadOn 93 = .ok (.if_icmp .ge 63, 3) := by decide +kernel
theorem dX8_spreadOn_96 : decode cX8_spreadOn 96 = .ok (.iload 10, 2) := by decide +kernel
theorem dX8_spreadOn_98 : decode cX8_spreadOn 98 = .ok (.bipush 42, 2) := by decide +kernel
theorem dX8_spreadOn_100 : decode cX8_spreadOn 100 = .ok (.if_icmp .ge 56, 3) := by decide +kernel
theorem dX8_spreadOn_103 : decode cX8_spreadOn 103 = .ok (.aload 4, 2) := by decide +kernel
theorem dX8_spreadOn_105 : decode cX8_spreadOn 105 = .ok (.iload 10, 2) := by decide +kernel
theorem dX8_spreadOn_107 : decode cX8_spreadOn 107 = .ok (.iaload, 1) := by decide +kernel
theorem dX8_spreadOn_108 : decode cX8_spreadOn 108 = .ok (.iconst (-1), 1) := by decide +kernel
theorem dX8_spreadOn_109 : decode cX8_spreadOn 109 = .ok (.if_icmp .ne 41, 3) := by decide +kernel
theorem dX8_spreadOn_112 : decode cX8_spreadOn 112 = .ok (.iload 6, 2) := by decide +kernel
theorem dX8_spreadOn_114 : decode cX8_spreadOn 114 = .ok (.bipush 42, 2) := by decide +kernel
theorem dX8_spreadOn_116 : decode cX8_spreadOn 116 = .ok (.if_icmp .ge 34, 3) := by decide +kernel
theorem dX8_spreadOn_119 : decode cX8_spreadOn 119 = .ok (.aload_n 1, 1) := by decide +kernel
theorem dX8_spreadOn_120 : decode cX8_spreadOn 120 = .ok (.iload 8, 2) := by decide +kernel
theorem dX8_spreadOn_122 : decode cX8_spreadOn 122 = .ok (.iload 10, 2) := by decide +kernel
theorem dX8_spreadOn_124 : decode cX8_spreadOn 124 = .ok (.iload_n 2, 1) := by decide +kernel
theorem dX8_spreadOn_125 : decode cX8_spreadOn 125 = .ok (.invokevirtual 41, 3) := by decide +kernel
theorem dX8_spreadOn_128 : decode cX8_spreadOn 128 = .ok (.ifCond .eq 22, 3) := by decide +kernel
theorem dX8_spreadOn_131 : decode cX8_spreadOn 131 = .ok (.aload 4, 2) := by decide +kernel
theorem dX8_spreadOn_133 : decode cX8_spreadOn 133 = .ok (.iload 10, 2) := by decide +kernel
theorem dX8_spreadOn_135 : decode cX8_spreadOn 135 = .ok (.iload 9, 2) := by decide +kernel
theorem dX8_spreadOn_137 : decode cX8_spreadOn 137 = .ok (.iastore, 1) := by decide +kernel
theorem dX8_spreadOn_138 : decode cX8_spreadOn 138 = .ok (.aload_n 0, 1) := by decide +kernel
theorem dX8_spreadOn_139 : decode cX8_spreadOn 139 = .ok (.getfield 18, 3) := by decide +kernel
theorem dX8_spreadOn_142 : decode cX8_spreadOn 142 = .ok (.iload 6, 2) := by decide +kernel
theorem dX8_spreadOn_144 : decode cX8_spreadOn 144 = .ok (.iload 10, 2) := by decide +kernel
theorem dX8_spreadOn_146 : decode cX8_spreadOn 146 = .ok (.iastore, 1) := by decide +kernel
theorem dX8_spreadOn_147 : decode cX8_spreadOn 147 = .ok (.iinc 6 1, 3) := by decide +kernel
theorem dX8_spreadOn_150 : decode cX8_spreadOn 150 = .ok (.iinc 10 1, 3) := by decide +kernel
theorem dX8_spreadOn_153 : decode cX8_spreadOn 153 = .ok (.goto (-64), 3) := by decide +kernel
theorem dX8_spreadOn_156 : decode cX8_spreadOn 156 = .ok (.iinc 7 1, 3) := by decide +kernel
theorem dX8_spreadOn_159 : decode cX8_spreadOn 159 = .ok (.goto (-121), 3) := by decide +kernel
theorem dX8_spreadOn_162 : decode cX8_spreadOn 162 = .ok (.iload 6, 2) := by decide +kernel
theorem dX8_spreadOn_164 : decode cX8_spreadOn 164 = .ok (.ireturn, 1) := by decide +kernel
theorem dX8_spread_0 : decode cX8_spread 0 = .ok (.aload 4, 2) := by decide +kernel
theorem dX8_spread_2 : decode cX8_spread 2 = .ok (.iconst (-1), 1) := by decide +kernel
theorem dX8_spread_3 : decode cX8_spread 3 = .ok (.invokestatic 31, 3) := by decide +kernel
theorem dX8_spread_6 : decode cX8_spread 6 = .ok (.aload_n 0, 1) := by decide +kernel
theorem dX8_spread_7 : decode cX8_spread 7 = .ok (.aload_n 1, 1) := by decide +kernel
theorem dX8_spread_8 : decode cX8_spread 8 = .ok (.iload_n 2, 1) := by decide +kernel
theorem dX8_spread_9 : decode cX8_spread 9 = .ok (.iload_n 3, 1) := by decide +kernel
theorem dX8_spread_10 : decode cX8_spread 10 = .ok (.aload 4, 2) := by decide +kernel
theorem dX8_spread_12 : decode cX8_spread 12 = .ok (.iload 5, 2) := by decide +kernel
theorem dX8_spread_14 : decode cX8_spread 14 = .ok (.invokevirtual 37, 3) := by decide +kernel
theorem dX8_spread_17 : decode cX8_spread 17 = .ok (.ireturn, 1) := by decide +kernel
theorem dX8_canCross_0 : decode cX8_canCross 0 = .ok (.aload_n 0, 1) := by decide +kernel
theorem dX8_canCross_1 : decode cX8_canCross 1 = .ok (.aload_n 1, 1) := by decide +kernel
theorem dX8_canCross_2 : decode cX8_canCross 2 = .ok (.iload_n 2, 1) := by decide +kernel
theorem dX8_canCross_3 : decode cX8_canCross 3 = .ok (.bipush 40, 2) := by decide +kernel
theorem dX8_canCross_5 : decode cX8_canCross 5 = .ok (.aload_n 0, 1) := by decide +kernel
theorem dX8_canCross_6 : decode cX8_canCross 6 = .ok (.getfield 9, 3) := by decide +kernel
theorem dX8_canCross_9 : decode cX8_canCross 9 = .ok (.bipush 42, 2) := by decide +kernel
theorem dX8_canCross_11 : decode cX8_canCross 11 = .ok (.invokevirtual 47, 3) := by decide +kernel
theorem dX8_canCross_14 : decode cX8_canCross 14 = .ok (.pop, 1) := by decide +kernel
theorem dX8_canCross_15 : decode cX8_canCross 15 = .ok (.aload_n 0, 1) := by decide +kernel
theorem dX8_canCross_16 : decode cX8_canCross 16 = .ok (.getfield 9, 3) := by decide +kernel
theorem dX8_canCross_19 : decode cX8_canCross 19 = .ok (.bipush 41, 2) := by decide +kernel
theorem dX8_canCross_21 : decode cX8_canCross 21 = .ok (.iaload, 1) := by decide +kernel
theorem dX8_canCross_22 : decode cX8_canCross 22 = .ok (.iconst (-1), 1) := by decide +kernel
theorem dX8_canCross_23 : decode cX8_canCross 23 = .ok (.if_icmp .eq 7, 3) := by decide +kernel
theorem dX8_canCross_26 : decode cX8_canCross 26 = .ok (.iconst 1, 1) := by decide +kernel
theorem dX8_canCross_27 : decode cX8_canCross 27 = .ok (.goto 4, 3) := by decide +kernel
theorem dX8_canCross_30 : decode cX8_canCross 30 = .ok (.iconst 0, 1) := by decide +kernel
theorem dX8_canCross_31 : decode cX8_canCross 31 = .ok (.ireturn, 1) := by decide +kernel
set_option maxHeartbeats 4000000 in
theorem t_X5_turn (b : Nat) (hb : isF b) (c : Nat) (hc : isL c) (v3 : Int32) (M : Mem) : AXv yX5_turn cX5_turn 6 none 4 60 glC (fun ad => [.ref (ad 21), .ref (ad b), .ref (ad c), .int v3]) M (f_X5_turn b c M v3) := by
  intro r0 h
  refine AM.of (by decide) (fun _ => Nat.le_of_ble_eq_true rfl) (fun X ad cI cZ cB hX hR => ?_)
  show V X M [(0, .ref (ad 21)), (1, .ref (ad b)), (2, .ref (ad c)), (3, .int v3)] [] 0
  refine s_aload_n (k := 1) hX dX5_turn_0 rfl rfl ?_
  refine s_iload_n (k := 3) hX dX5_turn_1 rfl rfl ?_
  refine e_callVp hX (t_X2_isTold b hb v3 M) mX2_isTold lX5_35 (by decide) (by decide) (oF hb) rfl rfl rfl rfl rfl (Nat.le_of_ble_eq_true rfl) dX5_turn_2 h (fun r_1 h => ?_)
  refine e_if_ne (tgt := 9) hX dX5_turn_5 (by decide) z_eq h (fun h => ?_) (fun h => ?_)
  · refine s_aload_n (k := 0) hX dX5_turn_9 rfl rfl ?_
    refine s_get hX fX5_11 oC21 rfl dX5_turn_10 ?_
    refine s_bipush (v := (nI 6)) hX dX5_turn_13 (by decide) ?_
    refine s_aload_n (k := 1) hX dX5_turn_15 rfl rfl ?_
    refine e_callVi hX (t_X2_draw b hb M) mX2_draw lX5_39 (by decide) (by decide) (oF hb) rfl rfl rfl rfl rfl (Nat.le_of_ble_eq_true rfl) dX5_turn_16 h (fun r_2 M_3 h => ?_)
    refine s_iastN hX aC22 (by decide) dX5_turn_19 ?_
    refine e_bndM h (fun M_4 h => ?_)
    refine s_aload_n (k := 0) hX dX5_turn_20 rfl rfl ?_
    refine s_aload_n (k := 1) hX dX5_turn_21 rfl rfl ?_
    refine s_aload_n (k := 2) hX dX5_turn_22 rfl rfl ?_
    refine s_iload_n (k := 3) hX dX5_turn_23 rfl rfl ?_
    refine e_callVv hX (t_X5_look b hb c hc v3 M_4) mX5_look lX5_43 (by decide) (by decide) oC21 rfl rfl rfl rfl rfl (Nat.le_of_ble_eq_true rfl) dX5_turn_24 h (fun M_5 h => ?_)
    refine s_aload_n (k := 2) hX dX5_turn_27 rfl rfl ?_
    refine s_bipush (v := (nI 117)) hX dX5_turn_28 (by decide) ?_
    refine s_aload_n (k := 0) hX dX5_turn_30 rfl rfl ?_
    refine s_get hX fX5_11 oC21 rfl dX5_turn_31 ?_
    refine e_callVi hX (t_X3_amountOf c hc (nI 117) M_5) mX3_amountOf lX5_46 (by decide) (by decide) (oL hc) rfl rfl rfl rfl rfl (Nat.le_of_ble_eq_true rfl) dX5_turn_34 h (fun r_6 M_7 h => ?_)
    refine s_aload_n (k := 2) hX dX5_turn_37 rfl rfl ?_
    refine s_bipush (v := (nI 100)) hX dX5_turn_38 (by decide) ?_
    refine s_aload_n (k := 0) hX dX5_turn_40 rfl rfl ?_
    refine s_get hX fX5_11 oC21 rfl dX5_turn_41 ?_
    refine e_callVi hX (t_X3_amountOf c hc (nI 100) M_7) mX3_amountOf lX5_46 (by decide) (by decide) (oL hc) rfl rfl rfl rfl rfl (Nat.le_of_ble_eq_true rfl) dX5_turn_44 h (fun r_8 M_9 h => ?_)
    refine s_isub hX dX5_turn_47 ?_
    refine e_bnd h (fun x_10 h => ?_)
    refine s_istore (lv' := [(0, .ref (ad 21)), (1, .ref (ad b)), (2, .ref (ad c)), (3, .int v3), (4, .int x_10)]) hX dX5_turn_48 (by decide) rfl ?_
    refine s_aload_n (k := 2) hX dX5_turn_50 rfl rfl ?_
    refine s_bipush (v := (nI 111)) hX dX5_turn_51 (by decide) ?_
    refine s_aload_n (k := 0) hX dX5_turn_53 rfl rfl ?_
    refine s_get hX fX5_11 oC21 rfl dX5_turn_54 ?_
    refine e_callVi hX (t_X3_amountOf c hc (nI 111) M_9) mX3_amountOf lX5_46 (by decide) (by decide) (oL hc) rfl rfl rfl rfl rfl (Nat.le_of_ble_eq_true rfl) dX5_turn_57 h (fun r_11 M_12 h => ?_)
    refine s_aload_n (k := 2) hX dX5_turn_60 rfl rfl ?_
    refine s_bipush (v := (nI 98)) hX dX5_turn_61 (by decide) ?_
    refine s_aload_n (k := 0) hX dX5_turn_63 rfl rfl ?_
    refine s_get hX fX5_11 oC21 rfl dX5_turn_64 ?_
    refine e_callVi hX (t_X3_amountOf c hc (nI 98) M_12) mX3_amountOf lX5_46 (by decide) (by decide) (oL hc) rfl rfl rfl rfl rfl (Nat.le_of_ble_eq_true rfl) dX5_turn_67 h (fun r_13 M_14 h => ?_)
    refine s_isub hX dX5_turn_70 ?_
    refine e_bnd h (fun x_15 h => ?_)
    refine s_istore (lv' := [(0, .ref (ad 21)), (1, .ref (ad b)), (2, .ref (ad c)), (3, .int v3), (4, .int x_10), (5, .int x_15)]) hX dX5_turn_71 (by decide) rfl ?_
    refine s_aload_n (k := 0) hX dX5_turn_73 rfl rfl ?_
    refine s_aload_n (k := 1) hX dX5_turn_74 rfl rfl ?_
    refine s_iload_n (k := 3) hX dX5_turn_75 rfl rfl ?_
    refine s_iload (k := 4) hX dX5_turn_76 rfl ?_
    refine s_iload (k := 5) hX dX5_turn_78 rfl ?_
    refine e_callVv hX (t_X5_shift b hb v3 x_10 x_15 M_14) mX5_shift lX5_52 (by decide) (by decide) oC21 rfl rfl rfl rfl rfl (Nat.le_of_ble_eq_true rfl) dX5_turn_80 h (fun M_16 h => ?_)
    refine s_aload_n (k := 0) hX dX5_turn_83 rfl rfl ?_
    refine s_aload_n (k := 1) hX dX5_turn_84 rfl rfl ?_
    refine s_aload_n (k := 2) hX dX5_turn_85 rfl rfl ?_
    refine s_iload_n (k := 3) hX dX5_turn_86 rfl rfl ?_
    refine e_callVv hX (t_X5_look b hb c hc v3 M_16) mX5_look lX5_43 (by decide) (by decide) oC21 rfl rfl rfl rfl rfl (Nat.le_of_ble_eq_true rfl) dX5_turn_87 h (fun M_17 h => ?_)
    refine s_aload_n (k := 1) hX dX5_turn_90 rfl rfl ?_
    refine s_get hX fX5_56 (oF hb) rfl dX5_turn_91 ?_
    refine s_iload_n (k := 3) hX dX5_turn_94 rfl rfl ?_
    refine s_aload_n (k := 2) hX dX5_turn_95 rfl rfl ?_
    refine s_aload_n (k := 0) hX dX5_turn_96 rfl rfl ?_
    refine s_get hX fX5_11 oC21 rfl dX5_turn_97 ?_
    refine e_callVi hX (t_X3_doesSink c hc M_17) mX3_doesSink lX5_59 (by decide) (by decide) (oL hc) rfl rfl rfl rfl rfl (Nat.le_of_ble_eq_true rfl) dX5_turn_100 h (fun r_18 M_19 h => ?_)
    refine e_zast hX (aF5 hb) dX5_turn_103 h (fun h => ?_)
    refine e_bndM h (fun M_20 h => ?_)
    exact e_vret hX hR dX5_turn_104 h
  · exact e_vret hX hR dX5_turn_8 h
set_option maxHeartbeats 4000000 in
theorem t_X5_pass (b : Nat) (hb : isF b) (c : Nat) (hc : isL c) (v3 : Int32) (M : Mem) : AXv yX5_pass cX5_pass 6 none 5 60 glC (fun ad => [.ref (ad 21), .ref (ad b), .ref (ad c), .int v3]) M (f_X5_pass b c M v3) := by
  intro r0 h
  refine AM.of (by decide) (fun _ => Nat.le_of_ble_eq_true rfl) (fun X ad cI cZ cB hX hR => ?_)
  show V X M [(0, .ref (ad 21)), (1, .ref (ad b)), (2, .ref (ad c)), (3, .int v3)] [] 0
  refine s_aload_n (k := 0) hX dX5_pass_0 rfl rfl ?_
  refine s_iconst (v := (nI 0)) hX dX5_pass_1 (by decide) ?_
  refine s_puti (ty := .int) hX fX5_15 oC21 rfl (Nat.le_of_ble_eq_true rfl) ty_5_1 rfl rfl dX5_pass_2 ?_
  refine e_bndM h (fun M_1 h => ?_)
  refine s_aload_n (k := 0) hX dX5_pass_5 rfl rfl ?_
  refine s_iconst (v := (nI 0)) hX dX5_pass_6 (by decide) ?_
  refine s_puti (ty := .int) hX fX5_19 oC21 rfl (Nat.le_of_ble_eq_true rfl) ty_5_2 rfl rfl dX5_pass_7 ?_
  refine e_bndM h (fun M_2 h => ?_)
  refine s_iconst (v := (nI 0)) hX dX5_pass_10 (by decide) ?_
  refine s_istore (lv' := [(0, .ref (ad 21)), (1, .ref (ad b)), (2, .ref (ad c)), (3, .int v3), (4, .int (nI 0))]) hX dX5_pass_11 (by decide) rfl ?_
  have lp13 : ∀ (N13 : Nat) (M13 : Mem) (y4_13 : Int32), wlp2 (f_X5_pass_B13 b c v3) N13 M13 y4_13 = some r0 → V X M13 [(0, .ref (ad 21)), (1, .ref (ad b)), (2, .ref (ad c)), (3, .int v3), (4, .int y4_13)] [] 13 := by
    intro N13
    induction N13 with
    | zero => exact fun _ _ h => e_none h
    | succ N13 ih13 =>
      intro M13 y4_13 h
      replace h : f_X5_pass_B13 b c v3 (wlp2 (f_X5_pass_B13 b c v3) N13) M13 y4_13 = some r0 := h
      generalize wlp2 (f_X5_pass_B13 b c v3) N13 = ag13 at ih13 h
      refine s_iload (k := 4) hX dX5_pass_13 rfl ?_
      refine s_iload_n (k := 3) hX dX5_pass_15 rfl rfl ?_
      refine e_icmp_ge (tgt := 79) hX dX5_pass_16 (by decide) r_le h (fun h => ?_) (fun h => ?_)
      · exact e_vret hX hR dX5_pass_79 h
      · refine s_aload_n (k := 1) hX dX5_pass_19 rfl rfl ?_
        refine s_get hX fX5_22 (oF hb) rfl dX5_pass_20 ?_
        refine s_sipush (v := (nI 9999)) hX dX5_pass_23 (by decide) ?_
        refine e_icmp_ge (tgt := 79) hX dX5_pass_26 (by decide) (m_ge (by decide +kernel)) h (fun h => ?_) (fun h => ?_)
        · exact e_vret hX hR dX5_pass_79 h
        · refine s_iconst (v := (nI 0)) hX dX5_pass_29 (by decide) ?_
          refine s_istore (lv' := [(0, .ref (ad 21)), (1, .ref (ad b)), (2, .ref (ad c)), (3, .int v3), (4, .int y4_13), (5, .int (nI 0))]) hX dX5_pass_30 (by decide) rfl ?_
          have lp32 : ∀ (N32 : Nat) (M32 : Mem) (y5_32 : Int32), wlp2 (f_X5_pass_B32 b c ag13 y4_13) N32 M32 y5_32 = some r0 → V X M32 [(0, .ref (ad 21)), (1, .ref (ad b)), (2, .ref (ad c)), (3, .int v3), (4, .int y4_13), (5, .int y5_32)] [] 32 := by
            intro N32
            induction N32 with
            | zero => exact fun _ _ h => e_none h
            | succ N32 ih32 =>
              intro M32 y5_32 h
              replace h : f_X5_pass_B32 b c ag13 y4_13 (wlp2 (f_X5_pass_B32 b c ag13 y4_13) N32) M32 y5_32 = some r0 := h
              generalize wlp2 (f_X5_pass_B32 b c ag13 y4_13) N32 = ag32 at ih32 h
              refine s_iload (k := 5) hX dX5_pass_32 rfl ?_
              refine s_bipush (v := (nI 40)) hX dX5_pass_34 (by decide) ?_
              have j63 : f_X5_pass_L63 b ag13 y4_13 M32 = some r0 → V X M32 [(0, .ref (ad 21)), (1, .ref (ad b)), (2, .ref (ad c)), (3, .int v3), (4, .int y4_13)] [] 63 := by
                intro  h
                refine s_aload_n (k := 1) hX dX5_pass_63 rfl rfl ?_
                refine s_dup hX dX5_pass_64 rfl ?_
                refine s_get hX fX5_22 (oF hb) rfl dX5_pass_65 ?_
                refine s_iconst (v := (nI 1)) hX dX5_pass_68 (by decide) ?_
                refine s_iadd hX dX5_pass_69 ?_
                refine s_puti (ty := .int) hX fX5_22 (oF hb) rfl (Nat.le_of_ble_eq_true rfl) ty_2_5 rfl rfl dX5_pass_70 ?_
                refine e_bndM h (fun M_3 h => ?_)
                refine s_iinc (k := 4) (v := (y4_13 + (nI 1))) (lv' := [(0, .ref (ad 21)), (1, .ref (ad b)), (2, .ref (ad c)), (3, .int v3), (4, .int (y4_13 + (nI 1)))]) hX dX5_pass_73 (congrArg (fun z => y4_13 + z) (by decide)) (by decide) rfl rfl ?_
                refine s_goto (tgt := 13) hX dX5_pass_76 (by decide) ?_
                exact ih13 M_3 (y4_13 + (nI 1)) h
              refine e_icmp_ge (tgt := 63) hX dX5_pass_36 (by decide) (m_ge (by decide +kernel)) h (fun h => ?_) (fun h => ?_)
              · refine s_loc [0, 1, 2, 3, 4] rfl ?_
                exact j63 h
              · refine s_aload_n (k := 1) hX dX5_pass_39 rfl rfl ?_
                refine s_get hX fX5_27 (oF hb) rfl dX5_pass_40 ?_
                refine s_iload (k := 5) hX dX5_pass_43 rfl ?_
                refine e_zald hX (aF4 hb) dX5_pass_45 h (fun h => ?_)
                refine e_if_eq (tgt := 57) hX dX5_pass_46 (by decide) z_eq h (fun h => ?_) (fun h => ?_)
                · refine s_iinc (k := 5) (v := (y5_32 + (nI 1))) (lv' := [(0, .ref (ad 21)), (1, .ref (ad b)), (2, .ref (ad c)), (3, .int v3), (4, .int y4_13), (5, .int (y5_32 + (nI 1)))]) hX dX5_pass_57 (congrArg (fun z => y5_32 + z) (by decide)) (by decide) rfl rfl ?_
                  refine s_goto (tgt := 32) hX dX5_pass_60 (by decide) ?_
                  exact ih32 M32 (y5_32 + (nI 1)) h
                · refine s_aload_n (k := 0) hX dX5_pass_49 rfl rfl ?_
                  refine s_aload_n (k := 1) hX dX5_pass_50 rfl rfl ?_
                  refine s_aload_n (k := 2) hX dX5_pass_51 rfl rfl ?_
                  refine s_iload (k := 5) hX dX5_pass_52 rfl ?_
                  refine e_callVv hX (t_X5_turn b hb c hc y5_32 M32) mX5_turn lX5_31 (by decide) (by decide) oC21 rfl rfl rfl rfl rfl (Nat.le_of_ble_eq_true rfl) dX5_pass_54 h (fun M_4 h => ?_)
                  refine s_iinc (k := 5) (v := (y5_32 + (nI 1))) (lv' := [(0, .ref (ad 21)), (1, .ref (ad b)), (2, .ref (ad c)), (3, .int v3), (4, .int y4_13), (5, .int (y5_32 + (nI 1)))]) hX dX5_pass_57 (congrArg (fun z => y5_32 + z) (by decide)) (by decide) rfl rfl ?_
                  refine s_goto (tgt := 32) hX dX5_pass_60 (by decide) ?_
                  exact ih32 M_4 (y5_32 + (nI 1)) h
          exact lp32 FU M13 (nI 0) h
  exact lp13 FU M_2 (nI 0) h
set_option maxHeartbeats 4000000 in
theorem t_X6_nearest (b : Nat) (hb : isF b) (v1 : Int32) (M : Mem) : AXp yX6_nearest cX6_nearest 4 (some .int) 2 60 glC (fun ad => [.ref (ad b), .int v1]) M (f_X6_nearest b M v1) := by
  intro r0 h
  refine AM.of (by decide) (fun _ => Nat.le_of_ble_eq_true rfl) (fun X ad cI cZ cB hX hR => ?_)
  show V X M [(0, .ref (ad b)), (1, .int v1)] [] 0
  refine s_iconst (v := (-1)) hX dX6_nearest_0 (by decide) ?_
  refine s_istore_n (lv' := [(0, .ref (ad b)), (1, .int v1), (2, .int (-1))]) hX dX6_nearest_1 rfl (by decide) rfl ?_
  refine s_iconst (v := (nI 0)) hX dX6_nearest_2 (by decide) ?_
  refine s_istore_n (lv' := [(0, .ref (ad b)), (1, .int v1), (2, .int (-1)), (3, .int (nI 0))]) hX dX6_nearest_3 rfl (by decide) rfl ?_
  have lp4 : ∀ (N4 : Nat) (y2_4 : Int32) (y3_4 : Int32), wlp2 (f_X6_nearest_B4 b M v1) N4 y2_4 y3_4 = some r0 → V X M [(0, .ref (ad b)), (1, .int v1), (2, .int y2_4), (3, .int y3_4)] [] 4 := by
    intro N4
    induction N4 with
    | zero => exact fun _ _ h => e_none h
    | succ N4 ih4 =>
      intro y2_4 y3_4 h
      replace h : f_X6_nearest_B4 b M v1 (wlp2 (f_X6_nearest_B4 b M v1) N4) y2_4 y3_4 = some r0 := h
      generalize wlp2 (f_X6_nearest_B4 b M v1) N4 = ag4 at ih4 h
      refine s_iload_n (k := 3) hX dX6_nearest_4 rfl rfl ?_
      refine s_bipush (v := (nI 40)) hX dX6_nearest_5 (by decide) ?_
      refine e_icmp_ge (tgt := 60) hX dX6_nearest_7 (by decide) (m_ge (by decide +kernel)) h (fun h => ?_) (fun h => ?_)
      · refine s_iload_n (k := 2) hX dX6_nearest_60 rfl rfl ?_
        exact e_iretp hX hR dX6_nearest_61 h
      · refine s_aload_n (k := 0) hX dX6_nearest_10 rfl rfl ?_
        refine s_iload_n (k := 1) hX dX6_nearest_11 rfl rfl ?_
        refine e_callVp hX (t_X2_isTold b hb v1 M) mX2_isTold lX6_34 (by decide) (by decide) (oF hb) rfl rfl rfl rfl rfl (Nat.le_of_ble_eq_true rfl) dX6_nearest_12 h (fun r_1 h => ?_)
        refine e_if_eq (tgt := 60) hX dX6_nearest_15 (by decide) z_eq h (fun h => ?_) (fun h => ?_)
        · refine s_iload_n (k := 2) hX dX6_nearest_60 rfl rfl ?_
          exact e_iretp hX hR dX6_nearest_61 h
        · refine s_iload_n (k := 3) hX dX6_nearest_18 rfl rfl ?_
          refine s_iload_n (k := 1) hX dX6_nearest_19 rfl rfl ?_
          refine e_icmp_eq (tgt := 54) hX dX6_nearest_20 (by decide) r_eq h (fun h => ?_) (fun h => ?_)
          · refine s_iinc (k := 3) (v := (y3_4 + (nI 1))) (lv' := [(0, .ref (ad b)), (1, .int v1), (2, .int y2_4), (3, .int (y3_4 + (nI 1)))]) hX dX6_nearest_54 (congrArg (fun z => y3_4 + z) (by decide)) (by decide) rfl rfl ?_
            refine s_goto (tgt := 4) hX dX6_nearest_57 (by decide) ?_
            exact ih4 y2_4 (y3_4 + (nI 1)) h
          · refine s_aload_n (k := 0) hX dX6_nearest_23 rfl rfl ?_
            refine s_get hX fX6_21 (oF hb) rfl dX6_nearest_24 ?_
            refine s_iload_n (k := 3) hX dX6_nearest_27 rfl rfl ?_
            refine e_zald hX (aF4 hb) dX6_nearest_28 h (fun h => ?_)
            refine e_if_eq (tgt := 54) hX dX6_nearest_29 (by decide) z_eq h (fun h => ?_) (fun h => ?_)
            · refine s_iinc (k := 3) (v := (y3_4 + (nI 1))) (lv' := [(0, .ref (ad b)), (1, .int v1), (2, .int y2_4), (3, .int (y3_4 + (nI 1)))]) hX dX6_nearest_54 (congrArg (fun z => y3_4 + z) (by decide)) (by decide) rfl rfl ?_
              refine s_goto (tgt := 4) hX dX6_nearest_57 (by decide) ?_
              exact ih4 y2_4 (y3_4 + (nI 1)) h
            · refine s_iload_n (k := 2) hX dX6_nearest_32 rfl rfl ?_
              refine s_iconst (v := (-1)) hX dX6_nearest_33 (by decide) ?_
              refine e_icmp_eq (tgt := 52) hX dX6_nearest_34 (by decide) (m_eq (by decide +kernel)) h (fun h => ?_) (fun h => ?_)
              · refine s_iload_n (k := 3) hX dX6_nearest_52 rfl rfl ?_
                refine s_istore_n (lv' := [(0, .ref (ad b)), (1, .int v1), (3, .int y3_4), (2, .int y3_4)]) hX dX6_nearest_53 rfl (by decide) rfl ?_
                refine s_iinc (k := 2) (v := (y3_4 + (nI 1))) (lv' := [(0, .ref (ad b)), (1, .int v1), (2, .int y3_4), (3, .int (y3_4 + (nI 1)))]) hX dX6_nearest_54 (congrArg (fun z => y3_4 + z) (by decide)) (by decide) rfl rfl ?_
                refine s_goto (tgt := 4) hX dX6_nearest_57 (by decide) ?_
                exact ih4 y3_4 (y3_4 + (nI 1)) h
              · refine s_aload_n (k := 0) hX dX6_nearest_37 rfl rfl ?_
                refine s_iload_n (k := 1) hX dX6_nearest_38 rfl rfl ?_
                refine s_iload_n (k := 3) hX dX6_nearest_39 rfl rfl ?_
                refine e_callVp hX (t_X2_squares b hb v1 y3_4 M) mX2_squares lX6_52 (by decide) (by decide) (oF hb) rfl rfl rfl rfl rfl (Nat.le_of_ble_eq_true rfl) dX6_nearest_40 h (fun r_2 h => ?_)
                refine s_aload_n (k := 0) hX dX6_nearest_43 rfl rfl ?_
                refine s_iload_n (k := 1) hX dX6_nearest_44 rfl rfl ?_
                refine s_iload_n (k := 2) hX dX6_nearest_45 rfl rfl ?_
                refine e_callVp hX (t_X2_squares b hb v1 y2_4 M) mX2_squares lX6_52 (by decide) (by decide) (oF hb) rfl rfl rfl rfl rfl (Nat.le_of_ble_eq_true rfl) dX6_nearest_46 h (fun r_3 h => ?_)
                refine e_icmp_ge (tgt := 54) hX dX6_nearest_49 (by decide) r_le h (fun h => ?_) (fun h => ?_)
                · refine s_iinc (k := 3) (v := (y3_4 + (nI 1))) (lv' := [(0, .ref (ad b)), (1, .int v1), (2, .int y2_4), (3, .int (y3_4 + (nI 1)))]) hX dX6_nearest_54 (congrArg (fun z => y3_4 + z) (by decide)) (by decide) rfl rfl ?_
                  refine s_goto (tgt := 4) hX dX6_nearest_57 (by decide) ?_
                  exact ih4 y2_4 (y3_4 + (nI 1)) h
                · refine s_iload_n (k := 3) hX dX6_nearest_52 rfl rfl ?_
                  refine s_istore_n (lv' := [(0, .ref (ad b)), (1, .int v1), (3, .int y3_4), (2, .int y3_4)]) hX dX6_nearest_53 rfl (by decide) rfl ?_
                  refine s_iinc (k := 2) (v := (y3_4 + (nI 1))) (lv' := [(0, .ref (ad b)), (1, .int v1), (2, .int y3_4), (3, .int (y3_4 + (nI 1)))]) hX dX6_nearest_54 (congrArg (fun z => y3_4 + z) (by decide)) (by decide) rfl rfl ?_
                  refine s_goto (tgt := 4) hX dX6_nearest_57 (by decide) ?_
                  exact ih4 y3_4 (y3_4 + (nI 1)) h
  exact lp4 FU (-1) (nI 0) h
set_option maxHeartbeats 4000000 in
theorem t_X6_closest (b : Nat) (hb : isF b) (M : Mem) : AXp yX6_closest cX6_closest 4 (some .int) 3 60 glC (fun ad => [.ref (ad b)]) M (f_X6_closest b M) := by
  intro r0 h
  refine AM.of (by decide) (fun _ => Nat.le_of_ble_eq_true rfl) (fun X ad cI cZ cB hX hR => ?_)
  show V X M [(0, .ref (ad b))] [] 0
  refine s_bipush (v := (-2)) hX dX6_closest_0 (by decide) ?_
  refine s_istore_n (lv' := [(0, .ref (ad b)), (1, .int (-2))]) hX dX6_closest_2 rfl (by decide) rfl ?_
  refine s_iconst (v := (nI 0)) hX dX6_closest_3 (by decide) ?_
  refine s_istore_n (lv' := [(0, .ref (ad b)), (1, .int (-2)), (2, .int (nI 0))]) hX dX6_closest_4 rfl (by decide) rfl ?_
  have lp5 : ∀ (N5 : Nat) (y1_5 : Int32) (y2_5 : Int32), wlp2 (f_X6_closest_B5 b M) N5 y1_5 y2_5 = some r0 → V X M [(0, .ref (ad b)), (1, .int y1_5), (2, .int y2_5)] [] 5 := by
    intro N5
    induction N5 with
    | zero => exact fun _ _ h => e_none h
    | succ N5 ih5 =>
      intro y1_5 y2_5 h
      replace h : f_X6_closest_B5 b M (wlp2 (f_X6_closest_B5 b M) N5) y1_5 y2_5 = some r0 := h
      generalize wlp2 (f_X6_closest_B5 b M) N5 = ag5 at ih5 h
      refine s_iload_n (k := 2) hX dX6_closest_5 rfl rfl ?_
      refine s_bipush (v := (nI 40)) hX dX6_closest_6 (by decide) ?_
      refine e_icmp_ge (tgt := 51) hX dX6_closest_8 (by decide) (m_ge (by decide +kernel)) h (fun h => ?_) (fun h => ?_)
      · refine s_iload_n (k := 1) hX dX6_closest_51 rfl rfl ?_
        exact e_iretp hX hR dX6_closest_52 h
      · refine s_aload_n (k := 0) hX dX6_closest_11 rfl rfl ?_
        refine s_iload_n (k := 2) hX dX6_closest_12 rfl rfl ?_
        refine e_callSp hX (t_X6_nearest b hb y2_5 M) mX6_nearest lX6_48 (by decide) (by decide) rfl rfl (Nat.le_of_ble_eq_true rfl) dX6_closest_13 h (fun r_1 h => ?_)
        refine s_istore_n (lv' := [(0, .ref (ad b)), (1, .int y1_5), (2, .int y2_5), (3, .int r_1)]) hX dX6_closest_16 rfl (by decide) rfl ?_
        refine s_iload_n (k := 3) hX dX6_closest_17 rfl rfl ?_
        refine s_iconst (v := (-1)) hX dX6_closest_18 (by decide) ?_
        refine e_icmp_eq (tgt := 45) hX dX6_closest_19 (by decide) (m_eq (by decide +kernel)) h (fun h => ?_) (fun h => ?_)
        · refine s_iinc (k := 2) (v := (y2_5 + (nI 1))) (lv' := [(0, .ref (ad b)), (1, .int y1_5), (3, .int r_1), (2, .int (y2_5 + (nI 1)))]) hX dX6_closest_45 (congrArg (fun z => y2_5 + z) (by decide)) (by decide) rfl rfl ?_
          refine s_goto (tgt := 5) hX dX6_closest_48 (by decide) ?_
          refine s_loc [0, 1, 3] rfl ?_
          exact ih5 y1_5 (y2_5 + (nI 1)) h
        · refine s_iload_n (k := 1) hX dX6_closest_22 rfl rfl ?_
          refine s_bipush (v := (-2)) hX dX6_closest_23 (by decide) ?_
          have j38 : f_X6_closest_L38 b M ag5 y2_5 r_1 = some r0 → V X M [(0, .ref (ad b)), (2, .int y2_5), (3, .int r_1)] [] 38 := by
            intro  h
            refine s_aload_n (k := 0) hX dX6_closest_38 rfl rfl ?_
            refine s_iload_n (k := 1) hX dX6_closest_39 rfl rfl ?_
            refine s_iload_n (k := 2) hX dX6_closest_40 rfl rfl ?_
            refine e_callVp hX (t_X2_squares b hb y2_5 r_1 M) mX2_squares lX6_52 (by decide) (by decide) (oF hb) rfl rfl rfl rfl rfl (Nat.le_of_ble_eq_true rfl) dX6_closest_41 h (fun r_2 h => ?_)
            refine s_istore_n (lv' := [(0, .ref (ad b)), (2, .int y2_5), (3, .int r_1), (1, .int r_2)]) hX dX6_closest_44 rfl (by decide) rfl ?_
            refine s_iinc (k := 1) (v := (y2_5 + (nI 1))) (lv' := [(0, .ref (ad b)), (3, .int r_1), (1, .int r_2), (2, .int (y2_5 + (nI 1)))]) hX dX6_closest_45 (congrArg (fun z => y2_5 + z) (by decide)) (by decide) rfl rfl ?_
            refine s_goto (tgt := 5) hX dX6_closest_48 (by decide) ?_
            refine s_loc [0, 2, 3] rfl ?_
            exact ih5 r_2 (y2_5 + (nI 1)) h
          refine e_icmp_eq (tgt := 38) hX dX6_closest_25 (by decide) (m_eq (by decide +kernel)) h (fun h => ?_) (fun h => ?_)
          · refine s_loc [0, 2, 3] rfl ?_
            exact j38 h
          · refine s_aload_n (k := 0) hX dX6_closest_28 rfl rfl ?_
            refine s_iload_n (k := 2) hX dX6_closest_29 rfl rfl ?_
            refine s_iload_n (k := 3) hX dX6_closest_30 rfl rfl ?_
            refine e_callVp hX (t_X2_squares b hb y2_5 r_1 M) mX2_squares lX6_52 (by decide) (by decide) (oF hb) rfl rfl rfl rfl rfl (Nat.le_of_ble_eq_true rfl) dX6_closest_31 h (fun r_3 h => ?_)
            refine s_iload_n (k := 1) hX dX6_closest_34 rfl rfl ?_
            refine e_icmp_ge (tgt := 45) hX dX6_closest_35 (by decide) r_le h (fun h => ?_) (fun h => ?_)
            · refine s_iinc (k := 2) (v := (y2_5 + (nI 1))) (lv' := [(0, .ref (ad b)), (1, .int y1_5), (3, .int r_1), (2, .int (y2_5 + (nI 1)))]) hX dX6_closest_45 (congrArg (fun z => y2_5 + z) (by decide)) (by decide) rfl rfl ?_
              refine s_goto (tgt := 5) hX dX6_closest_48 (by decide) ?_
              refine s_loc [0, 1, 3] rfl ?_
              exact ih5 y1_5 (y2_5 + (nI 1)) h
            · refine s_loc [0, 2, 3] rfl ?_
              exact j38 h
  exact lp5 FU (-2) (nI 0) h
set_option maxHeartbeats 4000000 in
theorem t_X6_countOnLine (b : Nat) (hb : isF b) (v1 : Int32) (v2 : Int32) (M : Mem) : AXp yX6_countOnLine cX6_countOnLine 7 (some .int) 1 60 glC (fun ad => [.ref (ad b), .int v1, .int v2]) M (f_X6_countOnLine b M v1 v2) := by
  intro r0 h
  refine AM.of (by decide) (fun _ => Nat.le_of_ble_eq_true rfl) (fun X ad cI cZ cB hX hR => ?_)
  show V X M [(0, .ref (ad b)), (1, .int v1), (2, .int v2)] [] 0
  refine s_aload_n (k := 0) hX dX6_countOnLine_0 rfl rfl ?_
  refine s_iload_n (k := 1) hX dX6_countOnLine_1 rfl rfl ?_
  refine e_callVp hX (t_X2_isTold b hb v1 M) mX2_isTold lX6_34 (by decide) (by decide) (oF hb) rfl rfl rfl rfl rfl (Nat.le_of_ble_eq_true rfl) dX6_countOnLine_2 h (fun r_1 h => ?_)
  refine e_if_eq (tgt := 16) hX dX6_countOnLine_5 (by decide) z_eq h (fun h => ?_) (fun h => ?_)
  · refine s_iconst (v := (nI 0)) hX dX6_countOnLine_16 (by decide) ?_
    exact e_iretp hX hR dX6_countOnLine_17 h
  · refine s_aload_n (k := 0) hX dX6_countOnLine_8 rfl rfl ?_
    refine s_iload_n (k := 2) hX dX6_countOnLine_9 rfl rfl ?_
    refine e_callVp hX (t_X2_isTold b hb v2 M) mX2_isTold lX6_34 (by decide) (by decide) (oF hb) rfl rfl rfl rfl rfl (Nat.le_of_ble_eq_true rfl) dX6_countOnLine_10 h (fun r_2 h => ?_)
    refine e_if_ne (tgt := 18) hX dX6_countOnLine_13 (by decide) z_eq h (fun h => ?_) (fun h => ?_)
    · refine s_aload_n (k := 0) hX dX6_countOnLine_18 rfl rfl ?_
      refine s_get hX fX6_38 (oF hb) rfl dX6_countOnLine_19 ?_
      refine s_iload_n (k := 2) hX dX6_countOnLine_22 rfl rfl ?_
      refine e_iald hX (aF1 hb) dX6_countOnLine_23 h (fun h => ?_)
      refine s_aload_n (k := 0) hX dX6_countOnLine_24 rfl rfl ?_
      refine s_get hX fX6_38 (oF hb) rfl dX6_countOnLine_25 ?_
      refine s_iload_n (k := 1) hX dX6_countOnLine_28 rfl rfl ?_
      refine e_iald hX (aF1 hb) dX6_countOnLine_29 h (fun h => ?_)
      refine s_isub hX dX6_countOnLine_30 ?_
      refine e_bnd h (fun x_3 h => ?_)
      refine s_istore_n (lv' := [(0, .ref (ad b)), (1, .int v1), (2, .int v2), (3, .int x_3)]) hX dX6_countOnLine_31 rfl (by decide) rfl ?_
      refine s_aload_n (k := 0) hX dX6_countOnLine_32 rfl rfl ?_
      refine s_get hX fX6_42 (oF hb) rfl dX6_countOnLine_33 ?_
      refine s_iload_n (k := 2) hX dX6_countOnLine_36 rfl rfl ?_
      refine e_iald hX (aF2 hb) dX6_countOnLine_37 h (fun h => ?_)
      refine s_aload_n (k := 0) hX dX6_countOnLine_38 rfl rfl ?_
      refine s_get hX fX6_42 (oF hb) rfl dX6_countOnLine_39 ?_
      refine s_iload_n (k := 1) hX dX6_countOnLine_42 rfl rfl ?_
      refine e_iald hX (aF2 hb) dX6_countOnLine_43 h (fun h => ?_)
      refine s_isub hX dX6_countOnLine_44 ?_
      refine e_bnd h (fun x_4 h => ?_)
      refine s_istore (lv' := [(0, .ref (ad b)), (1, .int v1), (2, .int v2), (3, .int x_3), (4, .int x_4)]) hX dX6_countOnLine_45 (by decide) rfl ?_
      refine s_iconst (v := (nI 0)) hX dX6_countOnLine_47 (by decide) ?_
      refine s_istore (lv' := [(0, .ref (ad b)), (1, .int v1), (2, .int v2), (3, .int x_3), (4, .int x_4), (5, .int (nI 0))]) hX dX6_countOnLine_48 (by decide) rfl ?_
      refine s_iconst (v := (nI 0)) hX dX6_countOnLine_50 (by decide) ?_
      refine s_istore (lv' := [(0, .ref (ad b)), (1, .int v1), (2, .int v2), (3, .int x_3), (4, .int x_4), (5, .int (nI 0)), (6, .int (nI 0))]) hX dX6_countOnLine_51 (by decide) rfl ?_
      have lp53 : ∀ (N53 : Nat) (y5_53 : Int32) (y6_53 : Int32), wlp2 (f_X6_countOnLine_B53 b M v1 x_3 x_4) N53 y5_53 y6_53 = some r0 → V X M [(0, .ref (ad b)), (1, .int v1), (3, .int x_3), (4, .int x_4), (5, .int y5_53), (6, .int y6_53)] [] 53 := by
        intro N53
        induction N53 with
        | zero => exact fun _ _ h => e_none h
        | succ N53 ih53 =>
          intro y5_53 y6_53 h
          replace h : f_X6_countOnLine_B53 b M v1 x_3 x_4 (wlp2 (f_X6_countOnLine_B53 b M v1 x_3 x_4) N53) y5_53 y6_53 = some r0 := h
          generalize wlp2 (f_X6_countOnLine_B53 b M v1 x_3 x_4) N53 = ag53 at ih53 h
          refine s_iload (k := 5) hX dX6_countOnLine_53 rfl ?_
          refine s_bipush (v := (nI 40)) hX dX6_countOnLine_55 (by decide) ?_
          refine e_icmp_ge (tgt := 115) hX dX6_countOnLine_57 (by decide) (m_ge (by decide +kernel)) h (fun h => ?_) (fun h => ?_)
          · refine s_iload (k := 4) hX dX6_countOnLine_115 rfl ?_
            exact e_iretp hX hR dX6_countOnLine_117 h
          · refine s_aload_n (k := 0) hX dX6_countOnLine_60 rfl rfl ?_
            refine s_get hX fX6_21 (oF hb) rfl dX6_countOnLine_61 ?_
            refine s_iload (k := 5) hX dX6_countOnLine_64 rfl ?_
            refine e_zald hX (aF4 hb) dX6_countOnLine_66 h (fun h => ?_)
            refine e_if_eq (tgt := 109) hX dX6_countOnLine_67 (by decide) z_eq h (fun h => ?_) (fun h => ?_)
            · refine s_iinc (k := 5) (v := (y6_53 + (nI 1))) (lv' := [(0, .ref (ad b)), (1, .int v1), (3, .int x_3), (4, .int x_4), (5, .int y5_53), (6, .int (y6_53 + (nI 1)))]) hX dX6_countOnLine_109 (congrArg (fun z => y6_53 + z) (by decide)) (by decide) rfl rfl ?_
              refine s_goto (tgt := 53) hX dX6_countOnLine_112 (by decide) ?_
              exact ih53 y5_53 (y6_53 + (nI 1)) h
            · refine s_iload_n (k := 2) hX dX6_countOnLine_70 rfl rfl ?_
              refine s_aload_n (k := 0) hX dX6_countOnLine_71 rfl rfl ?_
              refine s_get hX fX6_42 (oF hb) rfl dX6_countOnLine_72 ?_
              refine s_iload (k := 5) hX dX6_countOnLine_75 rfl ?_
              refine e_iald hX (aF2 hb) dX6_countOnLine_77 h (fun h => ?_)
              refine s_aload_n (k := 0) hX dX6_countOnLine_78 rfl rfl ?_
              refine s_get hX fX6_42 (oF hb) rfl dX6_countOnLine_79 ?_
              refine s_iload_n (k := 1) hX dX6_countOnLine_82 rfl rfl ?_
              refine e_iald hX (aF2 hb) dX6_countOnLine_83 h (fun h => ?_)
              refine s_isub hX dX6_countOnLine_84 ?_
              refine s_imul hX dX6_countOnLine_85 ?_
              refine s_iload (k := 3) hX dX6_countOnLine_86 rfl ?_
              refine s_aload_n (k := 0) hX dX6_countOnLine_88 rfl rfl ?_
              refine s_get hX fX6_38 (oF hb) rfl dX6_countOnLine_89 ?_
              refine s_iload (k := 5) hX dX6_countOnLine_92 rfl ?_
              refine e_iald hX (aF1 hb) dX6_countOnLine_94 h (fun h => ?_)
              refine s_aload_n (k := 0) hX dX6_countOnLine_95 rfl rfl ?_
              refine s_get hX fX6_38 (oF hb) rfl dX6_countOnLine_96 ?_
              refine s_iload_n (k := 1) hX dX6_countOnLine_99 rfl rfl ?_
              refine e_iald hX (aF1 hb) dX6_countOnLine_100 h (fun h => ?_)
              refine s_isub hX dX6_countOnLine_101 ?_
              refine s_imul hX dX6_countOnLine_102 ?_
              refine e_icmp_ne (tgt := 109) hX dX6_countOnLine_103 (by decide) r_eq h (fun h => ?_) (fun h => ?_)
              · refine s_iinc (k := 5) (v := (y6_53 + (nI 1))) (lv' := [(0, .ref (ad b)), (1, .int v1), (3, .int x_3), (4, .int x_4), (5, .int y5_53), (6, .int (y6_53 + (nI 1)))]) hX dX6_countOnLine_109 (congrArg (fun z => y6_53 + z) (by decide)) (by decide) rfl rfl ?_
                refine s_goto (tgt := 53) hX dX6_countOnLine_112 (by decide) ?_
                exact ih53 y5_53 (y6_53 + (nI 1)) h
              · refine s_iinc (k := 4) (v := (y5_53 + (nI 1))) (lv' := [(0, .ref (ad b)), (1, .int v1), (3, .int x_3), (4, .int x_4), (6, .int y6_53), (5, .int (y5_53 + (nI 1)))]) hX dX6_countOnLine_106 (congrArg (fun z => y5_53 + z) (by decide)) (by decide) rfl rfl ?_
                refine s_iinc (k := 4) (v := (y6_53 + (nI 1))) (lv' := [(0, .ref (ad b)), (1, .int v1), (3, .int x_3), (4, .int x_4), (5, .int (y5_53 + (nI 1))), (6, .int (y6_53 + (nI 1)))]) hX dX6_countOnLine_109 (congrArg (fun z => y6_53 + z) (by decide)) (by decide) rfl rfl ?_
                refine s_goto (tgt := 53) hX dX6_countOnLine_112 (by decide) ?_
                exact ih53 (y5_53 + (nI 1)) (y6_53 + (nI 1)) h
      refine s_loc [0, 1, 3, 4, 5, 6] rfl ?_
      exact lp53 FU (nI 0) (nI 0) h
    · refine s_iconst (v := (nI 0)) hX dX6_countOnLine_16 (by decide) ?_
      exact e_iretp hX hR dX6_countOnLine_17 h
set_option maxHeartbeats 4000000 in
theorem t_X6_line (b : Nat) (hb : isF b) (M : Mem) : AXp yX6_line cX6_line 4 (some .int) 2 60 glC (fun ad => [.ref (ad b)]) M (f_X6_line b M) := by
  intro r0 h
  refine AM.of (by decide) (fun _ => Nat.le_of_ble_eq_true rfl) (fun X ad cI cZ cB hX hR => ?_)
  show V X M [(0, .ref (ad b))] [] 0
  refine s_iconst (v := (nI 2)) hX dX6_line_0 (by decide) ?_
  refine s_aload_n (k := 0) hX dX6_line_1 rfl rfl ?_
  refine e_callVp hX (t_X2_countTold b hb M) mX2_countTold lX6_9 (by decide) (by decide) (oF hb) rfl rfl rfl rfl rfl (Nat.le_of_ble_eq_true rfl) dX6_line_2 h (fun r_1 h => ?_)
  refine e_mmin hX lX6_15 mJ9_min (by omega) (Nat.le_of_ble_eq_true rfl) dX6_line_5 ?_
  refine e_bnd h (fun x_2 h => ?_)
  refine s_istore_n (lv' := [(0, .ref (ad b)), (1, .int x_2)]) hX dX6_line_8 rfl (by decide) rfl ?_
  refine s_iconst (v := (nI 0)) hX dX6_line_9 (by decide) ?_
  refine s_istore_n (lv' := [(0, .ref (ad b)), (1, .int x_2), (2, .int (nI 0))]) hX dX6_line_10 rfl (by decide) rfl ?_
  have lp11 : ∀ (N11 : Nat) (y1_11 : Int32) (y2_11 : Int32), wlp2 (f_X6_line_B11 b M) N11 y1_11 y2_11 = some r0 → V X M [(0, .ref (ad b)), (1, .int y1_11), (2, .int y2_11)] [] 11 := by
    intro N11
    induction N11 with
    | zero => exact fun _ _ h => e_none h
    | succ N11 ih11 =>
      intro y1_11 y2_11 h
      replace h : f_X6_line_B11 b M (wlp2 (f_X6_line_B11 b M) N11) y1_11 y2_11 = some r0 := h
      generalize wlp2 (f_X6_line_B11 b M) N11 = ag11 at ih11 h
      refine s_iload_n (k := 2) hX dX6_line_11 rfl rfl ?_
      refine s_bipush (v := (nI 40)) hX dX6_line_12 (by decide) ?_
      refine e_icmp_ge (tgt := 68) hX dX6_line_14 (by decide) (m_ge (by decide +kernel)) h (fun h => ?_) (fun h => ?_)
      · refine s_iload_n (k := 1) hX dX6_line_68 rfl rfl ?_
        exact e_iretp hX hR dX6_line_69 h
      · refine s_iload_n (k := 2) hX dX6_line_17 rfl rfl ?_
        refine s_iconst (v := (nI 1)) hX dX6_line_18 (by decide) ?_
        refine s_iadd hX dX6_line_19 ?_
        refine s_istore_n (lv' := [(0, .ref (ad b)), (1, .int y1_11), (2, .int y2_11), (3, .int (y2_11 + (nI 1)))]) hX dX6_line_20 rfl (by decide) rfl ?_
        have lp21 : ∀ (N21 : Nat) (y1_21 : Int32) (y3_21 : Int32), wlp2 (f_X6_line_B21 b M ag11 y2_11) N21 y1_21 y3_21 = some r0 → V X M [(0, .ref (ad b)), (1, .int y1_21), (2, .int y2_11), (3, .int y3_21)] [] 21 := by
          intro N21
          induction N21 with
          | zero => exact fun _ _ h => e_none h
          | succ N21 ih21 =>
            intro y1_21 y3_21 h
            replace h : f_X6_line_B21 b M ag11 y2_11 (wlp2 (f_X6_line_B21 b M ag11 y2_11) N21) y1_21 y3_21 = some r0 := h
            generalize wlp2 (f_X6_line_B21 b M ag11 y2_11) N21 = ag21 at ih21 h
            refine s_iload_n (k := 3) hX dX6_line_21 rfl rfl ?_
            refine s_bipush (v := (nI 40)) hX dX6_line_22 (by decide) ?_
            refine e_icmp_ge (tgt := 62) hX dX6_line_24 (by decide) (m_ge (by decide +kernel)) h (fun h => ?_) (fun h => ?_)
            · refine s_iinc (k := 2) (v := (y2_11 + (nI 1))) (lv' := [(0, .ref (ad b)), (1, .int y1_21), (3, .int y3_21), (2, .int (y2_11 + (nI 1)))]) hX dX6_line_62 (congrArg (fun z => y2_11 + z) (by decide)) (by decide) rfl rfl ?_
              refine s_goto (tgt := 11) hX dX6_line_65 (by decide) ?_
              refine s_loc [0, 1, 3] rfl ?_
              exact ih11 y1_21 (y2_11 + (nI 1)) h
            · refine s_aload_n (k := 0) hX dX6_line_27 rfl rfl ?_
              refine s_get hX fX6_21 (oF hb) rfl dX6_line_28 ?_
              refine s_iload_n (k := 2) hX dX6_line_31 rfl rfl ?_
              refine e_zald hX (aF4 hb) dX6_line_32 h (fun h => ?_)
              refine e_if_eq (tgt := 56) hX dX6_line_33 (by decide) z_eq h (fun h => ?_) (fun h => ?_)
              · refine s_iinc (k := 3) (v := (y3_21 + (nI 1))) (lv' := [(0, .ref (ad b)), (1, .int y1_21), (2, .int y2_11), (3, .int (y3_21 + (nI 1)))]) hX dX6_line_56 (congrArg (fun z => y3_21 + z) (by decide)) (by decide) rfl rfl ?_
                refine s_goto (tgt := 21) hX dX6_line_59 (by decide) ?_
                exact ih21 y1_21 (y3_21 + (nI 1)) h
              · refine s_aload_n (k := 0) hX dX6_line_36 rfl rfl ?_
                refine s_get hX fX6_21 (oF hb) rfl dX6_line_37 ?_
                refine s_iload_n (k := 3) hX dX6_line_40 rfl rfl ?_
                refine e_zald hX (aF4 hb) dX6_line_41 h (fun h => ?_)
                refine e_if_eq (tgt := 56) hX dX6_line_42 (by decide) z_eq h (fun h => ?_) (fun h => ?_)
                · refine s_iinc (k := 3) (v := (y3_21 + (nI 1))) (lv' := [(0, .ref (ad b)), (1, .int y1_21), (2, .int y2_11), (3, .int (y3_21 + (nI 1)))]) hX dX6_line_56 (congrArg (fun z => y3_21 + z) (by decide)) (by decide) rfl rfl ?_
                  refine s_goto (tgt := 21) hX dX6_line_59 (by decide) ?_
                  exact ih21 y1_21 (y3_21 + (nI 1)) h
                · refine s_iload_n (k := 1) hX dX6_line_45 rfl rfl ?_
                  refine s_aload_n (k := 0) hX dX6_line_46 rfl rfl ?_
                  refine s_iload_n (k := 2) hX dX6_line_47 rfl rfl ?_
                  refine s_iload_n (k := 3) hX dX6_line_48 rfl rfl ?_
                  refine e_callSp hX (t_X6_countOnLine b hb y2_11 y3_21 M) mX6_countOnLine lX6_25 (by decide) (by decide) rfl rfl (Nat.le_of_ble_eq_true rfl) dX6_line_49 h (fun r_3 h => ?_)
                  refine e_mmax hX lX6_31 mJ9_max (by omega) (Nat.le_of_ble_eq_true rfl) dX6_line_52 ?_
                  refine e_bnd h (fun x_4 h => ?_)
                  refine s_istore_n (lv' := [(0, .ref (ad b)), (2, .int y2_11), (3, .int y3_21), (1, .int x_4)]) hX dX6_line_55 rfl (by decide) rfl ?_
                  refine s_iinc (k := 2) (v := (y3_21 + (nI 1))) (lv' := [(0, .ref (ad b)), (2, .int y2_11), (1, .int x_4), (3, .int (y3_21 + (nI 1)))]) hX dX6_line_56 (congrArg (fun z => y3_21 + z) (by decide)) (by decide) rfl rfl ?_
                  refine s_goto (tgt := 21) hX dX6_line_59 (by decide) ?_
                  refine s_loc [0, 2, 1, 3] rfl ?_
                  exact ih21 x_4 (y3_21 + (nI 1)) h
        exact lp21 FU y1_11 (y2_11 + (nI 1)) h
  exact lp11 FU x_2 (nI 0) h
set_option maxHeartbeats 4000000 in
theorem t_X6_pairs (b : Nat) (hb : isF b) (M : Mem) : AXp yX6_pairs cX6_pairs 4 (some .int) 3 60 glC (fun ad => [.ref (ad b)]) M (f_X6_pairs b M) := by
  intro r0 h
  refine AM.of (by decide) (fun _ => Nat.le_of_ble_eq_true rfl) (fun X ad cI cZ cB hX hR => ?_)
  show V X M [(0, .ref (ad b))] [] 0
  refine s_iconst (v := (nI 0)) hX dX6_pairs_0 (by decide) ?_
  refine s_istore_n (lv' := [(0, .ref (ad b)), (1, .int (nI 0))]) hX dX6_pairs_1 rfl (by decide) rfl ?_
  refine s_iconst (v := (nI 0)) hX dX6_pairs_2 (by decide) ?_
  refine s_istore_n (lv' := [(0, .ref (ad b)), (1, .int (nI 0)), (2, .int (nI 0))]) hX dX6_pairs_3 rfl (by decide) rfl ?_
  have lp4 : ∀ (N4 : Nat) (y1_4 : Int32) (y2_4 : Int32), wlp2 (f_X6_pairs_B4 b M) N4 y1_4 y2_4 = some r0 → V X M [(0, .ref (ad b)), (1, .int y1_4), (2, .int y2_4)] [] 4 := by
    intro N4
    induction N4 with
    | zero => exact fun _ _ h => e_none h
    | succ N4 ih4 =>
      intro y1_4 y2_4 h
      replace h : f_X6_pairs_B4 b M (wlp2 (f_X6_pairs_B4 b M) N4) y1_4 y2_4 = some r0 := h
      generalize wlp2 (f_X6_pairs_B4 b M) N4 = ag4 at ih4 h
      refine s_iload_n (k := 2) hX dX6_pairs_4 rfl rfl ?_
      refine s_bipush (v := (nI 40)) hX dX6_pairs_5 (by decide) ?_
      refine e_icmp_ge (tgt := 39) hX dX6_pairs_7 (by decide) (m_ge (by decide +kernel)) h (fun h => ?_) (fun h => ?_)
      · refine s_iload_n (k := 1) hX dX6_pairs_39 rfl rfl ?_
        exact e_iretp hX hR dX6_pairs_40 h
      · refine s_aload_n (k := 0) hX dX6_pairs_10 rfl rfl ?_
        refine s_iload_n (k := 2) hX dX6_pairs_11 rfl rfl ?_
        refine e_callSp hX (t_X6_nearest b hb y2_4 M) mX6_nearest lX6_48 (by decide) (by decide) rfl rfl (Nat.le_of_ble_eq_true rfl) dX6_pairs_12 h (fun r_1 h => ?_)
        refine s_istore_n (lv' := [(0, .ref (ad b)), (1, .int y1_4), (2, .int y2_4), (3, .int r_1)]) hX dX6_pairs_15 rfl (by decide) rfl ?_
        refine s_iload_n (k := 3) hX dX6_pairs_16 rfl rfl ?_
        refine s_iload_n (k := 2) hX dX6_pairs_17 rfl rfl ?_
        refine e_icmp_le (tgt := 33) hX dX6_pairs_18 (by decide) r_le h (fun h => ?_) (fun h => ?_)
        · refine s_iinc (k := 2) (v := (y2_4 + (nI 1))) (lv' := [(0, .ref (ad b)), (1, .int y1_4), (3, .int r_1), (2, .int (y2_4 + (nI 1)))]) hX dX6_pairs_33 (congrArg (fun z => y2_4 + z) (by decide)) (by decide) rfl rfl ?_
          refine s_goto (tgt := 4) hX dX6_pairs_36 (by decide) ?_
          refine s_loc [0, 1, 3] rfl ?_
          exact ih4 y1_4 (y2_4 + (nI 1)) h
        · refine s_aload_n (k := 0) hX dX6_pairs_21 rfl rfl ?_
          refine s_iload_n (k := 3) hX dX6_pairs_22 rfl rfl ?_
          refine e_callSp hX (t_X6_nearest b hb r_1 M) mX6_nearest lX6_48 (by decide) (by decide) rfl rfl (Nat.le_of_ble_eq_true rfl) dX6_pairs_23 h (fun r_2 h => ?_)
          refine s_iload_n (k := 2) hX dX6_pairs_26 rfl rfl ?_
          refine e_icmp_ne (tgt := 33) hX dX6_pairs_27 (by decide) r_eq h (fun h => ?_) (fun h => ?_)
          · refine s_iinc (k := 2) (v := (y2_4 + (nI 1))) (lv' := [(0, .ref (ad b)), (1, .int y1_4), (3, .int r_1), (2, .int (y2_4 + (nI 1)))]) hX dX6_pairs_33 (congrArg (fun z => y2_4 + z) (by decide)) (by decide) rfl rfl ?_
            refine s_goto (tgt := 4) hX dX6_pairs_36 (by decide) ?_
            refine s_loc [0, 1, 3] rfl ?_
            exact ih4 y1_4 (y2_4 + (nI 1)) h
          · refine s_iinc (k := 1) (v := (y1_4 + (nI 1))) (lv' := [(0, .ref (ad b)), (2, .int y2_4), (3, .int r_1), (1, .int (y1_4 + (nI 1)))]) hX dX6_pairs_30 (congrArg (fun z => y1_4 + z) (by decide)) (by decide) rfl rfl ?_
            refine s_iinc (k := 1) (v := (y2_4 + (nI 1))) (lv' := [(0, .ref (ad b)), (3, .int r_1), (1, .int (y1_4 + (nI 1))), (2, .int (y2_4 + (nI 1)))]) hX dX6_pairs_33 (congrArg (fun z => y2_4 + z) (by decide)) (by decide) rfl rfl ?_
            refine s_goto (tgt := 4) hX dX6_pairs_36 (by decide) ?_
            refine s_loc [0, 2, 3] rfl ?_
            exact ih4 (y1_4 + (nI 1)) (y2_4 + (nI 1)) h
  exact lp4 FU (nI 0) (nI 0) h
set_option maxHeartbeats 4000000 in
theorem t_X6_yardApart (b : Nat) (hb : isF b) (M : Mem) : AXp yX6_yardApart cX6_yardApart 4 (some .int) 1 60 glC (fun ad => [.ref (ad b)]) M (f_X6_yardApart b M) := by
  intro r0 h
  refine AM.of (by decide) (fun _ => Nat.le_of_ble_eq_true rfl) (fun X ad cI cZ cB hX hR => ?_)
  show V X M [(0, .ref (ad b))] [] 0
  refine s_iconst (v := (nI 0)) hX dX6_yardApart_0 (by decide) ?_
  refine s_istore_n (lv' := [(0, .ref (ad b)), (1, .int (nI 0))]) hX dX6_yardApart_1 rfl (by decide) rfl ?_
  refine s_iconst (v := (nI 0)) hX dX6_yardApart_2 (by decide) ?_
  refine s_istore_n (lv' := [(0, .ref (ad b)), (1, .int (nI 0)), (2, .int (nI 0))]) hX dX6_yardApart_3 rfl (by decide) rfl ?_
  have lp4 : ∀ (N4 : Nat) (y1_4 : Int32) (y2_4 : Int32), wlp2 (f_X6_yardApart_B4 b M) N4 y1_4 y2_4 = some r0 → V X M [(0, .ref (ad b)), (1, .int y1_4), (2, .int y2_4)] [] 4 := by
    intro N4
    induction N4 with
    | zero => exact fun _ _ h => e_none h
    | succ N4 ih4 =>
      intro y1_4 y2_4 h
      replace h : f_X6_yardApart_B4 b M (wlp2 (f_X6_yardApart_B4 b M) N4) y1_4 y2_4 = some r0 := h
      generalize wlp2 (f_X6_yardApart_B4 b M) N4 = ag4 at ih4 h
      refine s_iload_n (k := 2) hX dX6_yardApart_4 rfl rfl ?_
      refine s_bipush (v := (nI 40)) hX dX6_yardApart_5 (by decide) ?_
      refine e_icmp_ge (tgt := 67) hX dX6_yardApart_7 (by decide) (m_ge (by decide +kernel)) h (fun h => ?_) (fun h => ?_)
      · refine s_iload_n (k := 1) hX dX6_yardApart_67 rfl rfl ?_
        exact e_iretp hX hR dX6_yardApart_68 h
      · refine s_aload_n (k := 0) hX dX6_yardApart_10 rfl rfl ?_
        refine s_get hX fX6_21 (oF hb) rfl dX6_yardApart_11 ?_
        refine s_iload_n (k := 2) hX dX6_yardApart_14 rfl rfl ?_
        refine e_zald hX (aF4 hb) dX6_yardApart_15 h (fun h => ?_)
        refine e_if_eq (tgt := 61) hX dX6_yardApart_16 (by decide) z_eq h (fun h => ?_) (fun h => ?_)
        · refine s_iinc (k := 2) (v := (y2_4 + (nI 1))) (lv' := [(0, .ref (ad b)), (1, .int y1_4), (2, .int (y2_4 + (nI 1)))]) hX dX6_yardApart_61 (congrArg (fun z => y2_4 + z) (by decide)) (by decide) rfl rfl ?_
          refine s_goto (tgt := 4) hX dX6_yardApart_64 (by decide) ?_
          exact ih4 y1_4 (y2_4 + (nI 1)) h
        · refine s_iconst (v := (nI 1)) hX dX6_yardApart_19 (by decide) ?_
          refine s_istore_n (lv' := [(0, .ref (ad b)), (1, .int y1_4), (2, .int y2_4), (3, .int (nI 1))]) hX dX6_yardApart_20 rfl (by decide) rfl ?_
          have lp21 : ∀ (N21 : Nat) (y3_21 : Int32), wlp1 (f_X6_yardApart_B21 b M ag4 y1_4 y2_4) N21 y3_21 = some r0 → V X M [(0, .ref (ad b)), (1, .int y1_4), (2, .int y2_4), (3, .int y3_21)] [] 21 := by
            intro N21
            induction N21 with
            | zero => exact fun _ h => e_none h
            | succ N21 ih21 =>
              intro y3_21 h
              replace h : f_X6_yardApart_B21 b M ag4 y1_4 y2_4 (wlp1 (f_X6_yardApart_B21 b M ag4 y1_4 y2_4) N21) y3_21 = some r0 := h
              generalize wlp1 (f_X6_yardApart_B21 b M ag4 y1_4 y2_4) N21 = ag21 at ih21 h
              refine s_iload_n (k := 3) hX dX6_yardApart_21 rfl rfl ?_
              refine s_bipush (v := (nI 20)) hX dX6_yardApart_22 (by decide) ?_
              have j55 : f_X6_yardApart_L55 ag4 y1_4 y2_4 y3_21 = some r0 → V X M [(0, .ref (ad b)), (1, .int y1_4), (2, .int y2_4), (3, .int y3_21)] [] 55 := by
                intro  h
                refine s_iload_n (k := 1) hX dX6_yardApart_55 rfl rfl ?_
                refine s_iload_n (k := 3) hX dX6_yardApart_56 rfl rfl ?_
                refine e_mmax hX lX6_31 mJ9_max (by omega) (Nat.le_of_ble_eq_true rfl) dX6_yardApart_57 ?_
                refine e_bnd h (fun x_1 h => ?_)
                refine s_istore_n (lv' := [(0, .ref (ad b)), (2, .int y2_4), (3, .int y3_21), (1, .int x_1)]) hX dX6_yardApart_60 rfl (by decide) rfl ?_
                refine s_iinc (k := 1) (v := (y2_4 + (nI 1))) (lv' := [(0, .ref (ad b)), (3, .int y3_21), (1, .int x_1), (2, .int (y2_4 + (nI 1)))]) hX dX6_yardApart_61 (congrArg (fun z => y2_4 + z) (by decide)) (by decide) rfl rfl ?_
                refine s_goto (tgt := 4) hX dX6_yardApart_64 (by decide) ?_
                refine s_loc [0, 2, 3] rfl ?_
                exact ih4 x_1 (y2_4 + (nI 1)) h
              refine e_icmp_ge (tgt := 55) hX dX6_yardApart_24 (by decide) (m_ge (by decide +kernel)) h (fun h => ?_) (fun h => ?_)
              · exact j55 h
              · refine s_aload_n (k := 0) hX dX6_yardApart_27 rfl rfl ?_
                refine s_aload_n (k := 0) hX dX6_yardApart_28 rfl rfl ?_
                refine s_get hX fX6_38 (oF hb) rfl dX6_yardApart_29 ?_
                refine s_iload_n (k := 2) hX dX6_yardApart_32 rfl rfl ?_
                refine e_iald hX (aF1 hb) dX6_yardApart_33 h (fun h => ?_)
                refine s_aload_n (k := 0) hX dX6_yardApart_34 rfl rfl ?_
                refine s_get hX fX6_42 (oF hb) rfl dX6_yardApart_35 ?_
                refine s_iload_n (k := 2) hX dX6_yardApart_38 rfl rfl ?_
                refine e_iald hX (aF2 hb) dX6_yardApart_39 h (fun h => ?_)
                refine s_iload_n (k := 3) hX dX6_yardApart_40 rfl rfl ?_
                refine s_iadd hX dX6_yardApart_41 ?_
                refine e_callVp hX (t_X2_stoneAt b hb (M (b + 1) (ix y2_4)) ((M (b + 2) (ix y2_4)) + y3_21) M) mX2_stoneAt lX6_45 (by decide) (by decide) (oF hb) rfl rfl rfl rfl rfl (Nat.le_of_ble_eq_true rfl) dX6_yardApart_42 h (fun r_2 h => ?_)
                refine s_iconst (v := (-1)) hX dX6_yardApart_45 (by decide) ?_
                refine e_icmp_eq (tgt := 55) hX dX6_yardApart_46 (by decide) (m_eq (by decide +kernel)) h (fun h => ?_) (fun h => ?_)
                · exact j55 h
                · refine s_iinc (k := 3) (v := (y3_21 + (nI 1))) (lv' := [(0, .ref (ad b)), (1, .int y1_4), (2, .int y2_4), (3, .int (y3_21 + (nI 1)))]) hX dX6_yardApart_49 (congrArg (fun z => y3_21 + z) (by decide)) (by decide) rfl rfl ?_
                  refine s_goto (tgt := 21) hX dX6_yardApart_52 (by decide) ?_
                  exact ih21 (y3_21 + (nI 1)) h
          exact lp21 FU (nI 1) h
  exact lp4 FU (nI 0) (nI 0) h
set_option maxHeartbeats 4000000 in
theorem t_X7_append (v1 : Int32) (M : Mem) : AXv yX7_append cX7_append 3 none 0 60 glC (fun ad => [.ref (ad 19), .int v1]) M (f_X7_append M v1) := by
  intro r0 h
  refine AM.of (by decide) (fun _ => Nat.le_of_ble_eq_true rfl) (fun X ad cI cZ cB hX hR => ?_)
  show V X M [(0, .ref (ad 19)), (1, .int v1)] [] 0
  refine s_bipush (v := (nI 24)) hX dX7_append_0 (by decide) ?_
  refine s_istore_n (lv' := [(0, .ref (ad 19)), (1, .int v1), (2, .int (nI 24))]) hX dX7_append_2 rfl (by decide) rfl ?_
  have lp3 : ∀ (N3 : Nat) (M3 : Mem) (y2_3 : Int32), wlp2 (f_X7_append_B3 v1) N3 M3 y2_3 = some r0 → V X M3 [(0, .ref (ad 19)), (1, .int v1), (2, .int y2_3)] [] 3 := by
    intro N3
    induction N3 with
    | zero => exact fun _ _ h => e_none h
    | succ N3 ih3 =>
      intro M3 y2_3 h
      replace h : f_X7_append_B3 v1 (wlp2 (f_X7_append_B3 v1) N3) M3 y2_3 = some r0 := h
      generalize wlp2 (f_X7_append_B3 v1) N3 = ag3 at ih3 h
      refine s_iload_n (k := 2) hX dX7_append_3 rfl rfl ?_
      refine e_if_lt (tgt := 56) hX dX7_append_4 (by decide) z_lt h (fun h => ?_) (fun h => ?_)
      · exact e_vret hX hR dX7_append_56 h
      · refine s_aload_n (k := 0) hX dX7_append_7 rfl rfl ?_
        refine s_get hX fX7_15 oC19 rfl dX7_append_8 ?_
        refine e_if_lt (tgt := 50) hX dX7_append_11 (by decide) z_lt h (fun h => ?_) (fun h => ?_)
        · refine s_iinc (k := 2) (v := (y2_3 + (-8))) (lv' := [(0, .ref (ad 19)), (1, .int v1), (2, .int (y2_3 + (-8)))]) hX dX7_append_50 (congrArg (fun z => y2_3 + z) (by decide)) (by decide) rfl rfl ?_
          refine s_goto (tgt := 3) hX dX7_append_53 (by decide) ?_
          exact ih3 M3 (y2_3 + (-8)) h
        · refine s_aload_n (k := 0) hX dX7_append_14 rfl rfl ?_
          refine s_get hX fX7_15 oC19 rfl dX7_append_15 ?_
          refine s_sipush (v := (nI 260)) hX dX7_append_18 (by decide) ?_
          refine e_icmp_ge (tgt := 50) hX dX7_append_21 (by decide) (m_ge (by decide +kernel)) h (fun h => ?_) (fun h => ?_)
          · refine s_iinc (k := 2) (v := (y2_3 + (-8))) (lv' := [(0, .ref (ad 19)), (1, .int v1), (2, .int (y2_3 + (-8)))]) hX dX7_append_50 (congrArg (fun z => y2_3 + z) (by decide)) (by decide) rfl rfl ?_
            refine s_goto (tgt := 3) hX dX7_append_53 (by decide) ?_
            exact ih3 M3 (y2_3 + (-8)) h
          · refine s_aload_n (k := 0) hX dX7_append_24 rfl rfl ?_
            refine s_get hX fX7_9 oC19 rfl dX7_append_25 ?_
            refine s_aload_n (k := 0) hX dX7_append_28 rfl rfl ?_
            refine s_get hX fX7_15 oC19 rfl dX7_append_29 ?_
            refine s_iload_n (k := 1) hX dX7_append_32 rfl rfl ?_
            refine s_iload_n (k := 2) hX dX7_append_33 rfl rfl ?_
            refine e_ishr hX dX7_append_34 ?_
            refine s_sipush (v := (nI 255)) hX dX7_append_35 (by decide) ?_
            refine s_iand hX dX7_append_38 ?_
            refine e_iast hX aC20 dX7_append_39 h (fun h => ?_)
            refine e_bndM h (fun M_1 h => ?_)
            refine s_aload_n (k := 0) hX dX7_append_40 rfl rfl ?_
            refine s_dup hX dX7_append_41 rfl ?_
            refine s_get hX fX7_15 oC19 rfl dX7_append_42 ?_
            refine s_iconst (v := (nI 1)) hX dX7_append_45 (by decide) ?_
            refine s_iadd hX dX7_append_46 ?_
            refine s_puti (ty := .int) hX fX7_15 oC19 rfl (Nat.le_of_ble_eq_true rfl) ty_7_1 rfl rfl dX7_append_47 ?_
            refine e_bndM h (fun M_2 h => ?_)
            refine s_iinc (k := 2) (v := (y2_3 + (-8))) (lv' := [(0, .ref (ad 19)), (1, .int v1), (2, .int (y2_3 + (-8)))]) hX dX7_append_50 (congrArg (fun z => y2_3 + z) (by decide)) (by decide) rfl rfl ?_
            refine s_goto (tgt := 3) hX dX7_append_53 (by decide) ?_
            exact ih3 M_2 (y2_3 + (-8)) h
  exact lp3 FU M (nI 24) h
set_option maxHeartbeats 4000000 in
theorem t_X7_holds (v1 : Int32) (v2 : Int32) (v3 : Int32) (M : Mem) : AXp yX7_holds cX7_holds 4 (some .boolean) 0 60 glC (fun ad => [.ref (ad 19), .int v1, .int v2, .int v3]) M (f_X7_holds M v1 v2 v3) := by
  intro r0 h
  refine AM.of (by decide) (fun _ => Nat.le_of_ble_eq_true rfl) (fun X ad cI cZ cB hX hR => ?_)
  show V X M [(0, .ref (ad 19)), (1, .int v1), (2, .int v2), (3, .int v3)] [] 0
  refine s_iload_n (k := 1) hX dX7_holds_0 rfl rfl ?_
  refine s_iload_n (k := 2) hX dX7_holds_1 rfl rfl ?_
  refine e_icmp_lt (tgt := 22) hX dX7_holds_2 (by decide) r_lt h (fun h => ?_) (fun h => ?_)
  · refine s_iconst (v := (nI 0)) hX dX7_holds_22 (by decide) ?_
    exact e_zretpL hX hR dX7_holds_23 (by decide) h
  · refine s_iload_n (k := 1) hX dX7_holds_5 rfl rfl ?_
    refine s_iload_n (k := 3) hX dX7_holds_6 rfl rfl ?_
    refine e_icmp_gt (tgt := 22) hX dX7_holds_7 (by decide) r_lt h (fun h => ?_) (fun h => ?_)
    · refine s_iconst (v := (nI 0)) hX dX7_holds_22 (by decide) ?_
      exact e_zretpL hX hR dX7_holds_23 (by decide) h
    · refine s_iload_n (k := 1) hX dX7_holds_10 rfl rfl ?_
      refine s_aload_n (k := 0) hX dX7_holds_11 rfl rfl ?_
      refine s_get hX fX7_15 oC19 rfl dX7_holds_12 ?_
      refine e_icmp_gt (tgt := 22) hX dX7_holds_15 (by decide) r_lt h (fun h => ?_) (fun h => ?_)
      · refine s_iconst (v := (nI 0)) hX dX7_holds_22 (by decide) ?_
        exact e_zretpL hX hR dX7_holds_23 (by decide) h
      · refine s_iconst (v := (nI 1)) hX dX7_holds_18 (by decide) ?_
        refine s_goto (tgt := 23) hX dX7_holds_19 (by decide) ?_
        exact e_zretpL hX hR dX7_holds_23 (by decide) h
set_option maxHeartbeats 4000000 in
theorem t_X7_open (v1 : Int32) (M : Mem) : AXv yX7_open cX7_open 2 none 0 60 glC (fun ad => [.ref (ad 19), .int v1]) M (f_X7_open M v1) := by
  intro r0 h
  refine AM.of (by decide) (fun _ => Nat.le_of_ble_eq_true rfl) (fun X ad cI cZ cB hX hR => ?_)
  show V X M [(0, .ref (ad 19)), (1, .int v1)] [] 0
  refine s_aload_n (k := 0) hX dX7_open_0 rfl rfl ?_
  refine s_iload_n (k := 1) hX dX7_open_1 rfl rfl ?_
  refine s_puti (ty := .int) hX fX7_19 oC19 rfl (Nat.le_of_ble_eq_true rfl) ty_7_2 rfl rfl dX7_open_2 ?_
  refine e_bndM h (fun M_1 h => ?_)
  refine s_aload_n (k := 0) hX dX7_open_5 rfl rfl ?_
  refine s_iconst (v := (nI 0)) hX dX7_open_6 (by decide) ?_
  refine s_puti (ty := .int) hX fX7_22 oC19 rfl (Nat.le_of_ble_eq_true rfl) ty_7_3 rfl rfl dX7_open_7 ?_
  refine e_bndM h (fun M_2 h => ?_)
  refine s_aload_n (k := 0) hX dX7_open_10 rfl rfl ?_
  refine s_iconst (v := (nI 0)) hX dX7_open_11 (by decide) ?_
  refine s_puti (ty := .int) hX fX7_25 oC19 rfl (Nat.le_of_ble_eq_true rfl) ty_7_4 rfl rfl dX7_open_12 ?_
  refine e_bndM h (fun M_3 h => ?_)
  refine s_aload_n (k := 0) hX dX7_open_15 rfl rfl ?_
  refine s_iconst (v := (nI 0)) hX dX7_open_16 (by decide) ?_
  refine s_puti (ty := .int) hX fX7_15 oC19 rfl (Nat.le_of_ble_eq_true rfl) ty_7_1 rfl rfl dX7_open_17 ?_
  refine e_bndM h (fun M_4 h => ?_)
  exact e_vret hX hR dX7_open_20 h
set_option maxHeartbeats 4000000 in
theorem t_X8_spreadOn (b : Nat) (hb : isF b) (k len_k : Nat) (hk : ∀ {ad : Nat → Nat} {cI cZ cB : ClassId}, IA (glC ad cI cZ cB) 60 k cI len_k) (hlk : len_k < 2 ^ 31) (v2 : Int32) (v3 : Int32) (v5 : Int32) (M : Mem) : AXi yX8_spreadOn cX8_spreadOn 11 (some .int) 3 60 glC (fun ad => [.ref (ad 23), .ref (ad b), .int v2, .int v3, .ref (ad k), .int v5]) M (f_X8_spreadOn b k len_k M v2 v3 v5) := by
  intro r0 h
  refine AM.of (by decide) (fun _ => Nat.le_of_ble_eq_true rfl) (fun X ad cI cZ cB hX hR => ?_)
  show V X M [(0, .ref (ad 23)), (1, .ref (ad b)), (2, .int v2), (3, .int v3), (4, .ref (ad k)), (5, .int v5)] [] 0
  refine s_iload_n (k := 3) hX dX8_spreadOn_0 rfl rfl ?_
  refine e_if_lt (tgt := 18) hX dX8_spreadOn_1 (by decide) z_lt h (fun h => ?_) (fun h => ?_)
  · refine s_iconst (v := (nI 0)) hX dX8_spreadOn_18 (by decide) ?_
    exact e_ireti hX hR dX8_spreadOn_19 h
  · refine s_iload_n (k := 3) hX dX8_spreadOn_4 rfl rfl ?_
    refine s_bipush (v := (nI 42)) hX dX8_spreadOn_5 (by decide) ?_
    refine e_icmp_ge (tgt := 18) hX dX8_spreadOn_7 (by decide) (m_ge (by decide +kernel)) h (fun h => ?_) (fun h => ?_)
    · refine s_iconst (v := (nI 0)) hX dX8_spreadOn_18 (by decide) ?_
      exact e_ireti hX hR dX8_spreadOn_19 h
    · refine s_aload (k := 4) hX dX8_spreadOn_10 rfl ?_
      refine s_alen (v := nI len_k) hX hk rfl dX8_spreadOn_12 ?_
      refine s_bipush (v := (nI 42)) hX dX8_spreadOn_13 (by decide) ?_
      refine e_icmp_ge (tgt := 20) hX dX8_spreadOn_15 (by decide) (m_ge (by decide +kernel)) h (fun h => ?_) (fun h => ?_)
      · refine s_aload (k := 4) hX dX8_spreadOn_20 rfl ?_
        refine s_iload_n (k := 3) hX dX8_spreadOn_22 rfl rfl ?_
        refine s_iconst (v := (nI 0)) hX dX8_spreadOn_23 (by decide) ?_
        refine e_iast hX hk dX8_spreadOn_24 h (fun h => ?_)
        refine e_bndM h (fun M_1 h => ?_)
        refine s_aload_n (k := 0) hX dX8_spreadOn_25 rfl rfl ?_
        refine s_get hX fX8_18 oC23 rfl dX8_spreadOn_26 ?_
        refine s_iconst (v := (nI 0)) hX dX8_spreadOn_29 (by decide) ?_
        refine s_iload_n (k := 3) hX dX8_spreadOn_30 rfl rfl ?_
        refine s_iastN hX aC26 (by decide) dX8_spreadOn_31 ?_
        refine e_bndM h (fun M_2 h => ?_)
        refine s_iconst (v := (nI 1)) hX dX8_spreadOn_32 (by decide) ?_
        refine s_istore (lv' := [(0, .ref (ad 23)), (1, .ref (ad b)), (2, .int v2), (3, .int v3), (4, .ref (ad k)), (5, .int v5), (6, .int (nI 1))]) hX dX8_spreadOn_33 (by decide) rfl ?_
        refine s_iconst (v := (nI 0)) hX dX8_spreadOn_35 (by decide) ?_
        refine s_istore (lv' := [(0, .ref (ad 23)), (1, .ref (ad b)), (2, .int v2), (3, .int v3), (4, .ref (ad k)), (5, .int v5), (6, .int (nI 1)), (7, .int (nI 0))]) hX dX8_spreadOn_36 (by decide) rfl ?_
        have lp38 : ∀ (N38 : Nat) (M38 : Mem) (y6_38 : Int32) (y7_38 : Int32), wlp3 (f_X8_spreadOn_B38 b k len_k v2 v5) N38 M38 y6_38 y7_38 = some r0 → V X M38 [(0, .ref (ad 23)), (1, .ref (ad b)), (2, .int v2), (4, .ref (ad k)), (5, .int v5), (6, .int y6_38), (7, .int y7_38)] [] 38 := by
          intro N38
          induction N38 with
          | zero => exact fun _ _ _ h => e_none h
          | succ N38 ih38 =>
            intro M38 y6_38 y7_38 h
            replace h : f_X8_spreadOn_B38 b k len_k v2 v5 (wlp3 (f_X8_spreadOn_B38 b k len_k v2 v5) N38) M38 y6_38 y7_38 = some r0 := h
            generalize wlp3 (f_X8_spreadOn_B38 b k len_k v2 v5) N38 = ag38 at ih38 h
            refine s_iload (k := 6) hX dX8_spreadOn_38 rfl ?_
            refine s_iload (k := 5) hX dX8_spreadOn_40 rfl ?_
            refine e_icmp_ge (tgt := 162) hX dX8_spreadOn_42 (by decide) r_le h (fun h => ?_) (fun h => ?_)
            · refine s_iload (k := 5) hX dX8_spreadOn_162 rfl ?_
              exact e_ireti hX hR dX8_spreadOn_164 h
            · refine s_iload (k := 6) hX dX8_spreadOn_45 rfl ?_
              refine s_bipush (v := (nI 42)) hX dX8_spreadOn_47 (by decide) ?_
              refine e_icmp_ge (tgt := 162) hX dX8_spreadOn_49 (by decide) (m_ge (by decide +kernel)) h (fun h => ?_) (fun h => ?_)
              · refine s_iload (k := 5) hX dX8_spreadOn_162 rfl ?_
                exact e_ireti hX hR dX8_spreadOn_164 h
              · refine s_aload_n (k := 0) hX dX8_spreadOn_52 rfl rfl ?_
                refine s_get hX fX8_18 oC23 rfl dX8_spreadOn_53 ?_
                refine s_iload (k := 6) hX dX8_spreadOn_56 rfl ?_
                refine e_iald hX aC26 dX8_spreadOn_58 h (fun h => ?_)
                refine e_bnd h (fun x_3 h => ?_)
                refine s_istore (lv' := [(0, .ref (ad 23)), (1, .ref (ad b)), (2, .int v2), (4, .ref (ad k)), (5, .int v5), (6, .int y6_38), (7, .int y7_38), (8, .int x_3)]) hX dX8_spreadOn_59 (by decide) rfl ?_
                refine s_iload (k := 7) hX dX8_spreadOn_61 rfl ?_
                have j84 : ∀ (t0_84 : Int32), f_X8_spreadOn_L84 b k len_k v2 v5 ag38 M38 y6_38 y7_38 x_3 t0_84 = some r0 → V X M38 [(0, .ref (ad 23)), (1, .ref (ad b)), (2, .int v2), (4, .ref (ad k)), (5, .int v5), (6, .int y6_38), (7, .int y7_38), (8, .int x_3)] [.int t0_84] 84 := by
                  intro t0_84 h
                  refine s_istore (lv' := [(0, .ref (ad 23)), (1, .ref (ad b)), (2, .int v2), (4, .ref (ad k)), (5, .int v5), (6, .int y6_38), (7, .int y7_38), (8, .int x_3), (9, .int t0_84)]) hX dX8_spreadOn_84 (by decide) rfl ?_
                  refine s_iconst (v := (nI 0)) hX dX8_spreadOn_86 (by decide) ?_
                  refine s_istore (lv' := [(0, .ref (ad 23)), (1, .ref (ad b)), (2, .int v2), (4, .ref (ad k)), (5, .int v5), (6, .int y6_38), (7, .int y7_38), (8, .int x_3), (9, .int t0_84), (10, .int (nI 0))]) hX dX8_spreadOn_87 (by decide) rfl ?_
                  have lp89 : ∀ (N89 : Nat) (M89 : Mem) (y6_89 : Int32) (y10_89 : Int32), wlp3 (f_X8_spreadOn_B89 b k len_k v2 v5 ag38 y7_38 x_3 t0_84) N89 M89 y6_89 y10_89 = some r0 → V X M89 [(0, .ref (ad 23)), (1, .ref (ad b)), (2, .int v2), (4, .ref (ad k)), (5, .int v5), (6, .int y6_89), (7, .int y7_38), (8, .int x_3), (9, .int t0_84), (10, .int y10_89)] [] 89 := by
                    intro N89
                    induction N89 with
                    | zero => exact fun _ _ _ h => e_none h
                    | succ N89 ih89 =>
                      intro M89 y6_89 y10_89 h
                      replace h : f_X8_spreadOn_B89 b k len_k v2 v5 ag38 y7_38 x_3 t0_84 (wlp3 (f_X8_spreadOn_B89 b k len_k v2 v5 ag38 y7_38 x_3 t0_84) N89) M89 y6_89 y10_89 = some r0 := h
                      generalize wlp3 (f_X8_spreadOn_B89 b k len_k v2 v5 ag38 y7_38 x_3 t0_84) N89 = ag89 at ih89 h
                      refine s_iload (k := 9) hX dX8_spreadOn_89 rfl ?_
                      refine s_iload (k := 4) hX dX8_spreadOn_91 rfl ?_
                      refine e_icmp_ge (tgt := 156) hX dX8_spreadOn_93 (by decide) r_le h (fun h => ?_) (fun h => ?_)
                      · refine s_iinc (k := 6) (v := (y7_38 + (nI 1))) (lv' := [(0, .ref (ad 23)), (1, .ref (ad b)), (2, .int v2), (4, .ref (ad k)), (5, .int v5), (6, .int y6_89), (8, .int x_3), (9, .int t0_84), (10, .int y10_89), (7, .int (y7_38 + (nI 1)))]) hX dX8_spreadOn_156 (congrArg (fun z => y7_38 + z) (by decide)) (by decide) rfl rfl ?_
                        refine s_goto (tgt := 38) hX dX8_spreadOn_159 (by decide) ?_
                        refine s_loc [0, 1, 2, 3, 4, 5, 9] rfl ?_
                        exact ih38 M89 y6_89 (y7_38 + (nI 1)) h
                      · refine s_iload (k := 9) hX dX8_spreadOn_96 rfl ?_
                        refine s_bipush (v := (nI 42)) hX dX8_spreadOn_98 (by decide) ?_
                        refine e_icmp_ge (tgt := 156) hX dX8_spreadOn_100 (by decide) (m_ge (by decide +kernel)) h (fun h => ?_) (fun h => ?_)
                        · refine s_iinc (k := 6) (v := (y7_38 + (nI 1))) (lv' := [(0, .ref (ad 23)), (1, .ref (ad b)), (2, .int v2), (4, .ref (ad k)), (5, .int v5), (6, .int y6_89), (8, .int x_3), (9, .int t0_84), (10, .int y10_89), (7, .int (y7_38 + (nI 1)))]) hX dX8_spreadOn_156 (congrArg (fun z => y7_38 + z) (by decide)) (by decide) rfl rfl ?_
                          refine s_goto (tgt := 38) hX dX8_spreadOn_159 (by decide) ?_
                          refine s_loc [0, 1, 2, 3, 4, 5, 9] rfl ?_
                          exact ih38 M89 y6_89 (y7_38 + (nI 1)) h
                        · refine s_aload (k := 3) hX dX8_spreadOn_103 rfl ?_
                          refine s_iload (k := 9) hX dX8_spreadOn_105 rfl ?_
                          refine e_iald hX hk dX8_spreadOn_107 h (fun h => ?_)
                          refine s_iconst (v := (-1)) hX dX8_spreadOn_108 (by decide) ?_
                          refine e_icmp_ne (tgt := 150) hX dX8_spreadOn_109 (by decide) (m_eq (by decide +kernel)) h (fun h => ?_) (fun h => ?_)
                          · refine s_iinc (k := 9) (v := (y10_89 + (nI 1))) (lv' := [(0, .ref (ad 23)), (1, .ref (ad b)), (2, .int v2), (4, .ref (ad k)), (5, .int v5), (6, .int y6_89), (7, .int y7_38), (8, .int x_3), (9, .int t0_84), (10, .int (y10_89 + (nI 1)))]) hX dX8_spreadOn_150 (congrArg (fun z => y10_89 + z) (by decide)) (by decide) rfl rfl ?_
                            refine s_goto (tgt := 89) hX dX8_spreadOn_153 (by decide) ?_
                            exact ih89 M89 y6_89 (y10_89 + (nI 1)) h
                          · refine s_iload (k := 5) hX dX8_spreadOn_112 rfl ?_
                            refine s_bipush (v := (nI 42)) hX dX8_spreadOn_114 (by decide) ?_
                            refine e_icmp_ge (tgt := 150) hX dX8_spreadOn_116 (by decide) (m_ge (by decide +kernel)) h (fun h => ?_) (fun h => ?_)
                            · refine s_iinc (k := 9) (v := (y10_89 + (nI 1))) (lv' := [(0, .ref (ad 23)), (1, .ref (ad b)), (2, .int v2), (4, .ref (ad k)), (5, .int v5), (6, .int y6_89), (7, .int y7_38), (8, .int x_3), (9, .int t0_84), (10, .int (y10_89 + (nI 1)))]) hX dX8_spreadOn_150 (congrArg (fun z => y10_89 + z) (by decide)) (by decide) rfl rfl ?_
                              refine s_goto (tgt := 89) hX dX8_spreadOn_153 (by decide) ?_
                              exact ih89 M89 y6_89 (y10_89 + (nI 1)) h
                            · refine s_aload_n (k := 1) hX dX8_spreadOn_119 rfl rfl ?_
                              refine s_iload (k := 7) hX dX8_spreadOn_120 rfl ?_
                              refine s_iload (k := 9) hX dX8_spreadOn_122 rfl ?_
                              refine s_iload_n (k := 2) hX dX8_spreadOn_124 rfl rfl ?_
                              refine e_callVp hX (t_X2_isStep b hb x_3 y10_89 v2 M89) mX2_isStep lX8_41 (by decide) (by decide) (oF hb) rfl rfl rfl rfl rfl (Nat.le_of_ble_eq_true rfl) dX8_spreadOn_125 h (fun r_4 h => ?_)
                              refine e_if_eq (tgt := 150) hX dX8_spreadOn_128 (by decide) z_eq h (fun h => ?_) (fun h => ?_)
                              · refine s_iinc (k := 9) (v := (y10_89 + (nI 1))) (lv' := [(0, .ref (ad 23)), (1, .ref (ad b)), (2, .int v2), (4, .ref (ad k)), (5, .int v5), (6, .int y6_89), (7, .int y7_38), (8, .int x_3), (9, .int t0_84), (10, .int (y10_89 + (nI 1)))]) hX dX8_spreadOn_150 (congrArg (fun z => y10_89 + z) (by decide)) (by decide) rfl rfl ?_
                                refine s_goto (tgt := 89) hX dX8_spreadOn_153 (by decide) ?_
                                exact ih89 M89 y6_89 (y10_89 + (nI 1)) h
                              · refine s_aload (k := 3) hX dX8_spreadOn_131 rfl ?_
                                refine s_iload (k := 9) hX dX8_spreadOn_133 rfl ?_
                                refine s_iload (k := 8) hX dX8_spreadOn_135 rfl ?_
                                refine e_iast hX hk dX8_spreadOn_137 h (fun h => ?_)
                                refine e_bndM h (fun M_5 h => ?_)
                                refine s_aload_n (k := 0) hX dX8_spreadOn_138 rfl rfl ?_
                                refine s_get hX fX8_18 oC23 rfl dX8_spreadOn_139 ?_
                                refine s_iload (k := 5) hX dX8_spreadOn_142 rfl ?_
                                refine s_iload (k := 9) hX dX8_spreadOn_144 rfl ?_
                                refine e_iast hX aC26 dX8_spreadOn_146 h (fun h => ?_)
                                refine e_bndM h (fun M_6 h => ?_)
                                refine s_iinc (k := 5) (v := (y6_89 + (nI 1))) (lv' := [(0, .ref (ad 23)), (1, .ref (ad b)), (2, .int v2), (4, .ref (ad k)), (5, .int v5), (7, .int y7_38), (8, .int x_3), (9, .int t0_84), (10, .int y10_89), (6, .int (y6_89 + (nI 1)))]) hX dX8_spreadOn_147 (congrArg (fun z => y6_89 + z) (by decide)) (by decide) rfl rfl ?_
                                refine s_iinc (k := 8) (v := (y10_89 + (nI 1))) (lv' := [(0, .ref (ad 23)), (1, .ref (ad b)), (2, .int v2), (4, .ref (ad k)), (5, .int v5), (7, .int y7_38), (8, .int x_3), (9, .int t0_84), (6, .int (y6_89 + (nI 1))), (10, .int (y10_89 + (nI 1)))]) hX dX8_spreadOn_150 (congrArg (fun z => y10_89 + z) (by decide)) (by decide) rfl rfl ?_
                                refine s_goto (tgt := 89) hX dX8_spreadOn_153 (by decide) ?_
                                refine s_loc [0, 1, 2, 3, 4, 8, 5, 6, 7, 9] rfl ?_
                                exact ih89 M_6 (y6_89 + (nI 1)) (y10_89 + (nI 1)) h
                  exact lp89 FU M38 y6_38 (nI 0) h
                have j83 : f_X8_spreadOn_L83 b k len_k v2 v5 ag38 M38 y6_38 y7_38 x_3 = some r0 → V X M38 [(0, .ref (ad 23)), (1, .ref (ad b)), (2, .int v2), (4, .ref (ad k)), (5, .int v5), (6, .int y6_38), (7, .int y7_38), (8, .int x_3)] [] 83 := by
                  intro  h
                  refine s_iconst (v := (nI 0)) hX dX8_spreadOn_83 (by decide) ?_
                  exact j84 (nI 0) h
                refine e_if_lt (tgt := 83) hX dX8_spreadOn_63 (by decide) z_lt h (fun h => ?_) (fun h => ?_)
                · exact j83 h
                · refine s_iload (k := 7) hX dX8_spreadOn_66 rfl ?_
                  refine s_bipush (v := (nI 42)) hX dX8_spreadOn_68 (by decide) ?_
                  refine e_icmp_ge (tgt := 83) hX dX8_spreadOn_70 (by decide) (m_ge (by decide +kernel)) h (fun h => ?_) (fun h => ?_)
                  · exact j83 h
                  · refine s_aload (k := 3) hX dX8_spreadOn_73 rfl ?_
                    refine s_iload (k := 7) hX dX8_spreadOn_75 rfl ?_
                    refine e_iald hX hk dX8_spreadOn_77 h (fun h => ?_)
                    refine s_iconst (v := (nI 1)) hX dX8_spreadOn_78 (by decide) ?_
                    refine s_iadd hX dX8_spreadOn_79 ?_
                    refine s_goto (tgt := 84) hX dX8_spreadOn_80 (by decide) ?_
                    exact j84 ((M38 k (ix x_3)) + (nI 1)) h
        refine s_loc [0, 1, 2, 4, 5, 6, 7] rfl ?_
        exact lp38 FU M_2 (nI 1) (nI 0) h
      · refine s_iconst (v := (nI 0)) hX dX8_spreadOn_18 (by decide) ?_
        exact e_ireti hX hR dX8_spreadOn_19 h
set_option maxHeartbeats 4000000 in
theorem t_X8_spread (b : Nat) (hb : isF b) (k len_k : Nat) (hk : ∀ {ad : Nat → Nat} {cI cZ cB : ClassId}, IA (glC ad cI cZ cB) 60 k cI len_k) (hlk : len_k < 2 ^ 31) (v2 : Int32) (v3 : Int32) (v5 : Int32) (M : Mem) : AXi yX8_spread cX8_spread 6 (some .int) 4 60 glC (fun ad => [.ref (ad 23), .ref (ad b), .int v2, .int v3, .ref (ad k), .int v5]) M (f_X8_spread b k len_k M v2 v3 v5) := by
  intro r0 h
  refine AM.of (by decide) (fun _ => Nat.le_of_ble_eq_true rfl) (fun X ad cI cZ cB hX hR => ?_)
  show V X M [(0, .ref (ad 23)), (1, .ref (ad b)), (2, .int v2), (3, .int v3), (4, .ref (ad k)), (5, .int v5)] [] 0
  refine s_aload (k := 4) hX dX8_spread_0 rfl ?_
  refine s_iconst (v := (-1)) hX dX8_spread_2 (by decide) ?_
  refine e_callSv hX (t_J7_fill_53178 k len_k hk hlk (-1) M) mJ7_fill_53178 lX8_31 (by decide) (by decide) rfl rfl (Nat.le_of_ble_eq_true rfl) dX8_spread_3 h (fun M_1 h => ?_)
  refine s_aload_n (k := 0) hX dX8_spread_6 rfl rfl ?_
  refine s_aload_n (k := 1) hX dX8_spread_7 rfl rfl ?_
  refine s_iload_n (k := 2) hX dX8_spread_8 rfl rfl ?_
  refine s_iload_n (k := 3) hX dX8_spread_9 rfl rfl ?_
  refine s_aload (k := 4) hX dX8_spread_10 rfl ?_
  refine s_iload (k := 5) hX dX8_spread_12 rfl ?_
  refine e_callVi hX (t_X8_spreadOn b hb k len_k hk hlk v2 v3 v5 M_1) mX8_spreadOn lX8_37 (by decide) (by decide) oC23 rfl rfl rfl rfl rfl (Nat.le_of_ble_eq_true rfl) dX8_spread_14 h (fun r_2 M_3 h => ?_)
  exact e_ireti hX hR dX8_spread_17 h
set_option maxHeartbeats 4000000 in
theorem t_X8_canCross (b : Nat) (hb : isF b) (v2 : Int32) (M : Mem) : AXi yX8_canCross cX8_canCross 3 (some .boolean) 5 60 glC (fun ad => [.ref (ad 23), .ref (ad b), .int v2]) M (f_X8_canCross b M v2) := by
  intro r0 h
  refine AM.of (by decide) (fun _ => Nat.le_of_ble_eq_true rfl) (fun X ad cI cZ cB hX hR => ?_)
  show V X M [(0, .ref (ad 23)), (1, .ref (ad b)), (2, .int v2)] [] 0
  refine s_aload_n (k := 0) hX dX8_canCross_0 rfl rfl ?_
  refine s_aload_n (k := 1) hX dX8_canCross_1 rfl rfl ?_
  refine s_iload_n (k := 2) hX dX8_canCross_2 rfl rfl ?_
  refine s_bipush (v := (nI 40)) hX dX8_canCross_3 (by decide) ?_
  refine s_aload_n (k := 0) hX dX8_canCross_5 rfl rfl ?_
  refine s_get hX fX8_9 oC23 rfl dX8_canCross_6 ?_
  refine s_bipush (v := (nI 42)) hX dX8_canCross_9 (by decide) ?_
  refine e_callVi hX (t_X8_spread b hb 24 42 aC24 (by decide) v2 (nI 40) (nI 42) M) mX8_spread lX8_47 (by decide) (by decide) oC23 rfl rfl rfl rfl rfl (Nat.le_of_ble_eq_true rfl) dX8_canCross_11 h (fun r_1 M_2 h => ?_)
  refine s_pop hX dX8_canCross_14 rfl ?_
  refine s_aload_n (k := 0) hX dX8_canCross_15 rfl rfl ?_
  refine s_get hX fX8_9 oC23 rfl dX8_canCross_16 ?_
  refine s_bipush (v := (nI 41)) hX dX8_canCross_19 (by decide) ?_
  refine s_ialdN hX aC24 (by decide) dX8_canCross_21 ?_
  refine s_iconst (v := (-1)) hX dX8_canCross_22 (by decide) ?_
  refine e_icmp_eq (tgt := 30) hX dX8_canCross_23 (by decide) (m_eq (by decide +kernel)) h (fun h => ?_) (fun h => ?_)
  · refine s_iconst (v := (nI 0)) hX dX8_canCross_30 (by decide) ?_
    exact e_zretiL hX hR dX8_canCross_31 (by decide) h
  · refine s_iconst (v := (nI 1)) hX dX8_canCross_26 (by decide) ?_
    refine s_goto (tgt := 31) hX dX8_canCross_27 (by decide) ?_
    exact e_zretiL hX hR dX8_canCross_31 (by decide) h
