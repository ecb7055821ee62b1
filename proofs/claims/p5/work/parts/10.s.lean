theorem dX3_doesHold_0 : decode cX3_doesHold 0 = .ok (.iload_n 1, 1) := by decide +kernel
theorem dX3_doesHold_1 : decode cX3_doesHold 1 = .ok (.ifCond .lt 33, 3) := by decide +kernel
theorem dX3_doesHold_4 : decode cX3_doesHold 4 = .ok (.iload_n 1, 1) := by decide +kernel
theorem dX3_doesHold_5 : decode cX3_doesHold 5 = .ok (.bipush 16, 2) := by decide +kernel
theorem dX3_doesHold_7 : decode cX3_doesHold 7 = .ok (.if_icmp .ge 27, 3) := by decide +kernel
theorem dX3_doesHold_10 : decode cX3_doesHold 10 = .ok (.aload_n 0, 1) := by decide +kernel
theorem dX3_doesHold_11 : decode cX3_doesHold 11 = .ok (.aload_n 0, 1) := by decide +kernel
theorem dX3_doesHold_12 : decode cX3_doesHold 12 = .ok (.getfield 27, 3) := by decide +kernel
theorem dX3_doesHold_15 : decode cX3_doesHold 15 = .ok (.iload_n 1, 1) := by decide +kernel
theorem dX3_doesHold_16 : decode cX3_doesHold 16 = .ok (.iaload, 1) := by decide +kernel
theorem dX3_doesHold_17 : decode cX3_doesHold 17 = .ok (.aload_n 0, 1) := by decide +kernel
theorem dX3_doesHold_18 : decode cX3_doesHold 18 = .ok (.getfield 30, 3) := by decide +kernel
theorem dX3_doesHold_21 : decode cX3_doesHold 21 = .ok (.iload_n 1, 1) := by decide +kernel
theorem dX3_doesHold_22 : decode cX3_doesHold 22 = .ok (.iaload, 1) := by decide +kernel
theorem dX3_doesHold_23 : decode cX3_doesHold 23 = .ok (.aload_n 2, 1) := by decide +kernel
theorem dX3_doesHold_24 : decode cX3_doesHold 24 = .ok (.invokevirtual 104, 3) := by decide +kernel
theorem dX3_doesHold_27 : decode cX3_doesHold 27 = .ok (.ifCond .eq 7, 3) := by decide +kernel
theorem dX3_doesHold_30 : decode cX3_doesHold 30 = .ok (.iconst 1, 1) := by decide +kernel
theorem dX3_doesHold_31 : decode cX3_doesHold 31 = .ok (.goto 4, 3) := by decide +kernel
theorem dX3_doesHold_34 : decode cX3_doesHold 34 = .ok (.iconst 0, 1) := by decide +kernel
theorem dX3_doesHold_35 : decode cX3_doesHold 35 = .ok (.ireturn, 1) := by decide +kernel
theorem dX3_amountOf_0 : decode cX3_amountOf 0 = .ok (.iconst 0, 1) := by decide +kernel
theorem dX3_amountOf_1 : decode cX3_amountOf 1 = .ok (.istore_n 3, 1) := by decide +kernel
theorem dX3_amountOf_2 : decode cX3_amountOf 2 = .ok (.iload_n 3, 1) := by decide +kernel
theorem dX3_amountOf_3 : decode cX3_amountOf 3 = .ok (.aload_n 0, 1) := by decide +kernel
theorem dX3_amountOf_4 : decode cX3_amountOf 4 = .ok (.getfield 37, 3) := by decide +kernel
theorem dX3_amountOf_7 : decode cX3_amountOf 7 = .ok (.if_icmp .ge 65, 3) := by decide +kernel
theorem dX3_amountOf_10 : decode cX3_amountOf 10 = .ok (.iload_n 3, 1) := by decide +kernel
theorem dX3_amountOf_11 : decode cX3_amountOf 11 = .ok (.bipush 16, 2) := by decide +kernel
theorem dX3_amountOf_13 : decode cX3_amountOf 13 = .ok (.if_icmp .ge 59, 3) := by decide +kernel
theorem dX3_amountOf_16 : decode cX3_amountOf 16 = .ok (.aload_n 0, 1) := by decide +kernel
theorem dX3_amountOf_17 : decode cX3_amountOf 17 = .ok (.getfield 21, 3) := by decide +kernel
theorem dX3_amountOf_20 : decode cX3_amountOf 20 = .ok (.iload_n 3, 1) := by decide +kernel
theorem dX3_amountOf_21 : decode cX3_amountOf 21 = .ok (.iaload, 1) := by decide +kernel
theorem dX3_amountOf_22 : decode cX3_amountOf 22 = .ok (.iload_n 1, 1) := by decide +kernel
theorem dX3_amountOf_23 : decode cX3_amountOf 23 = .ok (.if_icmp .ne 43, 3) := by decide +kernel
theorem dX3_amountOf_26 : decode cX3_amountOf 26 = .ok (.aload_n 0, 1) := by decide +kernel
theorem dX3_amountOf_27 : decode cX3_amountOf 27 = .ok (.iload_n 3, 1) := by decide +kernel
theorem dX3_amountOf_28 : decode cX3_amountOf 28 = .ok (.aload_n 2, 1) := by decide +kernel
theorem dX3_amountOf_29 : decode cX3_amountOf 29 = .ok (.invokevirtual 100, 3) := by decide +kernel
theorem dX3_amountOf_32 : decode cX3_amountOf 32 = .ok (.ifCond .eq 34, 3) := by decide +kernel
theorem dX3_amountOf_35 : decode cX3_amountOf 35 = .ok (.aload_n 0, 1) := by decide +kernel
theorem dX3_amountOf_36 : decode cX3_amountOf 36 = .ok (.aload_n 0, 1) := by decide +kernel
theorem dX3_amountOf_37 : decode cX3_amountOf 37 = .ok (.getfield 24, 3) := by decide +kernel
theorem dX3_amountOf_40 : decode cX3_amountOf 40 = .ok (.iload_n 3, 1) := by decide +kernel
theorem dX3_amountOf_41 : decode cX3_amountOf 41 = .ok (.iaload, 1) := by decide +kernel
theorem dX3_amountOf_42 : decode cX3_amountOf 42 = .ok (.aload_n 0, 1) := by decide +kernel
theorem dX3_amountOf_43 : decode cX3_amountOf 43 = .ok (.getfield 27, 3) := by decide +kernel
theorem dX3_amountOf_46 : decode cX3_amountOf 46 = .ok (.iload_n 3, 1) := by decide +kernel
theorem dX3_amountOf_47 : decode cX3_amountOf 47 = .ok (.iaload, 1) := by decide +kernel
theorem dX3_amountOf_48 : decode cX3_amountOf 48 = .ok (.aload_n 2, 1) := by decide +kernel
theorem dX3_amountOf_49 : decode cX3_amountOf 49 = .ok (.invokevirtual 104, 3) := by decide +kernel
theorem dX3_amountOf_52 : decode cX3_amountOf 52 = .ok (.istore 4, 2) := by decide +kernel
theorem dX3_amountOf_54 : decode cX3_amountOf 54 = .ok (.iconst 0, 1) := by decide +kernel
theorem dX3_amountOf_55 : decode cX3_amountOf 55 = .ok (.bipush 9, 2) := by decide +kernel
theorem dX3_amountOf_57 : decode cX3_amountOf 57 = .ok (.iload 4, 2) := by decide +kernel
theorem dX3_amountOf_59 : decode cX3_amountOf 59 = .ok (.invokestatic 108, 3) := by decide +kernel
theorem dX3_amountOf_62 : decode cX3_amountOf 62 = .ok (.invokestatic 114, 3) := by decide +kernel
theorem dX3_amountOf_65 : decode cX3_amountOf 65 = .ok (.ireturn, 1) := by decide +kernel
theorem dX3_amountOf_66 : decode cX3_amountOf 66 = .ok (.iinc 3 1, 3) := by decide +kernel
theorem dX3_amountOf_69 : decode cX3_amountOf 69 = .ok (.goto (-67), 3) := by decide +kernel
theorem dX3_amountOf_72 : decode cX3_amountOf 72 = .ok (.iconst 0, 1) := by decide +kernel
theorem dX3_amountOf_73 : decode cX3_amountOf 73 = .ok (.ireturn, 1) := by decide +kernel
theorem dX3_doesSink_0 : decode cX3_doesSink 0 = .ok (.iconst 0, 1) := by decide +kernel
theorem dX3_doesSink_1 : decode cX3_doesSink 1 = .ok (.istore_n 2, 1) := by decide +kernel
theorem dX3_doesSink_2 : decode cX3_doesSink 2 = .ok (.iload_n 2, 1) := by decide +kernel
theorem dX3_doesSink_3 : decode cX3_doesSink 3 = .ok (.aload_n 0, 1) := by decide +kernel
theorem dX3_doesSink_4 : decode cX3_doesSink 4 = .ok (.getfield 37, 3) := by decide +kernel
theorem dX3_doesSink_7 : decode cX3_doesSink 7 = .ok (.if_icmp .ge 37, 3) := by decide +kernel
theorem dX3_doesSink_10 : decode cX3_doesSink 10 = .ok (.iload_n 2, 1) := by decide +kernel
theorem dX3_doesSink_11 : decode cX3_doesSink 11 = .ok (.bipush 16, 2) := by decide +kernel
theorem dX3_doesSink_13 : decode cX3_doesSink 13 = .ok (.if_icmp .ge 31, 3) := by decide +kernel
theorem dX3_doesSink_16 : decode cX3_doesSink 16 = .ok (.aload_n 0, 1) := by decide +kernel
theorem dX3_doesSink_17 : decode cX3_doesSink 17 = .ok (.getfield 21, 3) := by decide +kernel
theorem dX3_doesSink_20 : decode cX3_doesSink 20 = .ok (.iload_n 2, 1) := by decide +kernel
theorem dX3_doesSink_21 : decode cX3_doesSink 21 = .ok (.iaload, 1) := by decide +kernel
theorem dX3_doesSink_22 : decode cX3_doesSink 22 = .ok (.bipush 120, 2) := by decide +kernel
theorem dX3_doesSink_24 : decode cX3_doesSink 24 = .ok (.if_icmp .ne 14, 3) := by decide +kernel
theorem dX3_doesSink_27 : decode cX3_doesSink 27 = .ok (.aload_n 0, 1) := by decide +kernel
theorem dX3_doesSink_28 : decode cX3_doesSink 28 = .ok (.iload_n 2, 1) := by decide +kernel
theorem dX3_doesSink_29 : decode cX3_doesSink 29 = .ok (.aload_n 1, 1) := by decide +kernel
theorem dX3_doesSink_30 : decode cX3_doesSink 30 = .ok (.invokevirtual 100, 3) := by decide +kernel
theorem dX3_doesSink_33 : decode cX3_doesSink 33 = .ok (.ifCond .eq 5, 3) := by decide +kernel
theorem dX3_doesSink_36 : decode cX3_doesSink 36 = .ok (.iconst 1, 1) := by decide +kernel
theorem dX3_doesSink_37 : decode cX3_doesSink 37 = .ok (.ireturn, 1) := by decide +kernel
theorem dX3_doesSink_38 : decode cX3_doesSink 38 = .ok (.iinc 2 1, 3) := by decide +kernel
theorem dX3_doesSink_41 : decode cX3_doesSink 41 = .ok (.goto (-39), 3) := by decide +kernel
theorem dX3_doesSink_44 : decode cX3_doesSink 44 = .ok (.iconst 0, 1) := by decide +kernel
theorem dX3_doesSink_45 : decode cX3_doesSink 45 = .ok (.ireturn, 1) := by decide +kernel
theorem dX5_look_0 : decode cX5_look 0 = .ok (.aload_n 1, 1) := by decide +kernel
theorem dX5_look_1 : decode cX5_look 1 = .ok (.iload_n 3, 1) := by decide +kernel
theorem dX5_look_2 : decode cX5_look 2 = .ok (.invokevirtual 35, 3) := by decide +kernel
theorem dX5_look_5 : decode cX5_look 5 = .ok (.ifCond .ne 4, 3) := by decide +kernel
theorem dX5_look_8 : decode cX5_look 8 = .ok (.return_, 1) := by decide +kernel
theorem dX5_look_9 : decode cX5_look 9 = .ok (.aload_n 0, 1) := by decide +kernel
theorem dX5_look_10 : decode cX5_look 10 = .ok (.getfield 11, 3) := by decide +kernel
theorem dX5_look_13 : decode cX5_look 13 = .ok (.iconst 0, 1) := by decide +kernel
theorem dX5_look_14 : decode cX5_look 14 = .ok (.iload_n 3, 1) := by decide +kernel
theorem dX5_look_15 : decode cX5_look 15 = .ok (.iastore, 1) := by decide +kernel
theorem dX5_look_16 : decode cX5_look 16 = .ok (.aload_n 0, 1) := by decide +kernel
theorem dX5_look_17 : decode cX5_look 17 = .ok (.getfield 11, 3) := by decide +kernel
theorem dX5_look_20 : decode cX5_look 20 = .ok (.iconst 1, 1) := by decide +kernel
theorem dX5_look_21 : decode cX5_look 21 = .ok (.aload_n 1, 1) := by decide +kernel
theorem dX5_look_22 : decode cX5_look 22 = .ok (.getfield 63, 3) := by decide +kernel
theorem dX5_look_25 : decode cX5_look 25 = .ok (.iload_n 3, 1) := by decide +kernel
theorem dX5_look_26 : decode cX5_look 26 = .ok (.iaload, 1) := by decide +kernel
theorem dX5_look_27 : decode cX5_look 27 = .ok (.iastore, 1) := by decide +kernel
theorem dX5_look_28 : decode cX5_look 28 = .ok (.aload_n 0, 1) := by decide +kernel
theorem dX5_look_29 : decode cX5_look 29 = .ok (.getfield 11, 3) := by decide +kernel
theorem dX5_look_32 : decode cX5_look 32 = .ok (.iconst 2, 1) := by decide +kernel
theorem dX5_look_33 : decode cX5_look 33 = .ok (.aload_n 1, 1) := by decide +kernel
theorem dX5_look_34 : decode cX5_look 34 = .ok (.getfield 66, 3) := by decide +kernel
theorem dX5_look_37 : decode cX5_look 37 = .ok (.iload_n 3, 1) := by decide +kernel
theorem dX5_look_38 : decode cX5_look 38 = .ok (.iaload, 1) := by decide +kernel
theorem dX5_look_39 : decode cX5_look 39 = .ok (.iastore, 1) := by decide +kernel
theorem dX5_look_40 : decode cX5_look 40 = .ok (.aload_n 0, 1) := by decide +kernel
theorem dX5_look_41 : decode cX5_look 41 = .ok (.getfield 11, 3) := by decide +kernel
theorem dX5_look_44 : decode cX5_look 44 = .ok (.iconst 3, 1) := by decide +kernel
theorem dX5_look_45 : decode cX5_look 45 = .ok (.aload_n 1, 1) := by decide +kernel
theorem dX5_look_46 : decode cX5_look 46 = .ok (.getfield 69, 3) := by decide +kernel
theorem dX5_look_49 : decode cX5_look 49 = .ok (.iload_n 3, 1) := by decide +kernel
theorem dX5_look_50 : decode cX5_look 50 = .ok (.iaload, 1) := by decide +kernel
theorem dX5_look_51 : decode cX5_look 51 = .ok (.iastore, 1) := by decide +kernel
theorem dX5_look_52 : decode cX5_look 52 = .ok (.aload_n 0, 1) := by decide +kernel
theorem dX5_look_53 : decode cX5_look 53 = .ok (.getfield 11, 3) := by decide +kernel
theorem dX5_look_56 : decode cX5_look 56 = .ok (.iconst 4, 1) := by decide +kernel
theorem dX5_look_57 : decode cX5_look 57 = .ok (.aload_n 1, 1) := by decide +kernel
theorem dX5_look_58 : decode cX5_look 58 = .ok (.getfield 56, 3) := by decide +kernel
theorem dX5_look_61 : decode cX5_look 61 = .ok (.iload_n 3, 1) := by decide +kernel
theorem dX5_look_62 : decode cX5_look 62 = .ok (.baload, 1) := by decide +kernel
theorem dX5_look_63 : decode cX5_look 63 = .ok (.ifCond .eq 7, 3) := by decide +kernel
theorem dX5_look_66 : decode cX5_look 66 = .ok (.iconst 1, 1) := by decide +kernel
theorem dX5_look_67 : decode cX5_look 67 = .ok (.goto 4, 3) := by decide +kernel
theorem dX5_look_70 : decode cX5_look 70 = .ok (.iconst 0, 1) := by decide +kernel
theorem dX5_look_71 : decode cX5_look 71 = .ok (.iastore, 1) := by decide +kernel
theorem dX5_look_72 : decode cX5_look 72 = .ok (.aload_n 0, 1) := by decide +kernel
theorem dX5_look_73 : decode cX5_look 73 = .ok (.getfield 11, 3) := by decide +kernel
theorem dX5_look_76 : decode cX5_look 76 = .ok (.iconst 5, 1) := by decide +kernel
theorem dX5_look_77 : decode cX5_look 77 = .ok (.aload_n 2, 1) := by decide +kernel
theorem dX5_look_78 : decode cX5_look 78 = .ok (.getfield 72, 3) := by decide +kernel
theorem dX5_look_81 : decode cX5_look 81 = .ok (.ifCond .eq 11, 3) := by decide +kernel
theorem dX5_look_84 : decode cX5_look 84 = .ok (.aload_n 1, 1) := by decide +kernel
theorem dX5_look_85 : decode cX5_look 85 = .ok (.iload_n 3, 1) := by decide +kernel
theorem dX5_look_86 : decode cX5_look 86 = .ok (.invokevirtual 76, 3) := by decide +kernel
theorem dX5_look_89 : decode cX5_look 89 = .ok (.goto 4, 3) := by decide +kernel
theorem dX5_look_92 : decode cX5_look 92 = .ok (.iconst 0, 1) := by decide +kernel
theorem dX5_look_93 : decode cX5_look 93 = .ok (.iastore, 1) := by decide +kernel
theorem dX5_look_94 : decode cX5_look 94 = .ok (.aload_n 0, 1) := by decide +kernel
theorem dX5_look_95 : decode cX5_look 95 = .ok (.getfield 11, 3) := by decide +kernel
theorem dX5_look_98 : decode cX5_look 98 = .ok (.bipush 7, 2) := by decide +kernel
theorem dX5_look_100 : decode cX5_look 100 = .ok (.aload_n 1, 1) := by decide +kernel
theorem dX5_look_101 : decode cX5_look 101 = .ok (.getfield 22, 3) := by decide +kernel
theorem dX5_look_104 : decode cX5_look 104 = .ok (.bipush 100, 2) := by decide +kernel
theorem dX5_look_106 : decode cX5_look 106 = .ok (.irem, 1) := by decide +kernel
theorem dX5_look_107 : decode cX5_look 107 = .ok (.iastore, 1) := by decide +kernel
theorem dX5_look_108 : decode cX5_look 108 = .ok (.return_, 1) := by decide +kernel
theorem dX5_shift_0 : decode cX5_shift 0 = .ok (.aload_n 1, 1) := by decide +kernel
theorem dX5_shift_1 : decode cX5_shift 1 = .ok (.iload_n 2, 1) := by decide +kernel
theorem dX5_shift_2 : decode cX5_shift 2 = .ok (.invokevirtual 35, 3) := by decide +kernel
theorem dX5_shift_5 : decode cX5_shift 5 = .ok (.ifCond .ne 4, 3) := by decide +kernel
theorem dX5_shift_8 : decode cX5_shift 8 = .ok (.return_, 1) := by decide +kernel
theorem dX5_shift_9 : decode cX5_shift 9 = .ok (.iconst 0, 1) := by decide +kernel
theorem dX5_shift_10 : decode cX5_shift 10 = .ok (.bipush 39, 2) := by decide +kernel
theorem dX5_shift_12 : decode cX5_shift 12 = .ok (.aload_n 1, 1) := by decide +kernel
theorem dX5_shift_13 : decode cX5_shift 13 = .ok (.getfield 63, 3) := by decide +kernel
theorem dX5_shift_16 : decode cX5_shift 16 = .ok (.iload_n 2, 1) := by decide +kernel
theorem dX5_shift_17 : decode cX5_shift 17 = .ok (.iaload, 1) := by decide +kernel
theorem dX5_shift_18 : decode cX5_shift 18 = .ok (.iload_n 3, 1) := by decide +kernel
theorem dX5_shift_19 : decode cX5_shift 19 = .ok (.iadd, 1) := by decide +kernel
theorem dX5_shift_20 : decode cX5_shift 20 = .ok (.invokestatic 80, 3) := by decide +kernel
theorem dX5_shift_23 : decode cX5_shift 23 = .ok (.invokestatic 86, 3) := by decide +kernel
theorem dX5_shift_26 : decode cX5_shift 26 = .ok (.istore 5, 2) := by decide +kernel
theorem dX5_shift_28 : decode cX5_shift 28 = .ok (.iconst 1, 1) := by decide +kernel
theorem dX5_shift_29 : decode cX5_shift 29 = .ok (.bipush 20, 2) := by decide +kernel
theorem dX5_shift_31 : decode cX5_shift 31 = .ok (.aload_n 1, 1) := by decide +kernel
theorem dX5_shift_32 : decode cX5_shift 32 = .ok (.getfield 66, 3) := by decide +kernel
theorem dX5_shift_35 : decode cX5_shift 35 = .ok (.iload_n 2, 1) := by decide +kernel
theorem dX5_shift_36 : decode cX5_shift 36 = .ok (.iaload, 1) := by decide +kernel
theorem dX5_shift_37 : decode cX5_shift 37 = .ok (.iload 4, 2) := by decide +kernel
theorem dX5_shift_39 : decode cX5_shift 39 = .ok (.iadd, 1) := by decide +kernel
theorem dX5_shift_40 : decode cX5_shift 40 = .ok (.invokestatic 80, 3) := by decide +kernel
theorem dX5_shift_43 : decode cX5_shift 43 = .ok (.invokestatic 86, 3) := by decide +kernel
theorem dX5_shift_46 : decode cX5_shift 46 = .ok (.istore 6, 2) := by decide +kernel
theorem dX5_shift_48 : decode cX5_shift 48 = .ok (.iload 5, 2) := by decide +kernel
theorem dX5_shift_50 : decode cX5_shift 50 = .ok (.aload_n 1, 1) := by decide +kernel
theorem dX5_shift_51 : decode cX5_shift 51 = .ok (.getfield 63, 3) := by decide +kernel
theorem dX5_shift_54 : decode cX5_shift 54 = .ok (.iload_n 2, 1) := by decide +kernel
theorem dX5_shift_55 : decode cX5_shift 55 = .ok (.iaload, 1) := by decide +kernel
theorem dX5_shift_56 : decode cX5_shift 56 = .ok (.if_icmp .ne 15, 3) := by decide +kernel
theorem dX5_shift_59 : decode cX5_shift 59 = .ok (.iload 6, 2) := by decide +kernel
theorem dX5_shift_61 : decode cX5_shift 61 = .ok (.aload_n 1, 1) := by decide +kernel
theorem dX5_shift_62 : decode cX5_shift 62 = .ok (.getfield 66, 3) := by decide +kernel
theorem dX5_shift_65 : decode cX5_shift 65 = .ok (.iload_n 2, 1) := by decide +kernel
theorem dX5_shift_66 : decode cX5_shift 66 = .ok (.iaload, 1) := by decide +kernel
theorem dX5_shift_67 : decode cX5_shift 67 = .ok (.if_icmp .ne 4, 3) := by decide +kernel
theorem dX5_shift_70 : decode cX5_shift 70 = .ok (.return_, 1) := by decide +kernel
theorem dX5_shift_71 : decode cX5_shift 71 = .ok (.aload_n 1, 1) := by decide +kernel
theorem dX5_shift_72 : decode cX5_shift 72 = .ok (.iload 5, 2) := by decide +kernel
theorem dX5_shift_74 : decode cX5_shift 74 = .ok (.iload 6, 2) := by decide +kernel
theorem dX5_shift_76 : decode cX5_shift 76 = .ok (.invokevirtual 89, 3) := by decide +kernel
theorem dX5_shift_79 : decode cX5_shift 79 = .ok (.iconst (-1), 1) := by decide +kernel
theorem dX5_shift_80 : decode cX5_shift 80 = .ok (.if_icmp .eq 14, 3) := by decide +kernel
theorem dX5_shift_83 : decode cX5_shift 83 = .ok (.aload_n 0, 1) := by decide +kernel
theorem dX5_shift_84 : decode cX5_shift 84 = .ok (.dup, 1) := by decide +kernel
theorem dX5_shift_85 : decode cX5_shift 85 = .ok (.getfield 19, 3) := by decide +kernel
theorem dX5_shift_88 : decode cX5_shift 88 = .ok (.iconst 1, 1) := by decide +kernel
theorem dX5_shift_89 : decode cX5_shift 89 = .ok (.iadd, 1) := by decide +kernel
theorem dX5_shift_90 : decode cX5_shift 90 = .ok (.putfield 19, 3) := by decide +kernel
theorem dX5_shift_93 : decode cX5_shift 93 = .ok (.return_, 1) := by decide +kernel
theorem dX5_shift_94 : decode cX5_shift 94 = .ok (.aload_n 1, 1) := by decide +kernel
theorem dX5_shift_95 : decode cX5_shift 95 = .ok (.getfield 63, 3) := by decide +kernel
theorem dX5_shift_98 : decode cX5_shift 98 = .ok (.iload_n 2, 1) := by decide +kernel
theorem dX5_shift_99 : decode cX5_shift 99 = .ok (.iload 5, 2) := by decide +kernel
theorem dX5_shift_101 : decode cX5_shift 101 = .ok (.iastore, 1) := by decide +kernel
theorem dX5_shift_102 : decode cX5_shift 102 = .ok (.aload_n 1, 1) := by decide +kernel
theorem dX5_shift_103 : decode cX5_shift 103 = .ok (.getfield 66, 3) := by decide +kernel
theorem dX5_shift_106 : decode cX5_shift 106 = .ok (.iload_n 2, 1) := by decide +kernel
theorem dX5_shift_107 : decode cX5_shift 107 = .ok (.iload 6, 2) := by decide +kernel
theorem dX5_shift_109 : decode cX5_shift 109 = .ok (.iastore, 1) := by decide +kernel
theorem dX5_shift_110 : decode cX5_shift 110 = .ok (.aload_n 0, 1) := by decide +kernel
theorem dX5_shift_111 : decode cX5_shift 111 = .ok (.dup, 1) := by decide +kernel
theorem dX5_shift_112 : decode cX5_shift 112 = .ok (.getfield 15, 3) := by decide +kernel
theorem dX5_shift_115 : decode cX5_shift 115 = .ok (.iconst 1, 1) := by decide +kernel
theorem dX5_shift_116 : decode cX5_shift 116 = .ok (.iadd, 1) := by decide +kernel
theorem dX5_shift_117 : decode cX5_shift 117 = .ok (.putfield 15, 3) := by decide +kernel
theorem dX5_shift_120 : decode cX5_shift 120 = .ok (.return_, 1) := by decide +kernel
theorem dX5_turn_0 : decode cX5_turn 0 = .ok (.aload_n 1, 1) := by decide +kernel
theorem dX5_turn_1 : decode cX5_turn 1 = .ok (.iload_n 3, 1) := by decide +kernel
theorem dX5_turn_2 : decode cX5_turn 2 = .ok (.invokevirtual 35, 3) := by decide +kernel
theorem dX5_turn_5 : decode cX5_turn 5 = .ok (.ifCond .ne 4, 3) := by decide +kernel
theorem dX5_turn_8 : decode cX5_turn 8 = .ok (.return_, 1) := by decide +kernel
theorem dX5_turn_9 : decode cX5_turn 9 = .ok (.aload_n 0, 1) := by decide +kernel
theorem dX5_turn_10 : decode cX5_turn 10 = .ok (.getfield 11, 3) := by decide +kernel
theorem dX5_turn_13 : decode cX5_turn 13 = .ok (.bipush 6, 2) := by decide +kernel
theorem dX5_turn_15 : decode cX5_turn 15 = .ok (.aload_n 1, 1) := by decide +kernel
theorem dX5_turn_16 : decode cX5_turn 16 = .ok (.invokevirtual 39, 3) := by decide +kernel
theorem dX5_turn_19 : decode cX5_turn 19 = .ok (.iastore, 1) := by decide +kernel
theorem dX5_turn_20 : decode cX5_turn 20 = .ok (.aload_n 0, 1) := by decide +kernel
theorem dX5_turn_21 : decode cX5_turn 21 = .ok (.aload_n 1, 1) := by decide +kernel
theorem dX5_turn_22 : decode cX5_turn 22 = .ok (.aload_n 2, 1) := by decide +kernel
theorem dX5_turn_23 : decode cX5_turn 23 = .ok (.iload_n 3, 1) := by decide +kernel
theorem dX5_turn_24 : decode cX5_turn 24 = .ok (.invokevirtual 43, 3) := by decide +kernel
theorem dX5_turn_27 : decode cX5_turn 27 = .ok (.aload_n 2, 1) := by decide +kernel
theorem dX5_turn_28 : decode cX5_turn 28 = .ok (.bipush 117, 2) := by decide +kernel
theorem dX5_turn_30 : decode cX5_turn 30 = .ok (.aload_n 0, 1) := by decide +kernel
theorem dX5_turn_31 : decode cX5_turn 31 = .ok (.getfield 11, 3) := by decide +kernel
theorem dX5_turn_34 : decode cX5_turn 34 = .ok (.invokevirtual 46, 3) := by decide +kernel
theorem dX5_turn_37 : decode cX5_turn 37 = .ok (.aload_n 2, 1) := by decide +kernel
theorem dX5_turn_38 : decode cX5_turn 38 = .ok (.bipush 100, 2) := by decide +kernel
theorem dX5_turn_40 : decode cX5_turn 40 = .ok (.aload_n 0, 1) := by decide +kernel
theorem dX5_turn_41 : decode cX5_turn 41 = .ok (.getfield 11, 3) := by decide +kernel
theorem dX5_turn_44 : decode cX5_turn 44 = .ok (.invokevirtual 46, 3) := by decide +kernel
theorem dX5_turn_47 : decode cX5_turn 47 = .ok (.isub, 1) := by decide +kernel
theorem dX5_turn_48 : decode cX5_turn 48 = .ok (.istore 4, 2) := by decide +kernel
theorem dX5_turn_50 : decode cX5_turn 50 = .ok (.aload_n 2, 1) := by decide +kernel
theorem dX5_turn_51 : decode cX5_turn 51 = .ok (.bipush 111, 2) := by decide +kernel
theorem dX5_turn_53 : decode cX5_turn 53 = .ok (.aload_n 0, 1) := by decide +kernel
theorem dX5_turn_54 : decode cX5_turn 54 = .ok (.getfield 11, 3) := by decide +kernel
theorem dX5_turn_57 : decode cX5_turn 57 = .ok (.invokevirtual 46, 3) := by decide +kernel
theorem dX5_turn_60 : decode cX5_turn 60 = .ok (.aload_n 2, 1) := by decide +kernel
theorem dX5_turn_61 : decode cX5_turn 61 = .ok (.bipush 98, 2) := by decide +kernel
theorem dX5_turn_63 : decode cX5_turn 63 = .ok (.aload_n 0, 1) := by decide +kernel
theorem dX5_turn_64 : decode cX5_turn 64 = .ok (.getfield 11, 3) := by decide +kernel
theorem dX5_turn_67 : decode cX5_turn 67 = .ok (.invokevirtual 46, 3) := by decide +kernel
theorem dX5_turn_70 : decode cX5_turn 70 = .ok (.isub, 1) := by decide +kernel
theorem dX5_turn_71 : decode cX5_turn 71 = .ok (.istore 5, 2) := by decide +kernel
theorem dX5_turn_73 : decode cX5_turn 73 = .ok (.aload_n 0, 1) := by decide +kernel
theorem dX5_turn_74 : decode cX5_turn 74 = .ok (.aload_n 1, 1) := by decide +kernel
theorem dX5_turn_75 : decode cX5_turn 75 = .ok (.iload_n 3, 1) := by decide +kernel
theorem dX5_turn_76 : decode cX5_turn 76 = .ok (.iload 4, 2) := by decide +kernel
theorem dX5_turn_78 : decode cX5_turn 78 = .ok (.iload 5, 2) := by decide +kernel
theorem dX5_turn_80 : decode cX5_turn 80 = .ok (.invokevirtual 52, 3) := by decide +kernel
theorem dX5_turn_83 : decode cX5_turn 83 = .ok (.aload_n 0, 1) := by decide +kernel
theorem dX5_turn_84 : decode cX5_turn 84 = .ok (.aload_n 1, 1) := by decide +kernel
theorem dX5_turn_85 : decode cX5_turn 85 = .ok (.aload_n 2, 1) := by decide +kernel
theorem dX5_turn_86 : decode cX5_turn 86 = .ok (.iload_n 3, 1) := by decide +kernel
theorem dX5_turn_87 : decode cX5_turn 87 = .ok (.invokevirtual 43, 3) := by decide +kernel
theorem dX5_turn_90 : decode cX5_turn 90 = .ok (.aload_n 1, 1) := by decide +kernel
theorem dX5_turn_91 : decode cX5_turn 91 = .ok (.getfield 56, 3) := by decide +kernel
theorem dX5_turn_94 : decode cX5_turn 94 = .ok (.iload_n 3, 1) := by decide +kernel
theorem dX5_turn_95 : decode cX5_turn 95 = .ok (.aload_n 2, 1) := by decide +kernel
theorem dX5_turn_96 : decode cX5_turn 96 = .ok (.aload_n 0, 1) := by decide +kernel
theorem dX5_turn_97 : decode cX5_turn 97 = .ok (.getfield 11, 3) := by decide +kernel
theorem dX5_turn_100 : decode cX5_turn 100 = .ok (.invokevirtual 59, 3) := by decide +kernel
theorem dX5_turn_103 : decode cX5_turn 103 = .ok (.bastore, 1) := by decide +kernel
theorem dX5_turn_104 : decode cX5_turn 104 = .ok (.return_, 1) := by decide +kernel
theorem dX5_pass_0 : decode cX5_pass 0 = .ok (.aload_n 0, 1) := by decide +kernel
theorem dX5_pass_1 : decode cX5_pass 1 = .ok (.iconst 0, 1) := by decide +kernel
theorem dX5_pass_2 : decode cX5_pass 2 = .ok (.putfield 15, 3) := by decide +kernel
theorem dX5_pass_5 : decode cX5_pass 5 = .ok (.aload_n 0, 1) := by decide +kernel
theorem dX5_pass_6 : decode cX5_pass 6 = .ok (.iconst 0, 1) := by decide +kernel
theorem dX5_pass_7 : decode cX5_pass 7 = .ok (.putfield 19, 3) := by decide +kernel
theorem dX5_pass_10 : decode cX5_pass 10 = .ok (.iconst 0, 1) := by decide +kernel
theorem dX5_pass_11 : decode cX5_pass 11 = .ok (.istore 4, 2) := by decide +kernel
theorem dX5_pass_13 : decode cX5_pass 13 = .ok (.iload 4, 2) := by decide +kernel
theorem dX5_pass_15 : decode cX5_pass 15 = .ok (.iload_n 3, 1) := by decide +kernel
theorem dX5_pass_16 : decode cX5_pass 16 = .ok (.if_icmp .ge 63, 3) := by decide +kernel
theorem dX5_pass_19 : decode cX5_pass 19 = .ok (.aload_n 1, 1) := by decide +kernel
theorem dX5_pass_20 : decode cX5_pass 20 = .ok (.getfield 22, 3) := by decide +kernel
theorem dX5_pass_23 : decode cX5_pass 23 = .ok (.sipush 9999, 3) := by decide +kernel
theorem dX5_pass_26 : decode cX5_pass 26 = .ok (.if_icmp .ge 53, 3) := by decide +kernel
theorem dX5_pass_29 : decode cX5_pass 29 = .ok (.iconst 0, 1) := by decide +kernel
theorem dX5_pass_30 : decode cX5_pass 30 = .ok (.istore 5, 2) := by decide +kernel
theorem dX5_pass_32 : decode cX5_pass 32 = .ok (.iload 5, 2) := by decide +kernel
theorem dX5_pass_34 : decode cX5_pass 34 = .ok (.bipush 40, 2) := by decide +kernel
theorem dX5_pass_36 : decode cX5_pass 36 = .ok (.if_icmp .ge 27, 3) := by decide +kernel
theorem dX5_pass_39 : decode cX5_pass 39 = .ok (.aload_n 1, 1) := by decide +kernel
theorem dX5_pass_40 : decode cX5_pass 40 = .ok (.getfield 27, 3) := by decide +kernel
theorem dX5_pass_43 : decode cX5_pass 43 = .ok (.iload 5, 2) := by decide +kernel
theorem dX5_pass_45 : decode cX5_pass 45 = .ok (.baload, 1) := by decide +kernel
theorem dX5_pass_46 : decode cX5_pass 46 = .ok (.ifCond .eq 11, 3) := by decide +kernel
theorem dX5_pass_49 : decode cX5_pass 49 = .ok (.aload_n 0, 1) := by decide +kernel
theorem dX5_pass_50 : decode cX5_pass 50 = .ok (.aload_n 1, 1) := by decide +kernel
theorem dX5_pass_51 : decode cX5_pass 51 = .ok (.aload_n 2, 1) := by decide +kernel
theorem dX5_pass_52 : decode cX5_pass 52 = .ok (.iload 5, 2) := by decide +kernel
theorem dX5_pass_54 : decode cX5_pass 54 = .ok (.invokevirtual 31, 3) := by decide +kernel
theorem dX5_pass_57 : decode cX5_pass 57 = .ok (.iinc 5 1, 3) := by decide +kernel
theorem dX5_pass_60 : decode cX5_pass 60 = .ok (.goto (-28), 3) := by decide +kernel
theorem dX5_pass_63 : decode cX5_pass 63 = .ok (.aload_n 1, 1) := by decide +kernel
theorem dX5_pass_64 : decode cX5_pass 64 = .ok (.dup, 1) := by decide +kernel
theorem dX5_pass_65 : decode cX5_pass 65 = .ok (.getfield 22, 3) := by decide +kernel
theorem dX5_pass_68 : decode cX5_pass 68 = .ok (.iconst 1, 1) := by decide +kernel
theorem dX5_pass_69 : decode cX5_pass 69 = .ok (.iadd, 1) := by decide +kernel
theorem dX5_pass_70 : decode cX5_pass 70 = .ok (.putfield 22, 3) := by decide +kernel
theorem dX5_pass_73 : decode cX5_pass 73 = .ok (.iinc 4 1, 3) := by decide +kernel
theorem dX5_pass_76 : decode cX5_pass 76 = .ok (.goto (-63), 3) := by decide +kernel
theorem dX5_pass_79 : decode cX5_pass 79 = .ok (.return_, 1) := by decide +kernel
set_option maxHeartbeats 4000000 in
theorem s_X3_doesHold (c : Nat) (hc : isL c) (v1 : Int32) (M : Mem) : AM yX3_doesHold cX3_doesHold 3 (some .boolean) 2 60 glC (fun ad => [.ref (ad c), .int v1, .ref (ad 22)]) M (PI (fun r M' => (r = 0 ∨ r = 1) ∧ (∀ a, a ≠ (c + 3) → M' a = M a))) := by
  refine AM.of (by decide) (fun _ => Nat.le_of_ble_eq_true rfl) (fun X ad cI cZ cB hX hR => ?_)
  show V X M [(0, .ref (ad c)), (1, .int v1), (2, .ref (ad 22))] [] 0
  have hc0 : c = 44 ∨ c = 52 := hc
  have hf_0 : ∀ a, a ≠ (c + 3) → M a = M a := fun _ _ => rfl
  refine s_iload_n (k := 1) hX dX3_doesHold_0 rfl rfl ?_
  refine s_if_lt (tgt := 34) hX dX3_doesHold_1 (by decide) (fun c1 => ?_) (fun c1 => ?_)
  · replace c1 := z_lt.mp c1
    refine s_iconst (v := (nI 0)) hX dX3_doesHold_34 (by decide) ?_
    exact s_zret hX hR dX3_doesHold_35 (by decide) ⟨(by decide), hf_0⟩
  · replace c1 := mt z_lt.mpr c1
    refine s_iload_n (k := 1) hX dX3_doesHold_4 rfl rfl ?_
    refine s_bipush (v := (nI 16)) hX dX3_doesHold_5 (by decide) ?_
    refine s_icmp_ge (tgt := 34) hX dX3_doesHold_7 (by decide) (fun c7 => ?_) (fun c7 => ?_)
    · replace c7 := (q_ge (by omega)).mp c7
      refine s_iconst (v := (nI 0)) hX dX3_doesHold_34 (by decide) ?_
      exact s_zret hX hR dX3_doesHold_35 (by decide) ⟨(by decide), hf_0⟩
    · replace c7 := mt (q_ge (by omega)).mpr c7
      refine s_aload_n (k := 0) hX dX3_doesHold_10 rfl rfl ?_
      refine s_aload_n (k := 0) hX dX3_doesHold_11 rfl rfl ?_
      refine s_get hX fX3_27 (oL hc) rfl dX3_doesHold_12 ?_
      refine s_iload_n (k := 1) hX dX3_doesHold_15 rfl rfl ?_
      refine s_iald hX (aL6 hc) (vp_in_iff.mpr (by omega)) dX3_doesHold_16 ?_
      refine s_aload_n (k := 0) hX dX3_doesHold_17 rfl rfl ?_
      refine s_get hX fX3_30 (oL hc) rfl dX3_doesHold_18 ?_
      refine s_iload_n (k := 1) hX dX3_doesHold_21 rfl rfl ?_
      refine s_iald hX (aL7 hc) (vp_in_iff.mpr (by omega)) dX3_doesHold_22 ?_
      refine s_aload_n (k := 2) hX dX3_doesHold_23 rfl rfl ?_
      refine s_callVi hX (s_X3_reckon c hc _ _ M) mX3_reckon lX3_104 (by decide) (by decide) (oL hc) rfl rfl rfl rfl rfl (Nat.le_of_ble_eq_true rfl) dX3_doesHold_24 (fun r24 M_1 hp24 => ?_)
      have hfM_1 : ∀ a, a ≠ (c + 3) → M_1 a = M a := fun a q0 => (hp24 a (by omega)).trans (hf_0 a q0)
      refine s_if_eq (tgt := 34) hX dX3_doesHold_27 (by decide) (fun c27 => ?_) (fun c27 => ?_)
      · replace c27 := z_eq.mp c27
        refine s_iconst (v := (nI 0)) hX dX3_doesHold_34 (by decide) ?_
        exact s_zret hX hR dX3_doesHold_35 (by decide) ⟨(by decide), hfM_1⟩
      · replace c27 := mt z_eq.mpr c27
        refine s_iconst (v := (nI 1)) hX dX3_doesHold_30 (by decide) ?_
        refine s_goto (tgt := 35) hX dX3_doesHold_31 (by decide) ?_
        exact s_zret hX hR dX3_doesHold_35 (by decide) ⟨(by decide), hfM_1⟩
set_option maxHeartbeats 4000000 in
theorem s_X3_amountOf (c : Nat) (hc : isL c) (v1 : Int32) (M : Mem) : AM yX3_amountOf cX3_amountOf 5 (some .int) 3 60 glC (fun ad => [.ref (ad c), .int v1, .ref (ad 22)]) M (PI (fun _ M' => ∀ a, a ≠ (c + 3) → M' a = M a)) := by
  refine AM.of (by decide) (fun _ => Nat.le_of_ble_eq_true rfl) (fun X ad cI cZ cB hX hR => ?_)
  show V X M [(0, .ref (ad c)), (1, .int v1), (2, .ref (ad 22))] [] 0
  have hc0 : c = 44 ∨ c = 52 := hc
  have hf_0 : ∀ a, a ≠ (c + 3) → M a = M a := fun _ _ => rfl
  refine s_iconst (v := (nI 0)) hX dX3_amountOf_0 (by decide) ?_
  refine s_istore_n (lv' := [(0, .ref (ad c)), (1, .int v1), (2, .ref (ad 22)), (3, .int (nI 0))]) hX dX3_amountOf_1 rfl (by decide) rfl ?_
  have lp2 : ∀ (N2 : Nat) (i2 : Nat) (M2 : Mem), (i2 ≤ 16) → (16 < i2 + N2) → (∀ a, a ≠ (c + 3) → M2 a = M a) → V X M2 [(0, .ref (ad c)), (1, .int v1), (2, .ref (ad 22)), (3, .int (nI i2))] [] 2 := by
    intro N2
    induction N2 with
    | zero => intro i2 M2 hi2 hN2 hf_2; exact absurd hN2 (by omega)
    | succ N2 ih2 =>
      intro i2 M2 hi2 hN2 hf_2
      refine s_iload_n (k := 3) hX dX3_amountOf_2 rfl rfl ?_
      refine s_aload_n (k := 0) hX dX3_amountOf_3 rfl rfl ?_
      refine s_get hX fX3_37 (oL hc) rfl dX3_amountOf_4 ?_
      refine s_icmp_ge (tgt := 72) hX dX3_amountOf_7 (by decide) (fun c7 => ?_) (fun c7 => ?_)
      · replace c7 := (q_le (by omega)).mp c7
        refine s_iconst (v := (nI 0)) hX dX3_amountOf_72 (by decide) ?_
        exact s_iret hX hR dX3_amountOf_73 hf_2
      · replace c7 := mt (q_le (by omega)).mpr c7
        refine s_iload_n (k := 3) hX dX3_amountOf_10 rfl rfl ?_
        refine s_bipush (v := (nI 16)) hX dX3_amountOf_11 (by decide) ?_
        refine s_icmp_ge (tgt := 72) hX dX3_amountOf_13 (by decide) (fun c13 => ?_) (fun c13 => ?_)
        · replace c13 := (nI_leI (by omega) (by omega)).mp c13
          refine s_iconst (v := (nI 0)) hX dX3_amountOf_72 (by decide) ?_
          exact s_iret hX hR dX3_amountOf_73 hf_2
        · replace c13 := mt (nI_leI (by omega) (by omega)).mpr c13
          refine s_aload_n (k := 0) hX dX3_amountOf_16 rfl rfl ?_
          refine s_get hX fX3_21 (oL hc) rfl dX3_amountOf_17 ?_
          refine s_iload_n (k := 3) hX dX3_amountOf_20 rfl rfl ?_
          refine s_ialdN hX (aL4 hc) (by omega) dX3_amountOf_21 ?_
          refine s_iload_n (k := 1) hX dX3_amountOf_22 rfl rfl ?_
          refine s_icmp_ne (tgt := 66) hX dX3_amountOf_23 (by decide) (fun c23 => ?_) (fun c23 => ?_)
          · replace c23 := mt Int32.toInt_inj.symm.mpr c23
            refine s_iinc (k := 3) (v := nI (i2 + 1)) (lv' := [(0, .ref (ad c)), (1, .int v1), (2, .ref (ad 22)), (3, .int (nI (i2 + 1)))]) hX dX3_amountOf_66 (nI_1 _) (by decide) rfl rfl ?_
            refine s_goto (tgt := 2) hX dX3_amountOf_69 (by decide) ?_
            exact ih2 _ _ (by omega) (by omega) hf_2
          · replace c23 := Int32.toInt_inj.symm.mp c23
            refine s_aload_n (k := 0) hX dX3_amountOf_26 rfl rfl ?_
            refine s_iload_n (k := 3) hX dX3_amountOf_27 rfl rfl ?_
            refine s_aload_n (k := 2) hX dX3_amountOf_28 rfl rfl ?_
            refine s_callVi hX (s_X3_doesHold c hc _ M2) mX3_doesHold lX3_100 (by decide) (by decide) (oL hc) rfl rfl rfl rfl rfl (Nat.le_of_ble_eq_true rfl) dX3_amountOf_29 (fun r29 M_2 hp29 => ?_)
            obtain ⟨hz29, hq29⟩ := hp29
            have hfM_2 : ∀ a, a ≠ (c + 3) → M_2 a = M a := fun a q0 => (hq29 a (by omega)).trans (hf_2 a q0)
            refine s_if_eq (tgt := 66) hX dX3_amountOf_32 (by decide) (fun c32 => ?_) (fun c32 => ?_)
            · replace c32 := z_eq.mp c32
              refine s_iinc (k := 3) (v := nI (i2 + 1)) (lv' := [(0, .ref (ad c)), (1, .int v1), (2, .ref (ad 22)), (3, .int (nI (i2 + 1)))]) hX dX3_amountOf_66 (nI_1 _) (by decide) rfl rfl ?_
              refine s_goto (tgt := 2) hX dX3_amountOf_69 (by decide) ?_
              exact ih2 _ _ (by omega) (by omega) hfM_2
            · replace c32 := mt z_eq.mpr c32
              refine s_aload_n (k := 0) hX dX3_amountOf_35 rfl rfl ?_
              refine s_aload_n (k := 0) hX dX3_amountOf_36 rfl rfl ?_
              refine s_get hX fX3_24 (oL hc) rfl dX3_amountOf_37 ?_
              refine s_iload_n (k := 3) hX dX3_amountOf_40 rfl rfl ?_
              refine s_ialdN hX (aL5 hc) (by omega) dX3_amountOf_41 ?_
              refine s_aload_n (k := 0) hX dX3_amountOf_42 rfl rfl ?_
              refine s_get hX fX3_27 (oL hc) rfl dX3_amountOf_43 ?_
              refine s_iload_n (k := 3) hX dX3_amountOf_46 rfl rfl ?_
              refine s_ialdN hX (aL6 hc) (by omega) dX3_amountOf_47 ?_
              refine s_aload_n (k := 2) hX dX3_amountOf_48 rfl rfl ?_
              refine s_callVi hX (s_X3_reckon c hc _ _ M_2) mX3_reckon lX3_104 (by decide) (by decide) (oL hc) rfl rfl rfl rfl rfl (Nat.le_of_ble_eq_true rfl) dX3_amountOf_49 (fun r49 M_3 hp49 => ?_)
              have hfM_3 : ∀ a, a ≠ (c + 3) → M_3 a = M a := fun a q0 => (hp49 a (by omega)).trans (hfM_2 a q0)
              refine s_istore (lv' := [(0, .ref (ad c)), (1, .int v1), (2, .ref (ad 22)), (3, .int (nI i2)), (4, .int r49)]) hX dX3_amountOf_52 (by decide) rfl ?_
              refine s_iconst (v := (nI 0)) hX dX3_amountOf_54 (by decide) ?_
              refine s_bipush (v := (nI 9)) hX dX3_amountOf_55 (by decide) ?_
              refine s_iload (k := 4) hX dX3_amountOf_57 rfl ?_
              refine s_mmin hX lX3_108 mJ9_min (by decide) (Nat.le_of_ble_eq_true rfl) dX3_amountOf_59 ?_
              refine s_mmax hX lX3_114 mJ9_max (by decide) (Nat.le_of_ble_eq_true rfl) dX3_amountOf_62 ?_
              exact s_iret hX hR dX3_amountOf_65 hfM_3
  exact lp2 (16 + 1) _ _ (by omega) (by omega) hf_0
set_option maxHeartbeats 4000000 in
theorem s_X3_doesSink (c : Nat) (hc : isL c) (M : Mem) : AM yX3_doesSink cX3_doesSink 3 (some .boolean) 3 60 glC (fun ad => [.ref (ad c), .ref (ad 22)]) M (PI (fun r M' => (r = 0 ∨ r = 1) ∧ (∀ a, a ≠ (c + 3) → M' a = M a))) := by
  refine AM.of (by decide) (fun _ => Nat.le_of_ble_eq_true rfl) (fun X ad cI cZ cB hX hR => ?_)
  show V X M [(0, .ref (ad c)), (1, .ref (ad 22))] [] 0
  have hc0 : c = 44 ∨ c = 52 := hc
  have hf_0 : ∀ a, a ≠ (c + 3) → M a = M a := fun _ _ => rfl
  refine s_iconst (v := (nI 0)) hX dX3_doesSink_0 (by decide) ?_
  refine s_istore_n (lv' := [(0, .ref (ad c)), (1, .ref (ad 22)), (2, .int (nI 0))]) hX dX3_doesSink_1 rfl (by decide) rfl ?_
  have lp2 : ∀ (N2 : Nat) (i2 : Nat) (M2 : Mem), (i2 ≤ 16) → (16 < i2 + N2) → (∀ a, a ≠ (c + 3) → M2 a = M a) → V X M2 [(0, .ref (ad c)), (1, .ref (ad 22)), (2, .int (nI i2))] [] 2 := by
    intro N2
    induction N2 with
    | zero => intro i2 M2 hi2 hN2 hf_2; exact absurd hN2 (by omega)
    | succ N2 ih2 =>
      intro i2 M2 hi2 hN2 hf_2
      refine s_iload_n (k := 2) hX dX3_doesSink_2 rfl rfl ?_
      refine s_aload_n (k := 0) hX dX3_doesSink_3 rfl rfl ?_
      refine s_get hX fX3_37 (oL hc) rfl dX3_doesSink_4 ?_
      refine s_icmp_ge (tgt := 44) hX dX3_doesSink_7 (by decide) (fun c7 => ?_) (fun c7 => ?_)
      · replace c7 := (q_le (by omega)).mp c7
        refine s_iconst (v := (nI 0)) hX dX3_doesSink_44 (by decide) ?_
        exact s_zret hX hR dX3_doesSink_45 (by decide) ⟨(by decide), hf_2⟩
      · replace c7 := mt (q_le (by omega)).mpr c7
        refine s_iload_n (k := 2) hX dX3_doesSink_10 rfl rfl ?_
        refine s_bipush (v := (nI 16)) hX dX3_doesSink_11 (by decide) ?_
        refine s_icmp_ge (tgt := 44) hX dX3_doesSink_13 (by decide) (fun c13 => ?_) (fun c13 => ?_)
        · replace c13 := (nI_leI (by omega) (by omega)).mp c13
          refine s_iconst (v := (nI 0)) hX dX3_doesSink_44 (by decide) ?_
          exact s_zret hX hR dX3_doesSink_45 (by decide) ⟨(by decide), hf_2⟩
        · replace c13 := mt (nI_leI (by omega) (by omega)).mpr c13
          refine s_aload_n (k := 0) hX dX3_doesSink_16 rfl rfl ?_
          refine s_get hX fX3_21 (oL hc) rfl dX3_doesSink_17 ?_
          refine s_iload_n (k := 2) hX dX3_doesSink_20 rfl rfl ?_
          refine s_ialdN hX (aL4 hc) (by omega) dX3_doesSink_21 ?_
          refine s_bipush (v := (nI 120)) hX dX3_doesSink_22 (by decide) ?_
          refine s_icmp_ne (tgt := 38) hX dX3_doesSink_24 (by decide) (fun c24 => ?_) (fun c24 => ?_)
          · replace c24 := mt (q_eq (by omega)).mpr c24
            refine s_iinc (k := 2) (v := nI (i2 + 1)) (lv' := [(0, .ref (ad c)), (1, .ref (ad 22)), (2, .int (nI (i2 + 1)))]) hX dX3_doesSink_38 (nI_1 _) (by decide) rfl rfl ?_
            refine s_goto (tgt := 2) hX dX3_doesSink_41 (by decide) ?_
            exact ih2 _ _ (by omega) (by omega) hf_2
          · replace c24 := (q_eq (by omega)).mp c24
            refine s_aload_n (k := 0) hX dX3_doesSink_27 rfl rfl ?_
            refine s_iload_n (k := 2) hX dX3_doesSink_28 rfl rfl ?_
            refine s_aload_n (k := 1) hX dX3_doesSink_29 rfl rfl ?_
            refine s_callVi hX (s_X3_doesHold c hc _ M2) mX3_doesHold lX3_100 (by decide) (by decide) (oL hc) rfl rfl rfl rfl rfl (Nat.le_of_ble_eq_true rfl) dX3_doesSink_30 (fun r30 M_2 hp30 => ?_)
            obtain ⟨hz30, hq30⟩ := hp30
            have hfM_2 : ∀ a, a ≠ (c + 3) → M_2 a = M a := fun a q0 => (hq30 a (by omega)).trans (hf_2 a q0)
            refine s_if_eq (tgt := 38) hX dX3_doesSink_33 (by decide) (fun c33 => ?_) (fun c33 => ?_)
            · replace c33 := z_eq.mp c33
              refine s_iinc (k := 2) (v := nI (i2 + 1)) (lv' := [(0, .ref (ad c)), (1, .ref (ad 22)), (2, .int (nI (i2 + 1)))]) hX dX3_doesSink_38 (nI_1 _) (by decide) rfl rfl ?_
              refine s_goto (tgt := 2) hX dX3_doesSink_41 (by decide) ?_
              exact ih2 _ _ (by omega) (by omega) hfM_2
            · replace c33 := mt z_eq.mpr c33
              refine s_iconst (v := (nI 1)) hX dX3_doesSink_36 (by decide) ?_
              exact s_zret hX hR dX3_doesSink_37 (by decide) ⟨(by decide), hfM_2⟩
  exact lp2 (16 + 1) _ _ (by omega) (by omega) hf_0
set_option maxHeartbeats 4000000 in
theorem s_X5_look (b : Nat) (hb : isF b) (c : Nat) (hc : isL c) (v3 : Int32) (M : Mem) : AM yX5_look cX5_look 4 none 3 60 glC (fun ad => [.ref (ad 21), .ref (ad b), .ref (ad c), .int v3]) M (PV (fun M' => ∀ a, a ≠ 22 → M' a = M a)) := by
  refine AM.of (by decide) (fun _ => Nat.le_of_ble_eq_true rfl) (fun X ad cI cZ cB hX hR => ?_)
  show V X M [(0, .ref (ad 21)), (1, .ref (ad b)), (2, .ref (ad c)), (3, .int v3)] [] 0
  have hb0 : b = 1 ∨ b = 7 ∨ b = 13 := hb
  have hc0 : c = 44 ∨ c = 52 := hc
  have hf_0 : ∀ a, a ≠ 22 → M a = M a := fun _ _ => rfl
  refine s_aload_n (k := 1) hX dX5_look_0 rfl rfl ?_
  refine s_iload_n (k := 3) hX dX5_look_1 rfl rfl ?_
  refine s_callVi hX (s_X2_isTold b hb _ M) mX2_isTold lX5_35 (by decide) (by decide) (oF hb) rfl rfl rfl rfl rfl (Nat.le_of_ble_eq_true rfl) dX5_look_2 (fun r2 M_1 hp2 => ?_)
  obtain ⟨rfl, h2⟩ := hp2
  subst h2
  refine s_if_ne (tgt := 9) hX dX5_look_5 (by decide) (fun c5 => ?_) (fun c5 => ?_)
  · replace c5 := bI_ne c5
    refine s_aload_n (k := 0) hX dX5_look_9 rfl rfl ?_
    refine s_get hX fX5_11 oC21 rfl dX5_look_10 ?_
    refine s_iconst (v := (nI 0)) hX dX5_look_13 (by decide) ?_
    refine s_iload_n (k := 3) hX dX5_look_14 rfl rfl ?_
    refine s_iastN hX aC22 (by omega) dX5_look_15 ?_
    refine s_mem (fun M_2 eM_2 => ?_)
    have hfM_2 : ∀ a, a ≠ 22 → M_2 a = M a := fun a q0 => (congrFun eM_2 a).trans ((mset_n (by omega)).trans (hf_0 a q0))
    refine s_aload_n (k := 0) hX dX5_look_16 rfl rfl ?_
    refine s_get hX fX5_11 oC21 rfl dX5_look_17 ?_
    refine s_iconst (v := (nI 1)) hX dX5_look_20 (by decide) ?_
    refine s_aload_n (k := 1) hX dX5_look_21 rfl rfl ?_
    refine s_get hX fX5_63 (oF hb) rfl dX5_look_22 ?_
    refine s_iload_n (k := 3) hX dX5_look_25 rfl rfl ?_
    refine s_iald hX (aF1 hb) (vp_in_iff.mpr (by omega)) dX5_look_26 ?_
    refine s_iastN hX aC22 (by omega) dX5_look_27 ?_
    refine s_mem (fun M_3 eM_3 => ?_)
    have hfM_3 : ∀ a, a ≠ 22 → M_3 a = M a := fun a q0 => (congrFun eM_3 a).trans ((mset_n (by omega)).trans (hfM_2 a q0))
    refine s_aload_n (k := 0) hX dX5_look_28 rfl rfl ?_
    refine s_get hX fX5_11 oC21 rfl dX5_look_29 ?_
    refine s_iconst (v := (nI 2)) hX dX5_look_32 (by decide) ?_
    refine s_aload_n (k := 1) hX dX5_look_33 rfl rfl ?_
    refine s_get hX fX5_66 (oF hb) rfl dX5_look_34 ?_
    refine s_iload_n (k := 3) hX dX5_look_37 rfl rfl ?_
    refine s_iald hX (aF2 hb) (vp_in_iff.mpr (by omega)) dX5_look_38 ?_
    refine s_iastN hX aC22 (by omega) dX5_look_39 ?_
    refine s_mem (fun M_4 eM_4 => ?_)
    have hfM_4 : ∀ a, a ≠ 22 → M_4 a = M a := fun a q0 => (congrFun eM_4 a).trans ((mset_n (by omega)).trans (hfM_3 a q0))
    refine s_aload_n (k := 0) hX dX5_look_40 rfl rfl ?_
    refine s_get hX fX5_11 oC21 rfl dX5_look_41 ?_
    refine s_iconst (v := (nI 3)) hX dX5_look_44 (by decide) ?_
    refine s_aload_n (k := 1) hX dX5_look_45 rfl rfl ?_
    refine s_get hX fX5_69 (oF hb) rfl dX5_look_46 ?_
    refine s_iload_n (k := 3) hX dX5_look_49 rfl rfl ?_
    refine s_iald hX (aF3 hb) (vp_in_iff.mpr (by omega)) dX5_look_50 ?_
    refine s_iastN hX aC22 (by omega) dX5_look_51 ?_
    refine s_mem (fun M_5 eM_5 => ?_)
    have hfM_5 : ∀ a, a ≠ 22 → M_5 a = M a := fun a q0 => (congrFun eM_5 a).trans ((mset_n (by omega)).trans (hfM_4 a q0))
    refine s_aload_n (k := 0) hX dX5_look_52 rfl rfl ?_
    refine s_get hX fX5_11 oC21 rfl dX5_look_53 ?_
    refine s_iconst (v := (nI 4)) hX dX5_look_56 (by decide) ?_
    refine s_aload_n (k := 1) hX dX5_look_57 rfl rfl ?_
    refine s_get hX fX5_56 (oF hb) rfl dX5_look_58 ?_
    refine s_iload_n (k := 3) hX dX5_look_61 rfl rfl ?_
    refine s_zald hX (aF5 hb) (vp_in_iff.mpr (by omega)) dX5_look_62 ?_
    refine s_if_eq (tgt := 70) hX dX5_look_63 (by decide) (fun c63 => ?_) (fun c63 => ?_)
    · refine s_iconst (v := (nI 0)) hX dX5_look_70 (by decide) ?_
      refine s_iastN hX aC22 (by omega) dX5_look_71 ?_
      refine s_mem (fun M_6 eM_6 => ?_)
      have hfM_6 : ∀ a, a ≠ 22 → M_6 a = M a := fun a q0 => (congrFun eM_6 a).trans ((mset_n (by omega)).trans (hfM_5 a q0))
      refine s_aload_n (k := 0) hX dX5_look_72 rfl rfl ?_
      refine s_get hX fX5_11 oC21 rfl dX5_look_73 ?_
      refine s_iconst (v := (nI 5)) hX dX5_look_76 (by decide) ?_
      refine s_aload_n (k := 2) hX dX5_look_77 rfl rfl ?_
      refine s_get hX fX5_72 (oL hc) rfl dX5_look_78 ?_
      refine s_top (y := M c 9) (by rw [eM_6, mset_n (by omega), eM_5, mset_n (by omega), eM_4, mset_n (by omega), eM_3, mset_n (by omega), eM_2, mset_n (by omega)]) ?_
      refine s_if_eq (tgt := 92) hX dX5_look_81 (by decide) (fun c81 => ?_) (fun c81 => ?_)
      · replace c81 := z_eq.mp c81
        refine s_iconst (v := (nI 0)) hX dX5_look_92 (by decide) ?_
        refine s_iastN hX aC22 (by omega) dX5_look_93 ?_
        refine s_mem (fun M_7 eM_7 => ?_)
        have hfM_7 : ∀ a, a ≠ 22 → M_7 a = M a := fun a q0 => (congrFun eM_7 a).trans ((mset_n (by omega)).trans (hfM_6 a q0))
        refine s_aload_n (k := 0) hX dX5_look_94 rfl rfl ?_
        refine s_get hX fX5_11 oC21 rfl dX5_look_95 ?_
        refine s_bipush (v := (nI 7)) hX dX5_look_98 (by decide) ?_
        refine s_aload_n (k := 1) hX dX5_look_100 rfl rfl ?_
        refine s_get hX fX5_22 (oF hb) rfl dX5_look_101 ?_
        refine s_top (y := M b 5) (by rw [eM_7, mset_n (by omega), eM_6, mset_n (by omega), eM_5, mset_n (by omega), eM_4, mset_n (by omega), eM_3, mset_n (by omega), eM_2, mset_n (by omega)]) ?_
        refine s_bipush (v := (nI 100)) hX dX5_look_104 (by decide) ?_
        refine s_irem hX dX5_look_106 (by decide) ?_
        refine s_iastN hX aC22 (by omega) dX5_look_107 ?_
        refine s_mem (fun M_8 eM_8 => ?_)
        have hfM_8 : ∀ a, a ≠ 22 → M_8 a = M a := fun a q0 => (congrFun eM_8 a).trans ((mset_n (by omega)).trans (hfM_7 a q0))
        exact s_vret hX hR dX5_look_108 hfM_8
      · replace c81 := mt z_eq.mpr c81
        refine s_aload_n (k := 1) hX dX5_look_84 rfl rfl ?_
        refine s_iload_n (k := 3) hX dX5_look_85 rfl rfl ?_
        refine s_callVi hX (s_X2_countClose b hb _ M_6) mX2_countClose lX5_76 (by decide) (by decide) (oF hb) rfl rfl rfl rfl rfl (Nat.le_of_ble_eq_true rfl) dX5_look_86 (fun r86 M_9 hp86 => ?_)
        subst hp86
        refine s_goto (tgt := 93) hX dX5_look_89 (by decide) ?_
        refine s_iastN hX aC22 (by omega) dX5_look_93 ?_
        refine s_mem (fun M_10 eM_10 => ?_)
        have hfM_10 : ∀ a, a ≠ 22 → M_10 a = M a := fun a q0 => (congrFun eM_10 a).trans ((mset_n (by omega)).trans (hfM_6 a q0))
        refine s_aload_n (k := 0) hX dX5_look_94 rfl rfl ?_
        refine s_get hX fX5_11 oC21 rfl dX5_look_95 ?_
        refine s_bipush (v := (nI 7)) hX dX5_look_98 (by decide) ?_
        refine s_aload_n (k := 1) hX dX5_look_100 rfl rfl ?_
        refine s_get hX fX5_22 (oF hb) rfl dX5_look_101 ?_
        refine s_top (y := M b 5) (by rw [eM_10, mset_n (by omega), eM_6, mset_n (by omega), eM_5, mset_n (by omega), eM_4, mset_n (by omega), eM_3, mset_n (by omega), eM_2, mset_n (by omega)]) ?_
        refine s_bipush (v := (nI 100)) hX dX5_look_104 (by decide) ?_
        refine s_irem hX dX5_look_106 (by decide) ?_
        refine s_iastN hX aC22 (by omega) dX5_look_107 ?_
        refine s_mem (fun M_11 eM_11 => ?_)
        have hfM_11 : ∀ a, a ≠ 22 → M_11 a = M a := fun a q0 => (congrFun eM_11 a).trans ((mset_n (by omega)).trans (hfM_10 a q0))
        exact s_vret hX hR dX5_look_108 hfM_11
    · refine s_iconst (v := (nI 1)) hX dX5_look_66 (by decide) ?_
      refine s_goto (tgt := 71) hX dX5_look_67 (by decide) ?_
      refine s_iastN hX aC22 (by omega) dX5_look_71 ?_
      refine s_mem (fun M_12 eM_12 => ?_)
      have hfM_12 : ∀ a, a ≠ 22 → M_12 a = M a := fun a q0 => (congrFun eM_12 a).trans ((mset_n (by omega)).trans (hfM_5 a q0))
      refine s_aload_n (k := 0) hX dX5_look_72 rfl rfl ?_
      refine s_get hX fX5_11 oC21 rfl dX5_look_73 ?_
      refine s_iconst (v := (nI 5)) hX dX5_look_76 (by decide) ?_
      refine s_aload_n (k := 2) hX dX5_look_77 rfl rfl ?_
      refine s_get hX fX5_72 (oL hc) rfl dX5_look_78 ?_
      refine s_top (y := M c 9) (by rw [eM_12, mset_n (by omega), eM_5, mset_n (by omega), eM_4, mset_n (by omega), eM_3, mset_n (by omega), eM_2, mset_n (by omega)]) ?_
      refine s_if_eq (tgt := 92) hX dX5_look_81 (by decide) (fun c81 => ?_) (fun c81 => ?_)
      · replace c81 := z_eq.mp c81
        refine s_iconst (v := (nI 0)) hX dX5_look_92 (by decide) ?_
        refine s_iastN hX aC22 (by omega) dX5_look_93 ?_
        refine s_mem (fun M_13 eM_13 => ?_)
        have hfM_13 : ∀ a, a ≠ 22 → M_13 a = M a := fun a q0 => (congrFun eM_13 a).trans ((mset_n (by omega)).trans (hfM_12 a q0))
        refine s_aload_n (k := 0) hX dX5_look_94 rfl rfl ?_
        refine s_get hX fX5_11 oC21 rfl dX5_look_95 ?_
        refine s_bipush (v := (nI 7)) hX dX5_look_98 (by decide) ?_
        refine s_aload_n (k := 1) hX dX5_look_100 rfl rfl ?_
        refine s_get hX fX5_22 (oF hb) rfl dX5_look_101 ?_
        refine s_top (y := M b 5) (by rw [eM_13, mset_n (by omega), eM_12, mset_n (by omega), eM_5, mset_n (by omega), eM_4, mset_n (by omega), eM_3, mset_n (by omega), eM_2, mset_n (by omega)]) ?_
        refine s_bipush (v := (nI 100)) hX dX5_look_104 (by decide) ?_
        refine s_irem hX dX5_look_106 (by decide) ?_
        refine s_iastN hX aC22 (by omega) dX5_look_107 ?_
        refine s_mem (fun M_14 eM_14 => ?_)
        have hfM_14 : ∀ a, a ≠ 22 → M_14 a = M a := fun a q0 => (congrFun eM_14 a).trans ((mset_n (by omega)).trans (hfM_13 a q0))
        exact s_vret hX hR dX5_look_108 hfM_14
      · replace c81 := mt z_eq.mpr c81
        refine s_aload_n (k := 1) hX dX5_look_84 rfl rfl ?_
        refine s_iload_n (k := 3) hX dX5_look_85 rfl rfl ?_
        refine s_callVi hX (s_X2_countClose b hb _ M_12) mX2_countClose lX5_76 (by decide) (by decide) (oF hb) rfl rfl rfl rfl rfl (Nat.le_of_ble_eq_true rfl) dX5_look_86 (fun r86 M_15 hp86 => ?_)
        subst hp86
        refine s_goto (tgt := 93) hX dX5_look_89 (by decide) ?_
        refine s_iastN hX aC22 (by omega) dX5_look_93 ?_
        refine s_mem (fun M_16 eM_16 => ?_)
        have hfM_16 : ∀ a, a ≠ 22 → M_16 a = M a := fun a q0 => (congrFun eM_16 a).trans ((mset_n (by omega)).trans (hfM_12 a q0))
        refine s_aload_n (k := 0) hX dX5_look_94 rfl rfl ?_
        refine s_get hX fX5_11 oC21 rfl dX5_look_95 ?_
        refine s_bipush (v := (nI 7)) hX dX5_look_98 (by decide) ?_
        refine s_aload_n (k := 1) hX dX5_look_100 rfl rfl ?_
        refine s_get hX fX5_22 (oF hb) rfl dX5_look_101 ?_
        refine s_top (y := M b 5) (by rw [eM_16, mset_n (by omega), eM_12, mset_n (by omega), eM_5, mset_n (by omega), eM_4, mset_n (by omega), eM_3, mset_n (by omega), eM_2, mset_n (by omega)]) ?_
        refine s_bipush (v := (nI 100)) hX dX5_look_104 (by decide) ?_
        refine s_irem hX dX5_look_106 (by decide) ?_
        refine s_iastN hX aC22 (by omega) dX5_look_107 ?_
        refine s_mem (fun M_17 eM_17 => ?_)
        have hfM_17 : ∀ a, a ≠ 22 → M_17 a = M a := fun a q0 => (congrFun eM_17 a).trans ((mset_n (by omega)).trans (hfM_16 a q0))
        exact s_vret hX hR dX5_look_108 hfM_17
  · replace c5 := bI_eq c5
    exact s_vret hX hR dX5_look_8 hf_0
set_option maxHeartbeats 4000000 in
theorem s_X5_shift (b : Nat) (hb : isF b) (v2 : Int32) (v3 : Int32) (v4 : Int32) (M : Mem) : AM yX5_shift cX5_shift 7 none 1 60 glC (fun ad => [.ref (ad 21), .ref (ad b), .int v2, .int v3, .int v4]) M (PV (fun M' => ∀ a, a ≠ 21 → a ≠ (b + 1) → a ≠ (b + 2) → M' a = M a)) := by
  refine AM.of (by decide) (fun _ => Nat.le_of_ble_eq_true rfl) (fun X ad cI cZ cB hX hR => ?_)
  show V X M [(0, .ref (ad 21)), (1, .ref (ad b)), (2, .int v2), (3, .int v3), (4, .int v4)] [] 0
  have hb0 : b = 1 ∨ b = 7 ∨ b = 13 := hb
  have hf_0 : ∀ a, a ≠ 21 → a ≠ (b + 1) → a ≠ (b + 2) → M a = M a := fun _ _ _ _ => rfl
  refine s_aload_n (k := 1) hX dX5_shift_0 rfl rfl ?_
  refine s_iload_n (k := 2) hX dX5_shift_1 rfl rfl ?_
  refine s_callVi hX (s_X2_isTold b hb _ M) mX2_isTold lX5_35 (by decide) (by decide) (oF hb) rfl rfl rfl rfl rfl (Nat.le_of_ble_eq_true rfl) dX5_shift_2 (fun r2 M_1 hp2 => ?_)
  obtain ⟨rfl, h2⟩ := hp2
  subst h2
  refine s_if_ne (tgt := 9) hX dX5_shift_5 (by decide) (fun c5 => ?_) (fun c5 => ?_)
  · replace c5 := bI_ne c5
    refine s_iconst (v := (nI 0)) hX dX5_shift_9 (by decide) ?_
    refine s_bipush (v := (nI 39)) hX dX5_shift_10 (by decide) ?_
    refine s_aload_n (k := 1) hX dX5_shift_12 rfl rfl ?_
    refine s_get hX fX5_63 (oF hb) rfl dX5_shift_13 ?_
    refine s_iload_n (k := 2) hX dX5_shift_16 rfl rfl ?_
    refine s_iald hX (aF1 hb) (vp_in_iff.mpr (by omega)) dX5_shift_17 ?_
    refine s_iload_n (k := 3) hX dX5_shift_18 rfl rfl ?_
    refine s_iadd hX dX5_shift_19 ?_
    refine s_mmin hX lX5_80 mJ9_min (by decide) (Nat.le_of_ble_eq_true rfl) dX5_shift_20 ?_
    refine s_mmax hX lX5_86 mJ9_max (by decide) (Nat.le_of_ble_eq_true rfl) dX5_shift_23 ?_
    refine s_topi (fun x5_2 ex5_2 => ?_)
    refine s_istore (lv' := [(0, .ref (ad 21)), (1, .ref (ad b)), (2, .int v2), (3, .int v3), (4, .int v4), (5, .int x5_2)]) hX dX5_shift_26 (by decide) rfl ?_
    refine s_iconst (v := (nI 1)) hX dX5_shift_28 (by decide) ?_
    refine s_bipush (v := (nI 20)) hX dX5_shift_29 (by decide) ?_
    refine s_aload_n (k := 1) hX dX5_shift_31 rfl rfl ?_
    refine s_get hX fX5_66 (oF hb) rfl dX5_shift_32 ?_
    refine s_iload_n (k := 2) hX dX5_shift_35 rfl rfl ?_
    refine s_iald hX (aF2 hb) (vp_in_iff.mpr (by omega)) dX5_shift_36 ?_
    refine s_iload (k := 4) hX dX5_shift_37 rfl ?_
    refine s_iadd hX dX5_shift_39 ?_
    refine s_mmin hX lX5_80 mJ9_min (by decide) (Nat.le_of_ble_eq_true rfl) dX5_shift_40 ?_
    refine s_mmax hX lX5_86 mJ9_max (by decide) (Nat.le_of_ble_eq_true rfl) dX5_shift_43 ?_
    refine s_topi (fun x6_3 ex6_3 => ?_)
    refine s_istore (lv' := [(0, .ref (ad 21)), (1, .ref (ad b)), (2, .int v2), (3, .int v3), (4, .int v4), (5, .int x5_2), (6, .int x6_3)]) hX dX5_shift_46 (by decide) rfl ?_
    refine s_iload (k := 5) hX dX5_shift_48 rfl ?_
    refine s_aload_n (k := 1) hX dX5_shift_50 rfl rfl ?_
    refine s_get hX fX5_63 (oF hb) rfl dX5_shift_51 ?_
    refine s_iload_n (k := 2) hX dX5_shift_54 rfl rfl ?_
    refine s_iald hX (aF1 hb) (vp_in_iff.mpr (by omega)) dX5_shift_55 ?_
    refine s_icmp_ne (tgt := 71) hX dX5_shift_56 (by decide) (fun c56 => ?_) (fun c56 => ?_)
    · refine s_aload_n (k := 1) hX dX5_shift_71 rfl rfl ?_
      refine s_iload (k := 5) hX dX5_shift_72 rfl ?_
      refine s_iload (k := 6) hX dX5_shift_74 rfl ?_
      refine s_callVi hX (s_X2_stoneAt b hb _ _ M) mX2_stoneAt lX5_89 (by decide) (by decide) (oF hb) rfl rfl rfl rfl rfl (Nat.le_of_ble_eq_true rfl) dX5_shift_76 (fun r76 M_4 hp76 => ?_)
      subst hp76
      refine s_iconst (v := (-1)) hX dX5_shift_79 (by decide) ?_
      refine s_icmp_eq (tgt := 94) hX dX5_shift_80 (by decide) (fun c80 => ?_) (fun c80 => ?_)
      · refine s_aload_n (k := 1) hX dX5_shift_94 rfl rfl ?_
        refine s_get hX fX5_63 (oF hb) rfl dX5_shift_95 ?_
        refine s_iload_n (k := 2) hX dX5_shift_98 rfl rfl ?_
        refine s_iload (k := 5) hX dX5_shift_99 rfl ?_
        refine s_iast hX (aF1 hb) (vp_in_iff.mpr (by omega)) dX5_shift_101 ?_
        refine s_mem (fun M_5 eM_5 => ?_)
        have hfM_5 : ∀ a, a ≠ 21 → a ≠ (b + 1) → a ≠ (b + 2) → M_5 a = M a := fun a q0 q1 q2 => (congrFun eM_5 a).trans ((mset_n (by omega)).trans (hf_0 a q0 q1 q2))
        refine s_aload_n (k := 1) hX dX5_shift_102 rfl rfl ?_
        refine s_get hX fX5_66 (oF hb) rfl dX5_shift_103 ?_
        refine s_iload_n (k := 2) hX dX5_shift_106 rfl rfl ?_
        refine s_iload (k := 6) hX dX5_shift_107 rfl ?_
        refine s_iast hX (aF2 hb) (vp_in_iff.mpr (by omega)) dX5_shift_109 ?_
        refine s_mem (fun M_6 eM_6 => ?_)
        have hfM_6 : ∀ a, a ≠ 21 → a ≠ (b + 1) → a ≠ (b + 2) → M_6 a = M a := fun a q0 q1 q2 => (congrFun eM_6 a).trans ((mset_n (by omega)).trans (hfM_5 a q0 q1 q2))
        refine s_aload_n (k := 0) hX dX5_shift_110 rfl rfl ?_
        refine s_dup hX dX5_shift_111 rfl ?_
        refine s_get hX fX5_15 oC21 rfl dX5_shift_112 ?_
        refine s_top (y := M 21 1) (by rw [eM_6, mset_n (by omega), eM_5, mset_n (by omega)]) ?_
        refine s_iconst (v := (nI 1)) hX dX5_shift_115 (by decide) ?_
        refine s_iadd hX dX5_shift_116 ?_
        refine s_puti (ty := .int) hX fX5_15 oC21 rfl (Nat.le_of_ble_eq_true rfl) ty_5_1 rfl rfl dX5_shift_117 ?_
        refine s_mem (fun M_7 eM_7 => ?_)
        have hfM_7 : ∀ a, a ≠ 21 → a ≠ (b + 1) → a ≠ (b + 2) → M_7 a = M a := fun a q0 q1 q2 => (congrFun eM_7 a).trans ((mset_n (by omega)).trans (hfM_6 a q0 q1 q2))
        exact s_vret hX hR dX5_shift_120 hfM_7
      · refine s_aload_n (k := 0) hX dX5_shift_83 rfl rfl ?_
        refine s_dup hX dX5_shift_84 rfl ?_
        refine s_get hX fX5_19 oC21 rfl dX5_shift_85 ?_
        refine s_iconst (v := (nI 1)) hX dX5_shift_88 (by decide) ?_
        refine s_iadd hX dX5_shift_89 ?_
        refine s_puti (ty := .int) hX fX5_19 oC21 rfl (Nat.le_of_ble_eq_true rfl) ty_5_2 rfl rfl dX5_shift_90 ?_
        refine s_mem (fun M_8 eM_8 => ?_)
        have hfM_8 : ∀ a, a ≠ 21 → a ≠ (b + 1) → a ≠ (b + 2) → M_8 a = M a := fun a q0 q1 q2 => (congrFun eM_8 a).trans ((mset_n (by omega)).trans (hf_0 a q0 q1 q2))
        exact s_vret hX hR dX5_shift_93 hfM_8
    · refine s_iload (k := 6) hX dX5_shift_59 rfl ?_
      refine s_aload_n (k := 1) hX dX5_shift_61 rfl rfl ?_
      refine s_get hX fX5_66 (oF hb) rfl dX5_shift_62 ?_
      refine s_iload_n (k := 2) hX dX5_shift_65 rfl rfl ?_
      refine s_iald hX (aF2 hb) (vp_in_iff.mpr (by omega)) dX5_shift_66 ?_
      refine s_icmp_ne (tgt := 71) hX dX5_shift_67 (by decide) (fun c67 => ?_) (fun c67 => ?_)
      · refine s_aload_n (k := 1) hX dX5_shift_71 rfl rfl ?_
        refine s_iload (k := 5) hX dX5_shift_72 rfl ?_
        refine s_iload (k := 6) hX dX5_shift_74 rfl ?_
        refine s_callVi hX (s_X2_stoneAt b hb _ _ M) mX2_stoneAt lX5_89 (by decide) (by decide) (oF hb) rfl rfl rfl rfl rfl (Nat.le_of_ble_eq_true rfl) dX5_shift_76 (fun r76 M_9 hp76 => ?_)
        subst hp76
        refine s_iconst (v := (-1)) hX dX5_shift_79 (by decide) ?_
        refine s_icmp_eq (tgt := 94) hX dX5_shift_80 (by decide) (fun c80 => ?_) (fun c80 => ?_)
        · refine s_aload_n (k := 1) hX dX5_shift_94 rfl rfl ?_
          refine s_get hX fX5_63 (oF hb) rfl dX5_shift_95 ?_
          refine s_iload_n (k := 2) hX dX5_shift_98 rfl rfl ?_
          refine s_iload (k := 5) hX dX5_shift_99 rfl ?_
          refine s_iast hX (aF1 hb) (vp_in_iff.mpr (by omega)) dX5_shift_101 ?_
          refine s_mem (fun M_10 eM_10 => ?_)
          have hfM_10 : ∀ a, a ≠ 21 → a ≠ (b + 1) → a ≠ (b + 2) → M_10 a = M a := fun a q0 q1 q2 => (congrFun eM_10 a).trans ((mset_n (by omega)).trans (hf_0 a q0 q1 q2))
          refine s_aload_n (k := 1) hX dX5_shift_102 rfl rfl ?_
          refine s_get hX fX5_66 (oF hb) rfl dX5_shift_103 ?_
          refine s_iload_n (k := 2) hX dX5_shift_106 rfl rfl ?_
          refine s_iload (k := 6) hX dX5_shift_107 rfl ?_
          refine s_iast hX (aF2 hb) (vp_in_iff.mpr (by omega)) dX5_shift_109 ?_
          refine s_mem (fun M_11 eM_11 => ?_)
          have hfM_11 : ∀ a, a ≠ 21 → a ≠ (b + 1) → a ≠ (b + 2) → M_11 a = M a := fun a q0 q1 q2 => (congrFun eM_11 a).trans ((mset_n (by omega)).trans (hfM_10 a q0 q1 q2))
          refine s_aload_n (k := 0) hX dX5_shift_110 rfl rfl ?_
          refine s_dup hX dX5_shift_111 rfl ?_
          refine s_get hX fX5_15 oC21 rfl dX5_shift_112 ?_
          refine s_top (y := M 21 1) (by rw [eM_11, mset_n (by omega), eM_10, mset_n (by omega)]) ?_
          refine s_iconst (v := (nI 1)) hX dX5_shift_115 (by decide) ?_
          refine s_iadd hX dX5_shift_116 ?_
          refine s_puti (ty := .int) hX fX5_15 oC21 rfl (Nat.le_of_ble_eq_true rfl) ty_5_1 rfl rfl dX5_shift_117 ?_
          refine s_mem (fun M_12 eM_12 => ?_)
          have hfM_12 : ∀ a, a ≠ 21 → a ≠ (b + 1) → a ≠ (b + 2) → M_12 a = M a := fun a q0 q1 q2 => (congrFun eM_12 a).trans ((mset_n (by omega)).trans (hfM_11 a q0 q1 q2))
          exact s_vret hX hR dX5_shift_120 hfM_12
        · refine s_aload_n (k := 0) hX dX5_shift_83 rfl rfl ?_
          refine s_dup hX dX5_shift_84 rfl ?_
          refine s_get hX fX5_19 oC21 rfl dX5_shift_85 ?_
          refine s_iconst (v := (nI 1)) hX dX5_shift_88 (by decide) ?_
          refine s_iadd hX dX5_shift_89 ?_
          refine s_puti (ty := .int) hX fX5_19 oC21 rfl (Nat.le_of_ble_eq_true rfl) ty_5_2 rfl rfl dX5_shift_90 ?_
          refine s_mem (fun M_13 eM_13 => ?_)
          have hfM_13 : ∀ a, a ≠ 21 → a ≠ (b + 1) → a ≠ (b + 2) → M_13 a = M a := fun a q0 q1 q2 => (congrFun eM_13 a).trans ((mset_n (by omega)).trans (hf_0 a q0 q1 q2))
          exact s_vret hX hR dX5_shift_93 hfM_13
      · exact s_vret hX hR dX5_shift_70 hf_0
  · replace c5 := bI_eq c5
    exact s_vret hX hR dX5_shift_8 hf_0
set_option maxHeartbeats 4000000 in
theorem s_X5_turn (b : Nat) (hb : isF b) (c : Nat) (hc : isL c) (v3 : Int32) (M : Mem) : AM yX5_turn cX5_turn 6 none 4 60 glC (fun ad => [.ref (ad 21), .ref (ad b), .ref (ad c), .int v3]) M (PV (fun M' => ∀ a, a ≠ 21 → a ≠ 22 → a ≠ b → a ≠ (b + 1) → a ≠ (b + 2) → a ≠ (b + 5) → a ≠ (c + 3) → M' a = M a)) := by
  refine AM.of (by decide) (fun _ => Nat.le_of_ble_eq_true rfl) (fun X ad cI cZ cB hX hR => ?_)
  show V X M [(0, .ref (ad 21)), (1, .ref (ad b)), (2, .ref (ad c)), (3, .int v3)] [] 0
  have hb0 : b = 1 ∨ b = 7 ∨ b = 13 := hb
  have hc0 : c = 44 ∨ c = 52 := hc
  have hf_0 : ∀ a, a ≠ 21 → a ≠ 22 → a ≠ b → a ≠ (b + 1) → a ≠ (b + 2) → a ≠ (b + 5) → a ≠ (c + 3) → M a = M a := fun _ _ _ _ _ _ _ _ => rfl
  refine s_aload_n (k := 1) hX dX5_turn_0 rfl rfl ?_
  refine s_iload_n (k := 3) hX dX5_turn_1 rfl rfl ?_
  refine s_callVi hX (s_X2_isTold b hb _ M) mX2_isTold lX5_35 (by decide) (by decide) (oF hb) rfl rfl rfl rfl rfl (Nat.le_of_ble_eq_true rfl) dX5_turn_2 (fun r2 M_1 hp2 => ?_)
  obtain ⟨rfl, h2⟩ := hp2
  subst h2
  refine s_if_ne (tgt := 9) hX dX5_turn_5 (by decide) (fun c5 => ?_) (fun c5 => ?_)
  · replace c5 := bI_ne c5
    refine s_aload_n (k := 0) hX dX5_turn_9 rfl rfl ?_
    refine s_get hX fX5_11 oC21 rfl dX5_turn_10 ?_
    refine s_bipush (v := (nI 6)) hX dX5_turn_13 (by decide) ?_
    refine s_aload_n (k := 1) hX dX5_turn_15 rfl rfl ?_
    refine s_callVi hX (s_X2_draw b hb M) mX2_draw lX5_39 (by decide) (by decide) (oF hb) rfl rfl rfl rfl rfl (Nat.le_of_ble_eq_true rfl) dX5_turn_16 (fun r16 M_2 hp16 => ?_)
    have hfM_2 : ∀ a, a ≠ 21 → a ≠ 22 → a ≠ b → a ≠ (b + 1) → a ≠ (b + 2) → a ≠ (b + 5) → a ≠ (c + 3) → M_2 a = M a := fun a q0 q1 q2 q3 q4 q5 q6 => (hp16 a (by omega)).trans (hf_0 a q0 q1 q2 q3 q4 q5 q6)
    refine s_iastN hX aC22 (by omega) dX5_turn_19 ?_
    refine s_mem (fun M_3 eM_3 => ?_)
    have hfM_3 : ∀ a, a ≠ 21 → a ≠ 22 → a ≠ b → a ≠ (b + 1) → a ≠ (b + 2) → a ≠ (b + 5) → a ≠ (c + 3) → M_3 a = M a := fun a q0 q1 q2 q3 q4 q5 q6 => (congrFun eM_3 a).trans ((mset_n (by omega)).trans (hfM_2 a q0 q1 q2 q3 q4 q5 q6))
    refine s_aload_n (k := 0) hX dX5_turn_20 rfl rfl ?_
    refine s_aload_n (k := 1) hX dX5_turn_21 rfl rfl ?_
    refine s_aload_n (k := 2) hX dX5_turn_22 rfl rfl ?_
    refine s_iload_n (k := 3) hX dX5_turn_23 rfl rfl ?_
    refine s_callVv hX (s_X5_look b hb c hc _ M_3) mX5_look lX5_43 (by decide) (by decide) oC21 rfl rfl rfl rfl rfl (Nat.le_of_ble_eq_true rfl) dX5_turn_24 (fun M_4 hp24 => ?_)
    have hfM_4 : ∀ a, a ≠ 21 → a ≠ 22 → a ≠ b → a ≠ (b + 1) → a ≠ (b + 2) → a ≠ (b + 5) → a ≠ (c + 3) → M_4 a = M a := fun a q0 q1 q2 q3 q4 q5 q6 => (hp24 a (by omega)).trans (hfM_3 a q0 q1 q2 q3 q4 q5 q6)
    refine s_aload_n (k := 2) hX dX5_turn_27 rfl rfl ?_
    refine s_bipush (v := (nI 117)) hX dX5_turn_28 (by decide) ?_
    refine s_aload_n (k := 0) hX dX5_turn_30 rfl rfl ?_
    refine s_get hX fX5_11 oC21 rfl dX5_turn_31 ?_
    refine s_callVi hX (s_X3_amountOf c hc _ M_4) mX3_amountOf lX5_46 (by decide) (by decide) (oL hc) rfl rfl rfl rfl rfl (Nat.le_of_ble_eq_true rfl) dX5_turn_34 (fun r34 M_5 hp34 => ?_)
    have hfM_5 : ∀ a, a ≠ 21 → a ≠ 22 → a ≠ b → a ≠ (b + 1) → a ≠ (b + 2) → a ≠ (b + 5) → a ≠ (c + 3) → M_5 a = M a := fun a q0 q1 q2 q3 q4 q5 q6 => (hp34 a (by omega)).trans (hfM_4 a q0 q1 q2 q3 q4 q5 q6)
    refine s_aload_n (k := 2) hX dX5_turn_37 rfl rfl ?_
    refine s_bipush (v := (nI 100)) hX dX5_turn_38 (by decide) ?_
    refine s_aload_n (k := 0) hX dX5_turn_40 rfl rfl ?_
    refine s_get hX fX5_11 oC21 rfl dX5_turn_41 ?_
    refine s_callVi hX (s_X3_amountOf c hc _ M_5) mX3_amountOf lX5_46 (by decide) (by decide) (oL hc) rfl rfl rfl rfl rfl (Nat.le_of_ble_eq_true rfl) dX5_turn_44 (fun r44 M_6 hp44 => ?_)
    have hfM_6 : ∀ a, a ≠ 21 → a ≠ 22 → a ≠ b → a ≠ (b + 1) → a ≠ (b + 2) → a ≠ (b + 5) → a ≠ (c + 3) → M_6 a = M a := fun a q0 q1 q2 q3 q4 q5 q6 => (hp44 a (by omega)).trans (hfM_5 a q0 q1 q2 q3 q4 q5 q6)
    refine s_isub hX dX5_turn_47 ?_
    refine s_topi (fun x4_7 ex4_7 => ?_)
    refine s_istore (lv' := [(0, .ref (ad 21)), (1, .ref (ad b)), (2, .ref (ad c)), (3, .int v3), (4, .int x4_7)]) hX dX5_turn_48 (by decide) rfl ?_
    refine s_aload_n (k := 2) hX dX5_turn_50 rfl rfl ?_
    refine s_bipush (v := (nI 111)) hX dX5_turn_51 (by decide) ?_
    refine s_aload_n (k := 0) hX dX5_turn_53 rfl rfl ?_
    refine s_get hX fX5_11 oC21 rfl dX5_turn_54 ?_
    refine s_callVi hX (s_X3_amountOf c hc _ M_6) mX3_amountOf lX5_46 (by decide) (by decide) (oL hc) rfl rfl rfl rfl rfl (Nat.le_of_ble_eq_true rfl) dX5_turn_57 (fun r57 M_8 hp57 => ?_)
    have hfM_8 : ∀ a, a ≠ 21 → a ≠ 22 → a ≠ b → a ≠ (b + 1) → a ≠ (b + 2) → a ≠ (b + 5) → a ≠ (c + 3) → M_8 a = M a := fun a q0 q1 q2 q3 q4 q5 q6 => (hp57 a (by omega)).trans (hfM_6 a q0 q1 q2 q3 q4 q5 q6)
    refine s_aload_n (k := 2) hX dX5_turn_60 rfl rfl ?_
    refine s_bipush (v := (nI 98)) hX dX5_turn_61 (by decide) ?_
    refine s_aload_n (k := 0) hX dX5_turn_63 rfl rfl ?_
    refine s_get hX fX5_11 oC21 rfl dX5_turn_64 ?_
    refine s_callVi hX (s_X3_amountOf c hc _ M_8) mX3_amountOf lX5_46 (by decide) (by decide) (oL hc) rfl rfl rfl rfl rfl (Nat.le_of_ble_eq_true rfl) dX5_turn_67 (fun r67 M_9 hp67 => ?_)
    have hfM_9 : ∀ a, a ≠ 21 → a ≠ 22 → a ≠ b → a ≠ (b + 1) → a ≠ (b + 2) → a ≠ (b + 5) → a ≠ (c + 3) → M_9 a = M a := fun a q0 q1 q2 q3 q4 q5 q6 => (hp67 a (by omega)).trans (hfM_8 a q0 q1 q2 q3 q4 q5 q6)
    refine s_isub hX dX5_turn_70 ?_
    refine s_topi (fun x5_10 ex5_10 => ?_)
    refine s_istore (lv' := [(0, .ref (ad 21)), (1, .ref (ad b)), (2, .ref (ad c)), (3, .int v3), (4, .int x4_7), (5, .int x5_10)]) hX dX5_turn_71 (by decide) rfl ?_
    refine s_aload_n (k := 0) hX dX5_turn_73 rfl rfl ?_
    refine s_aload_n (k := 1) hX dX5_turn_74 rfl rfl ?_
    refine s_iload_n (k := 3) hX dX5_turn_75 rfl rfl ?_
    refine s_iload (k := 4) hX dX5_turn_76 rfl ?_
    refine s_iload (k := 5) hX dX5_turn_78 rfl ?_
    refine s_callVv hX (s_X5_shift b hb _ _ _ M_9) mX5_shift lX5_52 (by decide) (by decide) oC21 rfl rfl rfl rfl rfl (Nat.le_of_ble_eq_true rfl) dX5_turn_80 (fun M_11 hp80 => ?_)
    have hfM_11 : ∀ a, a ≠ 21 → a ≠ 22 → a ≠ b → a ≠ (b + 1) → a ≠ (b + 2) → a ≠ (b + 5) → a ≠ (c + 3) → M_11 a = M a := fun a q0 q1 q2 q3 q4 q5 q6 => (hp80 a (by omega) (by omega) (by omega)).trans (hfM_9 a q0 q1 q2 q3 q4 q5 q6)
    refine s_aload_n (k := 0) hX dX5_turn_83 rfl rfl ?_
    refine s_aload_n (k := 1) hX dX5_turn_84 rfl rfl ?_
    refine s_aload_n (k := 2) hX dX5_turn_85 rfl rfl ?_
    refine s_iload_n (k := 3) hX dX5_turn_86 rfl rfl ?_
    refine s_callVv hX (s_X5_look b hb c hc _ M_11) mX5_look lX5_43 (by decide) (by decide) oC21 rfl rfl rfl rfl rfl (Nat.le_of_ble_eq_true rfl) dX5_turn_87 (fun M_12 hp87 => ?_)
    have hfM_12 : ∀ a, a ≠ 21 → a ≠ 22 → a ≠ b → a ≠ (b + 1) → a ≠ (b + 2) → a ≠ (b + 5) → a ≠ (c + 3) → M_12 a = M a := fun a q0 q1 q2 q3 q4 q5 q6 => (hp87 a (by omega)).trans (hfM_11 a q0 q1 q2 q3 q4 q5 q6)
    refine s_aload_n (k := 1) hX dX5_turn_90 rfl rfl ?_
    refine s_get hX fX5_56 (oF hb) rfl dX5_turn_91 ?_
    refine s_iload_n (k := 3) hX dX5_turn_94 rfl rfl ?_
    refine s_aload_n (k := 2) hX dX5_turn_95 rfl rfl ?_
    refine s_aload_n (k := 0) hX dX5_turn_96 rfl rfl ?_
    refine s_get hX fX5_11 oC21 rfl dX5_turn_97 ?_
    refine s_callVi hX (s_X3_doesSink c hc M_12) mX3_doesSink lX5_59 (by decide) (by decide) (oL hc) rfl rfl rfl rfl rfl (Nat.le_of_ble_eq_true rfl) dX5_turn_100 (fun r100 M_13 hp100 => ?_)
    obtain ⟨hz100, hq100⟩ := hp100
    have hfM_13 : ∀ a, a ≠ 21 → a ≠ 22 → a ≠ b → a ≠ (b + 1) → a ≠ (b + 2) → a ≠ (b + 5) → a ≠ (c + 3) → M_13 a = M a := fun a q0 q1 q2 q3 q4 q5 q6 => (hq100 a (by omega)).trans (hfM_12 a q0 q1 q2 q3 q4 q5 q6)
    refine s_zast hX (aF5 hb) (vp_in_iff.mpr (by omega)) dX5_turn_103 ?_
    refine s_mem (fun M_14 eM_14 => ?_)
    have hfM_14 : ∀ a, a ≠ 21 → a ≠ 22 → a ≠ b → a ≠ (b + 1) → a ≠ (b + 2) → a ≠ (b + 5) → a ≠ (c + 3) → M_14 a = M a := fun a q0 q1 q2 q3 q4 q5 q6 => (congrFun eM_14 a).trans ((mset_n (by omega)).trans (hfM_13 a q0 q1 q2 q3 q4 q5 q6))
    exact s_vret hX hR dX5_turn_104 hfM_14
  · replace c5 := bI_eq c5
    exact s_vret hX hR dX5_turn_8 hf_0
set_option maxHeartbeats 4000000 in
theorem s_X5_pass (b : Nat) (hb : isF b) (c : Nat) (hc : isL c) (v3 : Int32) (M : Mem) (hv : v3.toInt ≤ 60) : AM yX5_pass cX5_pass 6 none 5 60 glC (fun ad => [.ref (ad 21), .ref (ad b), .ref (ad c), .int v3]) M (PV (fun M' => ∀ a, a ≠ 21 → a ≠ 22 → a ≠ b → a ≠ (b + 1) → a ≠ (b + 2) → a ≠ (b + 5) → a ≠ (c + 3) → M' a = M a)) := by
  refine AM.of (by decide) (fun _ => Nat.le_of_ble_eq_true rfl) (fun X ad cI cZ cB hX hR => ?_)
  show V X M [(0, .ref (ad 21)), (1, .ref (ad b)), (2, .ref (ad c)), (3, .int v3)] [] 0
  have hb0 : b = 1 ∨ b = 7 ∨ b = 13 := hb
  have hc0 : c = 44 ∨ c = 52 := hc
  have hf_0 : ∀ a, a ≠ 21 → a ≠ 22 → a ≠ b → a ≠ (b + 1) → a ≠ (b + 2) → a ≠ (b + 5) → a ≠ (c + 3) → M a = M a := fun _ _ _ _ _ _ _ _ => rfl
  refine s_aload_n (k := 0) hX dX5_pass_0 rfl rfl ?_
  refine s_iconst (v := (nI 0)) hX dX5_pass_1 (by decide) ?_
  refine s_puti (ty := .int) hX fX5_15 oC21 rfl (Nat.le_of_ble_eq_true rfl) ty_5_1 rfl rfl dX5_pass_2 ?_
  refine s_mem (fun M_1 eM_1 => ?_)
  have hfM_1 : ∀ a, a ≠ 21 → a ≠ 22 → a ≠ b → a ≠ (b + 1) → a ≠ (b + 2) → a ≠ (b + 5) → a ≠ (c + 3) → M_1 a = M a := fun a q0 q1 q2 q3 q4 q5 q6 => (congrFun eM_1 a).trans ((mset_n (by omega)).trans (hf_0 a q0 q1 q2 q3 q4 q5 q6))
  refine s_aload_n (k := 0) hX dX5_pass_5 rfl rfl ?_
  refine s_iconst (v := (nI 0)) hX dX5_pass_6 (by decide) ?_
  refine s_puti (ty := .int) hX fX5_19 oC21 rfl (Nat.le_of_ble_eq_true rfl) ty_5_2 rfl rfl dX5_pass_7 ?_
  refine s_mem (fun M_2 eM_2 => ?_)
  have hfM_2 : ∀ a, a ≠ 21 → a ≠ 22 → a ≠ b → a ≠ (b + 1) → a ≠ (b + 2) → a ≠ (b + 5) → a ≠ (c + 3) → M_2 a = M a := fun a q0 q1 q2 q3 q4 q5 q6 => (congrFun eM_2 a).trans ((mset_n (by omega)).trans (hfM_1 a q0 q1 q2 q3 q4 q5 q6))
  refine s_iconst (v := (nI 0)) hX dX5_pass_10 (by decide) ?_
  refine s_istore (lv' := [(0, .ref (ad 21)), (1, .ref (ad b)), (2, .ref (ad c)), (3, .int v3), (4, .int (nI 0))]) hX dX5_pass_11 (by decide) rfl ?_
  have lp13 : ∀ (N13 : Nat) (i13 : Nat) (M13 : Mem), (i13 ≤ 60) → (60 < i13 + N13) → (∀ a, a ≠ 21 → a ≠ 22 → a ≠ b → a ≠ (b + 1) → a ≠ (b + 2) → a ≠ (b + 5) → a ≠ (c + 3) → M13 a = M a) → V X M13 [(0, .ref (ad 21)), (1, .ref (ad b)), (2, .ref (ad c)), (3, .int v3), (4, .int (nI i13))] [] 13 := by
    intro N13
    induction N13 with
    | zero => intro i13 M13 hi13 hN13 hf_13; exact absurd hN13 (by omega)
    | succ N13 ih13 =>
      intro i13 M13 hi13 hN13 hf_13
      refine s_iload (k := 4) hX dX5_pass_13 rfl ?_
      refine s_iload_n (k := 3) hX dX5_pass_15 rfl rfl ?_
      refine s_icmp_ge (tgt := 79) hX dX5_pass_16 (by decide) (fun c16 => ?_) (fun c16 => ?_)
      · replace c16 := (q_le (by omega)).mp c16
        exact s_vret hX hR dX5_pass_79 hf_13
      · replace c16 := mt (q_le (by omega)).mpr c16
        refine s_aload_n (k := 1) hX dX5_pass_19 rfl rfl ?_
        refine s_get hX fX5_22 (oF hb) rfl dX5_pass_20 ?_
        refine s_sipush (v := (nI 9999)) hX dX5_pass_23 (by decide) ?_
        refine s_icmp_ge (tgt := 79) hX dX5_pass_26 (by decide) (fun c26 => ?_) (fun c26 => ?_)
        · replace c26 := (q_ge (by omega)).mp c26
          exact s_vret hX hR dX5_pass_79 hf_13
        · replace c26 := mt (q_ge (by omega)).mpr c26
          refine s_iconst (v := (nI 0)) hX dX5_pass_29 (by decide) ?_
          refine s_istore (lv' := [(0, .ref (ad 21)), (1, .ref (ad b)), (2, .ref (ad c)), (3, .int v3), (4, .int (nI i13)), (5, .int (nI 0))]) hX dX5_pass_30 (by decide) rfl ?_
          have lp32 : ∀ (N32 : Nat) (i32 : Nat) (M32 : Mem), (i32 ≤ 40) → (40 < i32 + N32) → (∀ a, a ≠ 21 → a ≠ 22 → a ≠ b → a ≠ (b + 1) → a ≠ (b + 2) → a ≠ (b + 5) → a ≠ (c + 3) → M32 a = M a) → V X M32 [(0, .ref (ad 21)), (1, .ref (ad b)), (2, .ref (ad c)), (3, .int v3), (4, .int (nI i13)), (5, .int (nI i32))] [] 32 := by
            intro N32
            induction N32 with
            | zero => intro i32 M32 hi32 hN32 hf_32; exact absurd hN32 (by omega)
            | succ N32 ih32 =>
              intro i32 M32 hi32 hN32 hf_32
              refine s_iload (k := 5) hX dX5_pass_32 rfl ?_
              refine s_bipush (v := (nI 40)) hX dX5_pass_34 (by decide) ?_
              refine s_icmp_ge (tgt := 63) hX dX5_pass_36 (by decide) (fun c36 => ?_) (fun c36 => ?_)
              · replace c36 := (nI_leI (by omega) (by omega)).mp c36
                refine s_aload_n (k := 1) hX dX5_pass_63 rfl rfl ?_
                refine s_dup hX dX5_pass_64 rfl ?_
                refine s_get hX fX5_22 (oF hb) rfl dX5_pass_65 ?_
                refine s_iconst (v := (nI 1)) hX dX5_pass_68 (by decide) ?_
                refine s_iadd hX dX5_pass_69 ?_
                refine s_puti (ty := .int) hX fX5_22 (oF hb) rfl (Nat.le_of_ble_eq_true rfl) ty_2_5 rfl rfl dX5_pass_70 ?_
                refine s_mem (fun M_5 eM_5 => ?_)
                have hfM_5 : ∀ a, a ≠ 21 → a ≠ 22 → a ≠ b → a ≠ (b + 1) → a ≠ (b + 2) → a ≠ (b + 5) → a ≠ (c + 3) → M_5 a = M a := fun a q0 q1 q2 q3 q4 q5 q6 => (congrFun eM_5 a).trans ((mset_n (by omega)).trans (hf_32 a q0 q1 q2 q3 q4 q5 q6))
                refine s_iinc (k := 4) (v := nI (i13 + 1)) (lv' := [(0, .ref (ad 21)), (1, .ref (ad b)), (2, .ref (ad c)), (3, .int v3), (5, .int (nI i32)), (4, .int (nI (i13 + 1)))]) hX dX5_pass_73 (nI_1 _) (by decide) rfl rfl ?_
                refine s_goto (tgt := 13) hX dX5_pass_76 (by decide) ?_
                refine s_loc [0, 1, 2, 3, 5] rfl ?_
                exact ih13 _ _ (by omega) (by omega) hfM_5
              · replace c36 := mt (nI_leI (by omega) (by omega)).mpr c36
                refine s_aload_n (k := 1) hX dX5_pass_39 rfl rfl ?_
                refine s_get hX fX5_27 (oF hb) rfl dX5_pass_40 ?_
                refine s_iload (k := 5) hX dX5_pass_43 rfl ?_
                refine s_zaldN hX (aF4 hb) (by omega) dX5_pass_45 ?_
                refine s_if_eq (tgt := 57) hX dX5_pass_46 (by decide) (fun c46 => ?_) (fun c46 => ?_)
                · replace c46 := z_eq.mp c46
                  refine s_iinc (k := 5) (v := nI (i32 + 1)) (lv' := [(0, .ref (ad 21)), (1, .ref (ad b)), (2, .ref (ad c)), (3, .int v3), (4, .int (nI i13)), (5, .int (nI (i32 + 1)))]) hX dX5_pass_57 (nI_1 _) (by decide) rfl rfl ?_
                  refine s_goto (tgt := 32) hX dX5_pass_60 (by decide) ?_
                  exact ih32 _ _ (by omega) (by omega) hf_32
                · replace c46 := mt z_eq.mpr c46
                  refine s_aload_n (k := 0) hX dX5_pass_49 rfl rfl ?_
                  refine s_aload_n (k := 1) hX dX5_pass_50 rfl rfl ?_
                  refine s_aload_n (k := 2) hX dX5_pass_51 rfl rfl ?_
                  refine s_iload (k := 5) hX dX5_pass_52 rfl ?_
                  refine s_callVv hX (s_X5_turn b hb c hc _ M32) mX5_turn lX5_31 (by decide) (by decide) oC21 rfl rfl rfl rfl rfl (Nat.le_of_ble_eq_true rfl) dX5_pass_54 (fun M_6 hp54 => ?_)
                  have hfM_6 : ∀ a, a ≠ 21 → a ≠ 22 → a ≠ b → a ≠ (b + 1) → a ≠ (b + 2) → a ≠ (b + 5) → a ≠ (c + 3) → M_6 a = M a := fun a q0 q1 q2 q3 q4 q5 q6 => (hp54 a (by omega) (by omega) (by omega) (by omega) (by omega) (by omega) (by omega)).trans (hf_32 a q0 q1 q2 q3 q4 q5 q6)
                  refine s_iinc (k := 5) (v := nI (i32 + 1)) (lv' := [(0, .ref (ad 21)), (1, .ref (ad b)), (2, .ref (ad c)), (3, .int v3), (4, .int (nI i13)), (5, .int (nI (i32 + 1)))]) hX dX5_pass_57 (nI_1 _) (by decide) rfl rfl ?_
                  refine s_goto (tgt := 32) hX dX5_pass_60 (by decide) ?_
                  exact ih32 _ _ (by omega) (by omega) hfM_6
          exact lp32 (40 + 1) _ _ (by omega) (by omega) hf_13
  exact lp13 (60 + 1) _ _ (by omega) (by omega) hfM_2
