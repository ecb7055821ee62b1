theorem zcdX9_notebook_0 : decode cX9_notebook 0 = .ok (.aload_n 0, 1) ∧ decode cX9_notebook 1 = .ok (.getfield 25, 3) ∧ decode cX9_notebook 4 = .ok (.iload_n 1, 1) ∧ decode cX9_notebook 5 = .ok (.iconst 1, 1) ∧ decode cX9_notebook 6 = .ok (.sipush 200, 3) ∧ decode cX9_notebook 9 = .ok (.invokevirtual 119, 3) ∧ decode cX9_notebook 12 = .ok (.ifCond .ne 5, 3) ∧ decode cX9_notebook 15 = .ok (.iconst (-1), 1) := by decide +kernel
theorem zcdX9_notebook_16 : decode cX9_notebook 16 = .ok (.ireturn, 1) ∧ decode cX9_notebook 17 = .ok (.aload_n 0, 1) ∧ decode cX9_notebook 18 = .ok (.getfield 25, 3) ∧ decode cX9_notebook 21 = .ok (.iload_n 1, 1) ∧ decode cX9_notebook 22 = .ok (.invokevirtual 123, 3) ∧ decode cX9_notebook 25 = .ok (.aload_n 0, 1) ∧ decode cX9_notebook 26 = .ok (.getfield 25, 3) ∧ decode cX9_notebook 29 = .ok (.aload_n 0, 1) := by decide +kernel
theorem zcdX9_notebook_30 : decode cX9_notebook 30 = .ok (.getfield 19, 3) ∧ decode cX9_notebook 33 = .ok (.invokestatic 130, 3) ∧ decode cX9_notebook 36 = .ok (.istore_n 2, 1) ∧ decode cX9_notebook 37 = .ok (.iload_n 2, 1) ∧ decode cX9_notebook 38 = .ok (.ifCond .le 14, 3) ∧ decode cX9_notebook 41 = .ok (.aload_n 0, 1) ∧ decode cX9_notebook 42 = .ok (.getfield 10, 3) ∧ decode cX9_notebook 45 = .ok (.aload_n 0, 1) := by decide +kernel
theorem zcdX9_notebook_46 : decode cX9_notebook 46 = .ok (.getfield 19, 3) ∧ decode cX9_notebook 49 = .ok (.invokevirtual 134, 3) ∧ decode cX9_notebook 52 = .ok (.iload_n 2, 1) ∧ decode cX9_notebook 53 = .ok (.ireturn, 1) ∧ decode cX9_oneMore 0 = .ok (.aload_n 0, 1) ∧ decode cX9_oneMore 1 = .ok (.iload_n 1, 1) ∧ decode cX9_oneMore 2 = .ok (.invokevirtual 175, 3) ∧ decode cX9_oneMore 5 = .ok (.istore_n 3, 1) := by decide +kernel
theorem zcdX9_oneMore_6 : decode cX9_oneMore 6 = .ok (.iload_n 3, 1) ∧ decode cX9_oneMore 7 = .ok (.ifCond .eq 10, 3) ∧ decode cX9_oneMore 10 = .ok (.iload_n 2, 1) ∧ decode cX9_oneMore 11 = .ok (.invokestatic 182, 3) ∧ decode cX9_oneMore 14 = .ok (.ifCond .ne 5, 3) ∧ decode cX9_oneMore 17 = .ok (.iconst (-1), 1) ∧ decode cX9_oneMore 18 = .ok (.ireturn, 1) ∧ decode cX9_oneMore 19 = .ok (.aload_n 0, 1) := by decide +kernel
theorem zcdX9_oneMore_20 : decode cX9_oneMore 20 = .ok (.getfield 39, 3) ∧ decode cX9_oneMore 23 = .ok (.aload_n 0, 1) ∧ decode cX9_oneMore 24 = .ok (.getfield 10, 3) ∧ decode cX9_oneMore 27 = .ok (.iload_n 3, 1) ∧ decode cX9_oneMore 28 = .ok (.iload_n 2, 1) ∧ decode cX9_oneMore 29 = .ok (.invokevirtual 199, 3) ∧ decode cX9_oneMore 32 = .ok (.ireturn, 1) ∧ decode cX9_person 0 = .ok (.iload_n 1, 1) := by decide +kernel
theorem zcdX9_person_1 : decode cX9_person 1 = .ok (.ifCond .lt 16, 3) ∧ decode cX9_person 4 = .ok (.iload_n 1, 1) ∧ decode cX9_person 5 = .ok (.bipush 8, 2) ∧ decode cX9_person 7 = .ok (.if_icmp .ge 10, 3) ∧ decode cX9_person 10 = .ok (.iload_n 2, 1) ∧ decode cX9_person 11 = .ok (.invokestatic 108, 3) ∧ decode cX9_person 14 = .ok (.ifCond .ne 5, 3) ∧ decode cX9_person 17 = .ok (.iconst 0, 1) := by decide +kernel
theorem zcdX9_person_18 : decode cX9_person 18 = .ok (.ireturn, 1) ∧ decode cX9_person 19 = .ok (.aload_n 0, 1) ∧ decode cX9_person 20 = .ok (.getfield 64, 3) ∧ decode cX9_person 23 = .ok (.iload_n 1, 1) ∧ decode cX9_person 24 = .ok (.iload_n 2, 1) ∧ decode cX9_person 25 = .ok (.iastore, 1) ∧ decode cX9_person 26 = .ok (.iconst 1, 1) ∧ decode cX9_person 27 = .ok (.ireturn, 1) := by decide +kernel
theorem zcdX9_seed_0 : decode cX9_seed 0 = .ok (.iload_n 1, 1) ∧ decode cX9_seed 1 = .ok (.ifCond .lt 10, 3) ∧ decode cX9_seed 4 = .ok (.iload_n 1, 1) ∧ decode cX9_seed 5 = .ok (.ldc_w 281, 3) ∧ decode cX9_seed 8 = .ok (.if_icmp .le 5, 3) ∧ decode cX9_seed 11 = .ok (.iconst 0, 1) ∧ decode cX9_seed 12 = .ok (.ireturn, 1) ∧ decode cX9_seed 13 = .ok (.aload_n 0, 1) := by decide +kernel
theorem zcdX9_seed_14 : decode cX9_seed 14 = .ok (.getfield 10, 3) ∧ decode cX9_seed 17 = .ok (.iload_n 1, 1) ∧ decode cX9_seed 18 = .ok (.putfield 282, 3) ∧ decode cX9_seed 21 = .ok (.iconst 1, 1) ∧ decode cX9_seed 22 = .ok (.ireturn, 1) ∧ decode cX9_shape 0 = .ok (.iload_n 1, 1) ∧ decode cX9_shape 1 = .ok (.tableswitch 63 0 3 #[31, 39, 47, 55], 31) ∧ decode cX9_shape 32 = .ok (.aload_n 0, 1) := by decide +kernel
theorem zcdX9_shape_33 : decode cX9_shape 33 = .ok (.getfield 10, 3) ∧ decode cX9_shape 36 = .ok (.invokestatic 250, 3) ∧ decode cX9_shape 39 = .ok (.ireturn, 1) ∧ decode cX9_shape 40 = .ok (.aload_n 0, 1) ∧ decode cX9_shape 41 = .ok (.getfield 10, 3) ∧ decode cX9_shape 44 = .ok (.invokestatic 256, 3) ∧ decode cX9_shape 47 = .ok (.ireturn, 1) ∧ decode cX9_shape 48 = .ok (.aload_n 0, 1) := by decide +kernel
theorem zcdX9_shape_49 : decode cX9_shape 49 = .ok (.getfield 10, 3) ∧ decode cX9_shape 52 = .ok (.invokestatic 259, 3) ∧ decode cX9_shape 55 = .ok (.ireturn, 1) ∧ decode cX9_shape 56 = .ok (.aload_n 0, 1) ∧ decode cX9_shape 57 = .ok (.getfield 10, 3) ∧ decode cX9_shape 60 = .ok (.invokestatic 262, 3) ∧ decode cX9_shape 63 = .ok (.ireturn, 1) ∧ decode cX9_shape 64 = .ok (.iconst (-1), 1) := by decide +kernel
theorem zcdX9_shape_65 : decode cX9_shape 65 = .ok (.ireturn, 1) ∧ decode cX9_stone 0 = .ok (.iload_n 1, 1) ∧ decode cX9_stone 1 = .ok (.invokestatic 82, 3) ∧ decode cX9_stone 4 = .ok (.ifCond .eq 23, 3) ∧ decode cX9_stone 7 = .ok (.iload_n 2, 1) ∧ decode cX9_stone 8 = .ok (.iload_n 3, 1) ∧ decode cX9_stone 9 = .ok (.invokestatic 86, 3) ∧ decode cX9_stone 12 = .ok (.ifCond .eq 15, 3) := by decide +kernel
theorem zcdX9_stone_15 : decode cX9_stone 15 = .ok (.iload 4, 2) ∧ decode cX9_stone 17 = .ok (.ifCond .lt 10, 3) ∧ decode cX9_stone 20 = .ok (.iload 4, 2) ∧ decode cX9_stone 22 = .ok (.bipush 9, 2) ∧ decode cX9_stone 24 = .ok (.if_icmp .le 5, 3) ∧ decode cX9_stone 27 = .ok (.iconst 0, 1) ∧ decode cX9_stone 28 = .ok (.ireturn, 1) ∧ decode cX9_stone 29 = .ok (.aload_n 0, 1) := by decide +kernel
theorem zcdX9_stone_30 : decode cX9_stone 30 = .ok (.getfield 10, 3) ∧ decode cX9_stone 33 = .ok (.iload_n 2, 1) ∧ decode cX9_stone 34 = .ok (.iload_n 3, 1) ∧ decode cX9_stone 35 = .ok (.invokevirtual 90, 3) ∧ decode cX9_stone 38 = .ok (.istore 5, 2) ∧ decode cX9_stone 40 = .ok (.iload 5, 2) ∧ decode cX9_stone 42 = .ok (.iconst (-1), 1) ∧ decode cX9_stone 43 = .ok (.if_icmp .eq 11, 3) := by decide +kernel
theorem zcdX9_stone_46 : decode cX9_stone 46 = .ok (.iload 5, 2) ∧ decode cX9_stone 48 = .ok (.iload_n 1, 1) ∧ decode cX9_stone 49 = .ok (.if_icmp .eq 5, 3) ∧ decode cX9_stone 52 = .ok (.iconst 0, 1) ∧ decode cX9_stone 53 = .ok (.ireturn, 1) ∧ decode cX9_stone 54 = .ok (.aload_n 0, 1) ∧ decode cX9_stone 55 = .ok (.getfield 10, 3) ∧ decode cX9_stone 58 = .ok (.iload_n 1, 1) := by decide +kernel
theorem zcdX9_stone_59 : decode cX9_stone 59 = .ok (.iload_n 2, 1) ∧ decode cX9_stone 60 = .ok (.iload_n 3, 1) ∧ decode cX9_stone 61 = .ok (.iload 4, 2) ∧ decode cX9_stone 63 = .ok (.iconst 0, 1) ∧ decode cX9_stone 64 = .ok (.invokevirtual 94, 3) ∧ decode cX9_stone 67 = .ok (.iconst 1, 1) ∧ decode cX9_stone 68 = .ok (.ireturn, 1) ∧ decode cX9_stoneIs 0 = .ok (.aload_n 0, 1) := by decide +kernel
theorem zcdX9_stoneIs_1 : decode cX9_stoneIs 1 = .ok (.getfield 10, 3) ∧ decode cX9_stoneIs 4 = .ok (.iload_n 1, 1) ∧ decode cX9_stoneIs 5 = .ok (.invokevirtual 98, 3) ∧ decode cX9_stoneIs 8 = .ok (.ifCond .ne 5, 3) ∧ decode cX9_stoneIs 11 = .ok (.iconst (-1), 1) ∧ decode cX9_stoneIs 12 = .ok (.ireturn, 1) ∧ decode cX9_stoneIs 13 = .ok (.iload_n 2, 1) ∧ decode cX9_stoneIs 14 = .ok (.tableswitch 91 0 4 #[34, 44, 54, 64, 82], 34) := by decide +kernel
theorem zcdX9_stoneIs_48 : decode cX9_stoneIs 48 = .ok (.aload_n 0, 1) ∧ decode cX9_stoneIs 49 = .ok (.getfield 10, 3) ∧ decode cX9_stoneIs 52 = .ok (.getfield 152, 3) ∧ decode cX9_stoneIs 55 = .ok (.iload_n 1, 1) ∧ decode cX9_stoneIs 56 = .ok (.iaload, 1) ∧ decode cX9_stoneIs 57 = .ok (.ireturn, 1) ∧ decode cX9_stoneIs 58 = .ok (.aload_n 0, 1) ∧ decode cX9_stoneIs 59 = .ok (.getfield 10, 3) := by decide +kernel
theorem zcdX9_stoneIs_62 : decode cX9_stoneIs 62 = .ok (.getfield 155, 3) ∧ decode cX9_stoneIs 65 = .ok (.iload_n 1, 1) ∧ decode cX9_stoneIs 66 = .ok (.iaload, 1) ∧ decode cX9_stoneIs 67 = .ok (.ireturn, 1) ∧ decode cX9_stoneIs 68 = .ok (.aload_n 0, 1) ∧ decode cX9_stoneIs 69 = .ok (.getfield 10, 3) ∧ decode cX9_stoneIs 72 = .ok (.getfield 168, 3) ∧ decode cX9_stoneIs 75 = .ok (.iload_n 1, 1) := by decide +kernel
theorem zcdX9_stoneIs_76 : decode cX9_stoneIs 76 = .ok (.iaload, 1) ∧ decode cX9_stoneIs 77 = .ok (.ireturn, 1) ∧ decode cX9_stoneIs 78 = .ok (.aload_n 0, 1) ∧ decode cX9_stoneIs 79 = .ok (.getfield 10, 3) ∧ decode cX9_stoneIs 82 = .ok (.getfield 105, 3) ∧ decode cX9_stoneIs 85 = .ok (.iload_n 1, 1) ∧ decode cX9_stoneIs 86 = .ok (.baload, 1) ∧ decode cX9_stoneIs 87 = .ok (.ifCond .eq 7, 3) := by decide +kernel
theorem zcdX9_stoneIs_90 : decode cX9_stoneIs 90 = .ok (.iconst 1, 1) ∧ decode cX9_stoneIs 91 = .ok (.goto 4, 3) ∧ decode cX9_stoneIs 94 = .ok (.iconst 0, 1) ∧ decode cX9_stoneIs 95 = .ok (.ireturn, 1) ∧ decode cX9_stoneIs 96 = .ok (.aload_n 0, 1) ∧ decode cX9_stoneIs 97 = .ok (.getfield 10, 3) ∧ decode cX9_stoneIs 100 = .ok (.iload_n 1, 1) ∧ decode cX9_stoneIs 101 = .ok (.invokevirtual 171, 3) := by decide +kernel
theorem zcdX9_stoneIs_104 : decode cX9_stoneIs 104 = .ok (.ireturn, 1) ∧ decode cX9_stoneIs 105 = .ok (.iconst (-1), 1) ∧ decode cX9_stoneIs 106 = .ok (.ireturn, 1) ∧ decode cX9_take 0 = .ok (.aload_n 0, 1) ∧ decode cX9_take 1 = .ok (.getfield 10, 3) ∧ decode cX9_take 4 = .ok (.iload_n 1, 1) ∧ decode cX9_take 5 = .ok (.invokevirtual 98, 3) ∧ decode cX9_take 8 = .ok (.ifCond .ne 5, 3) := by decide +kernel
theorem zcdX9_take_11 : decode cX9_take 11 = .ok (.iconst 0, 1) ∧ decode cX9_take 12 = .ok (.ireturn, 1) ∧ decode cX9_take 13 = .ok (.aload_n 0, 1) ∧ decode cX9_take 14 = .ok (.getfield 10, 3) ∧ decode cX9_take 17 = .ok (.getfield 101, 3) ∧ decode cX9_take 20 = .ok (.iload_n 1, 1) ∧ decode cX9_take 21 = .ok (.iconst 0, 1) ∧ decode cX9_take 22 = .ok (.bastore, 1) := by decide +kernel
theorem zcdX9_take_23 : decode cX9_take 23 = .ok (.iconst 1, 1) ∧ decode cX9_take 24 = .ok (.ireturn, 1) ∧ decode cX9_thrown 0 = .ok (.iload_n 1, 1) ∧ decode cX9_thrown 1 = .ok (.iconst 1, 1) ∧ decode cX9_thrown 2 = .ok (.if_icmp .lt 9, 3) ∧ decode cX9_thrown 5 = .ok (.iload_n 1, 1) ∧ decode cX9_thrown 6 = .ok (.bipush 6, 2) ∧ decode cX9_thrown 8 = .ok (.if_icmp .le 5, 3) := by decide +kernel
theorem zcdX9_thrown_11 : decode cX9_thrown 11 = .ok (.iconst (-1), 1) ∧ decode cX9_thrown 12 = .ok (.ireturn, 1) ∧ decode cX9_thrown 13 = .ok (.aload_n 0, 1) ∧ decode cX9_thrown 14 = .ok (.getfield 10, 3) ∧ decode cX9_thrown 17 = .ok (.iconst 0, 1) ∧ decode cX9_thrown 18 = .ok (.invokevirtual 274, 3) ∧ decode cX9_thrown 21 = .ok (.istore_n 2, 1) ∧ decode cX9_thrown 22 = .ok (.iload_n 2, 1) := by decide +kernel
theorem zcdX9_thrown_23 : decode cX9_thrown 23 = .ok (.istore_n 3, 1) ∧ decode cX9_thrown 24 = .ok (.iconst 1, 1) ∧ decode cX9_thrown 25 = .ok (.istore 4, 2) ∧ decode cX9_thrown 27 = .ok (.iload 4, 2) ∧ decode cX9_thrown 29 = .ok (.iload_n 1, 1) ∧ decode cX9_thrown 30 = .ok (.if_icmp .ge 25, 3) ∧ decode cX9_thrown 33 = .ok (.iload_n 3, 1) ∧ decode cX9_thrown 34 = .ok (.iconst (-1), 1) := by decide +kernel
theorem zcdX9_thrown_35 : decode cX9_thrown 35 = .ok (.if_icmp .eq 20, 3) ∧ decode cX9_thrown 38 = .ok (.aload_n 0, 1) ∧ decode cX9_thrown 39 = .ok (.getfield 10, 3) ∧ decode cX9_thrown 42 = .ok (.iload_n 3, 1) ∧ decode cX9_thrown 43 = .ok (.iconst 1, 1) ∧ decode cX9_thrown 44 = .ok (.iadd, 1) ∧ decode cX9_thrown 45 = .ok (.invokevirtual 274, 3) ∧ decode cX9_thrown 48 = .ok (.istore_n 3, 1) := by decide +kernel
theorem zcdX9_thrown_49 : decode cX9_thrown 49 = .ok (.iinc 4 1, 3) ∧ decode cX9_thrown 52 = .ok (.goto (-25), 3) ∧ decode cX9_thrown 55 = .ok (.iload_n 3, 1) ∧ decode cX9_thrown 56 = .ok (.iconst (-1), 1) ∧ decode cX9_thrown 57 = .ok (.if_icmp .ne 6, 3) ∧ decode cX9_thrown 60 = .ok (.bipush (-2), 2) ∧ decode cX9_thrown 62 = .ok (.ireturn, 1) ∧ decode cX9_thrown 63 = .ok (.aload_n 0, 1) := by decide +kernel
theorem zcdX9_thrown_64 : decode cX9_thrown 64 = .ok (.getfield 10, 3) ∧ decode cX9_thrown 67 = .ok (.iload_n 2, 1) ∧ decode cX9_thrown 68 = .ok (.lconst 1, 1) ∧ decode cX9_thrown 69 = .ok (.iload_n 2, 1) ∧ decode cX9_thrown 70 = .ok (.lshl, 1) ∧ decode cX9_thrown 71 = .ok (.iload_n 3, 1) ∧ decode cX9_thrown 72 = .ok (.iload_n 1, 1) ∧ decode cX9_thrown 73 = .ok (.iconst 1, 1) := by decide +kernel
theorem zcdX9_thrown_74 : decode cX9_thrown 74 = .ok (.isub, 1) ∧ decode cX9_thrown 75 = .ok (.invokestatic 277, 3) ∧ decode cX9_thrown 78 = .ok (.ireturn, 1) ∧ decode cX9_tried 0 = .ok (.iload_n 2, 1) ∧ decode cX9_tried 1 = .ok (.bipush 100, 2) ∧ decode cX9_tried 3 = .ok (.if_icmp .lt 21, 3) ∧ decode cX9_tried 6 = .ok (.aload_n 0, 1) ∧ decode cX9_tried 7 = .ok (.getfield 10, 3) := by decide +kernel
theorem zcdX9_tried_10 : decode cX9_tried 10 = .ok (.iload_n 2, 1) ∧ decode cX9_tried 11 = .ok (.bipush 100, 2) ∧ decode cX9_tried 13 = .ok (.isub, 1) ∧ decode cX9_tried 14 = .ok (.invokevirtual 98, 3) ∧ decode cX9_tried 17 = .ok (.ifCond .eq 7, 3) ∧ decode cX9_tried 20 = .ok (.iconst 1, 1) ∧ decode cX9_tried 21 = .ok (.goto 4, 3) ∧ decode cX9_tried 24 = .ok (.iconst 0, 1) := by decide +kernel
theorem zcdX9_tried_25 : decode cX9_tried 25 = .ok (.istore_n 3, 1) ∧ decode cX9_tried 26 = .ok (.iload_n 2, 1) ∧ decode cX9_tried 27 = .ok (.sipush 200, 3) ∧ decode cX9_tried 30 = .ok (.if_icmp .lt 22, 3) ∧ decode cX9_tried 33 = .ok (.aload_n 0, 1) ∧ decode cX9_tried 34 = .ok (.getfield 10, 3) ∧ decode cX9_tried 37 = .ok (.iload_n 2, 1) ∧ decode cX9_tried 38 = .ok (.sipush 200, 3) := by decide +kernel
theorem zcdX9_tried_41 : decode cX9_tried 41 = .ok (.isub, 1) ∧ decode cX9_tried 42 = .ok (.invokevirtual 98, 3) ∧ decode cX9_tried 45 = .ok (.ifCond .eq 7, 3) ∧ decode cX9_tried 48 = .ok (.iconst 1, 1) ∧ decode cX9_tried 49 = .ok (.goto 4, 3) ∧ decode cX9_tried 52 = .ok (.iconst 0, 1) ∧ decode cX9_tried 53 = .ok (.istore 4, 2) ∧ decode cX9_tried 55 = .ok (.iload_n 1, 1) := by decide +kernel
theorem zcdX9_tried_56 : decode cX9_tried 56 = .ok (.invokestatic 138, 3) ∧ decode cX9_tried 59 = .ok (.ifCond .eq 21, 3) ∧ decode cX9_tried 62 = .ok (.iload_n 2, 1) ∧ decode cX9_tried 63 = .ok (.ifCond .lt 8, 3) ∧ decode cX9_tried 66 = .ok (.iload_n 2, 1) ∧ decode cX9_tried 67 = .ok (.iconst 3, 1) ∧ decode cX9_tried 68 = .ok (.if_icmp .le 15, 3) ∧ decode cX9_tried 71 = .ok (.iload_n 3, 1) := by decide +kernel
theorem zcdX9_tried_72 : decode cX9_tried 72 = .ok (.ifCond .ne 11, 3) ∧ decode cX9_tried 75 = .ok (.iload 4, 2) ∧ decode cX9_tried 77 = .ok (.ifCond .ne 6, 3) ∧ decode cX9_tried 80 = .ok (.ldc 148, 2) ∧ decode cX9_tried 82 = .ok (.ireturn, 1) ∧ decode cX9_tried 83 = .ok (.aload_n 0, 1) ∧ decode cX9_tried 84 = .ok (.getfield 19, 3) ∧ decode cX9_tried 87 = .ok (.aload_n 0, 1) := by decide +kernel
theorem zcdX9_tried_88 : decode cX9_tried 88 = .ok (.getfield 10, 3) ∧ decode cX9_tried 91 = .ok (.invokevirtual 149, 3) ∧ decode cX9_tried 94 = .ok (.aload_n 0, 1) ∧ decode cX9_tried 95 = .ok (.getfield 32, 3) ∧ decode cX9_tried 98 = .ok (.aload_n 0, 1) ∧ decode cX9_tried 99 = .ok (.getfield 19, 3) ∧ decode cX9_tried 102 = .ok (.aload_n 0, 1) ∧ decode cX9_tried 103 = .ok (.getfield 71, 3) := by decide +kernel
theorem zcdX9_tried_106 : decode cX9_tried 106 = .ok (.iload_n 1, 1) ∧ decode cX9_tried 107 = .ok (.invokevirtual 141, 3) ∧ decode cX9_tried 110 = .ok (.iload_n 3, 1) ∧ decode cX9_tried 111 = .ok (.ifCond .eq 16, 3) ∧ decode cX9_tried 114 = .ok (.aload_n 0, 1) ∧ decode cX9_tried 115 = .ok (.getfield 19, 3) ∧ decode cX9_tried 118 = .ok (.getfield 152, 3) ∧ decode cX9_tried 121 = .ok (.iload_n 2, 1) := by decide +kernel
theorem zcdX9_tried_122 : decode cX9_tried 122 = .ok (.bipush 100, 2) ∧ decode cX9_tried 124 = .ok (.isub, 1) ∧ decode cX9_tried 125 = .ok (.iaload, 1) ∧ decode cX9_tried 126 = .ok (.ireturn, 1) ∧ decode cX9_tried 127 = .ok (.iload 4, 2) ∧ decode cX9_tried 129 = .ok (.ifCond .eq 17, 3) ∧ decode cX9_tried 132 = .ok (.aload_n 0, 1) ∧ decode cX9_tried 133 = .ok (.getfield 19, 3) := by decide +kernel
theorem zcdX9_tried_136 : decode cX9_tried 136 = .ok (.getfield 155, 3) ∧ decode cX9_tried 139 = .ok (.iload_n 2, 1) ∧ decode cX9_tried 140 = .ok (.sipush 200, 3) ∧ decode cX9_tried 143 = .ok (.isub, 1) ∧ decode cX9_tried 144 = .ok (.iaload, 1) ∧ decode cX9_tried 145 = .ok (.ireturn, 1) ∧ decode cX9_tried 146 = .ok (.iload_n 2, 1) ∧ decode cX9_tried 147 = .ok (.tableswitch 49 0 2 #[25, 33, 41], 25) := by decide +kernel
theorem zcdX9_tried_172 : decode cX9_tried 172 = .ok (.aload_n 0, 1) ∧ decode cX9_tried 173 = .ok (.getfield 32, 3) ∧ decode cX9_tried 176 = .ok (.getfield 145, 3) ∧ decode cX9_tried 179 = .ok (.ireturn, 1) ∧ decode cX9_tried 180 = .ok (.aload_n 0, 1) ∧ decode cX9_tried 181 = .ok (.getfield 32, 3) ∧ decode cX9_tried 184 = .ok (.getfield 158, 3) ∧ decode cX9_tried 187 = .ok (.ireturn, 1) := by decide +kernel
theorem zcdX9_tried_188 : decode cX9_tried 188 = .ok (.aload_n 0, 1) ∧ decode cX9_tried 189 = .ok (.getfield 19, 3) ∧ decode cX9_tried 192 = .ok (.invokevirtual 161, 3) ∧ decode cX9_tried 195 = .ok (.ireturn, 1) ∧ decode cX9_tried 196 = .ok (.aload_n 0, 1) ∧ decode cX9_tried 197 = .ok (.getfield 19, 3) ∧ decode cX9_tried 200 = .ok (.invokevirtual 165, 3) ∧ decode cX9_tried 203 = .ok (.aload_n 0, 1) := by decide +kernel
theorem zcdX9_tried_204 : decode cX9_tried 204 = .ok (.getfield 10, 3) ∧ decode cX9_tried 207 = .ok (.invokevirtual 165, 3) ∧ decode cX9_tried 210 = .ok (.isub, 1) ∧ decode cX9_tried 211 = .ok (.ireturn, 1) ∧ decode cX9_under 0 = .ok (.aload_n 0, 1) ∧ decode cX9_under 1 = .ok (.getfield 10, 3) ∧ decode cX9_under 4 = .ok (.iload_n 1, 1) ∧ decode cX9_under 5 = .ok (.invokevirtual 98, 3) := by decide +kernel
theorem zcdX9_under_8 : decode cX9_under 8 = .ok (.ifCond .ne 5, 3) ∧ decode cX9_under 11 = .ok (.iconst 0, 1) ∧ decode cX9_under 12 = .ok (.ireturn, 1) ∧ decode cX9_under 13 = .ok (.aload_n 0, 1) ∧ decode cX9_under 14 = .ok (.getfield 10, 3) ∧ decode cX9_under 17 = .ok (.getfield 105, 3) ∧ decode cX9_under 20 = .ok (.iload_n 1, 1) ∧ decode cX9_under 21 = .ok (.iload_n 2, 1) := by decide +kernel
theorem zcdX9_under_22 : decode cX9_under 22 = .ok (.bastore, 1) ∧ decode cX9_under 23 = .ok (.iconst 1, 1) ∧ decode cX9_under 24 = .ok (.ireturn, 1) ∧ decode cX9_undo 0 = .ok (.aload_n 0, 1) ∧ decode cX9_undo 1 = .ok (.getfield 78, 3) ∧ decode cX9_undo 4 = .ok (.ifCond .eq 14, 3) ∧ decode cX9_undo 7 = .ok (.aload_n 0, 1) ∧ decode cX9_undo 8 = .ok (.getfield 10, 3) := by decide +kernel
theorem zcdX9_undo_11 : decode cX9_undo 11 = .ok (.aload_n 0, 1) ∧ decode cX9_undo 12 = .ok (.getfield 16, 3) ∧ decode cX9_undo 15 = .ok (.invokevirtual 149, 3) ∧ decode cX9_undo 18 = .ok (.aload_n 0, 1) ∧ decode cX9_undo 19 = .ok (.getfield 78, 3) ∧ decode cX9_undo 22 = .ok (.ireturn, 1) ∧ decode cX9_walk 0 = .ok (.aload_n 0, 1) ∧ decode cX9_walk 1 = .ok (.iload_n 1, 1) := by decide +kernel
theorem zcdX9_walk_2 : decode cX9_walk 2 = .ok (.invokevirtual 175, 3) ∧ decode cX9_walk 5 = .ok (.istore 5, 2) ∧ decode cX9_walk 7 = .ok (.iload 5, 2) ∧ decode cX9_walk 9 = .ok (.ifCond .eq 38, 3) ∧ decode cX9_walk 12 = .ok (.iload_n 2, 1) ∧ decode cX9_walk 13 = .ok (.ifCond .lt 34, 3) ∧ decode cX9_walk 16 = .ok (.iload_n 2, 1) ∧ decode cX9_walk 17 = .ok (.bipush 39, 2) := by decide +kernel
theorem zcdX9_walk_19 : decode cX9_walk 19 = .ok (.if_icmp .gt 28, 3) ∧ decode cX9_walk 22 = .ok (.iload 4, 2) ∧ decode cX9_walk 24 = .ok (.ifCond .lt 23, 3) ∧ decode cX9_walk 27 = .ok (.iload 4, 2) ∧ decode cX9_walk 29 = .ok (.iconst 3, 1) ∧ decode cX9_walk 30 = .ok (.if_icmp .gt 17, 3) ∧ decode cX9_walk 33 = .ok (.aload_n 0, 1) ∧ decode cX9_walk 34 = .ok (.getfield 25, 3) := by decide +kernel
theorem zcdX9_walk_37 : decode cX9_walk 37 = .ok (.iload_n 3, 1) ∧ decode cX9_walk 38 = .ok (.iconst 1, 1) ∧ decode cX9_walk 39 = .ok (.bipush 60, 2) ∧ decode cX9_walk 41 = .ok (.invokevirtual 119, 3) ∧ decode cX9_walk 44 = .ok (.ifCond .ne 5, 3) ∧ decode cX9_walk 47 = .ok (.iconst (-1), 1) ∧ decode cX9_walk 48 = .ok (.ireturn, 1) ∧ decode cX9_walk 49 = .ok (.aload_n 0, 1) := by decide +kernel
theorem zcdX9_walk_50 : decode cX9_walk 50 = .ok (.getfield 25, 3) ∧ decode cX9_walk 53 = .ok (.iload_n 3, 1) ∧ decode cX9_walk 54 = .ok (.invokevirtual 123, 3) ∧ decode cX9_walk 57 = .ok (.aload_n 0, 1) ∧ decode cX9_walk 58 = .ok (.getfield 53, 3) ∧ decode cX9_walk 61 = .ok (.aload_n 0, 1) ∧ decode cX9_walk 62 = .ok (.getfield 25, 3) ∧ decode cX9_walk 65 = .ok (.invokevirtual 216, 3) := by decide +kernel
theorem zcdX9_walk_68 : decode cX9_walk 68 = .ok (.ifCond .ne 11, 3) ∧ decode cX9_walk 71 = .ok (.aload_n 0, 1) ∧ decode cX9_walk 72 = .ok (.getfield 25, 3) ∧ decode cX9_walk 75 = .ok (.getfield 220, 3) ∧ decode cX9_walk 78 = .ok (.ireturn, 1) ∧ decode cX9_walk 79 = .ok (.aload_n 0, 1) ∧ decode cX9_walk 80 = .ok (.getfield 53, 3) ∧ decode cX9_walk 83 = .ok (.aload_n 0, 1) := by decide +kernel
theorem zcdX9_walk_84 : decode cX9_walk 84 = .ok (.getfield 10, 3) ∧ decode cX9_walk 87 = .ok (.iload 5, 2) ∧ decode cX9_walk 89 = .ok (.iload_n 2, 1) ∧ decode cX9_walk 90 = .ok (.invokevirtual 223, 3) ∧ decode cX9_walk 93 = .ok (.iload 4, 2) ∧ decode cX9_walk 95 = .ok (.tableswitch 49 0 2 #[25, 33, 41], 25) ∧ decode cX9_walk 120 = .ok (.aload_n 0, 1) ∧ decode cX9_walk 121 = .ok (.getfield 53, 3) := by decide +kernel
theorem zcdX9_walk_124 : decode cX9_walk 124 = .ok (.getfield 227, 3) ∧ decode cX9_walk 127 = .ok (.ireturn, 1) ∧ decode cX9_walk 128 = .ok (.aload_n 0, 1) ∧ decode cX9_walk 129 = .ok (.getfield 53, 3) ∧ decode cX9_walk 132 = .ok (.getfield 230, 3) ∧ decode cX9_walk 135 = .ok (.ireturn, 1) ∧ decode cX9_walk 136 = .ok (.aload_n 0, 1) ∧ decode cX9_walk 137 = .ok (.getfield 53, 3) := by decide +kernel
theorem zcdX9_walk_140 : decode cX9_walk 140 = .ok (.getfield 232, 3) ∧ decode cX9_walk 143 = .ok (.ireturn, 1) ∧ decode cX9_walk 144 = .ok (.aload_n 0, 1) ∧ decode cX9_walk 145 = .ok (.getfield 53, 3) ∧ decode cX9_walk 148 = .ok (.getfield 230, 3) ∧ decode cX9_walk 151 = .ok (.bipush 21, 2) ∧ decode cX9_walk 153 = .ok (.if_icmp .ne 7, 3) ∧ decode cX9_walk 156 = .ok (.iconst 1, 1) := by decide +kernel
theorem zcdX9_walk_157 : decode cX9_walk 157 = .ok (.goto 4, 3) ∧ decode cX9_walk 160 = .ok (.iconst 0, 1) ∧ decode cX9_walk 161 = .ok (.ireturn, 1) := by decide +kernel
set_option maxHeartbeats 4000000 in
theorem t_X9_notebook (v1 : Int32) (M : Mem) : AXi yX9_notebook cX9_notebook 3 (some .int) 4 60 glC (fun ad => [.ref (ad 0), .int v1]) M (f_X9_notebook M v1) := by
  intro r0 h
  refine AM.of (by decide) (fun _ => Nat.le_of_ble_eq_true rfl) (fun X ad cI cZ cB hX hR => ?_)
  show V X M [(0, .ref (ad 0)), (1, .int v1)] [] 0
  refine s_aload_n (k := 0) hX zcdX9_notebook_0.1 rfl rfl ?_
  refine s_get hX fX9_25 oC0 rfl zcdX9_notebook_0.2.1 ?_
  refine s_iload_n (k := 1) hX zcdX9_notebook_0.2.2.1 rfl rfl ?_
  refine s_iconst (v := (nI 1)) hX zcdX9_notebook_0.2.2.2.1 (by decide) ?_
  refine s_sipush (v := (nI 200)) hX zcdX9_notebook_0.2.2.2.2.1 (by decide) ?_
  refine e_callVp hX (t_X7_holds v1 (nI 1) (nI 200) M) mX7_holds lX9_119 (by decide) (by decide) oC19 rfl rfl rfl rfl rfl (Nat.le_of_ble_eq_true rfl) zcdX9_notebook_0.2.2.2.2.2.1 h (fun r_1 h => ?_)
  refine e_if_ne (tgt := 17) hX zcdX9_notebook_0.2.2.2.2.2.2.1 (by decide) z_eq h (fun h => ?_) (fun h => ?_)
  · refine s_aload_n (k := 0) hX zcdX9_notebook_16.2.1 rfl rfl ?_
    refine s_get hX fX9_25 oC0 rfl zcdX9_notebook_16.2.2.1 ?_
    refine s_iload_n (k := 1) hX zcdX9_notebook_16.2.2.2.1 rfl rfl ?_
    refine e_callVv hX (t_X7_open v1 M) mX7_open lX9_123 (by decide) (by decide) oC19 rfl rfl rfl rfl rfl (Nat.le_of_ble_eq_true rfl) zcdX9_notebook_16.2.2.2.2.1 h (fun M_2 h => ?_)
    refine s_aload_n (k := 0) hX zcdX9_notebook_16.2.2.2.2.2.1 rfl rfl ?_
    refine s_get hX fX9_25 oC0 rfl zcdX9_notebook_16.2.2.2.2.2.2.1 ?_
    refine s_aload_n (k := 0) hX zcdX9_notebook_16.2.2.2.2.2.2.2 rfl rfl ?_
    refine s_get hX fX9_19 oC0 rfl zcdX9_notebook_30.1 ?_
    refine e_callSi hX (t_X9_readNotebook 13 (Or.inr (Or.inr rfl)) M_2) mX9_readNotebook lX9_130 (by decide) (by decide) rfl rfl (Nat.le_of_ble_eq_true rfl) zcdX9_notebook_30.2.1 h (fun r_3 M_4 h => ?_)
    refine s_istore_n (lv' := [(0, .ref (ad 0)), (1, .int v1), (2, .int r_3)]) hX zcdX9_notebook_30.2.2.1 rfl (by decide) rfl ?_
    refine s_iload_n (k := 2) hX zcdX9_notebook_30.2.2.2.1 rfl rfl ?_
    refine e_if_le (tgt := 52) hX zcdX9_notebook_30.2.2.2.2.1 (by decide) z_le h (fun h => ?_) (fun h => ?_)
    · refine s_iload_n (k := 2) hX zcdX9_notebook_46.2.2.1 rfl rfl ?_
      exact e_ireti hX hR zcdX9_notebook_46.2.2.2.1 h
    · refine s_aload_n (k := 0) hX zcdX9_notebook_30.2.2.2.2.2.1 rfl rfl ?_
      refine s_get hX fX9_10 oC0 rfl zcdX9_notebook_30.2.2.2.2.2.2.1 ?_
      refine s_aload_n (k := 0) hX zcdX9_notebook_30.2.2.2.2.2.2.2 rfl rfl ?_
      refine s_get hX fX9_19 oC0 rfl zcdX9_notebook_46.1 ?_
      refine e_callVv hX (t_X2_copyStones 1 (Or.inl rfl) 13 (Or.inr (Or.inr rfl)) M_4) mX2_copyStones lX9_134 (by decide) (by decide) oC1 rfl rfl rfl rfl rfl (Nat.le_of_ble_eq_true rfl) zcdX9_notebook_46.2.1 h (fun M_5 h => ?_)
      refine s_iload_n (k := 2) hX zcdX9_notebook_46.2.2.1 rfl rfl ?_
      exact e_ireti hX hR zcdX9_notebook_46.2.2.2.1 h
  · refine s_iconst (v := (-1)) hX zcdX9_notebook_0.2.2.2.2.2.2.2 (by decide) ?_
    exact e_ireti hX hR zcdX9_notebook_16.1 h
set_option maxHeartbeats 4000000 in
theorem t_X9_oneMore (v1 : Int32) (v2 : Int32) (M : Mem) : AXi yX9_oneMore cX9_oneMore 4 (some .int) 7 60 glC (fun ad => [.ref (ad 0), .int v1, .int v2]) M (f_X9_oneMore M v1 v2) := by
  intro r0 h
  refine AM.of (by decide) (fun _ => Nat.le_of_ble_eq_true rfl) (fun X ad cI cZ cB hX hR => ?_)
  show V X M [(0, .ref (ad 0)), (1, .int v1), (2, .int v2)] [] 0
  refine s_aload_n (k := 0) hX zcdX9_notebook_46.2.2.2.2.1 rfl rfl ?_
  refine s_iload_n (k := 1) hX zcdX9_notebook_46.2.2.2.2.2.1 rfl rfl ?_
  refine e_callVp hX (t_X9_strideOf v1 M) mX9_strideOf lX9_175 (by decide) (by decide) oC0 rfl rfl rfl rfl rfl (Nat.le_of_ble_eq_true rfl) zcdX9_notebook_46.2.2.2.2.2.2.1 h (fun r_1 h => ?_)
  refine s_istore_n (lv' := [(0, .ref (ad 0)), (1, .int v1), (2, .int v2), (3, .int r_1)]) hX zcdX9_notebook_46.2.2.2.2.2.2.2 rfl (by decide) rfl ?_
  refine s_iload_n (k := 3) hX zcdX9_oneMore_6.1 rfl rfl ?_
  refine e_if_eq (tgt := 17) hX zcdX9_oneMore_6.2.1 (by decide) z_eq h (fun h => ?_) (fun h => ?_)
  · refine s_iconst (v := (-1)) hX zcdX9_oneMore_6.2.2.2.2.2.1 (by decide) ?_
    exact e_ireti hX hR zcdX9_oneMore_6.2.2.2.2.2.2.1 h
  · refine s_iload_n (k := 2) hX zcdX9_oneMore_6.2.2.1 rfl rfl ?_
    refine e_callSp hX (t_X9_isEither v2 M) mX9_isEither lX9_182 (by decide) (by decide) rfl rfl (Nat.le_of_ble_eq_true rfl) zcdX9_oneMore_6.2.2.2.1 h (fun r_2 h => ?_)
    refine e_if_ne (tgt := 19) hX zcdX9_oneMore_6.2.2.2.2.1 (by decide) z_eq h (fun h => ?_) (fun h => ?_)
    · refine s_aload_n (k := 0) hX zcdX9_oneMore_6.2.2.2.2.2.2.2 rfl rfl ?_
      refine s_get hX fX9_39 oC0 rfl zcdX9_oneMore_20.1 ?_
      refine s_aload_n (k := 0) hX zcdX9_oneMore_20.2.1 rfl rfl ?_
      refine s_get hX fX9_10 oC0 rfl zcdX9_oneMore_20.2.2.1 ?_
      refine s_iload_n (k := 3) hX zcdX9_oneMore_20.2.2.2.1 rfl rfl ?_
      refine s_iload_n (k := 2) hX zcdX9_oneMore_20.2.2.2.2.1 rfl rfl ?_
      refine e_callVi hX (t_X8_helpfulPlace 1 (Or.inl rfl) r_1 v2 M) mX8_helpfulPlace lX9_199 (by decide) (by decide) oC23 rfl rfl rfl rfl rfl (Nat.le_of_ble_eq_true rfl) zcdX9_oneMore_20.2.2.2.2.2.1 h (fun r_3 M_4 h => ?_)
      exact e_ireti hX hR zcdX9_oneMore_20.2.2.2.2.2.2.1 h
    · refine s_iconst (v := (-1)) hX zcdX9_oneMore_6.2.2.2.2.2.1 (by decide) ?_
      exact e_ireti hX hR zcdX9_oneMore_6.2.2.2.2.2.2.1 h
set_option maxHeartbeats 4000000 in
theorem t_X9_person (v1 : Int32) (v2 : Int32) (M : Mem) : AXi yX9_person cX9_person 3 (some .boolean) 1 60 glC (fun ad => [.ref (ad 0), .int v1, .int v2]) M (f_X9_person M v1 v2) := by
  intro r0 h
  refine AM.of (by decide) (fun _ => Nat.le_of_ble_eq_true rfl) (fun X ad cI cZ cB hX hR => ?_)
  show V X M [(0, .ref (ad 0)), (1, .int v1), (2, .int v2)] [] 0
  refine s_iload_n (k := 1) hX zcdX9_oneMore_20.2.2.2.2.2.2.2 rfl rfl ?_
  refine e_if_lt (tgt := 17) hX zcdX9_person_1.1 (by decide) z_lt h (fun h => ?_) (fun h => ?_)
  · refine s_iconst (v := (nI 0)) hX zcdX9_person_1.2.2.2.2.2.2.2 (by decide) ?_
    exact e_zretiL hX hR zcdX9_person_18.1 (by decide) h
  · refine s_iload_n (k := 1) hX zcdX9_person_1.2.1 rfl rfl ?_
    refine s_bipush (v := (nI 8)) hX zcdX9_person_1.2.2.1 (by decide) ?_
    refine e_icmp_ge (tgt := 17) hX zcdX9_person_1.2.2.2.1 (by decide) (m_ge (by decide +kernel)) h (fun h => ?_) (fun h => ?_)
    · refine s_iconst (v := (nI 0)) hX zcdX9_person_1.2.2.2.2.2.2.2 (by decide) ?_
      exact e_zretiL hX hR zcdX9_person_18.1 (by decide) h
    · refine s_iload_n (k := 2) hX zcdX9_person_1.2.2.2.2.1 rfl rfl ?_
      refine e_callSp hX (t_X9_isStride v2 M) mX9_isStride lX9_108 (by decide) (by decide) rfl rfl (Nat.le_of_ble_eq_true rfl) zcdX9_person_1.2.2.2.2.2.1 h (fun r_1 h => ?_)
      refine e_if_ne (tgt := 19) hX zcdX9_person_1.2.2.2.2.2.2.1 (by decide) z_eq h (fun h => ?_) (fun h => ?_)
      · refine s_aload_n (k := 0) hX zcdX9_person_18.2.1 rfl rfl ?_
        refine s_get hX fX9_64 oC0 rfl zcdX9_person_18.2.2.1 ?_
        refine s_iload_n (k := 1) hX zcdX9_person_18.2.2.2.1 rfl rfl ?_
        refine s_iload_n (k := 2) hX zcdX9_person_18.2.2.2.2.1 rfl rfl ?_
        refine e_iast hX aC43 zcdX9_person_18.2.2.2.2.2.1 h (fun h => ?_)
        refine e_bndM h (fun M_2 h => ?_)
        refine s_iconst (v := (nI 1)) hX zcdX9_person_18.2.2.2.2.2.2.1 (by decide) ?_
        exact e_zretiL hX hR zcdX9_person_18.2.2.2.2.2.2.2 (by decide) h
      · refine s_iconst (v := (nI 0)) hX zcdX9_person_1.2.2.2.2.2.2.2 (by decide) ?_
        exact e_zretiL hX hR zcdX9_person_18.1 (by decide) h
set_option maxHeartbeats 4000000 in
theorem t_X9_seed (v1 : Int32) (M : Mem) : AXi yX9_seed cX9_seed 2 (some .boolean) 0 60 glC (fun ad => [.ref (ad 0), .int v1]) M (f_X9_seed M v1) := by
  intro r0 h
  refine AM.of (by decide) (fun _ => Nat.le_of_ble_eq_true rfl) (fun X ad cI cZ cB hX hR => ?_)
  show V X M [(0, .ref (ad 0)), (1, .int v1)] [] 0
  refine s_iload_n (k := 1) hX zcdX9_seed_0.1 rfl rfl ?_
  refine e_if_lt (tgt := 11) hX zcdX9_seed_0.2.1 (by decide) z_lt h (fun h => ?_) (fun h => ?_)
  · refine s_iconst (v := (nI 0)) hX zcdX9_seed_0.2.2.2.2.2.1 (by decide) ?_
    exact e_zretiL hX hR zcdX9_seed_0.2.2.2.2.2.2.1 (by decide) h
  · refine s_iload_n (k := 1) hX zcdX9_seed_0.2.2.1 rfl rfl ?_
    refine s_ldcw (v := (nI 65535)) hX kX9_281 zcdX9_seed_0.2.2.2.1 ?_
    refine e_icmp_le (tgt := 13) hX zcdX9_seed_0.2.2.2.2.1 (by decide) (m_le (by decide +kernel)) h (fun h => ?_) (fun h => ?_)
    · refine s_aload_n (k := 0) hX zcdX9_seed_0.2.2.2.2.2.2.2 rfl rfl ?_
      refine s_get hX fX9_10 oC0 rfl zcdX9_seed_14.1 ?_
      refine s_iload_n (k := 1) hX zcdX9_seed_14.2.1 rfl rfl ?_
      refine s_puti (ty := .int) hX fX9_282 oC1 rfl (Nat.le_of_ble_eq_true rfl) ty_2_6 rfl rfl zcdX9_seed_14.2.2.1 ?_
      refine e_bndM h (fun M_1 h => ?_)
      refine s_iconst (v := (nI 1)) hX zcdX9_seed_14.2.2.2.1 (by decide) ?_
      exact e_zretiL hX hR zcdX9_seed_14.2.2.2.2.1 (by decide) h
    · refine s_iconst (v := (nI 0)) hX zcdX9_seed_0.2.2.2.2.2.1 (by decide) ?_
      exact e_zretiL hX hR zcdX9_seed_0.2.2.2.2.2.2.1 (by decide) h
set_option maxHeartbeats 4000000 in
theorem t_X9_shape (v1 : Int32) (M : Mem) : AXp yX9_shape cX9_shape 2 (some .int) 4 60 glC (fun ad => [.ref (ad 0), .int v1]) M (f_X9_shape M v1) := by
  intro r0 h
  refine AM.of (by decide) (fun _ => Nat.le_of_ble_eq_true rfl) (fun X ad cI cZ cB hX hR => ?_)
  show V X M [(0, .ref (ad 0)), (1, .int v1)] [] 0
  refine s_iload_n (k := 1) hX zcdX9_seed_14.2.2.2.2.2.1 rfl rfl ?_
  refine e_if h (fun c0 h => ?_) (fun c0 h => ?_)
  · refine s_tabIn (tgt := 32) (off := 31) hX zcdX9_seed_14.2.2.2.2.2.2.1 (by omega) (by omega) (by rw [c0]; rfl) (by decide) ?_
    refine s_aload_n (k := 0) hX zcdX9_seed_14.2.2.2.2.2.2.2 rfl rfl ?_
    refine s_get hX fX9_10 oC0 rfl zcdX9_shape_33.1 ?_
    refine e_callSp hX (t_X6_line 1 (Or.inl rfl) M) mX6_line lX9_250 (by decide) (by decide) rfl rfl (Nat.le_of_ble_eq_true rfl) zcdX9_shape_33.2.1 h (fun r_1 h => ?_)
    exact e_iretp hX hR zcdX9_shape_33.2.2.1 h
  refine e_if h (fun c1 h => ?_) (fun c1 h => ?_)
  · refine s_tabIn (tgt := 40) (off := 39) hX zcdX9_seed_14.2.2.2.2.2.2.1 (by omega) (by omega) (by rw [c1]; rfl) (by decide) ?_
    refine s_aload_n (k := 0) hX zcdX9_shape_33.2.2.2.1 rfl rfl ?_
    refine s_get hX fX9_10 oC0 rfl zcdX9_shape_33.2.2.2.2.1 ?_
    refine e_callSp hX (t_X6_yardApart 1 (Or.inl rfl) M) mX6_yardApart lX9_256 (by decide) (by decide) rfl rfl (Nat.le_of_ble_eq_true rfl) zcdX9_shape_33.2.2.2.2.2.1 h (fun r_2 h => ?_)
    exact e_iretp hX hR zcdX9_shape_33.2.2.2.2.2.2.1 h
  refine e_if h (fun c2 h => ?_) (fun c2 h => ?_)
  · refine s_tabIn (tgt := 48) (off := 47) hX zcdX9_seed_14.2.2.2.2.2.2.1 (by omega) (by omega) (by rw [c2]; rfl) (by decide) ?_
    refine s_aload_n (k := 0) hX zcdX9_shape_33.2.2.2.2.2.2.2 rfl rfl ?_
    refine s_get hX fX9_10 oC0 rfl zcdX9_shape_49.1 ?_
    refine e_callSp hX (t_X6_pairs 1 (Or.inl rfl) M) mX6_pairs lX9_259 (by decide) (by decide) rfl rfl (Nat.le_of_ble_eq_true rfl) zcdX9_shape_49.2.1 h (fun r_3 h => ?_)
    exact e_iretp hX hR zcdX9_shape_49.2.2.1 h
  refine e_if h (fun c3 h => ?_) (fun c3 h => ?_)
  · refine s_tabIn (tgt := 56) (off := 55) hX zcdX9_seed_14.2.2.2.2.2.2.1 (by omega) (by omega) (by rw [c3]; rfl) (by decide) ?_
    refine s_aload_n (k := 0) hX zcdX9_shape_49.2.2.2.1 rfl rfl ?_
    refine s_get hX fX9_10 oC0 rfl zcdX9_shape_49.2.2.2.2.1 ?_
    refine e_callSp hX (t_X6_closest 1 (Or.inl rfl) M) mX6_closest lX9_262 (by decide) (by decide) rfl rfl (Nat.le_of_ble_eq_true rfl) zcdX9_shape_49.2.2.2.2.2.1 h (fun r_4 h => ?_)
    exact e_iretp hX hR zcdX9_shape_49.2.2.2.2.2.2.1 h
  refine s_tabOut (tgt := 64) hX zcdX9_seed_14.2.2.2.2.2.2.1 (by omega) (by decide) ?_
  refine s_iconst (v := (-1)) hX zcdX9_shape_49.2.2.2.2.2.2.2 (by decide) ?_
  exact e_iretp hX hR zcdX9_shape_65.1 h
set_option maxHeartbeats 4000000 in
theorem t_X9_stone (v1 : Int32) (v2 : Int32) (v3 : Int32) (v4 : Int32) (M : Mem) : AXi yX9_stone cX9_stone 6 (some .boolean) 1 60 glC (fun ad => [.ref (ad 0), .int v1, .int v2, .int v3, .int v4]) M (f_X9_stone M v1 v2 v3 v4) := by
  intro r0 h
  refine AM.of (by decide) (fun _ => Nat.le_of_ble_eq_true rfl) (fun X ad cI cZ cB hX hR => ?_)
  show V X M [(0, .ref (ad 0)), (1, .int v1), (2, .int v2), (3, .int v3), (4, .int v4)] [] 0
  refine s_iload_n (k := 1) hX zcdX9_shape_65.2.1 rfl rfl ?_
  refine e_callSp hX (t_X9_isStone v1 M) mX9_isStone lX9_82 (by decide) (by decide) rfl rfl (Nat.le_of_ble_eq_true rfl) zcdX9_shape_65.2.2.1 h (fun r_1 h => ?_)
  refine e_if_eq (tgt := 27) hX zcdX9_shape_65.2.2.2.1 (by decide) z_eq h (fun h => ?_) (fun h => ?_)
  · refine s_iconst (v := (nI 0)) hX zcdX9_stone_15.2.2.2.2.2.1 (by decide) ?_
    exact e_zretiL hX hR zcdX9_stone_15.2.2.2.2.2.2.1 (by decide) h
  · refine s_iload_n (k := 2) hX zcdX9_shape_65.2.2.2.2.1 rfl rfl ?_
    refine s_iload_n (k := 3) hX zcdX9_shape_65.2.2.2.2.2.1 rfl rfl ?_
    refine e_callSp hX (t_X9_isPlace v2 v3 M) mX9_isPlace lX9_86 (by decide) (by decide) rfl rfl (Nat.le_of_ble_eq_true rfl) zcdX9_shape_65.2.2.2.2.2.2.1 h (fun r_2 h => ?_)
    refine e_if_eq (tgt := 27) hX zcdX9_shape_65.2.2.2.2.2.2.2 (by decide) z_eq h (fun h => ?_) (fun h => ?_)
    · refine s_iconst (v := (nI 0)) hX zcdX9_stone_15.2.2.2.2.2.1 (by decide) ?_
      exact e_zretiL hX hR zcdX9_stone_15.2.2.2.2.2.2.1 (by decide) h
    · refine s_iload (k := 4) hX zcdX9_stone_15.1 rfl ?_
      refine e_if_lt (tgt := 27) hX zcdX9_stone_15.2.1 (by decide) z_lt h (fun h => ?_) (fun h => ?_)
      · refine s_iconst (v := (nI 0)) hX zcdX9_stone_15.2.2.2.2.2.1 (by decide) ?_
        exact e_zretiL hX hR zcdX9_stone_15.2.2.2.2.2.2.1 (by decide) h
      · refine s_iload (k := 4) hX zcdX9_stone_15.2.2.1 rfl ?_
        refine s_bipush (v := (nI 9)) hX zcdX9_stone_15.2.2.2.1 (by decide) ?_
        refine e_icmp_le (tgt := 29) hX zcdX9_stone_15.2.2.2.2.1 (by decide) (m_le (by decide +kernel)) h (fun h => ?_) (fun h => ?_)
        · refine s_aload_n (k := 0) hX zcdX9_stone_15.2.2.2.2.2.2.2 rfl rfl ?_
          refine s_get hX fX9_10 oC0 rfl zcdX9_stone_30.1 ?_
          refine s_iload_n (k := 2) hX zcdX9_stone_30.2.1 rfl rfl ?_
          refine s_iload_n (k := 3) hX zcdX9_stone_30.2.2.1 rfl rfl ?_
          refine e_callVp hX (t_X2_stoneAt 1 (Or.inl rfl) v2 v3 M) mX2_stoneAt lX9_90 (by decide) (by decide) oC1 rfl rfl rfl rfl rfl (Nat.le_of_ble_eq_true rfl) zcdX9_stone_30.2.2.2.1 h (fun r_3 h => ?_)
          refine s_istore (lv' := [(0, .ref (ad 0)), (1, .int v1), (2, .int v2), (3, .int v3), (4, .int v4), (5, .int r_3)]) hX zcdX9_stone_30.2.2.2.2.1 (by decide) rfl ?_
          refine s_iload (k := 5) hX zcdX9_stone_30.2.2.2.2.2.1 rfl ?_
          refine s_iconst (v := (-1)) hX zcdX9_stone_30.2.2.2.2.2.2.1 (by decide) ?_
          have j54 : f_X9_stone_L54 M v1 v2 v3 v4 = some r0 → V X M [(0, .ref (ad 0)), (1, .int v1), (2, .int v2), (3, .int v3), (4, .int v4)] [] 54 := by
            intro  h
            refine s_aload_n (k := 0) hX zcdX9_stone_46.2.2.2.2.2.1 rfl rfl ?_
            refine s_get hX fX9_10 oC0 rfl zcdX9_stone_46.2.2.2.2.2.2.1 ?_
            refine s_iload_n (k := 1) hX zcdX9_stone_46.2.2.2.2.2.2.2 rfl rfl ?_
            refine s_iload_n (k := 2) hX zcdX9_stone_59.1 rfl rfl ?_
            refine s_iload_n (k := 3) hX zcdX9_stone_59.2.1 rfl rfl ?_
            refine s_iload (k := 4) hX zcdX9_stone_59.2.2.1 rfl ?_
            refine s_iconst (v := (nI 0)) hX zcdX9_stone_59.2.2.2.1 (by decide) ?_
            refine e_callVv hX (t_X2_lay 1 (Or.inl rfl) v1 v2 v3 v4 (nI 0) M) mX2_lay lX9_94 (by decide) (by decide) oC1 rfl rfl rfl rfl rfl (Nat.le_of_ble_eq_true rfl) zcdX9_stone_59.2.2.2.2.1 h (fun M_4 h => ?_)
            refine s_iconst (v := (nI 1)) hX zcdX9_stone_59.2.2.2.2.2.1 (by decide) ?_
            exact e_zretiL hX hR zcdX9_stone_59.2.2.2.2.2.2.1 (by decide) h
          refine e_icmp_eq (tgt := 54) hX zcdX9_stone_30.2.2.2.2.2.2.2 (by decide) (m_eq (by decide +kernel)) h (fun h => ?_) (fun h => ?_)
          · refine s_loc [0, 1, 2, 3, 4] rfl ?_
            exact j54 h
          · refine s_iload (k := 5) hX zcdX9_stone_46.1 rfl ?_
            refine s_iload_n (k := 1) hX zcdX9_stone_46.2.1 rfl rfl ?_
            refine e_icmp_eq (tgt := 54) hX zcdX9_stone_46.2.2.1 (by decide) r_eq h (fun h => ?_) (fun h => ?_)
            · refine s_loc [0, 1, 2, 3, 4] rfl ?_
              exact j54 h
            · refine s_iconst (v := (nI 0)) hX zcdX9_stone_46.2.2.2.1 (by decide) ?_
              exact e_zretiL hX hR zcdX9_stone_46.2.2.2.2.1 (by decide) h
        · refine s_iconst (v := (nI 0)) hX zcdX9_stone_15.2.2.2.2.2.1 (by decide) ?_
          exact e_zretiL hX hR zcdX9_stone_15.2.2.2.2.2.2.1 (by decide) h
set_option maxHeartbeats 4000000 in
theorem t_X9_stoneIs (v1 : Int32) (v2 : Int32) (M : Mem) : AXp yX9_stoneIs cX9_stoneIs 3 (some .int) 3 60 glC (fun ad => [.ref (ad 0), .int v1, .int v2]) M (f_X9_stoneIs M v1 v2) := by
  intro r0 h
  refine AM.of (by decide) (fun _ => Nat.le_of_ble_eq_true rfl) (fun X ad cI cZ cB hX hR => ?_)
  show V X M [(0, .ref (ad 0)), (1, .int v1), (2, .int v2)] [] 0
  refine s_aload_n (k := 0) hX zcdX9_stone_59.2.2.2.2.2.2.2 rfl rfl ?_
  refine s_get hX fX9_10 oC0 rfl zcdX9_stoneIs_1.1 ?_
  refine s_iload_n (k := 1) hX zcdX9_stoneIs_1.2.1 rfl rfl ?_
  refine e_callVp hX (t_X2_isTold 1 (Or.inl rfl) v1 M) mX2_isTold lX9_98 (by decide) (by decide) oC1 rfl rfl rfl rfl rfl (Nat.le_of_ble_eq_true rfl) zcdX9_stoneIs_1.2.2.1 h (fun r_1 h => ?_)
  refine e_if_ne (tgt := 13) hX zcdX9_stoneIs_1.2.2.2.1 (by decide) z_eq h (fun h => ?_) (fun h => ?_)
  · refine s_iload_n (k := 2) hX zcdX9_stoneIs_1.2.2.2.2.2.2.1 rfl rfl ?_
    refine e_if h (fun c0 h => ?_) (fun c0 h => ?_)
    · refine s_tabIn (tgt := 48) (off := 34) hX zcdX9_stoneIs_1.2.2.2.2.2.2.2 (by omega) (by omega) (by rw [c0]; rfl) (by decide) ?_
      refine s_aload_n (k := 0) hX zcdX9_stoneIs_48.1 rfl rfl ?_
      refine s_get hX fX9_10 oC0 rfl zcdX9_stoneIs_48.2.1 ?_
      refine s_get hX fX9_152 oC1 rfl zcdX9_stoneIs_48.2.2.1 ?_
      refine s_iload_n (k := 1) hX zcdX9_stoneIs_48.2.2.2.1 rfl rfl ?_
      refine e_iald hX aC2 zcdX9_stoneIs_48.2.2.2.2.1 h (fun h => ?_)
      exact e_iretp hX hR zcdX9_stoneIs_48.2.2.2.2.2.1 h
    refine e_if h (fun c1 h => ?_) (fun c1 h => ?_)
    · refine s_tabIn (tgt := 58) (off := 44) hX zcdX9_stoneIs_1.2.2.2.2.2.2.2 (by omega) (by omega) (by rw [c1]; rfl) (by decide) ?_
      refine s_aload_n (k := 0) hX zcdX9_stoneIs_48.2.2.2.2.2.2.1 rfl rfl ?_
      refine s_get hX fX9_10 oC0 rfl zcdX9_stoneIs_48.2.2.2.2.2.2.2 ?_
      refine s_get hX fX9_155 oC1 rfl zcdX9_stoneIs_62.1 ?_
      refine s_iload_n (k := 1) hX zcdX9_stoneIs_62.2.1 rfl rfl ?_
      refine e_iald hX aC3 zcdX9_stoneIs_62.2.2.1 h (fun h => ?_)
      exact e_iretp hX hR zcdX9_stoneIs_62.2.2.2.1 h
    refine e_if h (fun c2 h => ?_) (fun c2 h => ?_)
    · refine s_tabIn (tgt := 68) (off := 54) hX zcdX9_stoneIs_1.2.2.2.2.2.2.2 (by omega) (by omega) (by rw [c2]; rfl) (by decide) ?_
      refine s_aload_n (k := 0) hX zcdX9_stoneIs_62.2.2.2.2.1 rfl rfl ?_
      refine s_get hX fX9_10 oC0 rfl zcdX9_stoneIs_62.2.2.2.2.2.1 ?_
      refine s_get hX fX9_168 oC1 rfl zcdX9_stoneIs_62.2.2.2.2.2.2.1 ?_
      refine s_iload_n (k := 1) hX zcdX9_stoneIs_62.2.2.2.2.2.2.2 rfl rfl ?_
      refine e_iald hX aC4 zcdX9_stoneIs_76.1 h (fun h => ?_)
      exact e_iretp hX hR zcdX9_stoneIs_76.2.1 h
    refine e_if h (fun c3 h => ?_) (fun c3 h => ?_)
    · refine s_tabIn (tgt := 78) (off := 64) hX zcdX9_stoneIs_1.2.2.2.2.2.2.2 (by omega) (by omega) (by rw [c3]; rfl) (by decide) ?_
      refine s_aload_n (k := 0) hX zcdX9_stoneIs_76.2.2.1 rfl rfl ?_
      refine s_get hX fX9_10 oC0 rfl zcdX9_stoneIs_76.2.2.2.1 ?_
      refine s_get hX fX9_105 oC1 rfl zcdX9_stoneIs_76.2.2.2.2.1 ?_
      refine s_iload_n (k := 1) hX zcdX9_stoneIs_76.2.2.2.2.2.1 rfl rfl ?_
      refine e_zald hX aC6 zcdX9_stoneIs_76.2.2.2.2.2.2.1 h (fun h => ?_)
      refine e_if_eq (tgt := 94) hX zcdX9_stoneIs_76.2.2.2.2.2.2.2 (by decide) z_eq h (fun h => ?_) (fun h => ?_)
      · refine s_iconst (v := (nI 0)) hX zcdX9_stoneIs_90.2.2.1 (by decide) ?_
        exact e_iretp hX hR zcdX9_stoneIs_90.2.2.2.1 h
      · refine s_iconst (v := (nI 1)) hX zcdX9_stoneIs_90.1 (by decide) ?_
        refine s_goto (tgt := 95) hX zcdX9_stoneIs_90.2.1 (by decide) ?_
        exact e_iretp hX hR zcdX9_stoneIs_90.2.2.2.1 h
    refine e_if h (fun c4 h => ?_) (fun c4 h => ?_)
    · refine s_tabIn (tgt := 96) (off := 82) hX zcdX9_stoneIs_1.2.2.2.2.2.2.2 (by omega) (by omega) (by rw [c4]; rfl) (by decide) ?_
      refine s_aload_n (k := 0) hX zcdX9_stoneIs_90.2.2.2.2.1 rfl rfl ?_
      refine s_get hX fX9_10 oC0 rfl zcdX9_stoneIs_90.2.2.2.2.2.1 ?_
      refine s_iload_n (k := 1) hX zcdX9_stoneIs_90.2.2.2.2.2.2.1 rfl rfl ?_
      refine e_callVp hX (t_X2_countClose 1 (Or.inl rfl) v1 M) mX2_countClose lX9_171 (by decide) (by decide) oC1 rfl rfl rfl rfl rfl (Nat.le_of_ble_eq_true rfl) zcdX9_stoneIs_90.2.2.2.2.2.2.2 h (fun r_2 h => ?_)
      exact e_iretp hX hR zcdX9_stoneIs_104.1 h
    refine s_tabOut (tgt := 105) hX zcdX9_stoneIs_1.2.2.2.2.2.2.2 (by omega) (by decide) ?_
    refine s_iconst (v := (-1)) hX zcdX9_stoneIs_104.2.1 (by decide) ?_
    exact e_iretp hX hR zcdX9_stoneIs_104.2.2.1 h
  · refine s_iconst (v := (-1)) hX zcdX9_stoneIs_1.2.2.2.2.1 (by decide) ?_
    exact e_iretp hX hR zcdX9_stoneIs_1.2.2.2.2.2.1 h
set_option maxHeartbeats 4000000 in
theorem t_X9_take (v1 : Int32) (M : Mem) : AXi yX9_take cX9_take 2 (some .boolean) 1 60 glC (fun ad => [.ref (ad 0), .int v1]) M (f_X9_take M v1) := by
  intro r0 h
  refine AM.of (by decide) (fun _ => Nat.le_of_ble_eq_true rfl) (fun X ad cI cZ cB hX hR => ?_)
  show V X M [(0, .ref (ad 0)), (1, .int v1)] [] 0
  refine s_aload_n (k := 0) hX zcdX9_stoneIs_104.2.2.2.1 rfl rfl ?_
  refine s_get hX fX9_10 oC0 rfl zcdX9_stoneIs_104.2.2.2.2.1 ?_
  refine s_iload_n (k := 1) hX zcdX9_stoneIs_104.2.2.2.2.2.1 rfl rfl ?_
  refine e_callVp hX (t_X2_isTold 1 (Or.inl rfl) v1 M) mX2_isTold lX9_98 (by decide) (by decide) oC1 rfl rfl rfl rfl rfl (Nat.le_of_ble_eq_true rfl) zcdX9_stoneIs_104.2.2.2.2.2.2.1 h (fun r_1 h => ?_)
  refine e_if_ne (tgt := 13) hX zcdX9_stoneIs_104.2.2.2.2.2.2.2 (by decide) z_eq h (fun h => ?_) (fun h => ?_)
  · refine s_aload_n (k := 0) hX zcdX9_take_11.2.2.1 rfl rfl ?_
    refine s_get hX fX9_10 oC0 rfl zcdX9_take_11.2.2.2.1 ?_
    refine s_get hX fX9_101 oC1 rfl zcdX9_take_11.2.2.2.2.1 ?_
    refine s_iload_n (k := 1) hX zcdX9_take_11.2.2.2.2.2.1 rfl rfl ?_
    refine s_iconst (v := (nI 0)) hX zcdX9_take_11.2.2.2.2.2.2.1 (by decide) ?_
    refine e_zast hX aC5 zcdX9_take_11.2.2.2.2.2.2.2 h (fun h => ?_)
    refine e_bndM h (fun M_2 h => ?_)
    refine s_iconst (v := (nI 1)) hX zcdX9_take_23.1 (by decide) ?_
    exact e_zretiL hX hR zcdX9_take_23.2.1 (by decide) h
  · refine s_iconst (v := (nI 0)) hX zcdX9_take_11.1 (by decide) ?_
    exact e_zretiL hX hR zcdX9_take_11.2.1 (by decide) h
set_option maxHeartbeats 4000000 in
theorem t_X9_thrown (v1 : Int32) (M : Mem) : AXp yX9_thrown cX9_thrown 5 (some .int) 15 60 glC (fun ad => [.ref (ad 0), .int v1]) M (f_X9_thrown M v1) := by
  intro r0 h
  refine AM.of (by decide) (fun _ => Nat.le_of_ble_eq_true rfl) (fun X ad cI cZ cB hX hR => ?_)
  show V X M [(0, .ref (ad 0)), (1, .int v1)] [] 0
  refine s_iload_n (k := 1) hX zcdX9_take_23.2.2.1 rfl rfl ?_
  refine s_iconst (v := (nI 1)) hX zcdX9_take_23.2.2.2.1 (by decide) ?_
  refine e_icmp_lt (tgt := 11) hX zcdX9_take_23.2.2.2.2.1 (by decide) (m_lt (by decide +kernel)) h (fun h => ?_) (fun h => ?_)
  · refine s_iconst (v := (-1)) hX zcdX9_thrown_11.1 (by decide) ?_
    exact e_iretp hX hR zcdX9_thrown_11.2.1 h
  · refine s_iload_n (k := 1) hX zcdX9_take_23.2.2.2.2.2.1 rfl rfl ?_
    refine s_bipush (v := (nI 6)) hX zcdX9_take_23.2.2.2.2.2.2.1 (by decide) ?_
    refine e_icmp_le (tgt := 13) hX zcdX9_take_23.2.2.2.2.2.2.2 (by decide) (m_le (by decide +kernel)) h (fun h => ?_) (fun h => ?_)
    · refine s_aload_n (k := 0) hX zcdX9_thrown_11.2.2.1 rfl rfl ?_
      refine s_get hX fX9_10 oC0 rfl zcdX9_thrown_11.2.2.2.1 ?_
      refine s_iconst (v := (nI 0)) hX zcdX9_thrown_11.2.2.2.2.1 (by decide) ?_
      refine e_callVp hX (t_X2_nextDry 1 (Or.inl rfl) (nI 0) M) mX2_nextDry lX9_274 (by decide) (by decide) oC1 rfl rfl rfl rfl rfl (Nat.le_of_ble_eq_true rfl) zcdX9_thrown_11.2.2.2.2.2.1 h (fun r_1 h => ?_)
      refine s_istore_n (lv' := [(0, .ref (ad 0)), (1, .int v1), (2, .int r_1)]) hX zcdX9_thrown_11.2.2.2.2.2.2.1 rfl (by decide) rfl ?_
      refine s_iload_n (k := 2) hX zcdX9_thrown_11.2.2.2.2.2.2.2 rfl rfl ?_
      refine s_istore_n (lv' := [(0, .ref (ad 0)), (1, .int v1), (2, .int r_1), (3, .int r_1)]) hX zcdX9_thrown_23.1 rfl (by decide) rfl ?_
      refine s_iconst (v := (nI 1)) hX zcdX9_thrown_23.2.1 (by decide) ?_
      refine s_istore (lv' := [(0, .ref (ad 0)), (1, .int v1), (2, .int r_1), (3, .int r_1), (4, .int (nI 1))]) hX zcdX9_thrown_23.2.2.1 (by decide) rfl ?_
      have lp27 : ∀ (N27 : Nat) (y3_27 : Int32) (y4_27 : Int32), wlp2 (f_X9_thrown_B27 M v1 r_1) N27 y3_27 y4_27 = some r0 → V X M [(0, .ref (ad 0)), (1, .int v1), (2, .int r_1), (3, .int y3_27), (4, .int y4_27)] [] 27 := by
        intro N27
        induction N27 with
        | zero => exact fun _ _ h => e_none h
        | succ N27 ih27 =>
          intro y3_27 y4_27 h
          replace h : f_X9_thrown_B27 M v1 r_1 (wlp2 (f_X9_thrown_B27 M v1 r_1) N27) y3_27 y4_27 = some r0 := h
          generalize wlp2 (f_X9_thrown_B27 M v1 r_1) N27 = ag27 at ih27 h
          refine s_iload (k := 4) hX zcdX9_thrown_23.2.2.2.1 rfl ?_
          refine s_iload_n (k := 1) hX zcdX9_thrown_23.2.2.2.2.1 rfl rfl ?_
          have j55 : f_X9_thrown_L55 M v1 r_1 y3_27 = some r0 → V X M [(0, .ref (ad 0)), (1, .int v1), (2, .int r_1), (3, .int y3_27)] [] 55 := by
            intro  h
            refine s_iload_n (k := 3) hX zcdX9_thrown_49.2.2.1 rfl rfl ?_
            refine s_iconst (v := (-1)) hX zcdX9_thrown_49.2.2.2.1 (by decide) ?_
            refine e_icmp_ne (tgt := 63) hX zcdX9_thrown_49.2.2.2.2.1 (by decide) (m_eq (by decide +kernel)) h (fun h => ?_) (fun h => ?_)
            · refine s_aload_n (k := 0) hX zcdX9_thrown_49.2.2.2.2.2.2.2 rfl rfl ?_
              refine s_get hX fX9_10 oC0 rfl zcdX9_thrown_64.1 ?_
              refine s_iload_n (k := 2) hX zcdX9_thrown_64.2.1 rfl rfl ?_
              refine s_lconst (v := 1) hX zcdX9_thrown_64.2.2.1 (by decide) ?_
              refine s_iload_n (k := 2) hX zcdX9_thrown_64.2.2.2.1 rfl rfl ?_
              refine s_lshl (v := lshl 1 r_1) hX zcdX9_thrown_64.2.2.2.2.1 rfl ?_
              refine s_iload_n (k := 3) hX zcdX9_thrown_64.2.2.2.2.2.1 rfl rfl ?_
              refine s_iload_n (k := 1) hX zcdX9_thrown_64.2.2.2.2.2.2.1 rfl rfl ?_
              refine s_iconst (v := (nI 1)) hX zcdX9_thrown_64.2.2.2.2.2.2.2 (by decide) ?_
              refine s_isub hX zcdX9_thrown_74.1 ?_
              refine e_callSp hX (tg_throws 1 (Or.inl rfl) 7 r_1 (lshl 1 r_1) y3_27 (v1 - (nI 1)) M) mX9_fewestThrows lX9_277 (by decide) (by decide) rfl rfl (Nat.le_of_ble_eq_true rfl) zcdX9_thrown_74.2.1 h (fun r_2 h => ?_)
              exact e_iretp hX hR zcdX9_thrown_74.2.2.1 h
            · refine s_bipush (v := (-2)) hX zcdX9_thrown_49.2.2.2.2.2.1 (by decide) ?_
              exact e_iretp hX hR zcdX9_thrown_49.2.2.2.2.2.2.1 h
          refine e_icmp_ge (tgt := 55) hX zcdX9_thrown_23.2.2.2.2.2.1 (by decide) r_le h (fun h => ?_) (fun h => ?_)
          · refine s_loc [0, 1, 2, 3] rfl ?_
            exact j55 h
          · refine s_iload_n (k := 3) hX zcdX9_thrown_23.2.2.2.2.2.2.1 rfl rfl ?_
            refine s_iconst (v := (-1)) hX zcdX9_thrown_23.2.2.2.2.2.2.2 (by decide) ?_
            refine e_icmp_eq (tgt := 55) hX zcdX9_thrown_35.1 (by decide) (m_eq (by decide +kernel)) h (fun h => ?_) (fun h => ?_)
            · refine s_loc [0, 1, 2, 3] rfl ?_
              exact j55 h
            · refine s_aload_n (k := 0) hX zcdX9_thrown_35.2.1 rfl rfl ?_
              refine s_get hX fX9_10 oC0 rfl zcdX9_thrown_35.2.2.1 ?_
              refine s_iload_n (k := 3) hX zcdX9_thrown_35.2.2.2.1 rfl rfl ?_
              refine s_iconst (v := (nI 1)) hX zcdX9_thrown_35.2.2.2.2.1 (by decide) ?_
              refine s_iadd hX zcdX9_thrown_35.2.2.2.2.2.1 ?_
              refine e_callVp hX (t_X2_nextDry 1 (Or.inl rfl) (y3_27 + (nI 1)) M) mX2_nextDry lX9_274 (by decide) (by decide) oC1 rfl rfl rfl rfl rfl (Nat.le_of_ble_eq_true rfl) zcdX9_thrown_35.2.2.2.2.2.2.1 h (fun r_3 h => ?_)
              refine s_istore_n (lv' := [(0, .ref (ad 0)), (1, .int v1), (2, .int r_1), (4, .int y4_27), (3, .int r_3)]) hX zcdX9_thrown_35.2.2.2.2.2.2.2 rfl (by decide) rfl ?_
              refine s_iinc (k := 3) (v := (y4_27 + (nI 1))) (lv' := [(0, .ref (ad 0)), (1, .int v1), (2, .int r_1), (3, .int r_3), (4, .int (y4_27 + (nI 1)))]) hX zcdX9_thrown_49.1 (congrArg (fun z => y4_27 + z) (by decide)) (by decide) rfl rfl ?_
              refine s_goto (tgt := 27) hX zcdX9_thrown_49.2.1 (by decide) ?_
              exact ih27 r_3 (y4_27 + (nI 1)) h
      exact lp27 FU r_1 (nI 1) h
    · refine s_iconst (v := (-1)) hX zcdX9_thrown_11.1 (by decide) ?_
      exact e_iretp hX hR zcdX9_thrown_11.2.1 h
set_option maxHeartbeats 4000000 in
theorem t_X9_tried (v1 : Int32) (v2 : Int32) (M : Mem) : AXi yX9_tried cX9_tried 5 (some .int) 6 60 glC (fun ad => [.ref (ad 0), .int v1, .int v2]) M (f_X9_tried M v1 v2) := by
  intro r0 h
  refine AM.of (by decide) (fun _ => Nat.le_of_ble_eq_true rfl) (fun X ad cI cZ cB hX hR => ?_)
  show V X M [(0, .ref (ad 0)), (1, .int v1), (2, .int v2)] [] 0
  refine s_iload_n (k := 2) hX zcdX9_thrown_74.2.2.2.1 rfl rfl ?_
  refine s_bipush (v := (nI 100)) hX zcdX9_thrown_74.2.2.2.2.1 (by decide) ?_
  have j25 : ∀ (t0_25 : Int32), f_X9_tried_L25 M v1 v2 t0_25 = some r0 → V X M [(0, .ref (ad 0)), (1, .int v1), (2, .int v2)] [.int t0_25] 25 := by
    intro t0_25 h
    refine s_istore_n (lv' := [(0, .ref (ad 0)), (1, .int v1), (2, .int v2), (3, .int t0_25)]) hX zcdX9_tried_25.1 rfl (by decide) rfl ?_
    refine s_iload_n (k := 2) hX zcdX9_tried_25.2.1 rfl rfl ?_
    refine s_sipush (v := (nI 200)) hX zcdX9_tried_25.2.2.1 (by decide) ?_
    have j53 : ∀ (t0_53 : Int32), f_X9_tried_L53 M v1 v2 t0_25 t0_53 = some r0 → V X M [(0, .ref (ad 0)), (1, .int v1), (2, .int v2), (3, .int t0_25)] [.int t0_53] 53 := by
      intro t0_53 h
      refine s_istore (lv' := [(0, .ref (ad 0)), (1, .int v1), (2, .int v2), (3, .int t0_25), (4, .int t0_53)]) hX zcdX9_tried_41.2.2.2.2.2.2.1 (by decide) rfl ?_
      refine s_iload_n (k := 1) hX zcdX9_tried_41.2.2.2.2.2.2.2 rfl rfl ?_
      refine e_callSp hX (t_X9_isNights v1 M) mX9_isNights lX9_138 (by decide) (by decide) rfl rfl (Nat.le_of_ble_eq_true rfl) zcdX9_tried_56.1 h (fun r_1 h => ?_)
      refine e_if_eq (tgt := 80) hX zcdX9_tried_56.2.1 (by decide) z_eq h (fun h => ?_) (fun h => ?_)
      · refine s_ldc (v := (-100000)) hX kX9_148 zcdX9_tried_72.2.2.2.1 ?_
        exact e_ireti hX hR zcdX9_tried_72.2.2.2.2.1 h
      · refine s_iload_n (k := 2) hX zcdX9_tried_56.2.2.1 rfl rfl ?_
        have j83 : f_X9_tried_L83 M v1 v2 t0_25 t0_53 = some r0 → V X M [(0, .ref (ad 0)), (1, .int v1), (2, .int v2), (3, .int t0_25), (4, .int t0_53)] [] 83 := by
          intro  h
          refine s_aload_n (k := 0) hX zcdX9_tried_72.2.2.2.2.2.1 rfl rfl ?_
          refine s_get hX fX9_19 oC0 rfl zcdX9_tried_72.2.2.2.2.2.2.1 ?_
          refine s_aload_n (k := 0) hX zcdX9_tried_72.2.2.2.2.2.2.2 rfl rfl ?_
          refine s_get hX fX9_10 oC0 rfl zcdX9_tried_88.1 ?_
          refine e_callVv hX (t_X2_copyAll 13 (Or.inr (Or.inr rfl)) 1 (Or.inl rfl) M) mX2_copyAll lX9_149 (by decide) (by decide) oC13 rfl rfl rfl rfl rfl (Nat.le_of_ble_eq_true rfl) zcdX9_tried_88.2.1 h (fun M_2 h => ?_)
          refine s_aload_n (k := 0) hX zcdX9_tried_88.2.2.1 rfl rfl ?_
          refine s_get hX fX9_32 oC0 rfl zcdX9_tried_88.2.2.2.1 ?_
          refine s_aload_n (k := 0) hX zcdX9_tried_88.2.2.2.2.1 rfl rfl ?_
          refine s_get hX fX9_19 oC0 rfl zcdX9_tried_88.2.2.2.2.2.1 ?_
          refine s_aload_n (k := 0) hX zcdX9_tried_88.2.2.2.2.2.2.1 rfl rfl ?_
          refine s_get hX fX9_71 oC0 rfl zcdX9_tried_88.2.2.2.2.2.2.2 ?_
          refine e_rl h (fun c_3 hc_3 ecc_3 h => ?_)
          refine s_iload_n (k := 1) hX zcdX9_tried_106.1 rfl rfl ?_
          refine e_callVv hX (t_X5_pass 13 (Or.inr (Or.inr rfl)) c_3 hc_3 v1 M_2) mX5_pass lX9_141 (by decide) (by decide) oC21 rfl rfl rfl rfl rfl (Nat.le_of_ble_eq_true rfl) zcdX9_tried_106.2.1 h (fun M_4 h => ?_)
          refine s_iload_n (k := 3) hX zcdX9_tried_106.2.2.1 rfl rfl ?_
          refine e_if_eq (tgt := 127) hX zcdX9_tried_106.2.2.2.1 (by decide) z_eq h (fun h => ?_) (fun h => ?_)
          · refine s_iload (k := 4) hX zcdX9_tried_122.2.2.2.2.1 rfl ?_
            refine e_if_eq (tgt := 146) hX zcdX9_tried_122.2.2.2.2.2.1 (by decide) z_eq h (fun h => ?_) (fun h => ?_)
            · refine s_iload_n (k := 2) hX zcdX9_tried_136.2.2.2.2.2.2.1 rfl rfl ?_
              refine e_if h (fun c0 h => ?_) (fun c0 h => ?_)
              · refine s_tabIn (tgt := 172) (off := 25) hX zcdX9_tried_136.2.2.2.2.2.2.2 (by omega) (by omega) (by rw [c0]; rfl) (by decide) ?_
                refine s_aload_n (k := 0) hX zcdX9_tried_172.1 rfl rfl ?_
                refine s_get hX fX9_32 oC0 rfl zcdX9_tried_172.2.1 ?_
                refine s_get hX fX9_145 oC21 rfl zcdX9_tried_172.2.2.1 ?_
                exact e_ireti hX hR zcdX9_tried_172.2.2.2.1 h
              refine e_if h (fun c1 h => ?_) (fun c1 h => ?_)
              · refine s_tabIn (tgt := 180) (off := 33) hX zcdX9_tried_136.2.2.2.2.2.2.2 (by omega) (by omega) (by rw [c1]; rfl) (by decide) ?_
                refine s_aload_n (k := 0) hX zcdX9_tried_172.2.2.2.2.1 rfl rfl ?_
                refine s_get hX fX9_32 oC0 rfl zcdX9_tried_172.2.2.2.2.2.1 ?_
                refine s_get hX fX9_158 oC21 rfl zcdX9_tried_172.2.2.2.2.2.2.1 ?_
                exact e_ireti hX hR zcdX9_tried_172.2.2.2.2.2.2.2 h
              refine e_if h (fun c2 h => ?_) (fun c2 h => ?_)
              · refine s_tabIn (tgt := 188) (off := 41) hX zcdX9_tried_136.2.2.2.2.2.2.2 (by omega) (by omega) (by rw [c2]; rfl) (by decide) ?_
                refine s_aload_n (k := 0) hX zcdX9_tried_188.1 rfl rfl ?_
                refine s_get hX fX9_19 oC0 rfl zcdX9_tried_188.2.1 ?_
                refine e_callVp hX (t_X2_countSunk 13 (Or.inr (Or.inr rfl)) M_4) mX2_countSunk lX9_161 (by decide) (by decide) oC13 rfl rfl rfl rfl rfl (Nat.le_of_ble_eq_true rfl) zcdX9_tried_188.2.2.1 h (fun r_5 h => ?_)
                exact e_ireti hX hR zcdX9_tried_188.2.2.2.1 h
              refine s_tabOut (tgt := 196) hX zcdX9_tried_136.2.2.2.2.2.2.2 (by omega) (by decide) ?_
              refine s_aload_n (k := 0) hX zcdX9_tried_188.2.2.2.2.1 rfl rfl ?_
              refine s_get hX fX9_19 oC0 rfl zcdX9_tried_188.2.2.2.2.2.1 ?_
              refine e_callVp hX (t_X2_sumOfX 13 (Or.inr (Or.inr rfl)) M_4) mX2_sumOfX lX9_165 (by decide) (by decide) oC13 rfl rfl rfl rfl rfl (Nat.le_of_ble_eq_true rfl) zcdX9_tried_188.2.2.2.2.2.2.1 h (fun r_6 h => ?_)
              refine s_aload_n (k := 0) hX zcdX9_tried_188.2.2.2.2.2.2.2 rfl rfl ?_
              refine s_get hX fX9_10 oC0 rfl zcdX9_tried_204.1 ?_
              refine e_callVp hX (t_X2_sumOfX 1 (Or.inl rfl) M_4) mX2_sumOfX lX9_165 (by decide) (by decide) oC1 rfl rfl rfl rfl rfl (Nat.le_of_ble_eq_true rfl) zcdX9_tried_204.2.1 h (fun r_7 h => ?_)
              refine s_isub hX zcdX9_tried_204.2.2.1 ?_
              exact e_ireti hX hR zcdX9_tried_204.2.2.2.1 h
            · refine s_aload_n (k := 0) hX zcdX9_tried_122.2.2.2.2.2.2.1 rfl rfl ?_
              refine s_get hX fX9_19 oC0 rfl zcdX9_tried_122.2.2.2.2.2.2.2 ?_
              refine s_get hX fX9_155 oC13 rfl zcdX9_tried_136.1 ?_
              refine s_iload_n (k := 2) hX zcdX9_tried_136.2.1 rfl rfl ?_
              refine s_sipush (v := (nI 200)) hX zcdX9_tried_136.2.2.1 (by decide) ?_
              refine s_isub hX zcdX9_tried_136.2.2.2.1 ?_
              refine e_iald hX aC15 zcdX9_tried_136.2.2.2.2.1 h (fun h => ?_)
              exact e_ireti hX hR zcdX9_tried_136.2.2.2.2.2.1 h
          · refine s_aload_n (k := 0) hX zcdX9_tried_106.2.2.2.2.1 rfl rfl ?_
            refine s_get hX fX9_19 oC0 rfl zcdX9_tried_106.2.2.2.2.2.1 ?_
            refine s_get hX fX9_152 oC13 rfl zcdX9_tried_106.2.2.2.2.2.2.1 ?_
            refine s_iload_n (k := 2) hX zcdX9_tried_106.2.2.2.2.2.2.2 rfl rfl ?_
            refine s_bipush (v := (nI 100)) hX zcdX9_tried_122.1 (by decide) ?_
            refine s_isub hX zcdX9_tried_122.2.1 ?_
            refine e_iald hX aC14 zcdX9_tried_122.2.2.1 h (fun h => ?_)
            exact e_ireti hX hR zcdX9_tried_122.2.2.2.1 h
        have j71 : f_X9_tried_L71 M v1 v2 t0_25 t0_53 = some r0 → V X M [(0, .ref (ad 0)), (1, .int v1), (2, .int v2), (3, .int t0_25), (4, .int t0_53)] [] 71 := by
          intro  h
          refine s_iload_n (k := 3) hX zcdX9_tried_56.2.2.2.2.2.2.2 rfl rfl ?_
          refine e_if_ne (tgt := 83) hX zcdX9_tried_72.1 (by decide) z_eq h (fun h => ?_) (fun h => ?_)
          · exact j83 h
          · refine s_iload (k := 4) hX zcdX9_tried_72.2.1 rfl ?_
            refine e_if_ne (tgt := 83) hX zcdX9_tried_72.2.2.1 (by decide) z_eq h (fun h => ?_) (fun h => ?_)
            · exact j83 h
            · refine s_ldc (v := (-100000)) hX kX9_148 zcdX9_tried_72.2.2.2.1 ?_
              exact e_ireti hX hR zcdX9_tried_72.2.2.2.2.1 h
        refine e_if_lt (tgt := 71) hX zcdX9_tried_56.2.2.2.1 (by decide) z_lt h (fun h => ?_) (fun h => ?_)
        · exact j71 h
        · refine s_iload_n (k := 2) hX zcdX9_tried_56.2.2.2.2.1 rfl rfl ?_
          refine s_iconst (v := (nI 3)) hX zcdX9_tried_56.2.2.2.2.2.1 (by decide) ?_
          refine e_icmp_le (tgt := 83) hX zcdX9_tried_56.2.2.2.2.2.2.1 (by decide) (m_le (by decide +kernel)) h (fun h => ?_) (fun h => ?_)
          · exact j83 h
          · exact j71 h
    have j52 : f_X9_tried_L52 M v1 v2 t0_25 = some r0 → V X M [(0, .ref (ad 0)), (1, .int v1), (2, .int v2), (3, .int t0_25)] [] 52 := by
      intro  h
      refine s_iconst (v := (nI 0)) hX zcdX9_tried_41.2.2.2.2.2.1 (by decide) ?_
      exact j53 (nI 0) h
    refine e_icmp_lt (tgt := 52) hX zcdX9_tried_25.2.2.2.1 (by decide) (m_lt (by decide +kernel)) h (fun h => ?_) (fun h => ?_)
    · exact j52 h
    · refine s_aload_n (k := 0) hX zcdX9_tried_25.2.2.2.2.1 rfl rfl ?_
      refine s_get hX fX9_10 oC0 rfl zcdX9_tried_25.2.2.2.2.2.1 ?_
      refine s_iload_n (k := 2) hX zcdX9_tried_25.2.2.2.2.2.2.1 rfl rfl ?_
      refine s_sipush (v := (nI 200)) hX zcdX9_tried_25.2.2.2.2.2.2.2 (by decide) ?_
      refine s_isub hX zcdX9_tried_41.1 ?_
      refine e_callVp hX (t_X2_isTold 1 (Or.inl rfl) (v2 - (nI 200)) M) mX2_isTold lX9_98 (by decide) (by decide) oC1 rfl rfl rfl rfl rfl (Nat.le_of_ble_eq_true rfl) zcdX9_tried_41.2.1 h (fun r_8 h => ?_)
      refine e_if_eq (tgt := 52) hX zcdX9_tried_41.2.2.1 (by decide) z_eq h (fun h => ?_) (fun h => ?_)
      · exact j52 h
      · refine s_iconst (v := (nI 1)) hX zcdX9_tried_41.2.2.2.1 (by decide) ?_
        refine s_goto (tgt := 53) hX zcdX9_tried_41.2.2.2.2.1 (by decide) ?_
        exact j53 (nI 1) h
  have j24 : f_X9_tried_L24 M v1 v2 = some r0 → V X M [(0, .ref (ad 0)), (1, .int v1), (2, .int v2)] [] 24 := by
    intro  h
    refine s_iconst (v := (nI 0)) hX zcdX9_tried_10.2.2.2.2.2.2.2 (by decide) ?_
    exact j25 (nI 0) h
  refine e_icmp_lt (tgt := 24) hX zcdX9_thrown_74.2.2.2.2.2.1 (by decide) (m_lt (by decide +kernel)) h (fun h => ?_) (fun h => ?_)
  · exact j24 h
  · refine s_aload_n (k := 0) hX zcdX9_thrown_74.2.2.2.2.2.2.1 rfl rfl ?_
    refine s_get hX fX9_10 oC0 rfl zcdX9_thrown_74.2.2.2.2.2.2.2 ?_
    refine s_iload_n (k := 2) hX zcdX9_tried_10.1 rfl rfl ?_
    refine s_bipush (v := (nI 100)) hX zcdX9_tried_10.2.1 (by decide) ?_
    refine s_isub hX zcdX9_tried_10.2.2.1 ?_
    refine e_callVp hX (t_X2_isTold 1 (Or.inl rfl) (v2 - (nI 100)) M) mX2_isTold lX9_98 (by decide) (by decide) oC1 rfl rfl rfl rfl rfl (Nat.le_of_ble_eq_true rfl) zcdX9_tried_10.2.2.2.1 h (fun r_9 h => ?_)
    refine e_if_eq (tgt := 24) hX zcdX9_tried_10.2.2.2.2.1 (by decide) z_eq h (fun h => ?_) (fun h => ?_)
    · exact j24 h
    · refine s_iconst (v := (nI 1)) hX zcdX9_tried_10.2.2.2.2.2.1 (by decide) ?_
      refine s_goto (tgt := 25) hX zcdX9_tried_10.2.2.2.2.2.2.1 (by decide) ?_
      exact j25 (nI 1) h
set_option maxHeartbeats 4000000 in
theorem t_X9_under (v1 : Int32) (v2 : Int32) (M : Mem) : AXi yX9_under cX9_under 3 (some .boolean) 1 60 glC (fun ad => [.ref (ad 0), .int v1, .int v2]) M (f_X9_under M v1 v2) := by
  intro r0 h
  refine AM.of (by decide) (fun _ => Nat.le_of_ble_eq_true rfl) (fun X ad cI cZ cB hX hR => ?_)
  show V X M [(0, .ref (ad 0)), (1, .int v1), (2, .int v2)] [] 0
  refine s_aload_n (k := 0) hX zcdX9_tried_204.2.2.2.2.1 rfl rfl ?_
  refine s_get hX fX9_10 oC0 rfl zcdX9_tried_204.2.2.2.2.2.1 ?_
  refine s_iload_n (k := 1) hX zcdX9_tried_204.2.2.2.2.2.2.1 rfl rfl ?_
  refine e_callVp hX (t_X2_isTold 1 (Or.inl rfl) v1 M) mX2_isTold lX9_98 (by decide) (by decide) oC1 rfl rfl rfl rfl rfl (Nat.le_of_ble_eq_true rfl) zcdX9_tried_204.2.2.2.2.2.2.2 h (fun r_1 h => ?_)
  refine e_if_ne (tgt := 13) hX zcdX9_under_8.1 (by decide) z_eq h (fun h => ?_) (fun h => ?_)
  · refine s_aload_n (k := 0) hX zcdX9_under_8.2.2.2.1 rfl rfl ?_
    refine s_get hX fX9_10 oC0 rfl zcdX9_under_8.2.2.2.2.1 ?_
    refine s_get hX fX9_105 oC1 rfl zcdX9_under_8.2.2.2.2.2.1 ?_
    refine s_iload_n (k := 1) hX zcdX9_under_8.2.2.2.2.2.2.1 rfl rfl ?_
    refine s_iload_n (k := 2) hX zcdX9_under_8.2.2.2.2.2.2.2 rfl rfl ?_
    refine e_zast hX aC6 zcdX9_under_22.1 h (fun h => ?_)
    refine e_bndM h (fun M_2 h => ?_)
    refine s_iconst (v := (nI 1)) hX zcdX9_under_22.2.1 (by decide) ?_
    exact e_zretiL hX hR zcdX9_under_22.2.2.1 (by decide) h
  · refine s_iconst (v := (nI 0)) hX zcdX9_under_8.2.1 (by decide) ?_
    exact e_zretiL hX hR zcdX9_under_8.2.2.1 (by decide) h
set_option maxHeartbeats 4000000 in
theorem t_X9_undo (M : Mem) : AXi yX9_undo cX9_undo 1 (some .boolean) 2 60 glC (fun ad => [.ref (ad 0)]) M (f_X9_undo M) := by
  intro r0 h
  refine AM.of (by decide) (fun _ => Nat.le_of_ble_eq_true rfl) (fun X ad cI cZ cB hX hR => ?_)
  show V X M [(0, .ref (ad 0))] [] 0
  refine s_aload_n (k := 0) hX zcdX9_under_22.2.2.2.1 rfl rfl ?_
  refine s_get hX fX9_78 oC0 rfl zcdX9_under_22.2.2.2.2.1 ?_
  refine e_if_eq (tgt := 18) hX zcdX9_under_22.2.2.2.2.2.1 (by decide) z_eq h (fun h => ?_) (fun h => ?_)
  · refine s_aload_n (k := 0) hX zcdX9_undo_11.2.2.2.1 rfl rfl ?_
    refine s_get hX fX9_78 oC0 rfl zcdX9_undo_11.2.2.2.2.1 ?_
    exact e_zreti hX hR zcdX9_undo_11.2.2.2.2.2.1 h
  · refine s_aload_n (k := 0) hX zcdX9_under_22.2.2.2.2.2.2.1 rfl rfl ?_
    refine s_get hX fX9_10 oC0 rfl zcdX9_under_22.2.2.2.2.2.2.2 ?_
    refine s_aload_n (k := 0) hX zcdX9_undo_11.1 rfl rfl ?_
    refine s_get hX fX9_16 oC0 rfl zcdX9_undo_11.2.1 ?_
    refine e_callVv hX (t_X2_copyAll 1 (Or.inl rfl) 7 (Or.inr (Or.inl rfl)) M) mX2_copyAll lX9_149 (by decide) (by decide) oC1 rfl rfl rfl rfl rfl (Nat.le_of_ble_eq_true rfl) zcdX9_undo_11.2.2.1 h (fun M_1 h => ?_)
    refine s_aload_n (k := 0) hX zcdX9_undo_11.2.2.2.1 rfl rfl ?_
    refine s_get hX fX9_78 oC0 rfl zcdX9_undo_11.2.2.2.2.1 ?_
    exact e_zreti hX hR zcdX9_undo_11.2.2.2.2.2.1 h
set_option maxHeartbeats 4000000 in
theorem t_X9_walk (v1 : Int32) (v2 : Int32) (v3 : Int32) (v4 : Int32) (M : Mem) : AXi yX9_walk cX9_walk 6 (some .int) 22 60 glC (fun ad => [.ref (ad 0), .int v1, .int v2, .int v3, .int v4]) M (f_X9_walk M v1 v2 v3 v4) := by
  intro r0 h
  refine AM.of (by decide) (fun _ => Nat.le_of_ble_eq_true rfl) (fun X ad cI cZ cB hX hR => ?_)
  show V X M [(0, .ref (ad 0)), (1, .int v1), (2, .int v2), (3, .int v3), (4, .int v4)] [] 0
  refine s_aload_n (k := 0) hX zcdX9_undo_11.2.2.2.2.2.2.1 rfl rfl ?_
  refine s_iload_n (k := 1) hX zcdX9_undo_11.2.2.2.2.2.2.2 rfl rfl ?_
  refine e_callVp hX (t_X9_strideOf v1 M) mX9_strideOf lX9_175 (by decide) (by decide) oC0 rfl rfl rfl rfl rfl (Nat.le_of_ble_eq_true rfl) zcdX9_walk_2.1 h (fun r_1 h => ?_)
  refine s_istore (lv' := [(0, .ref (ad 0)), (1, .int v1), (2, .int v2), (3, .int v3), (4, .int v4), (5, .int r_1)]) hX zcdX9_walk_2.2.1 (by decide) rfl ?_
  refine s_iload (k := 5) hX zcdX9_walk_2.2.2.1 rfl ?_
  refine e_if_eq (tgt := 47) hX zcdX9_walk_2.2.2.2.1 (by decide) z_eq h (fun h => ?_) (fun h => ?_)
  · refine s_iconst (v := (-1)) hX zcdX9_walk_37.2.2.2.2.2.1 (by decide) ?_
    exact e_ireti hX hR zcdX9_walk_37.2.2.2.2.2.2.1 h
  · refine s_iload_n (k := 2) hX zcdX9_walk_2.2.2.2.2.1 rfl rfl ?_
    refine e_if_lt (tgt := 47) hX zcdX9_walk_2.2.2.2.2.2.1 (by decide) z_lt h (fun h => ?_) (fun h => ?_)
    · refine s_iconst (v := (-1)) hX zcdX9_walk_37.2.2.2.2.2.1 (by decide) ?_
      exact e_ireti hX hR zcdX9_walk_37.2.2.2.2.2.2.1 h
    · refine s_iload_n (k := 2) hX zcdX9_walk_2.2.2.2.2.2.2.1 rfl rfl ?_
      refine s_bipush (v := (nI 39)) hX zcdX9_walk_2.2.2.2.2.2.2.2 (by decide) ?_
      refine e_icmp_gt (tgt := 47) hX zcdX9_walk_19.1 (by decide) (m_gt (by decide +kernel)) h (fun h => ?_) (fun h => ?_)
      · refine s_iconst (v := (-1)) hX zcdX9_walk_37.2.2.2.2.2.1 (by decide) ?_
        exact e_ireti hX hR zcdX9_walk_37.2.2.2.2.2.2.1 h
      · refine s_iload (k := 4) hX zcdX9_walk_19.2.1 rfl ?_
        refine e_if_lt (tgt := 47) hX zcdX9_walk_19.2.2.1 (by decide) z_lt h (fun h => ?_) (fun h => ?_)
        · refine s_iconst (v := (-1)) hX zcdX9_walk_37.2.2.2.2.2.1 (by decide) ?_
          exact e_ireti hX hR zcdX9_walk_37.2.2.2.2.2.2.1 h
        · refine s_iload (k := 4) hX zcdX9_walk_19.2.2.2.1 rfl ?_
          refine s_iconst (v := (nI 3)) hX zcdX9_walk_19.2.2.2.2.1 (by decide) ?_
          refine e_icmp_gt (tgt := 47) hX zcdX9_walk_19.2.2.2.2.2.1 (by decide) (m_gt (by decide +kernel)) h (fun h => ?_) (fun h => ?_)
          · refine s_iconst (v := (-1)) hX zcdX9_walk_37.2.2.2.2.2.1 (by decide) ?_
            exact e_ireti hX hR zcdX9_walk_37.2.2.2.2.2.2.1 h
          · refine s_aload_n (k := 0) hX zcdX9_walk_19.2.2.2.2.2.2.1 rfl rfl ?_
            refine s_get hX fX9_25 oC0 rfl zcdX9_walk_19.2.2.2.2.2.2.2 ?_
            refine s_iload_n (k := 3) hX zcdX9_walk_37.1 rfl rfl ?_
            refine s_iconst (v := (nI 1)) hX zcdX9_walk_37.2.1 (by decide) ?_
            refine s_bipush (v := (nI 60)) hX zcdX9_walk_37.2.2.1 (by decide) ?_
            refine e_callVp hX (t_X7_holds v3 (nI 1) (nI 60) M) mX7_holds lX9_119 (by decide) (by decide) oC19 rfl rfl rfl rfl rfl (Nat.le_of_ble_eq_true rfl) zcdX9_walk_37.2.2.2.1 h (fun r_2 h => ?_)
            refine e_if_ne (tgt := 49) hX zcdX9_walk_37.2.2.2.2.1 (by decide) z_eq h (fun h => ?_) (fun h => ?_)
            · refine s_aload_n (k := 0) hX zcdX9_walk_37.2.2.2.2.2.2.2 rfl rfl ?_
              refine s_get hX fX9_25 oC0 rfl zcdX9_walk_50.1 ?_
              refine s_iload_n (k := 3) hX zcdX9_walk_50.2.1 rfl rfl ?_
              refine e_callVv hX (t_X7_open v3 M) mX7_open lX9_123 (by decide) (by decide) oC19 rfl rfl rfl rfl rfl (Nat.le_of_ble_eq_true rfl) zcdX9_walk_50.2.2.1 h (fun M_3 h => ?_)
              refine s_aload_n (k := 0) hX zcdX9_walk_50.2.2.2.1 rfl rfl ?_
              refine s_get hX fX9_53 oC0 rfl zcdX9_walk_50.2.2.2.2.1 ?_
              refine s_aload_n (k := 0) hX zcdX9_walk_50.2.2.2.2.2.1 rfl rfl ?_
              refine s_get hX fX9_25 oC0 rfl zcdX9_walk_50.2.2.2.2.2.2.1 ?_
              refine e_callVi hX (t_X4_read M_3) mX4_read lX9_216 (by decide) (by decide) oC34 rfl rfl rfl rfl rfl (Nat.le_of_ble_eq_true rfl) zcdX9_walk_50.2.2.2.2.2.2.2 h (fun r_4 M_5 h => ?_)
              refine e_if_ne (tgt := 79) hX zcdX9_walk_68.1 (by decide) z_eq h (fun h => ?_) (fun h => ?_)
              · refine s_aload_n (k := 0) hX zcdX9_walk_68.2.2.2.2.2.1 rfl rfl ?_
                refine s_get hX fX9_53 oC0 rfl zcdX9_walk_68.2.2.2.2.2.2.1 ?_
                refine s_aload_n (k := 0) hX zcdX9_walk_68.2.2.2.2.2.2.2 rfl rfl ?_
                refine s_get hX fX9_10 oC0 rfl zcdX9_walk_84.1 ?_
                refine s_iload (k := 5) hX zcdX9_walk_84.2.1 rfl ?_
                refine s_iload_n (k := 2) hX zcdX9_walk_84.2.2.1 rfl rfl ?_
                refine e_callVv hX (t_X4_go 1 (Or.inl rfl) r_1 v2 M_5) mX4_go lX9_223 (by decide) (by decide) oC34 rfl rfl rfl rfl rfl (Nat.le_of_ble_eq_true rfl) zcdX9_walk_84.2.2.2.1 h (fun M_6 h => ?_)
                refine s_iload (k := 4) hX zcdX9_walk_84.2.2.2.2.1 rfl ?_
                refine e_if h (fun c0 h => ?_) (fun c0 h => ?_)
                · refine s_tabIn (tgt := 120) (off := 25) hX zcdX9_walk_84.2.2.2.2.2.1 (by omega) (by omega) (by rw [c0]; rfl) (by decide) ?_
                  refine s_aload_n (k := 0) hX zcdX9_walk_84.2.2.2.2.2.2.1 rfl rfl ?_
                  refine s_get hX fX9_53 oC0 rfl zcdX9_walk_84.2.2.2.2.2.2.2 ?_
                  refine s_get hX fX9_227 oC34 rfl zcdX9_walk_124.1 ?_
                  exact e_ireti hX hR zcdX9_walk_124.2.1 h
                refine e_if h (fun c1 h => ?_) (fun c1 h => ?_)
                · refine s_tabIn (tgt := 128) (off := 33) hX zcdX9_walk_84.2.2.2.2.2.1 (by omega) (by omega) (by rw [c1]; rfl) (by decide) ?_
                  refine s_aload_n (k := 0) hX zcdX9_walk_124.2.2.1 rfl rfl ?_
                  refine s_get hX fX9_53 oC0 rfl zcdX9_walk_124.2.2.2.1 ?_
                  refine s_get hX fX9_230 oC34 rfl zcdX9_walk_124.2.2.2.2.1 ?_
                  exact e_ireti hX hR zcdX9_walk_124.2.2.2.2.2.1 h
                refine e_if h (fun c2 h => ?_) (fun c2 h => ?_)
                · refine s_tabIn (tgt := 136) (off := 41) hX zcdX9_walk_84.2.2.2.2.2.1 (by omega) (by omega) (by rw [c2]; rfl) (by decide) ?_
                  refine s_aload_n (k := 0) hX zcdX9_walk_124.2.2.2.2.2.2.1 rfl rfl ?_
                  refine s_get hX fX9_53 oC0 rfl zcdX9_walk_124.2.2.2.2.2.2.2 ?_
                  refine s_get hX fX9_232 oC34 rfl zcdX9_walk_140.1 ?_
                  exact e_ireti hX hR zcdX9_walk_140.2.1 h
                refine s_tabOut (tgt := 144) hX zcdX9_walk_84.2.2.2.2.2.1 (by omega) (by decide) ?_
                refine s_aload_n (k := 0) hX zcdX9_walk_140.2.2.1 rfl rfl ?_
                refine s_get hX fX9_53 oC0 rfl zcdX9_walk_140.2.2.2.1 ?_
                refine s_get hX fX9_230 oC34 rfl zcdX9_walk_140.2.2.2.2.1 ?_
                refine s_bipush (v := (nI 21)) hX zcdX9_walk_140.2.2.2.2.2.1 (by decide) ?_
                refine e_icmp_ne (tgt := 160) hX zcdX9_walk_140.2.2.2.2.2.2.1 (by decide) (m_eq (by decide +kernel)) h (fun h => ?_) (fun h => ?_)
                · refine s_iconst (v := (nI 0)) hX zcdX9_walk_157.2.1 (by decide) ?_
                  exact e_ireti hX hR zcdX9_walk_157.2.2 h
                · refine s_iconst (v := (nI 1)) hX zcdX9_walk_140.2.2.2.2.2.2.2 (by decide) ?_
                  refine s_goto (tgt := 161) hX zcdX9_walk_157.1 (by decide) ?_
                  exact e_ireti hX hR zcdX9_walk_157.2.2 h
              · refine s_aload_n (k := 0) hX zcdX9_walk_68.2.1 rfl rfl ?_
                refine s_get hX fX9_25 oC0 rfl zcdX9_walk_68.2.2.1 ?_
                refine s_get hX fX9_220 oC19 rfl zcdX9_walk_68.2.2.2.1 ?_
                exact e_ireti hX hR zcdX9_walk_68.2.2.2.2.1 h
            · refine s_iconst (v := (-1)) hX zcdX9_walk_37.2.2.2.2.2.1 (by decide) ?_
              exact e_ireti hX hR zcdX9_walk_37.2.2.2.2.2.2.1 h
