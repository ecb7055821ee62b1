theorem zcdX2_isStepFrom_0 : decode cX2_isStepFrom 0 = .ok (.iload_n 1, 1) ∧ decode cX2_isStepFrom 1 = .ok (.ifCond .lt 20, 3) ∧ decode cX2_isStepFrom 4 = .ok (.iload_n 1, 1) ∧ decode cX2_isStepFrom 5 = .ok (.bipush 40, 2) ∧ decode cX2_isStepFrom 7 = .ok (.if_icmp .ge 14, 3) ∧ decode cX2_isStepFrom 10 = .ok (.aload_n 0, 1) ∧ decode cX2_isStepFrom 11 = .ok (.getfield 9, 3) ∧ decode cX2_isStepFrom 14 = .ok (.iload_n 1, 1) := by decide +kernel
theorem zcdX2_isStepFrom_15 : decode cX2_isStepFrom 15 = .ok (.iaload, 1) ∧ decode cX2_isStepFrom 16 = .ok (.iload_n 2, 1) ∧ decode cX2_isStepFrom 17 = .ok (.isub, 1) ∧ decode cX2_isStepFrom 18 = .ok (.goto 4, 3) ∧ decode cX2_isStepFrom 21 = .ok (.iconst 0, 1) ∧ decode cX2_isStepFrom 22 = .ok (.istore 5, 2) ∧ decode cX2_isStepFrom 24 = .ok (.aload_n 0, 1) ∧ decode cX2_isStepFrom 25 = .ok (.iload_n 1, 1) := by decide +kernel
theorem zcdX2_isStepFrom_26 : decode cX2_isStepFrom 26 = .ok (.invokevirtual 63, 3) ∧ decode cX2_isStepFrom 29 = .ok (.iload_n 3, 1) ∧ decode cX2_isStepFrom 30 = .ok (.isub, 1) ∧ decode cX2_isStepFrom 31 = .ok (.istore 6, 2) ∧ decode cX2_isStepFrom 33 = .ok (.iload 5, 2) ∧ decode cX2_isStepFrom 35 = .ok (.iload 5, 2) ∧ decode cX2_isStepFrom 37 = .ok (.imul, 1) ∧ decode cX2_isStepFrom 38 = .ok (.iload 6, 2) := by decide +kernel
theorem zcdX2_isStepFrom_40 : decode cX2_isStepFrom 40 = .ok (.iload 6, 2) ∧ decode cX2_isStepFrom 42 = .ok (.imul, 1) ∧ decode cX2_isStepFrom 43 = .ok (.iadd, 1) ∧ decode cX2_isStepFrom 44 = .ok (.iload 4, 2) ∧ decode cX2_isStepFrom 46 = .ok (.iload 4, 2) ∧ decode cX2_isStepFrom 48 = .ok (.imul, 1) ∧ decode cX2_isStepFrom 49 = .ok (.if_icmp .gt 7, 3) ∧ decode cX2_isStepFrom 52 = .ok (.iconst 1, 1) := by decide +kernel
theorem zcdX2_isStepFrom_53 : decode cX2_isStepFrom 53 = .ok (.goto 4, 3) ∧ decode cX2_isStepFrom 56 = .ok (.iconst 0, 1) ∧ decode cX2_isStepFrom 57 = .ok (.ireturn, 1) ∧ decode cX2_isStep 0 = .ok (.iload_n 1, 1) ∧ decode cX2_isStep 1 = .ok (.iload_n 2, 1) ∧ decode cX2_isStep 2 = .ok (.if_icmp .eq 11, 3) ∧ decode cX2_isStep 5 = .ok (.aload_n 0, 1) ∧ decode cX2_isStep 6 = .ok (.iload_n 1, 1) := by decide +kernel
theorem zcdX2_isStep_7 : decode cX2_isStep 7 = .ok (.invokevirtual 56, 3) ∧ decode cX2_isStep 10 = .ok (.ifCond .ne 5, 3) ∧ decode cX2_isStep 13 = .ok (.iconst 0, 1) ∧ decode cX2_isStep 14 = .ok (.ireturn, 1) ∧ decode cX2_isStep 15 = .ok (.iload_n 2, 1) ∧ decode cX2_isStep 16 = .ok (.ifCond .lt 44, 3) ∧ decode cX2_isStep 19 = .ok (.iload_n 2, 1) ∧ decode cX2_isStep 20 = .ok (.bipush 40, 2) := by decide +kernel
theorem zcdX2_isStep_22 : decode cX2_isStep 22 = .ok (.if_icmp .ge 38, 3) ∧ decode cX2_isStep 25 = .ok (.aload_n 0, 1) ∧ decode cX2_isStep 26 = .ok (.iload_n 2, 1) ∧ decode cX2_isStep 27 = .ok (.invokevirtual 45, 3) ∧ decode cX2_isStep 30 = .ok (.ifCond .eq 28, 3) ∧ decode cX2_isStep 33 = .ok (.aload_n 0, 1) ∧ decode cX2_isStep 34 = .ok (.iload_n 1, 1) ∧ decode cX2_isStep 35 = .ok (.aload_n 0, 1) := by decide +kernel
theorem zcdX2_isStep_36 : decode cX2_isStep 36 = .ok (.getfield 9, 3) ∧ decode cX2_isStep 39 = .ok (.iload_n 2, 1) ∧ decode cX2_isStep 40 = .ok (.iaload, 1) ∧ decode cX2_isStep 41 = .ok (.aload_n 0, 1) ∧ decode cX2_isStep 42 = .ok (.getfield 15, 3) ∧ decode cX2_isStep 45 = .ok (.iload_n 2, 1) ∧ decode cX2_isStep 46 = .ok (.iaload, 1) ∧ decode cX2_isStep 47 = .ok (.iload_n 3, 1) := by decide +kernel
theorem zcdX2_isStep_48 : decode cX2_isStep 48 = .ok (.invokevirtual 59, 3) ∧ decode cX2_isStep 51 = .ok (.ifCond .eq 7, 3) ∧ decode cX2_isStep 54 = .ok (.iconst 1, 1) ∧ decode cX2_isStep 55 = .ok (.goto 4, 3) ∧ decode cX2_isStep 58 = .ok (.iconst 0, 1) ∧ decode cX2_isStep 59 = .ok (.ireturn, 1) ∧ decode cX2_isStep 60 = .ok (.iload_n 2, 1) ∧ decode cX2_isStep 61 = .ok (.bipush 40, 2) := by decide +kernel
theorem zcdX2_isStep_63 : decode cX2_isStep 63 = .ok (.if_icmp .eq 9, 3) ∧ decode cX2_isStep 66 = .ok (.iload_n 2, 1) ∧ decode cX2_isStep 67 = .ok (.bipush 41, 2) ∧ decode cX2_isStep 69 = .ok (.if_icmp .ne 25, 3) ∧ decode cX2_isStep 72 = .ok (.aload_n 0, 1) ∧ decode cX2_isStep 73 = .ok (.iload_n 1, 1) ∧ decode cX2_isStep 74 = .ok (.invokevirtual 63, 3) ∧ decode cX2_isStep 77 = .ok (.aload_n 0, 1) := by decide +kernel
theorem zcdX2_isStep_78 : decode cX2_isStep 78 = .ok (.iload_n 2, 1) ∧ decode cX2_isStep 79 = .ok (.invokevirtual 63, 3) ∧ decode cX2_isStep 82 = .ok (.isub, 1) ∧ decode cX2_isStep 83 = .ok (.invokestatic 67, 3) ∧ decode cX2_isStep 86 = .ok (.iload_n 3, 1) ∧ decode cX2_isStep 87 = .ok (.if_icmp .gt 7, 3) ∧ decode cX2_isStep 90 = .ok (.iconst 1, 1) ∧ decode cX2_isStep 91 = .ok (.goto 4, 3) := by decide +kernel
theorem zcdX2_isStep_94 : decode cX2_isStep 94 = .ok (.iconst 0, 1) ∧ decode cX2_isStep 95 = .ok (.ireturn, 1) ∧ decode cX1_leave 0 = .ok (.iload_n 3, 1) ∧ decode cX1_leave 1 = .ok (.ifCond .lt 9, 3) ∧ decode cX1_leave 4 = .ok (.iload_n 3, 1) ∧ decode cX1_leave 5 = .ok (.bipush 40, 2) ∧ decode cX1_leave 7 = .ok (.if_icmp .lt 5, 3) ∧ decode cX1_leave 10 = .ok (.iconst 0, 1) := by decide +kernel
theorem zcdX1_leave_11 : decode cX1_leave 11 = .ok (.ireturn, 1) ∧ decode cX1_leave 12 = .ok (.aload_n 1, 1) ∧ decode cX1_leave 13 = .ok (.iload_n 3, 1) ∧ decode cX1_leave 14 = .ok (.bipush 41, 2) ∧ decode cX1_leave 16 = .ok (.iload_n 2, 1) ∧ decode cX1_leave 17 = .ok (.invokevirtual 39, 3) ∧ decode cX1_leave 20 = .ok (.ifCond .eq 5, 3) ∧ decode cX1_leave 23 = .ok (.iconst 1, 1) := by decide +kernel
theorem zcdX1_leave_24 : decode cX1_leave 24 = .ok (.ireturn, 1) ∧ decode cX1_leave 25 = .ok (.iconst 0, 1) ∧ decode cX1_leave 26 = .ok (.istore 4, 2) ∧ decode cX1_leave 28 = .ok (.iload 4, 2) ∧ decode cX1_leave 30 = .ok (.bipush 40, 2) ∧ decode cX1_leave 32 = .ok (.if_icmp .ge 30, 3) ∧ decode cX1_leave 35 = .ok (.aload_n 1, 1) ∧ decode cX1_leave 36 = .ok (.iload_n 3, 1) := by decide +kernel
theorem zcdX1_leave_37 : decode cX1_leave 37 = .ok (.iload 4, 2) ∧ decode cX1_leave 39 = .ok (.iload_n 2, 1) ∧ decode cX1_leave 40 = .ok (.invokevirtual 39, 3) ∧ decode cX1_leave 43 = .ok (.ifCond .eq 13, 3) ∧ decode cX1_leave 46 = .ok (.aload_n 0, 1) ∧ decode cX1_leave 47 = .ok (.iload 4, 2) ∧ decode cX1_leave 49 = .ok (.iload_n 3, 1) ∧ decode cX1_leave 50 = .ok (.bipush 40, 2) := by decide +kernel
theorem zcdX1_leave_52 : decode cX1_leave 52 = .ok (.iadd, 1) ∧ decode cX1_leave 53 = .ok (.invokevirtual 45, 3) ∧ decode cX1_leave 56 = .ok (.iinc 4 1, 3) ∧ decode cX1_leave 59 = .ok (.goto (-31), 3) ∧ decode cX1_leave 62 = .ok (.aload_n 0, 1) ∧ decode cX1_leave 63 = .ok (.iload_n 3, 1) ∧ decode cX1_leave 64 = .ok (.iload_n 3, 1) ∧ decode cX1_leave 65 = .ok (.bipush 40, 2) := by decide +kernel
theorem zcdX1_leave_67 : decode cX1_leave 67 = .ok (.iadd, 1) ∧ decode cX1_leave 68 = .ok (.invokevirtual 45, 3) ∧ decode cX1_leave 71 = .ok (.iconst 0, 1) ∧ decode cX1_leave 72 = .ok (.ireturn, 1) ∧ decode cX1_search 0 = .ok (.aload_n 0, 1) ∧ decode cX1_search 1 = .ok (.getfield 15, 3) ∧ decode cX1_search 4 = .ok (.iconst (-1), 1) ∧ decode cX1_search 5 = .ok (.invokestatic 25, 3) := by decide +kernel
theorem zcdX1_search_8 : decode cX1_search 8 = .ok (.aload_n 0, 1) ∧ decode cX1_search 9 = .ok (.iconst 0, 1) ∧ decode cX1_search 10 = .ok (.putfield 21, 3) ∧ decode cX1_search 13 = .ok (.iconst 0, 1) ∧ decode cX1_search 14 = .ok (.istore_n 3, 1) ∧ decode cX1_search 15 = .ok (.iload_n 3, 1) ∧ decode cX1_search 16 = .ok (.bipush 40, 2) ∧ decode cX1_search 18 = .ok (.if_icmp .ge 27, 3) := by decide +kernel
theorem zcdX1_search_21 : decode cX1_search 21 = .ok (.aload_n 1, 1) ∧ decode cX1_search 22 = .ok (.bipush 40, 2) ∧ decode cX1_search 24 = .ok (.iload_n 3, 1) ∧ decode cX1_search 25 = .ok (.iload_n 2, 1) ∧ decode cX1_search 26 = .ok (.invokevirtual 39, 3) ∧ decode cX1_search 29 = .ok (.ifCond .eq 10, 3) ∧ decode cX1_search 32 = .ok (.aload_n 0, 1) ∧ decode cX1_search 33 = .ok (.iload_n 3, 1) := by decide +kernel
theorem zcdX1_search_34 : decode cX1_search 34 = .ok (.bipush (-2), 2) ∧ decode cX1_search 36 = .ok (.invokevirtual 45, 3) ∧ decode cX1_search 39 = .ok (.iinc 3 1, 3) ∧ decode cX1_search 42 = .ok (.goto (-27), 3) ∧ decode cX1_search 45 = .ok (.iconst 0, 1) ∧ decode cX1_search 46 = .ok (.istore_n 3, 1) ∧ decode cX1_search 47 = .ok (.iload_n 3, 1) ∧ decode cX1_search 48 = .ok (.aload_n 0, 1) := by decide +kernel
theorem zcdX1_search_49 : decode cX1_search 49 = .ok (.getfield 21, 3) ∧ decode cX1_search 52 = .ok (.if_icmp .ge 56, 3) ∧ decode cX1_search 55 = .ok (.iload_n 3, 1) ∧ decode cX1_search 56 = .ok (.bipush 80, 2) ∧ decode cX1_search 58 = .ok (.if_icmp .ge 50, 3) ∧ decode cX1_search 61 = .ok (.aload_n 0, 1) ∧ decode cX1_search 62 = .ok (.getfield 18, 3) ∧ decode cX1_search 65 = .ok (.iload_n 3, 1) := by decide +kernel
theorem zcdX1_search_66 : decode cX1_search 66 = .ok (.iaload, 1) ∧ decode cX1_search 67 = .ok (.istore 4, 2) ∧ decode cX1_search 69 = .ok (.iload 4, 2) ∧ decode cX1_search 71 = .ok (.bipush 40, 2) ∧ decode cX1_search 73 = .ok (.if_icmp .ge 12, 3) ∧ decode cX1_search 76 = .ok (.aload_n 0, 1) ∧ decode cX1_search 77 = .ok (.iload 4, 2) ∧ decode cX1_search 79 = .ok (.invokevirtual 49, 3) := by decide +kernel
theorem zcdX1_search_82 : decode cX1_search 82 = .ok (.goto 20, 3) ∧ decode cX1_search 85 = .ok (.aload_n 0, 1) ∧ decode cX1_search 86 = .ok (.aload_n 1, 1) ∧ decode cX1_search 87 = .ok (.iload_n 2, 1) ∧ decode cX1_search 88 = .ok (.iload 4, 2) ∧ decode cX1_search 90 = .ok (.bipush 40, 2) ∧ decode cX1_search 92 = .ok (.isub, 1) ∧ decode cX1_search 93 = .ok (.invokevirtual 52, 3) := by decide +kernel
theorem zcdX1_search_96 : decode cX1_search 96 = .ok (.ifCond .eq 6, 3) ∧ decode cX1_search 99 = .ok (.iload 4, 2) ∧ decode cX1_search 101 = .ok (.ireturn, 1) ∧ decode cX1_search 102 = .ok (.iinc 3 1, 3) ∧ decode cX1_search 105 = .ok (.goto (-58), 3) ∧ decode cX1_search 108 = .ok (.iconst (-1), 1) ∧ decode cX1_search 109 = .ok (.ireturn, 1) ∧ decode cX1_join 0 = .ok (.iload_n 2, 1) := by decide +kernel
theorem zcdX1_join_1 : decode cX1_join 1 = .ok (.ifCond .lt 25, 3) ∧ decode cX1_join 4 = .ok (.iload_n 2, 1) ∧ decode cX1_join 5 = .ok (.bipush 40, 2) ∧ decode cX1_join 7 = .ok (.if_icmp .ge 19, 3) ∧ decode cX1_join 10 = .ok (.aload_n 0, 1) ∧ decode cX1_join 11 = .ok (.getfield 9, 3) ∧ decode cX1_join 14 = .ok (.iload_n 2, 1) ∧ decode cX1_join 15 = .ok (.iload_n 2, 1) := by decide +kernel
theorem zcdX1_join_16 : decode cX1_join 16 = .ok (.iload_n 1, 1) ∧ decode cX1_join 17 = .ok (.if_icmp .ne 7, 3) ∧ decode cX1_join 20 = .ok (.iconst (-1), 1) ∧ decode cX1_join 21 = .ok (.goto 4, 3) ∧ decode cX1_join 24 = .ok (.iload_n 1, 1) ∧ decode cX1_join 25 = .ok (.iastore, 1) ∧ decode cX1_join 26 = .ok (.return_, 1) ∧ decode cX1_weave 0 = .ok (.iload_n 1, 1) := by decide +kernel
theorem zcdX1_weave_1 : decode cX1_weave 1 = .ok (.istore_n 2, 1) ∧ decode cX1_weave 2 = .ok (.bipush 41, 2) ∧ decode cX1_weave 4 = .ok (.istore_n 3, 1) ∧ decode cX1_weave 5 = .ok (.iconst 0, 1) ∧ decode cX1_weave 6 = .ok (.istore 4, 2) ∧ decode cX1_weave 8 = .ok (.iload 4, 2) ∧ decode cX1_weave 10 = .ok (.bipush 80, 2) ∧ decode cX1_weave 12 = .ok (.if_icmp .gt 65, 3) := by decide +kernel
theorem zcdX1_weave_15 : decode cX1_weave 15 = .ok (.iload_n 2, 1) ∧ decode cX1_weave 16 = .ok (.ifCond .lt 61, 3) ∧ decode cX1_weave 19 = .ok (.iload_n 2, 1) ∧ decode cX1_weave 20 = .ok (.bipush 80, 2) ∧ decode cX1_weave 22 = .ok (.if_icmp .ge 55, 3) ∧ decode cX1_weave 25 = .ok (.iload_n 2, 1) ∧ decode cX1_weave 26 = .ok (.bipush 40, 2) ∧ decode cX1_weave 28 = .ok (.if_icmp .lt 15, 3) := by decide +kernel
theorem zcdX1_weave_31 : decode cX1_weave 31 = .ok (.aload_n 0, 1) ∧ decode cX1_weave 32 = .ok (.iload_n 2, 1) ∧ decode cX1_weave 33 = .ok (.bipush 40, 2) ∧ decode cX1_weave 35 = .ok (.isub, 1) ∧ decode cX1_weave 36 = .ok (.iload_n 3, 1) ∧ decode cX1_weave 37 = .ok (.invokevirtual 56, 3) ∧ decode cX1_weave 40 = .ok (.goto 22, 3) ∧ decode cX1_weave 43 = .ok (.aload_n 0, 1) := by decide +kernel
theorem zcdX1_weave_44 : decode cX1_weave 44 = .ok (.getfield 15, 3) ∧ decode cX1_weave 47 = .ok (.iload_n 2, 1) ∧ decode cX1_weave 48 = .ok (.iaload, 1) ∧ decode cX1_weave 49 = .ok (.bipush (-2), 2) ∧ decode cX1_weave 51 = .ok (.if_icmp .ne 11, 3) ∧ decode cX1_weave 54 = .ok (.aload_n 0, 1) ∧ decode cX1_weave 55 = .ok (.getfield 9, 3) ∧ decode cX1_weave 58 = .ok (.iload_n 2, 1) := by decide +kernel
theorem zcdX1_weave_59 : decode cX1_weave 59 = .ok (.bipush 40, 2) ∧ decode cX1_weave 61 = .ok (.iastore, 1) ∧ decode cX1_weave 62 = .ok (.iload_n 2, 1) ∧ decode cX1_weave 63 = .ok (.istore_n 3, 1) ∧ decode cX1_weave 64 = .ok (.aload_n 0, 1) ∧ decode cX1_weave 65 = .ok (.getfield 15, 3) ∧ decode cX1_weave 68 = .ok (.iload_n 2, 1) ∧ decode cX1_weave 69 = .ok (.iaload, 1) := by decide +kernel
theorem zcdX1_weave_70 : decode cX1_weave 70 = .ok (.istore_n 2, 1) ∧ decode cX1_weave 71 = .ok (.iinc 4 1, 3) ∧ decode cX1_weave 74 = .ok (.goto (-66), 3) ∧ decode cX1_weave 77 = .ok (.return_, 1) ∧ decode cX1_fewest 0 = .ok (.aload_n 0, 1) ∧ decode cX1_fewest 1 = .ok (.getfield 9, 3) ∧ decode cX1_fewest 4 = .ok (.iconst (-1), 1) ∧ decode cX1_fewest 5 = .ok (.invokestatic 25, 3) := by decide +kernel
theorem zcdX1_fewest_8 : decode cX1_fewest 8 = .ok (.iconst 0, 1) ∧ decode cX1_fewest 9 = .ok (.istore_n 3, 1) ∧ decode cX1_fewest 10 = .ok (.iload_n 3, 1) ∧ decode cX1_fewest 11 = .ok (.bipush 40, 2) ∧ decode cX1_fewest 13 = .ok (.if_icmp .ge 31, 3) ∧ decode cX1_fewest 16 = .ok (.aload_n 0, 1) ∧ decode cX1_fewest 17 = .ok (.aload_n 1, 1) ∧ decode cX1_fewest 18 = .ok (.iload_n 2, 1) := by decide +kernel
theorem zcdX1_fewest_19 : decode cX1_fewest 19 = .ok (.invokevirtual 31, 3) ∧ decode cX1_fewest 22 = .ok (.istore 4, 2) ∧ decode cX1_fewest 24 = .ok (.iload 4, 2) ∧ decode cX1_fewest 26 = .ok (.iconst (-1), 1) ∧ decode cX1_fewest 27 = .ok (.if_icmp .ne 5, 3) ∧ decode cX1_fewest 30 = .ok (.iload_n 3, 1) ∧ decode cX1_fewest 31 = .ok (.ireturn, 1) ∧ decode cX1_fewest 32 = .ok (.aload_n 0, 1) := by decide +kernel
theorem zcdX1_fewest_33 : decode cX1_fewest 33 = .ok (.iload 4, 2) ∧ decode cX1_fewest 35 = .ok (.invokevirtual 35, 3) ∧ decode cX1_fewest 38 = .ok (.iinc 3 1, 3) ∧ decode cX1_fewest 41 = .ok (.goto (-31), 3) ∧ decode cX1_fewest 44 = .ok (.bipush 40, 2) ∧ decode cX1_fewest 46 = .ok (.ireturn, 1) ∧ decode cX2_clearStones 0 = .ok (.iconst 0, 1) ∧ decode cX2_clearStones 1 = .ok (.istore_n 1, 1) := by decide +kernel
theorem zcdX2_clearStones_2 : decode cX2_clearStones 2 = .ok (.iload_n 1, 1) ∧ decode cX2_clearStones 3 = .ok (.bipush 40, 2) ∧ decode cX2_clearStones 5 = .ok (.if_icmp .ge 16, 3) ∧ decode cX2_clearStones 8 = .ok (.aload_n 0, 1) ∧ decode cX2_clearStones 9 = .ok (.getfield 21, 3) ∧ decode cX2_clearStones 12 = .ok (.iload_n 1, 1) ∧ decode cX2_clearStones 13 = .ok (.iconst 0, 1) ∧ decode cX2_clearStones 14 = .ok (.bastore, 1) := by decide +kernel
theorem zcdX2_clearStones_15 : decode cX2_clearStones 15 = .ok (.iinc 1 1, 3) ∧ decode cX2_clearStones 18 = .ok (.goto (-16), 3) ∧ decode cX2_clearStones 21 = .ok (.return_, 1) ∧ decode cX2_copyStones 0 = .ok (.iconst 0, 1) ∧ decode cX2_copyStones 1 = .ok (.istore_n 2, 1) ∧ decode cX2_copyStones 2 = .ok (.iload_n 2, 1) ∧ decode cX2_copyStones 3 = .ok (.bipush 40, 2) ∧ decode cX2_copyStones 5 = .ok (.if_icmp .ge 69, 3) := by decide +kernel
theorem zcdX2_copyStones_8 : decode cX2_copyStones 8 = .ok (.aload_n 0, 1) ∧ decode cX2_copyStones 9 = .ok (.getfield 9, 3) ∧ decode cX2_copyStones 12 = .ok (.iload_n 2, 1) ∧ decode cX2_copyStones 13 = .ok (.aload_n 1, 1) ∧ decode cX2_copyStones 14 = .ok (.getfield 9, 3) ∧ decode cX2_copyStones 17 = .ok (.iload_n 2, 1) ∧ decode cX2_copyStones 18 = .ok (.iaload, 1) ∧ decode cX2_copyStones 19 = .ok (.iastore, 1) := by decide +kernel
theorem zcdX2_copyStones_20 : decode cX2_copyStones 20 = .ok (.aload_n 0, 1) ∧ decode cX2_copyStones 21 = .ok (.getfield 15, 3) ∧ decode cX2_copyStones 24 = .ok (.iload_n 2, 1) ∧ decode cX2_copyStones 25 = .ok (.aload_n 1, 1) ∧ decode cX2_copyStones 26 = .ok (.getfield 15, 3) ∧ decode cX2_copyStones 29 = .ok (.iload_n 2, 1) ∧ decode cX2_copyStones 30 = .ok (.iaload, 1) ∧ decode cX2_copyStones 31 = .ok (.iastore, 1) := by decide +kernel
theorem zcdX2_copyStones_32 : decode cX2_copyStones 32 = .ok (.aload_n 0, 1) ∧ decode cX2_copyStones 33 = .ok (.getfield 18, 3) ∧ decode cX2_copyStones 36 = .ok (.iload_n 2, 1) ∧ decode cX2_copyStones 37 = .ok (.aload_n 1, 1) ∧ decode cX2_copyStones 38 = .ok (.getfield 18, 3) ∧ decode cX2_copyStones 41 = .ok (.iload_n 2, 1) ∧ decode cX2_copyStones 42 = .ok (.iaload, 1) ∧ decode cX2_copyStones 43 = .ok (.iastore, 1) := by decide +kernel
theorem zcdX2_copyStones_44 : decode cX2_copyStones 44 = .ok (.aload_n 0, 1) ∧ decode cX2_copyStones 45 = .ok (.getfield 21, 3) ∧ decode cX2_copyStones 48 = .ok (.iload_n 2, 1) ∧ decode cX2_copyStones 49 = .ok (.aload_n 1, 1) ∧ decode cX2_copyStones 50 = .ok (.getfield 21, 3) ∧ decode cX2_copyStones 53 = .ok (.iload_n 2, 1) ∧ decode cX2_copyStones 54 = .ok (.baload, 1) ∧ decode cX2_copyStones 55 = .ok (.bastore, 1) := by decide +kernel
theorem zcdX2_copyStones_56 : decode cX2_copyStones 56 = .ok (.aload_n 0, 1) ∧ decode cX2_copyStones 57 = .ok (.getfield 25, 3) ∧ decode cX2_copyStones 60 = .ok (.iload_n 2, 1) ∧ decode cX2_copyStones 61 = .ok (.aload_n 1, 1) ∧ decode cX2_copyStones 62 = .ok (.getfield 25, 3) ∧ decode cX2_copyStones 65 = .ok (.iload_n 2, 1) ∧ decode cX2_copyStones 66 = .ok (.baload, 1) ∧ decode cX2_copyStones 67 = .ok (.bastore, 1) := by decide +kernel
theorem zcdX2_copyStones_68 : decode cX2_copyStones 68 = .ok (.iinc 2 1, 3) ∧ decode cX2_copyStones 71 = .ok (.goto (-69), 3) ∧ decode cX2_copyStones 74 = .ok (.return_, 1) ∧ decode cX2_copyAll 0 = .ok (.aload_n 0, 1) ∧ decode cX2_copyAll 1 = .ok (.aload_n 1, 1) ∧ decode cX2_copyAll 2 = .ok (.invokevirtual 35, 3) ∧ decode cX2_copyAll 5 = .ok (.aload_n 0, 1) ∧ decode cX2_copyAll 6 = .ok (.aload_n 1, 1) := by decide +kernel
theorem zcdX2_copyAll_7 : decode cX2_copyAll 7 = .ok (.getfield 28, 3) ∧ decode cX2_copyAll 10 = .ok (.putfield 28, 3) ∧ decode cX2_copyAll 13 = .ok (.aload_n 0, 1) ∧ decode cX2_copyAll 14 = .ok (.aload_n 1, 1) ∧ decode cX2_copyAll 15 = .ok (.getfield 32, 3) ∧ decode cX2_copyAll 18 = .ok (.putfield 32, 3) ∧ decode cX2_copyAll 21 = .ok (.return_, 1) ∧ decode cX2_squares 0 = .ok (.aload_n 0, 1) := by decide +kernel
theorem zcdX2_squares_1 : decode cX2_squares 1 = .ok (.iload_n 1, 1) ∧ decode cX2_squares 2 = .ok (.invokevirtual 52, 3) ∧ decode cX2_squares 5 = .ok (.ifCond .eq 11, 3) ∧ decode cX2_squares 8 = .ok (.aload_n 0, 1) ∧ decode cX2_squares 9 = .ok (.iload_n 2, 1) ∧ decode cX2_squares 10 = .ok (.invokevirtual 52, 3) ∧ decode cX2_squares 13 = .ok (.ifCond .ne 5, 3) ∧ decode cX2_squares 16 = .ok (.iconst 0, 1) := by decide +kernel
theorem zcdX2_squares_17 : decode cX2_squares 17 = .ok (.ireturn, 1) ∧ decode cX2_squares 18 = .ok (.aload_n 0, 1) ∧ decode cX2_squares 19 = .ok (.getfield 9, 3) ∧ decode cX2_squares 22 = .ok (.iload_n 1, 1) ∧ decode cX2_squares 23 = .ok (.iaload, 1) ∧ decode cX2_squares 24 = .ok (.aload_n 0, 1) ∧ decode cX2_squares 25 = .ok (.getfield 9, 3) ∧ decode cX2_squares 28 = .ok (.iload_n 2, 1) := by decide +kernel
theorem zcdX2_squares_29 : decode cX2_squares 29 = .ok (.iaload, 1) ∧ decode cX2_squares 30 = .ok (.isub, 1) ∧ decode cX2_squares 31 = .ok (.istore_n 3, 1) ∧ decode cX2_squares 32 = .ok (.aload_n 0, 1) ∧ decode cX2_squares 33 = .ok (.getfield 15, 3) ∧ decode cX2_squares 36 = .ok (.iload_n 1, 1) ∧ decode cX2_squares 37 = .ok (.iaload, 1) ∧ decode cX2_squares 38 = .ok (.aload_n 0, 1) := by decide +kernel
theorem zcdX2_squares_39 : decode cX2_squares 39 = .ok (.getfield 15, 3) ∧ decode cX2_squares 42 = .ok (.iload_n 2, 1) ∧ decode cX2_squares 43 = .ok (.iaload, 1) ∧ decode cX2_squares 44 = .ok (.isub, 1) ∧ decode cX2_squares 45 = .ok (.istore 4, 2) ∧ decode cX2_squares 47 = .ok (.iload_n 3, 1) ∧ decode cX2_squares 48 = .ok (.iload_n 3, 1) ∧ decode cX2_squares 49 = .ok (.imul, 1) := by decide +kernel
theorem zcdX2_squares_50 : decode cX2_squares 50 = .ok (.iload 4, 2) ∧ decode cX2_squares 52 = .ok (.iload 4, 2) ∧ decode cX2_squares 54 = .ok (.imul, 1) ∧ decode cX2_squares 55 = .ok (.iadd, 1) ∧ decode cX2_squares 56 = .ok (.ireturn, 1) ∧ decode cX2_countClose 0 = .ok (.iconst 0, 1) ∧ decode cX2_countClose 1 = .ok (.istore_n 2, 1) ∧ decode cX2_countClose 2 = .ok (.iconst 0, 1) := by decide +kernel
theorem zcdX2_countClose_3 : decode cX2_countClose 3 = .ok (.istore_n 3, 1) ∧ decode cX2_countClose 4 = .ok (.iload_n 3, 1) ∧ decode cX2_countClose 5 = .ok (.bipush 40, 2) ∧ decode cX2_countClose 7 = .ok (.if_icmp .ge 36, 3) ∧ decode cX2_countClose 10 = .ok (.iload_n 3, 1) ∧ decode cX2_countClose 11 = .ok (.iload_n 1, 1) ∧ decode cX2_countClose 12 = .ok (.if_icmp .eq 25, 3) ∧ decode cX2_countClose 15 = .ok (.aload_n 0, 1) := by decide +kernel
theorem zcdX2_countClose_16 : decode cX2_countClose 16 = .ok (.getfield 21, 3) ∧ decode cX2_countClose 19 = .ok (.iload_n 3, 1) ∧ decode cX2_countClose 20 = .ok (.baload, 1) ∧ decode cX2_countClose 21 = .ok (.ifCond .eq 16, 3) ∧ decode cX2_countClose 24 = .ok (.aload_n 0, 1) ∧ decode cX2_countClose 25 = .ok (.iload_n 1, 1) ∧ decode cX2_countClose 26 = .ok (.iload_n 3, 1) ∧ decode cX2_countClose 27 = .ok (.invokevirtual 49, 3) := by decide +kernel
theorem zcdX2_countClose_30 : decode cX2_countClose 30 = .ok (.iconst 4, 1) ∧ decode cX2_countClose 31 = .ok (.if_icmp .gt 6, 3) ∧ decode cX2_countClose 34 = .ok (.iinc 2 1, 3) ∧ decode cX2_countClose 37 = .ok (.iinc 3 1, 3) ∧ decode cX2_countClose 40 = .ok (.goto (-36), 3) ∧ decode cX2_countClose 43 = .ok (.iload_n 2, 1) ∧ decode cX2_countClose 44 = .ok (.ireturn, 1) ∧ decode cX2_countSunk 0 = .ok (.iconst 0, 1) := by decide +kernel
theorem zcdX2_countSunk_1 : decode cX2_countSunk 1 = .ok (.istore_n 1, 1) ∧ decode cX2_countSunk 2 = .ok (.iconst 0, 1) ∧ decode cX2_countSunk 3 = .ok (.istore_n 2, 1) ∧ decode cX2_countSunk 4 = .ok (.iload_n 2, 1) ∧ decode cX2_countSunk 5 = .ok (.bipush 40, 2) ∧ decode cX2_countSunk 7 = .ok (.if_icmp .ge 35, 3) ∧ decode cX2_countSunk 10 = .ok (.iload_n 1, 1) ∧ decode cX2_countSunk 11 = .ok (.aload_n 0, 1) := by decide +kernel
theorem zcdX2_countSunk_12 : decode cX2_countSunk 12 = .ok (.getfield 21, 3) ∧ decode cX2_countSunk 15 = .ok (.iload_n 2, 1) ∧ decode cX2_countSunk 16 = .ok (.baload, 1) ∧ decode cX2_countSunk 17 = .ok (.ifCond .eq 16, 3) ∧ decode cX2_countSunk 20 = .ok (.aload_n 0, 1) ∧ decode cX2_countSunk 21 = .ok (.getfield 25, 3) ∧ decode cX2_countSunk 24 = .ok (.iload_n 2, 1) ∧ decode cX2_countSunk 25 = .ok (.baload, 1) := by decide +kernel
theorem zcdX2_countSunk_26 : decode cX2_countSunk 26 = .ok (.ifCond .eq 7, 3) ∧ decode cX2_countSunk 29 = .ok (.iconst 1, 1) ∧ decode cX2_countSunk 30 = .ok (.goto 4, 3) ∧ decode cX2_countSunk 33 = .ok (.iconst 0, 1) ∧ decode cX2_countSunk 34 = .ok (.iadd, 1) ∧ decode cX2_countSunk 35 = .ok (.istore_n 1, 1) ∧ decode cX2_countSunk 36 = .ok (.iinc 2 1, 3) ∧ decode cX2_countSunk 39 = .ok (.goto (-35), 3) := by decide +kernel
theorem zcdX2_countSunk_42 : decode cX2_countSunk 42 = .ok (.iload_n 1, 1) ∧ decode cX2_countSunk 43 = .ok (.ireturn, 1) ∧ decode cX2_countTold 0 = .ok (.iconst 0, 1) ∧ decode cX2_countTold 1 = .ok (.istore_n 1, 1) ∧ decode cX2_countTold 2 = .ok (.iconst 0, 1) ∧ decode cX2_countTold 3 = .ok (.istore_n 2, 1) ∧ decode cX2_countTold 4 = .ok (.iload_n 2, 1) ∧ decode cX2_countTold 5 = .ok (.bipush 40, 2) := by decide +kernel
theorem zcdX2_countTold_7 : decode cX2_countTold 7 = .ok (.if_icmp .ge 26, 3) ∧ decode cX2_countTold 10 = .ok (.iload_n 1, 1) ∧ decode cX2_countTold 11 = .ok (.aload_n 0, 1) ∧ decode cX2_countTold 12 = .ok (.getfield 21, 3) ∧ decode cX2_countTold 15 = .ok (.iload_n 2, 1) ∧ decode cX2_countTold 16 = .ok (.baload, 1) ∧ decode cX2_countTold 17 = .ok (.ifCond .eq 7, 3) ∧ decode cX2_countTold 20 = .ok (.iconst 1, 1) := by decide +kernel
theorem zcdX2_countTold_21 : decode cX2_countTold 21 = .ok (.goto 4, 3) ∧ decode cX2_countTold 24 = .ok (.iconst 0, 1) ∧ decode cX2_countTold 25 = .ok (.iadd, 1) ∧ decode cX2_countTold 26 = .ok (.istore_n 1, 1) ∧ decode cX2_countTold 27 = .ok (.iinc 2 1, 3) ∧ decode cX2_countTold 30 = .ok (.goto (-26), 3) ∧ decode cX2_countTold 33 = .ok (.iload_n 1, 1) ∧ decode cX2_countTold 34 = .ok (.ireturn, 1) := by decide +kernel
theorem zcdX2_draw_0 : decode cX2_draw 0 = .ok (.aload_n 0, 1) ∧ decode cX2_draw 1 = .ok (.sipush 25173, 3) ∧ decode cX2_draw 4 = .ok (.aload_n 0, 1) ∧ decode cX2_draw 5 = .ok (.getfield 32, 3) ∧ decode cX2_draw 8 = .ok (.imul, 1) ∧ decode cX2_draw 9 = .ok (.sipush 13849, 3) ∧ decode cX2_draw 12 = .ok (.iadd, 1) ∧ decode cX2_draw 13 = .ok (.ldc 55, 2) := by decide +kernel
theorem zcdX2_draw_15 : decode cX2_draw 15 = .ok (.iand, 1) ∧ decode cX2_draw 16 = .ok (.putfield 32, 3) ∧ decode cX2_draw 19 = .ok (.aload_n 0, 1) ∧ decode cX2_draw 20 = .ok (.getfield 32, 3) ∧ decode cX2_draw 23 = .ok (.bipush 10, 2) ∧ decode cX2_draw 25 = .ok (.irem, 1) ∧ decode cX2_draw 26 = .ok (.ireturn, 1) ∧ decode cX2_lay 0 = .ok (.iload_n 1, 1) := by decide +kernel
theorem zcdX2_lay_1 : decode cX2_lay 1 = .ok (.ifCond .lt 9, 3) ∧ decode cX2_lay 4 = .ok (.iload_n 1, 1) ∧ decode cX2_lay 5 = .ok (.bipush 40, 2) ∧ decode cX2_lay 7 = .ok (.if_icmp .lt 4, 3) ∧ decode cX2_lay 10 = .ok (.return_, 1) ∧ decode cX2_lay 11 = .ok (.aload_n 0, 1) ∧ decode cX2_lay 12 = .ok (.getfield 9, 3) ∧ decode cX2_lay 15 = .ok (.iload_n 1, 1) := by decide +kernel
theorem zcdX2_lay_16 : decode cX2_lay 16 = .ok (.iload_n 2, 1) ∧ decode cX2_lay 17 = .ok (.iastore, 1) ∧ decode cX2_lay 18 = .ok (.aload_n 0, 1) ∧ decode cX2_lay 19 = .ok (.getfield 15, 3) ∧ decode cX2_lay 22 = .ok (.iload_n 1, 1) ∧ decode cX2_lay 23 = .ok (.iload_n 3, 1) ∧ decode cX2_lay 24 = .ok (.iastore, 1) ∧ decode cX2_lay 25 = .ok (.aload_n 0, 1) := by decide +kernel
theorem zcdX2_lay_26 : decode cX2_lay 26 = .ok (.getfield 18, 3) ∧ decode cX2_lay 29 = .ok (.iload_n 1, 1) ∧ decode cX2_lay 30 = .ok (.iload 4, 2) ∧ decode cX2_lay 32 = .ok (.iastore, 1) ∧ decode cX2_lay 33 = .ok (.aload_n 0, 1) ∧ decode cX2_lay 34 = .ok (.getfield 25, 3) ∧ decode cX2_lay 37 = .ok (.iload_n 1, 1) ∧ decode cX2_lay 38 = .ok (.iload 5, 2) := by decide +kernel
theorem zcdX2_lay_40 : decode cX2_lay 40 = .ok (.bastore, 1) ∧ decode cX2_lay 41 = .ok (.aload_n 0, 1) ∧ decode cX2_lay 42 = .ok (.getfield 21, 3) ∧ decode cX2_lay 45 = .ok (.iload_n 1, 1) ∧ decode cX2_lay 46 = .ok (.iconst 1, 1) ∧ decode cX2_lay 47 = .ok (.bastore, 1) ∧ decode cX2_lay 48 = .ok (.return_, 1) := by decide +kernel
set_option maxHeartbeats 4000000 in
theorem t_X2_isStepFrom (b : Nat) (hb : isF b) (v1 : Int32) (v2 : Int32) (v3 : Int32) (v4 : Int32) (M : Mem) : AXp yX2_isStepFrom cX2_isStepFrom 7 (some .boolean) 1 60 glC (fun ad => [.ref (ad b), .int v1, .int v2, .int v3, .int v4]) M (f_X2_isStepFrom b M v1 v2 v3 v4) := by
  intro r0 h
  refine AM.of (by decide) (fun _ => Nat.le_of_ble_eq_true rfl) (fun X ad cI cZ cB hX hR => ?_)
  show V X M [(0, .ref (ad b)), (1, .int v1), (2, .int v2), (3, .int v3), (4, .int v4)] [] 0
  refine s_iload_n (k := 1) hX zcdX2_isStepFrom_0.1 rfl rfl ?_
  have j22 : ∀ (t0_22 : Int32), f_X2_isStepFrom_L22 b M v1 v3 v4 t0_22 = some r0 → V X M [(0, .ref (ad b)), (1, .int v1), (3, .int v3), (4, .int v4)] [.int t0_22] 22 := by
    intro t0_22 h
    refine s_istore (lv' := [(0, .ref (ad b)), (1, .int v1), (3, .int v3), (4, .int v4), (5, .int t0_22)]) hX zcdX2_isStepFrom_15.2.2.2.2.2.1 (by decide) rfl ?_
    refine s_aload_n (k := 0) hX zcdX2_isStepFrom_15.2.2.2.2.2.2.1 rfl rfl ?_
    refine s_iload_n (k := 1) hX zcdX2_isStepFrom_15.2.2.2.2.2.2.2 rfl rfl ?_
    refine e_callVp hX (t_X2_heightOf b hb v1 M) mX2_heightOf lX2_63 (by decide) (by decide) (oF hb) rfl rfl rfl rfl rfl (Nat.le_of_ble_eq_true rfl) zcdX2_isStepFrom_26.1 h (fun r_1 h => ?_)
    refine s_iload_n (k := 2) hX zcdX2_isStepFrom_26.2.1 rfl rfl ?_
    refine s_isub hX zcdX2_isStepFrom_26.2.2.1 ?_
    refine e_bnd h (fun x_2 h => ?_)
    refine s_istore (lv' := [(0, .ref (ad b)), (1, .int v1), (3, .int v3), (4, .int v4), (5, .int t0_22), (6, .int x_2)]) hX zcdX2_isStepFrom_26.2.2.2.1 (by decide) rfl ?_
    refine s_iload (k := 4) hX zcdX2_isStepFrom_26.2.2.2.2.1 rfl ?_
    refine s_iload (k := 4) hX zcdX2_isStepFrom_26.2.2.2.2.2.1 rfl ?_
    refine s_imul hX zcdX2_isStepFrom_26.2.2.2.2.2.2.1 ?_
    refine s_iload (k := 5) hX zcdX2_isStepFrom_26.2.2.2.2.2.2.2 rfl ?_
    refine s_iload (k := 5) hX zcdX2_isStepFrom_40.1 rfl ?_
    refine s_imul hX zcdX2_isStepFrom_40.2.1 ?_
    refine s_iadd hX zcdX2_isStepFrom_40.2.2.1 ?_
    refine s_iload (k := 3) hX zcdX2_isStepFrom_40.2.2.2.1 rfl ?_
    refine s_iload (k := 3) hX zcdX2_isStepFrom_40.2.2.2.2.1 rfl ?_
    refine s_imul hX zcdX2_isStepFrom_40.2.2.2.2.2.1 ?_
    refine e_icmp_gt (tgt := 56) hX zcdX2_isStepFrom_40.2.2.2.2.2.2.1 (by decide) r_lt h (fun h => ?_) (fun h => ?_)
    · refine s_iconst (v := (nI 0)) hX zcdX2_isStepFrom_53.2.1 (by decide) ?_
      exact e_zretpL hX hR zcdX2_isStepFrom_53.2.2.1 (by decide) h
    · refine s_iconst (v := (nI 1)) hX zcdX2_isStepFrom_40.2.2.2.2.2.2.2 (by decide) ?_
      refine s_goto (tgt := 57) hX zcdX2_isStepFrom_53.1 (by decide) ?_
      exact e_zretpL hX hR zcdX2_isStepFrom_53.2.2.1 (by decide) h
  have j21 : f_X2_isStepFrom_L21 b M v1 v3 v4 = some r0 → V X M [(0, .ref (ad b)), (1, .int v1), (3, .int v3), (4, .int v4)] [] 21 := by
    intro  h
    refine s_iconst (v := (nI 0)) hX zcdX2_isStepFrom_15.2.2.2.2.1 (by decide) ?_
    exact j22 (nI 0) h
  refine e_if_lt (tgt := 21) hX zcdX2_isStepFrom_0.2.1 (by decide) z_lt h (fun h => ?_) (fun h => ?_)
  · refine s_loc [0, 1, 3, 4] rfl ?_
    exact j21 h
  · refine s_iload_n (k := 1) hX zcdX2_isStepFrom_0.2.2.1 rfl rfl ?_
    refine s_bipush (v := (nI 40)) hX zcdX2_isStepFrom_0.2.2.2.1 (by decide) ?_
    refine e_icmp_ge (tgt := 21) hX zcdX2_isStepFrom_0.2.2.2.2.1 (by decide) (m_ge (by decide +kernel)) h (fun h => ?_) (fun h => ?_)
    · refine s_loc [0, 1, 3, 4] rfl ?_
      exact j21 h
    · refine s_aload_n (k := 0) hX zcdX2_isStepFrom_0.2.2.2.2.2.1 rfl rfl ?_
      refine s_get hX fX2_9 (oF hb) rfl zcdX2_isStepFrom_0.2.2.2.2.2.2.1 ?_
      refine s_iload_n (k := 1) hX zcdX2_isStepFrom_0.2.2.2.2.2.2.2 rfl rfl ?_
      refine e_iald hX (aF1 hb) zcdX2_isStepFrom_15.1 h (fun h => ?_)
      refine s_iload_n (k := 2) hX zcdX2_isStepFrom_15.2.1 rfl rfl ?_
      refine s_isub hX zcdX2_isStepFrom_15.2.2.1 ?_
      refine s_goto (tgt := 22) hX zcdX2_isStepFrom_15.2.2.2.1 (by decide) ?_
      refine s_loc [0, 1, 3, 4] rfl ?_
      exact j22 ((M (b + 1) (ix v1)) - v2) h
set_option maxHeartbeats 4000000 in
theorem t_X2_isStep (b : Nat) (hb : isF b) (v1 : Int32) (v2 : Int32) (v3 : Int32) (M : Mem) : AXp yX2_isStep cX2_isStep 4 (some .boolean) 2 60 glC (fun ad => [.ref (ad b), .int v1, .int v2, .int v3]) M (f_X2_isStep b M v1 v2 v3) := by
  intro r0 h
  refine AM.of (by decide) (fun _ => Nat.le_of_ble_eq_true rfl) (fun X ad cI cZ cB hX hR => ?_)
  show V X M [(0, .ref (ad b)), (1, .int v1), (2, .int v2), (3, .int v3)] [] 0
  refine s_iload_n (k := 1) hX zcdX2_isStepFrom_53.2.2.2.1 rfl rfl ?_
  refine s_iload_n (k := 2) hX zcdX2_isStepFrom_53.2.2.2.2.1 rfl rfl ?_
  refine e_icmp_eq (tgt := 13) hX zcdX2_isStepFrom_53.2.2.2.2.2.1 (by decide) r_eq h (fun h => ?_) (fun h => ?_)
  · refine s_iconst (v := (nI 0)) hX zcdX2_isStep_7.2.2.1 (by decide) ?_
    exact e_zretpL hX hR zcdX2_isStep_7.2.2.2.1 (by decide) h
  · refine s_aload_n (k := 0) hX zcdX2_isStepFrom_53.2.2.2.2.2.2.1 rfl rfl ?_
    refine s_iload_n (k := 1) hX zcdX2_isStepFrom_53.2.2.2.2.2.2.2 rfl rfl ?_
    refine e_callVp hX (t_X2_canStand b hb v1 M) mX2_canStand lX2_56 (by decide) (by decide) (oF hb) rfl rfl rfl rfl rfl (Nat.le_of_ble_eq_true rfl) zcdX2_isStep_7.1 h (fun r_1 h => ?_)
    refine e_if_ne (tgt := 15) hX zcdX2_isStep_7.2.1 (by decide) z_eq h (fun h => ?_) (fun h => ?_)
    · refine s_iload_n (k := 2) hX zcdX2_isStep_7.2.2.2.2.1 rfl rfl ?_
      have j60 : f_X2_isStep_L60 b M v1 v2 v3 = some r0 → V X M [(0, .ref (ad b)), (1, .int v1), (2, .int v2), (3, .int v3)] [] 60 := by
        intro  h
        refine s_iload_n (k := 2) hX zcdX2_isStep_48.2.2.2.2.2.2.1 rfl rfl ?_
        refine s_bipush (v := (nI 40)) hX zcdX2_isStep_48.2.2.2.2.2.2.2 (by decide) ?_
        have j72 : f_X2_isStep_L72 b M v1 v2 v3 = some r0 → V X M [(0, .ref (ad b)), (1, .int v1), (2, .int v2), (3, .int v3)] [] 72 := by
          intro  h
          refine s_aload_n (k := 0) hX zcdX2_isStep_63.2.2.2.2.1 rfl rfl ?_
          refine s_iload_n (k := 1) hX zcdX2_isStep_63.2.2.2.2.2.1 rfl rfl ?_
          refine e_callVp hX (t_X2_heightOf b hb v1 M) mX2_heightOf lX2_63 (by decide) (by decide) (oF hb) rfl rfl rfl rfl rfl (Nat.le_of_ble_eq_true rfl) zcdX2_isStep_63.2.2.2.2.2.2.1 h (fun r_2 h => ?_)
          refine s_aload_n (k := 0) hX zcdX2_isStep_63.2.2.2.2.2.2.2 rfl rfl ?_
          refine s_iload_n (k := 2) hX zcdX2_isStep_78.1 rfl rfl ?_
          refine e_callVp hX (t_X2_heightOf b hb v2 M) mX2_heightOf lX2_63 (by decide) (by decide) (oF hb) rfl rfl rfl rfl rfl (Nat.le_of_ble_eq_true rfl) zcdX2_isStep_78.2.1 h (fun r_3 h => ?_)
          refine s_isub hX zcdX2_isStep_78.2.2.1 ?_
          refine e_mabs hX lX2_67 mJ9_abs (by omega) (Nat.le_of_ble_eq_true rfl) zcdX2_isStep_78.2.2.2.1 ?_
          refine s_iload_n (k := 3) hX zcdX2_isStep_78.2.2.2.2.1 rfl rfl ?_
          refine e_icmp_gt (tgt := 94) hX zcdX2_isStep_78.2.2.2.2.2.1 (by decide) r_lt h (fun h => ?_) (fun h => ?_)
          · refine s_iconst (v := (nI 0)) hX zcdX2_isStep_94.1 (by decide) ?_
            exact e_zretpL hX hR zcdX2_isStep_94.2.1 (by decide) h
          · refine s_iconst (v := (nI 1)) hX zcdX2_isStep_78.2.2.2.2.2.2.1 (by decide) ?_
            refine s_goto (tgt := 95) hX zcdX2_isStep_78.2.2.2.2.2.2.2 (by decide) ?_
            exact e_zretpL hX hR zcdX2_isStep_94.2.1 (by decide) h
        refine e_icmp_eq (tgt := 72) hX zcdX2_isStep_63.1 (by decide) (m_eq (by decide +kernel)) h (fun h => ?_) (fun h => ?_)
        · exact j72 h
        · refine s_iload_n (k := 2) hX zcdX2_isStep_63.2.1 rfl rfl ?_
          refine s_bipush (v := (nI 41)) hX zcdX2_isStep_63.2.2.1 (by decide) ?_
          refine e_icmp_ne (tgt := 94) hX zcdX2_isStep_63.2.2.2.1 (by decide) (m_eq (by decide +kernel)) h (fun h => ?_) (fun h => ?_)
          · refine s_iconst (v := (nI 0)) hX zcdX2_isStep_94.1 (by decide) ?_
            exact e_zretpL hX hR zcdX2_isStep_94.2.1 (by decide) h
          · exact j72 h
      refine e_if_lt (tgt := 60) hX zcdX2_isStep_7.2.2.2.2.2.1 (by decide) z_lt h (fun h => ?_) (fun h => ?_)
      · exact j60 h
      · refine s_iload_n (k := 2) hX zcdX2_isStep_7.2.2.2.2.2.2.1 rfl rfl ?_
        refine s_bipush (v := (nI 40)) hX zcdX2_isStep_7.2.2.2.2.2.2.2 (by decide) ?_
        refine e_icmp_ge (tgt := 60) hX zcdX2_isStep_22.1 (by decide) (m_ge (by decide +kernel)) h (fun h => ?_) (fun h => ?_)
        · exact j60 h
        · refine s_aload_n (k := 0) hX zcdX2_isStep_22.2.1 rfl rfl ?_
          refine s_iload_n (k := 2) hX zcdX2_isStep_22.2.2.1 rfl rfl ?_
          refine e_callVp hX (t_X2_isDry b hb v2 M) mX2_isDry lX2_45 (by decide) (by decide) (oF hb) rfl rfl rfl rfl rfl (Nat.le_of_ble_eq_true rfl) zcdX2_isStep_22.2.2.2.1 h (fun r_4 h => ?_)
          refine e_if_eq (tgt := 58) hX zcdX2_isStep_22.2.2.2.2.1 (by decide) z_eq h (fun h => ?_) (fun h => ?_)
          · refine s_iconst (v := (nI 0)) hX zcdX2_isStep_48.2.2.2.2.1 (by decide) ?_
            exact e_zretpL hX hR zcdX2_isStep_48.2.2.2.2.2.1 (by decide) h
          · refine s_aload_n (k := 0) hX zcdX2_isStep_22.2.2.2.2.2.1 rfl rfl ?_
            refine s_iload_n (k := 1) hX zcdX2_isStep_22.2.2.2.2.2.2.1 rfl rfl ?_
            refine s_aload_n (k := 0) hX zcdX2_isStep_22.2.2.2.2.2.2.2 rfl rfl ?_
            refine s_get hX fX2_9 (oF hb) rfl zcdX2_isStep_36.1 ?_
            refine s_iload_n (k := 2) hX zcdX2_isStep_36.2.1 rfl rfl ?_
            refine e_iald hX (aF1 hb) zcdX2_isStep_36.2.2.1 h (fun h => ?_)
            refine s_aload_n (k := 0) hX zcdX2_isStep_36.2.2.2.1 rfl rfl ?_
            refine s_get hX fX2_15 (oF hb) rfl zcdX2_isStep_36.2.2.2.2.1 ?_
            refine s_iload_n (k := 2) hX zcdX2_isStep_36.2.2.2.2.2.1 rfl rfl ?_
            refine e_iald hX (aF2 hb) zcdX2_isStep_36.2.2.2.2.2.2.1 h (fun h => ?_)
            refine s_iload_n (k := 3) hX zcdX2_isStep_36.2.2.2.2.2.2.2 rfl rfl ?_
            refine e_callVp hX (t_X2_isStepFrom b hb v1 (M (b + 1) (ix v2)) (M (b + 2) (ix v2)) v3 M) mX2_isStepFrom lX2_59 (by decide) (by decide) (oF hb) rfl rfl rfl rfl rfl (Nat.le_of_ble_eq_true rfl) zcdX2_isStep_48.1 h (fun r_5 h => ?_)
            refine e_if_eq (tgt := 58) hX zcdX2_isStep_48.2.1 (by decide) z_eq h (fun h => ?_) (fun h => ?_)
            · refine s_iconst (v := (nI 0)) hX zcdX2_isStep_48.2.2.2.2.1 (by decide) ?_
              exact e_zretpL hX hR zcdX2_isStep_48.2.2.2.2.2.1 (by decide) h
            · refine s_iconst (v := (nI 1)) hX zcdX2_isStep_48.2.2.1 (by decide) ?_
              refine s_goto (tgt := 59) hX zcdX2_isStep_48.2.2.2.1 (by decide) ?_
              exact e_zretpL hX hR zcdX2_isStep_48.2.2.2.2.2.1 (by decide) h
    · refine s_iconst (v := (nI 0)) hX zcdX2_isStep_7.2.2.1 (by decide) ?_
      exact e_zretpL hX hR zcdX2_isStep_7.2.2.2.1 (by decide) h
set_option maxHeartbeats 4000000 in
theorem t_X1_leave (b : Nat) (hb : isF b) (v2 : Int32) (v3 : Int32) (M : Mem) : AXi yX1_leave cX1_leave 5 (some .boolean) 3 60 glC (fun ad => [.ref (ad 30), .ref (ad b), .int v2, .int v3]) M (f_X1_leave b M v2 v3) := by
  intro r0 h
  refine AM.of (by decide) (fun _ => Nat.le_of_ble_eq_true rfl) (fun X ad cI cZ cB hX hR => ?_)
  show V X M [(0, .ref (ad 30)), (1, .ref (ad b)), (2, .int v2), (3, .int v3)] [] 0
  refine s_iload_n (k := 3) hX zcdX2_isStep_94.2.2.1 rfl rfl ?_
  refine e_if_lt (tgt := 10) hX zcdX2_isStep_94.2.2.2.1 (by decide) z_lt h (fun h => ?_) (fun h => ?_)
  · refine s_iconst (v := (nI 0)) hX zcdX2_isStep_94.2.2.2.2.2.2.2 (by decide) ?_
    exact e_zretiL hX hR zcdX1_leave_11.1 (by decide) h
  · refine s_iload_n (k := 3) hX zcdX2_isStep_94.2.2.2.2.1 rfl rfl ?_
    refine s_bipush (v := (nI 40)) hX zcdX2_isStep_94.2.2.2.2.2.1 (by decide) ?_
    refine e_icmp_lt (tgt := 12) hX zcdX2_isStep_94.2.2.2.2.2.2.1 (by decide) (m_lt (by decide +kernel)) h (fun h => ?_) (fun h => ?_)
    · refine s_aload_n (k := 1) hX zcdX1_leave_11.2.1 rfl rfl ?_
      refine s_iload_n (k := 3) hX zcdX1_leave_11.2.2.1 rfl rfl ?_
      refine s_bipush (v := (nI 41)) hX zcdX1_leave_11.2.2.2.1 (by decide) ?_
      refine s_iload_n (k := 2) hX zcdX1_leave_11.2.2.2.2.1 rfl rfl ?_
      refine e_callVp hX (t_X2_isStep b hb v3 (nI 41) v2 M) mX2_isStep lX1_39 (by decide) (by decide) (oF hb) rfl rfl rfl rfl rfl (Nat.le_of_ble_eq_true rfl) zcdX1_leave_11.2.2.2.2.2.1 h (fun r_1 h => ?_)
      refine e_if_eq (tgt := 25) hX zcdX1_leave_11.2.2.2.2.2.2.1 (by decide) z_eq h (fun h => ?_) (fun h => ?_)
      · refine s_iconst (v := (nI 0)) hX zcdX1_leave_24.2.1 (by decide) ?_
        refine s_istore (lv' := [(0, .ref (ad 30)), (1, .ref (ad b)), (2, .int v2), (3, .int v3), (4, .int (nI 0))]) hX zcdX1_leave_24.2.2.1 (by decide) rfl ?_
        have lp28 : ∀ (N28 : Nat) (M28 : Mem) (y4_28 : Int32), wlp2 (f_X1_leave_B28 b v2 v3) N28 M28 y4_28 = some r0 → V X M28 [(0, .ref (ad 30)), (1, .ref (ad b)), (2, .int v2), (3, .int v3), (4, .int y4_28)] [] 28 := by
          intro N28
          induction N28 with
          | zero => exact fun _ _ h => e_none h
          | succ N28 ih28 =>
            intro M28 y4_28 h
            replace h : f_X1_leave_B28 b v2 v3 (wlp2 (f_X1_leave_B28 b v2 v3) N28) M28 y4_28 = some r0 := h
            generalize wlp2 (f_X1_leave_B28 b v2 v3) N28 = ag28 at ih28 h
            refine s_iload (k := 4) hX zcdX1_leave_24.2.2.2.1 rfl ?_
            refine s_bipush (v := (nI 40)) hX zcdX1_leave_24.2.2.2.2.1 (by decide) ?_
            have j62 : f_X1_leave_L62 v3 M28 = some r0 → V X M28 [(0, .ref (ad 30)), (3, .int v3)] [] 62 := by
              intro  h
              refine s_aload_n (k := 0) hX zcdX1_leave_52.2.2.2.2.1 rfl rfl ?_
              refine s_iload_n (k := 1) hX zcdX1_leave_52.2.2.2.2.2.1 rfl rfl ?_
              refine s_iload_n (k := 1) hX zcdX1_leave_52.2.2.2.2.2.2.1 rfl rfl ?_
              refine s_bipush (v := (nI 40)) hX zcdX1_leave_52.2.2.2.2.2.2.2 (by decide) ?_
              refine s_iadd hX zcdX1_leave_67.1 ?_
              refine e_callVv hX (t_X1_reach v3 (v3 + (nI 40)) M28) mX1_reach lX1_45 (by decide) (by decide) oC30 rfl rfl rfl rfl rfl (Nat.le_of_ble_eq_true rfl) zcdX1_leave_67.2.1 h (fun M_2 h => ?_)
              refine s_iconst (v := (nI 0)) hX zcdX1_leave_67.2.2.1 (by decide) ?_
              exact e_zretiL hX hR zcdX1_leave_67.2.2.2.1 (by decide) h
            refine e_icmp_ge (tgt := 62) hX zcdX1_leave_24.2.2.2.2.2.1 (by decide) (m_ge (by decide +kernel)) h (fun h => ?_) (fun h => ?_)
            · refine s_loc [0, 3] rfl ?_
              exact j62 h
            · refine s_aload_n (k := 1) hX zcdX1_leave_24.2.2.2.2.2.2.1 rfl rfl ?_
              refine s_iload_n (k := 3) hX zcdX1_leave_24.2.2.2.2.2.2.2 rfl rfl ?_
              refine s_iload (k := 4) hX zcdX1_leave_37.1 rfl ?_
              refine s_iload_n (k := 2) hX zcdX1_leave_37.2.1 rfl rfl ?_
              refine e_callVp hX (t_X2_isStep b hb v3 y4_28 v2 M28) mX2_isStep lX1_39 (by decide) (by decide) (oF hb) rfl rfl rfl rfl rfl (Nat.le_of_ble_eq_true rfl) zcdX1_leave_37.2.2.1 h (fun r_3 h => ?_)
              refine e_if_eq (tgt := 56) hX zcdX1_leave_37.2.2.2.1 (by decide) z_eq h (fun h => ?_) (fun h => ?_)
              · refine s_iinc (k := 4) (v := (y4_28 + (nI 1))) (lv' := [(0, .ref (ad 30)), (1, .ref (ad b)), (2, .int v2), (3, .int v3), (4, .int (y4_28 + (nI 1)))]) hX zcdX1_leave_52.2.2.1 (congrArg (fun z => y4_28 + z) (by decide)) (by decide) rfl rfl ?_
                refine s_goto (tgt := 28) hX zcdX1_leave_52.2.2.2.1 (by decide) ?_
                exact ih28 M28 (y4_28 + (nI 1)) h
              · refine s_aload_n (k := 0) hX zcdX1_leave_37.2.2.2.2.1 rfl rfl ?_
                refine s_iload (k := 4) hX zcdX1_leave_37.2.2.2.2.2.1 rfl ?_
                refine s_iload_n (k := 3) hX zcdX1_leave_37.2.2.2.2.2.2.1 rfl rfl ?_
                refine s_bipush (v := (nI 40)) hX zcdX1_leave_37.2.2.2.2.2.2.2 (by decide) ?_
                refine s_iadd hX zcdX1_leave_52.1 ?_
                refine e_callVv hX (t_X1_reach y4_28 (v3 + (nI 40)) M28) mX1_reach lX1_45 (by decide) (by decide) oC30 rfl rfl rfl rfl rfl (Nat.le_of_ble_eq_true rfl) zcdX1_leave_52.2.1 h (fun M_4 h => ?_)
                refine s_iinc (k := 4) (v := (y4_28 + (nI 1))) (lv' := [(0, .ref (ad 30)), (1, .ref (ad b)), (2, .int v2), (3, .int v3), (4, .int (y4_28 + (nI 1)))]) hX zcdX1_leave_52.2.2.1 (congrArg (fun z => y4_28 + z) (by decide)) (by decide) rfl rfl ?_
                refine s_goto (tgt := 28) hX zcdX1_leave_52.2.2.2.1 (by decide) ?_
                exact ih28 M_4 (y4_28 + (nI 1)) h
        exact lp28 FU M (nI 0) h
      · refine s_iconst (v := (nI 1)) hX zcdX1_leave_11.2.2.2.2.2.2.2 (by decide) ?_
        exact e_zretiL hX hR zcdX1_leave_24.1 (by decide) h
    · refine s_iconst (v := (nI 0)) hX zcdX2_isStep_94.2.2.2.2.2.2.2 (by decide) ?_
      exact e_zretiL hX hR zcdX1_leave_11.1 (by decide) h
set_option maxHeartbeats 4000000 in
theorem t_X1_search (b : Nat) (hb : isF b) (v2 : Int32) (M : Mem) : AXi yX1_search cX1_search 5 (some .int) 4 60 glC (fun ad => [.ref (ad 30), .ref (ad b), .int v2]) M (f_X1_search b M v2) := by
  intro r0 h
  refine AM.of (by decide) (fun _ => Nat.le_of_ble_eq_true rfl) (fun X ad cI cZ cB hX hR => ?_)
  show V X M [(0, .ref (ad 30)), (1, .ref (ad b)), (2, .int v2)] [] 0
  refine s_aload_n (k := 0) hX zcdX1_leave_67.2.2.2.2.1 rfl rfl ?_
  refine s_get hX fX1_15 oC30 rfl zcdX1_leave_67.2.2.2.2.2.1 ?_
  refine s_iconst (v := (-1)) hX zcdX1_leave_67.2.2.2.2.2.2.1 (by decide) ?_
  refine e_callSv hX (t_J7_fill_53178 32 80 aC32 (by decide) (-1) M) mJ7_fill_53178 lX1_25 (by decide) (by decide) rfl rfl (Nat.le_of_ble_eq_true rfl) zcdX1_leave_67.2.2.2.2.2.2.2 h (fun M_1 h => ?_)
  refine s_aload_n (k := 0) hX zcdX1_search_8.1 rfl rfl ?_
  refine s_iconst (v := (nI 0)) hX zcdX1_search_8.2.1 (by decide) ?_
  refine s_puti (ty := .int) hX fX1_21 oC30 rfl (Nat.le_of_ble_eq_true rfl) ty_1_3 rfl rfl zcdX1_search_8.2.2.1 ?_
  refine e_bndM h (fun M_2 h => ?_)
  refine s_iconst (v := (nI 0)) hX zcdX1_search_8.2.2.2.1 (by decide) ?_
  refine s_istore_n (lv' := [(0, .ref (ad 30)), (1, .ref (ad b)), (2, .int v2), (3, .int (nI 0))]) hX zcdX1_search_8.2.2.2.2.1 rfl (by decide) rfl ?_
  have lp15 : ∀ (N15 : Nat) (M15 : Mem) (y3_15 : Int32), wlp2 (f_X1_search_B15 b v2) N15 M15 y3_15 = some r0 → V X M15 [(0, .ref (ad 30)), (1, .ref (ad b)), (2, .int v2), (3, .int y3_15)] [] 15 := by
    intro N15
    induction N15 with
    | zero => exact fun _ _ h => e_none h
    | succ N15 ih15 =>
      intro M15 y3_15 h
      replace h : f_X1_search_B15 b v2 (wlp2 (f_X1_search_B15 b v2) N15) M15 y3_15 = some r0 := h
      generalize wlp2 (f_X1_search_B15 b v2) N15 = ag15 at ih15 h
      refine s_iload_n (k := 3) hX zcdX1_search_8.2.2.2.2.2.1 rfl rfl ?_
      refine s_bipush (v := (nI 40)) hX zcdX1_search_8.2.2.2.2.2.2.1 (by decide) ?_
      have j45 : f_X1_search_L45 b v2 M15 = some r0 → V X M15 [(0, .ref (ad 30)), (1, .ref (ad b)), (2, .int v2)] [] 45 := by
        intro  h
        refine s_iconst (v := (nI 0)) hX zcdX1_search_34.2.2.2.2.1 (by decide) ?_
        refine s_istore_n (lv' := [(0, .ref (ad 30)), (1, .ref (ad b)), (2, .int v2), (3, .int (nI 0))]) hX zcdX1_search_34.2.2.2.2.2.1 rfl (by decide) rfl ?_
        have lp47 : ∀ (N47 : Nat) (M47 : Mem) (y3_47 : Int32), wlp2 (f_X1_search_B47 b v2) N47 M47 y3_47 = some r0 → V X M47 [(0, .ref (ad 30)), (1, .ref (ad b)), (2, .int v2), (3, .int y3_47)] [] 47 := by
          intro N47
          induction N47 with
          | zero => exact fun _ _ h => e_none h
          | succ N47 ih47 =>
            intro M47 y3_47 h
            replace h : f_X1_search_B47 b v2 (wlp2 (f_X1_search_B47 b v2) N47) M47 y3_47 = some r0 := h
            generalize wlp2 (f_X1_search_B47 b v2) N47 = ag47 at ih47 h
            refine s_iload_n (k := 3) hX zcdX1_search_34.2.2.2.2.2.2.1 rfl rfl ?_
            refine s_aload_n (k := 0) hX zcdX1_search_34.2.2.2.2.2.2.2 rfl rfl ?_
            refine s_get hX fX1_21 oC30 rfl zcdX1_search_49.1 ?_
            refine e_icmp_ge (tgt := 108) hX zcdX1_search_49.2.1 (by decide) r_le h (fun h => ?_) (fun h => ?_)
            · refine s_iconst (v := (-1)) hX zcdX1_search_96.2.2.2.2.2.1 (by decide) ?_
              exact e_ireti hX hR zcdX1_search_96.2.2.2.2.2.2.1 h
            · refine s_iload_n (k := 3) hX zcdX1_search_49.2.2.1 rfl rfl ?_
              refine s_bipush (v := (nI 80)) hX zcdX1_search_49.2.2.2.1 (by decide) ?_
              refine e_icmp_ge (tgt := 108) hX zcdX1_search_49.2.2.2.2.1 (by decide) (m_ge (by decide +kernel)) h (fun h => ?_) (fun h => ?_)
              · refine s_iconst (v := (-1)) hX zcdX1_search_96.2.2.2.2.2.1 (by decide) ?_
                exact e_ireti hX hR zcdX1_search_96.2.2.2.2.2.2.1 h
              · refine s_aload_n (k := 0) hX zcdX1_search_49.2.2.2.2.2.1 rfl rfl ?_
                refine s_get hX fX1_18 oC30 rfl zcdX1_search_49.2.2.2.2.2.2.1 ?_
                refine s_iload_n (k := 3) hX zcdX1_search_49.2.2.2.2.2.2.2 rfl rfl ?_
                refine e_iald hX aC33 zcdX1_search_66.1 h (fun h => ?_)
                refine e_bnd h (fun x_3 h => ?_)
                refine s_istore (lv' := [(0, .ref (ad 30)), (1, .ref (ad b)), (2, .int v2), (3, .int y3_47), (4, .int x_3)]) hX zcdX1_search_66.2.1 (by decide) rfl ?_
                refine s_iload (k := 4) hX zcdX1_search_66.2.2.1 rfl ?_
                refine s_bipush (v := (nI 40)) hX zcdX1_search_66.2.2.2.1 (by decide) ?_
                refine e_icmp_ge (tgt := 85) hX zcdX1_search_66.2.2.2.2.1 (by decide) (m_ge (by decide +kernel)) h (fun h => ?_) (fun h => ?_)
                · refine s_aload_n (k := 0) hX zcdX1_search_82.2.1 rfl rfl ?_
                  refine s_aload_n (k := 1) hX zcdX1_search_82.2.2.1 rfl rfl ?_
                  refine s_iload_n (k := 2) hX zcdX1_search_82.2.2.2.1 rfl rfl ?_
                  refine s_iload (k := 4) hX zcdX1_search_82.2.2.2.2.1 rfl ?_
                  refine s_bipush (v := (nI 40)) hX zcdX1_search_82.2.2.2.2.2.1 (by decide) ?_
                  refine s_isub hX zcdX1_search_82.2.2.2.2.2.2.1 ?_
                  refine e_callVi hX (t_X1_leave b hb v2 (x_3 - (nI 40)) M47) mX1_leave lX1_52 (by decide) (by decide) oC30 rfl rfl rfl rfl rfl (Nat.le_of_ble_eq_true rfl) zcdX1_search_82.2.2.2.2.2.2.2 h (fun r_4 M_5 h => ?_)
                  refine e_if_eq (tgt := 102) hX zcdX1_search_96.1 (by decide) z_eq h (fun h => ?_) (fun h => ?_)
                  · refine s_iinc (k := 3) (v := (y3_47 + (nI 1))) (lv' := [(0, .ref (ad 30)), (1, .ref (ad b)), (2, .int v2), (4, .int x_3), (3, .int (y3_47 + (nI 1)))]) hX zcdX1_search_96.2.2.2.1 (congrArg (fun z => y3_47 + z) (by decide)) (by decide) rfl rfl ?_
                    refine s_goto (tgt := 47) hX zcdX1_search_96.2.2.2.2.1 (by decide) ?_
                    refine s_loc [0, 1, 2, 4] rfl ?_
                    exact ih47 M_5 (y3_47 + (nI 1)) h
                  · refine s_iload (k := 4) hX zcdX1_search_96.2.1 rfl ?_
                    exact e_ireti hX hR zcdX1_search_96.2.2.1 h
                · refine s_aload_n (k := 0) hX zcdX1_search_66.2.2.2.2.2.1 rfl rfl ?_
                  refine s_iload (k := 4) hX zcdX1_search_66.2.2.2.2.2.2.1 rfl ?_
                  refine e_callVv hX (t_X1_comeOn x_3 M47) mX1_comeOn lX1_49 (by decide) (by decide) oC30 rfl rfl rfl rfl rfl (Nat.le_of_ble_eq_true rfl) zcdX1_search_66.2.2.2.2.2.2.2 h (fun M_6 h => ?_)
                  refine s_goto (tgt := 102) hX zcdX1_search_82.1 (by decide) ?_
                  refine s_iinc (k := 3) (v := (y3_47 + (nI 1))) (lv' := [(0, .ref (ad 30)), (1, .ref (ad b)), (2, .int v2), (4, .int x_3), (3, .int (y3_47 + (nI 1)))]) hX zcdX1_search_96.2.2.2.1 (congrArg (fun z => y3_47 + z) (by decide)) (by decide) rfl rfl ?_
                  refine s_goto (tgt := 47) hX zcdX1_search_96.2.2.2.2.1 (by decide) ?_
                  refine s_loc [0, 1, 2, 4] rfl ?_
                  exact ih47 M_6 (y3_47 + (nI 1)) h
        exact lp47 FU M15 (nI 0) h
      refine e_icmp_ge (tgt := 45) hX zcdX1_search_8.2.2.2.2.2.2.2 (by decide) (m_ge (by decide +kernel)) h (fun h => ?_) (fun h => ?_)
      · refine s_loc [0, 1, 2] rfl ?_
        exact j45 h
      · refine s_aload_n (k := 1) hX zcdX1_search_21.1 rfl rfl ?_
        refine s_bipush (v := (nI 40)) hX zcdX1_search_21.2.1 (by decide) ?_
        refine s_iload_n (k := 3) hX zcdX1_search_21.2.2.1 rfl rfl ?_
        refine s_iload_n (k := 2) hX zcdX1_search_21.2.2.2.1 rfl rfl ?_
        refine e_callVp hX (t_X2_isStep b hb (nI 40) y3_15 v2 M15) mX2_isStep lX1_39 (by decide) (by decide) (oF hb) rfl rfl rfl rfl rfl (Nat.le_of_ble_eq_true rfl) zcdX1_search_21.2.2.2.2.1 h (fun r_7 h => ?_)
        refine e_if_eq (tgt := 39) hX zcdX1_search_21.2.2.2.2.2.1 (by decide) z_eq h (fun h => ?_) (fun h => ?_)
        · refine s_iinc (k := 3) (v := (y3_15 + (nI 1))) (lv' := [(0, .ref (ad 30)), (1, .ref (ad b)), (2, .int v2), (3, .int (y3_15 + (nI 1)))]) hX zcdX1_search_34.2.2.1 (congrArg (fun z => y3_15 + z) (by decide)) (by decide) rfl rfl ?_
          refine s_goto (tgt := 15) hX zcdX1_search_34.2.2.2.1 (by decide) ?_
          exact ih15 M15 (y3_15 + (nI 1)) h
        · refine s_aload_n (k := 0) hX zcdX1_search_21.2.2.2.2.2.2.1 rfl rfl ?_
          refine s_iload_n (k := 3) hX zcdX1_search_21.2.2.2.2.2.2.2 rfl rfl ?_
          refine s_bipush (v := (-2)) hX zcdX1_search_34.1 (by decide) ?_
          refine e_callVv hX (t_X1_reach y3_15 (-2) M15) mX1_reach lX1_45 (by decide) (by decide) oC30 rfl rfl rfl rfl rfl (Nat.le_of_ble_eq_true rfl) zcdX1_search_34.2.1 h (fun M_8 h => ?_)
          refine s_iinc (k := 3) (v := (y3_15 + (nI 1))) (lv' := [(0, .ref (ad 30)), (1, .ref (ad b)), (2, .int v2), (3, .int (y3_15 + (nI 1)))]) hX zcdX1_search_34.2.2.1 (congrArg (fun z => y3_15 + z) (by decide)) (by decide) rfl rfl ?_
          refine s_goto (tgt := 15) hX zcdX1_search_34.2.2.2.1 (by decide) ?_
          exact ih15 M_8 (y3_15 + (nI 1)) h
  exact lp15 FU M_2 (nI 0) h
set_option maxHeartbeats 4000000 in
theorem t_X1_join (v1 : Int32) (v2 : Int32) (M : Mem) : AXv yX1_join cX1_join 3 none 0 60 glC (fun ad => [.ref (ad 30), .int v1, .int v2]) M (f_X1_join M v1 v2) := by
  intro r0 h
  refine AM.of (by decide) (fun _ => Nat.le_of_ble_eq_true rfl) (fun X ad cI cZ cB hX hR => ?_)
  show V X M [(0, .ref (ad 30)), (1, .int v1), (2, .int v2)] [] 0
  refine s_iload_n (k := 2) hX zcdX1_search_96.2.2.2.2.2.2.2 rfl rfl ?_
  refine e_if_lt (tgt := 26) hX zcdX1_join_1.1 (by decide) z_lt h (fun h => ?_) (fun h => ?_)
  · exact e_vret hX hR zcdX1_join_16.2.2.2.2.2.2.1 h
  · refine s_iload_n (k := 2) hX zcdX1_join_1.2.1 rfl rfl ?_
    refine s_bipush (v := (nI 40)) hX zcdX1_join_1.2.2.1 (by decide) ?_
    refine e_icmp_ge (tgt := 26) hX zcdX1_join_1.2.2.2.1 (by decide) (m_ge (by decide +kernel)) h (fun h => ?_) (fun h => ?_)
    · exact e_vret hX hR zcdX1_join_16.2.2.2.2.2.2.1 h
    · refine s_aload_n (k := 0) hX zcdX1_join_1.2.2.2.2.1 rfl rfl ?_
      refine s_get hX fX1_9 oC30 rfl zcdX1_join_1.2.2.2.2.2.1 ?_
      refine s_iload_n (k := 2) hX zcdX1_join_1.2.2.2.2.2.2.1 rfl rfl ?_
      refine s_iload_n (k := 2) hX zcdX1_join_1.2.2.2.2.2.2.2 rfl rfl ?_
      refine s_iload_n (k := 1) hX zcdX1_join_16.1 rfl rfl ?_
      have j25 : ∀ (t0_25 : Int32), f_X1_join_L25 M v2 t0_25 = some r0 → V X M [] [.int t0_25, .int v2, .ref (ad 31)] 25 := by
        intro t0_25 h
        refine e_iast hX aC31 zcdX1_join_16.2.2.2.2.2.1 h (fun h => ?_)
        refine e_bndM h (fun M_1 h => ?_)
        exact e_vret hX hR zcdX1_join_16.2.2.2.2.2.2.1 h
      refine e_icmp_ne (tgt := 24) hX zcdX1_join_16.2.1 (by decide) r_eq h (fun h => ?_) (fun h => ?_)
      · refine s_iload_n (k := 1) hX zcdX1_join_16.2.2.2.2.1 rfl rfl ?_
        refine s_loc [] rfl ?_
        exact j25 v1 h
      · refine s_iconst (v := (-1)) hX zcdX1_join_16.2.2.1 (by decide) ?_
        refine s_goto (tgt := 25) hX zcdX1_join_16.2.2.2.1 (by decide) ?_
        refine s_loc [] rfl ?_
        exact j25 (-1) h
set_option maxHeartbeats 4000000 in
theorem t_X1_weave (v1 : Int32) (M : Mem) : AXv yX1_weave cX1_weave 5 none 1 60 glC (fun ad => [.ref (ad 30), .int v1]) M (f_X1_weave M v1) := by
  intro r0 h
  refine AM.of (by decide) (fun _ => Nat.le_of_ble_eq_true rfl) (fun X ad cI cZ cB hX hR => ?_)
  show V X M [(0, .ref (ad 30)), (1, .int v1)] [] 0
  refine s_iload_n (k := 1) hX zcdX1_join_16.2.2.2.2.2.2.2 rfl rfl ?_
  refine s_istore_n (lv' := [(0, .ref (ad 30)), (1, .int v1), (2, .int v1)]) hX zcdX1_weave_1.1 rfl (by decide) rfl ?_
  refine s_bipush (v := (nI 41)) hX zcdX1_weave_1.2.1 (by decide) ?_
  refine s_istore_n (lv' := [(0, .ref (ad 30)), (1, .int v1), (2, .int v1), (3, .int (nI 41))]) hX zcdX1_weave_1.2.2.1 rfl (by decide) rfl ?_
  refine s_iconst (v := (nI 0)) hX zcdX1_weave_1.2.2.2.1 (by decide) ?_
  refine s_istore (lv' := [(0, .ref (ad 30)), (1, .int v1), (2, .int v1), (3, .int (nI 41)), (4, .int (nI 0))]) hX zcdX1_weave_1.2.2.2.2.1 (by decide) rfl ?_
  have lp8 : ∀ (N8 : Nat) (M8 : Mem) (y2_8 : Int32) (y3_8 : Int32) (y4_8 : Int32), wlp4 f_X1_weave_B8 N8 M8 y2_8 y3_8 y4_8 = some r0 → V X M8 [(0, .ref (ad 30)), (2, .int y2_8), (3, .int y3_8), (4, .int y4_8)] [] 8 := by
    intro N8
    induction N8 with
    | zero => exact fun _ _ _ _ h => e_none h
    | succ N8 ih8 =>
      intro M8 y2_8 y3_8 y4_8 h
      replace h : f_X1_weave_B8 (wlp4 f_X1_weave_B8 N8) M8 y2_8 y3_8 y4_8 = some r0 := h
      generalize wlp4 f_X1_weave_B8 N8 = ag8 at ih8 h
      refine s_iload (k := 3) hX zcdX1_weave_1.2.2.2.2.2.1 rfl ?_
      refine s_bipush (v := (nI 80)) hX zcdX1_weave_1.2.2.2.2.2.2.1 (by decide) ?_
      refine e_icmp_gt (tgt := 77) hX zcdX1_weave_1.2.2.2.2.2.2.2 (by decide) (m_gt (by decide +kernel)) h (fun h => ?_) (fun h => ?_)
      · exact e_vret hX hR zcdX1_weave_70.2.2.2.1 h
      · refine s_iload_n (k := 1) hX zcdX1_weave_15.1 rfl rfl ?_
        refine e_if_lt (tgt := 77) hX zcdX1_weave_15.2.1 (by decide) z_lt h (fun h => ?_) (fun h => ?_)
        · exact e_vret hX hR zcdX1_weave_70.2.2.2.1 h
        · refine s_iload_n (k := 1) hX zcdX1_weave_15.2.2.1 rfl rfl ?_
          refine s_bipush (v := (nI 80)) hX zcdX1_weave_15.2.2.2.1 (by decide) ?_
          refine e_icmp_ge (tgt := 77) hX zcdX1_weave_15.2.2.2.2.1 (by decide) (m_ge (by decide +kernel)) h (fun h => ?_) (fun h => ?_)
          · exact e_vret hX hR zcdX1_weave_70.2.2.2.1 h
          · refine s_iload_n (k := 1) hX zcdX1_weave_15.2.2.2.2.2.1 rfl rfl ?_
            refine s_bipush (v := (nI 40)) hX zcdX1_weave_15.2.2.2.2.2.2.1 (by decide) ?_
            have j62 : ∀ (N62 : Mem), f_X1_weave_L62 ag8 y2_8 y4_8 N62 = some r0 → V X N62 [(0, .ref (ad 30)), (2, .int y2_8), (4, .int y4_8)] [] 62 := by
              intro N62 h
              refine s_iload_n (k := 1) hX zcdX1_weave_59.2.2.1 rfl rfl ?_
              refine s_istore_n (lv' := [(0, .ref (ad 30)), (2, .int y2_8), (4, .int y4_8), (3, .int y2_8)]) hX zcdX1_weave_59.2.2.2.1 rfl (by decide) rfl ?_
              refine s_aload_n (k := 0) hX zcdX1_weave_59.2.2.2.2.1 rfl rfl ?_
              refine s_get hX fX1_15 oC30 rfl zcdX1_weave_59.2.2.2.2.2.1 ?_
              refine s_iload_n (k := 1) hX zcdX1_weave_59.2.2.2.2.2.2.1 rfl rfl ?_
              refine e_iald hX aC32 zcdX1_weave_59.2.2.2.2.2.2.2 h (fun h => ?_)
              refine e_bnd h (fun x_1 h => ?_)
              refine s_istore_n (lv' := [(0, .ref (ad 30)), (4, .int y4_8), (3, .int y2_8), (2, .int x_1)]) hX zcdX1_weave_70.1 rfl (by decide) rfl ?_
              refine s_iinc (k := 1) (v := (y4_8 + (nI 1))) (lv' := [(0, .ref (ad 30)), (3, .int y2_8), (2, .int x_1), (4, .int (y4_8 + (nI 1)))]) hX zcdX1_weave_70.2.1 (congrArg (fun z => y4_8 + z) (by decide)) (by decide) rfl rfl ?_
              refine s_goto (tgt := 8) hX zcdX1_weave_70.2.2.1 (by decide) ?_
              refine s_loc [0, 2, 1, 3] rfl ?_
              exact ih8 N62 x_1 y2_8 (y4_8 + (nI 1)) h
            refine e_icmp_lt (tgt := 43) hX zcdX1_weave_15.2.2.2.2.2.2.2 (by decide) (m_lt (by decide +kernel)) h (fun h => ?_) (fun h => ?_)
            · refine s_aload_n (k := 0) hX zcdX1_weave_31.2.2.2.2.2.2.2 rfl rfl ?_
              refine s_get hX fX1_15 oC30 rfl zcdX1_weave_44.1 ?_
              refine s_iload_n (k := 1) hX zcdX1_weave_44.2.1 rfl rfl ?_
              refine e_iald hX aC32 zcdX1_weave_44.2.2.1 h (fun h => ?_)
              refine s_bipush (v := (-2)) hX zcdX1_weave_44.2.2.2.1 (by decide) ?_
              refine e_icmp_ne (tgt := 62) hX zcdX1_weave_44.2.2.2.2.1 (by decide) (m_eq (by decide +kernel)) h (fun h => ?_) (fun h => ?_)
              · refine s_loc [0, 1, 3] rfl ?_
                exact j62 M8 h
              · refine s_aload_n (k := 0) hX zcdX1_weave_44.2.2.2.2.2.1 rfl rfl ?_
                refine s_get hX fX1_9 oC30 rfl zcdX1_weave_44.2.2.2.2.2.2.1 ?_
                refine s_iload_n (k := 1) hX zcdX1_weave_44.2.2.2.2.2.2.2 rfl rfl ?_
                refine s_bipush (v := (nI 40)) hX zcdX1_weave_59.1 (by decide) ?_
                refine e_iast hX aC31 zcdX1_weave_59.2.1 h (fun h => ?_)
                refine e_bndM h (fun M_2 h => ?_)
                refine s_loc [0, 1, 3] rfl ?_
                exact j62 M_2 h
            · refine s_aload_n (k := 0) hX zcdX1_weave_31.1 rfl rfl ?_
              refine s_iload_n (k := 1) hX zcdX1_weave_31.2.1 rfl rfl ?_
              refine s_bipush (v := (nI 40)) hX zcdX1_weave_31.2.2.1 (by decide) ?_
              refine s_isub hX zcdX1_weave_31.2.2.2.1 ?_
              refine s_iload_n (k := 2) hX zcdX1_weave_31.2.2.2.2.1 rfl rfl ?_
              refine e_callVv hX (t_X1_join (y2_8 - (nI 40)) y3_8 M8) mX1_join lX1_56 (by decide) (by decide) oC30 rfl rfl rfl rfl rfl (Nat.le_of_ble_eq_true rfl) zcdX1_weave_31.2.2.2.2.2.1 h (fun M_3 h => ?_)
              refine s_goto (tgt := 62) hX zcdX1_weave_31.2.2.2.2.2.2.1 (by decide) ?_
              refine s_loc [0, 1, 3] rfl ?_
              exact j62 M_3 h
  refine s_loc [0, 2, 3, 4] rfl ?_
  exact lp8 FU M v1 (nI 41) (nI 0) h
set_option maxHeartbeats 4000000 in
theorem t_X1_fewest (b : Nat) (hb : isF b) (v2 : Int32) (M : Mem) : AXi yX1_fewest cX1_fewest 5 (some .int) 5 60 glC (fun ad => [.ref (ad 30), .ref (ad b), .int v2]) M (f_X1_fewest b M v2) := by
  intro r0 h
  refine AM.of (by decide) (fun _ => Nat.le_of_ble_eq_true rfl) (fun X ad cI cZ cB hX hR => ?_)
  show V X M [(0, .ref (ad 30)), (1, .ref (ad b)), (2, .int v2)] [] 0
  refine s_aload_n (k := 0) hX zcdX1_weave_70.2.2.2.2.1 rfl rfl ?_
  refine s_get hX fX1_9 oC30 rfl zcdX1_weave_70.2.2.2.2.2.1 ?_
  refine s_iconst (v := (-1)) hX zcdX1_weave_70.2.2.2.2.2.2.1 (by decide) ?_
  refine e_callSv hX (t_J7_fill_53178 31 40 aC31 (by decide) (-1) M) mJ7_fill_53178 lX1_25 (by decide) (by decide) rfl rfl (Nat.le_of_ble_eq_true rfl) zcdX1_weave_70.2.2.2.2.2.2.2 h (fun M_1 h => ?_)
  refine s_iconst (v := (nI 0)) hX zcdX1_fewest_8.1 (by decide) ?_
  refine s_istore_n (lv' := [(0, .ref (ad 30)), (1, .ref (ad b)), (2, .int v2), (3, .int (nI 0))]) hX zcdX1_fewest_8.2.1 rfl (by decide) rfl ?_
  have lp10 : ∀ (N10 : Nat) (M10 : Mem) (y3_10 : Int32), wlp2 (f_X1_fewest_B10 b v2) N10 M10 y3_10 = some r0 → V X M10 [(0, .ref (ad 30)), (1, .ref (ad b)), (2, .int v2), (3, .int y3_10)] [] 10 := by
    intro N10
    induction N10 with
    | zero => exact fun _ _ h => e_none h
    | succ N10 ih10 =>
      intro M10 y3_10 h
      replace h : f_X1_fewest_B10 b v2 (wlp2 (f_X1_fewest_B10 b v2) N10) M10 y3_10 = some r0 := h
      generalize wlp2 (f_X1_fewest_B10 b v2) N10 = ag10 at ih10 h
      refine s_iload_n (k := 3) hX zcdX1_fewest_8.2.2.1 rfl rfl ?_
      refine s_bipush (v := (nI 40)) hX zcdX1_fewest_8.2.2.2.1 (by decide) ?_
      refine e_icmp_ge (tgt := 44) hX zcdX1_fewest_8.2.2.2.2.1 (by decide) (m_ge (by decide +kernel)) h (fun h => ?_) (fun h => ?_)
      · refine s_bipush (v := (nI 40)) hX zcdX1_fewest_33.2.2.2.2.1 (by decide) ?_
        exact e_ireti hX hR zcdX1_fewest_33.2.2.2.2.2.1 h
      · refine s_aload_n (k := 0) hX zcdX1_fewest_8.2.2.2.2.2.1 rfl rfl ?_
        refine s_aload_n (k := 1) hX zcdX1_fewest_8.2.2.2.2.2.2.1 rfl rfl ?_
        refine s_iload_n (k := 2) hX zcdX1_fewest_8.2.2.2.2.2.2.2 rfl rfl ?_
        refine e_callVi hX (t_X1_search b hb v2 M10) mX1_search lX1_31 (by decide) (by decide) oC30 rfl rfl rfl rfl rfl (Nat.le_of_ble_eq_true rfl) zcdX1_fewest_19.1 h (fun r_2 M_3 h => ?_)
        refine s_istore (lv' := [(0, .ref (ad 30)), (1, .ref (ad b)), (2, .int v2), (3, .int y3_10), (4, .int r_2)]) hX zcdX1_fewest_19.2.1 (by decide) rfl ?_
        refine s_iload (k := 4) hX zcdX1_fewest_19.2.2.1 rfl ?_
        refine s_iconst (v := (-1)) hX zcdX1_fewest_19.2.2.2.1 (by decide) ?_
        refine e_icmp_ne (tgt := 32) hX zcdX1_fewest_19.2.2.2.2.1 (by decide) (m_eq (by decide +kernel)) h (fun h => ?_) (fun h => ?_)
        · refine s_aload_n (k := 0) hX zcdX1_fewest_19.2.2.2.2.2.2.2 rfl rfl ?_
          refine s_iload (k := 4) hX zcdX1_fewest_33.1 rfl ?_
          refine e_callVv hX (t_X1_weave r_2 M_3) mX1_weave lX1_35 (by decide) (by decide) oC30 rfl rfl rfl rfl rfl (Nat.le_of_ble_eq_true rfl) zcdX1_fewest_33.2.1 h (fun M_4 h => ?_)
          refine s_iinc (k := 3) (v := (y3_10 + (nI 1))) (lv' := [(0, .ref (ad 30)), (1, .ref (ad b)), (2, .int v2), (4, .int r_2), (3, .int (y3_10 + (nI 1)))]) hX zcdX1_fewest_33.2.2.1 (congrArg (fun z => y3_10 + z) (by decide)) (by decide) rfl rfl ?_
          refine s_goto (tgt := 10) hX zcdX1_fewest_33.2.2.2.1 (by decide) ?_
          refine s_loc [0, 1, 2, 4] rfl ?_
          exact ih10 M_4 (y3_10 + (nI 1)) h
        · refine s_iload_n (k := 3) hX zcdX1_fewest_19.2.2.2.2.2.1 rfl rfl ?_
          exact e_ireti hX hR zcdX1_fewest_19.2.2.2.2.2.2.1 h
  exact lp10 FU M_1 (nI 0) h
set_option maxHeartbeats 4000000 in
theorem t_X2_clearStones (b : Nat) (hb : isF b) (M : Mem) : AXv yX2_clearStones cX2_clearStones 2 none 0 60 glC (fun ad => [.ref (ad b)]) M (f_X2_clearStones b M) := by
  intro r0 h
  refine AM.of (by decide) (fun _ => Nat.le_of_ble_eq_true rfl) (fun X ad cI cZ cB hX hR => ?_)
  show V X M [(0, .ref (ad b))] [] 0
  refine s_iconst (v := (nI 0)) hX zcdX1_fewest_33.2.2.2.2.2.2.1 (by decide) ?_
  refine s_istore_n (lv' := [(0, .ref (ad b)), (1, .int (nI 0))]) hX zcdX1_fewest_33.2.2.2.2.2.2.2 rfl (by decide) rfl ?_
  have lp2 : ∀ (N2 : Nat) (M2 : Mem) (y1_2 : Int32), wlp2 (f_X2_clearStones_B2 b) N2 M2 y1_2 = some r0 → V X M2 [(0, .ref (ad b)), (1, .int y1_2)] [] 2 := by
    intro N2
    induction N2 with
    | zero => exact fun _ _ h => e_none h
    | succ N2 ih2 =>
      intro M2 y1_2 h
      replace h : f_X2_clearStones_B2 b (wlp2 (f_X2_clearStones_B2 b) N2) M2 y1_2 = some r0 := h
      generalize wlp2 (f_X2_clearStones_B2 b) N2 = ag2 at ih2 h
      refine s_iload_n (k := 1) hX zcdX2_clearStones_2.1 rfl rfl ?_
      refine s_bipush (v := (nI 40)) hX zcdX2_clearStones_2.2.1 (by decide) ?_
      refine e_icmp_ge (tgt := 21) hX zcdX2_clearStones_2.2.2.1 (by decide) (m_ge (by decide +kernel)) h (fun h => ?_) (fun h => ?_)
      · exact e_vret hX hR zcdX2_clearStones_15.2.2.1 h
      · refine s_aload_n (k := 0) hX zcdX2_clearStones_2.2.2.2.1 rfl rfl ?_
        refine s_get hX fX2_21 (oF hb) rfl zcdX2_clearStones_2.2.2.2.2.1 ?_
        refine s_iload_n (k := 1) hX zcdX2_clearStones_2.2.2.2.2.2.1 rfl rfl ?_
        refine s_iconst (v := (nI 0)) hX zcdX2_clearStones_2.2.2.2.2.2.2.1 (by decide) ?_
        refine e_zast hX (aF4 hb) zcdX2_clearStones_2.2.2.2.2.2.2.2 h (fun h => ?_)
        refine e_bndM h (fun M_1 h => ?_)
        refine s_iinc (k := 1) (v := (y1_2 + (nI 1))) (lv' := [(0, .ref (ad b)), (1, .int (y1_2 + (nI 1)))]) hX zcdX2_clearStones_15.1 (congrArg (fun z => y1_2 + z) (by decide)) (by decide) rfl rfl ?_
        refine s_goto (tgt := 2) hX zcdX2_clearStones_15.2.1 (by decide) ?_
        exact ih2 M_1 (y1_2 + (nI 1)) h
  exact lp2 FU M (nI 0) h
set_option maxHeartbeats 4000000 in
theorem t_X2_copyStones (b : Nat) (hb : isF b) (b2 : Nat) (hb2 : isF b2) (M : Mem) : AXv yX2_copyStones cX2_copyStones 3 none 0 60 glC (fun ad => [.ref (ad b), .ref (ad b2)]) M (f_X2_copyStones b b2 M) := by
  intro r0 h
  refine AM.of (by decide) (fun _ => Nat.le_of_ble_eq_true rfl) (fun X ad cI cZ cB hX hR => ?_)
  show V X M [(0, .ref (ad b)), (1, .ref (ad b2))] [] 0
  refine s_iconst (v := (nI 0)) hX zcdX2_clearStones_15.2.2.2.1 (by decide) ?_
  refine s_istore_n (lv' := [(0, .ref (ad b)), (1, .ref (ad b2)), (2, .int (nI 0))]) hX zcdX2_clearStones_15.2.2.2.2.1 rfl (by decide) rfl ?_
  have lp2 : ∀ (N2 : Nat) (M2 : Mem) (y2_2 : Int32), wlp2 (f_X2_copyStones_B2 b b2) N2 M2 y2_2 = some r0 → V X M2 [(0, .ref (ad b)), (1, .ref (ad b2)), (2, .int y2_2)] [] 2 := by
    intro N2
    induction N2 with
    | zero => exact fun _ _ h => e_none h
    | succ N2 ih2 =>
      intro M2 y2_2 h
      replace h : f_X2_copyStones_B2 b b2 (wlp2 (f_X2_copyStones_B2 b b2) N2) M2 y2_2 = some r0 := h
      generalize wlp2 (f_X2_copyStones_B2 b b2) N2 = ag2 at ih2 h
      refine s_iload_n (k := 2) hX zcdX2_clearStones_15.2.2.2.2.2.1 rfl rfl ?_
      refine s_bipush (v := (nI 40)) hX zcdX2_clearStones_15.2.2.2.2.2.2.1 (by decide) ?_
      refine e_icmp_ge (tgt := 74) hX zcdX2_clearStones_15.2.2.2.2.2.2.2 (by decide) (m_ge (by decide +kernel)) h (fun h => ?_) (fun h => ?_)
      · exact e_vret hX hR zcdX2_copyStones_68.2.2.1 h
      · refine s_aload_n (k := 0) hX zcdX2_copyStones_8.1 rfl rfl ?_
        refine s_get hX fX2_9 (oF hb) rfl zcdX2_copyStones_8.2.1 ?_
        refine s_iload_n (k := 2) hX zcdX2_copyStones_8.2.2.1 rfl rfl ?_
        refine s_aload_n (k := 1) hX zcdX2_copyStones_8.2.2.2.1 rfl rfl ?_
        refine s_get hX fX2_9 (oF hb2) rfl zcdX2_copyStones_8.2.2.2.2.1 ?_
        refine s_iload_n (k := 2) hX zcdX2_copyStones_8.2.2.2.2.2.1 rfl rfl ?_
        refine e_iald hX (aF1 hb2) zcdX2_copyStones_8.2.2.2.2.2.2.1 h (fun h => ?_)
        refine e_iast hX (aF1 hb) zcdX2_copyStones_8.2.2.2.2.2.2.2 h (fun h => ?_)
        refine e_bndM h (fun M_1 h => ?_)
        refine s_aload_n (k := 0) hX zcdX2_copyStones_20.1 rfl rfl ?_
        refine s_get hX fX2_15 (oF hb) rfl zcdX2_copyStones_20.2.1 ?_
        refine s_iload_n (k := 2) hX zcdX2_copyStones_20.2.2.1 rfl rfl ?_
        refine s_aload_n (k := 1) hX zcdX2_copyStones_20.2.2.2.1 rfl rfl ?_
        refine s_get hX fX2_15 (oF hb2) rfl zcdX2_copyStones_20.2.2.2.2.1 ?_
        refine s_iload_n (k := 2) hX zcdX2_copyStones_20.2.2.2.2.2.1 rfl rfl ?_
        refine e_iald hX (aF2 hb2) zcdX2_copyStones_20.2.2.2.2.2.2.1 h (fun h => ?_)
        refine e_iast hX (aF2 hb) zcdX2_copyStones_20.2.2.2.2.2.2.2 h (fun h => ?_)
        refine e_bndM h (fun M_2 h => ?_)
        refine s_aload_n (k := 0) hX zcdX2_copyStones_32.1 rfl rfl ?_
        refine s_get hX fX2_18 (oF hb) rfl zcdX2_copyStones_32.2.1 ?_
        refine s_iload_n (k := 2) hX zcdX2_copyStones_32.2.2.1 rfl rfl ?_
        refine s_aload_n (k := 1) hX zcdX2_copyStones_32.2.2.2.1 rfl rfl ?_
        refine s_get hX fX2_18 (oF hb2) rfl zcdX2_copyStones_32.2.2.2.2.1 ?_
        refine s_iload_n (k := 2) hX zcdX2_copyStones_32.2.2.2.2.2.1 rfl rfl ?_
        refine e_iald hX (aF3 hb2) zcdX2_copyStones_32.2.2.2.2.2.2.1 h (fun h => ?_)
        refine e_iast hX (aF3 hb) zcdX2_copyStones_32.2.2.2.2.2.2.2 h (fun h => ?_)
        refine e_bndM h (fun M_3 h => ?_)
        refine s_aload_n (k := 0) hX zcdX2_copyStones_44.1 rfl rfl ?_
        refine s_get hX fX2_21 (oF hb) rfl zcdX2_copyStones_44.2.1 ?_
        refine s_iload_n (k := 2) hX zcdX2_copyStones_44.2.2.1 rfl rfl ?_
        refine s_aload_n (k := 1) hX zcdX2_copyStones_44.2.2.2.1 rfl rfl ?_
        refine s_get hX fX2_21 (oF hb2) rfl zcdX2_copyStones_44.2.2.2.2.1 ?_
        refine s_iload_n (k := 2) hX zcdX2_copyStones_44.2.2.2.2.2.1 rfl rfl ?_
        refine e_zald hX (aF4 hb2) zcdX2_copyStones_44.2.2.2.2.2.2.1 h (fun h => ?_)
        refine e_zast hX (aF4 hb) zcdX2_copyStones_44.2.2.2.2.2.2.2 h (fun h => ?_)
        refine e_bndM h (fun M_4 h => ?_)
        refine s_aload_n (k := 0) hX zcdX2_copyStones_56.1 rfl rfl ?_
        refine s_get hX fX2_25 (oF hb) rfl zcdX2_copyStones_56.2.1 ?_
        refine s_iload_n (k := 2) hX zcdX2_copyStones_56.2.2.1 rfl rfl ?_
        refine s_aload_n (k := 1) hX zcdX2_copyStones_56.2.2.2.1 rfl rfl ?_
        refine s_get hX fX2_25 (oF hb2) rfl zcdX2_copyStones_56.2.2.2.2.1 ?_
        refine s_iload_n (k := 2) hX zcdX2_copyStones_56.2.2.2.2.2.1 rfl rfl ?_
        refine e_zald hX (aF5 hb2) zcdX2_copyStones_56.2.2.2.2.2.2.1 h (fun h => ?_)
        refine e_zast hX (aF5 hb) zcdX2_copyStones_56.2.2.2.2.2.2.2 h (fun h => ?_)
        refine e_bndM h (fun M_5 h => ?_)
        refine s_iinc (k := 2) (v := (y2_2 + (nI 1))) (lv' := [(0, .ref (ad b)), (1, .ref (ad b2)), (2, .int (y2_2 + (nI 1)))]) hX zcdX2_copyStones_68.1 (congrArg (fun z => y2_2 + z) (by decide)) (by decide) rfl rfl ?_
        refine s_goto (tgt := 2) hX zcdX2_copyStones_68.2.1 (by decide) ?_
        exact ih2 M_5 (y2_2 + (nI 1)) h
  exact lp2 FU M (nI 0) h
set_option maxHeartbeats 4000000 in
theorem t_X2_copyAll (b : Nat) (hb : isF b) (b2 : Nat) (hb2 : isF b2) (M : Mem) : AXv yX2_copyAll cX2_copyAll 2 none 1 60 glC (fun ad => [.ref (ad b), .ref (ad b2)]) M (f_X2_copyAll b b2 M) := by
  intro r0 h
  refine AM.of (by decide) (fun _ => Nat.le_of_ble_eq_true rfl) (fun X ad cI cZ cB hX hR => ?_)
  show V X M [(0, .ref (ad b)), (1, .ref (ad b2))] [] 0
  refine s_aload_n (k := 0) hX zcdX2_copyStones_68.2.2.2.1 rfl rfl ?_
  refine s_aload_n (k := 1) hX zcdX2_copyStones_68.2.2.2.2.1 rfl rfl ?_
  refine e_callVv hX (t_X2_copyStones b hb b2 hb2 M) mX2_copyStones lX2_35 (by decide) (by decide) (oF hb) rfl rfl rfl rfl rfl (Nat.le_of_ble_eq_true rfl) zcdX2_copyStones_68.2.2.2.2.2.1 h (fun M_1 h => ?_)
  refine s_aload_n (k := 0) hX zcdX2_copyStones_68.2.2.2.2.2.2.1 rfl rfl ?_
  refine s_aload_n (k := 1) hX zcdX2_copyStones_68.2.2.2.2.2.2.2 rfl rfl ?_
  refine s_get hX fX2_28 (oF hb2) rfl zcdX2_copyAll_7.1 ?_
  refine s_puti (ty := .int) hX fX2_28 (oF hb) rfl (Nat.le_of_ble_eq_true rfl) ty_2_5 rfl rfl zcdX2_copyAll_7.2.1 ?_
  refine e_bndM h (fun M_2 h => ?_)
  refine s_aload_n (k := 0) hX zcdX2_copyAll_7.2.2.1 rfl rfl ?_
  refine s_aload_n (k := 1) hX zcdX2_copyAll_7.2.2.2.1 rfl rfl ?_
  refine s_get hX fX2_32 (oF hb2) rfl zcdX2_copyAll_7.2.2.2.2.1 ?_
  refine s_puti (ty := .int) hX fX2_32 (oF hb) rfl (Nat.le_of_ble_eq_true rfl) ty_2_6 rfl rfl zcdX2_copyAll_7.2.2.2.2.2.1 ?_
  refine e_bndM h (fun M_3 h => ?_)
  exact e_vret hX hR zcdX2_copyAll_7.2.2.2.2.2.2.1 h
set_option maxHeartbeats 4000000 in
theorem t_X2_squares (b : Nat) (hb : isF b) (v1 : Int32) (v2 : Int32) (M : Mem) : AXp yX2_squares cX2_squares 5 (some .int) 1 60 glC (fun ad => [.ref (ad b), .int v1, .int v2]) M (f_X2_squares b M v1 v2) := by
  intro r0 h
  refine AM.of (by decide) (fun _ => Nat.le_of_ble_eq_true rfl) (fun X ad cI cZ cB hX hR => ?_)
  show V X M [(0, .ref (ad b)), (1, .int v1), (2, .int v2)] [] 0
  refine s_aload_n (k := 0) hX zcdX2_copyAll_7.2.2.2.2.2.2.2 rfl rfl ?_
  refine s_iload_n (k := 1) hX zcdX2_squares_1.1 rfl rfl ?_
  refine e_callVp hX (t_X2_isTold b hb v1 M) mX2_isTold lX2_52 (by decide) (by decide) (oF hb) rfl rfl rfl rfl rfl (Nat.le_of_ble_eq_true rfl) zcdX2_squares_1.2.1 h (fun r_1 h => ?_)
  refine e_if_eq (tgt := 16) hX zcdX2_squares_1.2.2.1 (by decide) z_eq h (fun h => ?_) (fun h => ?_)
  · refine s_iconst (v := (nI 0)) hX zcdX2_squares_1.2.2.2.2.2.2.2 (by decide) ?_
    exact e_iretp hX hR zcdX2_squares_17.1 h
  · refine s_aload_n (k := 0) hX zcdX2_squares_1.2.2.2.1 rfl rfl ?_
    refine s_iload_n (k := 2) hX zcdX2_squares_1.2.2.2.2.1 rfl rfl ?_
    refine e_callVp hX (t_X2_isTold b hb v2 M) mX2_isTold lX2_52 (by decide) (by decide) (oF hb) rfl rfl rfl rfl rfl (Nat.le_of_ble_eq_true rfl) zcdX2_squares_1.2.2.2.2.2.1 h (fun r_2 h => ?_)
    refine e_if_ne (tgt := 18) hX zcdX2_squares_1.2.2.2.2.2.2.1 (by decide) z_eq h (fun h => ?_) (fun h => ?_)
    · refine s_aload_n (k := 0) hX zcdX2_squares_17.2.1 rfl rfl ?_
      refine s_get hX fX2_9 (oF hb) rfl zcdX2_squares_17.2.2.1 ?_
      refine s_iload_n (k := 1) hX zcdX2_squares_17.2.2.2.1 rfl rfl ?_
      refine e_iald hX (aF1 hb) zcdX2_squares_17.2.2.2.2.1 h (fun h => ?_)
      refine s_aload_n (k := 0) hX zcdX2_squares_17.2.2.2.2.2.1 rfl rfl ?_
      refine s_get hX fX2_9 (oF hb) rfl zcdX2_squares_17.2.2.2.2.2.2.1 ?_
      refine s_iload_n (k := 2) hX zcdX2_squares_17.2.2.2.2.2.2.2 rfl rfl ?_
      refine e_iald hX (aF1 hb) zcdX2_squares_29.1 h (fun h => ?_)
      refine s_isub hX zcdX2_squares_29.2.1 ?_
      refine e_bnd h (fun x_3 h => ?_)
      refine s_istore_n (lv' := [(0, .ref (ad b)), (1, .int v1), (2, .int v2), (3, .int x_3)]) hX zcdX2_squares_29.2.2.1 rfl (by decide) rfl ?_
      refine s_aload_n (k := 0) hX zcdX2_squares_29.2.2.2.1 rfl rfl ?_
      refine s_get hX fX2_15 (oF hb) rfl zcdX2_squares_29.2.2.2.2.1 ?_
      refine s_iload_n (k := 1) hX zcdX2_squares_29.2.2.2.2.2.1 rfl rfl ?_
      refine e_iald hX (aF2 hb) zcdX2_squares_29.2.2.2.2.2.2.1 h (fun h => ?_)
      refine s_aload_n (k := 0) hX zcdX2_squares_29.2.2.2.2.2.2.2 rfl rfl ?_
      refine s_get hX fX2_15 (oF hb) rfl zcdX2_squares_39.1 ?_
      refine s_iload_n (k := 2) hX zcdX2_squares_39.2.1 rfl rfl ?_
      refine e_iald hX (aF2 hb) zcdX2_squares_39.2.2.1 h (fun h => ?_)
      refine s_isub hX zcdX2_squares_39.2.2.2.1 ?_
      refine e_bnd h (fun x_4 h => ?_)
      refine s_istore (lv' := [(0, .ref (ad b)), (1, .int v1), (2, .int v2), (3, .int x_3), (4, .int x_4)]) hX zcdX2_squares_39.2.2.2.2.1 (by decide) rfl ?_
      refine s_iload_n (k := 3) hX zcdX2_squares_39.2.2.2.2.2.1 rfl rfl ?_
      refine s_iload_n (k := 3) hX zcdX2_squares_39.2.2.2.2.2.2.1 rfl rfl ?_
      refine s_imul hX zcdX2_squares_39.2.2.2.2.2.2.2 ?_
      refine s_iload (k := 4) hX zcdX2_squares_50.1 rfl ?_
      refine s_iload (k := 4) hX zcdX2_squares_50.2.1 rfl ?_
      refine s_imul hX zcdX2_squares_50.2.2.1 ?_
      refine s_iadd hX zcdX2_squares_50.2.2.2.1 ?_
      exact e_iretp hX hR zcdX2_squares_50.2.2.2.2.1 h
    · refine s_iconst (v := (nI 0)) hX zcdX2_squares_1.2.2.2.2.2.2.2 (by decide) ?_
      exact e_iretp hX hR zcdX2_squares_17.1 h
set_option maxHeartbeats 4000000 in
theorem t_X2_countClose (b : Nat) (hb : isF b) (v1 : Int32) (M : Mem) : AXp yX2_countClose cX2_countClose 4 (some .int) 2 60 glC (fun ad => [.ref (ad b), .int v1]) M (f_X2_countClose b M v1) := by
  intro r0 h
  refine AM.of (by decide) (fun _ => Nat.le_of_ble_eq_true rfl) (fun X ad cI cZ cB hX hR => ?_)
  show V X M [(0, .ref (ad b)), (1, .int v1)] [] 0
  refine s_iconst (v := (nI 0)) hX zcdX2_squares_50.2.2.2.2.2.1 (by decide) ?_
  refine s_istore_n (lv' := [(0, .ref (ad b)), (1, .int v1), (2, .int (nI 0))]) hX zcdX2_squares_50.2.2.2.2.2.2.1 rfl (by decide) rfl ?_
  refine s_iconst (v := (nI 0)) hX zcdX2_squares_50.2.2.2.2.2.2.2 (by decide) ?_
  refine s_istore_n (lv' := [(0, .ref (ad b)), (1, .int v1), (2, .int (nI 0)), (3, .int (nI 0))]) hX zcdX2_countClose_3.1 rfl (by decide) rfl ?_
  have lp4 : ∀ (N4 : Nat) (y2_4 : Int32) (y3_4 : Int32), wlp2 (f_X2_countClose_B4 b M v1) N4 y2_4 y3_4 = some r0 → V X M [(0, .ref (ad b)), (1, .int v1), (2, .int y2_4), (3, .int y3_4)] [] 4 := by
    intro N4
    induction N4 with
    | zero => exact fun _ _ h => e_none h
    | succ N4 ih4 =>
      intro y2_4 y3_4 h
      replace h : f_X2_countClose_B4 b M v1 (wlp2 (f_X2_countClose_B4 b M v1) N4) y2_4 y3_4 = some r0 := h
      generalize wlp2 (f_X2_countClose_B4 b M v1) N4 = ag4 at ih4 h
      refine s_iload_n (k := 3) hX zcdX2_countClose_3.2.1 rfl rfl ?_
      refine s_bipush (v := (nI 40)) hX zcdX2_countClose_3.2.2.1 (by decide) ?_
      refine e_icmp_ge (tgt := 43) hX zcdX2_countClose_3.2.2.2.1 (by decide) (m_ge (by decide +kernel)) h (fun h => ?_) (fun h => ?_)
      · refine s_iload_n (k := 2) hX zcdX2_countClose_30.2.2.2.2.2.1 rfl rfl ?_
        exact e_iretp hX hR zcdX2_countClose_30.2.2.2.2.2.2.1 h
      · refine s_iload_n (k := 3) hX zcdX2_countClose_3.2.2.2.2.1 rfl rfl ?_
        refine s_iload_n (k := 1) hX zcdX2_countClose_3.2.2.2.2.2.1 rfl rfl ?_
        refine e_icmp_eq (tgt := 37) hX zcdX2_countClose_3.2.2.2.2.2.2.1 (by decide) r_eq h (fun h => ?_) (fun h => ?_)
        · refine s_iinc (k := 3) (v := (y3_4 + (nI 1))) (lv' := [(0, .ref (ad b)), (1, .int v1), (2, .int y2_4), (3, .int (y3_4 + (nI 1)))]) hX zcdX2_countClose_30.2.2.2.1 (congrArg (fun z => y3_4 + z) (by decide)) (by decide) rfl rfl ?_
          refine s_goto (tgt := 4) hX zcdX2_countClose_30.2.2.2.2.1 (by decide) ?_
          exact ih4 y2_4 (y3_4 + (nI 1)) h
        · refine s_aload_n (k := 0) hX zcdX2_countClose_3.2.2.2.2.2.2.2 rfl rfl ?_
          refine s_get hX fX2_21 (oF hb) rfl zcdX2_countClose_16.1 ?_
          refine s_iload_n (k := 3) hX zcdX2_countClose_16.2.1 rfl rfl ?_
          refine e_zald hX (aF4 hb) zcdX2_countClose_16.2.2.1 h (fun h => ?_)
          refine e_if_eq (tgt := 37) hX zcdX2_countClose_16.2.2.2.1 (by decide) z_eq h (fun h => ?_) (fun h => ?_)
          · refine s_iinc (k := 3) (v := (y3_4 + (nI 1))) (lv' := [(0, .ref (ad b)), (1, .int v1), (2, .int y2_4), (3, .int (y3_4 + (nI 1)))]) hX zcdX2_countClose_30.2.2.2.1 (congrArg (fun z => y3_4 + z) (by decide)) (by decide) rfl rfl ?_
            refine s_goto (tgt := 4) hX zcdX2_countClose_30.2.2.2.2.1 (by decide) ?_
            exact ih4 y2_4 (y3_4 + (nI 1)) h
          · refine s_aload_n (k := 0) hX zcdX2_countClose_16.2.2.2.2.1 rfl rfl ?_
            refine s_iload_n (k := 1) hX zcdX2_countClose_16.2.2.2.2.2.1 rfl rfl ?_
            refine s_iload_n (k := 3) hX zcdX2_countClose_16.2.2.2.2.2.2.1 rfl rfl ?_
            refine e_callVp hX (t_X2_squares b hb v1 y3_4 M) mX2_squares lX2_49 (by decide) (by decide) (oF hb) rfl rfl rfl rfl rfl (Nat.le_of_ble_eq_true rfl) zcdX2_countClose_16.2.2.2.2.2.2.2 h (fun r_1 h => ?_)
            refine s_iconst (v := (nI 4)) hX zcdX2_countClose_30.1 (by decide) ?_
            refine e_icmp_gt (tgt := 37) hX zcdX2_countClose_30.2.1 (by decide) (m_gt (by decide +kernel)) h (fun h => ?_) (fun h => ?_)
            · refine s_iinc (k := 3) (v := (y3_4 + (nI 1))) (lv' := [(0, .ref (ad b)), (1, .int v1), (2, .int y2_4), (3, .int (y3_4 + (nI 1)))]) hX zcdX2_countClose_30.2.2.2.1 (congrArg (fun z => y3_4 + z) (by decide)) (by decide) rfl rfl ?_
              refine s_goto (tgt := 4) hX zcdX2_countClose_30.2.2.2.2.1 (by decide) ?_
              exact ih4 y2_4 (y3_4 + (nI 1)) h
            · refine s_iinc (k := 2) (v := (y2_4 + (nI 1))) (lv' := [(0, .ref (ad b)), (1, .int v1), (3, .int y3_4), (2, .int (y2_4 + (nI 1)))]) hX zcdX2_countClose_30.2.2.1 (congrArg (fun z => y2_4 + z) (by decide)) (by decide) rfl rfl ?_
              refine s_iinc (k := 2) (v := (y3_4 + (nI 1))) (lv' := [(0, .ref (ad b)), (1, .int v1), (2, .int (y2_4 + (nI 1))), (3, .int (y3_4 + (nI 1)))]) hX zcdX2_countClose_30.2.2.2.1 (congrArg (fun z => y3_4 + z) (by decide)) (by decide) rfl rfl ?_
              refine s_goto (tgt := 4) hX zcdX2_countClose_30.2.2.2.2.1 (by decide) ?_
              exact ih4 (y2_4 + (nI 1)) (y3_4 + (nI 1)) h
  exact lp4 FU (nI 0) (nI 0) h
set_option maxHeartbeats 4000000 in
theorem t_X2_countSunk (b : Nat) (hb : isF b) (M : Mem) : AXp yX2_countSunk cX2_countSunk 3 (some .int) 0 60 glC (fun ad => [.ref (ad b)]) M (f_X2_countSunk b M) := by
  intro r0 h
  refine AM.of (by decide) (fun _ => Nat.le_of_ble_eq_true rfl) (fun X ad cI cZ cB hX hR => ?_)
  show V X M [(0, .ref (ad b))] [] 0
  refine s_iconst (v := (nI 0)) hX zcdX2_countClose_30.2.2.2.2.2.2.2 (by decide) ?_
  refine s_istore_n (lv' := [(0, .ref (ad b)), (1, .int (nI 0))]) hX zcdX2_countSunk_1.1 rfl (by decide) rfl ?_
  refine s_iconst (v := (nI 0)) hX zcdX2_countSunk_1.2.1 (by decide) ?_
  refine s_istore_n (lv' := [(0, .ref (ad b)), (1, .int (nI 0)), (2, .int (nI 0))]) hX zcdX2_countSunk_1.2.2.1 rfl (by decide) rfl ?_
  have lp4 : ∀ (N4 : Nat) (y1_4 : Int32) (y2_4 : Int32), wlp2 (f_X2_countSunk_B4 b M) N4 y1_4 y2_4 = some r0 → V X M [(0, .ref (ad b)), (1, .int y1_4), (2, .int y2_4)] [] 4 := by
    intro N4
    induction N4 with
    | zero => exact fun _ _ h => e_none h
    | succ N4 ih4 =>
      intro y1_4 y2_4 h
      replace h : f_X2_countSunk_B4 b M (wlp2 (f_X2_countSunk_B4 b M) N4) y1_4 y2_4 = some r0 := h
      generalize wlp2 (f_X2_countSunk_B4 b M) N4 = ag4 at ih4 h
      refine s_iload_n (k := 2) hX zcdX2_countSunk_1.2.2.2.1 rfl rfl ?_
      refine s_bipush (v := (nI 40)) hX zcdX2_countSunk_1.2.2.2.2.1 (by decide) ?_
      refine e_icmp_ge (tgt := 42) hX zcdX2_countSunk_1.2.2.2.2.2.1 (by decide) (m_ge (by decide +kernel)) h (fun h => ?_) (fun h => ?_)
      · refine s_iload_n (k := 1) hX zcdX2_countSunk_42.1 rfl rfl ?_
        exact e_iretp hX hR zcdX2_countSunk_42.2.1 h
      · refine s_iload_n (k := 1) hX zcdX2_countSunk_1.2.2.2.2.2.2.1 rfl rfl ?_
        refine s_aload_n (k := 0) hX zcdX2_countSunk_1.2.2.2.2.2.2.2 rfl rfl ?_
        refine s_get hX fX2_21 (oF hb) rfl zcdX2_countSunk_12.1 ?_
        refine s_iload_n (k := 2) hX zcdX2_countSunk_12.2.1 rfl rfl ?_
        refine e_zald hX (aF4 hb) zcdX2_countSunk_12.2.2.1 h (fun h => ?_)
        refine e_if_eq (tgt := 33) hX zcdX2_countSunk_12.2.2.2.1 (by decide) z_eq h (fun h => ?_) (fun h => ?_)
        · refine s_iconst (v := (nI 0)) hX zcdX2_countSunk_26.2.2.2.1 (by decide) ?_
          refine s_iadd hX zcdX2_countSunk_26.2.2.2.2.1 ?_
          refine s_istore_n (lv' := [(0, .ref (ad b)), (2, .int y2_4), (1, .int (y1_4 + (nI 0)))]) hX zcdX2_countSunk_26.2.2.2.2.2.1 rfl (by decide) rfl ?_
          refine s_iinc (k := 1) (v := (y2_4 + (nI 1))) (lv' := [(0, .ref (ad b)), (1, .int (y1_4 + (nI 0))), (2, .int (y2_4 + (nI 1)))]) hX zcdX2_countSunk_26.2.2.2.2.2.2.1 (congrArg (fun z => y2_4 + z) (by decide)) (by decide) rfl rfl ?_
          refine s_goto (tgt := 4) hX zcdX2_countSunk_26.2.2.2.2.2.2.2 (by decide) ?_
          exact ih4 (y1_4 + (nI 0)) (y2_4 + (nI 1)) h
        · refine s_aload_n (k := 0) hX zcdX2_countSunk_12.2.2.2.2.1 rfl rfl ?_
          refine s_get hX fX2_25 (oF hb) rfl zcdX2_countSunk_12.2.2.2.2.2.1 ?_
          refine s_iload_n (k := 2) hX zcdX2_countSunk_12.2.2.2.2.2.2.1 rfl rfl ?_
          refine e_zald hX (aF5 hb) zcdX2_countSunk_12.2.2.2.2.2.2.2 h (fun h => ?_)
          refine e_if_eq (tgt := 33) hX zcdX2_countSunk_26.1 (by decide) z_eq h (fun h => ?_) (fun h => ?_)
          · refine s_iconst (v := (nI 0)) hX zcdX2_countSunk_26.2.2.2.1 (by decide) ?_
            refine s_iadd hX zcdX2_countSunk_26.2.2.2.2.1 ?_
            refine s_istore_n (lv' := [(0, .ref (ad b)), (2, .int y2_4), (1, .int (y1_4 + (nI 0)))]) hX zcdX2_countSunk_26.2.2.2.2.2.1 rfl (by decide) rfl ?_
            refine s_iinc (k := 1) (v := (y2_4 + (nI 1))) (lv' := [(0, .ref (ad b)), (1, .int (y1_4 + (nI 0))), (2, .int (y2_4 + (nI 1)))]) hX zcdX2_countSunk_26.2.2.2.2.2.2.1 (congrArg (fun z => y2_4 + z) (by decide)) (by decide) rfl rfl ?_
            refine s_goto (tgt := 4) hX zcdX2_countSunk_26.2.2.2.2.2.2.2 (by decide) ?_
            exact ih4 (y1_4 + (nI 0)) (y2_4 + (nI 1)) h
          · refine s_iconst (v := (nI 1)) hX zcdX2_countSunk_26.2.1 (by decide) ?_
            refine s_goto (tgt := 34) hX zcdX2_countSunk_26.2.2.1 (by decide) ?_
            refine s_iadd hX zcdX2_countSunk_26.2.2.2.2.1 ?_
            refine s_istore_n (lv' := [(0, .ref (ad b)), (2, .int y2_4), (1, .int (y1_4 + (nI 1)))]) hX zcdX2_countSunk_26.2.2.2.2.2.1 rfl (by decide) rfl ?_
            refine s_iinc (k := 1) (v := (y2_4 + (nI 1))) (lv' := [(0, .ref (ad b)), (1, .int (y1_4 + (nI 1))), (2, .int (y2_4 + (nI 1)))]) hX zcdX2_countSunk_26.2.2.2.2.2.2.1 (congrArg (fun z => y2_4 + z) (by decide)) (by decide) rfl rfl ?_
            refine s_goto (tgt := 4) hX zcdX2_countSunk_26.2.2.2.2.2.2.2 (by decide) ?_
            exact ih4 (y1_4 + (nI 1)) (y2_4 + (nI 1)) h
  exact lp4 FU (nI 0) (nI 0) h
set_option maxHeartbeats 4000000 in
theorem t_X2_countTold (b : Nat) (hb : isF b) (M : Mem) : AXp yX2_countTold cX2_countTold 3 (some .int) 0 60 glC (fun ad => [.ref (ad b)]) M (f_X2_countTold b M) := by
  intro r0 h
  refine AM.of (by decide) (fun _ => Nat.le_of_ble_eq_true rfl) (fun X ad cI cZ cB hX hR => ?_)
  show V X M [(0, .ref (ad b))] [] 0
  refine s_iconst (v := (nI 0)) hX zcdX2_countSunk_42.2.2.1 (by decide) ?_
  refine s_istore_n (lv' := [(0, .ref (ad b)), (1, .int (nI 0))]) hX zcdX2_countSunk_42.2.2.2.1 rfl (by decide) rfl ?_
  refine s_iconst (v := (nI 0)) hX zcdX2_countSunk_42.2.2.2.2.1 (by decide) ?_
  refine s_istore_n (lv' := [(0, .ref (ad b)), (1, .int (nI 0)), (2, .int (nI 0))]) hX zcdX2_countSunk_42.2.2.2.2.2.1 rfl (by decide) rfl ?_
  have lp4 : ∀ (N4 : Nat) (y1_4 : Int32) (y2_4 : Int32), wlp2 (f_X2_countTold_B4 b M) N4 y1_4 y2_4 = some r0 → V X M [(0, .ref (ad b)), (1, .int y1_4), (2, .int y2_4)] [] 4 := by
    intro N4
    induction N4 with
    | zero => exact fun _ _ h => e_none h
    | succ N4 ih4 =>
      intro y1_4 y2_4 h
      replace h : f_X2_countTold_B4 b M (wlp2 (f_X2_countTold_B4 b M) N4) y1_4 y2_4 = some r0 := h
      generalize wlp2 (f_X2_countTold_B4 b M) N4 = ag4 at ih4 h
      refine s_iload_n (k := 2) hX zcdX2_countSunk_42.2.2.2.2.2.2.1 rfl rfl ?_
      refine s_bipush (v := (nI 40)) hX zcdX2_countSunk_42.2.2.2.2.2.2.2 (by decide) ?_
      refine e_icmp_ge (tgt := 33) hX zcdX2_countTold_7.1 (by decide) (m_ge (by decide +kernel)) h (fun h => ?_) (fun h => ?_)
      · refine s_iload_n (k := 1) hX zcdX2_countTold_21.2.2.2.2.2.2.1 rfl rfl ?_
        exact e_iretp hX hR zcdX2_countTold_21.2.2.2.2.2.2.2 h
      · refine s_iload_n (k := 1) hX zcdX2_countTold_7.2.1 rfl rfl ?_
        refine s_aload_n (k := 0) hX zcdX2_countTold_7.2.2.1 rfl rfl ?_
        refine s_get hX fX2_21 (oF hb) rfl zcdX2_countTold_7.2.2.2.1 ?_
        refine s_iload_n (k := 2) hX zcdX2_countTold_7.2.2.2.2.1 rfl rfl ?_
        refine e_zald hX (aF4 hb) zcdX2_countTold_7.2.2.2.2.2.1 h (fun h => ?_)
        refine e_if_eq (tgt := 24) hX zcdX2_countTold_7.2.2.2.2.2.2.1 (by decide) z_eq h (fun h => ?_) (fun h => ?_)
        · refine s_iconst (v := (nI 0)) hX zcdX2_countTold_21.2.1 (by decide) ?_
          refine s_iadd hX zcdX2_countTold_21.2.2.1 ?_
          refine s_istore_n (lv' := [(0, .ref (ad b)), (2, .int y2_4), (1, .int (y1_4 + (nI 0)))]) hX zcdX2_countTold_21.2.2.2.1 rfl (by decide) rfl ?_
          refine s_iinc (k := 1) (v := (y2_4 + (nI 1))) (lv' := [(0, .ref (ad b)), (1, .int (y1_4 + (nI 0))), (2, .int (y2_4 + (nI 1)))]) hX zcdX2_countTold_21.2.2.2.2.1 (congrArg (fun z => y2_4 + z) (by decide)) (by decide) rfl rfl ?_
          refine s_goto (tgt := 4) hX zcdX2_countTold_21.2.2.2.2.2.1 (by decide) ?_
          exact ih4 (y1_4 + (nI 0)) (y2_4 + (nI 1)) h
        · refine s_iconst (v := (nI 1)) hX zcdX2_countTold_7.2.2.2.2.2.2.2 (by decide) ?_
          refine s_goto (tgt := 25) hX zcdX2_countTold_21.1 (by decide) ?_
          refine s_iadd hX zcdX2_countTold_21.2.2.1 ?_
          refine s_istore_n (lv' := [(0, .ref (ad b)), (2, .int y2_4), (1, .int (y1_4 + (nI 1)))]) hX zcdX2_countTold_21.2.2.2.1 rfl (by decide) rfl ?_
          refine s_iinc (k := 1) (v := (y2_4 + (nI 1))) (lv' := [(0, .ref (ad b)), (1, .int (y1_4 + (nI 1))), (2, .int (y2_4 + (nI 1)))]) hX zcdX2_countTold_21.2.2.2.2.1 (congrArg (fun z => y2_4 + z) (by decide)) (by decide) rfl rfl ?_
          refine s_goto (tgt := 4) hX zcdX2_countTold_21.2.2.2.2.2.1 (by decide) ?_
          exact ih4 (y1_4 + (nI 1)) (y2_4 + (nI 1)) h
  exact lp4 FU (nI 0) (nI 0) h
set_option maxHeartbeats 4000000 in
theorem t_X2_draw (b : Nat) (hb : isF b) (M : Mem) : AXi yX2_draw cX2_draw 1 (some .int) 0 60 glC (fun ad => [.ref (ad b)]) M (f_X2_draw b M) := by
  intro r0 h
  refine AM.of (by decide) (fun _ => Nat.le_of_ble_eq_true rfl) (fun X ad cI cZ cB hX hR => ?_)
  show V X M [(0, .ref (ad b))] [] 0
  refine s_aload_n (k := 0) hX zcdX2_draw_0.1 rfl rfl ?_
  refine s_sipush (v := (nI 25173)) hX zcdX2_draw_0.2.1 (by decide) ?_
  refine s_aload_n (k := 0) hX zcdX2_draw_0.2.2.1 rfl rfl ?_
  refine s_get hX fX2_32 (oF hb) rfl zcdX2_draw_0.2.2.2.1 ?_
  refine s_imul hX zcdX2_draw_0.2.2.2.2.1 ?_
  refine s_sipush (v := (nI 13849)) hX zcdX2_draw_0.2.2.2.2.2.1 (by decide) ?_
  refine s_iadd hX zcdX2_draw_0.2.2.2.2.2.2.1 ?_
  refine s_ldc (v := (nI 65535)) hX kX2_55 zcdX2_draw_0.2.2.2.2.2.2.2 ?_
  refine s_iand hX zcdX2_draw_15.1 ?_
  refine s_puti (ty := .int) hX fX2_32 (oF hb) rfl (Nat.le_of_ble_eq_true rfl) ty_2_6 rfl rfl zcdX2_draw_15.2.1 ?_
  refine e_bndM h (fun M_1 h => ?_)
  refine s_aload_n (k := 0) hX zcdX2_draw_15.2.2.1 rfl rfl ?_
  refine s_get hX fX2_32 (oF hb) rfl zcdX2_draw_15.2.2.2.1 ?_
  refine s_bipush (v := (nI 10)) hX zcdX2_draw_15.2.2.2.2.1 (by decide) ?_
  refine s_iremL hX zcdX2_draw_15.2.2.2.2.2.1 (by decide) ?_
  exact e_ireti hX hR zcdX2_draw_15.2.2.2.2.2.2.1 h
set_option maxHeartbeats 4000000 in
theorem t_X2_lay (b : Nat) (hb : isF b) (v1 : Int32) (v2 : Int32) (v3 : Int32) (v4 : Int32) (v5 : Int32) (M : Mem) : AXv yX2_lay cX2_lay 6 none 0 60 glC (fun ad => [.ref (ad b), .int v1, .int v2, .int v3, .int v4, .int v5]) M (f_X2_lay b M v1 v2 v3 v4 v5) := by
  intro r0 h
  refine AM.of (by decide) (fun _ => Nat.le_of_ble_eq_true rfl) (fun X ad cI cZ cB hX hR => ?_)
  show V X M [(0, .ref (ad b)), (1, .int v1), (2, .int v2), (3, .int v3), (4, .int v4), (5, .int v5)] [] 0
  refine s_iload_n (k := 1) hX zcdX2_draw_15.2.2.2.2.2.2.2 rfl rfl ?_
  refine e_if_lt (tgt := 10) hX zcdX2_lay_1.1 (by decide) z_lt h (fun h => ?_) (fun h => ?_)
  · exact e_vret hX hR zcdX2_lay_1.2.2.2.2.1 h
  · refine s_iload_n (k := 1) hX zcdX2_lay_1.2.1 rfl rfl ?_
    refine s_bipush (v := (nI 40)) hX zcdX2_lay_1.2.2.1 (by decide) ?_
    refine e_icmp_lt (tgt := 11) hX zcdX2_lay_1.2.2.2.1 (by decide) (m_lt (by decide +kernel)) h (fun h => ?_) (fun h => ?_)
    · refine s_aload_n (k := 0) hX zcdX2_lay_1.2.2.2.2.2.1 rfl rfl ?_
      refine s_get hX fX2_9 (oF hb) rfl zcdX2_lay_1.2.2.2.2.2.2.1 ?_
      refine s_iload_n (k := 1) hX zcdX2_lay_1.2.2.2.2.2.2.2 rfl rfl ?_
      refine s_iload_n (k := 2) hX zcdX2_lay_16.1 rfl rfl ?_
      refine e_iast hX (aF1 hb) zcdX2_lay_16.2.1 h (fun h => ?_)
      refine e_bndM h (fun M_1 h => ?_)
      refine s_aload_n (k := 0) hX zcdX2_lay_16.2.2.1 rfl rfl ?_
      refine s_get hX fX2_15 (oF hb) rfl zcdX2_lay_16.2.2.2.1 ?_
      refine s_iload_n (k := 1) hX zcdX2_lay_16.2.2.2.2.1 rfl rfl ?_
      refine s_iload_n (k := 3) hX zcdX2_lay_16.2.2.2.2.2.1 rfl rfl ?_
      refine e_iast hX (aF2 hb) zcdX2_lay_16.2.2.2.2.2.2.1 h (fun h => ?_)
      refine e_bndM h (fun M_2 h => ?_)
      refine s_aload_n (k := 0) hX zcdX2_lay_16.2.2.2.2.2.2.2 rfl rfl ?_
      refine s_get hX fX2_18 (oF hb) rfl zcdX2_lay_26.1 ?_
      refine s_iload_n (k := 1) hX zcdX2_lay_26.2.1 rfl rfl ?_
      refine s_iload (k := 4) hX zcdX2_lay_26.2.2.1 rfl ?_
      refine e_iast hX (aF3 hb) zcdX2_lay_26.2.2.2.1 h (fun h => ?_)
      refine e_bndM h (fun M_3 h => ?_)
      refine s_aload_n (k := 0) hX zcdX2_lay_26.2.2.2.2.1 rfl rfl ?_
      refine s_get hX fX2_25 (oF hb) rfl zcdX2_lay_26.2.2.2.2.2.1 ?_
      refine s_iload_n (k := 1) hX zcdX2_lay_26.2.2.2.2.2.2.1 rfl rfl ?_
      refine s_iload (k := 5) hX zcdX2_lay_26.2.2.2.2.2.2.2 rfl ?_
      refine e_zast hX (aF5 hb) zcdX2_lay_40.1 h (fun h => ?_)
      refine e_bndM h (fun M_4 h => ?_)
      refine s_aload_n (k := 0) hX zcdX2_lay_40.2.1 rfl rfl ?_
      refine s_get hX fX2_21 (oF hb) rfl zcdX2_lay_40.2.2.1 ?_
      refine s_iload_n (k := 1) hX zcdX2_lay_40.2.2.2.1 rfl rfl ?_
      refine s_iconst (v := (nI 1)) hX zcdX2_lay_40.2.2.2.2.1 (by decide) ?_
      refine e_zast hX (aF4 hb) zcdX2_lay_40.2.2.2.2.2.1 h (fun h => ?_)
      refine e_bndM h (fun M_5 h => ?_)
      exact e_vret hX hR zcdX2_lay_40.2.2.2.2.2.2 h
    · exact e_vret hX hR zcdX2_lay_1.2.2.2.2.1 h
