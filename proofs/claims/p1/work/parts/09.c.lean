/-! the public methods on a fresh object -/
def FrC (M : Mem) : Prop := (∀ j, j < 40 → M 5 j = 0) ∧ (∀ j, j < 8 → M 43 j = 0) ∧ M 19 1 = nI 0 ∧ M 1 5 = nI 0 ∧ M 1 6 = 1 ∧ M 0 10 = nI 44 ∧ M 0 12 = nI 0 ∧ M 44 8 = nI 0
theorem nI0 : (nI 0).toInt = 0 := by decide
theorem nI1 : (nI 1).toInt = 1 := by decide
theorem nI2 : (nI 2).toInt = 2 := by decide
theorem nI40 : (nI 40).toInt = 40 := by decide
theorem dX9_stone_0 : decode cX9_stone 0 = .ok (.iload_n 1, 1) := by decide +kernel
theorem dX9_stone_1 : decode cX9_stone 1 = .ok (.invokestatic 82, 3) := by decide +kernel
theorem dX9_stone_4 : decode cX9_stone 4 = .ok (.ifCond .eq 23, 3) := by decide +kernel
theorem dX9_stone_7 : decode cX9_stone 7 = .ok (.iload_n 2, 1) := by decide +kernel
theorem dX9_stone_8 : decode cX9_stone 8 = .ok (.iload_n 3, 1) := by decide +kernel
theorem dX9_stone_9 : decode cX9_stone 9 = .ok (.invokestatic 86, 3) := by decide +kernel
theorem dX9_stone_12 : decode cX9_stone 12 = .ok (.ifCond .eq 15, 3) := by decide +kernel
theorem dX9_stone_15 : decode cX9_stone 15 = .ok (.iload 4, 2) := by decide +kernel
theorem dX9_stone_17 : decode cX9_stone 17 = .ok (.ifCond .lt 10, 3) := by decide +kernel
theorem dX9_stone_20 : decode cX9_stone 20 = .ok (.iload 4, 2) := by decide +kernel
theorem dX9_stone_22 : decode cX9_stone 22 = .ok (.bipush 9, 2) := by decide +kernel
theorem dX9_stone_24 : decode cX9_stone 24 = .ok (.if_icmp .le 5, 3) := by decide +kernel
theorem dX9_stone_27 : decode cX9_stone 27 = .ok (.iconst 0, 1) := by decide +kernel
theorem dX9_stone_28 : decode cX9_stone 28 = .ok (.ireturn, 1) := by decide +kernel
theorem dX9_stone_29 : decode cX9_stone 29 = .ok (.aload_n 0, 1) := by decide +kernel
theorem dX9_stone_30 : decode cX9_stone 30 = .ok (.getfield 10, 3) := by decide +kernel
theorem dX9_stone_33 : decode cX9_stone 33 = .ok (.iload_n 2, 1) := by decide +kernel
theorem dX9_stone_34 : decode cX9_stone 34 = .ok (.iload_n 3, 1) := by decide +kernel
theorem dX9_stone_35 : decode cX9_stone 35 = .ok (.invokevirtual 90, 3) := by decide +kernel
theorem dX9_stone_38 : decode cX9_stone 38 = .ok (.istore 5, 2) := by decide +kernel
theorem dX9_stone_40 : decode cX9_stone 40 = .ok (.iload 5, 2) := by decide +kernel
theorem dX9_stone_42 : decode cX9_stone 42 = .ok (.iconst (-1), 1) := by decide +kernel
theorem dX9_stone_43 : decode cX9_stone 43 = .ok (.if_icmp .eq 11, 3) := by decide +kernel
theorem dX9_stone_46 : decode cX9_stone 46 = .ok (.iload 5, 2) := by decide +kernel
theorem dX9_stone_48 : decode cX9_stone 48 = .ok (.iload_n 1, 1) := by decide +kernel
theorem dX9_stone_49 : decode cX9_stone 49 = .ok (.if_icmp .eq 5, 3) := by decide +kernel
theorem dX9_stone_52 : decode cX9_stone 52 = .ok (.iconst 0, 1) := by decide +kernel
theorem dX9_stone_53 : decode cX9_stone 53 = .ok (.ireturn, 1) := by decide +kernel
theorem dX9_stone_54 : decode cX9_stone 54 = .ok (.aload_n 0, 1) := by decide +kernel
theorem dX9_stone_55 : decode cX9_stone 55 = .ok (.getfield 10, 3) := by decide +kernel
theorem dX9_stone_58 : decode cX9_stone 58 = .ok (.iload_n 1, 1) := by decide +kernel
theorem dX9_stone_59 : decode cX9_stone 59 = .ok (.iload_n 2, 1) := by decide +kernel
theorem dX9_stone_60 : decode cX9_stone 60 = .ok (.iload_n 3, 1) := by decide +kernel
theorem dX9_stone_61 : decode cX9_stone 61 = .ok (.iload 4, 2) := by decide +kernel
theorem dX9_stone_63 : decode cX9_stone 63 = .ok (.iconst 0, 1) := by decide +kernel
theorem dX9_stone_64 : decode cX9_stone 64 = .ok (.invokevirtual 94, 3) := by decide +kernel
theorem dX9_stone_67 : decode cX9_stone 67 = .ok (.iconst 1, 1) := by decide +kernel
theorem dX9_stone_68 : decode cX9_stone 68 = .ok (.ireturn, 1) := by decide +kernel
theorem dX9_take_0 : decode cX9_take 0 = .ok (.aload_n 0, 1) := by decide +kernel
theorem dX9_take_1 : decode cX9_take 1 = .ok (.getfield 10, 3) := by decide +kernel
theorem dX9_take_4 : decode cX9_take 4 = .ok (.iload_n 1, 1) := by decide +kernel
theorem dX9_take_5 : decode cX9_take 5 = .ok (.invokevirtual 98, 3) := by decide +kernel
theorem dX9_take_8 : decode cX9_take 8 = .ok (.ifCond .ne 5, 3) := by decide +kernel
theorem dX9_take_11 : decode cX9_take 11 = .ok (.iconst 0, 1) := by decide +kernel
theorem dX9_take_12 : decode cX9_take 12 = .ok (.ireturn, 1) := by decide +kernel
theorem dX9_take_13 : decode cX9_take 13 = .ok (.aload_n 0, 1) := by decide +kernel
theorem dX9_take_14 : decode cX9_take 14 = .ok (.getfield 10, 3) := by decide +kernel
theorem dX9_take_17 : decode cX9_take 17 = .ok (.getfield 101, 3) := by decide +kernel
theorem dX9_take_20 : decode cX9_take 20 = .ok (.iload_n 1, 1) := by decide +kernel
theorem dX9_take_21 : decode cX9_take 21 = .ok (.iconst 0, 1) := by decide +kernel
theorem dX9_take_22 : decode cX9_take 22 = .ok (.bastore, 1) := by decide +kernel
theorem dX9_take_23 : decode cX9_take 23 = .ok (.iconst 1, 1) := by decide +kernel
theorem dX9_take_24 : decode cX9_take 24 = .ok (.ireturn, 1) := by decide +kernel
theorem dX9_under_0 : decode cX9_under 0 = .ok (.aload_n 0, 1) := by decide +kernel
theorem dX9_under_1 : decode cX9_under 1 = .ok (.getfield 10, 3) := by decide +kernel
theorem dX9_under_4 : decode cX9_under 4 = .ok (.iload_n 1, 1) := by decide +kernel
theorem dX9_under_5 : decode cX9_under 5 = .ok (.invokevirtual 98, 3) := by decide +kernel
theorem dX9_under_8 : decode cX9_under 8 = .ok (.ifCond .ne 5, 3) := by decide +kernel
theorem dX9_under_11 : decode cX9_under 11 = .ok (.iconst 0, 1) := by decide +kernel
theorem dX9_under_12 : decode cX9_under 12 = .ok (.ireturn, 1) := by decide +kernel
theorem dX9_under_13 : decode cX9_under 13 = .ok (.aload_n 0, 1) := by decide +kernel
theorem dX9_under_14 : decode cX9_under 14 = .ok (.getfield 10, 3) := by decide +kernel
theorem dX9_under_17 : decode cX9_under 17 = .ok (.getfield 105, 3) := by decide +kernel
theorem dX9_under_20 : decode cX9_under 20 = .ok (.iload_n 1, 1) := by decide +kernel
theorem dX9_under_21 : decode cX9_under 21 = .ok (.iload_n 2, 1) := by decide +kernel
theorem dX9_under_22 : decode cX9_under 22 = .ok (.bastore, 1) := by decide +kernel
theorem dX9_under_23 : decode cX9_under 23 = .ok (.iconst 1, 1) := by decide +kernel
theorem dX9_under_24 : decode cX9_under 24 = .ok (.ireturn, 1) := by decide +kernel
theorem dX9_person_0 : decode cX9_person 0 = .ok (.iload_n 1, 1) := by decide +kernel
theorem dX9_person_1 : decode cX9_person 1 = .ok (.ifCond .lt 16, 3) := by decide +kernel
theorem dX9_person_4 : decode cX9_person 4 = .ok (.iload_n 1, 1) := by decide +kernel
theorem dX9_person_5 : decode cX9_person 5 = .ok (.bipush 8, 2) := by decide +kernel
theorem dX9_person_7 : decode cX9_person 7 = .ok (.if_icmp .ge 10, 3) := by decide +kernel
theorem dX9_person_10 : decode cX9_person 10 = .ok (.iload_n 2, 1) := by decide +kernel
theorem dX9_person_11 : decode cX9_person 11 = .ok (.invokestatic 108, 3) := by decide +kernel
theorem dX9_person_14 : decode cX9_person 14 = .ok (.ifCond .ne 5, 3) := by decide +kernel
theorem dX9_person_17 : decode cX9_person 17 = .ok (.iconst 0, 1) := by decide +kernel
theorem dX9_person_18 : decode cX9_person 18 = .ok (.ireturn, 1) := by decide +kernel
theorem dX9_person_19 : decode cX9_person 19 = .ok (.aload_n 0, 1) := by decide +kernel
theorem dX9_person_20 : decode cX9_person 20 = .ok (.getfield 64, 3) := by decide +kernel
theorem dX9_person_23 : decode cX9_person 23 = .ok (.iload_n 1, 1) := by decide +kernel
theorem dX9_person_24 : decode cX9_person 24 = .ok (.iload_n 2, 1) := by decide +kernel
theorem dX9_person_25 : decode cX9_person 25 = .ok (.iastore, 1) := by decide +kernel
theorem dX9_person_26 : decode cX9_person 26 = .ok (.iconst 1, 1) := by decide +kernel
theorem dX9_person_27 : decode cX9_person 27 = .ok (.ireturn, 1) := by decide +kernel
theorem dX9_feed_0 : decode cX9_feed 0 = .ok (.aload_n 0, 1) := by decide +kernel
theorem dX9_feed_1 : decode cX9_feed 1 = .ok (.getfield 25, 3) := by decide +kernel
theorem dX9_feed_4 : decode cX9_feed 4 = .ok (.getfield 111, 3) := by decide +kernel
theorem dX9_feed_7 : decode cX9_feed 7 = .ok (.bipush 20, 2) := by decide +kernel
theorem dX9_feed_9 : decode cX9_feed 9 = .ok (.iadd, 1) := by decide +kernel
theorem dX9_feed_10 : decode cX9_feed 10 = .ok (.sipush 260, 3) := by decide +kernel
theorem dX9_feed_13 : decode cX9_feed 13 = .ok (.if_icmp .le 5, 3) := by decide +kernel
theorem dX9_feed_16 : decode cX9_feed 16 = .ok (.iconst (-1), 1) := by decide +kernel
theorem dX9_feed_17 : decode cX9_feed 17 = .ok (.ireturn, 1) := by decide +kernel
theorem dX9_feed_18 : decode cX9_feed 18 = .ok (.aload_n 0, 1) := by decide +kernel
theorem dX9_feed_19 : decode cX9_feed 19 = .ok (.getfield 25, 3) := by decide +kernel
theorem dX9_feed_22 : decode cX9_feed 22 = .ok (.iload_n 1, 1) := by decide +kernel
theorem dX9_feed_23 : decode cX9_feed 23 = .ok (.invokevirtual 115, 3) := by decide +kernel
theorem dX9_feed_26 : decode cX9_feed 26 = .ok (.aload_n 0, 1) := by decide +kernel
theorem dX9_feed_27 : decode cX9_feed 27 = .ok (.getfield 25, 3) := by decide +kernel
theorem dX9_feed_30 : decode cX9_feed 30 = .ok (.iload_n 2, 1) := by decide +kernel
theorem dX9_feed_31 : decode cX9_feed 31 = .ok (.invokevirtual 115, 3) := by decide +kernel
theorem dX9_feed_34 : decode cX9_feed 34 = .ok (.aload_n 0, 1) := by decide +kernel
theorem dX9_feed_35 : decode cX9_feed 35 = .ok (.getfield 25, 3) := by decide +kernel
theorem dX9_feed_38 : decode cX9_feed 38 = .ok (.iload_n 3, 1) := by decide +kernel
theorem dX9_feed_39 : decode cX9_feed 39 = .ok (.invokevirtual 115, 3) := by decide +kernel
theorem dX9_feed_42 : decode cX9_feed 42 = .ok (.aload_n 0, 1) := by decide +kernel
theorem dX9_feed_43 : decode cX9_feed 43 = .ok (.getfield 25, 3) := by decide +kernel
theorem dX9_feed_46 : decode cX9_feed 46 = .ok (.iload 4, 2) := by decide +kernel
theorem dX9_feed_48 : decode cX9_feed 48 = .ok (.invokevirtual 115, 3) := by decide +kernel
theorem dX9_feed_51 : decode cX9_feed 51 = .ok (.aload_n 0, 1) := by decide +kernel
theorem dX9_feed_52 : decode cX9_feed 52 = .ok (.getfield 25, 3) := by decide +kernel
theorem dX9_feed_55 : decode cX9_feed 55 = .ok (.iload 5, 2) := by decide +kernel
theorem dX9_feed_57 : decode cX9_feed 57 = .ok (.invokevirtual 115, 3) := by decide +kernel
theorem dX9_feed_60 : decode cX9_feed 60 = .ok (.aload_n 0, 1) := by decide +kernel
theorem dX9_feed_61 : decode cX9_feed 61 = .ok (.getfield 25, 3) := by decide +kernel
theorem dX9_feed_64 : decode cX9_feed 64 = .ok (.getfield 111, 3) := by decide +kernel
theorem dX9_feed_67 : decode cX9_feed 67 = .ok (.ireturn, 1) := by decide +kernel
theorem dX9_law_0 : decode cX9_law 0 = .ok (.aload_n 0, 1) := by decide +kernel
theorem dX9_law_1 : decode cX9_law 1 = .ok (.getfield 25, 3) := by decide +kernel
theorem dX9_law_4 : decode cX9_law 4 = .ok (.iload_n 1, 1) := by decide +kernel
theorem dX9_law_5 : decode cX9_law 5 = .ok (.iconst 1, 1) := by decide +kernel
theorem dX9_law_6 : decode cX9_law 6 = .ok (.sipush 240, 3) := by decide +kernel
theorem dX9_law_9 : decode cX9_law 9 = .ok (.invokevirtual 119, 3) := by decide +kernel
theorem dX9_law_12 : decode cX9_law 12 = .ok (.ifCond .ne 5, 3) := by decide +kernel
theorem dX9_law_15 : decode cX9_law 15 = .ok (.iconst (-1), 1) := by decide +kernel
theorem dX9_law_16 : decode cX9_law 16 = .ok (.ireturn, 1) := by decide +kernel
theorem dX9_law_17 : decode cX9_law 17 = .ok (.aload_n 0, 1) := by decide +kernel
theorem dX9_law_18 : decode cX9_law 18 = .ok (.getfield 25, 3) := by decide +kernel
theorem dX9_law_21 : decode cX9_law 21 = .ok (.iload_n 1, 1) := by decide +kernel
theorem dX9_law_22 : decode cX9_law 22 = .ok (.invokevirtual 123, 3) := by decide +kernel
theorem dX9_law_25 : decode cX9_law 25 = .ok (.aload_n 0, 1) := by decide +kernel
theorem dX9_law_26 : decode cX9_law 26 = .ok (.getfield 75, 3) := by decide +kernel
theorem dX9_law_29 : decode cX9_law 29 = .ok (.aload_n 0, 1) := by decide +kernel
theorem dX9_law_30 : decode cX9_law 30 = .ok (.getfield 25, 3) := by decide +kernel
theorem dX9_law_33 : decode cX9_law 33 = .ok (.invokevirtual 126, 3) := by decide +kernel
theorem dX9_law_36 : decode cX9_law 36 = .ok (.istore_n 2, 1) := by decide +kernel
theorem dX9_law_37 : decode cX9_law 37 = .ok (.iload_n 2, 1) := by decide +kernel
theorem dX9_law_38 : decode cX9_law 38 = .ok (.ifCond .le 21, 3) := by decide +kernel
theorem dX9_law_41 : decode cX9_law 41 = .ok (.aload_n 0, 1) := by decide +kernel
theorem dX9_law_42 : decode cX9_law 42 = .ok (.getfield 71, 3) := by decide +kernel
theorem dX9_law_45 : decode cX9_law 45 = .ok (.astore_n 3, 1) := by decide +kernel
theorem dX9_law_46 : decode cX9_law 46 = .ok (.aload_n 0, 1) := by decide +kernel
theorem dX9_law_47 : decode cX9_law 47 = .ok (.aload_n 0, 1) := by decide +kernel
theorem dX9_law_48 : decode cX9_law 48 = .ok (.getfield 75, 3) := by decide +kernel
theorem dX9_law_51 : decode cX9_law 51 = .ok (.putfield 71, 3) := by decide +kernel
theorem dX9_law_54 : decode cX9_law 54 = .ok (.aload_n 0, 1) := by decide +kernel
theorem dX9_law_55 : decode cX9_law 55 = .ok (.aload_n 3, 1) := by decide +kernel
theorem dX9_law_56 : decode cX9_law 56 = .ok (.putfield 75, 3) := by decide +kernel
theorem dX9_law_59 : decode cX9_law 59 = .ok (.iload_n 2, 1) := by decide +kernel
theorem dX9_law_60 : decode cX9_law 60 = .ok (.ireturn, 1) := by decide +kernel
theorem dX9_notebook_0 : decode cX9_notebook 0 = .ok (.aload_n 0, 1) := by decide +kernel
theorem dX9_notebook_1 : decode cX9_notebook 1 = .ok (.getfield 25, 3) := by decide +kernel
theorem dX9_notebook_4 : decode cX9_notebook 4 = .ok (.iload_n 1, 1) := by decide +kernel
theorem dX9_notebook_5 : decode cX9_notebook 5 = .ok (.iconst 1, 1) := by decide +kernel
theorem dX9_notebook_6 : decode cX9_notebook 6 = .ok (.sipush 200, 3) := by decide +kernel
theorem dX9_notebook_9 : decode cX9_notebook 9 = .ok (.invokevirtual 119, 3) := by decide +kernel
theorem dX9_notebook_12 : decode cX9_notebook 12 = .ok (.ifCond .ne 5, 3) := by decide +kernel
theorem dX9_notebook_15 : decode cX9_notebook 15 = .ok (.iconst (-1), 1) := by decide +kernel
theorem dX9_notebook_16 : decode cX9_notebook 16 = .ok (.ireturn, 1) := by decide +kernel
theorem dX9_notebook_17 : decode cX9_notebook 17 = .ok (.aload_n 0, 1) := by decide +kernel
theorem dX9_notebook_18 : decode cX9_notebook 18 = .ok (.getfield 25, 3) := by decide +kernel
theorem dX9_notebook_21 : decode cX9_notebook 21 = .ok (.iload_n 1, 1) := by decide +kernel
theorem dX9_notebook_22 : decode cX9_notebook 22 = .ok (.invokevirtual 123, 3) := by decide +kernel
theorem dX9_notebook_25 : decode cX9_notebook 25 = .ok (.aload_n 0, 1) := by decide +kernel
theorem dX9_notebook_26 : decode cX9_notebook 26 = .ok (.getfield 25, 3) := by decide +kernel
theorem dX9_notebook_29 : decode cX9_notebook 29 = .ok (.aload_n 0, 1) := by decide +kernel
theorem dX9_notebook_30 : decode cX9_notebook 30 = .ok (.getfield 19, 3) := by decide +kernel
theorem dX9_notebook_33 : decode cX9_notebook 33 = .ok (.invokestatic 130, 3) := by decide +kernel
theorem dX9_notebook_36 : decode cX9_notebook 36 = .ok (.istore_n 2, 1) := by decide +kernel
theorem dX9_notebook_37 : decode cX9_notebook 37 = .ok (.iload_n 2, 1) := by decide +kernel
theorem dX9_notebook_38 : decode cX9_notebook 38 = .ok (.ifCond .le 14, 3) := by decide +kernel
theorem dX9_notebook_41 : decode cX9_notebook 41 = .ok (.aload_n 0, 1) := by decide +kernel
theorem dX9_notebook_42 : decode cX9_notebook 42 = .ok (.getfield 10, 3) := by decide +kernel
theorem dX9_notebook_45 : decode cX9_notebook 45 = .ok (.aload_n 0, 1) := by decide +kernel
theorem dX9_notebook_46 : decode cX9_notebook 46 = .ok (.getfield 19, 3) := by decide +kernel
theorem dX9_notebook_49 : decode cX9_notebook 49 = .ok (.invokevirtual 134, 3) := by decide +kernel
theorem dX9_notebook_52 : decode cX9_notebook 52 = .ok (.iload_n 2, 1) := by decide +kernel
theorem dX9_notebook_53 : decode cX9_notebook 53 = .ok (.ireturn, 1) := by decide +kernel
theorem dX9_nights_0 : decode cX9_nights 0 = .ok (.iload_n 1, 1) := by decide +kernel
theorem dX9_nights_1 : decode cX9_nights 1 = .ok (.invokestatic 138, 3) := by decide +kernel
theorem dX9_nights_4 : decode cX9_nights 4 = .ok (.ifCond .ne 5, 3) := by decide +kernel
theorem dX9_nights_7 : decode cX9_nights 7 = .ok (.iconst (-1), 1) := by decide +kernel
theorem dX9_nights_8 : decode cX9_nights 8 = .ok (.ireturn, 1) := by decide +kernel
theorem dX9_nights_9 : decode cX9_nights 9 = .ok (.aload_n 0, 1) := by decide +kernel
theorem dX9_nights_10 : decode cX9_nights 10 = .ok (.getfield 32, 3) := by decide +kernel
theorem dX9_nights_13 : decode cX9_nights 13 = .ok (.aload_n 0, 1) := by decide +kernel
theorem dX9_nights_14 : decode cX9_nights 14 = .ok (.getfield 10, 3) := by decide +kernel
theorem dX9_nights_17 : decode cX9_nights 17 = .ok (.aload_n 0, 1) := by decide +kernel
theorem dX9_nights_18 : decode cX9_nights 18 = .ok (.getfield 71, 3) := by decide +kernel
theorem dX9_nights_21 : decode cX9_nights 21 = .ok (.iload_n 1, 1) := by decide +kernel
theorem dX9_nights_22 : decode cX9_nights 22 = .ok (.invokevirtual 141, 3) := by decide +kernel
theorem dX9_nights_25 : decode cX9_nights 25 = .ok (.aload_n 0, 1) := by decide +kernel
theorem dX9_nights_26 : decode cX9_nights 26 = .ok (.getfield 32, 3) := by decide +kernel
theorem dX9_nights_29 : decode cX9_nights 29 = .ok (.getfield 145, 3) := by decide +kernel
theorem dX9_nights_32 : decode cX9_nights 32 = .ok (.ireturn, 1) := by decide +kernel
theorem dX9_tried_0 : decode cX9_tried 0 = .ok (.iload_n 2, 1) := by decide +kernel
theorem dX9_tried_1 : decode cX9_tried 1 = .ok (.bipush 100, 2) := by decide +kernel
theorem dX9_tried_3 : decode cX9_tried 3 = .ok (.if_icmp .lt 21, 3) := by decide +kernel
theorem dX9_tried_6 : decode cX9_tried 6 = .ok (.aload_n 0, 1) := by decide +kernel
theorem dX9_tried_7 : decode cX9_tried 7 = .ok (.getfield 10, 3) := by decide +kernel
theorem dX9_tried_10 : decode cX9_tried 10 = .ok (.iload_n 2, 1) := by decide +kernel
theorem dX9_tried_11 : decode cX9_tried 11 = .ok (.bipush 100, 2) := by decide +kernel
theorem dX9_tried_13 : decode cX9_tried 13 = .ok (.isub, 1) := by decide +kernel
theorem dX9_tried_14 : decode cX9_tried 14 = .ok (.invokevirtual 98, 3) := by decide +kernel
theorem dX9_tried_17 : decode cX9_tried 17 = .ok (.ifCond .eq 7, 3) := by decide +kernel
theorem dX9_tried_20 : decode cX9_tried 20 = .ok (.iconst 1, 1) := by decide +kernel
theorem dX9_tried_21 : decode cX9_tried 21 = .ok (.goto 4, 3) := by decide +kernel
theorem dX9_tried_24 : decode cX9_tried 24 = .ok (.iconst 0, 1) := by decide +kernel
theorem dX9_tried_25 : decode cX9_tried 25 = .ok (.istore_n 3, 1) := by decide +kernel
theorem dX9_tried_26 : decode cX9_tried 26 = .ok (.iload_n 2, 1) := by decide +kernel
theorem dX9_tried_27 : decode cX9_tried 27 = .ok (.sipush 200, 3) := by decide +kernel
theorem dX9_tried_30 : decode cX9_tried 30 = .ok (.if_icmp .lt 22, 3) := by decide +kernel
theorem dX9_tried_33 : decode cX9_tried 33 = .ok (.aload_n 0, 1) := by decide +kernel
theorem dX9_tried_34 : decode cX9_tried 34 = .ok (.getfield 10, 3) := by decide +kernel
theorem dX9_tried_37 : decode cX9_tried 37 = .ok (.iload_n 2, 1) := by decide +kernel
theorem dX9_tried_38 : decode cX9_tried 38 = .ok (.sipush 200, 3) := by decide +kernel
theorem dX9_tried_41 : decode cX9_tried 41 = .ok (.isub, 1) := by decide +kernel
theorem dX9_tried_42 : decode cX9_tried 42 = .ok (.invokevirtual 98, 3) := by decide +kernel
theorem dX9_tried_45 : decode cX9_tried 45 = .ok (.ifCond .eq 7, 3) := by decide +kernel
theorem dX9_tried_48 : decode cX9_tried 48 = .ok (.iconst 1, 1) := by decide +kernel
theorem dX9_tried_49 : decode cX9_tried 49 = .ok (.goto 4, 3) := by decide +kernel
theorem dX9_tried_52 : decode cX9_tried 52 = .ok (.iconst 0, 1) := by decide +kernel
theorem dX9_tried_53 : decode cX9_tried 53 = .ok (.istore 4, 2) := by decide +kernel
theorem dX9_tried_55 : decode cX9_tried 55 = .ok (.iload_n 1, 1) := by decide +kernel
theorem dX9_tried_56 : decode cX9_tried 56 = .ok (.invokestatic 138, 3) := by decide +kernel
theorem dX9_tried_59 : decode cX9_tried 59 = .ok (.ifCond .eq 21, 3) := by decide +kernel
theorem dX9_tried_62 : decode cX9_tried 62 = .ok (.iload_n 2, 1) := by decide +kernel
theorem dX9_tried_63 : decode cX9_tried 63 = .ok (.ifCond .lt 8, 3) := by decide +kernel
theorem dX9_tried_66 : decode cX9_tried 66 = .ok (.iload_n 2, 1) := by decide +kernel
theorem dX9_tried_67 : decode cX9_tried 67 = .ok (.iconst 3, 1) := by decide +kernel
theorem dX9_tried_68 : decode cX9_tried 68 = .ok (.if_icmp .le 15, 3) := by decide +kernel
theorem dX9_tried_71 : decode cX9_tried 71 = .ok (.iload_n 3, 1) := by decide +kernel
theorem dX9_tried_72 : decode cX9_tried 72 = .ok (.ifCond .ne 11, 3) := by decide +kernel
theorem dX9_tried_75 : decode cX9_tried 75 = .ok (.iload 4, 2) := by decide +kernel
theorem dX9_tried_77 : decode cX9_tried 77 = .ok (.ifCond .ne 6, 3) := by decide +kernel
theorem dX9_tried_80 : decode cX9_tried 80 = .ok (.ldc 148, 2) := by decide +kernel
theorem dX9_tried_82 : decode cX9_tried 82 = .ok (.ireturn, 1) := by decide +kernel
theorem dX9_tried_83 : decode cX9_tried 83 = .ok (.aload_n 0, 1) := by decide +kernel
theorem dX9_tried_84 : decode cX9_tried 84 = .ok (.getfield 19, 3) := by decide +kernel
theorem dX9_tried_87 : decode cX9_tried 87 = .ok (.aload_n 0, 1) := by decide +kernel
theorem dX9_tried_88 : decode cX9_tried 88 = .ok (.getfield 10, 3) := by decide +kernel
theorem dX9_tried_91 : decode cX9_tried 91 = .ok (.invokevirtual 149, 3) := by decide +kernel
theorem dX9_tried_94 : decode cX9_tried 94 = .ok (.aload_n 0, 1) := by decide +kernel
theorem dX9_tried_95 : decode cX9_tried 95 = .ok (.getfield 32, 3) := by decide +kernel
theorem dX9_tried_98 : decode cX9_tried 98 = .ok (.aload_n 0, 1) := by decide +kernel
theorem dX9_tried_99 : decode cX9_tried 99 = .ok (.getfield 19, 3) := by decide +kernel
theorem dX9_tried_102 : decode cX9_tried 102 = .ok (.aload_n 0, 1) := by decide +kernel
theorem dX9_tried_103 : decode cX9_tried 103 = .ok (.getfield 71, 3) := by decide +kernel
theorem dX9_tried_106 : decode cX9_tried 106 = .ok (.iload_n 1, 1) := by decide +kernel
theorem dX9_tried_107 : decode cX9_tried 107 = .ok (.invokevirtual 141, 3) := by decide +kernel
theorem dX9_tried_110 : decode cX9_tried 110 = .ok (.iload_n 3, 1) := by decide +kernel
theorem dX9_tried_111 : decode cX9_tried 111 = .ok (.ifCond .eq 16, 3) := by decide +kernel
theorem dX9_tried_114 : decode cX9_tried 114 = .ok (.aload_n 0, 1) := by decide +kernel
theorem dX9_tried_115 : decode cX9_tried 115 = .ok (.getfield 19, 3) := by decide +kernel
theorem dX9_tried_118 : decode cX9_tried 118 = .ok (.getfield 152, 3) := by decide +kernel
theorem dX9_tried_121 : decode cX9_tried 121 = .ok (.iload_n 2, 1) := by decide +kernel
theorem dX9_tried_122 : decode cX9_tried 122 = .ok (.bipush 100, 2) := by decide +kernel
theorem dX9_tried_124 : decode cX9_tried 124 = .ok (.isub, 1) := by decide +kernel
theorem dX9_tried_125 : decode cX9_tried 125 = .ok (.iaload, 1) := by decide +kernel
theorem dX9_tried_126 : decode cX9_tried 126 = .ok (.ireturn, 1) := by decide +kernel
theorem dX9_tried_127 : decode cX9_tried 127 = .ok (.iload 4, 2) := by decide +kernel
theorem dX9_tried_129 : decode cX9_tried 129 = .ok (.ifCond .eq 17, 3) := by decide +kernel
theorem dX9_tried_132 : decode cX9_tried 132 = .ok (.aload_n 0, 1) := by decide +kernel
theorem dX9_tried_133 : decode cX9_tried 133 = .ok (.getfield 19, 3) := by decide +kernel
theorem dX9_tried_136 : decode cX9_tried 136 = .ok (.getfield 155, 3) := by decide +kernel
theorem dX9_tried_139 : decode cX9_tried 139 = .ok (.iload_n 2, 1) := by decide +kernel
theorem dX9_tried_140 : decode cX9_tried 140 = .ok (.sipush 200, 3) := by decide +kernel
theorem dX9_tried_143 : decode cX9_tried 143 = .ok (.isub, 1) := by decide +kernel
theorem dX9_tried_144 : decode cX9_tried 144 = .ok (.iaload, 1) := by decide +kernel
theorem dX9_tried_145 : decode cX9_tried 145 = .ok (.ireturn, 1) := by decide +kernel
theorem dX9_tried_146 : decode cX9_tried 146 = .ok (.iload_n 2, 1) := by decide +kernel
theorem dX9_tried_147 : decode cX9_tried 147 = .ok (.tableswitch 49 0 2 #[25, 33, 41], 25) := by decide +kernel
theorem dX9_tried_172 : decode cX9_tried 172 = .ok (.aload_n 0, 1) := by decide +kernel
theorem dX9_tried_173 : decode cX9_tried 173 = .ok (.getfield 32, 3) := by decide +kernel
theorem dX9_tried_176 : decode cX9_tried 176 = .ok (.getfield 145, 3) := by decide +kernel
theorem dX9_tried_179 : decode cX9_tried 179 = .ok (.ireturn, 1) := by decide +kernel
theorem dX9_tried_180 : decode cX9_tried 180 = .ok (.aload_n 0, 1) := by decide +kernel
theorem dX9_tried_181 : decode cX9_tried 181 = .ok (.getfield 32, 3) := by decide +kernel
theorem dX9_tried_184 : decode cX9_tried 184 = .ok (.getfield 158, 3) := by decide +kernel
theorem dX9_tried_187 : decode cX9_tried 187 = .ok (.ireturn, 1) := by decide +kernel
theorem dX9_tried_188 : decode cX9_tried 188 = .ok (.aload_n 0, 1) := by decide +kernel
theorem dX9_tried_189 : decode cX9_tried 189 = .ok (.getfield 19, 3) := by decide +kernel
theorem dX9_tried_192 : decode cX9_tried 192 = .ok (.invokevirtual 161, 3) := by decide +kernel
theorem dX9_tried_195 : decode cX9_tried 195 = .ok (.ireturn, 1) := by decide +kernel
theorem dX9_tried_196 : decode cX9_tried 196 = .ok (.aload_n 0, 1) := by decide +kernel
theorem dX9_tried_197 : decode cX9_tried 197 = .ok (.getfield 19, 3) := by decide +kernel
theorem dX9_tried_200 : decode cX9_tried 200 = .ok (.invokevirtual 165, 3) := by decide +kernel
theorem dX9_tried_203 : decode cX9_tried 203 = .ok (.aload_n 0, 1) := by decide +kernel
theorem dX9_tried_204 : decode cX9_tried 204 = .ok (.getfield 10, 3) := by decide +kernel
theorem dX9_tried_207 : decode cX9_tried 207 = .ok (.invokevirtual 165, 3) := by decide +kernel
theorem dX9_tried_210 : decode cX9_tried 210 = .ok (.isub, 1) := by decide +kernel
theorem dX9_tried_211 : decode cX9_tried 211 = .ok (.ireturn, 1) := by decide +kernel
theorem dX9_stoneIs_0 : decode cX9_stoneIs 0 = .ok (.aload_n 0, 1) := by decide +kernel
theorem dX9_stoneIs_1 : decode cX9_stoneIs 1 = .ok (.getfield 10, 3) := by decide +kernel
theorem dX9_stoneIs_4 : decode cX9_stoneIs 4 = .ok (.iload_n 1, 1) := by decide +kernel
theorem dX9_stoneIs_5 : decode cX9_stoneIs 5 = .ok (.invokevirtual 98, 3) := by decide +kernel
theorem dX9_stoneIs_8 : decode cX9_stoneIs 8 = .ok (.ifCond .ne 5, 3) := by decide +kernel
theorem dX9_stoneIs_11 : decode cX9_stoneIs 11 = .ok (.iconst (-1), 1) := by decide +kernel
theorem dX9_stoneIs_12 : decode cX9_stoneIs 12 = .ok (.ireturn, 1) := by decide +kernel
theorem dX9_stoneIs_13 : decode cX9_stoneIs 13 = .ok (.iload_n 2, 1) := by decide +kernel
theorem dX9_stoneIs_14 : decode cX9_stoneIs 14 = .ok (.tableswitch 91 0 4 #[34, 44, 54, 64, 82], 34) := by decide +kernel
theorem dX9_stoneIs_48 : decode cX9_stoneIs 48 = .ok (.aload_n 0, 1) := by decide +kernel
theorem dX9_stoneIs_49 : decode cX9_stoneIs 49 = .ok (.getfield 10, 3) := by decide +kernel
theorem dX9_stoneIs_52 : decode cX9_stoneIs 52 = .ok (.getfield 152, 3) := by decide +kernel
theorem dX9_stoneIs_55 : decode cX9_stoneIs 55 = .ok (.iload_n 1, 1) := by decide +kernel
theorem dX9_stoneIs_56 : decode cX9_stoneIs 56 = .ok (.iaload, 1) := by decide +kernel
theorem dX9_stoneIs_57 : decode cX9_stoneIs 57 = .ok (.ireturn, 1) := by decide +kernel
theorem dX9_stoneIs_58 : decode cX9_stoneIs 58 = .ok (.aload_n 0, 1) := by decide +kernel
theorem dX9_stoneIs_59 : decode cX9_stoneIs 59 = .ok (.getfield 10, 3) := by decide +kernel
theorem dX9_stoneIs_62 : decode cX9_stoneIs 62 = .ok (.getfield 155, 3) := by decide +kernel
theorem dX9_stoneIs_65 : decode cX9_stoneIs 65 = .ok (.iload_n 1, 1) := by decide +kernel
theorem dX9_stoneIs_66 : decode cX9_stoneIs 66 = .ok (.iaload, 1) := by decide +kernel
theorem dX9_stoneIs_67 : decode cX9_stoneIs 67 = .ok (.ireturn, 1) := by decide +kernel
theorem dX9_stoneIs_68 : decode cX9_stoneIs 68 = .ok (.aload_n 0, 1) := by decide +kernel
theorem dX9_stoneIs_69 : decode cX9_stoneIs 69 = .ok (.getfield 10, 3) := by decide +kernel
theorem dX9_stoneIs_72 : decode cX9_stoneIs 72 = .ok (.getfield 168, 3) := by decide +kernel
theorem dX9_stoneIs_75 : decode cX9_stoneIs 75 = .ok (.iload_n 1, 1) := by decide +kernel
theorem dX9_stoneIs_76 : decode cX9_stoneIs 76 = .ok (.iaload, 1) := by decide +kernel
theorem dX9_stoneIs_77 : decode cX9_stoneIs 77 = .ok (.ireturn, 1) := by decide +kernel
theorem dX9_stoneIs_78 : decode cX9_stoneIs 78 = .ok (.aload_n 0, 1) := by decide +kernel
theorem dX9_stoneIs_79 : decode cX9_stoneIs 79 = .ok (.getfield 10, 3) := by decide +kernel
theorem dX9_stoneIs_82 : decode cX9_stoneIs 82 = .ok (.getfield 105, 3) := by decide +kernel
theorem dX9_stoneIs_85 : decode cX9_stoneIs 85 = .ok (.iload_n 1, 1) := by decide +kernel
theorem dX9_stoneIs_86 : decode cX9_stoneIs 86 = .ok (.baload, 1) := by decide +kernel
theorem dX9_stoneIs_87 : decode cX9_stoneIs 87 = .ok (.ifCond .eq 7, 3) := by decide +kernel
theorem dX9_stoneIs_90 : decode cX9_stoneIs 90 = .ok (.iconst 1, 1) := by decide +kernel
theorem dX9_stoneIs_91 : decode cX9_stoneIs 91 = .ok (.goto 4, 3) := by decide +kernel
theorem dX9_stoneIs_94 : decode cX9_stoneIs 94 = .ok (.iconst 0, 1) := by decide +kernel
theorem dX9_stoneIs_95 : decode cX9_stoneIs 95 = .ok (.ireturn, 1) := by decide +kernel
theorem dX9_stoneIs_96 : decode cX9_stoneIs 96 = .ok (.aload_n 0, 1) := by decide +kernel
theorem dX9_stoneIs_97 : decode cX9_stoneIs 97 = .ok (.getfield 10, 3) := by decide +kernel
theorem dX9_stoneIs_100 : decode cX9_stoneIs 100 = .ok (.iload_n 1, 1) := by decide +kernel
theorem dX9_stoneIs_101 : decode cX9_stoneIs 101 = .ok (.invokevirtual 171, 3) := by decide +kernel
theorem dX9_stoneIs_104 : decode cX9_stoneIs 104 = .ok (.ireturn, 1) := by decide +kernel
theorem dX9_stoneIs_105 : decode cX9_stoneIs 105 = .ok (.iconst (-1), 1) := by decide +kernel
theorem dX9_stoneIs_106 : decode cX9_stoneIs 106 = .ok (.ireturn, 1) := by decide +kernel
theorem dX9_at_0 : decode cX9_at 0 = .ok (.iload_n 1, 1) := by decide +kernel
theorem dX9_at_1 : decode cX9_at 1 = .ok (.iload_n 2, 1) := by decide +kernel
theorem dX9_at_2 : decode cX9_at 2 = .ok (.invokestatic 86, 3) := by decide +kernel
theorem dX9_at_5 : decode cX9_at 5 = .ok (.ifCond .ne 5, 3) := by decide +kernel
theorem dX9_at_8 : decode cX9_at 8 = .ok (.iconst (-1), 1) := by decide +kernel
theorem dX9_at_9 : decode cX9_at 9 = .ok (.ireturn, 1) := by decide +kernel
theorem dX9_at_10 : decode cX9_at 10 = .ok (.aload_n 0, 1) := by decide +kernel
theorem dX9_at_11 : decode cX9_at 11 = .ok (.getfield 10, 3) := by decide +kernel
theorem dX9_at_14 : decode cX9_at 14 = .ok (.iload_n 1, 1) := by decide +kernel
theorem dX9_at_15 : decode cX9_at 15 = .ok (.iload_n 2, 1) := by decide +kernel
theorem dX9_at_16 : decode cX9_at 16 = .ok (.invokevirtual 90, 3) := by decide +kernel
theorem dX9_at_19 : decode cX9_at 19 = .ok (.istore_n 3, 1) := by decide +kernel
theorem dX9_at_20 : decode cX9_at 20 = .ok (.iload_n 3, 1) := by decide +kernel
theorem dX9_at_21 : decode cX9_at 21 = .ok (.iconst (-1), 1) := by decide +kernel
theorem dX9_at_22 : decode cX9_at 22 = .ok (.if_icmp .ne 8, 3) := by decide +kernel
theorem dX9_at_25 : decode cX9_at 25 = .ok (.bipush (-2), 2) := by decide +kernel
theorem dX9_at_27 : decode cX9_at 27 = .ok (.goto 4, 3) := by decide +kernel
theorem dX9_at_30 : decode cX9_at 30 = .ok (.iload_n 3, 1) := by decide +kernel
theorem dX9_at_31 : decode cX9_at 31 = .ok (.ireturn, 1) := by decide +kernel
theorem dX9_cross_0 : decode cX9_cross 0 = .ok (.aload_n 0, 1) := by decide +kernel
theorem dX9_cross_1 : decode cX9_cross 1 = .ok (.iload_n 1, 1) := by decide +kernel
theorem dX9_cross_2 : decode cX9_cross 2 = .ok (.invokevirtual 175, 3) := by decide +kernel
theorem dX9_cross_5 : decode cX9_cross 5 = .ok (.istore_n 3, 1) := by decide +kernel
theorem dX9_cross_6 : decode cX9_cross 6 = .ok (.iload_n 3, 1) := by decide +kernel
theorem dX9_cross_7 : decode cX9_cross 7 = .ok (.ifCond .eq 22, 3) := by decide +kernel
theorem dX9_cross_10 : decode cX9_cross 10 = .ok (.iload_n 2, 1) := by decide +kernel
theorem dX9_cross_11 : decode cX9_cross 11 = .ok (.invokestatic 82, 3) := by decide +kernel
theorem dX9_cross_14 : decode cX9_cross 14 = .ok (.ifCond .ne 17, 3) := by decide +kernel
theorem dX9_cross_17 : decode cX9_cross 17 = .ok (.iload_n 2, 1) := by decide +kernel
theorem dX9_cross_18 : decode cX9_cross 18 = .ok (.bipush 100, 2) := by decide +kernel
theorem dX9_cross_20 : decode cX9_cross 20 = .ok (.if_icmp .eq 11, 3) := by decide +kernel
theorem dX9_cross_23 : decode cX9_cross 23 = .ok (.iload_n 2, 1) := by decide +kernel
theorem dX9_cross_24 : decode cX9_cross 24 = .ok (.bipush 101, 2) := by decide +kernel
theorem dX9_cross_26 : decode cX9_cross 26 = .ok (.if_icmp .eq 5, 3) := by decide +kernel
theorem dX9_cross_29 : decode cX9_cross 29 = .ok (.iconst (-1), 1) := by decide +kernel
theorem dX9_cross_30 : decode cX9_cross 30 = .ok (.ireturn, 1) := by decide +kernel
theorem dX9_cross_31 : decode cX9_cross 31 = .ok (.aload_n 0, 1) := by decide +kernel
theorem dX9_cross_32 : decode cX9_cross 32 = .ok (.getfield 39, 3) := by decide +kernel
theorem dX9_cross_35 : decode cX9_cross 35 = .ok (.aload_n 0, 1) := by decide +kernel
theorem dX9_cross_36 : decode cX9_cross 36 = .ok (.getfield 10, 3) := by decide +kernel
theorem dX9_cross_39 : decode cX9_cross 39 = .ok (.iload_n 3, 1) := by decide +kernel
theorem dX9_cross_40 : decode cX9_cross 40 = .ok (.iload_n 2, 1) := by decide +kernel
theorem dX9_cross_41 : decode cX9_cross 41 = .ok (.invokevirtual 178, 3) := by decide +kernel
theorem dX9_cross_44 : decode cX9_cross 44 = .ok (.ireturn, 1) := by decide +kernel
theorem dX9_driest_0 : decode cX9_driest 0 = .ok (.aload_n 0, 1) := by decide +kernel
theorem dX9_driest_1 : decode cX9_driest 1 = .ok (.iload_n 1, 1) := by decide +kernel
theorem dX9_driest_2 : decode cX9_driest 2 = .ok (.invokevirtual 175, 3) := by decide +kernel
theorem dX9_driest_5 : decode cX9_driest 5 = .ok (.istore_n 3, 1) := by decide +kernel
theorem dX9_driest_6 : decode cX9_driest 6 = .ok (.iload_n 3, 1) := by decide +kernel
theorem dX9_driest_7 : decode cX9_driest 7 = .ok (.ifCond .eq 10, 3) := by decide +kernel
theorem dX9_driest_10 : decode cX9_driest 10 = .ok (.iload_n 2, 1) := by decide +kernel
theorem dX9_driest_11 : decode cX9_driest 11 = .ok (.invokestatic 182, 3) := by decide +kernel
theorem dX9_driest_14 : decode cX9_driest 14 = .ok (.ifCond .ne 5, 3) := by decide +kernel
theorem dX9_driest_17 : decode cX9_driest 17 = .ok (.iconst (-1), 1) := by decide +kernel
theorem dX9_driest_18 : decode cX9_driest 18 = .ok (.ireturn, 1) := by decide +kernel
theorem dX9_driest_19 : decode cX9_driest 19 = .ok (.aload_n 0, 1) := by decide +kernel
theorem dX9_driest_20 : decode cX9_driest 20 = .ok (.getfield 39, 3) := by decide +kernel
theorem dX9_driest_23 : decode cX9_driest 23 = .ok (.aload_n 0, 1) := by decide +kernel
theorem dX9_driest_24 : decode cX9_driest 24 = .ok (.getfield 10, 3) := by decide +kernel
theorem dX9_driest_27 : decode cX9_driest 27 = .ok (.iload_n 3, 1) := by decide +kernel
theorem dX9_driest_28 : decode cX9_driest 28 = .ok (.iload_n 2, 1) := by decide +kernel
theorem dX9_driest_29 : decode cX9_driest 29 = .ok (.invokevirtual 185, 3) := by decide +kernel
theorem dX9_driest_32 : decode cX9_driest 32 = .ok (.ireturn, 1) := by decide +kernel
theorem dX9_howFar_0 : decode cX9_howFar 0 = .ok (.aload_n 0, 1) := by decide +kernel
theorem dX9_howFar_1 : decode cX9_howFar 1 = .ok (.iload_n 1, 1) := by decide +kernel
theorem dX9_howFar_2 : decode cX9_howFar 2 = .ok (.invokevirtual 175, 3) := by decide +kernel
theorem dX9_howFar_5 : decode cX9_howFar 5 = .ok (.istore_n 2, 1) := by decide +kernel
theorem dX9_howFar_6 : decode cX9_howFar 6 = .ok (.iload_n 2, 1) := by decide +kernel
theorem dX9_howFar_7 : decode cX9_howFar 7 = .ok (.ifCond .ne 7, 3) := by decide +kernel
theorem dX9_howFar_10 : decode cX9_howFar 10 = .ok (.iconst (-1), 1) := by decide +kernel
theorem dX9_howFar_11 : decode cX9_howFar 11 = .ok (.goto 15, 3) := by decide +kernel
theorem dX9_howFar_14 : decode cX9_howFar 14 = .ok (.aload_n 0, 1) := by decide +kernel
theorem dX9_howFar_15 : decode cX9_howFar 15 = .ok (.getfield 39, 3) := by decide +kernel
theorem dX9_howFar_18 : decode cX9_howFar 18 = .ok (.aload_n 0, 1) := by decide +kernel
theorem dX9_howFar_19 : decode cX9_howFar 19 = .ok (.getfield 10, 3) := by decide +kernel
theorem dX9_howFar_22 : decode cX9_howFar 22 = .ok (.iload_n 2, 1) := by decide +kernel
theorem dX9_howFar_23 : decode cX9_howFar 23 = .ok (.invokevirtual 192, 3) := by decide +kernel
theorem dX9_howFar_26 : decode cX9_howFar 26 = .ok (.ireturn, 1) := by decide +kernel
theorem dX9_hold_0 : decode cX9_hold 0 = .ok (.aload_n 0, 1) := by decide +kernel
theorem dX9_hold_1 : decode cX9_hold 1 = .ok (.iload_n 1, 1) := by decide +kernel
theorem dX9_hold_2 : decode cX9_hold 2 = .ok (.invokevirtual 175, 3) := by decide +kernel
theorem dX9_hold_5 : decode cX9_hold 5 = .ok (.istore_n 2, 1) := by decide +kernel
theorem dX9_hold_6 : decode cX9_hold 6 = .ok (.iload_n 2, 1) := by decide +kernel
theorem dX9_hold_7 : decode cX9_hold 7 = .ok (.ifCond .ne 5, 3) := by decide +kernel
theorem dX9_hold_10 : decode cX9_hold 10 = .ok (.iconst (-1), 1) := by decide +kernel
theorem dX9_hold_11 : decode cX9_hold 11 = .ok (.ireturn, 1) := by decide +kernel
theorem dX9_hold_12 : decode cX9_hold 12 = .ok (.iload_n 2, 1) := by decide +kernel
theorem dX9_hold_13 : decode cX9_hold 13 = .ok (.bipush 21, 2) := by decide +kernel
theorem dX9_hold_15 : decode cX9_hold 15 = .ok (.if_icmp .lt 8, 3) := by decide +kernel
theorem dX9_hold_18 : decode cX9_hold 18 = .ok (.bipush (-2), 2) := by decide +kernel
theorem dX9_hold_20 : decode cX9_hold 20 = .ok (.goto 15, 3) := by decide +kernel
theorem dX9_hold_23 : decode cX9_hold 23 = .ok (.aload_n 0, 1) := by decide +kernel
theorem dX9_hold_24 : decode cX9_hold 24 = .ok (.getfield 46, 3) := by decide +kernel
theorem dX9_hold_27 : decode cX9_hold 27 = .ok (.aload_n 0, 1) := by decide +kernel
theorem dX9_hold_28 : decode cX9_hold 28 = .ok (.getfield 10, 3) := by decide +kernel
theorem dX9_hold_31 : decode cX9_hold 31 = .ok (.iload_n 2, 1) := by decide +kernel
theorem dX9_hold_32 : decode cX9_hold 32 = .ok (.invokevirtual 196, 3) := by decide +kernel
theorem dX9_hold_35 : decode cX9_hold 35 = .ok (.ireturn, 1) := by decide +kernel
theorem dX9_oneMore_0 : decode cX9_oneMore 0 = .ok (.aload_n 0, 1) := by decide +kernel
theorem dX9_oneMore_1 : decode cX9_oneMore 1 = .ok (.iload_n 1, 1) := by decide +kernel
theorem dX9_oneMore_2 : decode cX9_oneMore 2 = .ok (.invokevirtual 175, 3) := by decide +kernel
theorem dX9_oneMore_5 : decode cX9_oneMore 5 = .ok (.istore_n 3, 1) := by decide +kernel
theorem dX9_oneMore_6 : decode cX9_oneMore 6 = .ok (.iload_n 3, 1) := by decide +kernel
theorem dX9_oneMore_7 : decode cX9_oneMore 7 = .ok (.ifCond .eq 10, 3) := by decide +kernel
theorem dX9_oneMore_10 : decode cX9_oneMore 10 = .ok (.iload_n 2, 1) := by decide +kernel
theorem dX9_oneMore_11 : decode cX9_oneMore 11 = .ok (.invokestatic 182, 3) := by decide +kernel
theorem dX9_oneMore_14 : decode cX9_oneMore 14 = .ok (.ifCond .ne 5, 3) := by decide +kernel
theorem dX9_oneMore_17 : decode cX9_oneMore 17 = .ok (.iconst (-1), 1) := by decide +kernel
theorem dX9_oneMore_18 : decode cX9_oneMore 18 = .ok (.ireturn, 1) := by decide +kernel
theorem dX9_oneMore_19 : decode cX9_oneMore 19 = .ok (.aload_n 0, 1) := by decide +kernel
theorem dX9_oneMore_20 : decode cX9_oneMore 20 = .ok (.getfield 39, 3) := by decide +kernel
theorem dX9_oneMore_23 : decode cX9_oneMore 23 = .ok (.aload_n 0, 1) := by decide +kernel
theorem dX9_oneMore_24 : decode cX9_oneMore 24 = .ok (.getfield 10, 3) := by decide +kernel
theorem dX9_oneMore_27 : decode cX9_oneMore 27 = .ok (.iload_n 3, 1) := by decide +kernel
theorem dX9_oneMore_28 : decode cX9_oneMore 28 = .ok (.iload_n 2, 1) := by decide +kernel
theorem dX9_oneMore_29 : decode cX9_oneMore 29 = .ok (.invokevirtual 199, 3) := by decide +kernel
theorem dX9_oneMore_32 : decode cX9_oneMore 32 = .ok (.ireturn, 1) := by decide +kernel
theorem dX9_key_0 : decode cX9_key 0 = .ok (.aload_n 0, 1) := by decide +kernel
theorem dX9_key_1 : decode cX9_key 1 = .ok (.iload_n 1, 1) := by decide +kernel
theorem dX9_key_2 : decode cX9_key 2 = .ok (.invokevirtual 175, 3) := by decide +kernel
theorem dX9_key_5 : decode cX9_key 5 = .ok (.istore_n 3, 1) := by decide +kernel
theorem dX9_key_6 : decode cX9_key 6 = .ok (.iload_n 3, 1) := by decide +kernel
theorem dX9_key_7 : decode cX9_key 7 = .ok (.ifCond .eq 10, 3) := by decide +kernel
theorem dX9_key_10 : decode cX9_key 10 = .ok (.iload_n 2, 1) := by decide +kernel
theorem dX9_key_11 : decode cX9_key 11 = .ok (.invokestatic 182, 3) := by decide +kernel
theorem dX9_key_14 : decode cX9_key 14 = .ok (.ifCond .ne 5, 3) := by decide +kernel
theorem dX9_key_17 : decode cX9_key 17 = .ok (.iconst (-1), 1) := by decide +kernel
theorem dX9_key_18 : decode cX9_key 18 = .ok (.ireturn, 1) := by decide +kernel
theorem dX9_key_19 : decode cX9_key 19 = .ok (.aload_n 0, 1) := by decide +kernel
theorem dX9_key_20 : decode cX9_key 20 = .ok (.getfield 39, 3) := by decide +kernel
theorem dX9_key_23 : decode cX9_key 23 = .ok (.aload_n 0, 1) := by decide +kernel
theorem dX9_key_24 : decode cX9_key 24 = .ok (.getfield 10, 3) := by decide +kernel
theorem dX9_key_27 : decode cX9_key 27 = .ok (.iload_n 3, 1) := by decide +kernel
theorem dX9_key_28 : decode cX9_key 28 = .ok (.invokevirtual 188, 3) := by decide +kernel
theorem dX9_key_31 : decode cX9_key 31 = .ok (.ifCond .ne 6, 3) := by decide +kernel
theorem dX9_key_34 : decode cX9_key 34 = .ok (.bipush (-3), 2) := by decide +kernel
theorem dX9_key_36 : decode cX9_key 36 = .ok (.ireturn, 1) := by decide +kernel
theorem dX9_key_37 : decode cX9_key 37 = .ok (.aload_n 0, 1) := by decide +kernel
theorem dX9_key_38 : decode cX9_key 38 = .ok (.getfield 19, 3) := by decide +kernel
theorem dX9_key_41 : decode cX9_key 41 = .ok (.aload_n 0, 1) := by decide +kernel
theorem dX9_key_42 : decode cX9_key 42 = .ok (.getfield 10, 3) := by decide +kernel
theorem dX9_key_45 : decode cX9_key 45 = .ok (.invokevirtual 149, 3) := by decide +kernel
theorem dX9_key_48 : decode cX9_key 48 = .ok (.iconst 0, 1) := by decide +kernel
theorem dX9_key_49 : decode cX9_key 49 = .ok (.istore 4, 2) := by decide +kernel
theorem dX9_key_51 : decode cX9_key 51 = .ok (.bipush (-2), 2) := by decide +kernel
theorem dX9_key_53 : decode cX9_key 53 = .ok (.istore 5, 2) := by decide +kernel
theorem dX9_key_55 : decode cX9_key 55 = .ok (.bipush 39, 2) := by decide +kernel
theorem dX9_key_57 : decode cX9_key 57 = .ok (.istore 6, 2) := by decide +kernel
theorem dX9_key_59 : decode cX9_key 59 = .ok (.iload 6, 2) := by decide +kernel
theorem dX9_key_61 : decode cX9_key 61 = .ok (.ifCond .lt 33, 3) := by decide +kernel
theorem dX9_key_64 : decode cX9_key 64 = .ok (.aload_n 0, 1) := by decide +kernel
theorem dX9_key_65 : decode cX9_key 65 = .ok (.getfield 39, 3) := by decide +kernel
theorem dX9_key_68 : decode cX9_key 68 = .ok (.aload_n 0, 1) := by decide +kernel
theorem dX9_key_69 : decode cX9_key 69 = .ok (.getfield 19, 3) := by decide +kernel
theorem dX9_key_72 : decode cX9_key 72 = .ok (.iload_n 3, 1) := by decide +kernel
theorem dX9_key_73 : decode cX9_key 73 = .ok (.iload 6, 2) := by decide +kernel
theorem dX9_key_75 : decode cX9_key 75 = .ok (.invokevirtual 208, 3) := by decide +kernel
theorem dX9_key_78 : decode cX9_key 78 = .ok (.ifCond .eq 10, 3) := by decide +kernel
theorem dX9_key_81 : decode cX9_key 81 = .ok (.iinc 4 1, 3) := by decide +kernel
theorem dX9_key_84 : decode cX9_key 84 = .ok (.iload 6, 2) := by decide +kernel
theorem dX9_key_86 : decode cX9_key 86 = .ok (.istore 5, 2) := by decide +kernel
theorem dX9_key_88 : decode cX9_key 88 = .ok (.iinc 6 (-1), 3) := by decide +kernel
theorem dX9_key_91 : decode cX9_key 91 = .ok (.goto (-32), 3) := by decide +kernel
theorem dX9_key_94 : decode cX9_key 94 = .ok (.iload_n 2, 1) := by decide +kernel
theorem dX9_key_95 : decode cX9_key 95 = .ok (.ifCond .ne 8, 3) := by decide +kernel
theorem dX9_key_98 : decode cX9_key 98 = .ok (.iload 4, 2) := by decide +kernel
theorem dX9_key_100 : decode cX9_key 100 = .ok (.goto 5, 3) := by decide +kernel
theorem dX9_key_103 : decode cX9_key 103 = .ok (.iload 5, 2) := by decide +kernel
theorem dX9_key_105 : decode cX9_key 105 = .ok (.ireturn, 1) := by decide +kernel
theorem dX9_firstNight_0 : decode cX9_firstNight 0 = .ok (.aload_n 0, 1) := by decide +kernel
theorem dX9_firstNight_1 : decode cX9_firstNight 1 = .ok (.iload_n 1, 1) := by decide +kernel
theorem dX9_firstNight_2 : decode cX9_firstNight 2 = .ok (.invokevirtual 175, 3) := by decide +kernel
theorem dX9_firstNight_5 : decode cX9_firstNight 5 = .ok (.istore_n 2, 1) := by decide +kernel
theorem dX9_firstNight_6 : decode cX9_firstNight 6 = .ok (.iload_n 2, 1) := by decide +kernel
theorem dX9_firstNight_7 : decode cX9_firstNight 7 = .ok (.ifCond .ne 5, 3) := by decide +kernel
theorem dX9_firstNight_10 : decode cX9_firstNight 10 = .ok (.iconst (-1), 1) := by decide +kernel
theorem dX9_firstNight_11 : decode cX9_firstNight 11 = .ok (.ireturn, 1) := by decide +kernel
theorem dX9_firstNight_12 : decode cX9_firstNight 12 = .ok (.aload_n 0, 1) := by decide +kernel
theorem dX9_firstNight_13 : decode cX9_firstNight 13 = .ok (.getfield 19, 3) := by decide +kernel
theorem dX9_firstNight_16 : decode cX9_firstNight 16 = .ok (.aload_n 0, 1) := by decide +kernel
theorem dX9_firstNight_17 : decode cX9_firstNight 17 = .ok (.getfield 10, 3) := by decide +kernel
theorem dX9_firstNight_20 : decode cX9_firstNight 20 = .ok (.invokevirtual 149, 3) := by decide +kernel
theorem dX9_firstNight_23 : decode cX9_firstNight 23 = .ok (.iconst 0, 1) := by decide +kernel
theorem dX9_firstNight_24 : decode cX9_firstNight 24 = .ok (.istore_n 3, 1) := by decide +kernel
theorem dX9_firstNight_25 : decode cX9_firstNight 25 = .ok (.iload_n 3, 1) := by decide +kernel
theorem dX9_firstNight_26 : decode cX9_firstNight 26 = .ok (.bipush 60, 2) := by decide +kernel
theorem dX9_firstNight_28 : decode cX9_firstNight 28 = .ok (.if_icmp .gt 42, 3) := by decide +kernel
theorem dX9_firstNight_31 : decode cX9_firstNight 31 = .ok (.aload_n 0, 1) := by decide +kernel
theorem dX9_firstNight_32 : decode cX9_firstNight 32 = .ok (.getfield 39, 3) := by decide +kernel
theorem dX9_firstNight_35 : decode cX9_firstNight 35 = .ok (.aload_n 0, 1) := by decide +kernel
theorem dX9_firstNight_36 : decode cX9_firstNight 36 = .ok (.getfield 19, 3) := by decide +kernel
theorem dX9_firstNight_39 : decode cX9_firstNight 39 = .ok (.iload_n 2, 1) := by decide +kernel
theorem dX9_firstNight_40 : decode cX9_firstNight 40 = .ok (.invokevirtual 188, 3) := by decide +kernel
theorem dX9_firstNight_43 : decode cX9_firstNight 43 = .ok (.ifCond .eq 5, 3) := by decide +kernel
theorem dX9_firstNight_46 : decode cX9_firstNight 46 = .ok (.iload_n 3, 1) := by decide +kernel
theorem dX9_firstNight_47 : decode cX9_firstNight 47 = .ok (.ireturn, 1) := by decide +kernel
theorem dX9_firstNight_48 : decode cX9_firstNight 48 = .ok (.aload_n 0, 1) := by decide +kernel
theorem dX9_firstNight_49 : decode cX9_firstNight 49 = .ok (.getfield 32, 3) := by decide +kernel
theorem dX9_firstNight_52 : decode cX9_firstNight 52 = .ok (.aload_n 0, 1) := by decide +kernel
theorem dX9_firstNight_53 : decode cX9_firstNight 53 = .ok (.getfield 19, 3) := by decide +kernel
theorem dX9_firstNight_56 : decode cX9_firstNight 56 = .ok (.aload_n 0, 1) := by decide +kernel
theorem dX9_firstNight_57 : decode cX9_firstNight 57 = .ok (.getfield 71, 3) := by decide +kernel
theorem dX9_firstNight_60 : decode cX9_firstNight 60 = .ok (.iconst 1, 1) := by decide +kernel
theorem dX9_firstNight_61 : decode cX9_firstNight 61 = .ok (.invokevirtual 141, 3) := by decide +kernel
theorem dX9_firstNight_64 : decode cX9_firstNight 64 = .ok (.iinc 3 1, 3) := by decide +kernel
theorem dX9_firstNight_67 : decode cX9_firstNight 67 = .ok (.goto (-42), 3) := by decide +kernel
theorem dX9_firstNight_70 : decode cX9_firstNight 70 = .ok (.bipush (-2), 2) := by decide +kernel
theorem dX9_firstNight_72 : decode cX9_firstNight 72 = .ok (.ireturn, 1) := by decide +kernel
theorem dX9_walk_0 : decode cX9_walk 0 = .ok (.aload_n 0, 1) := by decide +kernel
theorem dX9_walk_1 : decode cX9_walk 1 = .ok (.iload_n 1, 1) := by decide +kernel
theorem dX9_walk_2 : decode cX9_walk 2 = .ok (.invokevirtual 175, 3) := by decide +kernel
theorem dX9_walk_5 : decode cX9_walk 5 = .ok (.istore 5, 2) := by decide +kernel
theorem dX9_walk_7 : decode cX9_walk 7 = .ok (.iload 5, 2) := by decide +kernel
theorem dX9_walk_9 : decode cX9_walk 9 = .ok (.ifCond .eq 38, 3) := by decide +kernel
theorem dX9_walk_12 : decode cX9_walk 12 = .ok (.iload_n 2, 1) := by decide +kernel
theorem dX9_walk_13 : decode cX9_walk 13 = .ok (.ifCond .lt 34, 3) := by decide +kernel
theorem dX9_walk_16 : decode cX9_walk 16 = .ok (.iload_n 2, 1) := by decide +kernel
theorem dX9_walk_17 : decode cX9_walk 17 = .ok (.bipush 39, 2) := by decide +kernel
theorem dX9_walk_19 : decode cX9_walk 19 = .ok (.if_icmp .gt 28, 3) := by decide +kernel
theorem dX9_walk_22 : decode cX9_walk 22 = .ok (.iload 4, 2) := by decide +kernel
theorem dX9_walk_24 : decode cX9_walk 24 = .ok (.ifCond .lt 23, 3) := by decide +kernel
theorem dX9_walk_27 : decode cX9_walk 27 = .ok (.iload 4, 2) := by decide +kernel
theorem dX9_walk_29 : decode cX9_walk 29 = .ok (.iconst 3, 1) := by decide +kernel
theorem dX9_walk_30 : decode cX9_walk 30 = .ok (.if_icmp .gt 17, 3) := by decide +kernel
theorem dX9_walk_33 : decode cX9_walk 33 = .ok (.aload_n 0, 1) := by decide +kernel
theorem dX9_walk_34 : decode cX9_walk 34 = .ok (.getfield 25, 3) := by decide +kernel
theorem dX9_walk_37 : decode cX9_walk 37 = .ok (.iload_n 3, 1) := by decide +kernel
theorem dX9_walk_38 : decode cX9_walk 38 = .ok (.iconst 1, 1) := by decide +kernel
theorem dX9_walk_39 : decode cX9_walk 39 = .ok (.bipush 60, 2) := by decide +kernel
theorem dX9_walk_41 : decode cX9_walk 41 = .ok (.invokevirtual 119, 3) := by decide +kernel
theorem dX9_walk_44 : decode cX9_walk 44 = .ok (.ifCond .ne 5, 3) := by decide +kernel
theorem dX9_walk_47 : decode cX9_walk 47 = .ok (.iconst (-1), 1) := by decide +kernel
theorem dX9_walk_48 : decode cX9_walk 48 = .ok (.ireturn, 1) := by decide +kernel
theorem dX9_walk_49 : decode cX9_walk 49 = .ok (.aload_n 0, 1) := by decide +kernel
theorem dX9_walk_50 : decode cX9_walk 50 = .ok (.getfield 25, 3) := by decide +kernel
theorem dX9_walk_53 : decode cX9_walk 53 = .ok (.iload_n 3, 1) := by decide +kernel
theorem dX9_walk_54 : decode cX9_walk 54 = .ok (.invokevirtual 123, 3) := by decide +kernel
theorem dX9_walk_57 : decode cX9_walk 57 = .ok (.aload_n 0, 1) := by decide +kernel
theorem dX9_walk_58 : decode cX9_walk 58 = .ok (.getfield 53, 3) := by decide +kernel
theorem dX9_walk_61 : decode cX9_walk 61 = .ok (.aload_n 0, 1) := by decide +kernel
theorem dX9_walk_62 : decode cX9_walk 62 = .ok (.getfield 25, 3) := by decide +kernel
theorem dX9_walk_65 : decode cX9_walk 65 = .ok (.invokevirtual 216, 3) := by decide +kernel
theorem dX9_walk_68 : decode cX9_walk 68 = .ok (.ifCond .ne 11, 3) := by decide +kernel
theorem dX9_walk_71 : decode cX9_walk 71 = .ok (.aload_n 0, 1) := by decide +kernel
theorem dX9_walk_72 : decode cX9_walk 72 = .ok (.getfield 25, 3) := by decide +kernel
theorem dX9_walk_75 : decode cX9_walk 75 = .ok (.getfield 220, 3) := by decide +kernel
theorem dX9_walk_78 : decode cX9_walk 78 = .ok (.ireturn, 1) := by decide +kernel
theorem dX9_walk_79 : decode cX9_walk 79 = .ok (.aload_n 0, 1) := by decide +kernel
theorem dX9_walk_80 : decode cX9_walk 80 = .ok (.getfield 53, 3) := by decide +kernel
theorem dX9_walk_83 : decode cX9_walk 83 = .ok (.aload_n 0, 1) := by decide +kernel
theorem dX9_walk_84 : decode cX9_walk 84 = .ok (.getfield 10, 3) := by decide +kernel
theorem dX9_walk_87 : decode cX9_walk 87 = .ok (.iload 5, 2) := by decide +kernel
theorem dX9_walk_89 : decode cX9_walk 89 = .ok (.iload_n 2, 1) := by decide +kernel
theorem dX9_walk_90 : decode cX9_walk 90 = .ok (.invokevirtual 223, 3) := by decide +kernel
theorem dX9_walk_93 : decode cX9_walk 93 = .ok (.iload 4, 2) := by decide +kernel
theorem dX9_walk_95 : decode cX9_walk 95 = .ok (.tableswitch 49 0 2 #[25, 33, 41], 25) := by decide +kernel
theorem dX9_walk_120 : decode cX9_walk 120 = .ok (.aload_n 0, 1) := by decide +kernel
theorem dX9_walk_121 : decode cX9_walk 121 = .ok (.getfield 53, 3) := by decide +kernel
theorem dX9_walk_124 : decode cX9_walk 124 = .ok (.getfield 227, 3) := by decide +kernel
theorem dX9_walk_127 : decode cX9_walk 127 = .ok (.ireturn, 1) := by decide +kernel
theorem dX9_walk_128 : decode cX9_walk 128 = .ok (.aload_n 0, 1) := by decide +kernel
theorem dX9_walk_129 : decode cX9_walk 129 = .ok (.getfield 53, 3) := by decide +kernel
theorem dX9_walk_132 : decode cX9_walk 132 = .ok (.getfield 230, 3) := by decide +kernel
theorem dX9_walk_135 : decode cX9_walk 135 = .ok (.ireturn, 1) := by decide +kernel
theorem dX9_walk_136 : decode cX9_walk 136 = .ok (.aload_n 0, 1) := by decide +kernel
theorem dX9_walk_137 : decode cX9_walk 137 = .ok (.getfield 53, 3) := by decide +kernel
theorem dX9_walk_140 : decode cX9_walk 140 = .ok (.getfield 232, 3) := by decide +kernel
theorem dX9_walk_143 : decode cX9_walk 143 = .ok (.ireturn, 1) := by decide +kernel
theorem dX9_walk_144 : decode cX9_walk 144 = .ok (.aload_n 0, 1) := by decide +kernel
theorem dX9_walk_145 : decode cX9_walk 145 = .ok (.getfield 53, 3) := by decide +kernel
theorem dX9_walk_148 : decode cX9_walk 148 = .ok (.getfield 230, 3) := by decide +kernel
theorem dX9_walk_151 : decode cX9_walk 151 = .ok (.bipush 21, 2) := by decide +kernel
theorem dX9_walk_153 : decode cX9_walk 153 = .ok (.if_icmp .ne 7, 3) := by decide +kernel
theorem dX9_walk_156 : decode cX9_walk 156 = .ok (.iconst 1, 1) := by decide +kernel
theorem dX9_walk_157 : decode cX9_walk 157 = .ok (.goto 4, 3) := by decide +kernel
theorem dX9_walk_160 : decode cX9_walk 160 = .ok (.iconst 0, 1) := by decide +kernel
theorem dX9_walk_161 : decode cX9_walk 161 = .ok (.ireturn, 1) := by decide +kernel
theorem dX9_meet_0 : decode cX9_meet 0 = .ok (.aload_n 0, 1) := by decide +kernel
theorem dX9_meet_1 : decode cX9_meet 1 = .ok (.iload_n 1, 1) := by decide +kernel
theorem dX9_meet_2 : decode cX9_meet 2 = .ok (.invokevirtual 175, 3) := by decide +kernel
theorem dX9_meet_5 : decode cX9_meet 5 = .ok (.istore 4, 2) := by decide +kernel
theorem dX9_meet_7 : decode cX9_meet 7 = .ok (.aload_n 0, 1) := by decide +kernel
theorem dX9_meet_8 : decode cX9_meet 8 = .ok (.iload_n 2, 1) := by decide +kernel
theorem dX9_meet_9 : decode cX9_meet 9 = .ok (.invokevirtual 175, 3) := by decide +kernel
theorem dX9_meet_12 : decode cX9_meet 12 = .ok (.istore 5, 2) := by decide +kernel
theorem dX9_meet_14 : decode cX9_meet 14 = .ok (.iload 4, 2) := by decide +kernel
theorem dX9_meet_16 : decode cX9_meet 16 = .ok (.ifCond .eq 15, 3) := by decide +kernel
theorem dX9_meet_19 : decode cX9_meet 19 = .ok (.iload 5, 2) := by decide +kernel
theorem dX9_meet_21 : decode cX9_meet 21 = .ok (.ifCond .eq 10, 3) := by decide +kernel
theorem dX9_meet_24 : decode cX9_meet 24 = .ok (.iload_n 3, 1) := by decide +kernel
theorem dX9_meet_25 : decode cX9_meet 25 = .ok (.invokestatic 182, 3) := by decide +kernel
theorem dX9_meet_28 : decode cX9_meet 28 = .ok (.ifCond .ne 5, 3) := by decide +kernel
theorem dX9_meet_31 : decode cX9_meet 31 = .ok (.iconst (-1), 1) := by decide +kernel
theorem dX9_meet_32 : decode cX9_meet 32 = .ok (.ireturn, 1) := by decide +kernel
theorem dX9_meet_33 : decode cX9_meet 33 = .ok (.aload_n 0, 1) := by decide +kernel
theorem dX9_meet_34 : decode cX9_meet 34 = .ok (.getfield 39, 3) := by decide +kernel
theorem dX9_meet_37 : decode cX9_meet 37 = .ok (.aload_n 0, 1) := by decide +kernel
theorem dX9_meet_38 : decode cX9_meet 38 = .ok (.getfield 10, 3) := by decide +kernel
theorem dX9_meet_41 : decode cX9_meet 41 = .ok (.iload 4, 2) := by decide +kernel
theorem dX9_meet_43 : decode cX9_meet 43 = .ok (.iload 5, 2) := by decide +kernel
theorem dX9_meet_45 : decode cX9_meet 45 = .ok (.iload_n 3, 1) := by decide +kernel
theorem dX9_meet_46 : decode cX9_meet 46 = .ok (.invokevirtual 212, 3) := by decide +kernel
theorem dX9_meet_49 : decode cX9_meet 49 = .ok (.ireturn, 1) := by decide +kernel
theorem dX9_leastStride_0 : decode cX9_leastStride 0 = .ok (.iconst 1, 1) := by decide +kernel
theorem dX9_leastStride_1 : decode cX9_leastStride 1 = .ok (.istore_n 1, 1) := by decide +kernel
theorem dX9_leastStride_2 : decode cX9_leastStride 2 = .ok (.iload_n 1, 1) := by decide +kernel
theorem dX9_leastStride_3 : decode cX9_leastStride 3 = .ok (.bipush 30, 2) := by decide +kernel
theorem dX9_leastStride_5 : decode cX9_leastStride 5 = .ok (.if_icmp .gt 26, 3) := by decide +kernel
theorem dX9_leastStride_8 : decode cX9_leastStride 8 = .ok (.aload_n 0, 1) := by decide +kernel
theorem dX9_leastStride_9 : decode cX9_leastStride 9 = .ok (.getfield 39, 3) := by decide +kernel
theorem dX9_leastStride_12 : decode cX9_leastStride 12 = .ok (.aload_n 0, 1) := by decide +kernel
theorem dX9_leastStride_13 : decode cX9_leastStride 13 = .ok (.getfield 10, 3) := by decide +kernel
theorem dX9_leastStride_16 : decode cX9_leastStride 16 = .ok (.iload_n 1, 1) := by decide +kernel
theorem dX9_leastStride_17 : decode cX9_leastStride 17 = .ok (.invokevirtual 188, 3) := by decide +kernel
theorem dX9_leastStride_20 : decode cX9_leastStride 20 = .ok (.ifCond .eq 5, 3) := by decide +kernel
theorem dX9_leastStride_23 : decode cX9_leastStride 23 = .ok (.iload_n 1, 1) := by decide +kernel
theorem dX9_leastStride_24 : decode cX9_leastStride 24 = .ok (.ireturn, 1) := by decide +kernel
theorem dX9_leastStride_25 : decode cX9_leastStride 25 = .ok (.iinc 1 1, 3) := by decide +kernel
theorem dX9_leastStride_28 : decode cX9_leastStride 28 = .ok (.goto (-26), 3) := by decide +kernel
theorem dX9_leastStride_31 : decode cX9_leastStride 31 = .ok (.bipush (-2), 2) := by decide +kernel
theorem dX9_leastStride_33 : decode cX9_leastStride 33 = .ok (.ireturn, 1) := by decide +kernel
theorem dX9_islands_0 : decode cX9_islands 0 = .ok (.iload_n 1, 1) := by decide +kernel
theorem dX9_islands_1 : decode cX9_islands 1 = .ok (.invokestatic 108, 3) := by decide +kernel
theorem dX9_islands_4 : decode cX9_islands 4 = .ok (.ifCond .ne 5, 3) := by decide +kernel
theorem dX9_islands_7 : decode cX9_islands 7 = .ok (.iconst (-1), 1) := by decide +kernel
theorem dX9_islands_8 : decode cX9_islands 8 = .ok (.ireturn, 1) := by decide +kernel
theorem dX9_islands_9 : decode cX9_islands 9 = .ok (.iload_n 2, 1) := by decide +kernel
theorem dX9_islands_10 : decode cX9_islands 10 = .ok (.bipush 100, 2) := by decide +kernel
theorem dX9_islands_12 : decode cX9_islands 12 = .ok (.if_icmp .ne 16, 3) := by decide +kernel
theorem dX9_islands_15 : decode cX9_islands 15 = .ok (.aload_n 0, 1) := by decide +kernel
theorem dX9_islands_16 : decode cX9_islands 16 = .ok (.getfield 39, 3) := by decide +kernel
theorem dX9_islands_19 : decode cX9_islands 19 = .ok (.aload_n 0, 1) := by decide +kernel
theorem dX9_islands_20 : decode cX9_islands 20 = .ok (.getfield 10, 3) := by decide +kernel
theorem dX9_islands_23 : decode cX9_islands 23 = .ok (.iload_n 1, 1) := by decide +kernel
theorem dX9_islands_24 : decode cX9_islands 24 = .ok (.invokevirtual 202, 3) := by decide +kernel
theorem dX9_islands_27 : decode cX9_islands 27 = .ok (.ireturn, 1) := by decide +kernel
theorem dX9_islands_28 : decode cX9_islands 28 = .ok (.aload_n 0, 1) := by decide +kernel
theorem dX9_islands_29 : decode cX9_islands 29 = .ok (.getfield 10, 3) := by decide +kernel
theorem dX9_islands_32 : decode cX9_islands 32 = .ok (.iload_n 2, 1) := by decide +kernel
theorem dX9_islands_33 : decode cX9_islands 33 = .ok (.invokevirtual 98, 3) := by decide +kernel
theorem dX9_islands_36 : decode cX9_islands 36 = .ok (.ifCond .eq 19, 3) := by decide +kernel
theorem dX9_islands_39 : decode cX9_islands 39 = .ok (.aload_n 0, 1) := by decide +kernel
theorem dX9_islands_40 : decode cX9_islands 40 = .ok (.getfield 39, 3) := by decide +kernel
theorem dX9_islands_43 : decode cX9_islands 43 = .ok (.aload_n 0, 1) := by decide +kernel
theorem dX9_islands_44 : decode cX9_islands 44 = .ok (.getfield 10, 3) := by decide +kernel
theorem dX9_islands_47 : decode cX9_islands 47 = .ok (.iload_n 1, 1) := by decide +kernel
theorem dX9_islands_48 : decode cX9_islands 48 = .ok (.iload_n 2, 1) := by decide +kernel
theorem dX9_islands_49 : decode cX9_islands 49 = .ok (.invokevirtual 205, 3) := by decide +kernel
theorem dX9_islands_52 : decode cX9_islands 52 = .ok (.goto 4, 3) := by decide +kernel
theorem dX9_islands_55 : decode cX9_islands 55 = .ok (.iconst (-1), 1) := by decide +kernel
theorem dX9_islands_56 : decode cX9_islands 56 = .ok (.ireturn, 1) := by decide +kernel
theorem dX9_market_0 : decode cX9_market 0 = .ok (.iconst 0, 1) := by decide +kernel
theorem dX9_market_1 : decode cX9_market 1 = .ok (.istore_n 1, 1) := by decide +kernel
theorem dX9_market_2 : decode cX9_market 2 = .ok (.iconst 0, 1) := by decide +kernel
theorem dX9_market_3 : decode cX9_market 3 = .ok (.istore_n 2, 1) := by decide +kernel
theorem dX9_market_4 : decode cX9_market 4 = .ok (.iload_n 2, 1) := by decide +kernel
theorem dX9_market_5 : decode cX9_market 5 = .ok (.bipush 8, 2) := by decide +kernel
theorem dX9_market_7 : decode cX9_market 7 = .ok (.if_icmp .ge 44, 3) := by decide +kernel
theorem dX9_market_10 : decode cX9_market 10 = .ok (.aload_n 0, 1) := by decide +kernel
theorem dX9_market_11 : decode cX9_market 11 = .ok (.getfield 64, 3) := by decide +kernel
theorem dX9_market_14 : decode cX9_market 14 = .ok (.iload_n 2, 1) := by decide +kernel
theorem dX9_market_15 : decode cX9_market 15 = .ok (.iaload, 1) := by decide +kernel
theorem dX9_market_16 : decode cX9_market 16 = .ok (.ifCond .eq 29, 3) := by decide +kernel
theorem dX9_market_19 : decode cX9_market 19 = .ok (.aload_n 0, 1) := by decide +kernel
theorem dX9_market_20 : decode cX9_market 20 = .ok (.getfield 39, 3) := by decide +kernel
theorem dX9_market_23 : decode cX9_market 23 = .ok (.aload_n 0, 1) := by decide +kernel
theorem dX9_market_24 : decode cX9_market 24 = .ok (.getfield 10, 3) := by decide +kernel
theorem dX9_market_27 : decode cX9_market 27 = .ok (.aload_n 0, 1) := by decide +kernel
theorem dX9_market_28 : decode cX9_market 28 = .ok (.getfield 64, 3) := by decide +kernel
theorem dX9_market_31 : decode cX9_market 31 = .ok (.iload_n 2, 1) := by decide +kernel
theorem dX9_market_32 : decode cX9_market 32 = .ok (.iaload, 1) := by decide +kernel
theorem dX9_market_33 : decode cX9_market 33 = .ok (.invokevirtual 188, 3) := by decide +kernel
theorem dX9_market_36 : decode cX9_market 36 = .ok (.ifCond .eq 9, 3) := by decide +kernel
theorem dX9_market_39 : decode cX9_market 39 = .ok (.iload_n 1, 1) := by decide +kernel
theorem dX9_market_40 : decode cX9_market 40 = .ok (.iconst 1, 1) := by decide +kernel
theorem dX9_market_41 : decode cX9_market 41 = .ok (.iload_n 2, 1) := by decide +kernel
theorem dX9_market_42 : decode cX9_market 42 = .ok (.ishl, 1) := by decide +kernel
theorem dX9_market_43 : decode cX9_market 43 = .ok (.ior, 1) := by decide +kernel
theorem dX9_market_44 : decode cX9_market 44 = .ok (.istore_n 1, 1) := by decide +kernel
theorem dX9_market_45 : decode cX9_market 45 = .ok (.iinc 2 1, 3) := by decide +kernel
theorem dX9_market_48 : decode cX9_market 48 = .ok (.goto (-44), 3) := by decide +kernel
theorem dX9_market_51 : decode cX9_market 51 = .ok (.iload_n 1, 1) := by decide +kernel
theorem dX9_market_52 : decode cX9_market 52 = .ok (.ireturn, 1) := by decide +kernel
theorem dX9_chalk_0 : decode cX9_chalk 0 = .ok (.iload_n 1, 1) := by decide +kernel
theorem dX9_chalk_1 : decode cX9_chalk 1 = .ok (.iconst 1, 1) := by decide +kernel
theorem dX9_chalk_2 : decode cX9_chalk 2 = .ok (.if_icmp .lt 25, 3) := by decide +kernel
theorem dX9_chalk_5 : decode cX9_chalk 5 = .ok (.iload_n 1, 1) := by decide +kernel
theorem dX9_chalk_6 : decode cX9_chalk 6 = .ok (.bipush 7, 2) := by decide +kernel
theorem dX9_chalk_8 : decode cX9_chalk 8 = .ok (.if_icmp .gt 19, 3) := by decide +kernel
theorem dX9_chalk_11 : decode cX9_chalk 11 = .ok (.aload_n 0, 1) := by decide +kernel
theorem dX9_chalk_12 : decode cX9_chalk 12 = .ok (.getfield 25, 3) := by decide +kernel
theorem dX9_chalk_15 : decode cX9_chalk 15 = .ok (.iconst 2, 1) := by decide +kernel
theorem dX9_chalk_16 : decode cX9_chalk 16 = .ok (.iload_n 1, 1) := by decide +kernel
theorem dX9_chalk_17 : decode cX9_chalk 17 = .ok (.imul, 1) := by decide +kernel
theorem dX9_chalk_18 : decode cX9_chalk 18 = .ok (.iconst 2, 1) := by decide +kernel
theorem dX9_chalk_19 : decode cX9_chalk 19 = .ok (.bipush 14, 2) := by decide +kernel
theorem dX9_chalk_21 : decode cX9_chalk 21 = .ok (.invokevirtual 119, 3) := by decide +kernel
theorem dX9_chalk_24 : decode cX9_chalk 24 = .ok (.ifCond .ne 5, 3) := by decide +kernel
theorem dX9_chalk_27 : decode cX9_chalk 27 = .ok (.iconst (-1), 1) := by decide +kernel
theorem dX9_chalk_28 : decode cX9_chalk 28 = .ok (.ireturn, 1) := by decide +kernel
theorem dX9_chalk_29 : decode cX9_chalk 29 = .ok (.iload_n 2, 1) := by decide +kernel
theorem dX9_chalk_30 : decode cX9_chalk 30 = .ok (.bipush 100, 2) := by decide +kernel
theorem dX9_chalk_32 : decode cX9_chalk 32 = .ok (.if_icmp .eq 14, 3) := by decide +kernel
theorem dX9_chalk_35 : decode cX9_chalk 35 = .ok (.iload_n 2, 1) := by decide +kernel
theorem dX9_chalk_36 : decode cX9_chalk 36 = .ok (.ifCond .lt 8, 3) := by decide +kernel
theorem dX9_chalk_39 : decode cX9_chalk 39 = .ok (.iload_n 2, 1) := by decide +kernel
theorem dX9_chalk_40 : decode cX9_chalk 40 = .ok (.iload_n 1, 1) := by decide +kernel
theorem dX9_chalk_41 : decode cX9_chalk 41 = .ok (.if_icmp .lt 5, 3) := by decide +kernel
theorem dX9_chalk_44 : decode cX9_chalk 44 = .ok (.iconst (-1), 1) := by decide +kernel
theorem dX9_chalk_45 : decode cX9_chalk 45 = .ok (.ireturn, 1) := by decide +kernel
theorem dX9_chalk_46 : decode cX9_chalk 46 = .ok (.aload_n 0, 1) := by decide +kernel
theorem dX9_chalk_47 : decode cX9_chalk 47 = .ok (.getfield 25, 3) := by decide +kernel
theorem dX9_chalk_50 : decode cX9_chalk 50 = .ok (.iconst 2, 1) := by decide +kernel
theorem dX9_chalk_51 : decode cX9_chalk 51 = .ok (.iload_n 1, 1) := by decide +kernel
theorem dX9_chalk_52 : decode cX9_chalk 52 = .ok (.imul, 1) := by decide +kernel
theorem dX9_chalk_53 : decode cX9_chalk 53 = .ok (.invokevirtual 123, 3) := by decide +kernel
theorem dX9_chalk_56 : decode cX9_chalk 56 = .ok (.aload_n 0, 1) := by decide +kernel
theorem dX9_chalk_57 : decode cX9_chalk 57 = .ok (.getfield 10, 3) := by decide +kernel
theorem dX9_chalk_60 : decode cX9_chalk 60 = .ok (.invokevirtual 234, 3) := by decide +kernel
theorem dX9_chalk_63 : decode cX9_chalk 63 = .ok (.iload_n 1, 1) := by decide +kernel
theorem dX9_chalk_64 : decode cX9_chalk 64 = .ok (.if_icmp .ge 6, 3) := by decide +kernel
theorem dX9_chalk_67 : decode cX9_chalk 67 = .ok (.bipush (-2), 2) := by decide +kernel
theorem dX9_chalk_69 : decode cX9_chalk 69 = .ok (.ireturn, 1) := by decide +kernel
theorem dX9_chalk_70 : decode cX9_chalk 70 = .ok (.aload_n 0, 1) := by decide +kernel
theorem dX9_chalk_71 : decode cX9_chalk 71 = .ok (.getfield 60, 3) := by decide +kernel
theorem dX9_chalk_74 : decode cX9_chalk 74 = .ok (.aload_n 0, 1) := by decide +kernel
theorem dX9_chalk_75 : decode cX9_chalk 75 = .ok (.getfield 25, 3) := by decide +kernel
theorem dX9_chalk_78 : decode cX9_chalk 78 = .ok (.iload_n 1, 1) := by decide +kernel
theorem dX9_chalk_79 : decode cX9_chalk 79 = .ok (.invokevirtual 237, 3) := by decide +kernel
theorem dX9_chalk_82 : decode cX9_chalk 82 = .ok (.ifCond .ne 6, 3) := by decide +kernel
theorem dX9_chalk_85 : decode cX9_chalk 85 = .ok (.bipush (-3), 2) := by decide +kernel
theorem dX9_chalk_87 : decode cX9_chalk 87 = .ok (.ireturn, 1) := by decide +kernel
theorem dX9_chalk_88 : decode cX9_chalk 88 = .ok (.aload_n 0, 1) := by decide +kernel
theorem dX9_chalk_89 : decode cX9_chalk 89 = .ok (.getfield 60, 3) := by decide +kernel
theorem dX9_chalk_92 : decode cX9_chalk 92 = .ok (.aload_n 0, 1) := by decide +kernel
theorem dX9_chalk_93 : decode cX9_chalk 93 = .ok (.getfield 10, 3) := by decide +kernel
theorem dX9_chalk_96 : decode cX9_chalk 96 = .ok (.iload_n 1, 1) := by decide +kernel
theorem dX9_chalk_97 : decode cX9_chalk 97 = .ok (.invokevirtual 240, 3) := by decide +kernel
theorem dX9_chalk_100 : decode cX9_chalk 100 = .ok (.iload_n 2, 1) := by decide +kernel
theorem dX9_chalk_101 : decode cX9_chalk 101 = .ok (.bipush 100, 2) := by decide +kernel
theorem dX9_chalk_103 : decode cX9_chalk 103 = .ok (.if_icmp .ne 13, 3) := by decide +kernel
theorem dX9_chalk_106 : decode cX9_chalk 106 = .ok (.aload_n 0, 1) := by decide +kernel
theorem dX9_chalk_107 : decode cX9_chalk 107 = .ok (.getfield 60, 3) := by decide +kernel
theorem dX9_chalk_110 : decode cX9_chalk 110 = .ok (.invokevirtual 244, 3) := by decide +kernel
theorem dX9_chalk_113 : decode cX9_chalk 113 = .ok (.goto 12, 3) := by decide +kernel
theorem dX9_chalk_116 : decode cX9_chalk 116 = .ok (.aload_n 0, 1) := by decide +kernel
theorem dX9_chalk_117 : decode cX9_chalk 117 = .ok (.getfield 60, 3) := by decide +kernel
theorem dX9_chalk_120 : decode cX9_chalk 120 = .ok (.iload_n 1, 1) := by decide +kernel
theorem dX9_chalk_121 : decode cX9_chalk 121 = .ok (.iload_n 2, 1) := by decide +kernel
theorem dX9_chalk_122 : decode cX9_chalk 122 = .ok (.invokevirtual 247, 3) := by decide +kernel
theorem dX9_chalk_125 : decode cX9_chalk 125 = .ok (.ireturn, 1) := by decide +kernel
theorem dX9_shape_0 : decode cX9_shape 0 = .ok (.iload_n 1, 1) := by decide +kernel
theorem dX9_shape_1 : decode cX9_shape 1 = .ok (.tableswitch 63 0 3 #[31, 39, 47, 55], 31) := by decide +kernel
theorem dX9_shape_32 : decode cX9_shape 32 = .ok (.aload_n 0, 1) := by decide +kernel
theorem dX9_shape_33 : decode cX9_shape 33 = .ok (.getfield 10, 3) := by decide +kernel
theorem dX9_shape_36 : decode cX9_shape 36 = .ok (.invokestatic 250, 3) := by decide +kernel
theorem dX9_shape_39 : decode cX9_shape 39 = .ok (.ireturn, 1) := by decide +kernel
theorem dX9_shape_40 : decode cX9_shape 40 = .ok (.aload_n 0, 1) := by decide +kernel
theorem dX9_shape_41 : decode cX9_shape 41 = .ok (.getfield 10, 3) := by decide +kernel
theorem dX9_shape_44 : decode cX9_shape 44 = .ok (.invokestatic 256, 3) := by decide +kernel
theorem dX9_shape_47 : decode cX9_shape 47 = .ok (.ireturn, 1) := by decide +kernel
theorem dX9_shape_48 : decode cX9_shape 48 = .ok (.aload_n 0, 1) := by decide +kernel
theorem dX9_shape_49 : decode cX9_shape 49 = .ok (.getfield 10, 3) := by decide +kernel
theorem dX9_shape_52 : decode cX9_shape 52 = .ok (.invokestatic 259, 3) := by decide +kernel
theorem dX9_shape_55 : decode cX9_shape 55 = .ok (.ireturn, 1) := by decide +kernel
theorem dX9_shape_56 : decode cX9_shape 56 = .ok (.aload_n 0, 1) := by decide +kernel
theorem dX9_shape_57 : decode cX9_shape 57 = .ok (.getfield 10, 3) := by decide +kernel
theorem dX9_shape_60 : decode cX9_shape 60 = .ok (.invokestatic 262, 3) := by decide +kernel
theorem dX9_shape_63 : decode cX9_shape 63 = .ok (.ireturn, 1) := by decide +kernel
theorem dX9_shape_64 : decode cX9_shape 64 = .ok (.iconst (-1), 1) := by decide +kernel
theorem dX9_shape_65 : decode cX9_shape 65 = .ok (.ireturn, 1) := by decide +kernel
theorem dX9_letters_0 : decode cX9_letters 0 = .ok (.iload_n 2, 1) := by decide +kernel
theorem dX9_letters_1 : decode cX9_letters 1 = .ok (.invokestatic 182, 3) := by decide +kernel
theorem dX9_letters_4 : decode cX9_letters 4 = .ok (.ifCond .eq 17, 3) := by decide +kernel
theorem dX9_letters_7 : decode cX9_letters 7 = .ok (.aload_n 0, 1) := by decide +kernel
theorem dX9_letters_8 : decode cX9_letters 8 = .ok (.getfield 25, 3) := by decide +kernel
theorem dX9_letters_11 : decode cX9_letters 11 = .ok (.iload_n 1, 1) := by decide +kernel
theorem dX9_letters_12 : decode cX9_letters 12 = .ok (.iconst 1, 1) := by decide +kernel
theorem dX9_letters_13 : decode cX9_letters 13 = .ok (.bipush 8, 2) := by decide +kernel
theorem dX9_letters_15 : decode cX9_letters 15 = .ok (.invokevirtual 119, 3) := by decide +kernel
theorem dX9_letters_18 : decode cX9_letters 18 = .ok (.ifCond .ne 5, 3) := by decide +kernel
theorem dX9_letters_21 : decode cX9_letters 21 = .ok (.iconst (-1), 1) := by decide +kernel
theorem dX9_letters_22 : decode cX9_letters 22 = .ok (.ireturn, 1) := by decide +kernel
theorem dX9_letters_23 : decode cX9_letters 23 = .ok (.aload_n 0, 1) := by decide +kernel
theorem dX9_letters_24 : decode cX9_letters 24 = .ok (.getfield 25, 3) := by decide +kernel
theorem dX9_letters_27 : decode cX9_letters 27 = .ok (.iload_n 1, 1) := by decide +kernel
theorem dX9_letters_28 : decode cX9_letters 28 = .ok (.invokevirtual 123, 3) := by decide +kernel
theorem dX9_letters_31 : decode cX9_letters 31 = .ok (.iconst 0, 1) := by decide +kernel
theorem dX9_letters_32 : decode cX9_letters 32 = .ok (.istore_n 3, 1) := by decide +kernel
theorem dX9_letters_33 : decode cX9_letters 33 = .ok (.iload_n 3, 1) := by decide +kernel
theorem dX9_letters_34 : decode cX9_letters 34 = .ok (.iload_n 1, 1) := by decide +kernel
theorem dX9_letters_35 : decode cX9_letters 35 = .ok (.if_icmp .ge 23, 3) := by decide +kernel
theorem dX9_letters_38 : decode cX9_letters 38 = .ok (.aload_n 0, 1) := by decide +kernel
theorem dX9_letters_39 : decode cX9_letters 39 = .ok (.getfield 25, 3) := by decide +kernel
theorem dX9_letters_42 : decode cX9_letters 42 = .ok (.iload_n 3, 1) := by decide +kernel
theorem dX9_letters_43 : decode cX9_letters 43 = .ok (.invokevirtual 265, 3) := by decide +kernel
theorem dX9_letters_46 : decode cX9_letters 46 = .ok (.ifCond .ne 6, 3) := by decide +kernel
theorem dX9_letters_49 : decode cX9_letters 49 = .ok (.bipush (-2), 2) := by decide +kernel
theorem dX9_letters_51 : decode cX9_letters 51 = .ok (.ireturn, 1) := by decide +kernel
theorem dX9_letters_52 : decode cX9_letters 52 = .ok (.iinc 3 1, 3) := by decide +kernel
theorem dX9_letters_55 : decode cX9_letters 55 = .ok (.goto (-22), 3) := by decide +kernel
theorem dX9_letters_58 : decode cX9_letters 58 = .ok (.aload_n 0, 1) := by decide +kernel
theorem dX9_letters_59 : decode cX9_letters 59 = .ok (.iload_n 1, 1) := by decide +kernel
theorem dX9_letters_60 : decode cX9_letters 60 = .ok (.invokevirtual 268, 3) := by decide +kernel
theorem dX9_letters_63 : decode cX9_letters 63 = .ok (.istore_n 3, 1) := by decide +kernel
theorem dX9_letters_64 : decode cX9_letters 64 = .ok (.iload_n 2, 1) := by decide +kernel
theorem dX9_letters_65 : decode cX9_letters 65 = .ok (.ifCond .ne 12, 3) := by decide +kernel
theorem dX9_letters_68 : decode cX9_letters 68 = .ok (.aload_n 0, 1) := by decide +kernel
theorem dX9_letters_69 : decode cX9_letters 69 = .ok (.iload_n 3, 1) := by decide +kernel
theorem dX9_letters_70 : decode cX9_letters 70 = .ok (.iload_n 1, 1) := by decide +kernel
theorem dX9_letters_71 : decode cX9_letters 71 = .ok (.invokevirtual 271, 3) := by decide +kernel
theorem dX9_letters_74 : decode cX9_letters 74 = .ok (.goto 4, 3) := by decide +kernel
theorem dX9_letters_77 : decode cX9_letters 77 = .ok (.iload_n 3, 1) := by decide +kernel
theorem dX9_letters_78 : decode cX9_letters 78 = .ok (.ireturn, 1) := by decide +kernel
theorem dX9_thrown_0 : decode cX9_thrown 0 = .ok (.iload_n 1, 1) := by decide +kernel
theorem dX9_thrown_1 : decode cX9_thrown 1 = .ok (.iconst 1, 1) := by decide +kernel
theorem dX9_thrown_2 : decode cX9_thrown 2 = .ok (.if_icmp .lt 9, 3) := by decide +kernel
theorem dX9_thrown_5 : decode cX9_thrown 5 = .ok (.iload_n 1, 1) := by decide +kernel
theorem dX9_thrown_6 : decode cX9_thrown 6 = .ok (.bipush 6, 2) := by decide +kernel
theorem dX9_thrown_8 : decode cX9_thrown 8 = .ok (.if_icmp .le 5, 3) := by decide +kernel
theorem dX9_thrown_11 : decode cX9_thrown 11 = .ok (.iconst (-1), 1) := by decide +kernel
theorem dX9_thrown_12 : decode cX9_thrown 12 = .ok (.ireturn, 1) := by decide +kernel
theorem dX9_thrown_13 : decode cX9_thrown 13 = .ok (.aload_n 0, 1) := by decide +kernel
theorem dX9_thrown_14 : decode cX9_thrown 14 = .ok (.getfield 10, 3) := by decide +kernel
theorem dX9_thrown_17 : decode cX9_thrown 17 = .ok (.iconst 0, 1) := by decide +kernel
theorem dX9_thrown_18 : decode cX9_thrown 18 = .ok (.invokevirtual 274, 3) := by decide +kernel
theorem dX9_thrown_21 : decode cX9_thrown 21 = .ok (.istore_n 2, 1) := by decide +kernel
theorem dX9_thrown_22 : decode cX9_thrown 22 = .ok (.iload_n 2, 1) := by decide +kernel
theorem dX9_thrown_23 : decode cX9_thrown 23 = .ok (.istore_n 3, 1) := by decide +kernel
theorem dX9_thrown_24 : decode cX9_thrown 24 = .ok (.iconst 1, 1) := by decide +kernel
theorem dX9_thrown_25 : decode cX9_thrown 25 = .ok (.istore 4, 2) := by decide +kernel
theorem dX9_thrown_27 : decode cX9_thrown 27 = .ok (.iload 4, 2) := by decide +kernel
theorem dX9_thrown_29 : decode cX9_thrown 29 = .ok (.iload_n 1, 1) := by decide +kernel
theorem dX9_thrown_30 : decode cX9_thrown 30 = .ok (.if_icmp .ge 25, 3) := by decide +kernel
theorem dX9_thrown_33 : decode cX9_thrown 33 = .ok (.iload_n 3, 1) := by decide +kernel
theorem dX9_thrown_34 : decode cX9_thrown 34 = .ok (.iconst (-1), 1) := by decide +kernel
theorem dX9_thrown_35 : decode cX9_thrown 35 = .ok (.if_icmp .eq 20, 3) := by decide +kernel
theorem dX9_thrown_38 : decode cX9_thrown 38 = .ok (.aload_n 0, 1) := by decide +kernel
theorem dX9_thrown_39 : decode cX9_thrown 39 = .ok (.getfield 10, 3) := by decide +kernel
theorem dX9_thrown_42 : decode cX9_thrown 42 = .ok (.iload_n 3, 1) := by decide +kernel
theorem dX9_thrown_43 : decode cX9_thrown 43 = .ok (.iconst 1, 1) := by decide +kernel
theorem dX9_thrown_44 : decode cX9_thrown 44 = .ok (.iadd, 1) := by decide +kernel
theorem dX9_thrown_45 : decode cX9_thrown 45 = .ok (.invokevirtual 274, 3) := by decide +kernel
theorem dX9_thrown_48 : decode cX9_thrown 48 = .ok (.istore_n 3, 1) := by decide +kernel
theorem dX9_thrown_49 : decode cX9_thrown 49 = .ok (.iinc 4 1, 3) := by decide +kernel
theorem dX9_thrown_52 : decode cX9_thrown 52 = .ok (.goto (-25), 3) := by decide +kernel
theorem dX9_thrown_55 : decode cX9_thrown 55 = .ok (.iload_n 3, 1) := by decide +kernel
theorem dX9_thrown_56 : decode cX9_thrown 56 = .ok (.iconst (-1), 1) := by decide +kernel
theorem dX9_thrown_57 : decode cX9_thrown 57 = .ok (.if_icmp .ne 6, 3) := by decide +kernel
theorem dX9_thrown_60 : decode cX9_thrown 60 = .ok (.bipush (-2), 2) := by decide +kernel
theorem dX9_thrown_62 : decode cX9_thrown 62 = .ok (.ireturn, 1) := by decide +kernel
theorem dX9_thrown_63 : decode cX9_thrown 63 = .ok (.aload_n 0, 1) := by decide +kernel
theorem dX9_thrown_64 : decode cX9_thrown 64 = .ok (.getfield 10, 3) := by decide +kernel
theorem dX9_thrown_67 : decode cX9_thrown 67 = .ok (.iload_n 2, 1) := by decide +kernel
theorem dX9_thrown_68 : decode cX9_thrown 68 = .ok (.lconst 1, 1) := by decide +kernel
theorem dX9_thrown_69 : decode cX9_thrown 69 = .ok (.iload_n 2, 1) := by decide +kernel
theorem dX9_thrown_70 : decode cX9_thrown 70 = .ok (.lshl, 1) := by decide +kernel
theorem dX9_thrown_71 : decode cX9_thrown 71 = .ok (.iload_n 3, 1) := by decide +kernel
theorem dX9_thrown_72 : decode cX9_thrown 72 = .ok (.iload_n 1, 1) := by decide +kernel
theorem dX9_thrown_73 : decode cX9_thrown 73 = .ok (.iconst 1, 1) := by decide +kernel
theorem dX9_thrown_74 : decode cX9_thrown 74 = .ok (.isub, 1) := by decide +kernel
theorem dX9_thrown_75 : decode cX9_thrown 75 = .ok (.invokestatic 277, 3) := by decide +kernel
theorem dX9_thrown_78 : decode cX9_thrown 78 = .ok (.ireturn, 1) := by decide +kernel
theorem dX9_seed_0 : decode cX9_seed 0 = .ok (.iload_n 1, 1) := by decide +kernel
theorem dX9_seed_1 : decode cX9_seed 1 = .ok (.ifCond .lt 10, 3) := by decide +kernel
theorem dX9_seed_4 : decode cX9_seed 4 = .ok (.iload_n 1, 1) := by decide +kernel
theorem dX9_seed_5 : decode cX9_seed 5 = .ok (.ldc_w 281, 3) := by decide +kernel
theorem dX9_seed_8 : decode cX9_seed 8 = .ok (.if_icmp .le 5, 3) := by decide +kernel
theorem dX9_seed_11 : decode cX9_seed 11 = .ok (.iconst 0, 1) := by decide +kernel
theorem dX9_seed_12 : decode cX9_seed 12 = .ok (.ireturn, 1) := by decide +kernel
theorem dX9_seed_13 : decode cX9_seed 13 = .ok (.aload_n 0, 1) := by decide +kernel
theorem dX9_seed_14 : decode cX9_seed 14 = .ok (.getfield 10, 3) := by decide +kernel
theorem dX9_seed_17 : decode cX9_seed 17 = .ok (.iload_n 1, 1) := by decide +kernel
theorem dX9_seed_18 : decode cX9_seed 18 = .ok (.putfield 282, 3) := by decide +kernel
theorem dX9_seed_21 : decode cX9_seed 21 = .ok (.iconst 1, 1) := by decide +kernel
theorem dX9_seed_22 : decode cX9_seed 22 = .ok (.ireturn, 1) := by decide +kernel
theorem dX9_keep_0 : decode cX9_keep 0 = .ok (.aload_n 0, 1) := by decide +kernel
theorem dX9_keep_1 : decode cX9_keep 1 = .ok (.getfield 16, 3) := by decide +kernel
theorem dX9_keep_4 : decode cX9_keep 4 = .ok (.aload_n 0, 1) := by decide +kernel
theorem dX9_keep_5 : decode cX9_keep 5 = .ok (.getfield 10, 3) := by decide +kernel
theorem dX9_keep_8 : decode cX9_keep 8 = .ok (.invokevirtual 149, 3) := by decide +kernel
theorem dX9_keep_11 : decode cX9_keep 11 = .ok (.aload_n 0, 1) := by decide +kernel
theorem dX9_keep_12 : decode cX9_keep 12 = .ok (.iconst 1, 1) := by decide +kernel
theorem dX9_keep_13 : decode cX9_keep 13 = .ok (.putfield 78, 3) := by decide +kernel
theorem dX9_keep_16 : decode cX9_keep 16 = .ok (.aload_n 0, 1) := by decide +kernel
theorem dX9_keep_17 : decode cX9_keep 17 = .ok (.getfield 10, 3) := by decide +kernel
theorem dX9_keep_20 : decode cX9_keep 20 = .ok (.getfield 285, 3) := by decide +kernel
theorem dX9_keep_23 : decode cX9_keep 23 = .ok (.ireturn, 1) := by decide +kernel
theorem dX9_undo_0 : decode cX9_undo 0 = .ok (.aload_n 0, 1) := by decide +kernel
theorem dX9_undo_1 : decode cX9_undo 1 = .ok (.getfield 78, 3) := by decide +kernel
theorem dX9_undo_4 : decode cX9_undo 4 = .ok (.ifCond .eq 14, 3) := by decide +kernel
theorem dX9_undo_7 : decode cX9_undo 7 = .ok (.aload_n 0, 1) := by decide +kernel
theorem dX9_undo_8 : decode cX9_undo 8 = .ok (.getfield 10, 3) := by decide +kernel
theorem dX9_undo_11 : decode cX9_undo 11 = .ok (.aload_n 0, 1) := by decide +kernel
theorem dX9_undo_12 : decode cX9_undo 12 = .ok (.getfield 16, 3) := by decide +kernel
theorem dX9_undo_15 : decode cX9_undo 15 = .ok (.invokevirtual 149, 3) := by decide +kernel
theorem dX9_undo_18 : decode cX9_undo 18 = .ok (.aload_n 0, 1) := by decide +kernel
theorem dX9_undo_19 : decode cX9_undo 19 = .ok (.getfield 78, 3) := by decide +kernel
theorem dX9_undo_22 : decode cX9_undo 22 = .ok (.ireturn, 1) := by decide +kernel
theorem dX9_check_0 : decode cX9_check 0 = .ok (.aload_n 0, 1) := by decide +kernel
theorem dX9_check_1 : decode cX9_check 1 = .ok (.getfield 25, 3) := by decide +kernel
theorem dX9_check_4 : decode cX9_check 4 = .ok (.iload_n 1, 1) := by decide +kernel
theorem dX9_check_5 : decode cX9_check 5 = .ok (.iconst 0, 1) := by decide +kernel
theorem dX9_check_6 : decode cX9_check 6 = .ok (.bipush 40, 2) := by decide +kernel
theorem dX9_check_8 : decode cX9_check 8 = .ok (.invokevirtual 119, 3) := by decide +kernel
theorem dX9_check_11 : decode cX9_check 11 = .ok (.ifCond .ne 6, 3) := by decide +kernel
theorem dX9_check_14 : decode cX9_check 14 = .ok (.bipush (-2), 2) := by decide +kernel
theorem dX9_check_16 : decode cX9_check 16 = .ok (.ireturn, 1) := by decide +kernel
theorem dX9_check_17 : decode cX9_check 17 = .ok (.aload_n 0, 1) := by decide +kernel
theorem dX9_check_18 : decode cX9_check 18 = .ok (.getfield 25, 3) := by decide +kernel
theorem dX9_check_21 : decode cX9_check 21 = .ok (.iload_n 1, 1) := by decide +kernel
theorem dX9_check_22 : decode cX9_check 22 = .ok (.invokevirtual 123, 3) := by decide +kernel
theorem dX9_check_25 : decode cX9_check 25 = .ok (.iconst 0, 1) := by decide +kernel
theorem dX9_check_26 : decode cX9_check 26 = .ok (.istore_n 2, 1) := by decide +kernel
theorem dX9_check_27 : decode cX9_check 27 = .ok (.iload_n 2, 1) := by decide +kernel
theorem dX9_check_28 : decode cX9_check 28 = .ok (.iload_n 1, 1) := by decide +kernel
theorem dX9_check_29 : decode cX9_check 29 = .ok (.if_icmp .ge 50, 3) := by decide +kernel
theorem dX9_check_32 : decode cX9_check 32 = .ok (.aload_n 0, 1) := by decide +kernel
theorem dX9_check_33 : decode cX9_check 33 = .ok (.getfield 10, 3) := by decide +kernel
theorem dX9_check_36 : decode cX9_check 36 = .ok (.iload_n 2, 1) := by decide +kernel
theorem dX9_check_37 : decode cX9_check 37 = .ok (.invokevirtual 98, 3) := by decide +kernel
theorem dX9_check_40 : decode cX9_check 40 = .ok (.ifCond .eq 15, 3) := by decide +kernel
theorem dX9_check_43 : decode cX9_check 43 = .ok (.aload_n 0, 1) := by decide +kernel
theorem dX9_check_44 : decode cX9_check 44 = .ok (.getfield 10, 3) := by decide +kernel
theorem dX9_check_47 : decode cX9_check 47 = .ok (.getfield 152, 3) := by decide +kernel
theorem dX9_check_50 : decode cX9_check 50 = .ok (.iload_n 2, 1) := by decide +kernel
theorem dX9_check_51 : decode cX9_check 51 = .ok (.iaload, 1) := by decide +kernel
theorem dX9_check_52 : decode cX9_check 52 = .ok (.goto 6, 3) := by decide +kernel
theorem dX9_check_55 : decode cX9_check 55 = .ok (.sipush 255, 3) := by decide +kernel
theorem dX9_check_58 : decode cX9_check 58 = .ok (.istore_n 3, 1) := by decide +kernel
theorem dX9_check_59 : decode cX9_check 59 = .ok (.aload_n 0, 1) := by decide +kernel
theorem dX9_check_60 : decode cX9_check 60 = .ok (.getfield 25, 3) := by decide +kernel
theorem dX9_check_63 : decode cX9_check 63 = .ok (.iload_n 2, 1) := by decide +kernel
theorem dX9_check_64 : decode cX9_check 64 = .ok (.invokevirtual 265, 3) := by decide +kernel
theorem dX9_check_67 : decode cX9_check 67 = .ok (.iload_n 3, 1) := by decide +kernel
theorem dX9_check_68 : decode cX9_check 68 = .ok (.if_icmp .eq 5, 3) := by decide +kernel
theorem dX9_check_71 : decode cX9_check 71 = .ok (.iload_n 2, 1) := by decide +kernel
theorem dX9_check_72 : decode cX9_check 72 = .ok (.ireturn, 1) := by decide +kernel
theorem dX9_check_73 : decode cX9_check 73 = .ok (.iinc 2 1, 3) := by decide +kernel
theorem dX9_check_76 : decode cX9_check 76 = .ok (.goto (-49), 3) := by decide +kernel
theorem dX9_check_79 : decode cX9_check 79 = .ok (.iconst (-1), 1) := by decide +kernel
theorem dX9_check_80 : decode cX9_check 80 = .ok (.ireturn, 1) := by decide +kernel
theorem dX9_count_0 : decode cX9_count 0 = .ok (.iload_n 1, 1) := by decide +kernel
theorem dX9_count_1 : decode cX9_count 1 = .ok (.tableswitch 96 0 6 #[43, 51, 59, 67, 72, 80, 88], 43) := by decide +kernel
theorem dX9_count_44 : decode cX9_count 44 = .ok (.aload_n 0, 1) := by decide +kernel
theorem dX9_count_45 : decode cX9_count 45 = .ok (.getfield 10, 3) := by decide +kernel
theorem dX9_count_48 : decode cX9_count 48 = .ok (.getfield 285, 3) := by decide +kernel
theorem dX9_count_51 : decode cX9_count 51 = .ok (.ireturn, 1) := by decide +kernel
theorem dX9_count_52 : decode cX9_count 52 = .ok (.aload_n 0, 1) := by decide +kernel
theorem dX9_count_53 : decode cX9_count 53 = .ok (.getfield 10, 3) := by decide +kernel
theorem dX9_count_56 : decode cX9_count 56 = .ok (.invokevirtual 234, 3) := by decide +kernel
theorem dX9_count_59 : decode cX9_count 59 = .ok (.ireturn, 1) := by decide +kernel
theorem dX9_count_60 : decode cX9_count 60 = .ok (.aload_n 0, 1) := by decide +kernel
theorem dX9_count_61 : decode cX9_count 61 = .ok (.getfield 10, 3) := by decide +kernel
theorem dX9_count_64 : decode cX9_count 64 = .ok (.invokevirtual 161, 3) := by decide +kernel
theorem dX9_count_67 : decode cX9_count 67 = .ok (.ireturn, 1) := by decide +kernel
theorem dX9_count_68 : decode cX9_count 68 = .ok (.aload_n 0, 1) := by decide +kernel
theorem dX9_count_69 : decode cX9_count 69 = .ok (.invokevirtual 288, 3) := by decide +kernel
theorem dX9_count_72 : decode cX9_count 72 = .ok (.ireturn, 1) := by decide +kernel
theorem dX9_count_73 : decode cX9_count 73 = .ok (.aload_n 0, 1) := by decide +kernel
theorem dX9_count_74 : decode cX9_count 74 = .ok (.getfield 71, 3) := by decide +kernel
theorem dX9_count_77 : decode cX9_count 77 = .ok (.getfield 291, 3) := by decide +kernel
theorem dX9_count_80 : decode cX9_count 80 = .ok (.ireturn, 1) := by decide +kernel
theorem dX9_count_81 : decode cX9_count 81 = .ok (.aload_n 0, 1) := by decide +kernel
theorem dX9_count_82 : decode cX9_count 82 = .ok (.getfield 25, 3) := by decide +kernel
theorem dX9_count_85 : decode cX9_count 85 = .ok (.getfield 111, 3) := by decide +kernel
theorem dX9_count_88 : decode cX9_count 88 = .ok (.ireturn, 1) := by decide +kernel
theorem dX9_count_89 : decode cX9_count 89 = .ok (.aload_n 0, 1) := by decide +kernel
theorem dX9_count_90 : decode cX9_count 90 = .ok (.getfield 10, 3) := by decide +kernel
theorem dX9_count_93 : decode cX9_count 93 = .ok (.getfield 282, 3) := by decide +kernel
theorem dX9_count_96 : decode cX9_count 96 = .ok (.ireturn, 1) := by decide +kernel
theorem dX9_count_97 : decode cX9_count 97 = .ok (.iload_n 1, 1) := by decide +kernel
theorem dX9_count_98 : decode cX9_count 98 = .ok (.bipush 10, 2) := by decide +kernel
theorem dX9_count_100 : decode cX9_count 100 = .ok (.if_icmp .lt 25, 3) := by decide +kernel
theorem dX9_count_103 : decode cX9_count 103 = .ok (.aload_n 0, 1) := by decide +kernel
theorem dX9_count_104 : decode cX9_count 104 = .ok (.iload_n 1, 1) := by decide +kernel
theorem dX9_count_105 : decode cX9_count 105 = .ok (.bipush 10, 2) := by decide +kernel
theorem dX9_count_107 : decode cX9_count 107 = .ok (.isub, 1) := by decide +kernel
theorem dX9_count_108 : decode cX9_count 108 = .ok (.invokevirtual 175, 3) := by decide +kernel
theorem dX9_count_111 : decode cX9_count 111 = .ok (.ifCond .eq 14, 3) := by decide +kernel
theorem dX9_count_114 : decode cX9_count 114 = .ok (.aload_n 0, 1) := by decide +kernel
theorem dX9_count_115 : decode cX9_count 115 = .ok (.iload_n 1, 1) := by decide +kernel
theorem dX9_count_116 : decode cX9_count 116 = .ok (.bipush 10, 2) := by decide +kernel
theorem dX9_count_118 : decode cX9_count 118 = .ok (.isub, 1) := by decide +kernel
theorem dX9_count_119 : decode cX9_count 119 = .ok (.invokevirtual 175, 3) := by decide +kernel
theorem dX9_count_122 : decode cX9_count 122 = .ok (.goto 4, 3) := by decide +kernel
theorem dX9_count_125 : decode cX9_count 125 = .ok (.iconst (-1), 1) := by decide +kernel
theorem dX9_count_126 : decode cX9_count 126 = .ok (.ireturn, 1) := by decide +kernel
set_option maxHeartbeats 4000000 in
theorem c_X9_stone (i x y s : Int32) (M : Mem) (hF : FrC M) : AM yX9_stone cX9_stone 6 (some .boolean) 1 60 glC (fun ad => [.ref (ad 0), .int i, .int x, .int y, .int s]) M (PI (fun r _ => r = bI (0 ≤ i.toInt ∧ i.toInt < 40 ∧ 0 ≤ x.toInt ∧ x.toInt ≤ 39 ∧ 1 ≤ y.toInt ∧ y.toInt ≤ 20 ∧ 0 ≤ s.toInt ∧ s.toInt ≤ 9))) := by
  refine AM.of (by decide) (fun _ => Nat.le_of_ble_eq_true rfl) (fun X ad cI cZ cB hX hR => ?_)
  show V X M [(0, .ref (ad 0)), (1, .int i), (2, .int x), (3, .int y), (4, .int s)] [] 0
  obtain ⟨hT, hS, hz, hn, hd, hr, hk, hu⟩ := hF
  refine s_iload_n (k := 1) hX dX9_stone_0 rfl rfl ?_
  refine s_callSi hX (c_X9_isStone i M) mX9_isStone lX9_82 (by decide) (by decide) rfl rfl (Nat.le_of_ble_eq_true rfl) dX9_stone_1 (fun r1 M_1 hp1 => ?_)
  obtain ⟨rfl, h2⟩ := hp1
  subst h2
  refine s_if_eq (tgt := 27) hX dX9_stone_4 (by decide) (fun c4 => ?_) (fun c4 => ?_)
  · replace c4 := bI_eq c4
    refine s_iconst (v := (nI 0)) hX dX9_stone_27 (by decide) ?_
    exact s_zret hX hR dX9_stone_28 (by first | decide | assumption) (bI_f (by omega))
  · replace c4 := bI_ne c4
    refine s_iload_n (k := 2) hX dX9_stone_7 rfl rfl ?_
    refine s_iload_n (k := 3) hX dX9_stone_8 rfl rfl ?_
    refine s_callSi hX (c_X9_isPlace x y M) mX9_isPlace lX9_86 (by decide) (by decide) rfl rfl (Nat.le_of_ble_eq_true rfl) dX9_stone_9 (fun r9 M_2 hp9 => ?_)
    obtain ⟨rfl, h2⟩ := hp9
    subst h2
    refine s_if_eq (tgt := 27) hX dX9_stone_12 (by decide) (fun c12 => ?_) (fun c12 => ?_)
    · replace c12 := bI_eq c12
      refine s_iconst (v := (nI 0)) hX dX9_stone_27 (by decide) ?_
      exact s_zret hX hR dX9_stone_28 (by first | decide | assumption) (bI_f (by omega))
    · replace c12 := bI_ne c12
      refine s_iload (k := 4) hX dX9_stone_15 rfl ?_
      refine s_if_lt (tgt := 27) hX dX9_stone_17 (by decide) (fun c17 => ?_) (fun c17 => ?_)
      · replace c17 := z_lt.mp c17
        refine s_iconst (v := (nI 0)) hX dX9_stone_27 (by decide) ?_
        exact s_zret hX hR dX9_stone_28 (by first | decide | assumption) (bI_f (by omega))
      · replace c17 := mt z_lt.mpr c17
        refine s_iload (k := 4) hX dX9_stone_20 rfl ?_
        refine s_bipush (v := (nI 9)) hX dX9_stone_22 (by decide) ?_
        refine s_icmp_le (tgt := 29) hX dX9_stone_24 (by decide) (fun c24 => ?_) (fun c24 => ?_)
        · replace c24 := (q_le (by omega)).mp c24
          refine s_aload_n (k := 0) hX dX9_stone_29 rfl rfl ?_
          refine s_get hX fX9_10 oC0 rfl dX9_stone_30 ?_
          refine s_iload_n (k := 2) hX dX9_stone_33 rfl rfl ?_
          refine s_iload_n (k := 3) hX dX9_stone_34 rfl rfl ?_
          refine s_callVi hX (c_X2_stoneAt 1 (Or.inl rfl) x y M hT) mX2_stoneAt lX9_90 (by decide) (by decide) oC1 rfl rfl rfl rfl rfl (Nat.le_of_ble_eq_true rfl) dX9_stone_35 (fun r35 M_3 hp35 => ?_)
          obtain ⟨rfl, h2⟩ := hp35
          subst h2
          refine s_istore (lv' := [(0, .ref (ad 0)), (1, .int i), (2, .int x), (3, .int y), (4, .int s), (5, .int (-1))]) hX dX9_stone_38 (by decide) rfl ?_
          refine s_iload (k := 5) hX dX9_stone_40 rfl ?_
          refine s_iconst (v := (-1)) hX dX9_stone_42 (by decide) ?_
          refine s_icmp_eq (tgt := 54) hX dX9_stone_43 (by decide) (fun c43 => ?_) (fun c43 => ?_)
          · refine s_aload_n (k := 0) hX dX9_stone_54 rfl rfl ?_
            refine s_get hX fX9_10 oC0 rfl dX9_stone_55 ?_
            refine s_iload_n (k := 1) hX dX9_stone_58 rfl rfl ?_
            refine s_iload_n (k := 2) hX dX9_stone_59 rfl rfl ?_
            refine s_iload_n (k := 3) hX dX9_stone_60 rfl rfl ?_
            refine s_iload (k := 4) hX dX9_stone_61 rfl ?_
            refine s_iconst (v := (nI 0)) hX dX9_stone_63 (by decide) ?_
            refine s_callVv hX (c_X2_lay 1 (Or.inl rfl) i x y s (nI 0) M) mX2_lay lX9_94 (by decide) (by decide) oC1 rfl rfl rfl rfl rfl (Nat.le_of_ble_eq_true rfl) dX9_stone_64 (fun M_5 hp64 => ?_)
            refine s_iconst (v := (nI 1)) hX dX9_stone_67 (by decide) ?_
            exact s_zret hX hR dX9_stone_68 (by first | decide | assumption) (bI_t (by omega))
          · first | exact absurd (by decide) c43 | exact absurd c43 (by decide)
        · replace c24 := mt (q_le (by omega)).mpr c24
          refine s_iconst (v := (nI 0)) hX dX9_stone_27 (by decide) ?_
          exact s_zret hX hR dX9_stone_28 (by first | decide | assumption) (bI_f (by omega))
set_option maxHeartbeats 4000000 in
theorem c_X9_take (i : Int32) (M : Mem) (hF : FrC M) : AM yX9_take cX9_take 2 (some .boolean) 1 60 glC (fun ad => [.ref (ad 0), .int i]) M (PI (fun r _ => r = nI 0)) := by
  refine AM.of (by decide) (fun _ => Nat.le_of_ble_eq_true rfl) (fun X ad cI cZ cB hX hR => ?_)
  show V X M [(0, .ref (ad 0)), (1, .int i)] [] 0
  obtain ⟨hT, hS, hz, hn, hd, hr, hk, hu⟩ := hF
  refine s_aload_n (k := 0) hX dX9_take_0 rfl rfl ?_
  refine s_get hX fX9_10 oC0 rfl dX9_take_1 ?_
  refine s_iload_n (k := 1) hX dX9_take_4 rfl rfl ?_
  refine s_callVi hX (c_X2_isTold 1 (Or.inl rfl) i M hT) mX2_isTold lX9_98 (by decide) (by decide) oC1 rfl rfl rfl rfl rfl (Nat.le_of_ble_eq_true rfl) dX9_take_5 (fun r5 M_1 hp5 => ?_)
  obtain ⟨rfl, h2⟩ := hp5
  subst h2
  refine s_if_ne (tgt := 13) hX dX9_take_8 (by decide) (fun c8 => ?_) (fun c8 => ?_)
  · first | exact absurd (by decide) c8 | exact absurd c8 (by decide)
  · refine s_iconst (v := (nI 0)) hX dX9_take_11 (by decide) ?_
    exact s_zret hX hR dX9_take_12 (by first | decide | assumption) rfl
set_option maxHeartbeats 4000000 in
theorem c_X9_under (i u : Int32) (M : Mem) (hF : FrC M) : AM yX9_under cX9_under 3 (some .boolean) 1 60 glC (fun ad => [.ref (ad 0), .int i, .int u]) M (PI (fun r _ => r = nI 0)) := by
  refine AM.of (by decide) (fun _ => Nat.le_of_ble_eq_true rfl) (fun X ad cI cZ cB hX hR => ?_)
  show V X M [(0, .ref (ad 0)), (1, .int i), (2, .int u)] [] 0
  obtain ⟨hT, hS, hz, hn, hd, hr, hk, hu⟩ := hF
  refine s_aload_n (k := 0) hX dX9_under_0 rfl rfl ?_
  refine s_get hX fX9_10 oC0 rfl dX9_under_1 ?_
  refine s_iload_n (k := 1) hX dX9_under_4 rfl rfl ?_
  refine s_callVi hX (c_X2_isTold 1 (Or.inl rfl) i M hT) mX2_isTold lX9_98 (by decide) (by decide) oC1 rfl rfl rfl rfl rfl (Nat.le_of_ble_eq_true rfl) dX9_under_5 (fun r5 M_1 hp5 => ?_)
  obtain ⟨rfl, h2⟩ := hp5
  subst h2
  refine s_if_ne (tgt := 13) hX dX9_under_8 (by decide) (fun c8 => ?_) (fun c8 => ?_)
  · first | exact absurd (by decide) c8 | exact absurd c8 (by decide)
  · refine s_iconst (v := (nI 0)) hX dX9_under_11 (by decide) ?_
    exact s_zret hX hR dX9_under_12 (by first | decide | assumption) rfl
set_option maxHeartbeats 4000000 in
theorem c_X9_person (p s : Int32) (M : Mem) (hF : FrC M) : AM yX9_person cX9_person 3 (some .boolean) 1 60 glC (fun ad => [.ref (ad 0), .int p, .int s]) M (PI (fun r _ => r = bI (0 ≤ p.toInt ∧ p.toInt < 8 ∧ 1 ≤ s.toInt ∧ s.toInt ≤ 30))) := by
  refine AM.of (by decide) (fun _ => Nat.le_of_ble_eq_true rfl) (fun X ad cI cZ cB hX hR => ?_)
  show V X M [(0, .ref (ad 0)), (1, .int p), (2, .int s)] [] 0
  obtain ⟨hT, hS, hz, hn, hd, hr, hk, hu⟩ := hF
  refine s_iload_n (k := 1) hX dX9_person_0 rfl rfl ?_
  refine s_if_lt (tgt := 17) hX dX9_person_1 (by decide) (fun c1 => ?_) (fun c1 => ?_)
  · replace c1 := z_lt.mp c1
    refine s_iconst (v := (nI 0)) hX dX9_person_17 (by decide) ?_
    exact s_zret hX hR dX9_person_18 (by first | decide | assumption) (bI_f (by omega))
  · replace c1 := mt z_lt.mpr c1
    refine s_iload_n (k := 1) hX dX9_person_4 rfl rfl ?_
    refine s_bipush (v := (nI 8)) hX dX9_person_5 (by decide) ?_
    refine s_icmp_ge (tgt := 17) hX dX9_person_7 (by decide) (fun c7 => ?_) (fun c7 => ?_)
    · replace c7 := (q_ge (by omega)).mp c7
      refine s_iconst (v := (nI 0)) hX dX9_person_17 (by decide) ?_
      exact s_zret hX hR dX9_person_18 (by first | decide | assumption) (bI_f (by omega))
    · replace c7 := mt (q_ge (by omega)).mpr c7
      refine s_iload_n (k := 2) hX dX9_person_10 rfl rfl ?_
      refine s_callSi hX (c_X9_isStride s M) mX9_isStride lX9_108 (by decide) (by decide) rfl rfl (Nat.le_of_ble_eq_true rfl) dX9_person_11 (fun r11 M_1 hp11 => ?_)
      obtain ⟨rfl, h2⟩ := hp11
      subst h2
      refine s_if_ne (tgt := 19) hX dX9_person_14 (by decide) (fun c14 => ?_) (fun c14 => ?_)
      · replace c14 := bI_ne c14
        refine s_aload_n (k := 0) hX dX9_person_19 rfl rfl ?_
        refine s_get hX fX9_64 oC0 rfl dX9_person_20 ?_
        refine s_iload_n (k := 1) hX dX9_person_23 rfl rfl ?_
        refine s_iload_n (k := 2) hX dX9_person_24 rfl rfl ?_
        refine s_iast hX aC43 (vp_in_iff.mpr (by omega)) dX9_person_25 ?_
        refine s_mem (fun M_2 eM_2 => ?_)
        refine s_iconst (v := (nI 1)) hX dX9_person_26 (by decide) ?_
        exact s_zret hX hR dX9_person_27 (by first | decide | assumption) (bI_t (by omega))
      · replace c14 := bI_eq c14
        refine s_iconst (v := (nI 0)) hX dX9_person_17 (by decide) ?_
        exact s_zret hX hR dX9_person_18 (by first | decide | assumption) (bI_f (by omega))
set_option maxHeartbeats 4000000 in
theorem c_X9_feed (a b c d e : Int32) (M : Mem) (hF : FrC M) : AM yX9_feed cX9_feed 6 (some .int) 1 60 glC (fun ad => [.ref (ad 0), .int a, .int b, .int c, .int d, .int e]) M (PI (fun r _ => r = nI 20)) := by
  refine AM.of (by decide) (fun _ => Nat.le_of_ble_eq_true rfl) (fun X ad cI cZ cB hX hR => ?_)
  show V X M [(0, .ref (ad 0)), (1, .int a), (2, .int b), (3, .int c), (4, .int d), (5, .int e)] [] 0
  obtain ⟨hT, hS, hz, hn, hd, hr, hk, hu⟩ := hF
  refine s_aload_n (k := 0) hX dX9_feed_0 rfl rfl ?_
  refine s_get hX fX9_25 oC0 rfl dX9_feed_1 ?_
  refine s_get hX fX9_111 oC19 rfl dX9_feed_4 ?_
  refine s_top (y := nI 0) (hz) ?_
  refine s_bipush (v := (nI 20)) hX dX9_feed_7 (by decide) ?_
  refine s_iadd hX dX9_feed_9 ?_
  refine s_top (y := nI 20) (by decide) ?_
  refine s_sipush (v := (nI 260)) hX dX9_feed_10 (by decide) ?_
  refine s_icmp_le (tgt := 18) hX dX9_feed_13 (by decide) (fun c13 => ?_) (fun c13 => ?_)
  · refine s_aload_n (k := 0) hX dX9_feed_18 rfl rfl ?_
    refine s_get hX fX9_25 oC0 rfl dX9_feed_19 ?_
    refine s_iload_n (k := 1) hX dX9_feed_22 rfl rfl ?_
    refine s_callVv hX (c_X7_append a M 0 hz (by decide)) mX7_append lX9_115 (by decide) (by decide) oC19 rfl rfl rfl rfl rfl (Nat.le_of_ble_eq_true rfl) dX9_feed_23 (fun M_1 hp23 => ?_)
    have hz4 := hp23
    refine s_aload_n (k := 0) hX dX9_feed_26 rfl rfl ?_
    refine s_get hX fX9_25 oC0 rfl dX9_feed_27 ?_
    refine s_iload_n (k := 2) hX dX9_feed_30 rfl rfl ?_
    refine s_callVv hX (c_X7_append b M_1 4 hz4 (by decide)) mX7_append lX9_115 (by decide) (by decide) oC19 rfl rfl rfl rfl rfl (Nat.le_of_ble_eq_true rfl) dX9_feed_31 (fun M_2 hp31 => ?_)
    have hz8 := hp31
    refine s_aload_n (k := 0) hX dX9_feed_34 rfl rfl ?_
    refine s_get hX fX9_25 oC0 rfl dX9_feed_35 ?_
    refine s_iload_n (k := 3) hX dX9_feed_38 rfl rfl ?_
    refine s_callVv hX (c_X7_append c M_2 8 hz8 (by decide)) mX7_append lX9_115 (by decide) (by decide) oC19 rfl rfl rfl rfl rfl (Nat.le_of_ble_eq_true rfl) dX9_feed_39 (fun M_3 hp39 => ?_)
    have hz12 := hp39
    refine s_aload_n (k := 0) hX dX9_feed_42 rfl rfl ?_
    refine s_get hX fX9_25 oC0 rfl dX9_feed_43 ?_
    refine s_iload (k := 4) hX dX9_feed_46 rfl ?_
    refine s_callVv hX (c_X7_append d M_3 12 hz12 (by decide)) mX7_append lX9_115 (by decide) (by decide) oC19 rfl rfl rfl rfl rfl (Nat.le_of_ble_eq_true rfl) dX9_feed_48 (fun M_4 hp48 => ?_)
    have hz16 := hp48
    refine s_aload_n (k := 0) hX dX9_feed_51 rfl rfl ?_
    refine s_get hX fX9_25 oC0 rfl dX9_feed_52 ?_
    refine s_iload (k := 5) hX dX9_feed_55 rfl ?_
    refine s_callVv hX (c_X7_append e M_4 16 hz16 (by decide)) mX7_append lX9_115 (by decide) (by decide) oC19 rfl rfl rfl rfl rfl (Nat.le_of_ble_eq_true rfl) dX9_feed_57 (fun M_5 hp57 => ?_)
    have hz20 := hp57
    refine s_aload_n (k := 0) hX dX9_feed_60 rfl rfl ?_
    refine s_get hX fX9_25 oC0 rfl dX9_feed_61 ?_
    refine s_get hX fX9_111 oC19 rfl dX9_feed_64 ?_
    exact s_iret hX hR dX9_feed_67 hz20
  · first | exact absurd (by decide) c13 | exact absurd c13 (by decide)
set_option maxHeartbeats 4000000 in
theorem c_X9_law (n : Int32) (M : Mem) (hF : FrC M) : AM yX9_law cX9_law 4 (some .int) 1 60 glC (fun ad => [.ref (ad 0), .int n]) M (PI (fun r _ => r = -1)) := by
  refine AM.of (by decide) (fun _ => Nat.le_of_ble_eq_true rfl) (fun X ad cI cZ cB hX hR => ?_)
  show V X M [(0, .ref (ad 0)), (1, .int n)] [] 0
  obtain ⟨hT, hS, hz, hn, hd, hr, hk, hu⟩ := hF
  have hz0 : (M 19 1).toInt = 0 := by rw [hz]; decide
  refine s_aload_n (k := 0) hX dX9_law_0 rfl rfl ?_
  refine s_get hX fX9_25 oC0 rfl dX9_law_1 ?_
  refine s_iload_n (k := 1) hX dX9_law_4 rfl rfl ?_
  refine s_iconst (v := (nI 1)) hX dX9_law_5 (by decide) ?_
  refine s_sipush (v := (nI 240)) hX dX9_law_6 (by decide) ?_
  refine s_callVi hX (c_X7_holds n (nI 1) (nI 240) M) mX7_holds lX9_119 (by decide) (by decide) oC19 rfl rfl rfl rfl rfl (Nat.le_of_ble_eq_true rfl) dX9_law_9 (fun r9 M_1 hp9 => ?_)
  obtain ⟨rfl, h2⟩ := hp9
  subst h2
  refine s_if_ne (tgt := 17) hX dX9_law_12 (by decide) (fun c12 => ?_) (fun c12 => ?_)
  · replace c12 := bI_ne c12
    rw [hz0] at c12; have := nI1; omega
  · replace c12 := bI_eq c12
    refine s_iconst (v := (-1)) hX dX9_law_15 (by decide) ?_
    exact s_iret hX hR dX9_law_16 rfl
set_option maxHeartbeats 4000000 in
theorem c_X9_notebook (n : Int32) (M : Mem) (hF : FrC M) : AM yX9_notebook cX9_notebook 3 (some .int) 1 60 glC (fun ad => [.ref (ad 0), .int n]) M (PI (fun r _ => r = -1)) := by
  refine AM.of (by decide) (fun _ => Nat.le_of_ble_eq_true rfl) (fun X ad cI cZ cB hX hR => ?_)
  show V X M [(0, .ref (ad 0)), (1, .int n)] [] 0
  obtain ⟨hT, hS, hz, hn, hd, hr, hk, hu⟩ := hF
  have hz0 : (M 19 1).toInt = 0 := by rw [hz]; decide
  refine s_aload_n (k := 0) hX dX9_notebook_0 rfl rfl ?_
  refine s_get hX fX9_25 oC0 rfl dX9_notebook_1 ?_
  refine s_iload_n (k := 1) hX dX9_notebook_4 rfl rfl ?_
  refine s_iconst (v := (nI 1)) hX dX9_notebook_5 (by decide) ?_
  refine s_sipush (v := (nI 200)) hX dX9_notebook_6 (by decide) ?_
  refine s_callVi hX (c_X7_holds n (nI 1) (nI 200) M) mX7_holds lX9_119 (by decide) (by decide) oC19 rfl rfl rfl rfl rfl (Nat.le_of_ble_eq_true rfl) dX9_notebook_9 (fun r9 M_1 hp9 => ?_)
  obtain ⟨rfl, h2⟩ := hp9
  subst h2
  refine s_if_ne (tgt := 17) hX dX9_notebook_12 (by decide) (fun c12 => ?_) (fun c12 => ?_)
  · replace c12 := bI_ne c12
    rw [hz0] at c12; have := nI1; omega
  · replace c12 := bI_eq c12
    refine s_iconst (v := (-1)) hX dX9_notebook_15 (by decide) ?_
    exact s_iret hX hR dX9_notebook_16 rfl
set_option maxHeartbeats 4000000 in
theorem c_X9_nights (n : Int32) (M : Mem) (hF : FrC M) : AM yX9_nights cX9_nights 2 (some .int) 1 60 glC (fun ad => [.ref (ad 0), .int n]) M (PI (fun r _ => r = if 1 ≤ n.toInt ∧ n.toInt ≤ 60 then nI 0 else -1)) := by
  refine AM.of (by decide) (fun _ => Nat.le_of_ble_eq_true rfl) (fun X ad cI cZ cB hX hR => ?_)
  show V X M [(0, .ref (ad 0)), (1, .int n)] [] 0
  obtain ⟨hT, hS, hz, hn, hd, hr, hk, hu⟩ := hF
  refine s_iload_n (k := 1) hX dX9_nights_0 rfl rfl ?_
  refine s_callSi hX (c_X9_isNights n M) mX9_isNights lX9_138 (by decide) (by decide) rfl rfl (Nat.le_of_ble_eq_true rfl) dX9_nights_1 (fun r1 M_1 hp1 => ?_)
  obtain ⟨rfl, h2⟩ := hp1
  subst h2
  refine s_if_ne (tgt := 9) hX dX9_nights_4 (by decide) (fun c4 => ?_) (fun c4 => ?_)
  · replace c4 := bI_ne c4
    obtain ⟨m, hm, rfl⟩ := ixi (x := n) (n := 61) (by omega) (by omega)
    refine s_aload_n (k := 0) hX dX9_nights_9 rfl rfl ?_
    refine s_get hX fX9_32 oC0 rfl dX9_nights_10 ?_
    refine s_aload_n (k := 0) hX dX9_nights_13 rfl rfl ?_
    refine s_get hX fX9_10 oC0 rfl dX9_nights_14 ?_
    refine s_aload_n (k := 0) hX dX9_nights_17 rfl rfl ?_
    refine s_get hX fX9_71 oC0 rfl dX9_nights_18 ?_
    refine s_topr (b := ad 44) (by rw [hr]; rfl) ?_
    refine s_iload_n (k := 1) hX dX9_nights_21 rfl rfl ?_
    refine s_callVv hX (c_X5_pass 1 (Or.inl rfl) m (by omega) M hT) mX5_pass lX9_141 (by decide) (by decide) oC21 rfl rfl rfl rfl rfl (Nat.le_of_ble_eq_true rfl) dX9_nights_22 (fun M_2 hp22 => ?_)
    obtain ⟨hfp, hp1, hp2⟩ := hp22
    refine s_aload_n (k := 0) hX dX9_nights_25 rfl rfl ?_
    refine s_get hX fX9_32 oC0 rfl dX9_nights_26 ?_
    refine s_get hX fX9_145 oC21 rfl dX9_nights_29 ?_
    exact s_iret hX hR dX9_nights_32 (by rw [if_pos (by omega)]; exact hp1)
  · replace c4 := bI_eq c4
    refine s_iconst (v := (-1)) hX dX9_nights_7 (by decide) ?_
    exact s_iret hX hR dX9_nights_8 (by rw [if_neg (by omega)])
set_option maxHeartbeats 4000000 in
theorem c_X9_tried (n what : Int32) (M : Mem) (hF : FrC M) : AM yX9_tried cX9_tried 5 (some .int) 2 60 glC (fun ad => [.ref (ad 0), .int n, .int what]) M (PI (fun r _ => r = if (1 ≤ n.toInt ∧ n.toInt ≤ 60) ∧ 0 ≤ what.toInt ∧ what.toInt ≤ 3 then nI 0 else -100000)) := by
  refine AM.of (by decide) (fun _ => Nat.le_of_ble_eq_true rfl) (fun X ad cI cZ cB hX hR => ?_)
  show V X M [(0, .ref (ad 0)), (1, .int n), (2, .int what)] [] 0
  obtain ⟨hT, hS, hz, hn, hd, hr, hk, hu⟩ := hF
  have jn55 : V X M [(0, .ref (ad 0)), (1, .int n), (2, .int what), (3, .int (nI 0)), (4, .int (nI 0))] [] 55 := by
    refine s_iload_n (k := 1) hX dX9_tried_55 rfl rfl ?_
    refine s_callSi hX (c_X9_isNights n M) mX9_isNights lX9_138 (by decide) (by decide) rfl rfl (Nat.le_of_ble_eq_true rfl) dX9_tried_56 (fun r56 M_1 hp56 => ?_)
    obtain ⟨rfl, h2⟩ := hp56
    subst h2
    refine s_if_eq (tgt := 80) hX dX9_tried_59 (by decide) (fun c59 => ?_) (fun c59 => ?_)
    · replace c59 := bI_eq c59
      refine s_ldc (v := (-100000)) hX kX9_148 dX9_tried_80 ?_
      exact s_iret hX hR dX9_tried_82 (by rw [if_neg (by omega)])
    · replace c59 := bI_ne c59
      refine s_iload_n (k := 2) hX dX9_tried_62 rfl rfl ?_
      refine s_if_lt (tgt := 71) hX dX9_tried_63 (by decide) (fun c63 => ?_) (fun c63 => ?_)
      · replace c63 := z_lt.mp c63
        refine s_iload_n (k := 3) hX dX9_tried_71 rfl rfl ?_
        refine s_if_ne (tgt := 83) hX dX9_tried_72 (by decide) (fun c72 => ?_) (fun c72 => ?_)
        · first | exact absurd (by decide) c72 | exact absurd c72 (by decide)
        · refine s_iload (k := 4) hX dX9_tried_75 rfl ?_
          refine s_if_ne (tgt := 83) hX dX9_tried_77 (by decide) (fun c77 => ?_) (fun c77 => ?_)
          · first | exact absurd (by decide) c77 | exact absurd c77 (by decide)
          · refine s_ldc (v := (-100000)) hX kX9_148 dX9_tried_80 ?_
            exact s_iret hX hR dX9_tried_82 (by rw [if_neg (by omega)])
      · replace c63 := mt z_lt.mpr c63
        refine s_iload_n (k := 2) hX dX9_tried_66 rfl rfl ?_
        refine s_iconst (v := (nI 3)) hX dX9_tried_67 (by decide) ?_
        refine s_icmp_le (tgt := 83) hX dX9_tried_68 (by decide) (fun c68 => ?_) (fun c68 => ?_)
        · replace c68 := (q_le (by omega)).mp c68
          obtain ⟨m, hm, rfl⟩ := ixi (x := n) (n := 61) (by omega) (by omega)
          refine s_aload_n (k := 0) hX dX9_tried_83 rfl rfl ?_
          refine s_get hX fX9_19 oC0 rfl dX9_tried_84 ?_
          refine s_aload_n (k := 0) hX dX9_tried_87 rfl rfl ?_
          refine s_get hX fX9_10 oC0 rfl dX9_tried_88 ?_
          refine s_callVv hX (c_X2_copyAll 13 (Or.inr (Or.inr rfl)) 1 (Or.inl rfl) M (by decide)) mX2_copyAll lX9_149 (by decide) (by decide) oC13 rfl rfl rfl rfl rfl (Nat.le_of_ble_eq_true rfl) dX9_tried_91 (fun M_2 hp91 => ?_)
          obtain ⟨hfc, htc⟩ := hp91
          refine s_aload_n (k := 0) hX dX9_tried_94 rfl rfl ?_
          refine s_get hX fX9_32 oC0 rfl dX9_tried_95 ?_
          refine s_aload_n (k := 0) hX dX9_tried_98 rfl rfl ?_
          refine s_get hX fX9_19 oC0 rfl dX9_tried_99 ?_
          refine s_aload_n (k := 0) hX dX9_tried_102 rfl rfl ?_
          refine s_get hX fX9_71 oC0 rfl dX9_tried_103 ?_
          refine s_topr (b := ad 44) (by rw [hfc _ _ (by decide), hr]; rfl) ?_
          refine s_iload_n (k := 1) hX dX9_tried_106 rfl rfl ?_
          refine s_callVv hX (c_X5_pass 13 (Or.inr (Or.inr rfl)) m (by omega) M_2 (fun j hj => (htc j hj).trans (by rw [hT j hj]; exact bool0))) mX5_pass lX9_141 (by decide) (by decide) oC21 rfl rfl rfl rfl rfl (Nat.le_of_ble_eq_true rfl) dX9_tried_107 (fun M_3 hp107 => ?_)
          obtain ⟨hfp, hp1, hp2⟩ := hp107
          have hT13 : ∀ j, j < 40 → M_3 (13 + 4) j = 0 := fun j hj => (hfp _ j (by decide) (by decide)).trans ((htc j hj).trans (by rw [hT j hj]; exact bool0))
          have hT1 : ∀ j, j < 40 → M_3 (1 + 4) j = 0 := fun j hj => (hfp _ j (by decide) (by decide)).trans ((hfc _ j (by decide)).trans (hT j hj))
          refine s_iload_n (k := 3) hX dX9_tried_110 rfl rfl ?_
          refine s_if_eq (tgt := 127) hX dX9_tried_111 (by decide) (fun c111 => ?_) (fun c111 => ?_)
          · refine s_iload (k := 4) hX dX9_tried_127 rfl ?_
            refine s_if_eq (tgt := 146) hX dX9_tried_129 (by decide) (fun c129 => ?_) (fun c129 => ?_)
            · refine s_iload_n (k := 2) hX dX9_tried_146 rfl rfl ?_
              by_cases sw147 : what.toInt < 0 ∨ 2 < what.toInt
              · refine s_tabOut (tgt := 196) hX dX9_tried_147 sw147 (by decide) ?_
                refine s_aload_n (k := 0) hX dX9_tried_196 rfl rfl ?_
                refine s_get hX fX9_19 oC0 rfl dX9_tried_197 ?_
                refine s_callVi hX (c_X2_sumOfX 13 (Or.inr (Or.inr rfl)) M_3 hT13) mX2_sumOfX lX9_165 (by decide) (by decide) oC13 rfl rfl rfl rfl rfl (Nat.le_of_ble_eq_true rfl) dX9_tried_200 (fun r200 M_4 hp200 => ?_)
                obtain ⟨rfl, h2⟩ := hp200
                subst h2
                refine s_aload_n (k := 0) hX dX9_tried_203 rfl rfl ?_
                refine s_get hX fX9_10 oC0 rfl dX9_tried_204 ?_
                refine s_callVi hX (c_X2_sumOfX 1 (Or.inl rfl) M_3 hT1) mX2_sumOfX lX9_165 (by decide) (by decide) oC1 rfl rfl rfl rfl rfl (Nat.le_of_ble_eq_true rfl) dX9_tried_207 (fun r207 M_5 hp207 => ?_)
                obtain ⟨rfl, h2⟩ := hp207
                subst h2
                refine s_isub hX dX9_tried_210 ?_
                exact s_iret hX hR dX9_tried_211 (by rw [if_pos (by omega)]; decide)
              · obtain ⟨tv, htv, rfl⟩ := ixi (x := what) (n := 3) (by omega) (by omega)
                have htw : tv = 0 ∨ tv = 1 ∨ tv = 2 := by omega
                rcases htw with rfl | rfl | rfl
                · refine s_tabIn (tgt := 172) (off := 25) hX dX9_tried_147 (by decide) (by decide) (by decide) (by decide) ?_
                  refine s_aload_n (k := 0) hX dX9_tried_172 rfl rfl ?_
                  refine s_get hX fX9_32 oC0 rfl dX9_tried_173 ?_
                  refine s_get hX fX9_145 oC21 rfl dX9_tried_176 ?_
                  exact s_iret hX hR dX9_tried_179 (by rw [if_pos (by omega)]; exact hp1)
                · refine s_tabIn (tgt := 180) (off := 33) hX dX9_tried_147 (by decide) (by decide) (by decide) (by decide) ?_
                  refine s_aload_n (k := 0) hX dX9_tried_180 rfl rfl ?_
                  refine s_get hX fX9_32 oC0 rfl dX9_tried_181 ?_
                  refine s_get hX fX9_158 oC21 rfl dX9_tried_184 ?_
                  exact s_iret hX hR dX9_tried_187 (by rw [if_pos (by omega)]; exact hp2)
                · refine s_tabIn (tgt := 188) (off := 41) hX dX9_tried_147 (by decide) (by decide) (by decide) (by decide) ?_
                  refine s_aload_n (k := 0) hX dX9_tried_188 rfl rfl ?_
                  refine s_get hX fX9_19 oC0 rfl dX9_tried_189 ?_
                  refine s_callVi hX (c_X2_countSunk 13 (Or.inr (Or.inr rfl)) M_3 hT13) mX2_countSunk lX9_161 (by decide) (by decide) oC13 rfl rfl rfl rfl rfl (Nat.le_of_ble_eq_true rfl) dX9_tried_192 (fun r192 M_6 hp192 => ?_)
                  obtain ⟨rfl, h2⟩ := hp192
                  subst h2
                  exact s_iret hX hR dX9_tried_195 (by rw [if_pos (by omega)])
            · first | exact absurd (by decide) c129 | exact absurd c129 (by decide)
          · first | exact absurd (by decide) c111 | exact absurd c111 (by decide)
        · replace c68 := mt (q_le (by omega)).mpr c68
          refine s_iload_n (k := 3) hX dX9_tried_71 rfl rfl ?_
          refine s_if_ne (tgt := 83) hX dX9_tried_72 (by decide) (fun c72 => ?_) (fun c72 => ?_)
          · first | exact absurd (by decide) c72 | exact absurd c72 (by decide)
          · refine s_iload (k := 4) hX dX9_tried_75 rfl ?_
            refine s_if_ne (tgt := 83) hX dX9_tried_77 (by decide) (fun c77 => ?_) (fun c77 => ?_)
            · first | exact absurd (by decide) c77 | exact absurd c77 (by decide)
            · refine s_ldc (v := (-100000)) hX kX9_148 dX9_tried_80 ?_
              exact s_iret hX hR dX9_tried_82 (by rw [if_neg (by omega)])
  have jn26 : V X M [(0, .ref (ad 0)), (1, .int n), (2, .int what), (3, .int (nI 0))] [] 26 := by
    refine s_iload_n (k := 2) hX dX9_tried_26 rfl rfl ?_
    refine s_sipush (v := (nI 200)) hX dX9_tried_27 (by decide) ?_
    refine s_icmp_lt (tgt := 52) hX dX9_tried_30 (by decide) (fun c30 => ?_) (fun c30 => ?_)
    · replace c30 := (q_lt (by omega)).mp c30
      refine s_iconst (v := (nI 0)) hX dX9_tried_52 (by decide) ?_
      refine s_istore (lv' := [(0, .ref (ad 0)), (1, .int n), (2, .int what), (3, .int (nI 0)), (4, .int (nI 0))]) hX dX9_tried_53 (by decide) rfl ?_
      exact jn55
    · replace c30 := mt (q_lt (by omega)).mpr c30
      refine s_aload_n (k := 0) hX dX9_tried_33 rfl rfl ?_
      refine s_get hX fX9_10 oC0 rfl dX9_tried_34 ?_
      refine s_iload_n (k := 2) hX dX9_tried_37 rfl rfl ?_
      refine s_sipush (v := (nI 200)) hX dX9_tried_38 (by decide) ?_
      refine s_isub hX dX9_tried_41 ?_
      refine s_callVi hX (c_X2_isTold 1 (Or.inl rfl) (what - nI 200) M hT) mX2_isTold lX9_98 (by decide) (by decide) oC1 rfl rfl rfl rfl rfl (Nat.le_of_ble_eq_true rfl) dX9_tried_42 (fun r42 M_8 hp42 => ?_)
      obtain ⟨rfl, h2⟩ := hp42
      subst h2
      refine s_if_eq (tgt := 52) hX dX9_tried_45 (by decide) (fun c45 => ?_) (fun c45 => ?_)
      · refine s_iconst (v := (nI 0)) hX dX9_tried_52 (by decide) ?_
        refine s_istore (lv' := [(0, .ref (ad 0)), (1, .int n), (2, .int what), (3, .int (nI 0)), (4, .int (nI 0))]) hX dX9_tried_53 (by decide) rfl ?_
        exact jn55
      · first | exact absurd (by decide) c45 | exact absurd c45 (by decide)
  refine s_iload_n (k := 2) hX dX9_tried_0 rfl rfl ?_
  refine s_bipush (v := (nI 100)) hX dX9_tried_1 (by decide) ?_
  refine s_icmp_lt (tgt := 24) hX dX9_tried_3 (by decide) (fun c3 => ?_) (fun c3 => ?_)
  · replace c3 := (q_lt (by omega)).mp c3
    refine s_iconst (v := (nI 0)) hX dX9_tried_24 (by decide) ?_
    refine s_istore_n (lv' := [(0, .ref (ad 0)), (1, .int n), (2, .int what), (3, .int (nI 0))]) hX dX9_tried_25 rfl (by decide) rfl ?_
    exact jn26
  · replace c3 := mt (q_lt (by omega)).mpr c3
    refine s_aload_n (k := 0) hX dX9_tried_6 rfl rfl ?_
    refine s_get hX fX9_10 oC0 rfl dX9_tried_7 ?_
    refine s_iload_n (k := 2) hX dX9_tried_10 rfl rfl ?_
    refine s_bipush (v := (nI 100)) hX dX9_tried_11 (by decide) ?_
    refine s_isub hX dX9_tried_13 ?_
    refine s_callVi hX (c_X2_isTold 1 (Or.inl rfl) (what - nI 100) M hT) mX2_isTold lX9_98 (by decide) (by decide) oC1 rfl rfl rfl rfl rfl (Nat.le_of_ble_eq_true rfl) dX9_tried_14 (fun r14 M_11 hp14 => ?_)
    obtain ⟨rfl, h2⟩ := hp14
    subst h2
    refine s_if_eq (tgt := 24) hX dX9_tried_17 (by decide) (fun c17 => ?_) (fun c17 => ?_)
    · refine s_iconst (v := (nI 0)) hX dX9_tried_24 (by decide) ?_
      refine s_istore_n (lv' := [(0, .ref (ad 0)), (1, .int n), (2, .int what), (3, .int (nI 0))]) hX dX9_tried_25 rfl (by decide) rfl ?_
      exact jn26
    · first | exact absurd (by decide) c17 | exact absurd c17 (by decide)
set_option maxHeartbeats 4000000 in
theorem c_X9_stoneIs (i w : Int32) (M : Mem) (hF : FrC M) : AM yX9_stoneIs cX9_stoneIs 3 (some .int) 1 60 glC (fun ad => [.ref (ad 0), .int i, .int w]) M (PI (fun r _ => r = -1)) := by
  refine AM.of (by decide) (fun _ => Nat.le_of_ble_eq_true rfl) (fun X ad cI cZ cB hX hR => ?_)
  show V X M [(0, .ref (ad 0)), (1, .int i), (2, .int w)] [] 0
  obtain ⟨hT, hS, hz, hn, hd, hr, hk, hu⟩ := hF
  refine s_aload_n (k := 0) hX dX9_stoneIs_0 rfl rfl ?_
  refine s_get hX fX9_10 oC0 rfl dX9_stoneIs_1 ?_
  refine s_iload_n (k := 1) hX dX9_stoneIs_4 rfl rfl ?_
  refine s_callVi hX (c_X2_isTold 1 (Or.inl rfl) i M hT) mX2_isTold lX9_98 (by decide) (by decide) oC1 rfl rfl rfl rfl rfl (Nat.le_of_ble_eq_true rfl) dX9_stoneIs_5 (fun r5 M_1 hp5 => ?_)
  obtain ⟨rfl, h2⟩ := hp5
  subst h2
  refine s_if_ne (tgt := 13) hX dX9_stoneIs_8 (by decide) (fun c8 => ?_) (fun c8 => ?_)
  · first | exact absurd (by decide) c8 | exact absurd c8 (by decide)
  · refine s_iconst (v := (-1)) hX dX9_stoneIs_11 (by decide) ?_
    exact s_iret hX hR dX9_stoneIs_12 rfl
set_option maxHeartbeats 4000000 in
theorem c_X9_at (x y : Int32) (M : Mem) (hF : FrC M) : AM yX9_at cX9_at 4 (some .int) 1 60 glC (fun ad => [.ref (ad 0), .int x, .int y]) M (PI (fun r _ => r = if 0 ≤ x.toInt ∧ x.toInt ≤ 39 ∧ 1 ≤ y.toInt ∧ y.toInt ≤ 20 then -2 else -1)) := by
  refine AM.of (by decide) (fun _ => Nat.le_of_ble_eq_true rfl) (fun X ad cI cZ cB hX hR => ?_)
  show V X M [(0, .ref (ad 0)), (1, .int x), (2, .int y)] [] 0
  obtain ⟨hT, hS, hz, hn, hd, hr, hk, hu⟩ := hF
  refine s_iload_n (k := 1) hX dX9_at_0 rfl rfl ?_
  refine s_iload_n (k := 2) hX dX9_at_1 rfl rfl ?_
  refine s_callSi hX (c_X9_isPlace x y M) mX9_isPlace lX9_86 (by decide) (by decide) rfl rfl (Nat.le_of_ble_eq_true rfl) dX9_at_2 (fun r2 M_1 hp2 => ?_)
  obtain ⟨rfl, h2⟩ := hp2
  subst h2
  refine s_if_ne (tgt := 10) hX dX9_at_5 (by decide) (fun c5 => ?_) (fun c5 => ?_)
  · replace c5 := bI_ne c5
    refine s_aload_n (k := 0) hX dX9_at_10 rfl rfl ?_
    refine s_get hX fX9_10 oC0 rfl dX9_at_11 ?_
    refine s_iload_n (k := 1) hX dX9_at_14 rfl rfl ?_
    refine s_iload_n (k := 2) hX dX9_at_15 rfl rfl ?_
    refine s_callVi hX (c_X2_stoneAt 1 (Or.inl rfl) x y M hT) mX2_stoneAt lX9_90 (by decide) (by decide) oC1 rfl rfl rfl rfl rfl (Nat.le_of_ble_eq_true rfl) dX9_at_16 (fun r16 M_2 hp16 => ?_)
    obtain ⟨rfl, h2⟩ := hp16
    subst h2
    refine s_istore_n (lv' := [(0, .ref (ad 0)), (1, .int x), (2, .int y), (3, .int (-1))]) hX dX9_at_19 rfl (by decide) rfl ?_
    refine s_iload_n (k := 3) hX dX9_at_20 rfl rfl ?_
    refine s_iconst (v := (-1)) hX dX9_at_21 (by decide) ?_
    refine s_icmp_ne (tgt := 30) hX dX9_at_22 (by decide) (fun c22 => ?_) (fun c22 => ?_)
    · first | exact absurd (by decide) c22 | exact absurd c22 (by decide)
    · refine s_bipush (v := (-2)) hX dX9_at_25 (by decide) ?_
      refine s_goto (tgt := 31) hX dX9_at_27 (by decide) ?_
      exact s_iret hX hR dX9_at_31 (by rw [if_pos (by omega)])
  · replace c5 := bI_eq c5
    refine s_iconst (v := (-1)) hX dX9_at_8 (by decide) ?_
    exact s_iret hX hR dX9_at_9 (by rw [if_neg (by omega)])
set_option maxHeartbeats 4000000 in
theorem c_X9_cross (p w : Int32) (M : Mem) (hF : FrC M) : AM yX9_cross cX9_cross 4 (some .int) 1 60 glC (fun ad => [.ref (ad 0), .int p, .int w]) M (PI (fun r _ => r = -1)) := by
  refine AM.of (by decide) (fun _ => Nat.le_of_ble_eq_true rfl) (fun X ad cI cZ cB hX hR => ?_)
  show V X M [(0, .ref (ad 0)), (1, .int p), (2, .int w)] [] 0
  obtain ⟨hT, hS, hz, hn, hd, hr, hk, hu⟩ := hF
  refine s_aload_n (k := 0) hX dX9_cross_0 rfl rfl ?_
  refine s_iload_n (k := 1) hX dX9_cross_1 rfl rfl ?_
  refine s_callVi hX (c_X9_strideOf p M hS) mX9_strideOf lX9_175 (by decide) (by decide) oC0 rfl rfl rfl rfl rfl (Nat.le_of_ble_eq_true rfl) dX9_cross_2 (fun r2 M_1 hp2 => ?_)
  obtain ⟨rfl, h2⟩ := hp2
  subst h2
  refine s_istore_n (lv' := [(0, .ref (ad 0)), (1, .int p), (2, .int w), (3, .int (nI 0))]) hX dX9_cross_5 rfl (by decide) rfl ?_
  refine s_iload_n (k := 3) hX dX9_cross_6 rfl rfl ?_
  refine s_if_eq (tgt := 29) hX dX9_cross_7 (by decide) (fun c7 => ?_) (fun c7 => ?_)
  · refine s_iconst (v := (-1)) hX dX9_cross_29 (by decide) ?_
    exact s_iret hX hR dX9_cross_30 rfl
  · first | exact absurd (by decide) c7 | exact absurd c7 (by decide)
set_option maxHeartbeats 4000000 in
theorem c_X9_driest (p w : Int32) (M : Mem) (hF : FrC M) : AM yX9_driest cX9_driest 4 (some .int) 1 60 glC (fun ad => [.ref (ad 0), .int p, .int w]) M (PI (fun r _ => r = -1)) := by
  refine AM.of (by decide) (fun _ => Nat.le_of_ble_eq_true rfl) (fun X ad cI cZ cB hX hR => ?_)
  show V X M [(0, .ref (ad 0)), (1, .int p), (2, .int w)] [] 0
  obtain ⟨hT, hS, hz, hn, hd, hr, hk, hu⟩ := hF
  refine s_aload_n (k := 0) hX dX9_driest_0 rfl rfl ?_
  refine s_iload_n (k := 1) hX dX9_driest_1 rfl rfl ?_
  refine s_callVi hX (c_X9_strideOf p M hS) mX9_strideOf lX9_175 (by decide) (by decide) oC0 rfl rfl rfl rfl rfl (Nat.le_of_ble_eq_true rfl) dX9_driest_2 (fun r2 M_1 hp2 => ?_)
  obtain ⟨rfl, h2⟩ := hp2
  subst h2
  refine s_istore_n (lv' := [(0, .ref (ad 0)), (1, .int p), (2, .int w), (3, .int (nI 0))]) hX dX9_driest_5 rfl (by decide) rfl ?_
  refine s_iload_n (k := 3) hX dX9_driest_6 rfl rfl ?_
  refine s_if_eq (tgt := 17) hX dX9_driest_7 (by decide) (fun c7 => ?_) (fun c7 => ?_)
  · refine s_iconst (v := (-1)) hX dX9_driest_17 (by decide) ?_
    exact s_iret hX hR dX9_driest_18 rfl
  · first | exact absurd (by decide) c7 | exact absurd c7 (by decide)
set_option maxHeartbeats 4000000 in
theorem c_X9_howFar (p : Int32) (M : Mem) (hF : FrC M) : AM yX9_howFar cX9_howFar 3 (some .int) 1 60 glC (fun ad => [.ref (ad 0), .int p]) M (PI (fun r _ => r = -1)) := by
  refine AM.of (by decide) (fun _ => Nat.le_of_ble_eq_true rfl) (fun X ad cI cZ cB hX hR => ?_)
  show V X M [(0, .ref (ad 0)), (1, .int p)] [] 0
  obtain ⟨hT, hS, hz, hn, hd, hr, hk, hu⟩ := hF
  refine s_aload_n (k := 0) hX dX9_howFar_0 rfl rfl ?_
  refine s_iload_n (k := 1) hX dX9_howFar_1 rfl rfl ?_
  refine s_callVi hX (c_X9_strideOf p M hS) mX9_strideOf lX9_175 (by decide) (by decide) oC0 rfl rfl rfl rfl rfl (Nat.le_of_ble_eq_true rfl) dX9_howFar_2 (fun r2 M_1 hp2 => ?_)
  obtain ⟨rfl, h2⟩ := hp2
  subst h2
  refine s_istore_n (lv' := [(0, .ref (ad 0)), (1, .int p), (2, .int (nI 0))]) hX dX9_howFar_5 rfl (by decide) rfl ?_
  refine s_iload_n (k := 2) hX dX9_howFar_6 rfl rfl ?_
  refine s_if_ne (tgt := 14) hX dX9_howFar_7 (by decide) (fun c7 => ?_) (fun c7 => ?_)
  · first | exact absurd (by decide) c7 | exact absurd c7 (by decide)
  · refine s_iconst (v := (-1)) hX dX9_howFar_10 (by decide) ?_
    refine s_goto (tgt := 26) hX dX9_howFar_11 (by decide) ?_
    exact s_iret hX hR dX9_howFar_26 rfl
set_option maxHeartbeats 4000000 in
theorem c_X9_hold (p : Int32) (M : Mem) (hF : FrC M) : AM yX9_hold cX9_hold 3 (some .int) 1 60 glC (fun ad => [.ref (ad 0), .int p]) M (PI (fun r _ => r = -1)) := by
  refine AM.of (by decide) (fun _ => Nat.le_of_ble_eq_true rfl) (fun X ad cI cZ cB hX hR => ?_)
  show V X M [(0, .ref (ad 0)), (1, .int p)] [] 0
  obtain ⟨hT, hS, hz, hn, hd, hr, hk, hu⟩ := hF
  refine s_aload_n (k := 0) hX dX9_hold_0 rfl rfl ?_
  refine s_iload_n (k := 1) hX dX9_hold_1 rfl rfl ?_
  refine s_callVi hX (c_X9_strideOf p M hS) mX9_strideOf lX9_175 (by decide) (by decide) oC0 rfl rfl rfl rfl rfl (Nat.le_of_ble_eq_true rfl) dX9_hold_2 (fun r2 M_1 hp2 => ?_)
  obtain ⟨rfl, h2⟩ := hp2
  subst h2
  refine s_istore_n (lv' := [(0, .ref (ad 0)), (1, .int p), (2, .int (nI 0))]) hX dX9_hold_5 rfl (by decide) rfl ?_
  refine s_iload_n (k := 2) hX dX9_hold_6 rfl rfl ?_
  refine s_if_ne (tgt := 12) hX dX9_hold_7 (by decide) (fun c7 => ?_) (fun c7 => ?_)
  · first | exact absurd (by decide) c7 | exact absurd c7 (by decide)
  · refine s_iconst (v := (-1)) hX dX9_hold_10 (by decide) ?_
    exact s_iret hX hR dX9_hold_11 rfl
set_option maxHeartbeats 4000000 in
theorem c_X9_oneMore (p w : Int32) (M : Mem) (hF : FrC M) : AM yX9_oneMore cX9_oneMore 4 (some .int) 1 60 glC (fun ad => [.ref (ad 0), .int p, .int w]) M (PI (fun r _ => r = -1)) := by
  refine AM.of (by decide) (fun _ => Nat.le_of_ble_eq_true rfl) (fun X ad cI cZ cB hX hR => ?_)
  show V X M [(0, .ref (ad 0)), (1, .int p), (2, .int w)] [] 0
  obtain ⟨hT, hS, hz, hn, hd, hr, hk, hu⟩ := hF
  refine s_aload_n (k := 0) hX dX9_oneMore_0 rfl rfl ?_
  refine s_iload_n (k := 1) hX dX9_oneMore_1 rfl rfl ?_
  refine s_callVi hX (c_X9_strideOf p M hS) mX9_strideOf lX9_175 (by decide) (by decide) oC0 rfl rfl rfl rfl rfl (Nat.le_of_ble_eq_true rfl) dX9_oneMore_2 (fun r2 M_1 hp2 => ?_)
  obtain ⟨rfl, h2⟩ := hp2
  subst h2
  refine s_istore_n (lv' := [(0, .ref (ad 0)), (1, .int p), (2, .int w), (3, .int (nI 0))]) hX dX9_oneMore_5 rfl (by decide) rfl ?_
  refine s_iload_n (k := 3) hX dX9_oneMore_6 rfl rfl ?_
  refine s_if_eq (tgt := 17) hX dX9_oneMore_7 (by decide) (fun c7 => ?_) (fun c7 => ?_)
  · refine s_iconst (v := (-1)) hX dX9_oneMore_17 (by decide) ?_
    exact s_iret hX hR dX9_oneMore_18 rfl
  · first | exact absurd (by decide) c7 | exact absurd c7 (by decide)
set_option maxHeartbeats 4000000 in
theorem c_X9_key (p w : Int32) (M : Mem) (hF : FrC M) : AM yX9_key cX9_key 7 (some .int) 1 60 glC (fun ad => [.ref (ad 0), .int p, .int w]) M (PI (fun r _ => r = -1)) := by
  refine AM.of (by decide) (fun _ => Nat.le_of_ble_eq_true rfl) (fun X ad cI cZ cB hX hR => ?_)
  show V X M [(0, .ref (ad 0)), (1, .int p), (2, .int w)] [] 0
  obtain ⟨hT, hS, hz, hn, hd, hr, hk, hu⟩ := hF
  refine s_aload_n (k := 0) hX dX9_key_0 rfl rfl ?_
  refine s_iload_n (k := 1) hX dX9_key_1 rfl rfl ?_
  refine s_callVi hX (c_X9_strideOf p M hS) mX9_strideOf lX9_175 (by decide) (by decide) oC0 rfl rfl rfl rfl rfl (Nat.le_of_ble_eq_true rfl) dX9_key_2 (fun r2 M_1 hp2 => ?_)
  obtain ⟨rfl, h2⟩ := hp2
  subst h2
  refine s_istore_n (lv' := [(0, .ref (ad 0)), (1, .int p), (2, .int w), (3, .int (nI 0))]) hX dX9_key_5 rfl (by decide) rfl ?_
  refine s_iload_n (k := 3) hX dX9_key_6 rfl rfl ?_
  refine s_if_eq (tgt := 17) hX dX9_key_7 (by decide) (fun c7 => ?_) (fun c7 => ?_)
  · refine s_iconst (v := (-1)) hX dX9_key_17 (by decide) ?_
    exact s_iret hX hR dX9_key_18 rfl
  · first | exact absurd (by decide) c7 | exact absurd c7 (by decide)
set_option maxHeartbeats 4000000 in
theorem c_X9_firstNight (p : Int32) (M : Mem) (hF : FrC M) : AM yX9_firstNight cX9_firstNight 4 (some .int) 1 60 glC (fun ad => [.ref (ad 0), .int p]) M (PI (fun r _ => r = -1)) := by
  refine AM.of (by decide) (fun _ => Nat.le_of_ble_eq_true rfl) (fun X ad cI cZ cB hX hR => ?_)
  show V X M [(0, .ref (ad 0)), (1, .int p)] [] 0
  obtain ⟨hT, hS, hz, hn, hd, hr, hk, hu⟩ := hF
  refine s_aload_n (k := 0) hX dX9_firstNight_0 rfl rfl ?_
  refine s_iload_n (k := 1) hX dX9_firstNight_1 rfl rfl ?_
  refine s_callVi hX (c_X9_strideOf p M hS) mX9_strideOf lX9_175 (by decide) (by decide) oC0 rfl rfl rfl rfl rfl (Nat.le_of_ble_eq_true rfl) dX9_firstNight_2 (fun r2 M_1 hp2 => ?_)
  obtain ⟨rfl, h2⟩ := hp2
  subst h2
  refine s_istore_n (lv' := [(0, .ref (ad 0)), (1, .int p), (2, .int (nI 0))]) hX dX9_firstNight_5 rfl (by decide) rfl ?_
  refine s_iload_n (k := 2) hX dX9_firstNight_6 rfl rfl ?_
  refine s_if_ne (tgt := 12) hX dX9_firstNight_7 (by decide) (fun c7 => ?_) (fun c7 => ?_)
  · first | exact absurd (by decide) c7 | exact absurd c7 (by decide)
  · refine s_iconst (v := (-1)) hX dX9_firstNight_10 (by decide) ?_
    exact s_iret hX hR dX9_firstNight_11 rfl
set_option maxHeartbeats 4000000 in
theorem c_X9_walk (p x n w : Int32) (M : Mem) (hF : FrC M) : AM yX9_walk cX9_walk 6 (some .int) 1 60 glC (fun ad => [.ref (ad 0), .int p, .int x, .int n, .int w]) M (PI (fun r _ => r = -1)) := by
  refine AM.of (by decide) (fun _ => Nat.le_of_ble_eq_true rfl) (fun X ad cI cZ cB hX hR => ?_)
  show V X M [(0, .ref (ad 0)), (1, .int p), (2, .int x), (3, .int n), (4, .int w)] [] 0
  obtain ⟨hT, hS, hz, hn, hd, hr, hk, hu⟩ := hF
  refine s_aload_n (k := 0) hX dX9_walk_0 rfl rfl ?_
  refine s_iload_n (k := 1) hX dX9_walk_1 rfl rfl ?_
  refine s_callVi hX (c_X9_strideOf p M hS) mX9_strideOf lX9_175 (by decide) (by decide) oC0 rfl rfl rfl rfl rfl (Nat.le_of_ble_eq_true rfl) dX9_walk_2 (fun r2 M_1 hp2 => ?_)
  obtain ⟨rfl, h2⟩ := hp2
  subst h2
  refine s_istore (lv' := [(0, .ref (ad 0)), (1, .int p), (2, .int x), (3, .int n), (4, .int w), (5, .int (nI 0))]) hX dX9_walk_5 (by decide) rfl ?_
  refine s_iload (k := 5) hX dX9_walk_7 rfl ?_
  refine s_if_eq (tgt := 47) hX dX9_walk_9 (by decide) (fun c9 => ?_) (fun c9 => ?_)
  · refine s_iconst (v := (-1)) hX dX9_walk_47 (by decide) ?_
    exact s_iret hX hR dX9_walk_48 rfl
  · first | exact absurd (by decide) c9 | exact absurd c9 (by decide)
set_option maxHeartbeats 4000000 in
theorem c_X9_meet (p q w : Int32) (M : Mem) (hF : FrC M) : AM yX9_meet cX9_meet 6 (some .int) 1 60 glC (fun ad => [.ref (ad 0), .int p, .int q, .int w]) M (PI (fun r _ => r = -1)) := by
  refine AM.of (by decide) (fun _ => Nat.le_of_ble_eq_true rfl) (fun X ad cI cZ cB hX hR => ?_)
  show V X M [(0, .ref (ad 0)), (1, .int p), (2, .int q), (3, .int w)] [] 0
  obtain ⟨hT, hS, hz, hn, hd, hr, hk, hu⟩ := hF
  refine s_aload_n (k := 0) hX dX9_meet_0 rfl rfl ?_
  refine s_iload_n (k := 1) hX dX9_meet_1 rfl rfl ?_
  refine s_callVi hX (c_X9_strideOf p M hS) mX9_strideOf lX9_175 (by decide) (by decide) oC0 rfl rfl rfl rfl rfl (Nat.le_of_ble_eq_true rfl) dX9_meet_2 (fun r2 M_1 hp2 => ?_)
  obtain ⟨rfl, h2⟩ := hp2
  subst h2
  refine s_istore (lv' := [(0, .ref (ad 0)), (1, .int p), (2, .int q), (3, .int w), (4, .int (nI 0))]) hX dX9_meet_5 (by decide) rfl ?_
  refine s_aload_n (k := 0) hX dX9_meet_7 rfl rfl ?_
  refine s_iload_n (k := 2) hX dX9_meet_8 rfl rfl ?_
  refine s_callVi hX (c_X9_strideOf q M hS) mX9_strideOf lX9_175 (by decide) (by decide) oC0 rfl rfl rfl rfl rfl (Nat.le_of_ble_eq_true rfl) dX9_meet_9 (fun r9 M_3 hp9 => ?_)
  obtain ⟨rfl, h2⟩ := hp9
  subst h2
  refine s_istore (lv' := [(0, .ref (ad 0)), (1, .int p), (2, .int q), (3, .int w), (4, .int (nI 0)), (5, .int (nI 0))]) hX dX9_meet_12 (by decide) rfl ?_
  refine s_iload (k := 4) hX dX9_meet_14 rfl ?_
  refine s_if_eq (tgt := 31) hX dX9_meet_16 (by decide) (fun c16 => ?_) (fun c16 => ?_)
  · refine s_iconst (v := (-1)) hX dX9_meet_31 (by decide) ?_
    exact s_iret hX hR dX9_meet_32 rfl
  · first | exact absurd (by decide) c16 | exact absurd c16 (by decide)
set_option maxHeartbeats 4000000 in
theorem c_X9_leastStride (M : Mem) (hF : FrC M) : AM yX9_leastStride cX9_leastStride 2 (some .int) 5 60 glC (fun ad => [.ref (ad 0)]) M (PI (fun r _ => r = nI 21)) := by
  refine AM.of (by decide) (fun _ => Nat.le_of_ble_eq_true rfl) (fun X ad cI cZ cB hX hR => ?_)
  show V X M [(0, .ref (ad 0))] [] 0
  obtain ⟨hT, hS, hz, hn, hd, hr, hk, hu⟩ := hF
  refine s_iconst (v := (nI 1)) hX dX9_leastStride_0 (by decide) ?_
  refine s_istore_n (lv' := [(0, .ref (ad 0)), (1, .int (nI 1))]) hX dX9_leastStride_1 rfl (by decide) rfl ?_
  have lp2 : ∀ (N2 : Nat) (i : Nat) (Mi : Mem), (1 ≤ i) → (i ≤ 21) → (21 < i + N2) → (∀ j, j < 40 → Mi 5 j = 0) → V X Mi [(0, .ref (ad 0)), (1, .int (nI i))] [] 2 := by
    intro N2
    induction N2 with
    | zero => intro i Mi hi1 hi hN2 hTi; exact absurd hN2 (by omega)
    | succ N2 ih2 =>
      intro i Mi hi1 hi hN2 hTi
      refine s_iload_n (k := 1) hX dX9_leastStride_2 rfl rfl ?_
      refine s_bipush (v := (nI 30)) hX dX9_leastStride_3 (by decide) ?_
      refine s_icmp_gt (tgt := 31) hX dX9_leastStride_5 (by decide) (fun c5 => ?_) (fun c5 => ?_)
      · replace c5 := (nI_ltI (by omega) (by omega)).mp c5
        omega
      · replace c5 := mt (nI_ltI (by omega) (by omega)).mpr c5
        refine s_aload_n (k := 0) hX dX9_leastStride_8 rfl rfl ?_
        refine s_get hX fX9_39 oC0 rfl dX9_leastStride_9 ?_
        refine s_aload_n (k := 0) hX dX9_leastStride_12 rfl rfl ?_
        refine s_get hX fX9_10 oC0 rfl dX9_leastStride_13 ?_
        refine s_iload_n (k := 1) hX dX9_leastStride_16 rfl rfl ?_
        refine s_callVi hX (c_X8_canCross 1 (Or.inl rfl) (nI i) Mi hTi) mX8_canCross lX9_188 (by decide) (by decide) oC23 rfl rfl rfl rfl rfl (Nat.le_of_ble_eq_true rfl) dX9_leastStride_17 (fun r17 M_2 hp17 => ?_)
        obtain ⟨rfl, hfq⟩ := hp17
        refine s_if_eq (tgt := 25) hX dX9_leastStride_20 (by decide) (fun c20 => ?_) (fun c20 => ?_)
        · replace c20 := bI_eq c20; rw [nI_toInt (by omega)] at c20
          refine s_iinc (k := 1) (v := nI (i + 1)) (lv' := [(0, .ref (ad 0)), (1, .int (nI (i + 1)))]) hX dX9_leastStride_25 (nI_1 _) (by decide) rfl rfl ?_
          refine s_goto (tgt := 2) hX dX9_leastStride_28 (by decide) ?_
          exact ih2 (i + 1) _ (by omega) (by omega) (by omega) (fun j hj => (hfq 5 j (by decide) (by decide)).trans (hTi j hj))
        · replace c20 := bI_ne c20; rw [nI_toInt (by omega)] at c20
          refine s_iload_n (k := 1) hX dX9_leastStride_23 rfl rfl ?_
          exact s_iret hX hR dX9_leastStride_24 (by rw [show i = 21 by omega])
  exact lp2 22 1 M (by omega) (by omega) (by omega) hT
set_option maxHeartbeats 4000000 in
theorem c_X9_islands (s what : Int32) (M : Mem) (hF : FrC M) : AM yX9_islands cX9_islands 3 (some .int) 2 60 glC (fun ad => [.ref (ad 0), .int s, .int what]) M (PI (fun r _ => r = if (1 ≤ s.toInt ∧ s.toInt ≤ 30) ∧ what.toInt = 100 then nI 0 else -1)) := by
  refine AM.of (by decide) (fun _ => Nat.le_of_ble_eq_true rfl) (fun X ad cI cZ cB hX hR => ?_)
  show V X M [(0, .ref (ad 0)), (1, .int s), (2, .int what)] [] 0
  obtain ⟨hT, hS, hz, hn, hd, hr, hk, hu⟩ := hF
  refine s_iload_n (k := 1) hX dX9_islands_0 rfl rfl ?_
  refine s_callSi hX (c_X9_isStride s M) mX9_isStride lX9_108 (by decide) (by decide) rfl rfl (Nat.le_of_ble_eq_true rfl) dX9_islands_1 (fun r1 M_1 hp1 => ?_)
  obtain ⟨rfl, h2⟩ := hp1
  subst h2
  refine s_if_ne (tgt := 9) hX dX9_islands_4 (by decide) (fun c4 => ?_) (fun c4 => ?_)
  · replace c4 := bI_ne c4
    refine s_iload_n (k := 2) hX dX9_islands_9 rfl rfl ?_
    refine s_bipush (v := (nI 100)) hX dX9_islands_10 (by decide) ?_
    refine s_icmp_ne (tgt := 28) hX dX9_islands_12 (by decide) (fun c12 => ?_) (fun c12 => ?_)
    · replace c12 := mt (q_eq (by omega)).mpr c12
      refine s_aload_n (k := 0) hX dX9_islands_28 rfl rfl ?_
      refine s_get hX fX9_10 oC0 rfl dX9_islands_29 ?_
      refine s_iload_n (k := 2) hX dX9_islands_32 rfl rfl ?_
      refine s_callVi hX (c_X2_isTold 1 (Or.inl rfl) what M hT) mX2_isTold lX9_98 (by decide) (by decide) oC1 rfl rfl rfl rfl rfl (Nat.le_of_ble_eq_true rfl) dX9_islands_33 (fun r33 M_2 hp33 => ?_)
      obtain ⟨rfl, h2⟩ := hp33
      subst h2
      refine s_if_eq (tgt := 55) hX dX9_islands_36 (by decide) (fun c36 => ?_) (fun c36 => ?_)
      · refine s_iconst (v := (-1)) hX dX9_islands_55 (by decide) ?_
        exact s_iret hX hR dX9_islands_56 (by rw [if_neg (by omega)])
      · first | exact absurd (by decide) c36 | exact absurd c36 (by decide)
    · replace c12 := (q_eq (by omega)).mp c12
      refine s_aload_n (k := 0) hX dX9_islands_15 rfl rfl ?_
      refine s_get hX fX9_39 oC0 rfl dX9_islands_16 ?_
      refine s_aload_n (k := 0) hX dX9_islands_19 rfl rfl ?_
      refine s_get hX fX9_10 oC0 rfl dX9_islands_20 ?_
      refine s_iload_n (k := 1) hX dX9_islands_23 rfl rfl ?_
      refine s_callVi hX (c_X8_countIslands 1 (Or.inl rfl) s M hT) mX8_countIslands lX9_202 (by decide) (by decide) oC23 rfl rfl rfl rfl rfl (Nat.le_of_ble_eq_true rfl) dX9_islands_24 (fun r24 M_3 hp24 => ?_)
      have hri := hp24
      exact s_iret hX hR dX9_islands_27 (by rw [if_pos (by omega)]; exact hri)
  · replace c4 := bI_eq c4
    refine s_iconst (v := (-1)) hX dX9_islands_7 (by decide) ?_
    exact s_iret hX hR dX9_islands_8 (by rw [if_neg (by omega)])
set_option maxHeartbeats 4000000 in
theorem c_X9_market (M : Mem) (hF : FrC M) : AM yX9_market cX9_market 3 (some .int) 5 60 glC (fun ad => [.ref (ad 0)]) M (PI (fun r _ => r = nI 0)) := by
  refine AM.of (by decide) (fun _ => Nat.le_of_ble_eq_true rfl) (fun X ad cI cZ cB hX hR => ?_)
  show V X M [(0, .ref (ad 0))] [] 0
  obtain ⟨hT, hS, hz, hn, hd, hr, hk, hu⟩ := hF
  refine s_iconst (v := (nI 0)) hX dX9_market_0 (by decide) ?_
  refine s_istore_n (lv' := [(0, .ref (ad 0)), (1, .int (nI 0))]) hX dX9_market_1 rfl (by decide) rfl ?_
  refine s_iconst (v := (nI 0)) hX dX9_market_2 (by decide) ?_
  refine s_istore_n (lv' := [(0, .ref (ad 0)), (1, .int (nI 0)), (2, .int (nI 0))]) hX dX9_market_3 rfl (by decide) rfl ?_
  have lp4 : ∀ (N4 : Nat) (i : Nat), (i ≤ 8) → (8 < i + N4) → V X M [(0, .ref (ad 0)), (1, .int (nI 0)), (2, .int (nI i))] [] 4 := by
    intro N4
    induction N4 with
    | zero => intro i hi hN4; exact absurd hN4 (by omega)
    | succ N4 ih4 =>
      intro i hi hN4
      refine s_iload_n (k := 2) hX dX9_market_4 rfl rfl ?_
      refine s_bipush (v := (nI 8)) hX dX9_market_5 (by decide) ?_
      refine s_icmp_ge (tgt := 51) hX dX9_market_7 (by decide) (fun c7 => ?_) (fun c7 => ?_)
      · replace c7 := (nI_leI (by omega) (by omega)).mp c7
        refine s_iload_n (k := 1) hX dX9_market_51 rfl rfl ?_
        exact s_iret hX hR dX9_market_52 rfl
      · replace c7 := mt (nI_leI (by omega) (by omega)).mpr c7
        refine s_aload_n (k := 0) hX dX9_market_10 rfl rfl ?_
        refine s_get hX fX9_64 oC0 rfl dX9_market_11 ?_
        refine s_iload_n (k := 2) hX dX9_market_14 rfl rfl ?_
        refine s_ialdN hX aC43 (by omega) dX9_market_15 ?_
        refine s_if_eq (tgt := 45) hX dX9_market_16 (by decide) (fun c16 => ?_) (fun c16 => ?_)
        · refine s_iinc (k := 2) (v := nI (i + 1)) (lv' := [(0, .ref (ad 0)), (1, .int (nI 0)), (2, .int (nI (i + 1)))]) hX dX9_market_45 (nI_1 _) (by decide) rfl rfl ?_
          refine s_goto (tgt := 4) hX dX9_market_48 (by decide) ?_
          exact ih4 (i + 1) (by omega) (by omega)
        · exact absurd (hS i (by omega)) c16
  exact lp4 9 0 (by omega) (by omega)
set_option maxHeartbeats 4000000 in
theorem c_X9_chalk (n w : Int32) (M : Mem) (hF : FrC M) : AM yX9_chalk cX9_chalk 3 (some .int) 1 60 glC (fun ad => [.ref (ad 0), .int n, .int w]) M (PI (fun r _ => r = -1)) := by
  refine AM.of (by decide) (fun _ => Nat.le_of_ble_eq_true rfl) (fun X ad cI cZ cB hX hR => ?_)
  show V X M [(0, .ref (ad 0)), (1, .int n), (2, .int w)] [] 0
  obtain ⟨hT, hS, hz, hn, hd, hr, hk, hu⟩ := hF
  have hz0 : (M 19 1).toInt = 0 := by rw [hz]; decide
  refine s_iload_n (k := 1) hX dX9_chalk_0 rfl rfl ?_
  refine s_iconst (v := (nI 1)) hX dX9_chalk_1 (by decide) ?_
  refine s_icmp_lt (tgt := 27) hX dX9_chalk_2 (by decide) (fun c2 => ?_) (fun c2 => ?_)
  · replace c2 := (q_lt (by omega)).mp c2
    refine s_iconst (v := (-1)) hX dX9_chalk_27 (by decide) ?_
    exact s_iret hX hR dX9_chalk_28 rfl
  · replace c2 := mt (q_lt (by omega)).mpr c2
    refine s_iload_n (k := 1) hX dX9_chalk_5 rfl rfl ?_
    refine s_bipush (v := (nI 7)) hX dX9_chalk_6 (by decide) ?_
    refine s_icmp_gt (tgt := 27) hX dX9_chalk_8 (by decide) (fun c8 => ?_) (fun c8 => ?_)
    · replace c8 := (q_gt (by omega)).mp c8
      refine s_iconst (v := (-1)) hX dX9_chalk_27 (by decide) ?_
      exact s_iret hX hR dX9_chalk_28 rfl
    · replace c8 := mt (q_gt (by omega)).mpr c8
      refine s_aload_n (k := 0) hX dX9_chalk_11 rfl rfl ?_
      refine s_get hX fX9_25 oC0 rfl dX9_chalk_12 ?_
      refine s_iconst (v := (nI 2)) hX dX9_chalk_15 (by decide) ?_
      refine s_iload_n (k := 1) hX dX9_chalk_16 rfl rfl ?_
      refine s_imul hX dX9_chalk_17 ?_
      refine s_iconst (v := (nI 2)) hX dX9_chalk_18 (by decide) ?_
      refine s_bipush (v := (nI 14)) hX dX9_chalk_19 (by decide) ?_
      refine s_callVi hX (c_X7_holds (nI 2 * n) (nI 2) (nI 14) M) mX7_holds lX9_119 (by decide) (by decide) oC19 rfl rfl rfl rfl rfl (Nat.le_of_ble_eq_true rfl) dX9_chalk_21 (fun r21 M_1 hp21 => ?_)
      obtain ⟨rfl, h2⟩ := hp21
      subst h2
      refine s_if_ne (tgt := 29) hX dX9_chalk_24 (by decide) (fun c24 => ?_) (fun c24 => ?_)
      · replace c24 := bI_ne c24
        rw [hz0] at c24; have := nI2; omega
      · replace c24 := bI_eq c24
        refine s_iconst (v := (-1)) hX dX9_chalk_27 (by decide) ?_
        exact s_iret hX hR dX9_chalk_28 rfl
set_option maxHeartbeats 4000000 in
theorem c_X9_shape (what : Int32) (M : Mem) (hF : FrC M) : AM yX9_shape cX9_shape 2 (some .int) 3 60 glC (fun ad => [.ref (ad 0), .int what]) M (PI (fun r _ => r = if what.toInt = 0 ∨ what.toInt = 1 ∨ what.toInt = 2 then nI 0 else if what.toInt = 3 then -2 else -1)) := by
  refine AM.of (by decide) (fun _ => Nat.le_of_ble_eq_true rfl) (fun X ad cI cZ cB hX hR => ?_)
  show V X M [(0, .ref (ad 0)), (1, .int what)] [] 0
  obtain ⟨hT, hS, hz, hn, hd, hr, hk, hu⟩ := hF
  refine s_iload_n (k := 1) hX dX9_shape_0 rfl rfl ?_
  by_cases sw1 : what.toInt < 0 ∨ 3 < what.toInt
  · refine s_tabOut (tgt := 64) hX dX9_shape_1 sw1 (by decide) ?_
    refine s_iconst (v := (-1)) hX dX9_shape_64 (by decide) ?_
    exact s_iret hX hR dX9_shape_65 (by rw [if_neg (by omega), if_neg (by omega)])
  · obtain ⟨tv, htv, rfl⟩ := ixi (x := what) (n := 4) (by omega) (by omega)
    have htw : tv = 0 ∨ tv = 1 ∨ tv = 2 ∨ tv = 3 := by omega
    rcases htw with rfl | rfl | rfl | rfl
    · refine s_tabIn (tgt := 32) (off := 31) hX dX9_shape_1 (by decide) (by decide) (by decide) (by decide) ?_
      refine s_aload_n (k := 0) hX dX9_shape_32 rfl rfl ?_
      refine s_get hX fX9_10 oC0 rfl dX9_shape_33 ?_
      refine s_callSi hX (c_X6_line 1 (Or.inl rfl) M hT) mX6_line lX9_250 (by decide) (by decide) rfl rfl (Nat.le_of_ble_eq_true rfl) dX9_shape_36 (fun r36 M_1 hp36 => ?_)
      have hrs := hp36
      exact s_iret hX hR dX9_shape_39 (by rw [if_pos (by decide)]; exact hrs)
    · refine s_tabIn (tgt := 40) (off := 39) hX dX9_shape_1 (by decide) (by decide) (by decide) (by decide) ?_
      refine s_aload_n (k := 0) hX dX9_shape_40 rfl rfl ?_
      refine s_get hX fX9_10 oC0 rfl dX9_shape_41 ?_
      refine s_callSi hX (c_X6_yardApart 1 (Or.inl rfl) M hT) mX6_yardApart lX9_256 (by decide) (by decide) rfl rfl (Nat.le_of_ble_eq_true rfl) dX9_shape_44 (fun r44 M_2 hp44 => ?_)
      have hrs := hp44
      exact s_iret hX hR dX9_shape_47 (by rw [if_pos (by decide)]; exact hrs)
    · refine s_tabIn (tgt := 48) (off := 47) hX dX9_shape_1 (by decide) (by decide) (by decide) (by decide) ?_
      refine s_aload_n (k := 0) hX dX9_shape_48 rfl rfl ?_
      refine s_get hX fX9_10 oC0 rfl dX9_shape_49 ?_
      refine s_callSi hX (c_X6_pairs 1 (Or.inl rfl) M hT) mX6_pairs lX9_259 (by decide) (by decide) rfl rfl (Nat.le_of_ble_eq_true rfl) dX9_shape_52 (fun r52 M_3 hp52 => ?_)
      have hrs := hp52
      exact s_iret hX hR dX9_shape_55 (by rw [if_pos (by decide)]; exact hrs)
    · refine s_tabIn (tgt := 56) (off := 55) hX dX9_shape_1 (by decide) (by decide) (by decide) (by decide) ?_
      refine s_aload_n (k := 0) hX dX9_shape_56 rfl rfl ?_
      refine s_get hX fX9_10 oC0 rfl dX9_shape_57 ?_
      refine s_callSi hX (c_X6_closest 1 (Or.inl rfl) M hT) mX6_closest lX9_262 (by decide) (by decide) rfl rfl (Nat.le_of_ble_eq_true rfl) dX9_shape_60 (fun r60 M_4 hp60 => ?_)
      have hrs := hp60
      exact s_iret hX hR dX9_shape_63 (by rw [if_neg (by decide), if_pos (by decide)]; exact hrs)
set_option maxHeartbeats 4000000 in
theorem c_X9_letters (n w : Int32) (M : Mem) (hF : FrC M) : AM yX9_letters cX9_letters 4 (some .int) 1 60 glC (fun ad => [.ref (ad 0), .int n, .int w]) M (PI (fun r _ => r = -1)) := by
  refine AM.of (by decide) (fun _ => Nat.le_of_ble_eq_true rfl) (fun X ad cI cZ cB hX hR => ?_)
  show V X M [(0, .ref (ad 0)), (1, .int n), (2, .int w)] [] 0
  obtain ⟨hT, hS, hz, hn, hd, hr, hk, hu⟩ := hF
  have hz0 : (M 19 1).toInt = 0 := by rw [hz]; decide
  refine s_iload_n (k := 2) hX dX9_letters_0 rfl rfl ?_
  refine s_callSi hX (c_X9_isEither w M) mX9_isEither lX9_182 (by decide) (by decide) rfl rfl (Nat.le_of_ble_eq_true rfl) dX9_letters_1 (fun r1 M_1 hp1 => ?_)
  obtain ⟨rfl, h2⟩ := hp1
  subst h2
  refine s_if_eq (tgt := 21) hX dX9_letters_4 (by decide) (fun c4 => ?_) (fun c4 => ?_)
  · replace c4 := bI_eq c4
    refine s_iconst (v := (-1)) hX dX9_letters_21 (by decide) ?_
    exact s_iret hX hR dX9_letters_22 rfl
  · replace c4 := bI_ne c4
    refine s_aload_n (k := 0) hX dX9_letters_7 rfl rfl ?_
    refine s_get hX fX9_25 oC0 rfl dX9_letters_8 ?_
    refine s_iload_n (k := 1) hX dX9_letters_11 rfl rfl ?_
    refine s_iconst (v := (nI 1)) hX dX9_letters_12 (by decide) ?_
    refine s_bipush (v := (nI 8)) hX dX9_letters_13 (by decide) ?_
    refine s_callVi hX (c_X7_holds n (nI 1) (nI 8) M) mX7_holds lX9_119 (by decide) (by decide) oC19 rfl rfl rfl rfl rfl (Nat.le_of_ble_eq_true rfl) dX9_letters_15 (fun r15 M_2 hp15 => ?_)
    obtain ⟨rfl, h2⟩ := hp15
    subst h2
    refine s_if_ne (tgt := 23) hX dX9_letters_18 (by decide) (fun c18 => ?_) (fun c18 => ?_)
    · replace c18 := bI_ne c18
      rw [hz0] at c18; have := nI1; omega
    · replace c18 := bI_eq c18
      refine s_iconst (v := (-1)) hX dX9_letters_21 (by decide) ?_
      exact s_iret hX hR dX9_letters_22 rfl
set_option maxHeartbeats 4000000 in
theorem c_X9_thrown (n : Int32) (M : Mem) (hF : FrC M) : AM yX9_thrown cX9_thrown 5 (some .int) 2 60 glC (fun ad => [.ref (ad 0), .int n]) M (PI (fun r _ => r = if 1 ≤ n.toInt ∧ n.toInt ≤ 6 then -2 else -1)) := by
  refine AM.of (by decide) (fun _ => Nat.le_of_ble_eq_true rfl) (fun X ad cI cZ cB hX hR => ?_)
  show V X M [(0, .ref (ad 0)), (1, .int n)] [] 0
  obtain ⟨hT, hS, hz, hn, hd, hr, hk, hu⟩ := hF
  refine s_iload_n (k := 1) hX dX9_thrown_0 rfl rfl ?_
  refine s_iconst (v := (nI 1)) hX dX9_thrown_1 (by decide) ?_
  refine s_icmp_lt (tgt := 11) hX dX9_thrown_2 (by decide) (fun c2 => ?_) (fun c2 => ?_)
  · replace c2 := (q_lt (by omega)).mp c2
    refine s_iconst (v := (-1)) hX dX9_thrown_11 (by decide) ?_
    exact s_iret hX hR dX9_thrown_12 (by rw [if_neg (by omega)])
  · replace c2 := mt (q_lt (by omega)).mpr c2
    refine s_iload_n (k := 1) hX dX9_thrown_5 rfl rfl ?_
    refine s_bipush (v := (nI 6)) hX dX9_thrown_6 (by decide) ?_
    refine s_icmp_le (tgt := 13) hX dX9_thrown_8 (by decide) (fun c8 => ?_) (fun c8 => ?_)
    · replace c8 := (q_le (by omega)).mp c8
      refine s_aload_n (k := 0) hX dX9_thrown_13 rfl rfl ?_
      refine s_get hX fX9_10 oC0 rfl dX9_thrown_14 ?_
      refine s_iconst (v := (nI 0)) hX dX9_thrown_17 (by decide) ?_
      refine s_callVi hX (c_X2_nextDry 1 (Or.inl rfl) M hT) mX2_nextDry lX9_274 (by decide) (by decide) oC1 rfl rfl rfl rfl rfl (Nat.le_of_ble_eq_true rfl) dX9_thrown_18 (fun r18 M_1 hp18 => ?_)
      obtain ⟨rfl, h2⟩ := hp18
      subst h2
      refine s_istore_n (lv' := [(0, .ref (ad 0)), (1, .int n), (2, .int (-1))]) hX dX9_thrown_21 rfl (by decide) rfl ?_
      refine s_iload_n (k := 2) hX dX9_thrown_22 rfl rfl ?_
      refine s_istore_n (lv' := [(0, .ref (ad 0)), (1, .int n), (2, .int (-1)), (3, .int (-1))]) hX dX9_thrown_23 rfl (by decide) rfl ?_
      refine s_iconst (v := (nI 1)) hX dX9_thrown_24 (by decide) ?_
      refine s_istore (lv' := [(0, .ref (ad 0)), (1, .int n), (2, .int (-1)), (3, .int (-1)), (4, .int (nI 1))]) hX dX9_thrown_25 (by decide) rfl ?_
      refine s_iload (k := 4) hX dX9_thrown_27 rfl ?_
      refine s_iload_n (k := 1) hX dX9_thrown_29 rfl rfl ?_
      refine s_icmp_ge (tgt := 55) hX dX9_thrown_30 (by decide) (fun c30 => ?_) (fun c30 => ?_)
      · skip
        refine s_iload_n (k := 3) hX dX9_thrown_55 rfl rfl ?_
        refine s_iconst (v := (-1)) hX dX9_thrown_56 (by decide) ?_
        refine s_icmp_ne (tgt := 63) hX dX9_thrown_57 (by decide) (fun c57 => ?_) (fun c57 => ?_)
        · first | exact absurd (by decide) c57 | exact absurd c57 (by decide)
        · refine s_bipush (v := (-2)) hX dX9_thrown_60 (by decide) ?_
          exact s_iret hX hR dX9_thrown_62 (by rw [if_pos (by omega)])
      · skip
        refine s_iload_n (k := 3) hX dX9_thrown_33 rfl rfl ?_
        refine s_iconst (v := (-1)) hX dX9_thrown_34 (by decide) ?_
        refine s_icmp_eq (tgt := 55) hX dX9_thrown_35 (by decide) (fun c35 => ?_) (fun c35 => ?_)
        · refine s_iload_n (k := 3) hX dX9_thrown_55 rfl rfl ?_
          refine s_iconst (v := (-1)) hX dX9_thrown_56 (by decide) ?_
          refine s_icmp_ne (tgt := 63) hX dX9_thrown_57 (by decide) (fun c57 => ?_) (fun c57 => ?_)
          · first | exact absurd (by decide) c57 | exact absurd c57 (by decide)
          · refine s_bipush (v := (-2)) hX dX9_thrown_60 (by decide) ?_
            exact s_iret hX hR dX9_thrown_62 (by rw [if_pos (by omega)])
        · first | exact absurd (by decide) c35 | exact absurd c35 (by decide)
    · replace c8 := mt (q_le (by omega)).mpr c8
      refine s_iconst (v := (-1)) hX dX9_thrown_11 (by decide) ?_
      exact s_iret hX hR dX9_thrown_12 (by rw [if_neg (by omega)])
set_option maxHeartbeats 4000000 in
theorem c_X9_seed (x : Int32) (M : Mem) (hF : FrC M) : AM yX9_seed cX9_seed 2 (some .boolean) 0 60 glC (fun ad => [.ref (ad 0), .int x]) M (PI (fun r _ => r = bI (0 ≤ x.toInt ∧ x.toInt ≤ 65535))) := by
  refine AM.of (by decide) (fun _ => Nat.le_of_ble_eq_true rfl) (fun X ad cI cZ cB hX hR => ?_)
  show V X M [(0, .ref (ad 0)), (1, .int x)] [] 0
  obtain ⟨hT, hS, hz, hn, hd, hr, hk, hu⟩ := hF
  refine s_iload_n (k := 1) hX dX9_seed_0 rfl rfl ?_
  refine s_if_lt (tgt := 11) hX dX9_seed_1 (by decide) (fun c1 => ?_) (fun c1 => ?_)
  · replace c1 := z_lt.mp c1
    refine s_iconst (v := (nI 0)) hX dX9_seed_11 (by decide) ?_
    exact s_zret hX hR dX9_seed_12 (by first | decide | assumption) (bI_f (by omega))
  · replace c1 := mt z_lt.mpr c1
    refine s_iload_n (k := 1) hX dX9_seed_4 rfl rfl ?_
    refine s_ldcw (v := (nI 65535)) hX kX9_281 dX9_seed_5 ?_
    refine s_icmp_le (tgt := 13) hX dX9_seed_8 (by decide) (fun c8 => ?_) (fun c8 => ?_)
    · replace c8 := (q_le (by omega)).mp c8
      refine s_aload_n (k := 0) hX dX9_seed_13 rfl rfl ?_
      refine s_get hX fX9_10 oC0 rfl dX9_seed_14 ?_
      refine s_iload_n (k := 1) hX dX9_seed_17 rfl rfl ?_
      refine s_puti (ty := .int) hX fX9_282 oC1 rfl (Nat.le_of_ble_eq_true rfl) ty_2_6 rfl rfl dX9_seed_18 ?_
      refine s_mem (fun M_1 eM_1 => ?_)
      refine s_iconst (v := (nI 1)) hX dX9_seed_21 (by decide) ?_
      exact s_zret hX hR dX9_seed_22 (by first | decide | assumption) (bI_t (by omega))
    · replace c8 := mt (q_le (by omega)).mpr c8
      refine s_iconst (v := (nI 0)) hX dX9_seed_11 (by decide) ?_
      exact s_zret hX hR dX9_seed_12 (by first | decide | assumption) (bI_f (by omega))
set_option maxHeartbeats 4000000 in
theorem c_X9_keep (M : Mem) (hF : FrC M) : AM yX9_keep cX9_keep 1 (some .int) 2 60 glC (fun ad => [.ref (ad 0)]) M (PI (fun r _ => r = nI 0)) := by
  refine AM.of (by decide) (fun _ => Nat.le_of_ble_eq_true rfl) (fun X ad cI cZ cB hX hR => ?_)
  show V X M [(0, .ref (ad 0))] [] 0
  obtain ⟨hT, hS, hz, hn, hd, hr, hk, hu⟩ := hF
  refine s_aload_n (k := 0) hX dX9_keep_0 rfl rfl ?_
  refine s_get hX fX9_16 oC0 rfl dX9_keep_1 ?_
  refine s_aload_n (k := 0) hX dX9_keep_4 rfl rfl ?_
  refine s_get hX fX9_10 oC0 rfl dX9_keep_5 ?_
  refine s_callVv hX (c_X2_copyAll 7 (Or.inr (Or.inl rfl)) 1 (Or.inl rfl) M (by decide)) mX2_copyAll lX9_149 (by decide) (by decide) oC7 rfl rfl rfl rfl rfl (Nat.le_of_ble_eq_true rfl) dX9_keep_8 (fun M_1 hp8 => ?_)
  obtain ⟨hfc, htc⟩ := hp8
  refine s_aload_n (k := 0) hX dX9_keep_11 rfl rfl ?_
  refine s_iconst (v := (nI 1)) hX dX9_keep_12 (by decide) ?_
  refine s_puti (ty := .boolean) hX fX9_78 oC0 rfl (Nat.le_of_ble_eq_true rfl) ty_9_12 rfl rfl dX9_keep_13 ?_
  refine s_mem (fun M_2 eM_2 => ?_)
  refine s_aload_n (k := 0) hX dX9_keep_16 rfl rfl ?_
  refine s_get hX fX9_10 oC0 rfl dX9_keep_17 ?_
  refine s_get hX fX9_285 oC1 rfl dX9_keep_20 ?_
  exact s_iret hX hR dX9_keep_23 (by rw [eM_2, mset_get, if_neg (by decide), hfc _ _ (by decide)]; exact hn)
set_option maxHeartbeats 4000000 in
theorem c_X9_undo (M : Mem) (hF : FrC M) : AM yX9_undo cX9_undo 1 (some .boolean) 2 60 glC (fun ad => [.ref (ad 0)]) M (PI (fun r _ => r = nI 0)) := by
  refine AM.of (by decide) (fun _ => Nat.le_of_ble_eq_true rfl) (fun X ad cI cZ cB hX hR => ?_)
  show V X M [(0, .ref (ad 0))] [] 0
  obtain ⟨hT, hS, hz, hn, hd, hr, hk, hu⟩ := hF
  refine s_aload_n (k := 0) hX dX9_undo_0 rfl rfl ?_
  refine s_get hX fX9_78 oC0 rfl dX9_undo_1 ?_
  refine s_top (y := nI 0) (hk) ?_
  refine s_if_eq (tgt := 18) hX dX9_undo_4 (by decide) (fun c4 => ?_) (fun c4 => ?_)
  · refine s_aload_n (k := 0) hX dX9_undo_18 rfl rfl ?_
    refine s_get hX fX9_78 oC0 rfl dX9_undo_19 ?_
    refine s_top (y := nI 0) (hk) ?_
    exact s_zret hX hR dX9_undo_22 (by first | decide | assumption) rfl
  · first | exact absurd (by decide) c4 | exact absurd c4 (by decide)
set_option maxHeartbeats 4000000 in
theorem c_X9_check (n : Int32) (M : Mem) (hF : FrC M) : AM yX9_check cX9_check 4 (some .int) 1 60 glC (fun ad => [.ref (ad 0), .int n]) M (PI (fun r _ => r = if n.toInt = 0 then -1 else -2)) := by
  refine AM.of (by decide) (fun _ => Nat.le_of_ble_eq_true rfl) (fun X ad cI cZ cB hX hR => ?_)
  show V X M [(0, .ref (ad 0)), (1, .int n)] [] 0
  obtain ⟨hT, hS, hz, hn, hd, hr, hk, hu⟩ := hF
  have hz0 : (M 19 1).toInt = 0 := by rw [hz]; decide
  refine s_aload_n (k := 0) hX dX9_check_0 rfl rfl ?_
  refine s_get hX fX9_25 oC0 rfl dX9_check_1 ?_
  refine s_iload_n (k := 1) hX dX9_check_4 rfl rfl ?_
  refine s_iconst (v := (nI 0)) hX dX9_check_5 (by decide) ?_
  refine s_bipush (v := (nI 40)) hX dX9_check_6 (by decide) ?_
  refine s_callVi hX (c_X7_holds n (nI 0) (nI 40) M) mX7_holds lX9_119 (by decide) (by decide) oC19 rfl rfl rfl rfl rfl (Nat.le_of_ble_eq_true rfl) dX9_check_8 (fun r8 M_1 hp8 => ?_)
  obtain ⟨rfl, h2⟩ := hp8
  subst h2
  refine s_if_ne (tgt := 17) hX dX9_check_11 (by decide) (fun c11 => ?_) (fun c11 => ?_)
  · replace c11 := bI_ne c11; rw [hz0] at c11; have hn0 := nI0
    obtain rfl : n = nI 0 := (q_eq (by decide)).mpr (by omega)
    refine s_aload_n (k := 0) hX dX9_check_17 rfl rfl ?_
    refine s_get hX fX9_25 oC0 rfl dX9_check_18 ?_
    refine s_iload_n (k := 1) hX dX9_check_21 rfl rfl ?_
    refine s_callVv hX (c_X7_open (nI 0) M) mX7_open lX9_123 (by decide) (by decide) oC19 rfl rfl rfl rfl rfl (Nat.le_of_ble_eq_true rfl) dX9_check_22 (fun M_2 hp22 => ?_)
    refine s_iconst (v := (nI 0)) hX dX9_check_25 (by decide) ?_
    refine s_istore_n (lv' := [(0, .ref (ad 0)), (1, .int (nI 0)), (2, .int (nI 0))]) hX dX9_check_26 rfl (by decide) rfl ?_
    refine s_iload_n (k := 2) hX dX9_check_27 rfl rfl ?_
    refine s_iload_n (k := 1) hX dX9_check_28 rfl rfl ?_
    refine s_icmp_ge (tgt := 79) hX dX9_check_29 (by decide) (fun c29 => ?_) (fun c29 => ?_)
    · refine s_iconst (v := (-1)) hX dX9_check_79 (by decide) ?_
      exact s_iret hX hR dX9_check_80 (by rw [if_pos (by decide)])
    · first | exact absurd (by decide) c29 | exact absurd c29 (by decide)
  · replace c11 := bI_eq c11; rw [hz0] at c11; have hn0 := nI0; have hn4 := nI40
    refine s_bipush (v := (-2)) hX dX9_check_14 (by decide) ?_
    exact s_iret hX hR dX9_check_16 (by rw [if_neg (by omega)])
set_option maxHeartbeats 4000000 in
theorem c_X9_count (what : Int32) (M : Mem) (hF : FrC M) : AM yX9_count cX9_count 2 (some .int) 1 60 glC (fun ad => [.ref (ad 0), .int what]) M (PI (fun r _ => r = if what.toInt = 6 then 1 else if 0 ≤ what.toInt ∧ what.toInt ≤ 5 then nI 0 else -1)) := by
  refine AM.of (by decide) (fun _ => Nat.le_of_ble_eq_true rfl) (fun X ad cI cZ cB hX hR => ?_)
  show V X M [(0, .ref (ad 0)), (1, .int what)] [] 0
  obtain ⟨hT, hS, hz, hn, hd, hr, hk, hu⟩ := hF
  refine s_iload_n (k := 1) hX dX9_count_0 rfl rfl ?_
  by_cases sw1 : what.toInt < 0 ∨ 6 < what.toInt
  · refine s_tabOut (tgt := 97) hX dX9_count_1 sw1 (by decide) ?_
    refine s_iload_n (k := 1) hX dX9_count_97 rfl rfl ?_
    refine s_bipush (v := (nI 10)) hX dX9_count_98 (by decide) ?_
    refine s_icmp_lt (tgt := 125) hX dX9_count_100 (by decide) (fun c100 => ?_) (fun c100 => ?_)
    · replace c100 := (q_lt (by omega)).mp c100
      refine s_iconst (v := (-1)) hX dX9_count_125 (by decide) ?_
      exact s_iret hX hR dX9_count_126 (by rw [if_neg (by omega), if_neg (by omega)])
    · replace c100 := mt (q_lt (by omega)).mpr c100
      refine s_aload_n (k := 0) hX dX9_count_103 rfl rfl ?_
      refine s_iload_n (k := 1) hX dX9_count_104 rfl rfl ?_
      refine s_bipush (v := (nI 10)) hX dX9_count_105 (by decide) ?_
      refine s_isub hX dX9_count_107 ?_
      refine s_callVi hX (c_X9_strideOf (what - nI 10) M hS) mX9_strideOf lX9_175 (by decide) (by decide) oC0 rfl rfl rfl rfl rfl (Nat.le_of_ble_eq_true rfl) dX9_count_108 (fun r108 M_1 hp108 => ?_)
      obtain ⟨rfl, h2⟩ := hp108
      subst h2
      refine s_if_eq (tgt := 125) hX dX9_count_111 (by decide) (fun c111 => ?_) (fun c111 => ?_)
      · refine s_iconst (v := (-1)) hX dX9_count_125 (by decide) ?_
        exact s_iret hX hR dX9_count_126 (by rw [if_neg (by omega), if_neg (by omega)])
      · first | exact absurd (by decide) c111 | exact absurd c111 (by decide)
  · obtain ⟨tv, htv, rfl⟩ := ixi (x := what) (n := 7) (by omega) (by omega)
    have htw : tv = 0 ∨ tv = 1 ∨ tv = 2 ∨ tv = 3 ∨ tv = 4 ∨ tv = 5 ∨ tv = 6 := by omega
    rcases htw with rfl | rfl | rfl | rfl | rfl | rfl | rfl
    · refine s_tabIn (tgt := 44) (off := 43) hX dX9_count_1 (by decide) (by decide) (by decide) (by decide) ?_
      refine s_aload_n (k := 0) hX dX9_count_44 rfl rfl ?_
      refine s_get hX fX9_10 oC0 rfl dX9_count_45 ?_
      refine s_get hX fX9_285 oC1 rfl dX9_count_48 ?_
      exact s_iret hX hR dX9_count_51 (by rw [if_neg (by decide), if_pos (by decide)]; exact hn)
    · refine s_tabIn (tgt := 52) (off := 51) hX dX9_count_1 (by decide) (by decide) (by decide) (by decide) ?_
      refine s_aload_n (k := 0) hX dX9_count_52 rfl rfl ?_
      refine s_get hX fX9_10 oC0 rfl dX9_count_53 ?_
      refine s_callVi hX (c_X2_countTold 1 (Or.inl rfl) M hT) mX2_countTold lX9_234 (by decide) (by decide) oC1 rfl rfl rfl rfl rfl (Nat.le_of_ble_eq_true rfl) dX9_count_56 (fun r56 M_2 hp56 => ?_)
      obtain ⟨rfl, h2⟩ := hp56
      subst h2
      exact s_iret hX hR dX9_count_59 (by rw [if_neg (by decide), if_pos (by decide)])
    · refine s_tabIn (tgt := 60) (off := 59) hX dX9_count_1 (by decide) (by decide) (by decide) (by decide) ?_
      refine s_aload_n (k := 0) hX dX9_count_60 rfl rfl ?_
      refine s_get hX fX9_10 oC0 rfl dX9_count_61 ?_
      refine s_callVi hX (c_X2_countSunk 1 (Or.inl rfl) M hT) mX2_countSunk lX9_161 (by decide) (by decide) oC1 rfl rfl rfl rfl rfl (Nat.le_of_ble_eq_true rfl) dX9_count_64 (fun r64 M_3 hp64 => ?_)
      obtain ⟨rfl, h2⟩ := hp64
      subst h2
      exact s_iret hX hR dX9_count_67 (by rw [if_neg (by decide), if_pos (by decide)])
    · refine s_tabIn (tgt := 68) (off := 67) hX dX9_count_1 (by decide) (by decide) (by decide) (by decide) ?_
      refine s_aload_n (k := 0) hX dX9_count_68 rfl rfl ?_
      refine s_callVi hX (c_X9_toldPeople M hS) mX9_toldPeople lX9_288 (by decide) (by decide) oC0 rfl rfl rfl rfl rfl (Nat.le_of_ble_eq_true rfl) dX9_count_69 (fun r69 M_4 hp69 => ?_)
      obtain ⟨rfl, h2⟩ := hp69
      subst h2
      exact s_iret hX hR dX9_count_72 (by rw [if_neg (by decide), if_pos (by decide)])
    · refine s_tabIn (tgt := 73) (off := 72) hX dX9_count_1 (by decide) (by decide) (by decide) (by decide) ?_
      refine s_aload_n (k := 0) hX dX9_count_73 rfl rfl ?_
      refine s_get hX fX9_71 oC0 rfl dX9_count_74 ?_
      refine s_topr (b := ad 44) (by rw [hr]; rfl) ?_
      refine s_get hX fX9_291 oC44 rfl dX9_count_77 ?_
      exact s_iret hX hR dX9_count_80 (by rw [if_neg (by decide), if_pos (by decide)]; exact hu)
    · refine s_tabIn (tgt := 81) (off := 80) hX dX9_count_1 (by decide) (by decide) (by decide) (by decide) ?_
      refine s_aload_n (k := 0) hX dX9_count_81 rfl rfl ?_
      refine s_get hX fX9_25 oC0 rfl dX9_count_82 ?_
      refine s_get hX fX9_111 oC19 rfl dX9_count_85 ?_
      exact s_iret hX hR dX9_count_88 (by rw [if_neg (by decide), if_pos (by decide)]; exact hz)
    · refine s_tabIn (tgt := 89) (off := 88) hX dX9_count_1 (by decide) (by decide) (by decide) (by decide) ?_
      refine s_aload_n (k := 0) hX dX9_count_89 rfl rfl ?_
      refine s_get hX fX9_10 oC0 rfl dX9_count_90 ?_
      refine s_get hX fX9_282 oC1 rfl dX9_count_93 ?_
      exact s_iret hX hR dX9_count_96 (by rw [if_pos (by decide)]; exact hd)
