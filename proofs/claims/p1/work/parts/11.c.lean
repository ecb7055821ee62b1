/-! the reference on a fresh object -/
def FrM (M : Mem) : Prop := (∀ j, j < 40 → M 1 j = 0) ∧ M 1 200 = nI 0 ∧ M 1 201 = 1 ∧ M 0 4 = nI 0 ∧ M 0 6 = nI 0 ∧ M 0 54 = nI 0 ∧ M 0 15 = nI 0
theorem ls1 {i : Nat} (h : (if 21 ≤ (nI i).toInt then nI 1 else (-1 : Int32)) = -1) (hi : i < 2 ^ 31) : i < 21 := by
  rw [nI_toInt hi] at h
  rcases Nat.lt_or_ge i 21 with q | q
  · exact q
  · rw [if_pos (by omega)] at h
    exact absurd h (by decide)
theorem ls2 {i : Nat} (h : ¬ (if 21 ≤ (nI i).toInt then nI 1 else (-1 : Int32)) = -1) (hi : i < 2 ^ 31) : 21 ≤ i := by
  rw [nI_toInt hi] at h
  rcases Nat.lt_or_ge i 21 with q | q
  · exact absurd (by rw [if_neg (by omega)]) h
  · exact q
theorem dX10_stone_0 : decode cX10_stone 0 = .ok (.iload_n 1, 1) := by decide +kernel
theorem dX10_stone_1 : decode cX10_stone 1 = .ok (.iconst 0, 1) := by decide +kernel
theorem dX10_stone_2 : decode cX10_stone 2 = .ok (.bipush 39, 2) := by decide +kernel
theorem dX10_stone_4 : decode cX10_stone 4 = .ok (.invokestatic 132, 3) := by decide +kernel
theorem dX10_stone_7 : decode cX10_stone 7 = .ok (.ifCond .eq 34, 3) := by decide +kernel
theorem dX10_stone_10 : decode cX10_stone 10 = .ok (.iload_n 2, 1) := by decide +kernel
theorem dX10_stone_11 : decode cX10_stone 11 = .ok (.iconst 0, 1) := by decide +kernel
theorem dX10_stone_12 : decode cX10_stone 12 = .ok (.bipush 39, 2) := by decide +kernel
theorem dX10_stone_14 : decode cX10_stone 14 = .ok (.invokestatic 132, 3) := by decide +kernel
theorem dX10_stone_17 : decode cX10_stone 17 = .ok (.ifCond .eq 24, 3) := by decide +kernel
theorem dX10_stone_20 : decode cX10_stone 20 = .ok (.iload_n 3, 1) := by decide +kernel
theorem dX10_stone_21 : decode cX10_stone 21 = .ok (.iconst 1, 1) := by decide +kernel
theorem dX10_stone_22 : decode cX10_stone 22 = .ok (.bipush 20, 2) := by decide +kernel
theorem dX10_stone_24 : decode cX10_stone 24 = .ok (.invokestatic 132, 3) := by decide +kernel
theorem dX10_stone_27 : decode cX10_stone 27 = .ok (.ifCond .eq 14, 3) := by decide +kernel
theorem dX10_stone_30 : decode cX10_stone 30 = .ok (.iload 4, 2) := by decide +kernel
theorem dX10_stone_32 : decode cX10_stone 32 = .ok (.iconst 0, 1) := by decide +kernel
theorem dX10_stone_33 : decode cX10_stone 33 = .ok (.bipush 9, 2) := by decide +kernel
theorem dX10_stone_35 : decode cX10_stone 35 = .ok (.invokestatic 132, 3) := by decide +kernel
theorem dX10_stone_38 : decode cX10_stone 38 = .ok (.ifCond .ne 5, 3) := by decide +kernel
theorem dX10_stone_41 : decode cX10_stone 41 = .ok (.iconst 0, 1) := by decide +kernel
theorem dX10_stone_42 : decode cX10_stone 42 = .ok (.ireturn, 1) := by decide +kernel
theorem dX10_stone_43 : decode cX10_stone 43 = .ok (.aload_n 0, 1) := by decide +kernel
theorem dX10_stone_44 : decode cX10_stone 44 = .ok (.iload_n 2, 1) := by decide +kernel
theorem dX10_stone_45 : decode cX10_stone 45 = .ok (.iload_n 3, 1) := by decide +kernel
theorem dX10_stone_46 : decode cX10_stone 46 = .ok (.invokevirtual 147, 3) := by decide +kernel
theorem dX10_stone_49 : decode cX10_stone 49 = .ok (.istore 5, 2) := by decide +kernel
theorem dX10_stone_51 : decode cX10_stone 51 = .ok (.iload 5, 2) := by decide +kernel
theorem dX10_stone_53 : decode cX10_stone 53 = .ok (.iconst (-1), 1) := by decide +kernel
theorem dX10_stone_54 : decode cX10_stone 54 = .ok (.if_icmp .eq 11, 3) := by decide +kernel
theorem dX10_stone_57 : decode cX10_stone 57 = .ok (.iload 5, 2) := by decide +kernel
theorem dX10_stone_59 : decode cX10_stone 59 = .ok (.iload_n 1, 1) := by decide +kernel
theorem dX10_stone_60 : decode cX10_stone 60 = .ok (.if_icmp .eq 5, 3) := by decide +kernel
theorem dX10_stone_63 : decode cX10_stone 63 = .ok (.iconst 0, 1) := by decide +kernel
theorem dX10_stone_64 : decode cX10_stone 64 = .ok (.ireturn, 1) := by decide +kernel
theorem dX10_stone_65 : decode cX10_stone 65 = .ok (.aload_n 0, 1) := by decide +kernel
theorem dX10_stone_66 : decode cX10_stone 66 = .ok (.iload_n 1, 1) := by decide +kernel
theorem dX10_stone_67 : decode cX10_stone 67 = .ok (.iload_n 2, 1) := by decide +kernel
theorem dX10_stone_68 : decode cX10_stone 68 = .ok (.iload_n 3, 1) := by decide +kernel
theorem dX10_stone_69 : decode cX10_stone 69 = .ok (.iload 4, 2) := by decide +kernel
theorem dX10_stone_71 : decode cX10_stone 71 = .ok (.iconst 0, 1) := by decide +kernel
theorem dX10_stone_72 : decode cX10_stone 72 = .ok (.invokevirtual 150, 3) := by decide +kernel
theorem dX10_stone_75 : decode cX10_stone 75 = .ok (.iconst 1, 1) := by decide +kernel
theorem dX10_stone_76 : decode cX10_stone 76 = .ok (.ireturn, 1) := by decide +kernel
theorem dX10_take_0 : decode cX10_take 0 = .ok (.aload_n 0, 1) := by decide +kernel
theorem dX10_take_1 : decode cX10_take 1 = .ok (.iload_n 1, 1) := by decide +kernel
theorem dX10_take_2 : decode cX10_take 2 = .ok (.invokevirtual 154, 3) := by decide +kernel
theorem dX10_take_5 : decode cX10_take 5 = .ok (.ifCond .ne 5, 3) := by decide +kernel
theorem dX10_take_8 : decode cX10_take 8 = .ok (.iconst 0, 1) := by decide +kernel
theorem dX10_take_9 : decode cX10_take 9 = .ok (.ireturn, 1) := by decide +kernel
theorem dX10_take_10 : decode cX10_take 10 = .ok (.aload_n 0, 1) := by decide +kernel
theorem dX10_take_11 : decode cX10_take 11 = .ok (.getfield 7, 3) := by decide +kernel
theorem dX10_take_14 : decode cX10_take 14 = .ok (.iconst 0, 1) := by decide +kernel
theorem dX10_take_15 : decode cX10_take 15 = .ok (.iload_n 1, 1) := by decide +kernel
theorem dX10_take_16 : decode cX10_take 16 = .ok (.iadd, 1) := by decide +kernel
theorem dX10_take_17 : decode cX10_take 17 = .ok (.iconst 0, 1) := by decide +kernel
theorem dX10_take_18 : decode cX10_take 18 = .ok (.iastore, 1) := by decide +kernel
theorem dX10_take_19 : decode cX10_take 19 = .ok (.iconst 1, 1) := by decide +kernel
theorem dX10_take_20 : decode cX10_take 20 = .ok (.ireturn, 1) := by decide +kernel
theorem dX10_under_0 : decode cX10_under 0 = .ok (.aload_n 0, 1) := by decide +kernel
theorem dX10_under_1 : decode cX10_under 1 = .ok (.iload_n 1, 1) := by decide +kernel
theorem dX10_under_2 : decode cX10_under 2 = .ok (.invokevirtual 154, 3) := by decide +kernel
theorem dX10_under_5 : decode cX10_under 5 = .ok (.ifCond .ne 5, 3) := by decide +kernel
theorem dX10_under_8 : decode cX10_under 8 = .ok (.iconst 0, 1) := by decide +kernel
theorem dX10_under_9 : decode cX10_under 9 = .ok (.ireturn, 1) := by decide +kernel
theorem dX10_under_10 : decode cX10_under 10 = .ok (.aload_n 0, 1) := by decide +kernel
theorem dX10_under_11 : decode cX10_under 11 = .ok (.getfield 7, 3) := by decide +kernel
theorem dX10_under_14 : decode cX10_under 14 = .ok (.sipush 160, 3) := by decide +kernel
theorem dX10_under_17 : decode cX10_under 17 = .ok (.iload_n 1, 1) := by decide +kernel
theorem dX10_under_18 : decode cX10_under 18 = .ok (.iadd, 1) := by decide +kernel
theorem dX10_under_19 : decode cX10_under 19 = .ok (.iload_n 2, 1) := by decide +kernel
theorem dX10_under_20 : decode cX10_under 20 = .ok (.ifCond .eq 7, 3) := by decide +kernel
theorem dX10_under_23 : decode cX10_under 23 = .ok (.iconst 1, 1) := by decide +kernel
theorem dX10_under_24 : decode cX10_under 24 = .ok (.goto 4, 3) := by decide +kernel
theorem dX10_under_27 : decode cX10_under 27 = .ok (.iconst 0, 1) := by decide +kernel
theorem dX10_under_28 : decode cX10_under 28 = .ok (.iastore, 1) := by decide +kernel
theorem dX10_under_29 : decode cX10_under 29 = .ok (.iconst 1, 1) := by decide +kernel
theorem dX10_under_30 : decode cX10_under 30 = .ok (.ireturn, 1) := by decide +kernel
theorem dX10_person_0 : decode cX10_person 0 = .ok (.iload_n 1, 1) := by decide +kernel
theorem dX10_person_1 : decode cX10_person 1 = .ok (.iconst 0, 1) := by decide +kernel
theorem dX10_person_2 : decode cX10_person 2 = .ok (.bipush 7, 2) := by decide +kernel
theorem dX10_person_4 : decode cX10_person 4 = .ok (.invokestatic 132, 3) := by decide +kernel
theorem dX10_person_7 : decode cX10_person 7 = .ok (.ifCond .eq 13, 3) := by decide +kernel
theorem dX10_person_10 : decode cX10_person 10 = .ok (.iload_n 2, 1) := by decide +kernel
theorem dX10_person_11 : decode cX10_person 11 = .ok (.iconst 1, 1) := by decide +kernel
theorem dX10_person_12 : decode cX10_person 12 = .ok (.bipush 30, 2) := by decide +kernel
theorem dX10_person_14 : decode cX10_person 14 = .ok (.invokestatic 132, 3) := by decide +kernel
theorem dX10_person_17 : decode cX10_person 17 = .ok (.ifCond .ne 5, 3) := by decide +kernel
theorem dX10_person_20 : decode cX10_person 20 = .ok (.iconst 0, 1) := by decide +kernel
theorem dX10_person_21 : decode cX10_person 21 = .ok (.ireturn, 1) := by decide +kernel
theorem dX10_person_22 : decode cX10_person 22 = .ok (.aload_n 0, 1) := by decide +kernel
theorem dX10_person_23 : decode cX10_person 23 = .ok (.aload_n 0, 1) := by decide +kernel
theorem dX10_person_24 : decode cX10_person 24 = .ok (.getfield 136, 3) := by decide +kernel
theorem dX10_person_27 : decode cX10_person 27 = .ok (.iconst 1, 1) := by decide +kernel
theorem dX10_person_28 : decode cX10_person 28 = .ok (.iload_n 1, 1) := by decide +kernel
theorem dX10_person_29 : decode cX10_person 29 = .ok (.ishl, 1) := by decide +kernel
theorem dX10_person_30 : decode cX10_person 30 = .ok (.ior, 1) := by decide +kernel
theorem dX10_person_31 : decode cX10_person 31 = .ok (.putfield 136, 3) := by decide +kernel
theorem dX10_person_34 : decode cX10_person 34 = .ok (.aload_n 0, 1) := by decide +kernel
theorem dX10_person_35 : decode cX10_person 35 = .ok (.getfield 19, 3) := by decide +kernel
theorem dX10_person_38 : decode cX10_person 38 = .ok (.iload_n 1, 1) := by decide +kernel
theorem dX10_person_39 : decode cX10_person 39 = .ok (.iload_n 2, 1) := by decide +kernel
theorem dX10_person_40 : decode cX10_person 40 = .ok (.iastore, 1) := by decide +kernel
theorem dX10_person_41 : decode cX10_person 41 = .ok (.iconst 1, 1) := by decide +kernel
theorem dX10_person_42 : decode cX10_person 42 = .ok (.ireturn, 1) := by decide +kernel
theorem dX10_feed_0 : decode cX10_feed 0 = .ok (.aload_n 0, 1) := by decide +kernel
theorem dX10_feed_1 : decode cX10_feed 1 = .ok (.getfield 158, 3) := by decide +kernel
theorem dX10_feed_4 : decode cX10_feed 4 = .ok (.bipush 20, 2) := by decide +kernel
theorem dX10_feed_6 : decode cX10_feed 6 = .ok (.iadd, 1) := by decide +kernel
theorem dX10_feed_7 : decode cX10_feed 7 = .ok (.sipush 260, 3) := by decide +kernel
theorem dX10_feed_10 : decode cX10_feed 10 = .ok (.if_icmp .le 5, 3) := by decide +kernel
theorem dX10_feed_13 : decode cX10_feed 13 = .ok (.iconst (-1), 1) := by decide +kernel
theorem dX10_feed_14 : decode cX10_feed 14 = .ok (.ireturn, 1) := by decide +kernel
theorem dX10_feed_15 : decode cX10_feed 15 = .ok (.aload_n 0, 1) := by decide +kernel
theorem dX10_feed_16 : decode cX10_feed 16 = .ok (.iload_n 1, 1) := by decide +kernel
theorem dX10_feed_17 : decode cX10_feed 17 = .ok (.invokevirtual 161, 3) := by decide +kernel
theorem dX10_feed_20 : decode cX10_feed 20 = .ok (.aload_n 0, 1) := by decide +kernel
theorem dX10_feed_21 : decode cX10_feed 21 = .ok (.iload_n 2, 1) := by decide +kernel
theorem dX10_feed_22 : decode cX10_feed 22 = .ok (.invokevirtual 161, 3) := by decide +kernel
theorem dX10_feed_25 : decode cX10_feed 25 = .ok (.aload_n 0, 1) := by decide +kernel
theorem dX10_feed_26 : decode cX10_feed 26 = .ok (.iload_n 3, 1) := by decide +kernel
theorem dX10_feed_27 : decode cX10_feed 27 = .ok (.invokevirtual 161, 3) := by decide +kernel
theorem dX10_feed_30 : decode cX10_feed 30 = .ok (.aload_n 0, 1) := by decide +kernel
theorem dX10_feed_31 : decode cX10_feed 31 = .ok (.iload 4, 2) := by decide +kernel
theorem dX10_feed_33 : decode cX10_feed 33 = .ok (.invokevirtual 161, 3) := by decide +kernel
theorem dX10_feed_36 : decode cX10_feed 36 = .ok (.aload_n 0, 1) := by decide +kernel
theorem dX10_feed_37 : decode cX10_feed 37 = .ok (.iload 5, 2) := by decide +kernel
theorem dX10_feed_39 : decode cX10_feed 39 = .ok (.invokevirtual 161, 3) := by decide +kernel
theorem dX10_feed_42 : decode cX10_feed 42 = .ok (.aload_n 0, 1) := by decide +kernel
theorem dX10_feed_43 : decode cX10_feed 43 = .ok (.getfield 158, 3) := by decide +kernel
theorem dX10_feed_46 : decode cX10_feed 46 = .ok (.ireturn, 1) := by decide +kernel
theorem dX10_law_0 : decode cX10_law 0 = .ok (.iload_n 1, 1) := by decide +kernel
theorem dX10_law_1 : decode cX10_law 1 = .ok (.iconst 1, 1) := by decide +kernel
theorem dX10_law_2 : decode cX10_law 2 = .ok (.sipush 240, 3) := by decide +kernel
theorem dX10_law_5 : decode cX10_law 5 = .ok (.invokestatic 132, 3) := by decide +kernel
theorem dX10_law_8 : decode cX10_law 8 = .ok (.ifCond .eq 11, 3) := by decide +kernel
theorem dX10_law_11 : decode cX10_law 11 = .ok (.iload_n 1, 1) := by decide +kernel
theorem dX10_law_12 : decode cX10_law 12 = .ok (.aload_n 0, 1) := by decide +kernel
theorem dX10_law_13 : decode cX10_law 13 = .ok (.getfield 158, 3) := by decide +kernel
theorem dX10_law_16 : decode cX10_law 16 = .ok (.if_icmp .le 5, 3) := by decide +kernel
theorem dX10_law_19 : decode cX10_law 19 = .ok (.iconst (-1), 1) := by decide +kernel
theorem dX10_law_20 : decode cX10_law 20 = .ok (.ireturn, 1) := by decide +kernel
theorem dX10_law_21 : decode cX10_law 21 = .ok (.aload_n 0, 1) := by decide +kernel
theorem dX10_law_22 : decode cX10_law 22 = .ok (.iload_n 1, 1) := by decide +kernel
theorem dX10_law_23 : decode cX10_law 23 = .ok (.invokevirtual 249, 3) := by decide +kernel
theorem dX10_law_26 : decode cX10_law 26 = .ok (.aload_n 0, 1) := by decide +kernel
theorem dX10_law_27 : decode cX10_law 27 = .ok (.invokevirtual 252, 3) := by decide +kernel
theorem dX10_law_30 : decode cX10_law 30 = .ok (.istore_n 2, 1) := by decide +kernel
theorem dX10_law_31 : decode cX10_law 31 = .ok (.iload_n 2, 1) := by decide +kernel
theorem dX10_law_32 : decode cX10_law 32 = .ok (.ifCond .eq 39, 3) := by decide +kernel
theorem dX10_law_35 : decode cX10_law 35 = .ok (.aload_n 0, 1) := by decide +kernel
theorem dX10_law_36 : decode cX10_law 36 = .ok (.getfield 165, 3) := by decide +kernel
theorem dX10_law_39 : decode cX10_law 39 = .ok (.aload_n 0, 1) := by decide +kernel
theorem dX10_law_40 : decode cX10_law 40 = .ok (.getfield 168, 3) := by decide +kernel
theorem dX10_law_43 : decode cX10_law 43 = .ok (.if_icmp .ge 28, 3) := by decide +kernel
theorem dX10_law_46 : decode cX10_law 46 = .ok (.aload_n 0, 1) := by decide +kernel
theorem dX10_law_47 : decode cX10_law 47 = .ok (.bipush 59, 2) := by decide +kernel
theorem dX10_law_49 : decode cX10_law 49 = .ok (.invokevirtual 255, 3) := by decide +kernel
theorem dX10_law_52 : decode cX10_law 52 = .ok (.ifCond .eq 14, 3) := by decide +kernel
theorem dX10_law_55 : decode cX10_law 55 = .ok (.aload_n 0, 1) := by decide +kernel
theorem dX10_law_56 : decode cX10_law 56 = .ok (.invokevirtual 252, 3) := by decide +kernel
theorem dX10_law_59 : decode cX10_law 59 = .ok (.ifCond .eq 7, 3) := by decide +kernel
theorem dX10_law_62 : decode cX10_law 62 = .ok (.iconst 1, 1) := by decide +kernel
theorem dX10_law_63 : decode cX10_law 63 = .ok (.goto 4, 3) := by decide +kernel
theorem dX10_law_66 : decode cX10_law 66 = .ok (.iconst 0, 1) := by decide +kernel
theorem dX10_law_67 : decode cX10_law 67 = .ok (.istore_n 2, 1) := by decide +kernel
theorem dX10_law_68 : decode cX10_law 68 = .ok (.goto (-37), 3) := by decide +kernel
theorem dX10_law_71 : decode cX10_law 71 = .ok (.aload_n 0, 1) := by decide +kernel
theorem dX10_law_72 : decode cX10_law 72 = .ok (.iconst 0, 1) := by decide +kernel
theorem dX10_law_73 : decode cX10_law 73 = .ok (.putfield 158, 3) := by decide +kernel
theorem dX10_law_76 : decode cX10_law 76 = .ok (.iload_n 2, 1) := by decide +kernel
theorem dX10_law_77 : decode cX10_law 77 = .ok (.ifCond .ne 8, 3) := by decide +kernel
theorem dX10_law_80 : decode cX10_law 80 = .ok (.aload_n 0, 1) := by decide +kernel
theorem dX10_law_81 : decode cX10_law 81 = .ok (.getfield 175, 3) := by decide +kernel
theorem dX10_law_84 : decode cX10_law 84 = .ok (.ireturn, 1) := by decide +kernel
theorem dX10_law_85 : decode cX10_law 85 = .ok (.aload_n 0, 1) := by decide +kernel
theorem dX10_law_86 : decode cX10_law 86 = .ok (.aload_n 0, 1) := by decide +kernel
theorem dX10_law_87 : decode cX10_law 87 = .ok (.getfield 243, 3) := by decide +kernel
theorem dX10_law_90 : decode cX10_law 90 = .ok (.putfield 258, 3) := by decide +kernel
theorem dX10_law_93 : decode cX10_law 93 = .ok (.iconst 0, 1) := by decide +kernel
theorem dX10_law_94 : decode cX10_law 94 = .ok (.istore_n 3, 1) := by decide +kernel
theorem dX10_law_95 : decode cX10_law 95 = .ok (.iload_n 3, 1) := by decide +kernel
theorem dX10_law_96 : decode cX10_law 96 = .ok (.aload_n 0, 1) := by decide +kernel
theorem dX10_law_97 : decode cX10_law 97 = .ok (.getfield 188, 3) := by decide +kernel
theorem dX10_law_100 : decode cX10_law 100 = .ok (.if_icmp .ge 21, 3) := by decide +kernel
theorem dX10_law_103 : decode cX10_law 103 = .ok (.aload_n 0, 1) := by decide +kernel
theorem dX10_law_104 : decode cX10_law 104 = .ok (.getfield 44, 3) := by decide +kernel
theorem dX10_law_107 : decode cX10_law 107 = .ok (.iload_n 3, 1) := by decide +kernel
theorem dX10_law_108 : decode cX10_law 108 = .ok (.aload_n 0, 1) := by decide +kernel
theorem dX10_law_109 : decode cX10_law 109 = .ok (.getfield 26, 3) := by decide +kernel
theorem dX10_law_112 : decode cX10_law 112 = .ok (.iload_n 3, 1) := by decide +kernel
theorem dX10_law_113 : decode cX10_law 113 = .ok (.iaload, 1) := by decide +kernel
theorem dX10_law_114 : decode cX10_law 114 = .ok (.iastore, 1) := by decide +kernel
theorem dX10_law_115 : decode cX10_law 115 = .ok (.iinc 3 1, 3) := by decide +kernel
theorem dX10_law_118 : decode cX10_law 118 = .ok (.goto (-23), 3) := by decide +kernel
theorem dX10_law_121 : decode cX10_law 121 = .ok (.iconst 0, 1) := by decide +kernel
theorem dX10_law_122 : decode cX10_law 122 = .ok (.istore_n 3, 1) := by decide +kernel
theorem dX10_law_123 : decode cX10_law 123 = .ok (.iload_n 3, 1) := by decide +kernel
theorem dX10_law_124 : decode cX10_law 124 = .ok (.aload_n 0, 1) := by decide +kernel
theorem dX10_law_125 : decode cX10_law 125 = .ok (.getfield 243, 3) := by decide +kernel
theorem dX10_law_128 : decode cX10_law 128 = .ok (.if_icmp .ge 57, 3) := by decide +kernel
theorem dX10_law_131 : decode cX10_law 131 = .ok (.aload_n 0, 1) := by decide +kernel
theorem dX10_law_132 : decode cX10_law 132 = .ok (.getfield 47, 3) := by decide +kernel
theorem dX10_law_135 : decode cX10_law 135 = .ok (.iload_n 3, 1) := by decide +kernel
theorem dX10_law_136 : decode cX10_law 136 = .ok (.aload_n 0, 1) := by decide +kernel
theorem dX10_law_137 : decode cX10_law 137 = .ok (.getfield 32, 3) := by decide +kernel
theorem dX10_law_140 : decode cX10_law 140 = .ok (.iload_n 3, 1) := by decide +kernel
theorem dX10_law_141 : decode cX10_law 141 = .ok (.iaload, 1) := by decide +kernel
theorem dX10_law_142 : decode cX10_law 142 = .ok (.iastore, 1) := by decide +kernel
theorem dX10_law_143 : decode cX10_law 143 = .ok (.aload_n 0, 1) := by decide +kernel
theorem dX10_law_144 : decode cX10_law 144 = .ok (.getfield 50, 3) := by decide +kernel
theorem dX10_law_147 : decode cX10_law 147 = .ok (.iload_n 3, 1) := by decide +kernel
theorem dX10_law_148 : decode cX10_law 148 = .ok (.aload_n 0, 1) := by decide +kernel
theorem dX10_law_149 : decode cX10_law 149 = .ok (.getfield 35, 3) := by decide +kernel
theorem dX10_law_152 : decode cX10_law 152 = .ok (.iload_n 3, 1) := by decide +kernel
theorem dX10_law_153 : decode cX10_law 153 = .ok (.iaload, 1) := by decide +kernel
theorem dX10_law_154 : decode cX10_law 154 = .ok (.iastore, 1) := by decide +kernel
theorem dX10_law_155 : decode cX10_law 155 = .ok (.aload_n 0, 1) := by decide +kernel
theorem dX10_law_156 : decode cX10_law 156 = .ok (.getfield 53, 3) := by decide +kernel
theorem dX10_law_159 : decode cX10_law 159 = .ok (.iload_n 3, 1) := by decide +kernel
theorem dX10_law_160 : decode cX10_law 160 = .ok (.aload_n 0, 1) := by decide +kernel
theorem dX10_law_161 : decode cX10_law 161 = .ok (.getfield 38, 3) := by decide +kernel
theorem dX10_law_164 : decode cX10_law 164 = .ok (.iload_n 3, 1) := by decide +kernel
theorem dX10_law_165 : decode cX10_law 165 = .ok (.iaload, 1) := by decide +kernel
theorem dX10_law_166 : decode cX10_law 166 = .ok (.iastore, 1) := by decide +kernel
theorem dX10_law_167 : decode cX10_law 167 = .ok (.aload_n 0, 1) := by decide +kernel
theorem dX10_law_168 : decode cX10_law 168 = .ok (.getfield 56, 3) := by decide +kernel
theorem dX10_law_171 : decode cX10_law 171 = .ok (.iload_n 3, 1) := by decide +kernel
theorem dX10_law_172 : decode cX10_law 172 = .ok (.aload_n 0, 1) := by decide +kernel
theorem dX10_law_173 : decode cX10_law 173 = .ok (.getfield 41, 3) := by decide +kernel
theorem dX10_law_176 : decode cX10_law 176 = .ok (.iload_n 3, 1) := by decide +kernel
theorem dX10_law_177 : decode cX10_law 177 = .ok (.iaload, 1) := by decide +kernel
theorem dX10_law_178 : decode cX10_law 178 = .ok (.iastore, 1) := by decide +kernel
theorem dX10_law_179 : decode cX10_law 179 = .ok (.iinc 3 1, 3) := by decide +kernel
theorem dX10_law_182 : decode cX10_law 182 = .ok (.goto (-59), 3) := by decide +kernel
theorem dX10_law_185 : decode cX10_law 185 = .ok (.aload_n 0, 1) := by decide +kernel
theorem dX10_law_186 : decode cX10_law 186 = .ok (.getfield 243, 3) := by decide +kernel
theorem dX10_law_189 : decode cX10_law 189 = .ok (.ireturn, 1) := by decide +kernel
theorem dX10_notebook_0 : decode cX10_notebook 0 = .ok (.iload_n 1, 1) := by decide +kernel
theorem dX10_notebook_1 : decode cX10_notebook 1 = .ok (.iconst 1, 1) := by decide +kernel
theorem dX10_notebook_2 : decode cX10_notebook 2 = .ok (.sipush 200, 3) := by decide +kernel
theorem dX10_notebook_5 : decode cX10_notebook 5 = .ok (.invokestatic 132, 3) := by decide +kernel
theorem dX10_notebook_8 : decode cX10_notebook 8 = .ok (.ifCond .eq 11, 3) := by decide +kernel
theorem dX10_notebook_11 : decode cX10_notebook 11 = .ok (.iload_n 1, 1) := by decide +kernel
theorem dX10_notebook_12 : decode cX10_notebook 12 = .ok (.aload_n 0, 1) := by decide +kernel
theorem dX10_notebook_13 : decode cX10_notebook 13 = .ok (.getfield 158, 3) := by decide +kernel
theorem dX10_notebook_16 : decode cX10_notebook 16 = .ok (.if_icmp .le 5, 3) := by decide +kernel
theorem dX10_notebook_19 : decode cX10_notebook 19 = .ok (.iconst (-1), 1) := by decide +kernel
theorem dX10_notebook_20 : decode cX10_notebook 20 = .ok (.ireturn, 1) := by decide +kernel
theorem dX10_notebook_21 : decode cX10_notebook 21 = .ok (.aload_n 0, 1) := by decide +kernel
theorem dX10_notebook_22 : decode cX10_notebook 22 = .ok (.iload_n 1, 1) := by decide +kernel
theorem dX10_notebook_23 : decode cX10_notebook 23 = .ok (.invokevirtual 249, 3) := by decide +kernel
theorem dX10_notebook_26 : decode cX10_notebook 26 = .ok (.aload_n 0, 1) := by decide +kernel
theorem dX10_notebook_27 : decode cX10_notebook 27 = .ok (.iconst 0, 1) := by decide +kernel
theorem dX10_notebook_28 : decode cX10_notebook 28 = .ok (.putfield 274, 3) := by decide +kernel
theorem dX10_notebook_31 : decode cX10_notebook 31 = .ok (.aload_n 0, 1) := by decide +kernel
theorem dX10_notebook_32 : decode cX10_notebook 32 = .ok (.invokevirtual 280, 3) := by decide +kernel
theorem dX10_notebook_35 : decode cX10_notebook 35 = .ok (.istore_n 2, 1) := by decide +kernel
theorem dX10_notebook_36 : decode cX10_notebook 36 = .ok (.iload_n 2, 1) := by decide +kernel
theorem dX10_notebook_37 : decode cX10_notebook 37 = .ok (.ifCond .eq 39, 3) := by decide +kernel
theorem dX10_notebook_40 : decode cX10_notebook 40 = .ok (.aload_n 0, 1) := by decide +kernel
theorem dX10_notebook_41 : decode cX10_notebook 41 = .ok (.getfield 165, 3) := by decide +kernel
theorem dX10_notebook_44 : decode cX10_notebook 44 = .ok (.aload_n 0, 1) := by decide +kernel
theorem dX10_notebook_45 : decode cX10_notebook 45 = .ok (.getfield 168, 3) := by decide +kernel
theorem dX10_notebook_48 : decode cX10_notebook 48 = .ok (.if_icmp .ge 28, 3) := by decide +kernel
theorem dX10_notebook_51 : decode cX10_notebook 51 = .ok (.aload_n 0, 1) := by decide +kernel
theorem dX10_notebook_52 : decode cX10_notebook 52 = .ok (.bipush 59, 2) := by decide +kernel
theorem dX10_notebook_54 : decode cX10_notebook 54 = .ok (.invokevirtual 255, 3) := by decide +kernel
theorem dX10_notebook_57 : decode cX10_notebook 57 = .ok (.ifCond .eq 14, 3) := by decide +kernel
theorem dX10_notebook_60 : decode cX10_notebook 60 = .ok (.aload_n 0, 1) := by decide +kernel
theorem dX10_notebook_61 : decode cX10_notebook 61 = .ok (.invokevirtual 280, 3) := by decide +kernel
theorem dX10_notebook_64 : decode cX10_notebook 64 = .ok (.ifCond .eq 7, 3) := by decide +kernel
theorem dX10_notebook_67 : decode cX10_notebook 67 = .ok (.iconst 1, 1) := by decide +kernel
theorem dX10_notebook_68 : decode cX10_notebook 68 = .ok (.goto 4, 3) := by decide +kernel
theorem dX10_notebook_71 : decode cX10_notebook 71 = .ok (.iconst 0, 1) := by decide +kernel
theorem dX10_notebook_72 : decode cX10_notebook 72 = .ok (.istore_n 2, 1) := by decide +kernel
theorem dX10_notebook_73 : decode cX10_notebook 73 = .ok (.goto (-37), 3) := by decide +kernel
theorem dX10_notebook_76 : decode cX10_notebook 76 = .ok (.aload_n 0, 1) := by decide +kernel
theorem dX10_notebook_77 : decode cX10_notebook 77 = .ok (.iconst 0, 1) := by decide +kernel
theorem dX10_notebook_78 : decode cX10_notebook 78 = .ok (.putfield 158, 3) := by decide +kernel
theorem dX10_notebook_81 : decode cX10_notebook 81 = .ok (.iload_n 2, 1) := by decide +kernel
theorem dX10_notebook_82 : decode cX10_notebook 82 = .ok (.ifCond .ne 8, 3) := by decide +kernel
theorem dX10_notebook_85 : decode cX10_notebook 85 = .ok (.aload_n 0, 1) := by decide +kernel
theorem dX10_notebook_86 : decode cX10_notebook 86 = .ok (.getfield 175, 3) := by decide +kernel
theorem dX10_notebook_89 : decode cX10_notebook 89 = .ok (.ireturn, 1) := by decide +kernel
theorem dX10_notebook_90 : decode cX10_notebook 90 = .ok (.iconst 0, 1) := by decide +kernel
theorem dX10_notebook_91 : decode cX10_notebook 91 = .ok (.istore_n 3, 1) := by decide +kernel
theorem dX10_notebook_92 : decode cX10_notebook 92 = .ok (.iload_n 3, 1) := by decide +kernel
theorem dX10_notebook_93 : decode cX10_notebook 93 = .ok (.bipush 40, 2) := by decide +kernel
theorem dX10_notebook_95 : decode cX10_notebook 95 = .ok (.if_icmp .ge 18, 3) := by decide +kernel
theorem dX10_notebook_98 : decode cX10_notebook 98 = .ok (.aload_n 0, 1) := by decide +kernel
theorem dX10_notebook_99 : decode cX10_notebook 99 = .ok (.getfield 7, 3) := by decide +kernel
theorem dX10_notebook_102 : decode cX10_notebook 102 = .ok (.iconst 0, 1) := by decide +kernel
theorem dX10_notebook_103 : decode cX10_notebook 103 = .ok (.iload_n 3, 1) := by decide +kernel
theorem dX10_notebook_104 : decode cX10_notebook 104 = .ok (.iadd, 1) := by decide +kernel
theorem dX10_notebook_105 : decode cX10_notebook 105 = .ok (.iconst 0, 1) := by decide +kernel
theorem dX10_notebook_106 : decode cX10_notebook 106 = .ok (.iastore, 1) := by decide +kernel
theorem dX10_notebook_107 : decode cX10_notebook 107 = .ok (.iinc 3 1, 3) := by decide +kernel
theorem dX10_notebook_110 : decode cX10_notebook 110 = .ok (.goto (-18), 3) := by decide +kernel
theorem dX10_notebook_113 : decode cX10_notebook 113 = .ok (.iconst 0, 1) := by decide +kernel
theorem dX10_notebook_114 : decode cX10_notebook 114 = .ok (.istore_n 3, 1) := by decide +kernel
theorem dX10_notebook_115 : decode cX10_notebook 115 = .ok (.iload_n 3, 1) := by decide +kernel
theorem dX10_notebook_116 : decode cX10_notebook 116 = .ok (.aload_n 0, 1) := by decide +kernel
theorem dX10_notebook_117 : decode cX10_notebook 117 = .ok (.getfield 274, 3) := by decide +kernel
theorem dX10_notebook_120 : decode cX10_notebook 120 = .ok (.if_icmp .ge 38, 3) := by decide +kernel
theorem dX10_notebook_123 : decode cX10_notebook 123 = .ok (.aload_n 0, 1) := by decide +kernel
theorem dX10_notebook_124 : decode cX10_notebook 124 = .ok (.iload_n 3, 1) := by decide +kernel
theorem dX10_notebook_125 : decode cX10_notebook 125 = .ok (.aload_n 0, 1) := by decide +kernel
theorem dX10_notebook_126 : decode cX10_notebook 126 = .ok (.getfield 65, 3) := by decide +kernel
theorem dX10_notebook_129 : decode cX10_notebook 129 = .ok (.iload_n 3, 1) := by decide +kernel
theorem dX10_notebook_130 : decode cX10_notebook 130 = .ok (.iaload, 1) := by decide +kernel
theorem dX10_notebook_131 : decode cX10_notebook 131 = .ok (.aload_n 0, 1) := by decide +kernel
theorem dX10_notebook_132 : decode cX10_notebook 132 = .ok (.getfield 68, 3) := by decide +kernel
theorem dX10_notebook_135 : decode cX10_notebook 135 = .ok (.iload_n 3, 1) := by decide +kernel
theorem dX10_notebook_136 : decode cX10_notebook 136 = .ok (.iaload, 1) := by decide +kernel
theorem dX10_notebook_137 : decode cX10_notebook 137 = .ok (.aload_n 0, 1) := by decide +kernel
theorem dX10_notebook_138 : decode cX10_notebook 138 = .ok (.getfield 71, 3) := by decide +kernel
theorem dX10_notebook_141 : decode cX10_notebook 141 = .ok (.iload_n 3, 1) := by decide +kernel
theorem dX10_notebook_142 : decode cX10_notebook 142 = .ok (.iaload, 1) := by decide +kernel
theorem dX10_notebook_143 : decode cX10_notebook 143 = .ok (.aload_n 0, 1) := by decide +kernel
theorem dX10_notebook_144 : decode cX10_notebook 144 = .ok (.getfield 74, 3) := by decide +kernel
theorem dX10_notebook_147 : decode cX10_notebook 147 = .ok (.iload_n 3, 1) := by decide +kernel
theorem dX10_notebook_148 : decode cX10_notebook 148 = .ok (.iaload, 1) := by decide +kernel
theorem dX10_notebook_149 : decode cX10_notebook 149 = .ok (.invokevirtual 150, 3) := by decide +kernel
theorem dX10_notebook_152 : decode cX10_notebook 152 = .ok (.iinc 3 1, 3) := by decide +kernel
theorem dX10_notebook_155 : decode cX10_notebook 155 = .ok (.goto (-40), 3) := by decide +kernel
theorem dX10_notebook_158 : decode cX10_notebook 158 = .ok (.aload_n 0, 1) := by decide +kernel
theorem dX10_notebook_159 : decode cX10_notebook 159 = .ok (.getfield 274, 3) := by decide +kernel
theorem dX10_notebook_162 : decode cX10_notebook 162 = .ok (.ireturn, 1) := by decide +kernel
theorem dX10_nights_0 : decode cX10_nights 0 = .ok (.iload_n 1, 1) := by decide +kernel
theorem dX10_nights_1 : decode cX10_nights 1 = .ok (.iconst 1, 1) := by decide +kernel
theorem dX10_nights_2 : decode cX10_nights 2 = .ok (.bipush 60, 2) := by decide +kernel
theorem dX10_nights_4 : decode cX10_nights 4 = .ok (.invokestatic 132, 3) := by decide +kernel
theorem dX10_nights_7 : decode cX10_nights 7 = .ok (.ifCond .ne 5, 3) := by decide +kernel
theorem dX10_nights_10 : decode cX10_nights 10 = .ok (.iconst (-1), 1) := by decide +kernel
theorem dX10_nights_11 : decode cX10_nights 11 = .ok (.ireturn, 1) := by decide +kernel
theorem dX10_nights_12 : decode cX10_nights 12 = .ok (.aload_n 0, 1) := by decide +kernel
theorem dX10_nights_13 : decode cX10_nights 13 = .ok (.iload_n 1, 1) := by decide +kernel
theorem dX10_nights_14 : decode cX10_nights 14 = .ok (.invokevirtual 308, 3) := by decide +kernel
theorem dX10_nights_17 : decode cX10_nights 17 = .ok (.aload_n 0, 1) := by decide +kernel
theorem dX10_nights_18 : decode cX10_nights 18 = .ok (.getfield 293, 3) := by decide +kernel
theorem dX10_nights_21 : decode cX10_nights 21 = .ok (.ireturn, 1) := by decide +kernel
theorem dX10_tried_0 : decode cX10_tried 0 = .ok (.iload_n 1, 1) := by decide +kernel
theorem dX10_tried_1 : decode cX10_tried 1 = .ok (.iconst 1, 1) := by decide +kernel
theorem dX10_tried_2 : decode cX10_tried 2 = .ok (.bipush 60, 2) := by decide +kernel
theorem dX10_tried_4 : decode cX10_tried 4 = .ok (.invokestatic 132, 3) := by decide +kernel
theorem dX10_tried_7 : decode cX10_tried 7 = .ok (.ifCond .eq 35, 3) := by decide +kernel
theorem dX10_tried_10 : decode cX10_tried 10 = .ok (.iload_n 2, 1) := by decide +kernel
theorem dX10_tried_11 : decode cX10_tried 11 = .ok (.iconst 0, 1) := by decide +kernel
theorem dX10_tried_12 : decode cX10_tried 12 = .ok (.iconst 3, 1) := by decide +kernel
theorem dX10_tried_13 : decode cX10_tried 13 = .ok (.invokestatic 132, 3) := by decide +kernel
theorem dX10_tried_16 : decode cX10_tried 16 = .ok (.ifCond .ne 30, 3) := by decide +kernel
theorem dX10_tried_19 : decode cX10_tried 19 = .ok (.aload_n 0, 1) := by decide +kernel
theorem dX10_tried_20 : decode cX10_tried 20 = .ok (.iload_n 2, 1) := by decide +kernel
theorem dX10_tried_21 : decode cX10_tried 21 = .ok (.bipush 100, 2) := by decide +kernel
theorem dX10_tried_23 : decode cX10_tried 23 = .ok (.isub, 1) := by decide +kernel
theorem dX10_tried_24 : decode cX10_tried 24 = .ok (.invokevirtual 154, 3) := by decide +kernel
theorem dX10_tried_27 : decode cX10_tried 27 = .ok (.ifCond .ne 19, 3) := by decide +kernel
theorem dX10_tried_30 : decode cX10_tried 30 = .ok (.aload_n 0, 1) := by decide +kernel
theorem dX10_tried_31 : decode cX10_tried 31 = .ok (.iload_n 2, 1) := by decide +kernel
theorem dX10_tried_32 : decode cX10_tried 32 = .ok (.sipush 200, 3) := by decide +kernel
theorem dX10_tried_35 : decode cX10_tried 35 = .ok (.isub, 1) := by decide +kernel
theorem dX10_tried_36 : decode cX10_tried 36 = .ok (.invokevirtual 154, 3) := by decide +kernel
theorem dX10_tried_39 : decode cX10_tried 39 = .ok (.ifCond .ne 7, 3) := by decide +kernel
theorem dX10_tried_42 : decode cX10_tried 42 = .ok (.ldc_w 311, 3) := by decide +kernel
theorem dX10_tried_45 : decode cX10_tried 45 = .ok (.ireturn, 1) := by decide +kernel
theorem dX10_tried_46 : decode cX10_tried 46 = .ok (.aload_n 0, 1) := by decide +kernel
theorem dX10_tried_47 : decode cX10_tried 47 = .ok (.bipush 40, 2) := by decide +kernel
theorem dX10_tried_49 : decode cX10_tried 49 = .ok (.invokevirtual 312, 3) := by decide +kernel
theorem dX10_tried_52 : decode cX10_tried 52 = .ok (.istore_n 3, 1) := by decide +kernel
theorem dX10_tried_53 : decode cX10_tried 53 = .ok (.aload_n 0, 1) := by decide +kernel
theorem dX10_tried_54 : decode cX10_tried 54 = .ok (.getfield 7, 3) := by decide +kernel
theorem dX10_tried_57 : decode cX10_tried 57 = .ok (.aload_n 0, 1) := by decide +kernel
theorem dX10_tried_58 : decode cX10_tried 58 = .ok (.getfield 13, 3) := by decide +kernel
theorem dX10_tried_61 : decode cX10_tried 61 = .ok (.invokestatic 315, 3) := by decide +kernel
theorem dX10_tried_64 : decode cX10_tried 64 = .ok (.aload_n 0, 1) := by decide +kernel
theorem dX10_tried_65 : decode cX10_tried 65 = .ok (.iload_n 1, 1) := by decide +kernel
theorem dX10_tried_66 : decode cX10_tried 66 = .ok (.invokevirtual 308, 3) := by decide +kernel
theorem dX10_tried_69 : decode cX10_tried 69 = .ok (.iload_n 2, 1) := by decide +kernel
theorem dX10_tried_70 : decode cX10_tried 70 = .ok (.tableswitch 73 0 3 #[30, 39, 48, 60], 30) := by decide +kernel
theorem dX10_tried_100 : decode cX10_tried 100 = .ok (.aload_n 0, 1) := by decide +kernel
theorem dX10_tried_101 : decode cX10_tried 101 = .ok (.getfield 293, 3) := by decide +kernel
theorem dX10_tried_104 : decode cX10_tried 104 = .ok (.istore 4, 2) := by decide +kernel
theorem dX10_tried_106 : decode cX10_tried 106 = .ok (.goto 74, 3) := by decide +kernel
theorem dX10_tried_109 : decode cX10_tried 109 = .ok (.aload_n 0, 1) := by decide +kernel
theorem dX10_tried_110 : decode cX10_tried 110 = .ok (.getfield 296, 3) := by decide +kernel
theorem dX10_tried_113 : decode cX10_tried 113 = .ok (.istore 4, 2) := by decide +kernel
theorem dX10_tried_115 : decode cX10_tried 115 = .ok (.goto 65, 3) := by decide +kernel
theorem dX10_tried_118 : decode cX10_tried 118 = .ok (.aload_n 0, 1) := by decide +kernel
theorem dX10_tried_119 : decode cX10_tried 119 = .ok (.sipush 160, 3) := by decide +kernel
theorem dX10_tried_122 : decode cX10_tried 122 = .ok (.invokevirtual 312, 3) := by decide +kernel
theorem dX10_tried_125 : decode cX10_tried 125 = .ok (.istore 4, 2) := by decide +kernel
theorem dX10_tried_127 : decode cX10_tried 127 = .ok (.goto 53, 3) := by decide +kernel
theorem dX10_tried_130 : decode cX10_tried 130 = .ok (.aload_n 0, 1) := by decide +kernel
theorem dX10_tried_131 : decode cX10_tried 131 = .ok (.bipush 40, 2) := by decide +kernel
theorem dX10_tried_133 : decode cX10_tried 133 = .ok (.invokevirtual 312, 3) := by decide +kernel
theorem dX10_tried_136 : decode cX10_tried 136 = .ok (.iload_n 3, 1) := by decide +kernel
theorem dX10_tried_137 : decode cX10_tried 137 = .ok (.isub, 1) := by decide +kernel
theorem dX10_tried_138 : decode cX10_tried 138 = .ok (.istore 4, 2) := by decide +kernel
theorem dX10_tried_140 : decode cX10_tried 140 = .ok (.goto 40, 3) := by decide +kernel
theorem dX10_tried_143 : decode cX10_tried 143 = .ok (.iload_n 2, 1) := by decide +kernel
theorem dX10_tried_144 : decode cX10_tried 144 = .ok (.sipush 200, 3) := by decide +kernel
theorem dX10_tried_147 : decode cX10_tried 147 = .ok (.if_icmp .ge 18, 3) := by decide +kernel
theorem dX10_tried_150 : decode cX10_tried 150 = .ok (.aload_n 0, 1) := by decide +kernel
theorem dX10_tried_151 : decode cX10_tried 151 = .ok (.getfield 7, 3) := by decide +kernel
theorem dX10_tried_154 : decode cX10_tried 154 = .ok (.bipush 40, 2) := by decide +kernel
theorem dX10_tried_156 : decode cX10_tried 156 = .ok (.iload_n 2, 1) := by decide +kernel
theorem dX10_tried_157 : decode cX10_tried 157 = .ok (.iadd, 1) := by decide +kernel
theorem dX10_tried_158 : decode cX10_tried 158 = .ok (.bipush 100, 2) := by decide +kernel
theorem dX10_tried_160 : decode cX10_tried 160 = .ok (.isub, 1) := by decide +kernel
theorem dX10_tried_161 : decode cX10_tried 161 = .ok (.iaload, 1) := by decide +kernel
theorem dX10_tried_162 : decode cX10_tried 162 = .ok (.goto 16, 3) := by decide +kernel
theorem dX10_tried_165 : decode cX10_tried 165 = .ok (.aload_n 0, 1) := by decide +kernel
theorem dX10_tried_166 : decode cX10_tried 166 = .ok (.getfield 7, 3) := by decide +kernel
theorem dX10_tried_169 : decode cX10_tried 169 = .ok (.bipush 80, 2) := by decide +kernel
theorem dX10_tried_171 : decode cX10_tried 171 = .ok (.iload_n 2, 1) := by decide +kernel
theorem dX10_tried_172 : decode cX10_tried 172 = .ok (.iadd, 1) := by decide +kernel
theorem dX10_tried_173 : decode cX10_tried 173 = .ok (.sipush 200, 3) := by decide +kernel
theorem dX10_tried_176 : decode cX10_tried 176 = .ok (.isub, 1) := by decide +kernel
theorem dX10_tried_177 : decode cX10_tried 177 = .ok (.iaload, 1) := by decide +kernel
theorem dX10_tried_178 : decode cX10_tried 178 = .ok (.istore 4, 2) := by decide +kernel
theorem dX10_tried_180 : decode cX10_tried 180 = .ok (.aload_n 0, 1) := by decide +kernel
theorem dX10_tried_181 : decode cX10_tried 181 = .ok (.getfield 13, 3) := by decide +kernel
theorem dX10_tried_184 : decode cX10_tried 184 = .ok (.aload_n 0, 1) := by decide +kernel
theorem dX10_tried_185 : decode cX10_tried 185 = .ok (.getfield 7, 3) := by decide +kernel
theorem dX10_tried_188 : decode cX10_tried 188 = .ok (.invokestatic 315, 3) := by decide +kernel
theorem dX10_tried_191 : decode cX10_tried 191 = .ok (.iload 4, 2) := by decide +kernel
theorem dX10_tried_193 : decode cX10_tried 193 = .ok (.ireturn, 1) := by decide +kernel
theorem dX10_stoneIs_0 : decode cX10_stoneIs 0 = .ok (.aload_n 0, 1) := by decide +kernel
theorem dX10_stoneIs_1 : decode cX10_stoneIs 1 = .ok (.iload_n 1, 1) := by decide +kernel
theorem dX10_stoneIs_2 : decode cX10_stoneIs 2 = .ok (.invokevirtual 154, 3) := by decide +kernel
theorem dX10_stoneIs_5 : decode cX10_stoneIs 5 = .ok (.ifCond .ne 5, 3) := by decide +kernel
theorem dX10_stoneIs_8 : decode cX10_stoneIs 8 = .ok (.iconst (-1), 1) := by decide +kernel
theorem dX10_stoneIs_9 : decode cX10_stoneIs 9 = .ok (.ireturn, 1) := by decide +kernel
theorem dX10_stoneIs_10 : decode cX10_stoneIs 10 = .ok (.iload_n 2, 1) := by decide +kernel
theorem dX10_stoneIs_11 : decode cX10_stoneIs 11 = .ok (.tableswitch 80 0 4 #[33, 43, 53, 63, 74], 33) := by decide +kernel
theorem dX10_stoneIs_44 : decode cX10_stoneIs 44 = .ok (.aload_n 0, 1) := by decide +kernel
theorem dX10_stoneIs_45 : decode cX10_stoneIs 45 = .ok (.getfield 7, 3) := by decide +kernel
theorem dX10_stoneIs_48 : decode cX10_stoneIs 48 = .ok (.bipush 40, 2) := by decide +kernel
theorem dX10_stoneIs_50 : decode cX10_stoneIs 50 = .ok (.iload_n 1, 1) := by decide +kernel
theorem dX10_stoneIs_51 : decode cX10_stoneIs 51 = .ok (.iadd, 1) := by decide +kernel
theorem dX10_stoneIs_52 : decode cX10_stoneIs 52 = .ok (.iaload, 1) := by decide +kernel
theorem dX10_stoneIs_53 : decode cX10_stoneIs 53 = .ok (.ireturn, 1) := by decide +kernel
theorem dX10_stoneIs_54 : decode cX10_stoneIs 54 = .ok (.aload_n 0, 1) := by decide +kernel
theorem dX10_stoneIs_55 : decode cX10_stoneIs 55 = .ok (.getfield 7, 3) := by decide +kernel
theorem dX10_stoneIs_58 : decode cX10_stoneIs 58 = .ok (.bipush 80, 2) := by decide +kernel
theorem dX10_stoneIs_60 : decode cX10_stoneIs 60 = .ok (.iload_n 1, 1) := by decide +kernel
theorem dX10_stoneIs_61 : decode cX10_stoneIs 61 = .ok (.iadd, 1) := by decide +kernel
theorem dX10_stoneIs_62 : decode cX10_stoneIs 62 = .ok (.iaload, 1) := by decide +kernel
theorem dX10_stoneIs_63 : decode cX10_stoneIs 63 = .ok (.ireturn, 1) := by decide +kernel
theorem dX10_stoneIs_64 : decode cX10_stoneIs 64 = .ok (.aload_n 0, 1) := by decide +kernel
theorem dX10_stoneIs_65 : decode cX10_stoneIs 65 = .ok (.getfield 7, 3) := by decide +kernel
theorem dX10_stoneIs_68 : decode cX10_stoneIs 68 = .ok (.bipush 120, 2) := by decide +kernel
theorem dX10_stoneIs_70 : decode cX10_stoneIs 70 = .ok (.iload_n 1, 1) := by decide +kernel
theorem dX10_stoneIs_71 : decode cX10_stoneIs 71 = .ok (.iadd, 1) := by decide +kernel
theorem dX10_stoneIs_72 : decode cX10_stoneIs 72 = .ok (.iaload, 1) := by decide +kernel
theorem dX10_stoneIs_73 : decode cX10_stoneIs 73 = .ok (.ireturn, 1) := by decide +kernel
theorem dX10_stoneIs_74 : decode cX10_stoneIs 74 = .ok (.aload_n 0, 1) := by decide +kernel
theorem dX10_stoneIs_75 : decode cX10_stoneIs 75 = .ok (.getfield 7, 3) := by decide +kernel
theorem dX10_stoneIs_78 : decode cX10_stoneIs 78 = .ok (.sipush 160, 3) := by decide +kernel
theorem dX10_stoneIs_81 : decode cX10_stoneIs 81 = .ok (.iload_n 1, 1) := by decide +kernel
theorem dX10_stoneIs_82 : decode cX10_stoneIs 82 = .ok (.iadd, 1) := by decide +kernel
theorem dX10_stoneIs_83 : decode cX10_stoneIs 83 = .ok (.iaload, 1) := by decide +kernel
theorem dX10_stoneIs_84 : decode cX10_stoneIs 84 = .ok (.ireturn, 1) := by decide +kernel
theorem dX10_stoneIs_85 : decode cX10_stoneIs 85 = .ok (.aload_n 0, 1) := by decide +kernel
theorem dX10_stoneIs_86 : decode cX10_stoneIs 86 = .ok (.iload_n 1, 1) := by decide +kernel
theorem dX10_stoneIs_87 : decode cX10_stoneIs 87 = .ok (.invokevirtual 268, 3) := by decide +kernel
theorem dX10_stoneIs_90 : decode cX10_stoneIs 90 = .ok (.ireturn, 1) := by decide +kernel
theorem dX10_stoneIs_91 : decode cX10_stoneIs 91 = .ok (.iconst (-1), 1) := by decide +kernel
theorem dX10_stoneIs_92 : decode cX10_stoneIs 92 = .ok (.ireturn, 1) := by decide +kernel
theorem dX10_at_0 : decode cX10_at 0 = .ok (.iload_n 1, 1) := by decide +kernel
theorem dX10_at_1 : decode cX10_at 1 = .ok (.iconst 0, 1) := by decide +kernel
theorem dX10_at_2 : decode cX10_at 2 = .ok (.bipush 39, 2) := by decide +kernel
theorem dX10_at_4 : decode cX10_at 4 = .ok (.invokestatic 132, 3) := by decide +kernel
theorem dX10_at_7 : decode cX10_at 7 = .ok (.ifCond .eq 13, 3) := by decide +kernel
theorem dX10_at_10 : decode cX10_at 10 = .ok (.iload_n 2, 1) := by decide +kernel
theorem dX10_at_11 : decode cX10_at 11 = .ok (.iconst 1, 1) := by decide +kernel
theorem dX10_at_12 : decode cX10_at 12 = .ok (.bipush 20, 2) := by decide +kernel
theorem dX10_at_14 : decode cX10_at 14 = .ok (.invokestatic 132, 3) := by decide +kernel
theorem dX10_at_17 : decode cX10_at 17 = .ok (.ifCond .ne 5, 3) := by decide +kernel
theorem dX10_at_20 : decode cX10_at 20 = .ok (.iconst (-1), 1) := by decide +kernel
theorem dX10_at_21 : decode cX10_at 21 = .ok (.ireturn, 1) := by decide +kernel
theorem dX10_at_22 : decode cX10_at 22 = .ok (.aload_n 0, 1) := by decide +kernel
theorem dX10_at_23 : decode cX10_at 23 = .ok (.iload_n 1, 1) := by decide +kernel
theorem dX10_at_24 : decode cX10_at 24 = .ok (.iload_n 2, 1) := by decide +kernel
theorem dX10_at_25 : decode cX10_at 25 = .ok (.invokevirtual 147, 3) := by decide +kernel
theorem dX10_at_28 : decode cX10_at 28 = .ok (.istore_n 3, 1) := by decide +kernel
theorem dX10_at_29 : decode cX10_at 29 = .ok (.iload_n 3, 1) := by decide +kernel
theorem dX10_at_30 : decode cX10_at 30 = .ok (.iconst (-1), 1) := by decide +kernel
theorem dX10_at_31 : decode cX10_at 31 = .ok (.if_icmp .ne 8, 3) := by decide +kernel
theorem dX10_at_34 : decode cX10_at 34 = .ok (.bipush (-2), 2) := by decide +kernel
theorem dX10_at_36 : decode cX10_at 36 = .ok (.goto 4, 3) := by decide +kernel
theorem dX10_at_39 : decode cX10_at 39 = .ok (.iload_n 3, 1) := by decide +kernel
theorem dX10_at_40 : decode cX10_at 40 = .ok (.ireturn, 1) := by decide +kernel
theorem dX10_cross_0 : decode cX10_cross 0 = .ok (.aload_n 0, 1) := by decide +kernel
theorem dX10_cross_1 : decode cX10_cross 1 = .ok (.iload_n 1, 1) := by decide +kernel
theorem dX10_cross_2 : decode cX10_cross 2 = .ok (.invokevirtual 334, 3) := by decide +kernel
theorem dX10_cross_5 : decode cX10_cross 5 = .ok (.ifCond .eq 24, 3) := by decide +kernel
theorem dX10_cross_8 : decode cX10_cross 8 = .ok (.iload_n 2, 1) := by decide +kernel
theorem dX10_cross_9 : decode cX10_cross 9 = .ok (.iconst 0, 1) := by decide +kernel
theorem dX10_cross_10 : decode cX10_cross 10 = .ok (.bipush 39, 2) := by decide +kernel
theorem dX10_cross_12 : decode cX10_cross 12 = .ok (.invokestatic 132, 3) := by decide +kernel
theorem dX10_cross_15 : decode cX10_cross 15 = .ok (.ifCond .ne 16, 3) := by decide +kernel
theorem dX10_cross_18 : decode cX10_cross 18 = .ok (.iload_n 2, 1) := by decide +kernel
theorem dX10_cross_19 : decode cX10_cross 19 = .ok (.bipush 100, 2) := by decide +kernel
theorem dX10_cross_21 : decode cX10_cross 21 = .ok (.bipush 101, 2) := by decide +kernel
theorem dX10_cross_23 : decode cX10_cross 23 = .ok (.invokestatic 132, 3) := by decide +kernel
theorem dX10_cross_26 : decode cX10_cross 26 = .ok (.ifCond .ne 5, 3) := by decide +kernel
theorem dX10_cross_29 : decode cX10_cross 29 = .ok (.iconst (-1), 1) := by decide +kernel
theorem dX10_cross_30 : decode cX10_cross 30 = .ok (.ireturn, 1) := by decide +kernel
theorem dX10_cross_31 : decode cX10_cross 31 = .ok (.aload_n 0, 1) := by decide +kernel
theorem dX10_cross_32 : decode cX10_cross 32 = .ok (.getfield 19, 3) := by decide +kernel
theorem dX10_cross_35 : decode cX10_cross 35 = .ok (.iload_n 1, 1) := by decide +kernel
theorem dX10_cross_36 : decode cX10_cross 36 = .ok (.iaload, 1) := by decide +kernel
theorem dX10_cross_37 : decode cX10_cross 37 = .ok (.istore_n 3, 1) := by decide +kernel
theorem dX10_cross_38 : decode cX10_cross 38 = .ok (.aload_n 0, 1) := by decide +kernel
theorem dX10_cross_39 : decode cX10_cross 39 = .ok (.iload_n 3, 1) := by decide +kernel
theorem dX10_cross_40 : decode cX10_cross 40 = .ok (.invokevirtual 337, 3) := by decide +kernel
theorem dX10_cross_43 : decode cX10_cross 43 = .ok (.istore 4, 2) := by decide +kernel
theorem dX10_cross_45 : decode cX10_cross 45 = .ok (.iload 4, 2) := by decide +kernel
theorem dX10_cross_47 : decode cX10_cross 47 = .ok (.iconst (-1), 1) := by decide +kernel
theorem dX10_cross_48 : decode cX10_cross 48 = .ok (.if_icmp .ne 6, 3) := by decide +kernel
theorem dX10_cross_51 : decode cX10_cross 51 = .ok (.bipush (-2), 2) := by decide +kernel
theorem dX10_cross_53 : decode cX10_cross 53 = .ok (.ireturn, 1) := by decide +kernel
theorem dX10_cross_54 : decode cX10_cross 54 = .ok (.iload_n 2, 1) := by decide +kernel
theorem dX10_cross_55 : decode cX10_cross 55 = .ok (.bipush 100, 2) := by decide +kernel
theorem dX10_cross_57 : decode cX10_cross 57 = .ok (.if_icmp .ne 6, 3) := by decide +kernel
theorem dX10_cross_60 : decode cX10_cross 60 = .ok (.iload 4, 2) := by decide +kernel
theorem dX10_cross_62 : decode cX10_cross 62 = .ok (.ireturn, 1) := by decide +kernel
theorem dX10_cross_63 : decode cX10_cross 63 = .ok (.iload_n 2, 1) := by decide +kernel
theorem dX10_cross_64 : decode cX10_cross 64 = .ok (.bipush 100, 2) := by decide +kernel
theorem dX10_cross_66 : decode cX10_cross 66 = .ok (.if_icmp .ge 14, 3) := by decide +kernel
theorem dX10_cross_69 : decode cX10_cross 69 = .ok (.iload_n 2, 1) := by decide +kernel
theorem dX10_cross_70 : decode cX10_cross 70 = .ok (.iload 4, 2) := by decide +kernel
theorem dX10_cross_72 : decode cX10_cross 72 = .ok (.iconst 1, 1) := by decide +kernel
theorem dX10_cross_73 : decode cX10_cross 73 = .ok (.isub, 1) := by decide +kernel
theorem dX10_cross_74 : decode cX10_cross 74 = .ok (.if_icmp .lt 6, 3) := by decide +kernel
theorem dX10_cross_77 : decode cX10_cross 77 = .ok (.bipush (-4), 2) := by decide +kernel
theorem dX10_cross_79 : decode cX10_cross 79 = .ok (.ireturn, 1) := by decide +kernel
theorem dX10_cross_80 : decode cX10_cross 80 = .ok (.iload 4, 2) := by decide +kernel
theorem dX10_cross_82 : decode cX10_cross 82 = .ok (.iconst 1, 1) := by decide +kernel
theorem dX10_cross_83 : decode cX10_cross 83 = .ok (.if_icmp .ne 5, 3) := by decide +kernel
theorem dX10_cross_86 : decode cX10_cross 86 = .ok (.iconst 1, 1) := by decide +kernel
theorem dX10_cross_87 : decode cX10_cross 87 = .ok (.ireturn, 1) := by decide +kernel
theorem dX10_cross_88 : decode cX10_cross 88 = .ok (.aload_n 0, 1) := by decide +kernel
theorem dX10_cross_89 : decode cX10_cross 89 = .ok (.aload_n 0, 1) := by decide +kernel
theorem dX10_cross_90 : decode cX10_cross 90 = .ok (.getfield 80, 3) := by decide +kernel
theorem dX10_cross_93 : decode cX10_cross 93 = .ok (.iconst 0, 1) := by decide +kernel
theorem dX10_cross_94 : decode cX10_cross 94 = .ok (.iload_n 3, 1) := by decide +kernel
theorem dX10_cross_95 : decode cX10_cross 95 = .ok (.invokevirtual 329, 3) := by decide +kernel
theorem dX10_cross_98 : decode cX10_cross 98 = .ok (.aload_n 0, 1) := by decide +kernel
theorem dX10_cross_99 : decode cX10_cross 99 = .ok (.iload_n 3, 1) := by decide +kernel
theorem dX10_cross_100 : decode cX10_cross 100 = .ok (.invokevirtual 340, 3) := by decide +kernel
theorem dX10_cross_103 : decode cX10_cross 103 = .ok (.iload_n 2, 1) := by decide +kernel
theorem dX10_cross_104 : decode cX10_cross 104 = .ok (.bipush 101, 2) := by decide +kernel
theorem dX10_cross_106 : decode cX10_cross 106 = .ok (.if_icmp .ne 68, 3) := by decide +kernel
theorem dX10_cross_109 : decode cX10_cross 109 = .ok (.iconst 0, 1) := by decide +kernel
theorem dX10_cross_110 : decode cX10_cross 110 = .ok (.istore 5, 2) := by decide +kernel
theorem dX10_cross_112 : decode cX10_cross 112 = .ok (.iconst 0, 1) := by decide +kernel
theorem dX10_cross_113 : decode cX10_cross 113 = .ok (.istore 6, 2) := by decide +kernel
theorem dX10_cross_115 : decode cX10_cross 115 = .ok (.iload 6, 2) := by decide +kernel
theorem dX10_cross_117 : decode cX10_cross 117 = .ok (.bipush 40, 2) := by decide +kernel
theorem dX10_cross_119 : decode cX10_cross 119 = .ok (.if_icmp .ge 52, 3) := by decide +kernel
theorem dX10_cross_122 : decode cX10_cross 122 = .ok (.aload_n 0, 1) := by decide +kernel
theorem dX10_cross_123 : decode cX10_cross 123 = .ok (.iload 6, 2) := by decide +kernel
theorem dX10_cross_125 : decode cX10_cross 125 = .ok (.iconst 1, 1) := by decide +kernel
theorem dX10_cross_126 : decode cX10_cross 126 = .ok (.iload_n 3, 1) := by decide +kernel
theorem dX10_cross_127 : decode cX10_cross 127 = .ok (.invokevirtual 322, 3) := by decide +kernel
theorem dX10_cross_130 : decode cX10_cross 130 = .ok (.ifCond .eq 35, 3) := by decide +kernel
theorem dX10_cross_133 : decode cX10_cross 133 = .ok (.aload_n 0, 1) := by decide +kernel
theorem dX10_cross_134 : decode cX10_cross 134 = .ok (.getfield 80, 3) := by decide +kernel
theorem dX10_cross_137 : decode cX10_cross 137 = .ok (.iload 6, 2) := by decide +kernel
theorem dX10_cross_139 : decode cX10_cross 139 = .ok (.iaload, 1) := by decide +kernel
theorem dX10_cross_140 : decode cX10_cross 140 = .ok (.iload 4, 2) := by decide +kernel
theorem dX10_cross_142 : decode cX10_cross 142 = .ok (.iconst 1, 1) := by decide +kernel
theorem dX10_cross_143 : decode cX10_cross 143 = .ok (.isub, 1) := by decide +kernel
theorem dX10_cross_144 : decode cX10_cross 144 = .ok (.if_icmp .ne 21, 3) := by decide +kernel
theorem dX10_cross_147 : decode cX10_cross 147 = .ok (.ldc_w 333, 3) := by decide +kernel
theorem dX10_cross_150 : decode cX10_cross 150 = .ok (.iload 5, 2) := by decide +kernel
theorem dX10_cross_152 : decode cX10_cross 152 = .ok (.aload_n 0, 1) := by decide +kernel
theorem dX10_cross_153 : decode cX10_cross 153 = .ok (.getfield 86, 3) := by decide +kernel
theorem dX10_cross_156 : decode cX10_cross 156 = .ok (.iload 6, 2) := by decide +kernel
theorem dX10_cross_158 : decode cX10_cross 158 = .ok (.iaload, 1) := by decide +kernel
theorem dX10_cross_159 : decode cX10_cross 159 = .ok (.iadd, 1) := by decide +kernel
theorem dX10_cross_160 : decode cX10_cross 160 = .ok (.invokestatic 125, 3) := by decide +kernel
theorem dX10_cross_163 : decode cX10_cross 163 = .ok (.istore 5, 2) := by decide +kernel
theorem dX10_cross_165 : decode cX10_cross 165 = .ok (.iinc 6 1, 3) := by decide +kernel
theorem dX10_cross_168 : decode cX10_cross 168 = .ok (.goto (-53), 3) := by decide +kernel
theorem dX10_cross_171 : decode cX10_cross 171 = .ok (.iload 5, 2) := by decide +kernel
theorem dX10_cross_173 : decode cX10_cross 173 = .ok (.ireturn, 1) := by decide +kernel
theorem dX10_cross_174 : decode cX10_cross 174 = .ok (.iconst (-1), 1) := by decide +kernel
theorem dX10_cross_175 : decode cX10_cross 175 = .ok (.istore 5, 2) := by decide +kernel
theorem dX10_cross_177 : decode cX10_cross 177 = .ok (.iconst 0, 1) := by decide +kernel
theorem dX10_cross_178 : decode cX10_cross 178 = .ok (.istore 6, 2) := by decide +kernel
theorem dX10_cross_180 : decode cX10_cross 180 = .ok (.iload 6, 2) := by decide +kernel
theorem dX10_cross_182 : decode cX10_cross 182 = .ok (.iload_n 2, 1) := by decide +kernel
theorem dX10_cross_183 : decode cX10_cross 183 = .ok (.if_icmp .gt 73, 3) := by decide +kernel
theorem dX10_cross_186 : decode cX10_cross 186 = .ok (.iconst 0, 1) := by decide +kernel
theorem dX10_cross_187 : decode cX10_cross 187 = .ok (.istore 7, 2) := by decide +kernel
theorem dX10_cross_189 : decode cX10_cross 189 = .ok (.aload_n 0, 1) := by decide +kernel
theorem dX10_cross_190 : decode cX10_cross 190 = .ok (.getfield 80, 3) := by decide +kernel
theorem dX10_cross_193 : decode cX10_cross 193 = .ok (.iload 7, 2) := by decide +kernel
theorem dX10_cross_195 : decode cX10_cross 195 = .ok (.iaload, 1) := by decide +kernel
theorem dX10_cross_196 : decode cX10_cross 196 = .ok (.iload 4, 2) := by decide +kernel
theorem dX10_cross_198 : decode cX10_cross 198 = .ok (.iconst 1, 1) := by decide +kernel
theorem dX10_cross_199 : decode cX10_cross 199 = .ok (.isub, 1) := by decide +kernel
theorem dX10_cross_200 : decode cX10_cross 200 = .ok (.iload 6, 2) := by decide +kernel
theorem dX10_cross_202 : decode cX10_cross 202 = .ok (.isub, 1) := by decide +kernel
theorem dX10_cross_203 : decode cX10_cross 203 = .ok (.if_icmp .ne 34, 3) := by decide +kernel
theorem dX10_cross_206 : decode cX10_cross 206 = .ok (.iload 6, 2) := by decide +kernel
theorem dX10_cross_208 : decode cX10_cross 208 = .ok (.ifCond .ne 17, 3) := by decide +kernel
theorem dX10_cross_211 : decode cX10_cross 211 = .ok (.aload_n 0, 1) := by decide +kernel
theorem dX10_cross_212 : decode cX10_cross 212 = .ok (.iload 7, 2) := by decide +kernel
theorem dX10_cross_214 : decode cX10_cross 214 = .ok (.iconst 1, 1) := by decide +kernel
theorem dX10_cross_215 : decode cX10_cross 215 = .ok (.iload_n 3, 1) := by decide +kernel
theorem dX10_cross_216 : decode cX10_cross 216 = .ok (.invokevirtual 322, 3) := by decide +kernel
theorem dX10_cross_219 : decode cX10_cross 219 = .ok (.ifCond .eq 18, 3) := by decide +kernel
theorem dX10_cross_222 : decode cX10_cross 222 = .ok (.goto 24, 3) := by decide +kernel
theorem dX10_cross_225 : decode cX10_cross 225 = .ok (.aload_n 0, 1) := by decide +kernel
theorem dX10_cross_226 : decode cX10_cross 226 = .ok (.iload 5, 2) := by decide +kernel
theorem dX10_cross_228 : decode cX10_cross 228 = .ok (.iload 7, 2) := by decide +kernel
theorem dX10_cross_230 : decode cX10_cross 230 = .ok (.iload_n 3, 1) := by decide +kernel
theorem dX10_cross_231 : decode cX10_cross 231 = .ok (.invokevirtual 326, 3) := by decide +kernel
theorem dX10_cross_234 : decode cX10_cross 234 = .ok (.ifCond .ne 12, 3) := by decide +kernel
theorem dX10_cross_237 : decode cX10_cross 237 = .ok (.iload 7, 2) := by decide +kernel
theorem dX10_cross_239 : decode cX10_cross 239 = .ok (.iconst 1, 1) := by decide +kernel
theorem dX10_cross_240 : decode cX10_cross 240 = .ok (.iadd, 1) := by decide +kernel
theorem dX10_cross_241 : decode cX10_cross 241 = .ok (.istore 7, 2) := by decide +kernel
theorem dX10_cross_243 : decode cX10_cross 243 = .ok (.goto (-54), 3) := by decide +kernel
theorem dX10_cross_246 : decode cX10_cross 246 = .ok (.iload 7, 2) := by decide +kernel
theorem dX10_cross_248 : decode cX10_cross 248 = .ok (.istore 5, 2) := by decide +kernel
theorem dX10_cross_250 : decode cX10_cross 250 = .ok (.iinc 6 1, 3) := by decide +kernel
theorem dX10_cross_253 : decode cX10_cross 253 = .ok (.goto (-73), 3) := by decide +kernel
theorem dX10_cross_256 : decode cX10_cross 256 = .ok (.iload 5, 2) := by decide +kernel
theorem dX10_cross_258 : decode cX10_cross 258 = .ok (.ireturn, 1) := by decide +kernel
theorem dX10_driest_0 : decode cX10_driest 0 = .ok (.aload_n 0, 1) := by decide +kernel
theorem dX10_driest_1 : decode cX10_driest 1 = .ok (.iload_n 1, 1) := by decide +kernel
theorem dX10_driest_2 : decode cX10_driest 2 = .ok (.invokevirtual 334, 3) := by decide +kernel
theorem dX10_driest_5 : decode cX10_driest 5 = .ok (.ifCond .eq 12, 3) := by decide +kernel
theorem dX10_driest_8 : decode cX10_driest 8 = .ok (.iload_n 2, 1) := by decide +kernel
theorem dX10_driest_9 : decode cX10_driest 9 = .ok (.iconst 0, 1) := by decide +kernel
theorem dX10_driest_10 : decode cX10_driest 10 = .ok (.iconst 1, 1) := by decide +kernel
theorem dX10_driest_11 : decode cX10_driest 11 = .ok (.invokestatic 132, 3) := by decide +kernel
theorem dX10_driest_14 : decode cX10_driest 14 = .ok (.ifCond .ne 5, 3) := by decide +kernel
theorem dX10_driest_17 : decode cX10_driest 17 = .ok (.iconst (-1), 1) := by decide +kernel
theorem dX10_driest_18 : decode cX10_driest 18 = .ok (.ireturn, 1) := by decide +kernel
theorem dX10_driest_19 : decode cX10_driest 19 = .ok (.aload_n 0, 1) := by decide +kernel
theorem dX10_driest_20 : decode cX10_driest 20 = .ok (.aload_n 0, 1) := by decide +kernel
theorem dX10_driest_21 : decode cX10_driest 21 = .ok (.getfield 19, 3) := by decide +kernel
theorem dX10_driest_24 : decode cX10_driest 24 = .ok (.iload_n 1, 1) := by decide +kernel
theorem dX10_driest_25 : decode cX10_driest 25 = .ok (.iaload, 1) := by decide +kernel
theorem dX10_driest_26 : decode cX10_driest 26 = .ok (.invokevirtual 344, 3) := by decide +kernel
theorem dX10_driest_29 : decode cX10_driest 29 = .ok (.istore_n 3, 1) := by decide +kernel
theorem dX10_driest_30 : decode cX10_driest 30 = .ok (.iload_n 3, 1) := by decide +kernel
theorem dX10_driest_31 : decode cX10_driest 31 = .ok (.ldc_w 343, 3) := by decide +kernel
theorem dX10_driest_34 : decode cX10_driest 34 = .ok (.if_icmp .lt 6, 3) := by decide +kernel
theorem dX10_driest_37 : decode cX10_driest 37 = .ok (.bipush (-2), 2) := by decide +kernel
theorem dX10_driest_39 : decode cX10_driest 39 = .ok (.ireturn, 1) := by decide +kernel
theorem dX10_driest_40 : decode cX10_driest 40 = .ok (.iload_n 2, 1) := by decide +kernel
theorem dX10_driest_41 : decode cX10_driest 41 = .ok (.ifCond .ne 10, 3) := by decide +kernel
theorem dX10_driest_44 : decode cX10_driest 44 = .ok (.iload_n 3, 1) := by decide +kernel
theorem dX10_driest_45 : decode cX10_driest 45 = .ok (.bipush 100, 2) := by decide +kernel
theorem dX10_driest_47 : decode cX10_driest 47 = .ok (.idiv, 1) := by decide +kernel
theorem dX10_driest_48 : decode cX10_driest 48 = .ok (.goto 7, 3) := by decide +kernel
theorem dX10_driest_51 : decode cX10_driest 51 = .ok (.iload_n 3, 1) := by decide +kernel
theorem dX10_driest_52 : decode cX10_driest 52 = .ok (.bipush 100, 2) := by decide +kernel
theorem dX10_driest_54 : decode cX10_driest 54 = .ok (.irem, 1) := by decide +kernel
theorem dX10_driest_55 : decode cX10_driest 55 = .ok (.ireturn, 1) := by decide +kernel
theorem dX10_howFar_0 : decode cX10_howFar 0 = .ok (.aload_n 0, 1) := by decide +kernel
theorem dX10_howFar_1 : decode cX10_howFar 1 = .ok (.iload_n 1, 1) := by decide +kernel
theorem dX10_howFar_2 : decode cX10_howFar 2 = .ok (.invokevirtual 334, 3) := by decide +kernel
theorem dX10_howFar_5 : decode cX10_howFar 5 = .ok (.ifCond .ne 5, 3) := by decide +kernel
theorem dX10_howFar_8 : decode cX10_howFar 8 = .ok (.iconst (-1), 1) := by decide +kernel
theorem dX10_howFar_9 : decode cX10_howFar 9 = .ok (.ireturn, 1) := by decide +kernel
theorem dX10_howFar_10 : decode cX10_howFar 10 = .ok (.aload_n 0, 1) := by decide +kernel
theorem dX10_howFar_11 : decode cX10_howFar 11 = .ok (.aload_n 0, 1) := by decide +kernel
theorem dX10_howFar_12 : decode cX10_howFar 12 = .ok (.getfield 19, 3) := by decide +kernel
theorem dX10_howFar_15 : decode cX10_howFar 15 = .ok (.iload_n 1, 1) := by decide +kernel
theorem dX10_howFar_16 : decode cX10_howFar 16 = .ok (.iaload, 1) := by decide +kernel
theorem dX10_howFar_17 : decode cX10_howFar 17 = .ok (.invokevirtual 337, 3) := by decide +kernel
theorem dX10_howFar_20 : decode cX10_howFar 20 = .ok (.iconst (-1), 1) := by decide +kernel
theorem dX10_howFar_21 : decode cX10_howFar 21 = .ok (.if_icmp .eq 6, 3) := by decide +kernel
theorem dX10_howFar_24 : decode cX10_howFar 24 = .ok (.bipush 21, 2) := by decide +kernel
theorem dX10_howFar_26 : decode cX10_howFar 26 = .ok (.ireturn, 1) := by decide +kernel
theorem dX10_howFar_27 : decode cX10_howFar 27 = .ok (.iconst 0, 1) := by decide +kernel
theorem dX10_howFar_28 : decode cX10_howFar 28 = .ok (.istore_n 2, 1) := by decide +kernel
theorem dX10_howFar_29 : decode cX10_howFar 29 = .ok (.iconst 0, 1) := by decide +kernel
theorem dX10_howFar_30 : decode cX10_howFar 30 = .ok (.istore_n 3, 1) := by decide +kernel
theorem dX10_howFar_31 : decode cX10_howFar 31 = .ok (.iload_n 3, 1) := by decide +kernel
theorem dX10_howFar_32 : decode cX10_howFar 32 = .ok (.bipush 40, 2) := by decide +kernel
theorem dX10_howFar_34 : decode cX10_howFar 34 = .ok (.if_icmp .ge 33, 3) := by decide +kernel
theorem dX10_howFar_37 : decode cX10_howFar 37 = .ok (.aload_n 0, 1) := by decide +kernel
theorem dX10_howFar_38 : decode cX10_howFar 38 = .ok (.getfield 77, 3) := by decide +kernel
theorem dX10_howFar_41 : decode cX10_howFar 41 = .ok (.iload_n 3, 1) := by decide +kernel
theorem dX10_howFar_42 : decode cX10_howFar 42 = .ok (.iaload, 1) := by decide +kernel
theorem dX10_howFar_43 : decode cX10_howFar 43 = .ok (.iconst (-1), 1) := by decide +kernel
theorem dX10_howFar_44 : decode cX10_howFar 44 = .ok (.if_icmp .eq 17, 3) := by decide +kernel
theorem dX10_howFar_47 : decode cX10_howFar 47 = .ok (.iload_n 2, 1) := by decide +kernel
theorem dX10_howFar_48 : decode cX10_howFar 48 = .ok (.aload_n 0, 1) := by decide +kernel
theorem dX10_howFar_49 : decode cX10_howFar 49 = .ok (.getfield 7, 3) := by decide +kernel
theorem dX10_howFar_52 : decode cX10_howFar 52 = .ok (.bipush 80, 2) := by decide +kernel
theorem dX10_howFar_54 : decode cX10_howFar 54 = .ok (.iload_n 3, 1) := by decide +kernel
theorem dX10_howFar_55 : decode cX10_howFar 55 = .ok (.iadd, 1) := by decide +kernel
theorem dX10_howFar_56 : decode cX10_howFar 56 = .ok (.iaload, 1) := by decide +kernel
theorem dX10_howFar_57 : decode cX10_howFar 57 = .ok (.invokestatic 129, 3) := by decide +kernel
theorem dX10_howFar_60 : decode cX10_howFar 60 = .ok (.istore_n 2, 1) := by decide +kernel
theorem dX10_howFar_61 : decode cX10_howFar 61 = .ok (.iinc 3 1, 3) := by decide +kernel
theorem dX10_howFar_64 : decode cX10_howFar 64 = .ok (.goto (-33), 3) := by decide +kernel
theorem dX10_howFar_67 : decode cX10_howFar 67 = .ok (.iload_n 2, 1) := by decide +kernel
theorem dX10_howFar_68 : decode cX10_howFar 68 = .ok (.ireturn, 1) := by decide +kernel
theorem dX10_hold_0 : decode cX10_hold 0 = .ok (.aload_n 0, 1) := by decide +kernel
theorem dX10_hold_1 : decode cX10_hold 1 = .ok (.iload_n 1, 1) := by decide +kernel
theorem dX10_hold_2 : decode cX10_hold 2 = .ok (.invokevirtual 334, 3) := by decide +kernel
theorem dX10_hold_5 : decode cX10_hold 5 = .ok (.ifCond .ne 5, 3) := by decide +kernel
theorem dX10_hold_8 : decode cX10_hold 8 = .ok (.iconst (-1), 1) := by decide +kernel
theorem dX10_hold_9 : decode cX10_hold 9 = .ok (.ireturn, 1) := by decide +kernel
theorem dX10_hold_10 : decode cX10_hold 10 = .ok (.aload_n 0, 1) := by decide +kernel
theorem dX10_hold_11 : decode cX10_hold 11 = .ok (.getfield 19, 3) := by decide +kernel
theorem dX10_hold_14 : decode cX10_hold 14 = .ok (.iload_n 1, 1) := by decide +kernel
theorem dX10_hold_15 : decode cX10_hold 15 = .ok (.iaload, 1) := by decide +kernel
theorem dX10_hold_16 : decode cX10_hold 16 = .ok (.bipush 21, 2) := by decide +kernel
theorem dX10_hold_18 : decode cX10_hold 18 = .ok (.if_icmp .lt 6, 3) := by decide +kernel
theorem dX10_hold_21 : decode cX10_hold 21 = .ok (.bipush (-2), 2) := by decide +kernel
theorem dX10_hold_23 : decode cX10_hold 23 = .ok (.ireturn, 1) := by decide +kernel
theorem dX10_hold_24 : decode cX10_hold 24 = .ok (.aload_n 0, 1) := by decide +kernel
theorem dX10_hold_25 : decode cX10_hold 25 = .ok (.aload_n 0, 1) := by decide +kernel
theorem dX10_hold_26 : decode cX10_hold 26 = .ok (.getfield 19, 3) := by decide +kernel
theorem dX10_hold_29 : decode cX10_hold 29 = .ok (.iload_n 1, 1) := by decide +kernel
theorem dX10_hold_30 : decode cX10_hold 30 = .ok (.iaload, 1) := by decide +kernel
theorem dX10_hold_31 : decode cX10_hold 31 = .ok (.invokevirtual 347, 3) := by decide +kernel
theorem dX10_hold_34 : decode cX10_hold 34 = .ok (.iconst 0, 1) := by decide +kernel
theorem dX10_hold_35 : decode cX10_hold 35 = .ok (.istore_n 2, 1) := by decide +kernel
theorem dX10_hold_36 : decode cX10_hold 36 = .ok (.aload_n 0, 1) := by decide +kernel
theorem dX10_hold_37 : decode cX10_hold 37 = .ok (.invokevirtual 350, 3) := by decide +kernel
theorem dX10_hold_40 : decode cX10_hold 40 = .ok (.ifCond .eq 10, 3) := by decide +kernel
theorem dX10_hold_43 : decode cX10_hold 43 = .ok (.iload_n 2, 1) := by decide +kernel
theorem dX10_hold_44 : decode cX10_hold 44 = .ok (.iconst 1, 1) := by decide +kernel
theorem dX10_hold_45 : decode cX10_hold 45 = .ok (.iadd, 1) := by decide +kernel
theorem dX10_hold_46 : decode cX10_hold 46 = .ok (.istore_n 2, 1) := by decide +kernel
theorem dX10_hold_47 : decode cX10_hold 47 = .ok (.goto (-11), 3) := by decide +kernel
theorem dX10_hold_50 : decode cX10_hold 50 = .ok (.iload_n 2, 1) := by decide +kernel
theorem dX10_hold_51 : decode cX10_hold 51 = .ok (.ireturn, 1) := by decide +kernel
theorem dX10_oneMore_0 : decode cX10_oneMore 0 = .ok (.aload_n 0, 1) := by decide +kernel
theorem dX10_oneMore_1 : decode cX10_oneMore 1 = .ok (.iload_n 1, 1) := by decide +kernel
theorem dX10_oneMore_2 : decode cX10_oneMore 2 = .ok (.invokevirtual 334, 3) := by decide +kernel
theorem dX10_oneMore_5 : decode cX10_oneMore 5 = .ok (.ifCond .eq 12, 3) := by decide +kernel
theorem dX10_oneMore_8 : decode cX10_oneMore 8 = .ok (.iload_n 2, 1) := by decide +kernel
theorem dX10_oneMore_9 : decode cX10_oneMore 9 = .ok (.iconst 0, 1) := by decide +kernel
theorem dX10_oneMore_10 : decode cX10_oneMore 10 = .ok (.iconst 1, 1) := by decide +kernel
theorem dX10_oneMore_11 : decode cX10_oneMore 11 = .ok (.invokestatic 132, 3) := by decide +kernel
theorem dX10_oneMore_14 : decode cX10_oneMore 14 = .ok (.ifCond .ne 5, 3) := by decide +kernel
theorem dX10_oneMore_17 : decode cX10_oneMore 17 = .ok (.iconst (-1), 1) := by decide +kernel
theorem dX10_oneMore_18 : decode cX10_oneMore 18 = .ok (.ireturn, 1) := by decide +kernel
theorem dX10_oneMore_19 : decode cX10_oneMore 19 = .ok (.aload_n 0, 1) := by decide +kernel
theorem dX10_oneMore_20 : decode cX10_oneMore 20 = .ok (.getfield 19, 3) := by decide +kernel
theorem dX10_oneMore_23 : decode cX10_oneMore 23 = .ok (.iload_n 1, 1) := by decide +kernel
theorem dX10_oneMore_24 : decode cX10_oneMore 24 = .ok (.iaload, 1) := by decide +kernel
theorem dX10_oneMore_25 : decode cX10_oneMore 25 = .ok (.istore_n 3, 1) := by decide +kernel
theorem dX10_oneMore_26 : decode cX10_oneMore 26 = .ok (.aload_n 0, 1) := by decide +kernel
theorem dX10_oneMore_27 : decode cX10_oneMore 27 = .ok (.iload_n 3, 1) := by decide +kernel
theorem dX10_oneMore_28 : decode cX10_oneMore 28 = .ok (.invokevirtual 337, 3) := by decide +kernel
theorem dX10_oneMore_31 : decode cX10_oneMore 31 = .ok (.iconst (-1), 1) := by decide +kernel
theorem dX10_oneMore_32 : decode cX10_oneMore 32 = .ok (.if_icmp .eq 6, 3) := by decide +kernel
theorem dX10_oneMore_35 : decode cX10_oneMore 35 = .ok (.bipush (-3), 2) := by decide +kernel
theorem dX10_oneMore_37 : decode cX10_oneMore 37 = .ok (.ireturn, 1) := by decide +kernel
theorem dX10_oneMore_38 : decode cX10_oneMore 38 = .ok (.aload_n 0, 1) := by decide +kernel
theorem dX10_oneMore_39 : decode cX10_oneMore 39 = .ok (.aload_n 0, 1) := by decide +kernel
theorem dX10_oneMore_40 : decode cX10_oneMore 40 = .ok (.getfield 80, 3) := by decide +kernel
theorem dX10_oneMore_43 : decode cX10_oneMore 43 = .ok (.iconst 0, 1) := by decide +kernel
theorem dX10_oneMore_44 : decode cX10_oneMore 44 = .ok (.iload_n 3, 1) := by decide +kernel
theorem dX10_oneMore_45 : decode cX10_oneMore 45 = .ok (.invokevirtual 329, 3) := by decide +kernel
theorem dX10_oneMore_48 : decode cX10_oneMore 48 = .ok (.iconst 1, 1) := by decide +kernel
theorem dX10_oneMore_49 : decode cX10_oneMore 49 = .ok (.istore 4, 2) := by decide +kernel
theorem dX10_oneMore_51 : decode cX10_oneMore 51 = .ok (.iload 4, 2) := by decide +kernel
theorem dX10_oneMore_53 : decode cX10_oneMore 53 = .ok (.bipush 20, 2) := by decide +kernel
theorem dX10_oneMore_55 : decode cX10_oneMore 55 = .ok (.if_icmp .gt 61, 3) := by decide +kernel
theorem dX10_oneMore_58 : decode cX10_oneMore 58 = .ok (.iconst 0, 1) := by decide +kernel
theorem dX10_oneMore_59 : decode cX10_oneMore 59 = .ok (.istore 5, 2) := by decide +kernel
theorem dX10_oneMore_61 : decode cX10_oneMore 61 = .ok (.iload 5, 2) := by decide +kernel
theorem dX10_oneMore_63 : decode cX10_oneMore 63 = .ok (.bipush 40, 2) := by decide +kernel
theorem dX10_oneMore_65 : decode cX10_oneMore 65 = .ok (.if_icmp .ge 45, 3) := by decide +kernel
theorem dX10_oneMore_68 : decode cX10_oneMore 68 = .ok (.aload_n 0, 1) := by decide +kernel
theorem dX10_oneMore_69 : decode cX10_oneMore 69 = .ok (.iload 5, 2) := by decide +kernel
theorem dX10_oneMore_71 : decode cX10_oneMore 71 = .ok (.iload 4, 2) := by decide +kernel
theorem dX10_oneMore_73 : decode cX10_oneMore 73 = .ok (.invokevirtual 147, 3) := by decide +kernel
theorem dX10_oneMore_76 : decode cX10_oneMore 76 = .ok (.iconst (-1), 1) := by decide +kernel
theorem dX10_oneMore_77 : decode cX10_oneMore 77 = .ok (.if_icmp .ne 27, 3) := by decide +kernel
theorem dX10_oneMore_80 : decode cX10_oneMore 80 = .ok (.aload_n 0, 1) := by decide +kernel
theorem dX10_oneMore_81 : decode cX10_oneMore 81 = .ok (.iload 5, 2) := by decide +kernel
theorem dX10_oneMore_83 : decode cX10_oneMore 83 = .ok (.iload 4, 2) := by decide +kernel
theorem dX10_oneMore_85 : decode cX10_oneMore 85 = .ok (.iload_n 3, 1) := by decide +kernel
theorem dX10_oneMore_86 : decode cX10_oneMore 86 = .ok (.invokevirtual 353, 3) := by decide +kernel
theorem dX10_oneMore_89 : decode cX10_oneMore 89 = .ok (.ifCond .eq 15, 3) := by decide +kernel
theorem dX10_oneMore_92 : decode cX10_oneMore 92 = .ok (.iload_n 2, 1) := by decide +kernel
theorem dX10_oneMore_93 : decode cX10_oneMore 93 = .ok (.ifCond .ne 8, 3) := by decide +kernel
theorem dX10_oneMore_96 : decode cX10_oneMore 96 = .ok (.iload 5, 2) := by decide +kernel
theorem dX10_oneMore_98 : decode cX10_oneMore 98 = .ok (.goto 5, 3) := by decide +kernel
theorem dX10_oneMore_101 : decode cX10_oneMore 101 = .ok (.iload 4, 2) := by decide +kernel
theorem dX10_oneMore_103 : decode cX10_oneMore 103 = .ok (.ireturn, 1) := by decide +kernel
theorem dX10_oneMore_104 : decode cX10_oneMore 104 = .ok (.iinc 5 1, 3) := by decide +kernel
theorem dX10_oneMore_107 : decode cX10_oneMore 107 = .ok (.goto (-46), 3) := by decide +kernel
theorem dX10_oneMore_110 : decode cX10_oneMore 110 = .ok (.iinc 4 1, 3) := by decide +kernel
theorem dX10_oneMore_113 : decode cX10_oneMore 113 = .ok (.goto (-62), 3) := by decide +kernel
theorem dX10_oneMore_116 : decode cX10_oneMore 116 = .ok (.bipush (-2), 2) := by decide +kernel
theorem dX10_oneMore_118 : decode cX10_oneMore 118 = .ok (.ireturn, 1) := by decide +kernel
theorem dX10_key_0 : decode cX10_key 0 = .ok (.aload_n 0, 1) := by decide +kernel
theorem dX10_key_1 : decode cX10_key 1 = .ok (.iload_n 1, 1) := by decide +kernel
theorem dX10_key_2 : decode cX10_key 2 = .ok (.invokevirtual 334, 3) := by decide +kernel
theorem dX10_key_5 : decode cX10_key 5 = .ok (.ifCond .eq 12, 3) := by decide +kernel
theorem dX10_key_8 : decode cX10_key 8 = .ok (.iload_n 2, 1) := by decide +kernel
theorem dX10_key_9 : decode cX10_key 9 = .ok (.iconst 0, 1) := by decide +kernel
theorem dX10_key_10 : decode cX10_key 10 = .ok (.iconst 1, 1) := by decide +kernel
theorem dX10_key_11 : decode cX10_key 11 = .ok (.invokestatic 132, 3) := by decide +kernel
theorem dX10_key_14 : decode cX10_key 14 = .ok (.ifCond .ne 5, 3) := by decide +kernel
theorem dX10_key_17 : decode cX10_key 17 = .ok (.iconst (-1), 1) := by decide +kernel
theorem dX10_key_18 : decode cX10_key 18 = .ok (.ireturn, 1) := by decide +kernel
theorem dX10_key_19 : decode cX10_key 19 = .ok (.aload_n 0, 1) := by decide +kernel
theorem dX10_key_20 : decode cX10_key 20 = .ok (.getfield 19, 3) := by decide +kernel
theorem dX10_key_23 : decode cX10_key 23 = .ok (.iload_n 1, 1) := by decide +kernel
theorem dX10_key_24 : decode cX10_key 24 = .ok (.iaload, 1) := by decide +kernel
theorem dX10_key_25 : decode cX10_key 25 = .ok (.istore_n 3, 1) := by decide +kernel
theorem dX10_key_26 : decode cX10_key 26 = .ok (.aload_n 0, 1) := by decide +kernel
theorem dX10_key_27 : decode cX10_key 27 = .ok (.iload_n 3, 1) := by decide +kernel
theorem dX10_key_28 : decode cX10_key 28 = .ok (.invokevirtual 337, 3) := by decide +kernel
theorem dX10_key_31 : decode cX10_key 31 = .ok (.iconst (-1), 1) := by decide +kernel
theorem dX10_key_32 : decode cX10_key 32 = .ok (.if_icmp .ne 6, 3) := by decide +kernel
theorem dX10_key_35 : decode cX10_key 35 = .ok (.bipush (-3), 2) := by decide +kernel
theorem dX10_key_37 : decode cX10_key 37 = .ok (.ireturn, 1) := by decide +kernel
theorem dX10_key_38 : decode cX10_key 38 = .ok (.iconst 0, 1) := by decide +kernel
theorem dX10_key_39 : decode cX10_key 39 = .ok (.istore 4, 2) := by decide +kernel
theorem dX10_key_41 : decode cX10_key 41 = .ok (.bipush (-2), 2) := by decide +kernel
theorem dX10_key_43 : decode cX10_key 43 = .ok (.istore 5, 2) := by decide +kernel
theorem dX10_key_45 : decode cX10_key 45 = .ok (.bipush 39, 2) := by decide +kernel
theorem dX10_key_47 : decode cX10_key 47 = .ok (.istore 6, 2) := by decide +kernel
theorem dX10_key_49 : decode cX10_key 49 = .ok (.iload 6, 2) := by decide +kernel
theorem dX10_key_51 : decode cX10_key 51 = .ok (.ifCond .lt 79, 3) := by decide +kernel
theorem dX10_key_54 : decode cX10_key 54 = .ok (.aload_n 0, 1) := by decide +kernel
theorem dX10_key_55 : decode cX10_key 55 = .ok (.iload 6, 2) := by decide +kernel
theorem dX10_key_57 : decode cX10_key 57 = .ok (.invokevirtual 319, 3) := by decide +kernel
theorem dX10_key_60 : decode cX10_key 60 = .ok (.ifCond .ne 6, 3) := by decide +kernel
theorem dX10_key_63 : decode cX10_key 63 = .ok (.goto 61, 3) := by decide +kernel
theorem dX10_key_66 : decode cX10_key 66 = .ok (.aload_n 0, 1) := by decide +kernel
theorem dX10_key_67 : decode cX10_key 67 = .ok (.getfield 7, 3) := by decide +kernel
theorem dX10_key_70 : decode cX10_key 70 = .ok (.sipush 160, 3) := by decide +kernel
theorem dX10_key_73 : decode cX10_key 73 = .ok (.iload 6, 2) := by decide +kernel
theorem dX10_key_75 : decode cX10_key 75 = .ok (.iadd, 1) := by decide +kernel
theorem dX10_key_76 : decode cX10_key 76 = .ok (.iconst 1, 1) := by decide +kernel
theorem dX10_key_77 : decode cX10_key 77 = .ok (.iastore, 1) := by decide +kernel
theorem dX10_key_78 : decode cX10_key 78 = .ok (.aload_n 0, 1) := by decide +kernel
theorem dX10_key_79 : decode cX10_key 79 = .ok (.iload_n 3, 1) := by decide +kernel
theorem dX10_key_80 : decode cX10_key 80 = .ok (.invokevirtual 337, 3) := by decide +kernel
theorem dX10_key_83 : decode cX10_key 83 = .ok (.iconst (-1), 1) := by decide +kernel
theorem dX10_key_84 : decode cX10_key 84 = .ok (.if_icmp .ne 7, 3) := by decide +kernel
theorem dX10_key_87 : decode cX10_key 87 = .ok (.iconst 1, 1) := by decide +kernel
theorem dX10_key_88 : decode cX10_key 88 = .ok (.goto 4, 3) := by decide +kernel
theorem dX10_key_91 : decode cX10_key 91 = .ok (.iconst 0, 1) := by decide +kernel
theorem dX10_key_92 : decode cX10_key 92 = .ok (.istore 7, 2) := by decide +kernel
theorem dX10_key_94 : decode cX10_key 94 = .ok (.aload_n 0, 1) := by decide +kernel
theorem dX10_key_95 : decode cX10_key 95 = .ok (.getfield 7, 3) := by decide +kernel
theorem dX10_key_98 : decode cX10_key 98 = .ok (.sipush 160, 3) := by decide +kernel
theorem dX10_key_101 : decode cX10_key 101 = .ok (.iload 6, 2) := by decide +kernel
theorem dX10_key_103 : decode cX10_key 103 = .ok (.iadd, 1) := by decide +kernel
theorem dX10_key_104 : decode cX10_key 104 = .ok (.iconst 0, 1) := by decide +kernel
theorem dX10_key_105 : decode cX10_key 105 = .ok (.iastore, 1) := by decide +kernel
theorem dX10_key_106 : decode cX10_key 106 = .ok (.iload 7, 2) := by decide +kernel
theorem dX10_key_108 : decode cX10_key 108 = .ok (.ifCond .ne 6, 3) := by decide +kernel
theorem dX10_key_111 : decode cX10_key 111 = .ok (.goto 13, 3) := by decide +kernel
theorem dX10_key_114 : decode cX10_key 114 = .ok (.iload 4, 2) := by decide +kernel
theorem dX10_key_116 : decode cX10_key 116 = .ok (.iconst 1, 1) := by decide +kernel
theorem dX10_key_117 : decode cX10_key 117 = .ok (.iadd, 1) := by decide +kernel
theorem dX10_key_118 : decode cX10_key 118 = .ok (.istore 4, 2) := by decide +kernel
theorem dX10_key_120 : decode cX10_key 120 = .ok (.iload 6, 2) := by decide +kernel
theorem dX10_key_122 : decode cX10_key 122 = .ok (.istore 5, 2) := by decide +kernel
theorem dX10_key_124 : decode cX10_key 124 = .ok (.iinc 6 (-1), 3) := by decide +kernel
theorem dX10_key_127 : decode cX10_key 127 = .ok (.goto (-78), 3) := by decide +kernel
theorem dX10_key_130 : decode cX10_key 130 = .ok (.iload_n 2, 1) := by decide +kernel
theorem dX10_key_131 : decode cX10_key 131 = .ok (.ifCond .ne 8, 3) := by decide +kernel
theorem dX10_key_134 : decode cX10_key 134 = .ok (.iload 4, 2) := by decide +kernel
theorem dX10_key_136 : decode cX10_key 136 = .ok (.goto 5, 3) := by decide +kernel
theorem dX10_key_139 : decode cX10_key 139 = .ok (.iload 5, 2) := by decide +kernel
theorem dX10_key_141 : decode cX10_key 141 = .ok (.ireturn, 1) := by decide +kernel
theorem dX10_firstNight_0 : decode cX10_firstNight 0 = .ok (.aload_n 0, 1) := by decide +kernel
theorem dX10_firstNight_1 : decode cX10_firstNight 1 = .ok (.iload_n 1, 1) := by decide +kernel
theorem dX10_firstNight_2 : decode cX10_firstNight 2 = .ok (.invokevirtual 334, 3) := by decide +kernel
theorem dX10_firstNight_5 : decode cX10_firstNight 5 = .ok (.ifCond .ne 5, 3) := by decide +kernel
theorem dX10_firstNight_8 : decode cX10_firstNight 8 = .ok (.iconst (-1), 1) := by decide +kernel
theorem dX10_firstNight_9 : decode cX10_firstNight 9 = .ok (.ireturn, 1) := by decide +kernel
theorem dX10_firstNight_10 : decode cX10_firstNight 10 = .ok (.aload_n 0, 1) := by decide +kernel
theorem dX10_firstNight_11 : decode cX10_firstNight 11 = .ok (.getfield 7, 3) := by decide +kernel
theorem dX10_firstNight_14 : decode cX10_firstNight 14 = .ok (.aload_n 0, 1) := by decide +kernel
theorem dX10_firstNight_15 : decode cX10_firstNight 15 = .ok (.getfield 13, 3) := by decide +kernel
theorem dX10_firstNight_18 : decode cX10_firstNight 18 = .ok (.invokestatic 315, 3) := by decide +kernel
theorem dX10_firstNight_21 : decode cX10_firstNight 21 = .ok (.iconst 0, 1) := by decide +kernel
theorem dX10_firstNight_22 : decode cX10_firstNight 22 = .ok (.istore_n 2, 1) := by decide +kernel
theorem dX10_firstNight_23 : decode cX10_firstNight 23 = .ok (.aload_n 0, 1) := by decide +kernel
theorem dX10_firstNight_24 : decode cX10_firstNight 24 = .ok (.aload_n 0, 1) := by decide +kernel
theorem dX10_firstNight_25 : decode cX10_firstNight 25 = .ok (.getfield 19, 3) := by decide +kernel
theorem dX10_firstNight_28 : decode cX10_firstNight 28 = .ok (.iload_n 1, 1) := by decide +kernel
theorem dX10_firstNight_29 : decode cX10_firstNight 29 = .ok (.iaload, 1) := by decide +kernel
theorem dX10_firstNight_30 : decode cX10_firstNight 30 = .ok (.invokevirtual 337, 3) := by decide +kernel
theorem dX10_firstNight_33 : decode cX10_firstNight 33 = .ok (.iconst (-1), 1) := by decide +kernel
theorem dX10_firstNight_34 : decode cX10_firstNight 34 = .ok (.if_icmp .eq 7, 3) := by decide +kernel
theorem dX10_firstNight_37 : decode cX10_firstNight 37 = .ok (.iconst 1, 1) := by decide +kernel
theorem dX10_firstNight_38 : decode cX10_firstNight 38 = .ok (.goto 4, 3) := by decide +kernel
theorem dX10_firstNight_41 : decode cX10_firstNight 41 = .ok (.iconst 0, 1) := by decide +kernel
theorem dX10_firstNight_42 : decode cX10_firstNight 42 = .ok (.istore_n 3, 1) := by decide +kernel
theorem dX10_firstNight_43 : decode cX10_firstNight 43 = .ok (.iload_n 3, 1) := by decide +kernel
theorem dX10_firstNight_44 : decode cX10_firstNight 44 = .ok (.ifCond .ne 41, 3) := by decide +kernel
theorem dX10_firstNight_47 : decode cX10_firstNight 47 = .ok (.iload_n 2, 1) := by decide +kernel
theorem dX10_firstNight_48 : decode cX10_firstNight 48 = .ok (.bipush 60, 2) := by decide +kernel
theorem dX10_firstNight_50 : decode cX10_firstNight 50 = .ok (.if_icmp .ge 35, 3) := by decide +kernel
theorem dX10_firstNight_53 : decode cX10_firstNight 53 = .ok (.aload_n 0, 1) := by decide +kernel
theorem dX10_firstNight_54 : decode cX10_firstNight 54 = .ok (.iconst 1, 1) := by decide +kernel
theorem dX10_firstNight_55 : decode cX10_firstNight 55 = .ok (.invokevirtual 308, 3) := by decide +kernel
theorem dX10_firstNight_58 : decode cX10_firstNight 58 = .ok (.iload_n 2, 1) := by decide +kernel
theorem dX10_firstNight_59 : decode cX10_firstNight 59 = .ok (.iconst 1, 1) := by decide +kernel
theorem dX10_firstNight_60 : decode cX10_firstNight 60 = .ok (.iadd, 1) := by decide +kernel
theorem dX10_firstNight_61 : decode cX10_firstNight 61 = .ok (.istore_n 2, 1) := by decide +kernel
theorem dX10_firstNight_62 : decode cX10_firstNight 62 = .ok (.aload_n 0, 1) := by decide +kernel
theorem dX10_firstNight_63 : decode cX10_firstNight 63 = .ok (.aload_n 0, 1) := by decide +kernel
theorem dX10_firstNight_64 : decode cX10_firstNight 64 = .ok (.getfield 19, 3) := by decide +kernel
theorem dX10_firstNight_67 : decode cX10_firstNight 67 = .ok (.iload_n 1, 1) := by decide +kernel
theorem dX10_firstNight_68 : decode cX10_firstNight 68 = .ok (.iaload, 1) := by decide +kernel
theorem dX10_firstNight_69 : decode cX10_firstNight 69 = .ok (.invokevirtual 337, 3) := by decide +kernel
theorem dX10_firstNight_72 : decode cX10_firstNight 72 = .ok (.iconst (-1), 1) := by decide +kernel
theorem dX10_firstNight_73 : decode cX10_firstNight 73 = .ok (.if_icmp .eq 7, 3) := by decide +kernel
theorem dX10_firstNight_76 : decode cX10_firstNight 76 = .ok (.iconst 1, 1) := by decide +kernel
theorem dX10_firstNight_77 : decode cX10_firstNight 77 = .ok (.goto 4, 3) := by decide +kernel
theorem dX10_firstNight_80 : decode cX10_firstNight 80 = .ok (.iconst 0, 1) := by decide +kernel
theorem dX10_firstNight_81 : decode cX10_firstNight 81 = .ok (.istore_n 3, 1) := by decide +kernel
theorem dX10_firstNight_82 : decode cX10_firstNight 82 = .ok (.goto (-39), 3) := by decide +kernel
theorem dX10_firstNight_85 : decode cX10_firstNight 85 = .ok (.aload_n 0, 1) := by decide +kernel
theorem dX10_firstNight_86 : decode cX10_firstNight 86 = .ok (.getfield 13, 3) := by decide +kernel
theorem dX10_firstNight_89 : decode cX10_firstNight 89 = .ok (.aload_n 0, 1) := by decide +kernel
theorem dX10_firstNight_90 : decode cX10_firstNight 90 = .ok (.getfield 7, 3) := by decide +kernel
theorem dX10_firstNight_93 : decode cX10_firstNight 93 = .ok (.invokestatic 315, 3) := by decide +kernel
theorem dX10_firstNight_96 : decode cX10_firstNight 96 = .ok (.iload_n 3, 1) := by decide +kernel
theorem dX10_firstNight_97 : decode cX10_firstNight 97 = .ok (.ifCond .eq 7, 3) := by decide +kernel
theorem dX10_firstNight_100 : decode cX10_firstNight 100 = .ok (.iload_n 2, 1) := by decide +kernel
theorem dX10_firstNight_101 : decode cX10_firstNight 101 = .ok (.goto 5, 3) := by decide +kernel
theorem dX10_firstNight_104 : decode cX10_firstNight 104 = .ok (.bipush (-2), 2) := by decide +kernel
theorem dX10_firstNight_106 : decode cX10_firstNight 106 = .ok (.ireturn, 1) := by decide +kernel
theorem dX10_walk_0 : decode cX10_walk 0 = .ok (.aload_n 0, 1) := by decide +kernel
theorem dX10_walk_1 : decode cX10_walk 1 = .ok (.iload_n 1, 1) := by decide +kernel
theorem dX10_walk_2 : decode cX10_walk 2 = .ok (.invokevirtual 334, 3) := by decide +kernel
theorem dX10_walk_5 : decode cX10_walk 5 = .ok (.ifCond .eq 41, 3) := by decide +kernel
theorem dX10_walk_8 : decode cX10_walk 8 = .ok (.iload_n 2, 1) := by decide +kernel
theorem dX10_walk_9 : decode cX10_walk 9 = .ok (.iconst 0, 1) := by decide +kernel
theorem dX10_walk_10 : decode cX10_walk 10 = .ok (.bipush 39, 2) := by decide +kernel
theorem dX10_walk_12 : decode cX10_walk 12 = .ok (.invokestatic 132, 3) := by decide +kernel
theorem dX10_walk_15 : decode cX10_walk 15 = .ok (.ifCond .eq 31, 3) := by decide +kernel
theorem dX10_walk_18 : decode cX10_walk 18 = .ok (.iload_n 3, 1) := by decide +kernel
theorem dX10_walk_19 : decode cX10_walk 19 = .ok (.iconst 1, 1) := by decide +kernel
theorem dX10_walk_20 : decode cX10_walk 20 = .ok (.bipush 60, 2) := by decide +kernel
theorem dX10_walk_22 : decode cX10_walk 22 = .ok (.invokestatic 132, 3) := by decide +kernel
theorem dX10_walk_25 : decode cX10_walk 25 = .ok (.ifCond .eq 21, 3) := by decide +kernel
theorem dX10_walk_28 : decode cX10_walk 28 = .ok (.iload 4, 2) := by decide +kernel
theorem dX10_walk_30 : decode cX10_walk 30 = .ok (.iconst 0, 1) := by decide +kernel
theorem dX10_walk_31 : decode cX10_walk 31 = .ok (.iconst 3, 1) := by decide +kernel
theorem dX10_walk_32 : decode cX10_walk 32 = .ok (.invokestatic 132, 3) := by decide +kernel
theorem dX10_walk_35 : decode cX10_walk 35 = .ok (.ifCond .eq 11, 3) := by decide +kernel
theorem dX10_walk_38 : decode cX10_walk 38 = .ok (.iload_n 3, 1) := by decide +kernel
theorem dX10_walk_39 : decode cX10_walk 39 = .ok (.aload_n 0, 1) := by decide +kernel
theorem dX10_walk_40 : decode cX10_walk 40 = .ok (.getfield 158, 3) := by decide +kernel
theorem dX10_walk_43 : decode cX10_walk 43 = .ok (.if_icmp .le 5, 3) := by decide +kernel
theorem dX10_walk_46 : decode cX10_walk 46 = .ok (.iconst (-1), 1) := by decide +kernel
theorem dX10_walk_47 : decode cX10_walk 47 = .ok (.ireturn, 1) := by decide +kernel
theorem dX10_walk_48 : decode cX10_walk 48 = .ok (.aload_n 0, 1) := by decide +kernel
theorem dX10_walk_49 : decode cX10_walk 49 = .ok (.iload_n 3, 1) := by decide +kernel
theorem dX10_walk_50 : decode cX10_walk 50 = .ok (.invokevirtual 249, 3) := by decide +kernel
theorem dX10_walk_53 : decode cX10_walk 53 = .ok (.aload_n 0, 1) := by decide +kernel
theorem dX10_walk_54 : decode cX10_walk 54 = .ok (.iconst 0, 1) := by decide +kernel
theorem dX10_walk_55 : decode cX10_walk 55 = .ok (.putfield 359, 3) := by decide +kernel
theorem dX10_walk_58 : decode cX10_walk 58 = .ok (.aload_n 0, 1) := by decide +kernel
theorem dX10_walk_59 : decode cX10_walk 59 = .ok (.iconst 0, 1) := by decide +kernel
theorem dX10_walk_60 : decode cX10_walk 60 = .ok (.putfield 362, 3) := by decide +kernel
theorem dX10_walk_63 : decode cX10_walk 63 = .ok (.aload_n 0, 1) := by decide +kernel
theorem dX10_walk_64 : decode cX10_walk 64 = .ok (.invokevirtual 371, 3) := by decide +kernel
theorem dX10_walk_67 : decode cX10_walk 67 = .ok (.istore 5, 2) := by decide +kernel
theorem dX10_walk_69 : decode cX10_walk 69 = .ok (.aload_n 0, 1) := by decide +kernel
theorem dX10_walk_70 : decode cX10_walk 70 = .ok (.iconst 0, 1) := by decide +kernel
theorem dX10_walk_71 : decode cX10_walk 71 = .ok (.putfield 158, 3) := by decide +kernel
theorem dX10_walk_74 : decode cX10_walk 74 = .ok (.iload 5, 2) := by decide +kernel
theorem dX10_walk_76 : decode cX10_walk 76 = .ok (.ifCond .ne 8, 3) := by decide +kernel
theorem dX10_walk_79 : decode cX10_walk 79 = .ok (.aload_n 0, 1) := by decide +kernel
theorem dX10_walk_80 : decode cX10_walk 80 = .ok (.getfield 175, 3) := by decide +kernel
theorem dX10_walk_83 : decode cX10_walk 83 = .ok (.ireturn, 1) := by decide +kernel
theorem dX10_walk_84 : decode cX10_walk 84 = .ok (.iconst 0, 1) := by decide +kernel
theorem dX10_walk_85 : decode cX10_walk 85 = .ok (.istore 6, 2) := by decide +kernel
theorem dX10_walk_87 : decode cX10_walk 87 = .ok (.iload_n 2, 1) := by decide +kernel
theorem dX10_walk_88 : decode cX10_walk 88 = .ok (.istore 7, 2) := by decide +kernel
theorem dX10_walk_90 : decode cX10_walk 90 = .ok (.iconst 0, 1) := by decide +kernel
theorem dX10_walk_91 : decode cX10_walk 91 = .ok (.istore 8, 2) := by decide +kernel
theorem dX10_walk_93 : decode cX10_walk 93 = .ok (.iconst 1, 1) := by decide +kernel
theorem dX10_walk_94 : decode cX10_walk 94 = .ok (.istore 9, 2) := by decide +kernel
theorem dX10_walk_96 : decode cX10_walk 96 = .ok (.iconst 0, 1) := by decide +kernel
theorem dX10_walk_97 : decode cX10_walk 97 = .ok (.istore 10, 2) := by decide +kernel
theorem dX10_walk_99 : decode cX10_walk 99 = .ok (.iload 10, 2) := by decide +kernel
theorem dX10_walk_101 : decode cX10_walk 101 = .ok (.aload_n 0, 1) := by decide +kernel
theorem dX10_walk_102 : decode cX10_walk 102 = .ok (.getfield 359, 3) := by decide +kernel
theorem dX10_walk_105 : decode cX10_walk 105 = .ok (.if_icmp .ge 192, 3) := by decide +kernel
theorem dX10_walk_108 : decode cX10_walk 108 = .ok (.iload 9, 2) := by decide +kernel
theorem dX10_walk_110 : decode cX10_walk 110 = .ok (.ifCond .eq 187, 3) := by decide +kernel
theorem dX10_walk_113 : decode cX10_walk 113 = .ok (.iload 8, 2) := by decide +kernel
theorem dX10_walk_115 : decode cX10_walk 115 = .ok (.bipush 21, 2) := by decide +kernel
theorem dX10_walk_117 : decode cX10_walk 117 = .ok (.if_icmp .ge 180, 3) := by decide +kernel
theorem dX10_walk_120 : decode cX10_walk 120 = .ok (.iload 7, 2) := by decide +kernel
theorem dX10_walk_122 : decode cX10_walk 122 = .ok (.aload_n 0, 1) := by decide +kernel
theorem dX10_walk_123 : decode cX10_walk 123 = .ok (.getfield 104, 3) := by decide +kernel
theorem dX10_walk_126 : decode cX10_walk 126 = .ok (.iload 10, 2) := by decide +kernel
theorem dX10_walk_128 : decode cX10_walk 128 = .ok (.iaload, 1) := by decide +kernel
theorem dX10_walk_129 : decode cX10_walk 129 = .ok (.iadd, 1) := by decide +kernel
theorem dX10_walk_130 : decode cX10_walk 130 = .ok (.istore 11, 2) := by decide +kernel
theorem dX10_walk_132 : decode cX10_walk 132 = .ok (.iload 8, 2) := by decide +kernel
theorem dX10_walk_134 : decode cX10_walk 134 = .ok (.aload_n 0, 1) := by decide +kernel
theorem dX10_walk_135 : decode cX10_walk 135 = .ok (.getfield 107, 3) := by decide +kernel
theorem dX10_walk_138 : decode cX10_walk 138 = .ok (.iload 10, 2) := by decide +kernel
theorem dX10_walk_140 : decode cX10_walk 140 = .ok (.iaload, 1) := by decide +kernel
theorem dX10_walk_141 : decode cX10_walk 141 = .ok (.iadd, 1) := by decide +kernel
theorem dX10_walk_142 : decode cX10_walk 142 = .ok (.iconst 0, 1) := by decide +kernel
theorem dX10_walk_143 : decode cX10_walk 143 = .ok (.bipush 21, 2) := by decide +kernel
theorem dX10_walk_145 : decode cX10_walk 145 = .ok (.invokestatic 290, 3) := by decide +kernel
theorem dX10_walk_148 : decode cX10_walk 148 = .ok (.istore 12, 2) := by decide +kernel
theorem dX10_walk_150 : decode cX10_walk 150 = .ok (.aload_n 0, 1) := by decide +kernel
theorem dX10_walk_151 : decode cX10_walk 151 = .ok (.getfield 104, 3) := by decide +kernel
theorem dX10_walk_154 : decode cX10_walk 154 = .ok (.iload 10, 2) := by decide +kernel
theorem dX10_walk_156 : decode cX10_walk 156 = .ok (.iaload, 1) := by decide +kernel
theorem dX10_walk_157 : decode cX10_walk 157 = .ok (.aload_n 0, 1) := by decide +kernel
theorem dX10_walk_158 : decode cX10_walk 158 = .ok (.getfield 104, 3) := by decide +kernel
theorem dX10_walk_161 : decode cX10_walk 161 = .ok (.iload 10, 2) := by decide +kernel
theorem dX10_walk_163 : decode cX10_walk 163 = .ok (.iaload, 1) := by decide +kernel
theorem dX10_walk_164 : decode cX10_walk 164 = .ok (.imul, 1) := by decide +kernel
theorem dX10_walk_165 : decode cX10_walk 165 = .ok (.aload_n 0, 1) := by decide +kernel
theorem dX10_walk_166 : decode cX10_walk 166 = .ok (.getfield 107, 3) := by decide +kernel
theorem dX10_walk_169 : decode cX10_walk 169 = .ok (.iload 10, 2) := by decide +kernel
theorem dX10_walk_171 : decode cX10_walk 171 = .ok (.iaload, 1) := by decide +kernel
theorem dX10_walk_172 : decode cX10_walk 172 = .ok (.aload_n 0, 1) := by decide +kernel
theorem dX10_walk_173 : decode cX10_walk 173 = .ok (.getfield 107, 3) := by decide +kernel
theorem dX10_walk_176 : decode cX10_walk 176 = .ok (.iload 10, 2) := by decide +kernel
theorem dX10_walk_178 : decode cX10_walk 178 = .ok (.iaload, 1) := by decide +kernel
theorem dX10_walk_179 : decode cX10_walk 179 = .ok (.imul, 1) := by decide +kernel
theorem dX10_walk_180 : decode cX10_walk 180 = .ok (.iadd, 1) := by decide +kernel
theorem dX10_walk_181 : decode cX10_walk 181 = .ok (.istore 13, 2) := by decide +kernel
theorem dX10_walk_183 : decode cX10_walk 183 = .ok (.iload 12, 2) := by decide +kernel
theorem dX10_walk_185 : decode cX10_walk 185 = .ok (.iconst 1, 1) := by decide +kernel
theorem dX10_walk_186 : decode cX10_walk 186 = .ok (.bipush 20, 2) := by decide +kernel
theorem dX10_walk_188 : decode cX10_walk 188 = .ok (.invokestatic 132, 3) := by decide +kernel
theorem dX10_walk_191 : decode cX10_walk 191 = .ok (.ifCond .eq 38, 3) := by decide +kernel
theorem dX10_walk_194 : decode cX10_walk 194 = .ok (.aload_n 0, 1) := by decide +kernel
theorem dX10_walk_195 : decode cX10_walk 195 = .ok (.iload 11, 2) := by decide +kernel
theorem dX10_walk_197 : decode cX10_walk 197 = .ok (.iload 12, 2) := by decide +kernel
theorem dX10_walk_199 : decode cX10_walk 199 = .ok (.invokevirtual 147, 3) := by decide +kernel
theorem dX10_walk_202 : decode cX10_walk 202 = .ok (.iconst (-1), 1) := by decide +kernel
theorem dX10_walk_203 : decode cX10_walk 203 = .ok (.if_icmp .eq 22, 3) := by decide +kernel
theorem dX10_walk_206 : decode cX10_walk 206 = .ok (.aload_n 0, 1) := by decide +kernel
theorem dX10_walk_207 : decode cX10_walk 207 = .ok (.aload_n 0, 1) := by decide +kernel
theorem dX10_walk_208 : decode cX10_walk 208 = .ok (.iload 11, 2) := by decide +kernel
theorem dX10_walk_210 : decode cX10_walk 210 = .ok (.iload 12, 2) := by decide +kernel
theorem dX10_walk_212 : decode cX10_walk 212 = .ok (.invokevirtual 147, 3) := by decide +kernel
theorem dX10_walk_215 : decode cX10_walk 215 = .ok (.invokevirtual 319, 3) := by decide +kernel
theorem dX10_walk_218 : decode cX10_walk 218 = .ok (.ifCond .eq 7, 3) := by decide +kernel
theorem dX10_walk_221 : decode cX10_walk 221 = .ok (.iconst 1, 1) := by decide +kernel
theorem dX10_walk_222 : decode cX10_walk 222 = .ok (.goto 15, 3) := by decide +kernel
theorem dX10_walk_225 : decode cX10_walk 225 = .ok (.iconst 0, 1) := by decide +kernel
theorem dX10_walk_226 : decode cX10_walk 226 = .ok (.goto 11, 3) := by decide +kernel
theorem dX10_walk_229 : decode cX10_walk 229 = .ok (.iload 11, 2) := by decide +kernel
theorem dX10_walk_231 : decode cX10_walk 231 = .ok (.iconst 0, 1) := by decide +kernel
theorem dX10_walk_232 : decode cX10_walk 232 = .ok (.bipush 39, 2) := by decide +kernel
theorem dX10_walk_234 : decode cX10_walk 234 = .ok (.invokestatic 132, 3) := by decide +kernel
theorem dX10_walk_237 : decode cX10_walk 237 = .ok (.istore 14, 2) := by decide +kernel
theorem dX10_walk_239 : decode cX10_walk 239 = .ok (.iload 13, 2) := by decide +kernel
theorem dX10_walk_241 : decode cX10_walk 241 = .ok (.aload_n 0, 1) := by decide +kernel
theorem dX10_walk_242 : decode cX10_walk 242 = .ok (.getfield 19, 3) := by decide +kernel
theorem dX10_walk_245 : decode cX10_walk 245 = .ok (.iload_n 1, 1) := by decide +kernel
theorem dX10_walk_246 : decode cX10_walk 246 = .ok (.iaload, 1) := by decide +kernel
theorem dX10_walk_247 : decode cX10_walk 247 = .ok (.aload_n 0, 1) := by decide +kernel
theorem dX10_walk_248 : decode cX10_walk 248 = .ok (.getfield 19, 3) := by decide +kernel
theorem dX10_walk_251 : decode cX10_walk 251 = .ok (.iload_n 1, 1) := by decide +kernel
theorem dX10_walk_252 : decode cX10_walk 252 = .ok (.iaload, 1) := by decide +kernel
theorem dX10_walk_253 : decode cX10_walk 253 = .ok (.imul, 1) := by decide +kernel
theorem dX10_walk_254 : decode cX10_walk 254 = .ok (.if_icmp .gt 12, 3) := by decide +kernel
theorem dX10_walk_257 : decode cX10_walk 257 = .ok (.iload 14, 2) := by decide +kernel
theorem dX10_walk_259 : decode cX10_walk 259 = .ok (.ifCond .eq 7, 3) := by decide +kernel
theorem dX10_walk_262 : decode cX10_walk 262 = .ok (.iconst 1, 1) := by decide +kernel
theorem dX10_walk_263 : decode cX10_walk 263 = .ok (.goto 4, 3) := by decide +kernel
theorem dX10_walk_266 : decode cX10_walk 266 = .ok (.iconst 0, 1) := by decide +kernel
theorem dX10_walk_267 : decode cX10_walk 267 = .ok (.istore 9, 2) := by decide +kernel
theorem dX10_walk_269 : decode cX10_walk 269 = .ok (.iload 9, 2) := by decide +kernel
theorem dX10_walk_271 : decode cX10_walk 271 = .ok (.ifCond .ne 6, 3) := by decide +kernel
theorem dX10_walk_274 : decode cX10_walk 274 = .ok (.goto 17, 3) := by decide +kernel
theorem dX10_walk_277 : decode cX10_walk 277 = .ok (.iload 6, 2) := by decide +kernel
theorem dX10_walk_279 : decode cX10_walk 279 = .ok (.iconst 1, 1) := by decide +kernel
theorem dX10_walk_280 : decode cX10_walk 280 = .ok (.iadd, 1) := by decide +kernel
theorem dX10_walk_281 : decode cX10_walk 281 = .ok (.istore 6, 2) := by decide +kernel
theorem dX10_walk_283 : decode cX10_walk 283 = .ok (.iload 11, 2) := by decide +kernel
theorem dX10_walk_285 : decode cX10_walk 285 = .ok (.istore 7, 2) := by decide +kernel
theorem dX10_walk_287 : decode cX10_walk 287 = .ok (.iload 12, 2) := by decide +kernel
theorem dX10_walk_289 : decode cX10_walk 289 = .ok (.istore 8, 2) := by decide +kernel
theorem dX10_walk_291 : decode cX10_walk 291 = .ok (.iinc 10 1, 3) := by decide +kernel
theorem dX10_walk_294 : decode cX10_walk 294 = .ok (.goto (-195), 3) := by decide +kernel
theorem dX10_walk_297 : decode cX10_walk 297 = .ok (.iload 4, 2) := by decide +kernel
theorem dX10_walk_299 : decode cX10_walk 299 = .ok (.ifCond .ne 8, 3) := by decide +kernel
theorem dX10_walk_302 : decode cX10_walk 302 = .ok (.iload 6, 2) := by decide +kernel
theorem dX10_walk_304 : decode cX10_walk 304 = .ok (.goto 37, 3) := by decide +kernel
theorem dX10_walk_307 : decode cX10_walk 307 = .ok (.iload 4, 2) := by decide +kernel
theorem dX10_walk_309 : decode cX10_walk 309 = .ok (.iconst 1, 1) := by decide +kernel
theorem dX10_walk_310 : decode cX10_walk 310 = .ok (.if_icmp .ne 8, 3) := by decide +kernel
theorem dX10_walk_313 : decode cX10_walk 313 = .ok (.iload 8, 2) := by decide +kernel
theorem dX10_walk_315 : decode cX10_walk 315 = .ok (.goto 26, 3) := by decide +kernel
theorem dX10_walk_318 : decode cX10_walk 318 = .ok (.iload 4, 2) := by decide +kernel
theorem dX10_walk_320 : decode cX10_walk 320 = .ok (.iconst 2, 1) := by decide +kernel
theorem dX10_walk_321 : decode cX10_walk 321 = .ok (.if_icmp .ne 8, 3) := by decide +kernel
theorem dX10_walk_324 : decode cX10_walk 324 = .ok (.iload 7, 2) := by decide +kernel
theorem dX10_walk_326 : decode cX10_walk 326 = .ok (.goto 15, 3) := by decide +kernel
theorem dX10_walk_329 : decode cX10_walk 329 = .ok (.iload 8, 2) := by decide +kernel
theorem dX10_walk_331 : decode cX10_walk 331 = .ok (.bipush 21, 2) := by decide +kernel
theorem dX10_walk_333 : decode cX10_walk 333 = .ok (.if_icmp .ne 7, 3) := by decide +kernel
theorem dX10_walk_336 : decode cX10_walk 336 = .ok (.iconst 1, 1) := by decide +kernel
theorem dX10_walk_337 : decode cX10_walk 337 = .ok (.goto 4, 3) := by decide +kernel
theorem dX10_walk_340 : decode cX10_walk 340 = .ok (.iconst 0, 1) := by decide +kernel
theorem dX10_walk_341 : decode cX10_walk 341 = .ok (.ireturn, 1) := by decide +kernel
theorem dX10_meet_0 : decode cX10_meet 0 = .ok (.aload_n 0, 1) := by decide +kernel
theorem dX10_meet_1 : decode cX10_meet 1 = .ok (.iload_n 1, 1) := by decide +kernel
theorem dX10_meet_2 : decode cX10_meet 2 = .ok (.invokevirtual 334, 3) := by decide +kernel
theorem dX10_meet_5 : decode cX10_meet 5 = .ok (.ifCond .eq 20, 3) := by decide +kernel
theorem dX10_meet_8 : decode cX10_meet 8 = .ok (.aload_n 0, 1) := by decide +kernel
theorem dX10_meet_9 : decode cX10_meet 9 = .ok (.iload_n 2, 1) := by decide +kernel
theorem dX10_meet_10 : decode cX10_meet 10 = .ok (.invokevirtual 334, 3) := by decide +kernel
theorem dX10_meet_13 : decode cX10_meet 13 = .ok (.ifCond .eq 12, 3) := by decide +kernel
theorem dX10_meet_16 : decode cX10_meet 16 = .ok (.iload_n 3, 1) := by decide +kernel
theorem dX10_meet_17 : decode cX10_meet 17 = .ok (.iconst 0, 1) := by decide +kernel
theorem dX10_meet_18 : decode cX10_meet 18 = .ok (.iconst 1, 1) := by decide +kernel
theorem dX10_meet_19 : decode cX10_meet 19 = .ok (.invokestatic 132, 3) := by decide +kernel
theorem dX10_meet_22 : decode cX10_meet 22 = .ok (.ifCond .ne 5, 3) := by decide +kernel
theorem dX10_meet_25 : decode cX10_meet 25 = .ok (.iconst (-1), 1) := by decide +kernel
theorem dX10_meet_26 : decode cX10_meet 26 = .ok (.ireturn, 1) := by decide +kernel
theorem dX10_meet_27 : decode cX10_meet 27 = .ok (.aload_n 0, 1) := by decide +kernel
theorem dX10_meet_28 : decode cX10_meet 28 = .ok (.aload_n 0, 1) := by decide +kernel
theorem dX10_meet_29 : decode cX10_meet 29 = .ok (.getfield 77, 3) := by decide +kernel
theorem dX10_meet_32 : decode cX10_meet 32 = .ok (.iconst 1, 1) := by decide +kernel
theorem dX10_meet_33 : decode cX10_meet 33 = .ok (.aload_n 0, 1) := by decide +kernel
theorem dX10_meet_34 : decode cX10_meet 34 = .ok (.getfield 19, 3) := by decide +kernel
theorem dX10_meet_37 : decode cX10_meet 37 = .ok (.iload_n 1, 1) := by decide +kernel
theorem dX10_meet_38 : decode cX10_meet 38 = .ok (.iaload, 1) := by decide +kernel
theorem dX10_meet_39 : decode cX10_meet 39 = .ok (.invokevirtual 329, 3) := by decide +kernel
theorem dX10_meet_42 : decode cX10_meet 42 = .ok (.aload_n 0, 1) := by decide +kernel
theorem dX10_meet_43 : decode cX10_meet 43 = .ok (.aload_n 0, 1) := by decide +kernel
theorem dX10_meet_44 : decode cX10_meet 44 = .ok (.getfield 80, 3) := by decide +kernel
theorem dX10_meet_47 : decode cX10_meet 47 = .ok (.iconst 0, 1) := by decide +kernel
theorem dX10_meet_48 : decode cX10_meet 48 = .ok (.aload_n 0, 1) := by decide +kernel
theorem dX10_meet_49 : decode cX10_meet 49 = .ok (.getfield 19, 3) := by decide +kernel
theorem dX10_meet_52 : decode cX10_meet 52 = .ok (.iload_n 2, 1) := by decide +kernel
theorem dX10_meet_53 : decode cX10_meet 53 = .ok (.iaload, 1) := by decide +kernel
theorem dX10_meet_54 : decode cX10_meet 54 = .ok (.invokevirtual 329, 3) := by decide +kernel
theorem dX10_meet_57 : decode cX10_meet 57 = .ok (.bipush (-2), 2) := by decide +kernel
theorem dX10_meet_59 : decode cX10_meet 59 = .ok (.istore 4, 2) := by decide +kernel
theorem dX10_meet_61 : decode cX10_meet 61 = .ok (.bipush (-2), 2) := by decide +kernel
theorem dX10_meet_63 : decode cX10_meet 63 = .ok (.istore 5, 2) := by decide +kernel
theorem dX10_meet_65 : decode cX10_meet 65 = .ok (.iconst 0, 1) := by decide +kernel
theorem dX10_meet_66 : decode cX10_meet 66 = .ok (.istore 6, 2) := by decide +kernel
theorem dX10_meet_68 : decode cX10_meet 68 = .ok (.iload 6, 2) := by decide +kernel
theorem dX10_meet_70 : decode cX10_meet 70 = .ok (.bipush 40, 2) := by decide +kernel
theorem dX10_meet_72 : decode cX10_meet 72 = .ok (.if_icmp .ge 78, 3) := by decide +kernel
theorem dX10_meet_75 : decode cX10_meet 75 = .ok (.aload_n 0, 1) := by decide +kernel
theorem dX10_meet_76 : decode cX10_meet 76 = .ok (.getfield 77, 3) := by decide +kernel
theorem dX10_meet_79 : decode cX10_meet 79 = .ok (.iload 6, 2) := by decide +kernel
theorem dX10_meet_81 : decode cX10_meet 81 = .ok (.iaload, 1) := by decide +kernel
theorem dX10_meet_82 : decode cX10_meet 82 = .ok (.iconst (-1), 1) := by decide +kernel
theorem dX10_meet_83 : decode cX10_meet 83 = .ok (.if_icmp .eq 61, 3) := by decide +kernel
theorem dX10_meet_86 : decode cX10_meet 86 = .ok (.aload_n 0, 1) := by decide +kernel
theorem dX10_meet_87 : decode cX10_meet 87 = .ok (.getfield 80, 3) := by decide +kernel
theorem dX10_meet_90 : decode cX10_meet 90 = .ok (.iload 6, 2) := by decide +kernel
theorem dX10_meet_92 : decode cX10_meet 92 = .ok (.iaload, 1) := by decide +kernel
theorem dX10_meet_93 : decode cX10_meet 93 = .ok (.iconst (-1), 1) := by decide +kernel
theorem dX10_meet_94 : decode cX10_meet 94 = .ok (.if_icmp .ne 6, 3) := by decide +kernel
theorem dX10_meet_97 : decode cX10_meet 97 = .ok (.goto 47, 3) := by decide +kernel
theorem dX10_meet_100 : decode cX10_meet 100 = .ok (.aload_n 0, 1) := by decide +kernel
theorem dX10_meet_101 : decode cX10_meet 101 = .ok (.getfield 77, 3) := by decide +kernel
theorem dX10_meet_104 : decode cX10_meet 104 = .ok (.iload 6, 2) := by decide +kernel
theorem dX10_meet_106 : decode cX10_meet 106 = .ok (.iaload, 1) := by decide +kernel
theorem dX10_meet_107 : decode cX10_meet 107 = .ok (.aload_n 0, 1) := by decide +kernel
theorem dX10_meet_108 : decode cX10_meet 108 = .ok (.getfield 80, 3) := by decide +kernel
theorem dX10_meet_111 : decode cX10_meet 111 = .ok (.iload 6, 2) := by decide +kernel
theorem dX10_meet_113 : decode cX10_meet 113 = .ok (.iaload, 1) := by decide +kernel
theorem dX10_meet_114 : decode cX10_meet 114 = .ok (.invokestatic 129, 3) := by decide +kernel
theorem dX10_meet_117 : decode cX10_meet 117 = .ok (.istore 7, 2) := by decide +kernel
theorem dX10_meet_119 : decode cX10_meet 119 = .ok (.iload 4, 2) := by decide +kernel
theorem dX10_meet_121 : decode cX10_meet 121 = .ok (.bipush (-2), 2) := by decide +kernel
theorem dX10_meet_123 : decode cX10_meet 123 = .ok (.if_icmp .eq 13, 3) := by decide +kernel
theorem dX10_meet_126 : decode cX10_meet 126 = .ok (.iload 7, 2) := by decide +kernel
theorem dX10_meet_128 : decode cX10_meet 128 = .ok (.iload 5, 2) := by decide +kernel
theorem dX10_meet_130 : decode cX10_meet 130 = .ok (.if_icmp .lt 6, 3) := by decide +kernel
theorem dX10_meet_133 : decode cX10_meet 133 = .ok (.goto 11, 3) := by decide +kernel
theorem dX10_meet_136 : decode cX10_meet 136 = .ok (.iload 6, 2) := by decide +kernel
theorem dX10_meet_138 : decode cX10_meet 138 = .ok (.istore 4, 2) := by decide +kernel
theorem dX10_meet_140 : decode cX10_meet 140 = .ok (.iload 7, 2) := by decide +kernel
theorem dX10_meet_142 : decode cX10_meet 142 = .ok (.istore 5, 2) := by decide +kernel
theorem dX10_meet_144 : decode cX10_meet 144 = .ok (.iinc 6 1, 3) := by decide +kernel
theorem dX10_meet_147 : decode cX10_meet 147 = .ok (.goto (-79), 3) := by decide +kernel
theorem dX10_meet_150 : decode cX10_meet 150 = .ok (.iload_n 3, 1) := by decide +kernel
theorem dX10_meet_151 : decode cX10_meet 151 = .ok (.ifCond .ne 8, 3) := by decide +kernel
theorem dX10_meet_154 : decode cX10_meet 154 = .ok (.iload 5, 2) := by decide +kernel
theorem dX10_meet_156 : decode cX10_meet 156 = .ok (.goto 5, 3) := by decide +kernel
theorem dX10_meet_159 : decode cX10_meet 159 = .ok (.iload 4, 2) := by decide +kernel
theorem dX10_meet_161 : decode cX10_meet 161 = .ok (.ireturn, 1) := by decide +kernel
theorem dX10_leastStride_0 : decode cX10_leastStride 0 = .ok (.iconst 1, 1) := by decide +kernel
theorem dX10_leastStride_1 : decode cX10_leastStride 1 = .ok (.istore_n 1, 1) := by decide +kernel
theorem dX10_leastStride_2 : decode cX10_leastStride 2 = .ok (.iload_n 1, 1) := by decide +kernel
theorem dX10_leastStride_3 : decode cX10_leastStride 3 = .ok (.bipush 30, 2) := by decide +kernel
theorem dX10_leastStride_5 : decode cX10_leastStride 5 = .ok (.if_icmp .gt 20, 3) := by decide +kernel
theorem dX10_leastStride_8 : decode cX10_leastStride 8 = .ok (.aload_n 0, 1) := by decide +kernel
theorem dX10_leastStride_9 : decode cX10_leastStride 9 = .ok (.iload_n 1, 1) := by decide +kernel
theorem dX10_leastStride_10 : decode cX10_leastStride 10 = .ok (.invokevirtual 337, 3) := by decide +kernel
theorem dX10_leastStride_13 : decode cX10_leastStride 13 = .ok (.iconst (-1), 1) := by decide +kernel
theorem dX10_leastStride_14 : decode cX10_leastStride 14 = .ok (.if_icmp .eq 5, 3) := by decide +kernel
theorem dX10_leastStride_17 : decode cX10_leastStride 17 = .ok (.iload_n 1, 1) := by decide +kernel
theorem dX10_leastStride_18 : decode cX10_leastStride 18 = .ok (.ireturn, 1) := by decide +kernel
theorem dX10_leastStride_19 : decode cX10_leastStride 19 = .ok (.iinc 1 1, 3) := by decide +kernel
theorem dX10_leastStride_22 : decode cX10_leastStride 22 = .ok (.goto (-20), 3) := by decide +kernel
theorem dX10_leastStride_25 : decode cX10_leastStride 25 = .ok (.bipush (-2), 2) := by decide +kernel
theorem dX10_leastStride_27 : decode cX10_leastStride 27 = .ok (.ireturn, 1) := by decide +kernel
theorem dX10_islands_0 : decode cX10_islands 0 = .ok (.iload_n 1, 1) := by decide +kernel
theorem dX10_islands_1 : decode cX10_islands 1 = .ok (.iconst 1, 1) := by decide +kernel
theorem dX10_islands_2 : decode cX10_islands 2 = .ok (.bipush 30, 2) := by decide +kernel
theorem dX10_islands_4 : decode cX10_islands 4 = .ok (.invokestatic 132, 3) := by decide +kernel
theorem dX10_islands_7 : decode cX10_islands 7 = .ok (.ifCond .eq 17, 3) := by decide +kernel
theorem dX10_islands_10 : decode cX10_islands 10 = .ok (.iload_n 2, 1) := by decide +kernel
theorem dX10_islands_11 : decode cX10_islands 11 = .ok (.bipush 100, 2) := by decide +kernel
theorem dX10_islands_13 : decode cX10_islands 13 = .ok (.if_icmp .eq 13, 3) := by decide +kernel
theorem dX10_islands_16 : decode cX10_islands 16 = .ok (.aload_n 0, 1) := by decide +kernel
theorem dX10_islands_17 : decode cX10_islands 17 = .ok (.iload_n 2, 1) := by decide +kernel
theorem dX10_islands_18 : decode cX10_islands 18 = .ok (.invokevirtual 154, 3) := by decide +kernel
theorem dX10_islands_21 : decode cX10_islands 21 = .ok (.ifCond .ne 5, 3) := by decide +kernel
theorem dX10_islands_24 : decode cX10_islands 24 = .ok (.iconst (-1), 1) := by decide +kernel
theorem dX10_islands_25 : decode cX10_islands 25 = .ok (.ireturn, 1) := by decide +kernel
theorem dX10_islands_26 : decode cX10_islands 26 = .ok (.aload_n 0, 1) := by decide +kernel
theorem dX10_islands_27 : decode cX10_islands 27 = .ok (.iload_n 1, 1) := by decide +kernel
theorem dX10_islands_28 : decode cX10_islands 28 = .ok (.invokevirtual 356, 3) := by decide +kernel
theorem dX10_islands_31 : decode cX10_islands 31 = .ok (.istore_n 3, 1) := by decide +kernel
theorem dX10_islands_32 : decode cX10_islands 32 = .ok (.iload_n 2, 1) := by decide +kernel
theorem dX10_islands_33 : decode cX10_islands 33 = .ok (.bipush 100, 2) := by decide +kernel
theorem dX10_islands_35 : decode cX10_islands 35 = .ok (.if_icmp .ne 5, 3) := by decide +kernel
theorem dX10_islands_38 : decode cX10_islands 38 = .ok (.iload_n 3, 1) := by decide +kernel
theorem dX10_islands_39 : decode cX10_islands 39 = .ok (.ireturn, 1) := by decide +kernel
theorem dX10_islands_40 : decode cX10_islands 40 = .ok (.iconst 0, 1) := by decide +kernel
theorem dX10_islands_41 : decode cX10_islands 41 = .ok (.istore 4, 2) := by decide +kernel
theorem dX10_islands_43 : decode cX10_islands 43 = .ok (.iconst 0, 1) := by decide +kernel
theorem dX10_islands_44 : decode cX10_islands 44 = .ok (.istore 5, 2) := by decide +kernel
theorem dX10_islands_46 : decode cX10_islands 46 = .ok (.iload 5, 2) := by decide +kernel
theorem dX10_islands_48 : decode cX10_islands 48 = .ok (.bipush 40, 2) := by decide +kernel
theorem dX10_islands_50 : decode cX10_islands 50 = .ok (.if_icmp .ge 41, 3) := by decide +kernel
theorem dX10_islands_53 : decode cX10_islands 53 = .ok (.aload_n 0, 1) := by decide +kernel
theorem dX10_islands_54 : decode cX10_islands 54 = .ok (.getfield 101, 3) := by decide +kernel
theorem dX10_islands_57 : decode cX10_islands 57 = .ok (.iload_n 2, 1) := by decide +kernel
theorem dX10_islands_58 : decode cX10_islands 58 = .ok (.iaload, 1) := by decide +kernel
theorem dX10_islands_59 : decode cX10_islands 59 = .ok (.iconst (-1), 1) := by decide +kernel
theorem dX10_islands_60 : decode cX10_islands 60 = .ok (.if_icmp .eq 25, 3) := by decide +kernel
theorem dX10_islands_63 : decode cX10_islands 63 = .ok (.aload_n 0, 1) := by decide +kernel
theorem dX10_islands_64 : decode cX10_islands 64 = .ok (.getfield 101, 3) := by decide +kernel
theorem dX10_islands_67 : decode cX10_islands 67 = .ok (.iload 5, 2) := by decide +kernel
theorem dX10_islands_69 : decode cX10_islands 69 = .ok (.iaload, 1) := by decide +kernel
theorem dX10_islands_70 : decode cX10_islands 70 = .ok (.aload_n 0, 1) := by decide +kernel
theorem dX10_islands_71 : decode cX10_islands 71 = .ok (.getfield 101, 3) := by decide +kernel
theorem dX10_islands_74 : decode cX10_islands 74 = .ok (.iload_n 2, 1) := by decide +kernel
theorem dX10_islands_75 : decode cX10_islands 75 = .ok (.iaload, 1) := by decide +kernel
theorem dX10_islands_76 : decode cX10_islands 76 = .ok (.if_icmp .ne 9, 3) := by decide +kernel
theorem dX10_islands_79 : decode cX10_islands 79 = .ok (.iload 4, 2) := by decide +kernel
theorem dX10_islands_81 : decode cX10_islands 81 = .ok (.iconst 1, 1) := by decide +kernel
theorem dX10_islands_82 : decode cX10_islands 82 = .ok (.iadd, 1) := by decide +kernel
theorem dX10_islands_83 : decode cX10_islands 83 = .ok (.istore 4, 2) := by decide +kernel
theorem dX10_islands_85 : decode cX10_islands 85 = .ok (.iinc 5 1, 3) := by decide +kernel
theorem dX10_islands_88 : decode cX10_islands 88 = .ok (.goto (-42), 3) := by decide +kernel
theorem dX10_islands_91 : decode cX10_islands 91 = .ok (.iload 4, 2) := by decide +kernel
theorem dX10_islands_93 : decode cX10_islands 93 = .ok (.ireturn, 1) := by decide +kernel
theorem dX10_market_0 : decode cX10_market 0 = .ok (.iconst 0, 1) := by decide +kernel
theorem dX10_market_1 : decode cX10_market 1 = .ok (.istore_n 1, 1) := by decide +kernel
theorem dX10_market_2 : decode cX10_market 2 = .ok (.iconst 0, 1) := by decide +kernel
theorem dX10_market_3 : decode cX10_market 3 = .ok (.istore_n 2, 1) := by decide +kernel
theorem dX10_market_4 : decode cX10_market 4 = .ok (.iload_n 2, 1) := by decide +kernel
theorem dX10_market_5 : decode cX10_market 5 = .ok (.bipush 8, 2) := by decide +kernel
theorem dX10_market_7 : decode cX10_market 7 = .ok (.if_icmp .ge 37, 3) := by decide +kernel
theorem dX10_market_10 : decode cX10_market 10 = .ok (.aload_n 0, 1) := by decide +kernel
theorem dX10_market_11 : decode cX10_market 11 = .ok (.iload_n 2, 1) := by decide +kernel
theorem dX10_market_12 : decode cX10_market 12 = .ok (.invokevirtual 334, 3) := by decide +kernel
theorem dX10_market_15 : decode cX10_market 15 = .ok (.ifCond .eq 23, 3) := by decide +kernel
theorem dX10_market_18 : decode cX10_market 18 = .ok (.aload_n 0, 1) := by decide +kernel
theorem dX10_market_19 : decode cX10_market 19 = .ok (.aload_n 0, 1) := by decide +kernel
theorem dX10_market_20 : decode cX10_market 20 = .ok (.getfield 19, 3) := by decide +kernel
theorem dX10_market_23 : decode cX10_market 23 = .ok (.iload_n 2, 1) := by decide +kernel
theorem dX10_market_24 : decode cX10_market 24 = .ok (.iaload, 1) := by decide +kernel
theorem dX10_market_25 : decode cX10_market 25 = .ok (.invokevirtual 337, 3) := by decide +kernel
theorem dX10_market_28 : decode cX10_market 28 = .ok (.iconst (-1), 1) := by decide +kernel
theorem dX10_market_29 : decode cX10_market 29 = .ok (.if_icmp .eq 9, 3) := by decide +kernel
theorem dX10_market_32 : decode cX10_market 32 = .ok (.iload_n 1, 1) := by decide +kernel
theorem dX10_market_33 : decode cX10_market 33 = .ok (.iconst 1, 1) := by decide +kernel
theorem dX10_market_34 : decode cX10_market 34 = .ok (.iload_n 2, 1) := by decide +kernel
theorem dX10_market_35 : decode cX10_market 35 = .ok (.ishl, 1) := by decide +kernel
theorem dX10_market_36 : decode cX10_market 36 = .ok (.ior, 1) := by decide +kernel
theorem dX10_market_37 : decode cX10_market 37 = .ok (.istore_n 1, 1) := by decide +kernel
theorem dX10_market_38 : decode cX10_market 38 = .ok (.iinc 2 1, 3) := by decide +kernel
theorem dX10_market_41 : decode cX10_market 41 = .ok (.goto (-37), 3) := by decide +kernel
theorem dX10_market_44 : decode cX10_market 44 = .ok (.iload_n 1, 1) := by decide +kernel
theorem dX10_market_45 : decode cX10_market 45 = .ok (.ireturn, 1) := by decide +kernel
theorem dX10_chalk_0 : decode cX10_chalk 0 = .ok (.iload_n 1, 1) := by decide +kernel
theorem dX10_chalk_1 : decode cX10_chalk 1 = .ok (.iconst 1, 1) := by decide +kernel
theorem dX10_chalk_2 : decode cX10_chalk 2 = .ok (.bipush 7, 2) := by decide +kernel
theorem dX10_chalk_4 : decode cX10_chalk 4 = .ok (.invokestatic 132, 3) := by decide +kernel
theorem dX10_chalk_7 : decode cX10_chalk 7 = .ok (.ifCond .eq 30, 3) := by decide +kernel
theorem dX10_chalk_10 : decode cX10_chalk 10 = .ok (.iload_n 2, 1) := by decide +kernel
theorem dX10_chalk_11 : decode cX10_chalk 11 = .ok (.bipush 100, 2) := by decide +kernel
theorem dX10_chalk_13 : decode cX10_chalk 13 = .ok (.if_icmp .eq 14, 3) := by decide +kernel
theorem dX10_chalk_16 : decode cX10_chalk 16 = .ok (.iload_n 2, 1) := by decide +kernel
theorem dX10_chalk_17 : decode cX10_chalk 17 = .ok (.iconst 0, 1) := by decide +kernel
theorem dX10_chalk_18 : decode cX10_chalk 18 = .ok (.iload_n 1, 1) := by decide +kernel
theorem dX10_chalk_19 : decode cX10_chalk 19 = .ok (.iconst 1, 1) := by decide +kernel
theorem dX10_chalk_20 : decode cX10_chalk 20 = .ok (.isub, 1) := by decide +kernel
theorem dX10_chalk_21 : decode cX10_chalk 21 = .ok (.invokestatic 132, 3) := by decide +kernel
theorem dX10_chalk_24 : decode cX10_chalk 24 = .ok (.ifCond .eq 13, 3) := by decide +kernel
theorem dX10_chalk_27 : decode cX10_chalk 27 = .ok (.iconst 2, 1) := by decide +kernel
theorem dX10_chalk_28 : decode cX10_chalk 28 = .ok (.iload_n 1, 1) := by decide +kernel
theorem dX10_chalk_29 : decode cX10_chalk 29 = .ok (.imul, 1) := by decide +kernel
theorem dX10_chalk_30 : decode cX10_chalk 30 = .ok (.aload_n 0, 1) := by decide +kernel
theorem dX10_chalk_31 : decode cX10_chalk 31 = .ok (.getfield 158, 3) := by decide +kernel
theorem dX10_chalk_34 : decode cX10_chalk 34 = .ok (.if_icmp .le 5, 3) := by decide +kernel
theorem dX10_chalk_37 : decode cX10_chalk 37 = .ok (.iconst (-1), 1) := by decide +kernel
theorem dX10_chalk_38 : decode cX10_chalk 38 = .ok (.ireturn, 1) := by decide +kernel
theorem dX10_chalk_39 : decode cX10_chalk 39 = .ok (.aload_n 0, 1) := by decide +kernel
theorem dX10_chalk_40 : decode cX10_chalk 40 = .ok (.iconst 0, 1) := by decide +kernel
theorem dX10_chalk_41 : decode cX10_chalk 41 = .ok (.putfield 158, 3) := by decide +kernel
theorem dX10_chalk_44 : decode cX10_chalk 44 = .ok (.aload_n 0, 1) := by decide +kernel
theorem dX10_chalk_45 : decode cX10_chalk 45 = .ok (.iload_n 1, 1) := by decide +kernel
theorem dX10_chalk_46 : decode cX10_chalk 46 = .ok (.iconst 0, 1) := by decide +kernel
theorem dX10_chalk_47 : decode cX10_chalk 47 = .ok (.invokevirtual 383, 3) := by decide +kernel
theorem dX10_chalk_50 : decode cX10_chalk 50 = .ok (.ifCond .ne 6, 3) := by decide +kernel
theorem dX10_chalk_53 : decode cX10_chalk 53 = .ok (.bipush (-2), 2) := by decide +kernel
theorem dX10_chalk_55 : decode cX10_chalk 55 = .ok (.ireturn, 1) := by decide +kernel
theorem dX10_chalk_56 : decode cX10_chalk 56 = .ok (.iconst 0, 1) := by decide +kernel
theorem dX10_chalk_57 : decode cX10_chalk 57 = .ok (.istore_n 3, 1) := by decide +kernel
theorem dX10_chalk_58 : decode cX10_chalk 58 = .ok (.iload_n 3, 1) := by decide +kernel
theorem dX10_chalk_59 : decode cX10_chalk 59 = .ok (.iload_n 1, 1) := by decide +kernel
theorem dX10_chalk_60 : decode cX10_chalk 60 = .ok (.if_icmp .ge 38, 3) := by decide +kernel
theorem dX10_chalk_63 : decode cX10_chalk 63 = .ok (.aload_n 0, 1) := by decide +kernel
theorem dX10_chalk_64 : decode cX10_chalk 64 = .ok (.iconst 2, 1) := by decide +kernel
theorem dX10_chalk_65 : decode cX10_chalk 65 = .ok (.iload_n 3, 1) := by decide +kernel
theorem dX10_chalk_66 : decode cX10_chalk 66 = .ok (.imul, 1) := by decide +kernel
theorem dX10_chalk_67 : decode cX10_chalk 67 = .ok (.invokevirtual 377, 3) := by decide +kernel
theorem dX10_chalk_70 : decode cX10_chalk 70 = .ok (.bipush 39, 2) := by decide +kernel
theorem dX10_chalk_72 : decode cX10_chalk 72 = .ok (.if_icmp .gt 17, 3) := by decide +kernel
theorem dX10_chalk_75 : decode cX10_chalk 75 = .ok (.aload_n 0, 1) := by decide +kernel
theorem dX10_chalk_76 : decode cX10_chalk 76 = .ok (.iconst 2, 1) := by decide +kernel
theorem dX10_chalk_77 : decode cX10_chalk 77 = .ok (.iload_n 3, 1) := by decide +kernel
theorem dX10_chalk_78 : decode cX10_chalk 78 = .ok (.imul, 1) := by decide +kernel
theorem dX10_chalk_79 : decode cX10_chalk 79 = .ok (.iconst 1, 1) := by decide +kernel
theorem dX10_chalk_80 : decode cX10_chalk 80 = .ok (.iadd, 1) := by decide +kernel
theorem dX10_chalk_81 : decode cX10_chalk 81 = .ok (.invokevirtual 377, 3) := by decide +kernel
theorem dX10_chalk_84 : decode cX10_chalk 84 = .ok (.bipush 20, 2) := by decide +kernel
theorem dX10_chalk_86 : decode cX10_chalk 86 = .ok (.if_icmp .le 6, 3) := by decide +kernel
theorem dX10_chalk_89 : decode cX10_chalk 89 = .ok (.bipush (-3), 2) := by decide +kernel
theorem dX10_chalk_91 : decode cX10_chalk 91 = .ok (.ireturn, 1) := by decide +kernel
theorem dX10_chalk_92 : decode cX10_chalk 92 = .ok (.iinc 3 1, 3) := by decide +kernel
theorem dX10_chalk_95 : decode cX10_chalk 95 = .ok (.goto (-37), 3) := by decide +kernel
theorem dX10_chalk_98 : decode cX10_chalk 98 = .ok (.aload_n 0, 1) := by decide +kernel
theorem dX10_chalk_99 : decode cX10_chalk 99 = .ok (.iload_n 1, 1) := by decide +kernel
theorem dX10_chalk_100 : decode cX10_chalk 100 = .ok (.invokevirtual 387, 3) := by decide +kernel
theorem dX10_chalk_103 : decode cX10_chalk 103 = .ok (.ldc_w 343, 3) := by decide +kernel
theorem dX10_chalk_106 : decode cX10_chalk 106 = .ok (.istore_n 3, 1) := by decide +kernel
theorem dX10_chalk_107 : decode cX10_chalk 107 = .ok (.iconst 1, 1) := by decide +kernel
theorem dX10_chalk_108 : decode cX10_chalk 108 = .ok (.istore 4, 2) := by decide +kernel
theorem dX10_chalk_110 : decode cX10_chalk 110 = .ok (.iload 4, 2) := by decide +kernel
theorem dX10_chalk_112 : decode cX10_chalk 112 = .ok (.ifCond .eq 64, 3) := by decide +kernel
theorem dX10_chalk_115 : decode cX10_chalk 115 = .ok (.aload_n 0, 1) := by decide +kernel
theorem dX10_chalk_116 : decode cX10_chalk 116 = .ok (.iload_n 1, 1) := by decide +kernel
theorem dX10_chalk_117 : decode cX10_chalk 117 = .ok (.invokevirtual 390, 3) := by decide +kernel
theorem dX10_chalk_120 : decode cX10_chalk 120 = .ok (.istore 5, 2) := by decide +kernel
theorem dX10_chalk_122 : decode cX10_chalk 122 = .ok (.iload 5, 2) := by decide +kernel
theorem dX10_chalk_124 : decode cX10_chalk 124 = .ok (.iload_n 3, 1) := by decide +kernel
theorem dX10_chalk_125 : decode cX10_chalk 125 = .ok (.if_icmp .ge 40, 3) := by decide +kernel
theorem dX10_chalk_128 : decode cX10_chalk 128 = .ok (.iload 5, 2) := by decide +kernel
theorem dX10_chalk_130 : decode cX10_chalk 130 = .ok (.istore_n 3, 1) := by decide +kernel
theorem dX10_chalk_131 : decode cX10_chalk 131 = .ok (.iconst 0, 1) := by decide +kernel
theorem dX10_chalk_132 : decode cX10_chalk 132 = .ok (.istore 6, 2) := by decide +kernel
theorem dX10_chalk_134 : decode cX10_chalk 134 = .ok (.iload 6, 2) := by decide +kernel
theorem dX10_chalk_136 : decode cX10_chalk 136 = .ok (.iload_n 1, 1) := by decide +kernel
theorem dX10_chalk_137 : decode cX10_chalk 137 = .ok (.if_icmp .ge 28, 3) := by decide +kernel
theorem dX10_chalk_140 : decode cX10_chalk 140 = .ok (.aload_n 0, 1) := by decide +kernel
theorem dX10_chalk_141 : decode cX10_chalk 141 = .ok (.getfield 122, 3) := by decide +kernel
theorem dX10_chalk_144 : decode cX10_chalk 144 = .ok (.iload 6, 2) := by decide +kernel
theorem dX10_chalk_146 : decode cX10_chalk 146 = .ok (.aload_n 0, 1) := by decide +kernel
theorem dX10_chalk_147 : decode cX10_chalk 147 = .ok (.getfield 116, 3) := by decide +kernel
theorem dX10_chalk_150 : decode cX10_chalk 150 = .ok (.aload_n 0, 1) := by decide +kernel
theorem dX10_chalk_151 : decode cX10_chalk 151 = .ok (.getfield 119, 3) := by decide +kernel
theorem dX10_chalk_154 : decode cX10_chalk 154 = .ok (.iload 6, 2) := by decide +kernel
theorem dX10_chalk_156 : decode cX10_chalk 156 = .ok (.iaload, 1) := by decide +kernel
theorem dX10_chalk_157 : decode cX10_chalk 157 = .ok (.iaload, 1) := by decide +kernel
theorem dX10_chalk_158 : decode cX10_chalk 158 = .ok (.iastore, 1) := by decide +kernel
theorem dX10_chalk_159 : decode cX10_chalk 159 = .ok (.iinc 6 1, 3) := by decide +kernel
theorem dX10_chalk_162 : decode cX10_chalk 162 = .ok (.goto (-28), 3) := by decide +kernel
theorem dX10_chalk_165 : decode cX10_chalk 165 = .ok (.aload_n 0, 1) := by decide +kernel
theorem dX10_chalk_166 : decode cX10_chalk 166 = .ok (.iload_n 1, 1) := by decide +kernel
theorem dX10_chalk_167 : decode cX10_chalk 167 = .ok (.iconst 0, 1) := by decide +kernel
theorem dX10_chalk_168 : decode cX10_chalk 168 = .ok (.invokevirtual 393, 3) := by decide +kernel
theorem dX10_chalk_171 : decode cX10_chalk 171 = .ok (.istore 4, 2) := by decide +kernel
theorem dX10_chalk_173 : decode cX10_chalk 173 = .ok (.goto (-63), 3) := by decide +kernel
theorem dX10_chalk_176 : decode cX10_chalk 176 = .ok (.iload_n 2, 1) := by decide +kernel
theorem dX10_chalk_177 : decode cX10_chalk 177 = .ok (.bipush 100, 2) := by decide +kernel
theorem dX10_chalk_179 : decode cX10_chalk 179 = .ok (.if_icmp .ne 7, 3) := by decide +kernel
theorem dX10_chalk_182 : decode cX10_chalk 182 = .ok (.iload_n 3, 1) := by decide +kernel
theorem dX10_chalk_183 : decode cX10_chalk 183 = .ok (.goto 9, 3) := by decide +kernel
theorem dX10_chalk_186 : decode cX10_chalk 186 = .ok (.aload_n 0, 1) := by decide +kernel
theorem dX10_chalk_187 : decode cX10_chalk 187 = .ok (.getfield 122, 3) := by decide +kernel
theorem dX10_chalk_190 : decode cX10_chalk 190 = .ok (.iload_n 2, 1) := by decide +kernel
theorem dX10_chalk_191 : decode cX10_chalk 191 = .ok (.iaload, 1) := by decide +kernel
theorem dX10_chalk_192 : decode cX10_chalk 192 = .ok (.ireturn, 1) := by decide +kernel
theorem dX10_shape_0 : decode cX10_shape 0 = .ok (.iload_n 1, 1) := by decide +kernel
theorem dX10_shape_1 : decode cX10_shape 1 = .ok (.tableswitch 51 0 3 #[31, 36, 41, 46], 31) := by decide +kernel
theorem dX10_shape_32 : decode cX10_shape 32 = .ok (.aload_n 0, 1) := by decide +kernel
theorem dX10_shape_33 : decode cX10_shape 33 = .ok (.invokevirtual 402, 3) := by decide +kernel
theorem dX10_shape_36 : decode cX10_shape 36 = .ok (.ireturn, 1) := by decide +kernel
theorem dX10_shape_37 : decode cX10_shape 37 = .ok (.aload_n 0, 1) := by decide +kernel
theorem dX10_shape_38 : decode cX10_shape 38 = .ok (.invokevirtual 405, 3) := by decide +kernel
theorem dX10_shape_41 : decode cX10_shape 41 = .ok (.ireturn, 1) := by decide +kernel
theorem dX10_shape_42 : decode cX10_shape 42 = .ok (.aload_n 0, 1) := by decide +kernel
theorem dX10_shape_43 : decode cX10_shape 43 = .ok (.invokevirtual 408, 3) := by decide +kernel
theorem dX10_shape_46 : decode cX10_shape 46 = .ok (.ireturn, 1) := by decide +kernel
theorem dX10_shape_47 : decode cX10_shape 47 = .ok (.aload_n 0, 1) := by decide +kernel
theorem dX10_shape_48 : decode cX10_shape 48 = .ok (.invokevirtual 411, 3) := by decide +kernel
theorem dX10_shape_51 : decode cX10_shape 51 = .ok (.ireturn, 1) := by decide +kernel
theorem dX10_shape_52 : decode cX10_shape 52 = .ok (.iconst (-1), 1) := by decide +kernel
theorem dX10_shape_53 : decode cX10_shape 53 = .ok (.ireturn, 1) := by decide +kernel
theorem dX10_letters_0 : decode cX10_letters 0 = .ok (.iload_n 1, 1) := by decide +kernel
theorem dX10_letters_1 : decode cX10_letters 1 = .ok (.iconst 1, 1) := by decide +kernel
theorem dX10_letters_2 : decode cX10_letters 2 = .ok (.bipush 8, 2) := by decide +kernel
theorem dX10_letters_4 : decode cX10_letters 4 = .ok (.invokestatic 132, 3) := by decide +kernel
theorem dX10_letters_7 : decode cX10_letters 7 = .ok (.ifCond .eq 20, 3) := by decide +kernel
theorem dX10_letters_10 : decode cX10_letters 10 = .ok (.iload_n 2, 1) := by decide +kernel
theorem dX10_letters_11 : decode cX10_letters 11 = .ok (.iconst 0, 1) := by decide +kernel
theorem dX10_letters_12 : decode cX10_letters 12 = .ok (.iconst 1, 1) := by decide +kernel
theorem dX10_letters_13 : decode cX10_letters 13 = .ok (.invokestatic 132, 3) := by decide +kernel
theorem dX10_letters_16 : decode cX10_letters 16 = .ok (.ifCond .eq 11, 3) := by decide +kernel
theorem dX10_letters_19 : decode cX10_letters 19 = .ok (.iload_n 1, 1) := by decide +kernel
theorem dX10_letters_20 : decode cX10_letters 20 = .ok (.aload_n 0, 1) := by decide +kernel
theorem dX10_letters_21 : decode cX10_letters 21 = .ok (.getfield 158, 3) := by decide +kernel
theorem dX10_letters_24 : decode cX10_letters 24 = .ok (.if_icmp .le 5, 3) := by decide +kernel
theorem dX10_letters_27 : decode cX10_letters 27 = .ok (.iconst (-1), 1) := by decide +kernel
theorem dX10_letters_28 : decode cX10_letters 28 = .ok (.ireturn, 1) := by decide +kernel
theorem dX10_letters_29 : decode cX10_letters 29 = .ok (.aload_n 0, 1) := by decide +kernel
theorem dX10_letters_30 : decode cX10_letters 30 = .ok (.iconst 0, 1) := by decide +kernel
theorem dX10_letters_31 : decode cX10_letters 31 = .ok (.putfield 158, 3) := by decide +kernel
theorem dX10_letters_34 : decode cX10_letters 34 = .ok (.iconst 0, 1) := by decide +kernel
theorem dX10_letters_35 : decode cX10_letters 35 = .ok (.istore_n 3, 1) := by decide +kernel
theorem dX10_letters_36 : decode cX10_letters 36 = .ok (.iload_n 3, 1) := by decide +kernel
theorem dX10_letters_37 : decode cX10_letters 37 = .ok (.iload_n 1, 1) := by decide +kernel
theorem dX10_letters_38 : decode cX10_letters 38 = .ok (.if_icmp .ge 20, 3) := by decide +kernel
theorem dX10_letters_41 : decode cX10_letters 41 = .ok (.aload_n 0, 1) := by decide +kernel
theorem dX10_letters_42 : decode cX10_letters 42 = .ok (.iload_n 3, 1) := by decide +kernel
theorem dX10_letters_43 : decode cX10_letters 43 = .ok (.invokevirtual 377, 3) := by decide +kernel
theorem dX10_letters_46 : decode cX10_letters 46 = .ok (.ifCond .ne 6, 3) := by decide +kernel
theorem dX10_letters_49 : decode cX10_letters 49 = .ok (.bipush (-2), 2) := by decide +kernel
theorem dX10_letters_51 : decode cX10_letters 51 = .ok (.ireturn, 1) := by decide +kernel
theorem dX10_letters_52 : decode cX10_letters 52 = .ok (.iinc 3 1, 3) := by decide +kernel
theorem dX10_letters_55 : decode cX10_letters 55 = .ok (.goto (-19), 3) := by decide +kernel
theorem dX10_letters_58 : decode cX10_letters 58 = .ok (.iconst 0, 1) := by decide +kernel
theorem dX10_letters_59 : decode cX10_letters 59 = .ok (.istore_n 3, 1) := by decide +kernel
theorem dX10_letters_60 : decode cX10_letters 60 = .ok (.ldc_w 343, 3) := by decide +kernel
theorem dX10_letters_63 : decode cX10_letters 63 = .ok (.istore 4, 2) := by decide +kernel
theorem dX10_letters_65 : decode cX10_letters 65 = .ok (.iconst 1, 1) := by decide +kernel
theorem dX10_letters_66 : decode cX10_letters 66 = .ok (.istore 5, 2) := by decide +kernel
theorem dX10_letters_68 : decode cX10_letters 68 = .ok (.iload 5, 2) := by decide +kernel
theorem dX10_letters_70 : decode cX10_letters 70 = .ok (.iconst 1, 1) := by decide +kernel
theorem dX10_letters_71 : decode cX10_letters 71 = .ok (.iload_n 1, 1) := by decide +kernel
theorem dX10_letters_72 : decode cX10_letters 72 = .ok (.ishl, 1) := by decide +kernel
theorem dX10_letters_73 : decode cX10_letters 73 = .ok (.if_icmp .ge 84, 3) := by decide +kernel
theorem dX10_letters_76 : decode cX10_letters 76 = .ok (.iconst 0, 1) := by decide +kernel
theorem dX10_letters_77 : decode cX10_letters 77 = .ok (.istore 6, 2) := by decide +kernel
theorem dX10_letters_79 : decode cX10_letters 79 = .ok (.iconst 0, 1) := by decide +kernel
theorem dX10_letters_80 : decode cX10_letters 80 = .ok (.istore 7, 2) := by decide +kernel
theorem dX10_letters_82 : decode cX10_letters 82 = .ok (.iload 7, 2) := by decide +kernel
theorem dX10_letters_84 : decode cX10_letters 84 = .ok (.iload_n 1, 1) := by decide +kernel
theorem dX10_letters_85 : decode cX10_letters 85 = .ok (.if_icmp .ge 40, 3) := by decide +kernel
theorem dX10_letters_88 : decode cX10_letters 88 = .ok (.iload 6, 2) := by decide +kernel
theorem dX10_letters_90 : decode cX10_letters 90 = .ok (.iload 5, 2) := by decide +kernel
theorem dX10_letters_92 : decode cX10_letters 92 = .ok (.iload 7, 2) := by decide +kernel
theorem dX10_letters_94 : decode cX10_letters 94 = .ok (.invokestatic 140, 3) := by decide +kernel
theorem dX10_letters_97 : decode cX10_letters 97 = .ok (.ifCond .eq 12, 3) := by decide +kernel
theorem dX10_letters_100 : decode cX10_letters 100 = .ok (.aload_n 0, 1) := by decide +kernel
theorem dX10_letters_101 : decode cX10_letters 101 = .ok (.iload 7, 2) := by decide +kernel
theorem dX10_letters_103 : decode cX10_letters 103 = .ok (.invokevirtual 377, 3) := by decide +kernel
theorem dX10_letters_106 : decode cX10_letters 106 = .ok (.goto 10, 3) := by decide +kernel
theorem dX10_letters_109 : decode cX10_letters 109 = .ok (.aload_n 0, 1) := by decide +kernel
theorem dX10_letters_110 : decode cX10_letters 110 = .ok (.iload 7, 2) := by decide +kernel
theorem dX10_letters_112 : decode cX10_letters 112 = .ok (.invokevirtual 377, 3) := by decide +kernel
theorem dX10_letters_115 : decode cX10_letters 115 = .ok (.ineg, 1) := by decide +kernel
theorem dX10_letters_116 : decode cX10_letters 116 = .ok (.iadd, 1) := by decide +kernel
theorem dX10_letters_117 : decode cX10_letters 117 = .ok (.istore 6, 2) := by decide +kernel
theorem dX10_letters_119 : decode cX10_letters 119 = .ok (.iinc 7 1, 3) := by decide +kernel
theorem dX10_letters_122 : decode cX10_letters 122 = .ok (.goto (-40), 3) := by decide +kernel
theorem dX10_letters_125 : decode cX10_letters 125 = .ok (.iload 6, 2) := by decide +kernel
theorem dX10_letters_127 : decode cX10_letters 127 = .ok (.invokestatic 380, 3) := by decide +kernel
theorem dX10_letters_130 : decode cX10_letters 130 = .ok (.iload 4, 2) := by decide +kernel
theorem dX10_letters_132 : decode cX10_letters 132 = .ok (.if_icmp .lt 6, 3) := by decide +kernel
theorem dX10_letters_135 : decode cX10_letters 135 = .ok (.goto 13, 3) := by decide +kernel
theorem dX10_letters_138 : decode cX10_letters 138 = .ok (.iload 6, 2) := by decide +kernel
theorem dX10_letters_140 : decode cX10_letters 140 = .ok (.invokestatic 380, 3) := by decide +kernel
theorem dX10_letters_143 : decode cX10_letters 143 = .ok (.istore 4, 2) := by decide +kernel
theorem dX10_letters_145 : decode cX10_letters 145 = .ok (.iload 5, 2) := by decide +kernel
theorem dX10_letters_147 : decode cX10_letters 147 = .ok (.istore_n 3, 1) := by decide +kernel
theorem dX10_letters_148 : decode cX10_letters 148 = .ok (.iload 5, 2) := by decide +kernel
theorem dX10_letters_150 : decode cX10_letters 150 = .ok (.iconst 2, 1) := by decide +kernel
theorem dX10_letters_151 : decode cX10_letters 151 = .ok (.iadd, 1) := by decide +kernel
theorem dX10_letters_152 : decode cX10_letters 152 = .ok (.istore 5, 2) := by decide +kernel
theorem dX10_letters_154 : decode cX10_letters 154 = .ok (.goto (-86), 3) := by decide +kernel
theorem dX10_letters_157 : decode cX10_letters 157 = .ok (.iload_n 2, 1) := by decide +kernel
theorem dX10_letters_158 : decode cX10_letters 158 = .ok (.ifCond .ne 8, 3) := by decide +kernel
theorem dX10_letters_161 : decode cX10_letters 161 = .ok (.iload 4, 2) := by decide +kernel
theorem dX10_letters_163 : decode cX10_letters 163 = .ok (.goto 4, 3) := by decide +kernel
theorem dX10_letters_166 : decode cX10_letters 166 = .ok (.iload_n 3, 1) := by decide +kernel
theorem dX10_letters_167 : decode cX10_letters 167 = .ok (.ireturn, 1) := by decide +kernel
theorem dX10_thrown_0 : decode cX10_thrown 0 = .ok (.iload_n 1, 1) := by decide +kernel
theorem dX10_thrown_1 : decode cX10_thrown 1 = .ok (.iconst 1, 1) := by decide +kernel
theorem dX10_thrown_2 : decode cX10_thrown 2 = .ok (.bipush 6, 2) := by decide +kernel
theorem dX10_thrown_4 : decode cX10_thrown 4 = .ok (.invokestatic 132, 3) := by decide +kernel
theorem dX10_thrown_7 : decode cX10_thrown 7 = .ok (.ifCond .ne 5, 3) := by decide +kernel
theorem dX10_thrown_10 : decode cX10_thrown 10 = .ok (.iconst (-1), 1) := by decide +kernel
theorem dX10_thrown_11 : decode cX10_thrown 11 = .ok (.ireturn, 1) := by decide +kernel
theorem dX10_thrown_12 : decode cX10_thrown 12 = .ok (.aload_n 0, 1) := by decide +kernel
theorem dX10_thrown_13 : decode cX10_thrown 13 = .ok (.iload_n 1, 1) := by decide +kernel
theorem dX10_thrown_14 : decode cX10_thrown 14 = .ok (.iconst 1, 1) := by decide +kernel
theorem dX10_thrown_15 : decode cX10_thrown 15 = .ok (.invokevirtual 383, 3) := by decide +kernel
theorem dX10_thrown_18 : decode cX10_thrown 18 = .ok (.ifCond .ne 6, 3) := by decide +kernel
theorem dX10_thrown_21 : decode cX10_thrown 21 = .ok (.bipush (-2), 2) := by decide +kernel
theorem dX10_thrown_23 : decode cX10_thrown 23 = .ok (.ireturn, 1) := by decide +kernel
theorem dX10_thrown_24 : decode cX10_thrown 24 = .ok (.aload_n 0, 1) := by decide +kernel
theorem dX10_thrown_25 : decode cX10_thrown 25 = .ok (.iload_n 1, 1) := by decide +kernel
theorem dX10_thrown_26 : decode cX10_thrown 26 = .ok (.invokevirtual 387, 3) := by decide +kernel
theorem dX10_thrown_29 : decode cX10_thrown 29 = .ok (.ldc_w 343, 3) := by decide +kernel
theorem dX10_thrown_32 : decode cX10_thrown 32 = .ok (.istore_n 2, 1) := by decide +kernel
theorem dX10_thrown_33 : decode cX10_thrown 33 = .ok (.iconst 1, 1) := by decide +kernel
theorem dX10_thrown_34 : decode cX10_thrown 34 = .ok (.istore_n 3, 1) := by decide +kernel
theorem dX10_thrown_35 : decode cX10_thrown 35 = .ok (.iload_n 3, 1) := by decide +kernel
theorem dX10_thrown_36 : decode cX10_thrown 36 = .ok (.ifCond .eq 73, 3) := by decide +kernel
theorem dX10_thrown_39 : decode cX10_thrown 39 = .ok (.iconst 0, 1) := by decide +kernel
theorem dX10_thrown_40 : decode cX10_thrown 40 = .ok (.istore 4, 2) := by decide +kernel
theorem dX10_thrown_42 : decode cX10_thrown 42 = .ok (.iconst 1, 1) := by decide +kernel
theorem dX10_thrown_43 : decode cX10_thrown 43 = .ok (.istore 5, 2) := by decide +kernel
theorem dX10_thrown_45 : decode cX10_thrown 45 = .ok (.iload 5, 2) := by decide +kernel
theorem dX10_thrown_47 : decode cX10_thrown 47 = .ok (.iload_n 1, 1) := by decide +kernel
theorem dX10_thrown_48 : decode cX10_thrown 48 = .ok (.if_icmp .ge 44, 3) := by decide +kernel
theorem dX10_thrown_51 : decode cX10_thrown 51 = .ok (.iload 4, 2) := by decide +kernel
theorem dX10_thrown_53 : decode cX10_thrown 53 = .ok (.aload_n 0, 1) := by decide +kernel
theorem dX10_thrown_54 : decode cX10_thrown 54 = .ok (.aload_n 0, 1) := by decide +kernel
theorem dX10_thrown_55 : decode cX10_thrown 55 = .ok (.getfield 116, 3) := by decide +kernel
theorem dX10_thrown_58 : decode cX10_thrown 58 = .ok (.aload_n 0, 1) := by decide +kernel
theorem dX10_thrown_59 : decode cX10_thrown 59 = .ok (.getfield 119, 3) := by decide +kernel
theorem dX10_thrown_62 : decode cX10_thrown 62 = .ok (.iload 5, 2) := by decide +kernel
theorem dX10_thrown_64 : decode cX10_thrown 64 = .ok (.iconst 1, 1) := by decide +kernel
theorem dX10_thrown_65 : decode cX10_thrown 65 = .ok (.isub, 1) := by decide +kernel
theorem dX10_thrown_66 : decode cX10_thrown 66 = .ok (.iaload, 1) := by decide +kernel
theorem dX10_thrown_67 : decode cX10_thrown 67 = .ok (.iaload, 1) := by decide +kernel
theorem dX10_thrown_68 : decode cX10_thrown 68 = .ok (.aload_n 0, 1) := by decide +kernel
theorem dX10_thrown_69 : decode cX10_thrown 69 = .ok (.getfield 116, 3) := by decide +kernel
theorem dX10_thrown_72 : decode cX10_thrown 72 = .ok (.aload_n 0, 1) := by decide +kernel
theorem dX10_thrown_73 : decode cX10_thrown 73 = .ok (.getfield 119, 3) := by decide +kernel
theorem dX10_thrown_76 : decode cX10_thrown 76 = .ok (.iload 5, 2) := by decide +kernel
theorem dX10_thrown_78 : decode cX10_thrown 78 = .ok (.iaload, 1) := by decide +kernel
theorem dX10_thrown_79 : decode cX10_thrown 79 = .ok (.iaload, 1) := by decide +kernel
theorem dX10_thrown_80 : decode cX10_thrown 80 = .ok (.invokevirtual 144, 3) := by decide +kernel
theorem dX10_thrown_83 : decode cX10_thrown 83 = .ok (.iadd, 1) := by decide +kernel
theorem dX10_thrown_84 : decode cX10_thrown 84 = .ok (.istore 4, 2) := by decide +kernel
theorem dX10_thrown_86 : decode cX10_thrown 86 = .ok (.iinc 5 1, 3) := by decide +kernel
theorem dX10_thrown_89 : decode cX10_thrown 89 = .ok (.goto (-44), 3) := by decide +kernel
theorem dX10_thrown_92 : decode cX10_thrown 92 = .ok (.iload_n 2, 1) := by decide +kernel
theorem dX10_thrown_93 : decode cX10_thrown 93 = .ok (.iload 4, 2) := by decide +kernel
theorem dX10_thrown_95 : decode cX10_thrown 95 = .ok (.invokestatic 125, 3) := by decide +kernel
theorem dX10_thrown_98 : decode cX10_thrown 98 = .ok (.istore_n 2, 1) := by decide +kernel
theorem dX10_thrown_99 : decode cX10_thrown 99 = .ok (.aload_n 0, 1) := by decide +kernel
theorem dX10_thrown_100 : decode cX10_thrown 100 = .ok (.iload_n 1, 1) := by decide +kernel
theorem dX10_thrown_101 : decode cX10_thrown 101 = .ok (.iconst 1, 1) := by decide +kernel
theorem dX10_thrown_102 : decode cX10_thrown 102 = .ok (.invokevirtual 393, 3) := by decide +kernel
theorem dX10_thrown_105 : decode cX10_thrown 105 = .ok (.istore_n 3, 1) := by decide +kernel
theorem dX10_thrown_106 : decode cX10_thrown 106 = .ok (.goto (-71), 3) := by decide +kernel
theorem dX10_thrown_109 : decode cX10_thrown 109 = .ok (.iload_n 2, 1) := by decide +kernel
theorem dX10_thrown_110 : decode cX10_thrown 110 = .ok (.ireturn, 1) := by decide +kernel
theorem dX10_seed_0 : decode cX10_seed 0 = .ok (.iload_n 1, 1) := by decide +kernel
theorem dX10_seed_1 : decode cX10_seed 1 = .ok (.iconst 0, 1) := by decide +kernel
theorem dX10_seed_2 : decode cX10_seed 2 = .ok (.ldc_w 414, 3) := by decide +kernel
theorem dX10_seed_5 : decode cX10_seed 5 = .ok (.invokestatic 132, 3) := by decide +kernel
theorem dX10_seed_8 : decode cX10_seed 8 = .ok (.ifCond .ne 5, 3) := by decide +kernel
theorem dX10_seed_11 : decode cX10_seed 11 = .ok (.iconst 0, 1) := by decide +kernel
theorem dX10_seed_12 : decode cX10_seed 12 = .ok (.ireturn, 1) := by decide +kernel
theorem dX10_seed_13 : decode cX10_seed 13 = .ok (.aload_n 0, 1) := by decide +kernel
theorem dX10_seed_14 : decode cX10_seed 14 = .ok (.getfield 7, 3) := by decide +kernel
theorem dX10_seed_17 : decode cX10_seed 17 = .ok (.sipush 201, 3) := by decide +kernel
theorem dX10_seed_20 : decode cX10_seed 20 = .ok (.iload_n 1, 1) := by decide +kernel
theorem dX10_seed_21 : decode cX10_seed 21 = .ok (.iastore, 1) := by decide +kernel
theorem dX10_seed_22 : decode cX10_seed 22 = .ok (.iconst 1, 1) := by decide +kernel
theorem dX10_seed_23 : decode cX10_seed 23 = .ok (.ireturn, 1) := by decide +kernel
theorem dX10_keep_0 : decode cX10_keep 0 = .ok (.aload_n 0, 1) := by decide +kernel
theorem dX10_keep_1 : decode cX10_keep 1 = .ok (.iconst 1, 1) := by decide +kernel
theorem dX10_keep_2 : decode cX10_keep 2 = .ok (.putfield 415, 3) := by decide +kernel
theorem dX10_keep_5 : decode cX10_keep 5 = .ok (.aload_n 0, 1) := by decide +kernel
theorem dX10_keep_6 : decode cX10_keep 6 = .ok (.getfield 7, 3) := by decide +kernel
theorem dX10_keep_9 : decode cX10_keep 9 = .ok (.aload_n 0, 1) := by decide +kernel
theorem dX10_keep_10 : decode cX10_keep 10 = .ok (.getfield 16, 3) := by decide +kernel
theorem dX10_keep_13 : decode cX10_keep 13 = .ok (.invokestatic 315, 3) := by decide +kernel
theorem dX10_keep_16 : decode cX10_keep 16 = .ok (.aload_n 0, 1) := by decide +kernel
theorem dX10_keep_17 : decode cX10_keep 17 = .ok (.getfield 7, 3) := by decide +kernel
theorem dX10_keep_20 : decode cX10_keep 20 = .ok (.sipush 200, 3) := by decide +kernel
theorem dX10_keep_23 : decode cX10_keep 23 = .ok (.iaload, 1) := by decide +kernel
theorem dX10_keep_24 : decode cX10_keep 24 = .ok (.ireturn, 1) := by decide +kernel
theorem dX10_undo_0 : decode cX10_undo 0 = .ok (.aload_n 0, 1) := by decide +kernel
theorem dX10_undo_1 : decode cX10_undo 1 = .ok (.getfield 415, 3) := by decide +kernel
theorem dX10_undo_4 : decode cX10_undo 4 = .ok (.ifCond .ne 5, 3) := by decide +kernel
theorem dX10_undo_7 : decode cX10_undo 7 = .ok (.iconst 0, 1) := by decide +kernel
theorem dX10_undo_8 : decode cX10_undo 8 = .ok (.ireturn, 1) := by decide +kernel
theorem dX10_undo_9 : decode cX10_undo 9 = .ok (.aload_n 0, 1) := by decide +kernel
theorem dX10_undo_10 : decode cX10_undo 10 = .ok (.getfield 16, 3) := by decide +kernel
theorem dX10_undo_13 : decode cX10_undo 13 = .ok (.aload_n 0, 1) := by decide +kernel
theorem dX10_undo_14 : decode cX10_undo 14 = .ok (.getfield 7, 3) := by decide +kernel
theorem dX10_undo_17 : decode cX10_undo 17 = .ok (.invokestatic 315, 3) := by decide +kernel
theorem dX10_undo_20 : decode cX10_undo 20 = .ok (.iconst 1, 1) := by decide +kernel
theorem dX10_undo_21 : decode cX10_undo 21 = .ok (.ireturn, 1) := by decide +kernel
theorem dX10_check_0 : decode cX10_check 0 = .ok (.iload_n 1, 1) := by decide +kernel
theorem dX10_check_1 : decode cX10_check 1 = .ok (.iconst 0, 1) := by decide +kernel
theorem dX10_check_2 : decode cX10_check 2 = .ok (.bipush 40, 2) := by decide +kernel
theorem dX10_check_4 : decode cX10_check 4 = .ok (.invokestatic 132, 3) := by decide +kernel
theorem dX10_check_7 : decode cX10_check 7 = .ok (.ifCond .eq 11, 3) := by decide +kernel
theorem dX10_check_10 : decode cX10_check 10 = .ok (.iload_n 1, 1) := by decide +kernel
theorem dX10_check_11 : decode cX10_check 11 = .ok (.aload_n 0, 1) := by decide +kernel
theorem dX10_check_12 : decode cX10_check 12 = .ok (.getfield 158, 3) := by decide +kernel
theorem dX10_check_15 : decode cX10_check 15 = .ok (.if_icmp .le 6, 3) := by decide +kernel
theorem dX10_check_18 : decode cX10_check 18 = .ok (.bipush (-2), 2) := by decide +kernel
theorem dX10_check_20 : decode cX10_check 20 = .ok (.ireturn, 1) := by decide +kernel
theorem dX10_check_21 : decode cX10_check 21 = .ok (.aload_n 0, 1) := by decide +kernel
theorem dX10_check_22 : decode cX10_check 22 = .ok (.iconst 0, 1) := by decide +kernel
theorem dX10_check_23 : decode cX10_check 23 = .ok (.putfield 158, 3) := by decide +kernel
theorem dX10_check_26 : decode cX10_check 26 = .ok (.iconst 0, 1) := by decide +kernel
theorem dX10_check_27 : decode cX10_check 27 = .ok (.istore_n 2, 1) := by decide +kernel
theorem dX10_check_28 : decode cX10_check 28 = .ok (.iload_n 2, 1) := by decide +kernel
theorem dX10_check_29 : decode cX10_check 29 = .ok (.iload_n 1, 1) := by decide +kernel
theorem dX10_check_30 : decode cX10_check 30 = .ok (.if_icmp .ge 42, 3) := by decide +kernel
theorem dX10_check_33 : decode cX10_check 33 = .ok (.aload_n 0, 1) := by decide +kernel
theorem dX10_check_34 : decode cX10_check 34 = .ok (.iload_n 2, 1) := by decide +kernel
theorem dX10_check_35 : decode cX10_check 35 = .ok (.invokevirtual 377, 3) := by decide +kernel
theorem dX10_check_38 : decode cX10_check 38 = .ok (.aload_n 0, 1) := by decide +kernel
theorem dX10_check_39 : decode cX10_check 39 = .ok (.iload_n 2, 1) := by decide +kernel
theorem dX10_check_40 : decode cX10_check 40 = .ok (.invokevirtual 154, 3) := by decide +kernel
theorem dX10_check_43 : decode cX10_check 43 = .ok (.ifCond .eq 15, 3) := by decide +kernel
theorem dX10_check_46 : decode cX10_check 46 = .ok (.aload_n 0, 1) := by decide +kernel
theorem dX10_check_47 : decode cX10_check 47 = .ok (.getfield 7, 3) := by decide +kernel
theorem dX10_check_50 : decode cX10_check 50 = .ok (.bipush 40, 2) := by decide +kernel
theorem dX10_check_52 : decode cX10_check 52 = .ok (.iload_n 2, 1) := by decide +kernel
theorem dX10_check_53 : decode cX10_check 53 = .ok (.iadd, 1) := by decide +kernel
theorem dX10_check_54 : decode cX10_check 54 = .ok (.iaload, 1) := by decide +kernel
theorem dX10_check_55 : decode cX10_check 55 = .ok (.goto 6, 3) := by decide +kernel
theorem dX10_check_58 : decode cX10_check 58 = .ok (.sipush 255, 3) := by decide +kernel
theorem dX10_check_61 : decode cX10_check 61 = .ok (.if_icmp .eq 5, 3) := by decide +kernel
theorem dX10_check_64 : decode cX10_check 64 = .ok (.iload_n 2, 1) := by decide +kernel
theorem dX10_check_65 : decode cX10_check 65 = .ok (.ireturn, 1) := by decide +kernel
theorem dX10_check_66 : decode cX10_check 66 = .ok (.iinc 2 1, 3) := by decide +kernel
theorem dX10_check_69 : decode cX10_check 69 = .ok (.goto (-41), 3) := by decide +kernel
theorem dX10_check_72 : decode cX10_check 72 = .ok (.iconst (-1), 1) := by decide +kernel
theorem dX10_check_73 : decode cX10_check 73 = .ok (.ireturn, 1) := by decide +kernel
theorem dX10_count_0 : decode cX10_count 0 = .ok (.iload_n 1, 1) := by decide +kernel
theorem dX10_count_1 : decode cX10_count 1 = .ok (.tableswitch 90 0 6 #[43, 52, 58, 66, 71, 76, 81], 43) := by decide +kernel
theorem dX10_count_44 : decode cX10_count 44 = .ok (.aload_n 0, 1) := by decide +kernel
theorem dX10_count_45 : decode cX10_count 45 = .ok (.getfield 7, 3) := by decide +kernel
theorem dX10_count_48 : decode cX10_count 48 = .ok (.sipush 200, 3) := by decide +kernel
theorem dX10_count_51 : decode cX10_count 51 = .ok (.iaload, 1) := by decide +kernel
theorem dX10_count_52 : decode cX10_count 52 = .ok (.ireturn, 1) := by decide +kernel
theorem dX10_count_53 : decode cX10_count 53 = .ok (.aload_n 0, 1) := by decide +kernel
theorem dX10_count_54 : decode cX10_count 54 = .ok (.iconst 0, 1) := by decide +kernel
theorem dX10_count_55 : decode cX10_count 55 = .ok (.invokevirtual 312, 3) := by decide +kernel
theorem dX10_count_58 : decode cX10_count 58 = .ok (.ireturn, 1) := by decide +kernel
theorem dX10_count_59 : decode cX10_count 59 = .ok (.aload_n 0, 1) := by decide +kernel
theorem dX10_count_60 : decode cX10_count 60 = .ok (.sipush 160, 3) := by decide +kernel
theorem dX10_count_63 : decode cX10_count 63 = .ok (.invokevirtual 312, 3) := by decide +kernel
theorem dX10_count_66 : decode cX10_count 66 = .ok (.ireturn, 1) := by decide +kernel
theorem dX10_count_67 : decode cX10_count 67 = .ok (.aload_n 0, 1) := by decide +kernel
theorem dX10_count_68 : decode cX10_count 68 = .ok (.getfield 136, 3) := by decide +kernel
theorem dX10_count_71 : decode cX10_count 71 = .ok (.ireturn, 1) := by decide +kernel
theorem dX10_count_72 : decode cX10_count 72 = .ok (.aload_n 0, 1) := by decide +kernel
theorem dX10_count_73 : decode cX10_count 73 = .ok (.getfield 258, 3) := by decide +kernel
theorem dX10_count_76 : decode cX10_count 76 = .ok (.ireturn, 1) := by decide +kernel
theorem dX10_count_77 : decode cX10_count 77 = .ok (.aload_n 0, 1) := by decide +kernel
theorem dX10_count_78 : decode cX10_count 78 = .ok (.getfield 158, 3) := by decide +kernel
theorem dX10_count_81 : decode cX10_count 81 = .ok (.ireturn, 1) := by decide +kernel
theorem dX10_count_82 : decode cX10_count 82 = .ok (.aload_n 0, 1) := by decide +kernel
theorem dX10_count_83 : decode cX10_count 83 = .ok (.getfield 7, 3) := by decide +kernel
theorem dX10_count_86 : decode cX10_count 86 = .ok (.sipush 201, 3) := by decide +kernel
theorem dX10_count_89 : decode cX10_count 89 = .ok (.iaload, 1) := by decide +kernel
theorem dX10_count_90 : decode cX10_count 90 = .ok (.ireturn, 1) := by decide +kernel
theorem dX10_count_91 : decode cX10_count 91 = .ok (.aload_n 0, 1) := by decide +kernel
theorem dX10_count_92 : decode cX10_count 92 = .ok (.iload_n 1, 1) := by decide +kernel
theorem dX10_count_93 : decode cX10_count 93 = .ok (.bipush 10, 2) := by decide +kernel
theorem dX10_count_95 : decode cX10_count 95 = .ok (.isub, 1) := by decide +kernel
theorem dX10_count_96 : decode cX10_count 96 = .ok (.invokevirtual 334, 3) := by decide +kernel
theorem dX10_count_99 : decode cX10_count 99 = .ok (.ifCond .eq 15, 3) := by decide +kernel
theorem dX10_count_102 : decode cX10_count 102 = .ok (.aload_n 0, 1) := by decide +kernel
theorem dX10_count_103 : decode cX10_count 103 = .ok (.getfield 19, 3) := by decide +kernel
theorem dX10_count_106 : decode cX10_count 106 = .ok (.iload_n 1, 1) := by decide +kernel
theorem dX10_count_107 : decode cX10_count 107 = .ok (.bipush 10, 2) := by decide +kernel
theorem dX10_count_109 : decode cX10_count 109 = .ok (.isub, 1) := by decide +kernel
theorem dX10_count_110 : decode cX10_count 110 = .ok (.iaload, 1) := by decide +kernel
theorem dX10_count_111 : decode cX10_count 111 = .ok (.goto 4, 3) := by decide +kernel
theorem dX10_count_114 : decode cX10_count 114 = .ok (.iconst (-1), 1) := by decide +kernel
theorem dX10_count_115 : decode cX10_count 115 = .ok (.ireturn, 1) := by decide +kernel
set_option maxHeartbeats 4000000 in
theorem c_X10_stone (i x y s : Int32) (M : Mem) (hF : FrM M) : AM yX10_stone cX10_stone 6 (some .boolean) 2 39 glM (fun ad => [.ref (ad 0), .int i, .int x, .int y, .int s]) M (PI (fun r _ => r = bI (0 ≤ i.toInt ∧ i.toInt < 40 ∧ 0 ≤ x.toInt ∧ x.toInt ≤ 39 ∧ 1 ≤ y.toInt ∧ y.toInt ≤ 20 ∧ 0 ≤ s.toInt ∧ s.toInt ≤ 9))) := by
  refine AM.of (by decide) (fun _ => Nat.le_of_ble_eq_true rfl) (fun X ad cI cZ cB hX hR => ?_)
  show V X M [(0, .ref (ad 0)), (1, .int i), (2, .int x), (3, .int y), (4, .int s)] [] 0
  obtain ⟨hT, hn, hd, hP, hz, hk, hu⟩ := hF
  refine s_iload_n (k := 1) hX dX10_stone_0 rfl rfl ?_
  refine s_iconst (v := (nI 0)) hX dX10_stone_1 (by decide) ?_
  refine s_bipush (v := (nI 39)) hX dX10_stone_2 (by decide) ?_
  refine s_callSi hX (c_X10_in i 0 39 M (by decide) (by decide)) mX10_in lX10_132 (by decide) (by decide) rfl rfl (Nat.le_of_ble_eq_true rfl) dX10_stone_4 (fun r4 M_1 hp4 => ?_)
  obtain ⟨rfl, h2⟩ := hp4
  subst h2
  refine s_if_eq (tgt := 41) hX dX10_stone_7 (by decide) (fun c7 => ?_) (fun c7 => ?_)
  · replace c7 := bI_eq c7
    refine s_iconst (v := (nI 0)) hX dX10_stone_41 (by decide) ?_
    exact s_zret hX hR dX10_stone_42 (by first | decide | assumption) (bI_f (by omega))
  · replace c7 := bI_ne c7
    refine s_iload_n (k := 2) hX dX10_stone_10 rfl rfl ?_
    refine s_iconst (v := (nI 0)) hX dX10_stone_11 (by decide) ?_
    refine s_bipush (v := (nI 39)) hX dX10_stone_12 (by decide) ?_
    refine s_callSi hX (c_X10_in x 0 39 M (by decide) (by decide)) mX10_in lX10_132 (by decide) (by decide) rfl rfl (Nat.le_of_ble_eq_true rfl) dX10_stone_14 (fun r14 M_2 hp14 => ?_)
    obtain ⟨rfl, h2⟩ := hp14
    subst h2
    refine s_if_eq (tgt := 41) hX dX10_stone_17 (by decide) (fun c17 => ?_) (fun c17 => ?_)
    · replace c17 := bI_eq c17
      refine s_iconst (v := (nI 0)) hX dX10_stone_41 (by decide) ?_
      exact s_zret hX hR dX10_stone_42 (by first | decide | assumption) (bI_f (by omega))
    · replace c17 := bI_ne c17
      refine s_iload_n (k := 3) hX dX10_stone_20 rfl rfl ?_
      refine s_iconst (v := (nI 1)) hX dX10_stone_21 (by decide) ?_
      refine s_bipush (v := (nI 20)) hX dX10_stone_22 (by decide) ?_
      refine s_callSi hX (c_X10_in y 1 20 M (by decide) (by decide)) mX10_in lX10_132 (by decide) (by decide) rfl rfl (Nat.le_of_ble_eq_true rfl) dX10_stone_24 (fun r24 M_3 hp24 => ?_)
      obtain ⟨rfl, h2⟩ := hp24
      subst h2
      refine s_if_eq (tgt := 41) hX dX10_stone_27 (by decide) (fun c27 => ?_) (fun c27 => ?_)
      · replace c27 := bI_eq c27
        refine s_iconst (v := (nI 0)) hX dX10_stone_41 (by decide) ?_
        exact s_zret hX hR dX10_stone_42 (by first | decide | assumption) (bI_f (by omega))
      · replace c27 := bI_ne c27
        refine s_iload (k := 4) hX dX10_stone_30 rfl ?_
        refine s_iconst (v := (nI 0)) hX dX10_stone_32 (by decide) ?_
        refine s_bipush (v := (nI 9)) hX dX10_stone_33 (by decide) ?_
        refine s_callSi hX (c_X10_in s 0 9 M (by decide) (by decide)) mX10_in lX10_132 (by decide) (by decide) rfl rfl (Nat.le_of_ble_eq_true rfl) dX10_stone_35 (fun r35 M_4 hp35 => ?_)
        obtain ⟨rfl, h2⟩ := hp35
        subst h2
        refine s_if_ne (tgt := 43) hX dX10_stone_38 (by decide) (fun c38 => ?_) (fun c38 => ?_)
        · replace c38 := bI_ne c38
          obtain ⟨j, hj, rfl⟩ := ixi (x := i) (n := 40) (by omega) (by omega)
          refine s_aload_n (k := 0) hX dX10_stone_43 rfl rfl ?_
          refine s_iload_n (k := 2) hX dX10_stone_44 rfl rfl ?_
          refine s_iload_n (k := 3) hX dX10_stone_45 rfl rfl ?_
          refine s_callVi hX (c_X10_stoneAt x y M hT) mX10_stoneAt lX10_147 (by decide) (by decide) oM0 rfl rfl rfl rfl rfl (Nat.le_of_ble_eq_true rfl) dX10_stone_46 (fun r46 M_5 hp46 => ?_)
          obtain ⟨rfl, h2⟩ := hp46
          subst h2
          refine s_istore (lv' := [(0, .ref (ad 0)), (1, .int (nI j)), (2, .int x), (3, .int y), (4, .int s), (5, .int (-1))]) hX dX10_stone_49 (by decide) rfl ?_
          refine s_iload (k := 5) hX dX10_stone_51 rfl ?_
          refine s_iconst (v := (-1)) hX dX10_stone_53 (by decide) ?_
          refine s_icmp_eq (tgt := 65) hX dX10_stone_54 (by decide) (fun c54 => ?_) (fun c54 => ?_)
          · refine s_aload_n (k := 0) hX dX10_stone_65 rfl rfl ?_
            refine s_iload_n (k := 1) hX dX10_stone_66 rfl rfl ?_
            refine s_iload_n (k := 2) hX dX10_stone_67 rfl rfl ?_
            refine s_iload_n (k := 3) hX dX10_stone_68 rfl rfl ?_
            refine s_iload (k := 4) hX dX10_stone_69 rfl ?_
            refine s_iconst (v := (nI 0)) hX dX10_stone_71 (by decide) ?_
            refine s_callVv hX (c_X10_laysStone j hj x y s (nI 0) M) mX10_laysStone lX10_150 (by decide) (by decide) oM0 rfl rfl rfl rfl rfl (Nat.le_of_ble_eq_true rfl) dX10_stone_72 (fun M_7 hp72 => ?_)
            refine s_iconst (v := (nI 1)) hX dX10_stone_75 (by decide) ?_
            exact s_zret hX hR dX10_stone_76 (by first | decide | assumption) (bI_t (by omega))
          · first | exact absurd (by decide) c54 | exact absurd c54 (by decide)
        · replace c38 := bI_eq c38
          refine s_iconst (v := (nI 0)) hX dX10_stone_41 (by decide) ?_
          exact s_zret hX hR dX10_stone_42 (by first | decide | assumption) (bI_f (by omega))
set_option maxHeartbeats 4000000 in
theorem c_X10_take (i : Int32) (M : Mem) (hF : FrM M) : AM yX10_take cX10_take 2 (some .boolean) 2 39 glM (fun ad => [.ref (ad 0), .int i]) M (PI (fun r _ => r = nI 0)) := by
  refine AM.of (by decide) (fun _ => Nat.le_of_ble_eq_true rfl) (fun X ad cI cZ cB hX hR => ?_)
  show V X M [(0, .ref (ad 0)), (1, .int i)] [] 0
  obtain ⟨hT, hn, hd, hP, hz, hk, hu⟩ := hF
  refine s_aload_n (k := 0) hX dX10_take_0 rfl rfl ?_
  refine s_iload_n (k := 1) hX dX10_take_1 rfl rfl ?_
  refine s_callVi hX (c_X10_isStone i M hT) mX10_isStone lX10_154 (by decide) (by decide) oM0 rfl rfl rfl rfl rfl (Nat.le_of_ble_eq_true rfl) dX10_take_2 (fun r2 M_1 hp2 => ?_)
  obtain ⟨rfl, h2⟩ := hp2
  subst h2
  refine s_if_ne (tgt := 10) hX dX10_take_5 (by decide) (fun c5 => ?_) (fun c5 => ?_)
  · first | exact absurd (by decide) c5 | exact absurd c5 (by decide)
  · refine s_iconst (v := (nI 0)) hX dX10_take_8 (by decide) ?_
    exact s_zret hX hR dX10_take_9 (by first | decide | assumption) rfl
set_option maxHeartbeats 4000000 in
theorem c_X10_under (i u : Int32) (M : Mem) (hF : FrM M) : AM yX10_under cX10_under 3 (some .boolean) 2 39 glM (fun ad => [.ref (ad 0), .int i, .int u]) M (PI (fun r _ => r = nI 0)) := by
  refine AM.of (by decide) (fun _ => Nat.le_of_ble_eq_true rfl) (fun X ad cI cZ cB hX hR => ?_)
  show V X M [(0, .ref (ad 0)), (1, .int i), (2, .int u)] [] 0
  obtain ⟨hT, hn, hd, hP, hz, hk, hu⟩ := hF
  refine s_aload_n (k := 0) hX dX10_under_0 rfl rfl ?_
  refine s_iload_n (k := 1) hX dX10_under_1 rfl rfl ?_
  refine s_callVi hX (c_X10_isStone i M hT) mX10_isStone lX10_154 (by decide) (by decide) oM0 rfl rfl rfl rfl rfl (Nat.le_of_ble_eq_true rfl) dX10_under_2 (fun r2 M_1 hp2 => ?_)
  obtain ⟨rfl, h2⟩ := hp2
  subst h2
  refine s_if_ne (tgt := 10) hX dX10_under_5 (by decide) (fun c5 => ?_) (fun c5 => ?_)
  · first | exact absurd (by decide) c5 | exact absurd c5 (by decide)
  · refine s_iconst (v := (nI 0)) hX dX10_under_8 (by decide) ?_
    exact s_zret hX hR dX10_under_9 (by first | decide | assumption) rfl
set_option maxHeartbeats 4000000 in
theorem c_X10_person (p s : Int32) (M : Mem) (hF : FrM M) : AM yX10_person cX10_person 3 (some .boolean) 1 39 glM (fun ad => [.ref (ad 0), .int p, .int s]) M (PI (fun r _ => r = bI (0 ≤ p.toInt ∧ p.toInt < 8 ∧ 1 ≤ s.toInt ∧ s.toInt ≤ 30))) := by
  refine AM.of (by decide) (fun _ => Nat.le_of_ble_eq_true rfl) (fun X ad cI cZ cB hX hR => ?_)
  show V X M [(0, .ref (ad 0)), (1, .int p), (2, .int s)] [] 0
  obtain ⟨hT, hn, hd, hP, hz, hk, hu⟩ := hF
  refine s_iload_n (k := 1) hX dX10_person_0 rfl rfl ?_
  refine s_iconst (v := (nI 0)) hX dX10_person_1 (by decide) ?_
  refine s_bipush (v := (nI 7)) hX dX10_person_2 (by decide) ?_
  refine s_callSi hX (c_X10_in p 0 7 M (by decide) (by decide)) mX10_in lX10_132 (by decide) (by decide) rfl rfl (Nat.le_of_ble_eq_true rfl) dX10_person_4 (fun r4 M_1 hp4 => ?_)
  obtain ⟨rfl, h2⟩ := hp4
  subst h2
  refine s_if_eq (tgt := 20) hX dX10_person_7 (by decide) (fun c7 => ?_) (fun c7 => ?_)
  · replace c7 := bI_eq c7
    refine s_iconst (v := (nI 0)) hX dX10_person_20 (by decide) ?_
    exact s_zret hX hR dX10_person_21 (by first | decide | assumption) (bI_f (by omega))
  · replace c7 := bI_ne c7
    refine s_iload_n (k := 2) hX dX10_person_10 rfl rfl ?_
    refine s_iconst (v := (nI 1)) hX dX10_person_11 (by decide) ?_
    refine s_bipush (v := (nI 30)) hX dX10_person_12 (by decide) ?_
    refine s_callSi hX (c_X10_in s 1 30 M (by decide) (by decide)) mX10_in lX10_132 (by decide) (by decide) rfl rfl (Nat.le_of_ble_eq_true rfl) dX10_person_14 (fun r14 M_2 hp14 => ?_)
    obtain ⟨rfl, h2⟩ := hp14
    subst h2
    refine s_if_ne (tgt := 22) hX dX10_person_17 (by decide) (fun c17 => ?_) (fun c17 => ?_)
    · replace c17 := bI_ne c17
      obtain ⟨j, hj, rfl⟩ := ixi (x := p) (n := 8) (by omega) (by omega)
      refine s_aload_n (k := 0) hX dX10_person_22 rfl rfl ?_
      refine s_aload_n (k := 0) hX dX10_person_23 rfl rfl ?_
      refine s_get hX fX10_136 oM0 rfl dX10_person_24 ?_
      refine s_iconst (v := (nI 1)) hX dX10_person_27 (by decide) ?_
      refine s_iload_n (k := 1) hX dX10_person_28 rfl rfl ?_
      refine s_ishl hX dX10_person_29 ?_
      refine s_ior hX dX10_person_30 ?_
      refine s_puti (ty := .int) hX fX10_136 oM0 rfl (Nat.le_of_ble_eq_true rfl) ty_10_4 rfl rfl dX10_person_31 ?_
      refine s_mem (fun M_3 eM_3 => ?_)
      refine s_aload_n (k := 0) hX dX10_person_34 rfl rfl ?_
      refine s_get hX fX10_19 oM0 rfl dX10_person_35 ?_
      refine s_iload_n (k := 1) hX dX10_person_38 rfl rfl ?_
      refine s_iload_n (k := 2) hX dX10_person_39 rfl rfl ?_
      refine s_iastN hX aM4 (by omega) dX10_person_40 ?_
      refine s_mem (fun M_4 eM_4 => ?_)
      refine s_iconst (v := (nI 1)) hX dX10_person_41 (by decide) ?_
      exact s_zret hX hR dX10_person_42 (by first | decide | assumption) (bI_t (by omega))
    · replace c17 := bI_eq c17
      refine s_iconst (v := (nI 0)) hX dX10_person_20 (by decide) ?_
      exact s_zret hX hR dX10_person_21 (by first | decide | assumption) (bI_f (by omega))
set_option maxHeartbeats 4000000 in
theorem c_X10_feed (a b c d e : Int32) (M : Mem) (hF : FrM M) : AM yX10_feed cX10_feed 6 (some .int) 1 39 glM (fun ad => [.ref (ad 0), .int a, .int b, .int c, .int d, .int e]) M (PI (fun r _ => r = nI 20)) := by
  refine AM.of (by decide) (fun _ => Nat.le_of_ble_eq_true rfl) (fun X ad cI cZ cB hX hR => ?_)
  show V X M [(0, .ref (ad 0)), (1, .int a), (2, .int b), (3, .int c), (4, .int d), (5, .int e)] [] 0
  obtain ⟨hT, hn, hd, hP, hz, hk, hu⟩ := hF
  refine s_aload_n (k := 0) hX dX10_feed_0 rfl rfl ?_
  refine s_get hX fX10_158 oM0 rfl dX10_feed_1 ?_
  refine s_top (y := nI 0) (hz) ?_
  refine s_bipush (v := (nI 20)) hX dX10_feed_4 (by decide) ?_
  refine s_iadd hX dX10_feed_6 ?_
  refine s_top (y := nI 20) (by decide) ?_
  refine s_sipush (v := (nI 260)) hX dX10_feed_7 (by decide) ?_
  refine s_icmp_le (tgt := 15) hX dX10_feed_10 (by decide) (fun c10 => ?_) (fun c10 => ?_)
  · refine s_aload_n (k := 0) hX dX10_feed_15 rfl rfl ?_
    refine s_iload_n (k := 1) hX dX10_feed_16 rfl rfl ?_
    refine s_callVv hX (c_X10_types a M 0 hz (by decide)) mX10_types lX10_161 (by decide) (by decide) oM0 rfl rfl rfl rfl rfl (Nat.le_of_ble_eq_true rfl) dX10_feed_17 (fun M_1 hp17 => ?_)
    have hz4 := hp17
    refine s_aload_n (k := 0) hX dX10_feed_20 rfl rfl ?_
    refine s_iload_n (k := 2) hX dX10_feed_21 rfl rfl ?_
    refine s_callVv hX (c_X10_types b M_1 4 hz4 (by decide)) mX10_types lX10_161 (by decide) (by decide) oM0 rfl rfl rfl rfl rfl (Nat.le_of_ble_eq_true rfl) dX10_feed_22 (fun M_2 hp22 => ?_)
    have hz8 := hp22
    refine s_aload_n (k := 0) hX dX10_feed_25 rfl rfl ?_
    refine s_iload_n (k := 3) hX dX10_feed_26 rfl rfl ?_
    refine s_callVv hX (c_X10_types c M_2 8 hz8 (by decide)) mX10_types lX10_161 (by decide) (by decide) oM0 rfl rfl rfl rfl rfl (Nat.le_of_ble_eq_true rfl) dX10_feed_27 (fun M_3 hp27 => ?_)
    have hz12 := hp27
    refine s_aload_n (k := 0) hX dX10_feed_30 rfl rfl ?_
    refine s_iload (k := 4) hX dX10_feed_31 rfl ?_
    refine s_callVv hX (c_X10_types d M_3 12 hz12 (by decide)) mX10_types lX10_161 (by decide) (by decide) oM0 rfl rfl rfl rfl rfl (Nat.le_of_ble_eq_true rfl) dX10_feed_33 (fun M_4 hp33 => ?_)
    have hz16 := hp33
    refine s_aload_n (k := 0) hX dX10_feed_36 rfl rfl ?_
    refine s_iload (k := 5) hX dX10_feed_37 rfl ?_
    refine s_callVv hX (c_X10_types e M_4 16 hz16 (by decide)) mX10_types lX10_161 (by decide) (by decide) oM0 rfl rfl rfl rfl rfl (Nat.le_of_ble_eq_true rfl) dX10_feed_39 (fun M_5 hp39 => ?_)
    have hz20 := hp39
    refine s_aload_n (k := 0) hX dX10_feed_42 rfl rfl ?_
    refine s_get hX fX10_158 oM0 rfl dX10_feed_43 ?_
    exact s_iret hX hR dX10_feed_46 hz20
  · first | exact absurd (by decide) c10 | exact absurd c10 (by decide)
set_option maxHeartbeats 4000000 in
theorem c_X10_law (n : Int32) (M : Mem) (hF : FrM M) : AM yX10_law cX10_law 4 (some .int) 1 39 glM (fun ad => [.ref (ad 0), .int n]) M (PI (fun r _ => r = -1)) := by
  refine AM.of (by decide) (fun _ => Nat.le_of_ble_eq_true rfl) (fun X ad cI cZ cB hX hR => ?_)
  show V X M [(0, .ref (ad 0)), (1, .int n)] [] 0
  obtain ⟨hT, hn, hd, hP, hz, hk, hu⟩ := hF
  refine s_iload_n (k := 1) hX dX10_law_0 rfl rfl ?_
  refine s_iconst (v := (nI 1)) hX dX10_law_1 (by decide) ?_
  refine s_sipush (v := (nI 240)) hX dX10_law_2 (by decide) ?_
  refine s_callSi hX (c_X10_in n 1 240 M (by decide) (by decide)) mX10_in lX10_132 (by decide) (by decide) rfl rfl (Nat.le_of_ble_eq_true rfl) dX10_law_5 (fun r5 M_1 hp5 => ?_)
  obtain ⟨rfl, h2⟩ := hp5
  subst h2
  refine s_if_eq (tgt := 19) hX dX10_law_8 (by decide) (fun c8 => ?_) (fun c8 => ?_)
  · replace c8 := bI_eq c8
    refine s_iconst (v := (-1)) hX dX10_law_19 (by decide) ?_
    exact s_iret hX hR dX10_law_20 rfl
  · replace c8 := bI_ne c8
    refine s_iload_n (k := 1) hX dX10_law_11 rfl rfl ?_
    refine s_aload_n (k := 0) hX dX10_law_12 rfl rfl ?_
    refine s_get hX fX10_158 oM0 rfl dX10_law_13 ?_
    refine s_top (y := nI 0) (hz) ?_
    refine s_icmp_le (tgt := 21) hX dX10_law_16 (by decide) (fun c16 => ?_) (fun c16 => ?_)
    · replace c16 := (q_le (by omega)).mp c16
      omega
    · replace c16 := mt (q_le (by omega)).mpr c16
      refine s_iconst (v := (-1)) hX dX10_law_19 (by decide) ?_
      exact s_iret hX hR dX10_law_20 rfl
set_option maxHeartbeats 4000000 in
theorem c_X10_notebook (n : Int32) (M : Mem) (hF : FrM M) : AM yX10_notebook cX10_notebook 4 (some .int) 1 39 glM (fun ad => [.ref (ad 0), .int n]) M (PI (fun r _ => r = -1)) := by
  refine AM.of (by decide) (fun _ => Nat.le_of_ble_eq_true rfl) (fun X ad cI cZ cB hX hR => ?_)
  show V X M [(0, .ref (ad 0)), (1, .int n)] [] 0
  obtain ⟨hT, hn, hd, hP, hz, hk, hu⟩ := hF
  refine s_iload_n (k := 1) hX dX10_notebook_0 rfl rfl ?_
  refine s_iconst (v := (nI 1)) hX dX10_notebook_1 (by decide) ?_
  refine s_sipush (v := (nI 200)) hX dX10_notebook_2 (by decide) ?_
  refine s_callSi hX (c_X10_in n 1 200 M (by decide) (by decide)) mX10_in lX10_132 (by decide) (by decide) rfl rfl (Nat.le_of_ble_eq_true rfl) dX10_notebook_5 (fun r5 M_1 hp5 => ?_)
  obtain ⟨rfl, h2⟩ := hp5
  subst h2
  refine s_if_eq (tgt := 19) hX dX10_notebook_8 (by decide) (fun c8 => ?_) (fun c8 => ?_)
  · replace c8 := bI_eq c8
    refine s_iconst (v := (-1)) hX dX10_notebook_19 (by decide) ?_
    exact s_iret hX hR dX10_notebook_20 rfl
  · replace c8 := bI_ne c8
    refine s_iload_n (k := 1) hX dX10_notebook_11 rfl rfl ?_
    refine s_aload_n (k := 0) hX dX10_notebook_12 rfl rfl ?_
    refine s_get hX fX10_158 oM0 rfl dX10_notebook_13 ?_
    refine s_top (y := nI 0) (hz) ?_
    refine s_icmp_le (tgt := 21) hX dX10_notebook_16 (by decide) (fun c16 => ?_) (fun c16 => ?_)
    · replace c16 := (q_le (by omega)).mp c16
      omega
    · replace c16 := mt (q_le (by omega)).mpr c16
      refine s_iconst (v := (-1)) hX dX10_notebook_19 (by decide) ?_
      exact s_iret hX hR dX10_notebook_20 rfl
set_option maxHeartbeats 4000000 in
theorem c_X10_nights (n : Int32) (M : Mem) (hF : FrM M) : AM yX10_nights cX10_nights 2 (some .int) 4 39 glM (fun ad => [.ref (ad 0), .int n]) M (PI (fun r _ => r = if 1 ≤ n.toInt ∧ n.toInt ≤ 60 then nI 0 else -1)) := by
  refine AM.of (by decide) (fun _ => Nat.le_of_ble_eq_true rfl) (fun X ad cI cZ cB hX hR => ?_)
  show V X M [(0, .ref (ad 0)), (1, .int n)] [] 0
  obtain ⟨hT, hn, hd, hP, hz, hk, hu⟩ := hF
  refine s_iload_n (k := 1) hX dX10_nights_0 rfl rfl ?_
  refine s_iconst (v := (nI 1)) hX dX10_nights_1 (by decide) ?_
  refine s_bipush (v := (nI 60)) hX dX10_nights_2 (by decide) ?_
  refine s_callSi hX (c_X10_in n 1 60 M (by decide) (by decide)) mX10_in lX10_132 (by decide) (by decide) rfl rfl (Nat.le_of_ble_eq_true rfl) dX10_nights_4 (fun r4 M_1 hp4 => ?_)
  obtain ⟨rfl, h2⟩ := hp4
  subst h2
  refine s_if_ne (tgt := 12) hX dX10_nights_7 (by decide) (fun c7 => ?_) (fun c7 => ?_)
  · replace c7 := bI_ne c7
    obtain ⟨m, hm, rfl⟩ := ixi (x := n) (n := 61) (by omega) (by omega)
    refine s_aload_n (k := 0) hX dX10_nights_12 rfl rfl ?_
    refine s_iload_n (k := 1) hX dX10_nights_13 rfl rfl ?_
    refine s_callVv hX (c_X10_nightsGo m (by omega) M hT) mX10_nightsGo lX10_308 (by decide) (by decide) oM0 rfl rfl rfl rfl rfl (Nat.le_of_ble_eq_true rfl) dX10_nights_14 (fun M_2 hp14 => ?_)
    obtain ⟨hfp, hp1, hp2⟩ := hp14
    refine s_aload_n (k := 0) hX dX10_nights_17 rfl rfl ?_
    refine s_get hX fX10_293 oM0 rfl dX10_nights_18 ?_
    exact s_iret hX hR dX10_nights_21 (by rw [if_pos (by omega)]; exact hp1)
  · replace c7 := bI_eq c7
    refine s_iconst (v := (-1)) hX dX10_nights_10 (by decide) ?_
    exact s_iret hX hR dX10_nights_11 (by rw [if_neg (by omega)])
set_option maxHeartbeats 4000000 in
theorem c_X10_tried (n what : Int32) (M : Mem) (hF : FrM M) : AM yX10_tried cX10_tried 5 (some .int) 4 39 glM (fun ad => [.ref (ad 0), .int n, .int what]) M (PI (fun r _ => r = if (1 ≤ n.toInt ∧ n.toInt ≤ 60) ∧ 0 ≤ what.toInt ∧ what.toInt ≤ 3 then nI 0 else -100000)) := by
  refine AM.of (by decide) (fun _ => Nat.le_of_ble_eq_true rfl) (fun X ad cI cZ cB hX hR => ?_)
  show V X M [(0, .ref (ad 0)), (1, .int n), (2, .int what)] [] 0
  obtain ⟨hT, hn, hd, hP, hz, hk, hu⟩ := hF
  refine s_iload_n (k := 1) hX dX10_tried_0 rfl rfl ?_
  refine s_iconst (v := (nI 1)) hX dX10_tried_1 (by decide) ?_
  refine s_bipush (v := (nI 60)) hX dX10_tried_2 (by decide) ?_
  refine s_callSi hX (c_X10_in n 1 60 M (by decide) (by decide)) mX10_in lX10_132 (by decide) (by decide) rfl rfl (Nat.le_of_ble_eq_true rfl) dX10_tried_4 (fun r4 M_1 hp4 => ?_)
  obtain ⟨rfl, h2⟩ := hp4
  subst h2
  refine s_if_eq (tgt := 42) hX dX10_tried_7 (by decide) (fun c7 => ?_) (fun c7 => ?_)
  · replace c7 := bI_eq c7
    refine s_ldcw (v := (-100000)) hX kX10_311 dX10_tried_42 ?_
    exact s_iret hX hR dX10_tried_45 (by rw [if_neg (by omega)])
  · replace c7 := bI_ne c7
    refine s_iload_n (k := 2) hX dX10_tried_10 rfl rfl ?_
    refine s_iconst (v := (nI 0)) hX dX10_tried_11 (by decide) ?_
    refine s_iconst (v := (nI 3)) hX dX10_tried_12 (by decide) ?_
    refine s_callSi hX (c_X10_in what 0 3 M (by decide) (by decide)) mX10_in lX10_132 (by decide) (by decide) rfl rfl (Nat.le_of_ble_eq_true rfl) dX10_tried_13 (fun r13 M_2 hp13 => ?_)
    obtain ⟨rfl, h2⟩ := hp13
    subst h2
    refine s_if_ne (tgt := 46) hX dX10_tried_16 (by decide) (fun c16 => ?_) (fun c16 => ?_)
    · replace c16 := bI_ne c16
      obtain ⟨m, hm, rfl⟩ := ixi (x := n) (n := 61) (by omega) (by omega)
      refine s_aload_n (k := 0) hX dX10_tried_46 rfl rfl ?_
      refine s_bipush (v := (nI 40)) hX dX10_tried_47 (by decide) ?_
      refine s_callVi hX (c_X10_sumOf (nI 40) M hT) mX10_sumOf lX10_312 (by decide) (by decide) oM0 rfl rfl rfl rfl rfl (Nat.le_of_ble_eq_true rfl) dX10_tried_49 (fun r49 M_3 hp49 => ?_)
      obtain ⟨rfl, h2⟩ := hp49
      subst h2
      refine s_istore_n (lv' := [(0, .ref (ad 0)), (1, .int (nI m)), (2, .int what), (3, .int (nI 0))]) hX dX10_tried_52 rfl (by decide) rfl ?_
      refine s_aload_n (k := 0) hX dX10_tried_53 rfl rfl ?_
      refine s_get hX fX10_7 oM0 rfl dX10_tried_54 ?_
      refine s_aload_n (k := 0) hX dX10_tried_57 rfl rfl ?_
      refine s_get hX fX10_13 oM0 rfl dX10_tried_58 ?_
      refine s_callSv hX (c_X10_copies 1 2 aM1 aM2 M (by decide)) mX10_copies lX10_315 (by decide) (by decide) rfl rfl (Nat.le_of_ble_eq_true rfl) dX10_tried_61 (fun M_5 hp61 => ?_)
      obtain ⟨hfc, hvc⟩ := hp61
      refine s_aload_n (k := 0) hX dX10_tried_64 rfl rfl ?_
      refine s_iload_n (k := 1) hX dX10_tried_65 rfl rfl ?_
      refine s_callVv hX (c_X10_nightsGo m (by omega) M_5 (fun j hj => (hfc 1 j (by decide)).trans (hT j hj))) mX10_nightsGo lX10_308 (by decide) (by decide) oM0 rfl rfl rfl rfl rfl (Nat.le_of_ble_eq_true rfl) dX10_tried_66 (fun M_6 hp66 => ?_)
      obtain ⟨hfp, hp1, hp2⟩ := hp66
      have hT3 : ∀ j, j < 40 → M_6 1 j = 0 := fun j hj => (hfp 1 j (by omega) (by omega)).trans ((hfc 1 j (by decide)).trans (hT j hj))
      refine s_iload_n (k := 2) hX dX10_tried_69 rfl rfl ?_
      by_cases sw70 : what.toInt < 0 ∨ 3 < what.toInt
      · exact absurd sw70 (by omega)
      · obtain ⟨tv, htv, rfl⟩ := ixi (x := what) (n := 4) (by omega) (by omega)
        have htw : tv = 0 ∨ tv = 1 ∨ tv = 2 ∨ tv = 3 := by omega
        rcases htw with rfl | rfl | rfl | rfl
        · refine s_tabIn (tgt := 100) (off := 30) hX dX10_tried_70 (by decide) (by decide) (by decide) (by decide) ?_
          refine s_aload_n (k := 0) hX dX10_tried_100 rfl rfl ?_
          refine s_get hX fX10_293 oM0 rfl dX10_tried_101 ?_
          refine s_top (y := nI 0) (hp1) ?_
          refine s_istore (lv' := [(0, .ref (ad 0)), (1, .int (nI m)), (2, .int (nI 0)), (3, .int (nI 0)), (4, .int (nI 0))]) hX dX10_tried_104 (by decide) rfl ?_
          refine s_goto (tgt := 180) hX dX10_tried_106 (by decide) ?_
          refine s_aload_n (k := 0) hX dX10_tried_180 rfl rfl ?_
          refine s_get hX fX10_13 oM0 rfl dX10_tried_181 ?_
          refine s_aload_n (k := 0) hX dX10_tried_184 rfl rfl ?_
          refine s_get hX fX10_7 oM0 rfl dX10_tried_185 ?_
          refine s_callSv hX (c_X10_copies 2 1 aM2 aM1 M_6 (by decide)) mX10_copies lX10_315 (by decide) (by decide) rfl rfl (Nat.le_of_ble_eq_true rfl) dX10_tried_188 (fun M_8 hp188 => ?_)
          obtain ⟨hfd, hvd⟩ := hp188
          refine s_iload (k := 4) hX dX10_tried_191 rfl ?_
          exact s_iret hX hR dX10_tried_193 (by rw [if_pos (by omega)])
        · refine s_tabIn (tgt := 109) (off := 39) hX dX10_tried_70 (by decide) (by decide) (by decide) (by decide) ?_
          refine s_aload_n (k := 0) hX dX10_tried_109 rfl rfl ?_
          refine s_get hX fX10_296 oM0 rfl dX10_tried_110 ?_
          refine s_top (y := nI 0) (hp2) ?_
          refine s_istore (lv' := [(0, .ref (ad 0)), (1, .int (nI m)), (2, .int (nI 1)), (3, .int (nI 0)), (4, .int (nI 0))]) hX dX10_tried_113 (by decide) rfl ?_
          refine s_goto (tgt := 180) hX dX10_tried_115 (by decide) ?_
          refine s_aload_n (k := 0) hX dX10_tried_180 rfl rfl ?_
          refine s_get hX fX10_13 oM0 rfl dX10_tried_181 ?_
          refine s_aload_n (k := 0) hX dX10_tried_184 rfl rfl ?_
          refine s_get hX fX10_7 oM0 rfl dX10_tried_185 ?_
          refine s_callSv hX (c_X10_copies 2 1 aM2 aM1 M_6 (by decide)) mX10_copies lX10_315 (by decide) (by decide) rfl rfl (Nat.le_of_ble_eq_true rfl) dX10_tried_188 (fun M_10 hp188 => ?_)
          obtain ⟨hfd, hvd⟩ := hp188
          refine s_iload (k := 4) hX dX10_tried_191 rfl ?_
          exact s_iret hX hR dX10_tried_193 (by rw [if_pos (by omega)])
        · refine s_tabIn (tgt := 118) (off := 48) hX dX10_tried_70 (by decide) (by decide) (by decide) (by decide) ?_
          refine s_aload_n (k := 0) hX dX10_tried_118 rfl rfl ?_
          refine s_sipush (v := (nI 160)) hX dX10_tried_119 (by decide) ?_
          refine s_callVi hX (c_X10_sumOf (nI 160) M_6 hT3) mX10_sumOf lX10_312 (by decide) (by decide) oM0 rfl rfl rfl rfl rfl (Nat.le_of_ble_eq_true rfl) dX10_tried_122 (fun r122 M_11 hp122 => ?_)
          obtain ⟨rfl, h2⟩ := hp122
          subst h2
          refine s_istore (lv' := [(0, .ref (ad 0)), (1, .int (nI m)), (2, .int (nI 2)), (3, .int (nI 0)), (4, .int (nI 0))]) hX dX10_tried_125 (by decide) rfl ?_
          refine s_goto (tgt := 180) hX dX10_tried_127 (by decide) ?_
          refine s_aload_n (k := 0) hX dX10_tried_180 rfl rfl ?_
          refine s_get hX fX10_13 oM0 rfl dX10_tried_181 ?_
          refine s_aload_n (k := 0) hX dX10_tried_184 rfl rfl ?_
          refine s_get hX fX10_7 oM0 rfl dX10_tried_185 ?_
          refine s_callSv hX (c_X10_copies 2 1 aM2 aM1 M_6 (by decide)) mX10_copies lX10_315 (by decide) (by decide) rfl rfl (Nat.le_of_ble_eq_true rfl) dX10_tried_188 (fun M_13 hp188 => ?_)
          obtain ⟨hfd, hvd⟩ := hp188
          refine s_iload (k := 4) hX dX10_tried_191 rfl ?_
          exact s_iret hX hR dX10_tried_193 (by rw [if_pos (by omega)])
        · refine s_tabIn (tgt := 130) (off := 60) hX dX10_tried_70 (by decide) (by decide) (by decide) (by decide) ?_
          refine s_aload_n (k := 0) hX dX10_tried_130 rfl rfl ?_
          refine s_bipush (v := (nI 40)) hX dX10_tried_131 (by decide) ?_
          refine s_callVi hX (c_X10_sumOf (nI 40) M_6 hT3) mX10_sumOf lX10_312 (by decide) (by decide) oM0 rfl rfl rfl rfl rfl (Nat.le_of_ble_eq_true rfl) dX10_tried_133 (fun r133 M_14 hp133 => ?_)
          obtain ⟨rfl, h2⟩ := hp133
          subst h2
          refine s_iload_n (k := 3) hX dX10_tried_136 rfl rfl ?_
          refine s_isub hX dX10_tried_137 ?_
          refine s_top (y := nI 0) (by decide) ?_
          refine s_istore (lv' := [(0, .ref (ad 0)), (1, .int (nI m)), (2, .int (nI 3)), (3, .int (nI 0)), (4, .int (nI 0))]) hX dX10_tried_138 (by decide) rfl ?_
          refine s_goto (tgt := 180) hX dX10_tried_140 (by decide) ?_
          refine s_aload_n (k := 0) hX dX10_tried_180 rfl rfl ?_
          refine s_get hX fX10_13 oM0 rfl dX10_tried_181 ?_
          refine s_aload_n (k := 0) hX dX10_tried_184 rfl rfl ?_
          refine s_get hX fX10_7 oM0 rfl dX10_tried_185 ?_
          refine s_callSv hX (c_X10_copies 2 1 aM2 aM1 M_6 (by decide)) mX10_copies lX10_315 (by decide) (by decide) rfl rfl (Nat.le_of_ble_eq_true rfl) dX10_tried_188 (fun M_16 hp188 => ?_)
          obtain ⟨hfd, hvd⟩ := hp188
          refine s_iload (k := 4) hX dX10_tried_191 rfl ?_
          exact s_iret hX hR dX10_tried_193 (by rw [if_pos (by omega)])
    · replace c16 := bI_eq c16
      refine s_aload_n (k := 0) hX dX10_tried_19 rfl rfl ?_
      refine s_iload_n (k := 2) hX dX10_tried_20 rfl rfl ?_
      refine s_bipush (v := (nI 100)) hX dX10_tried_21 (by decide) ?_
      refine s_isub hX dX10_tried_23 ?_
      refine s_callVi hX (c_X10_isStone (what - nI 100) M hT) mX10_isStone lX10_154 (by decide) (by decide) oM0 rfl rfl rfl rfl rfl (Nat.le_of_ble_eq_true rfl) dX10_tried_24 (fun r24 M_17 hp24 => ?_)
      obtain ⟨rfl, h2⟩ := hp24
      subst h2
      refine s_if_ne (tgt := 46) hX dX10_tried_27 (by decide) (fun c27 => ?_) (fun c27 => ?_)
      · first | exact absurd (by decide) c27 | exact absurd c27 (by decide)
      · refine s_aload_n (k := 0) hX dX10_tried_30 rfl rfl ?_
        refine s_iload_n (k := 2) hX dX10_tried_31 rfl rfl ?_
        refine s_sipush (v := (nI 200)) hX dX10_tried_32 (by decide) ?_
        refine s_isub hX dX10_tried_35 ?_
        refine s_callVi hX (c_X10_isStone (what - nI 200) M hT) mX10_isStone lX10_154 (by decide) (by decide) oM0 rfl rfl rfl rfl rfl (Nat.le_of_ble_eq_true rfl) dX10_tried_36 (fun r36 M_18 hp36 => ?_)
        obtain ⟨rfl, h2⟩ := hp36
        subst h2
        refine s_if_ne (tgt := 46) hX dX10_tried_39 (by decide) (fun c39 => ?_) (fun c39 => ?_)
        · first | exact absurd (by decide) c39 | exact absurd c39 (by decide)
        · refine s_ldcw (v := (-100000)) hX kX10_311 dX10_tried_42 ?_
          exact s_iret hX hR dX10_tried_45 (by rw [if_neg (by omega)])
set_option maxHeartbeats 4000000 in
theorem c_X10_stoneIs (i w : Int32) (M : Mem) (hF : FrM M) : AM yX10_stoneIs cX10_stoneIs 3 (some .int) 2 39 glM (fun ad => [.ref (ad 0), .int i, .int w]) M (PI (fun r _ => r = -1)) := by
  refine AM.of (by decide) (fun _ => Nat.le_of_ble_eq_true rfl) (fun X ad cI cZ cB hX hR => ?_)
  show V X M [(0, .ref (ad 0)), (1, .int i), (2, .int w)] [] 0
  obtain ⟨hT, hn, hd, hP, hz, hk, hu⟩ := hF
  refine s_aload_n (k := 0) hX dX10_stoneIs_0 rfl rfl ?_
  refine s_iload_n (k := 1) hX dX10_stoneIs_1 rfl rfl ?_
  refine s_callVi hX (c_X10_isStone i M hT) mX10_isStone lX10_154 (by decide) (by decide) oM0 rfl rfl rfl rfl rfl (Nat.le_of_ble_eq_true rfl) dX10_stoneIs_2 (fun r2 M_1 hp2 => ?_)
  obtain ⟨rfl, h2⟩ := hp2
  subst h2
  refine s_if_ne (tgt := 10) hX dX10_stoneIs_5 (by decide) (fun c5 => ?_) (fun c5 => ?_)
  · first | exact absurd (by decide) c5 | exact absurd c5 (by decide)
  · refine s_iconst (v := (-1)) hX dX10_stoneIs_8 (by decide) ?_
    exact s_iret hX hR dX10_stoneIs_9 rfl
set_option maxHeartbeats 4000000 in
theorem c_X10_at (x y : Int32) (M : Mem) (hF : FrM M) : AM yX10_at cX10_at 4 (some .int) 1 39 glM (fun ad => [.ref (ad 0), .int x, .int y]) M (PI (fun r _ => r = if 0 ≤ x.toInt ∧ x.toInt ≤ 39 ∧ 1 ≤ y.toInt ∧ y.toInt ≤ 20 then -2 else -1)) := by
  refine AM.of (by decide) (fun _ => Nat.le_of_ble_eq_true rfl) (fun X ad cI cZ cB hX hR => ?_)
  show V X M [(0, .ref (ad 0)), (1, .int x), (2, .int y)] [] 0
  obtain ⟨hT, hn, hd, hP, hz, hk, hu⟩ := hF
  refine s_iload_n (k := 1) hX dX10_at_0 rfl rfl ?_
  refine s_iconst (v := (nI 0)) hX dX10_at_1 (by decide) ?_
  refine s_bipush (v := (nI 39)) hX dX10_at_2 (by decide) ?_
  refine s_callSi hX (c_X10_in x 0 39 M (by decide) (by decide)) mX10_in lX10_132 (by decide) (by decide) rfl rfl (Nat.le_of_ble_eq_true rfl) dX10_at_4 (fun r4 M_1 hp4 => ?_)
  obtain ⟨rfl, h2⟩ := hp4
  subst h2
  refine s_if_eq (tgt := 20) hX dX10_at_7 (by decide) (fun c7 => ?_) (fun c7 => ?_)
  · replace c7 := bI_eq c7
    refine s_iconst (v := (-1)) hX dX10_at_20 (by decide) ?_
    exact s_iret hX hR dX10_at_21 (by rw [if_neg (by omega)])
  · replace c7 := bI_ne c7
    refine s_iload_n (k := 2) hX dX10_at_10 rfl rfl ?_
    refine s_iconst (v := (nI 1)) hX dX10_at_11 (by decide) ?_
    refine s_bipush (v := (nI 20)) hX dX10_at_12 (by decide) ?_
    refine s_callSi hX (c_X10_in y 1 20 M (by decide) (by decide)) mX10_in lX10_132 (by decide) (by decide) rfl rfl (Nat.le_of_ble_eq_true rfl) dX10_at_14 (fun r14 M_2 hp14 => ?_)
    obtain ⟨rfl, h2⟩ := hp14
    subst h2
    refine s_if_ne (tgt := 22) hX dX10_at_17 (by decide) (fun c17 => ?_) (fun c17 => ?_)
    · replace c17 := bI_ne c17
      refine s_aload_n (k := 0) hX dX10_at_22 rfl rfl ?_
      refine s_iload_n (k := 1) hX dX10_at_23 rfl rfl ?_
      refine s_iload_n (k := 2) hX dX10_at_24 rfl rfl ?_
      refine s_callVi hX (c_X10_stoneAt x y M hT) mX10_stoneAt lX10_147 (by decide) (by decide) oM0 rfl rfl rfl rfl rfl (Nat.le_of_ble_eq_true rfl) dX10_at_25 (fun r25 M_3 hp25 => ?_)
      obtain ⟨rfl, h2⟩ := hp25
      subst h2
      refine s_istore_n (lv' := [(0, .ref (ad 0)), (1, .int x), (2, .int y), (3, .int (-1))]) hX dX10_at_28 rfl (by decide) rfl ?_
      refine s_iload_n (k := 3) hX dX10_at_29 rfl rfl ?_
      refine s_iconst (v := (-1)) hX dX10_at_30 (by decide) ?_
      refine s_icmp_ne (tgt := 39) hX dX10_at_31 (by decide) (fun c31 => ?_) (fun c31 => ?_)
      · first | exact absurd (by decide) c31 | exact absurd c31 (by decide)
      · refine s_bipush (v := (-2)) hX dX10_at_34 (by decide) ?_
        refine s_goto (tgt := 40) hX dX10_at_36 (by decide) ?_
        exact s_iret hX hR dX10_at_40 (by rw [if_pos (by omega)])
    · replace c17 := bI_eq c17
      refine s_iconst (v := (-1)) hX dX10_at_20 (by decide) ?_
      exact s_iret hX hR dX10_at_21 (by rw [if_neg (by omega)])
set_option maxHeartbeats 4000000 in
theorem c_X10_cross (p w : Int32) (M : Mem) (hF : FrM M) : AM yX10_cross cX10_cross 8 (some .int) 2 39 glM (fun ad => [.ref (ad 0), .int p, .int w]) M (PI (fun r _ => r = -1)) := by
  refine AM.of (by decide) (fun _ => Nat.le_of_ble_eq_true rfl) (fun X ad cI cZ cB hX hR => ?_)
  show V X M [(0, .ref (ad 0)), (1, .int p), (2, .int w)] [] 0
  obtain ⟨hT, hn, hd, hP, hz, hk, hu⟩ := hF
  refine s_aload_n (k := 0) hX dX10_cross_0 rfl rfl ?_
  refine s_iload_n (k := 1) hX dX10_cross_1 rfl rfl ?_
  refine s_callVi hX (c_X10_isPerson p M hP) mX10_isPerson lX10_334 (by decide) (by decide) oM0 rfl rfl rfl rfl rfl (Nat.le_of_ble_eq_true rfl) dX10_cross_2 (fun r2 M_1 hp2 => ?_)
  obtain ⟨rfl, h2⟩ := hp2
  subst h2
  refine s_if_eq (tgt := 29) hX dX10_cross_5 (by decide) (fun c5 => ?_) (fun c5 => ?_)
  · refine s_iconst (v := (-1)) hX dX10_cross_29 (by decide) ?_
    exact s_iret hX hR dX10_cross_30 rfl
  · first | exact absurd (by decide) c5 | exact absurd c5 (by decide)
set_option maxHeartbeats 4000000 in
theorem c_X10_driest (p w : Int32) (M : Mem) (hF : FrM M) : AM yX10_driest cX10_driest 4 (some .int) 2 39 glM (fun ad => [.ref (ad 0), .int p, .int w]) M (PI (fun r _ => r = -1)) := by
  refine AM.of (by decide) (fun _ => Nat.le_of_ble_eq_true rfl) (fun X ad cI cZ cB hX hR => ?_)
  show V X M [(0, .ref (ad 0)), (1, .int p), (2, .int w)] [] 0
  obtain ⟨hT, hn, hd, hP, hz, hk, hu⟩ := hF
  refine s_aload_n (k := 0) hX dX10_driest_0 rfl rfl ?_
  refine s_iload_n (k := 1) hX dX10_driest_1 rfl rfl ?_
  refine s_callVi hX (c_X10_isPerson p M hP) mX10_isPerson lX10_334 (by decide) (by decide) oM0 rfl rfl rfl rfl rfl (Nat.le_of_ble_eq_true rfl) dX10_driest_2 (fun r2 M_1 hp2 => ?_)
  obtain ⟨rfl, h2⟩ := hp2
  subst h2
  refine s_if_eq (tgt := 17) hX dX10_driest_5 (by decide) (fun c5 => ?_) (fun c5 => ?_)
  · refine s_iconst (v := (-1)) hX dX10_driest_17 (by decide) ?_
    exact s_iret hX hR dX10_driest_18 rfl
  · first | exact absurd (by decide) c5 | exact absurd c5 (by decide)
set_option maxHeartbeats 4000000 in
theorem c_X10_howFar (p : Int32) (M : Mem) (hF : FrM M) : AM yX10_howFar cX10_howFar 4 (some .int) 2 39 glM (fun ad => [.ref (ad 0), .int p]) M (PI (fun r _ => r = -1)) := by
  refine AM.of (by decide) (fun _ => Nat.le_of_ble_eq_true rfl) (fun X ad cI cZ cB hX hR => ?_)
  show V X M [(0, .ref (ad 0)), (1, .int p)] [] 0
  obtain ⟨hT, hn, hd, hP, hz, hk, hu⟩ := hF
  refine s_aload_n (k := 0) hX dX10_howFar_0 rfl rfl ?_
  refine s_iload_n (k := 1) hX dX10_howFar_1 rfl rfl ?_
  refine s_callVi hX (c_X10_isPerson p M hP) mX10_isPerson lX10_334 (by decide) (by decide) oM0 rfl rfl rfl rfl rfl (Nat.le_of_ble_eq_true rfl) dX10_howFar_2 (fun r2 M_1 hp2 => ?_)
  obtain ⟨rfl, h2⟩ := hp2
  subst h2
  refine s_if_ne (tgt := 10) hX dX10_howFar_5 (by decide) (fun c5 => ?_) (fun c5 => ?_)
  · first | exact absurd (by decide) c5 | exact absurd c5 (by decide)
  · refine s_iconst (v := (-1)) hX dX10_howFar_8 (by decide) ?_
    exact s_iret hX hR dX10_howFar_9 rfl
set_option maxHeartbeats 4000000 in
theorem c_X10_hold (p : Int32) (M : Mem) (hF : FrM M) : AM yX10_hold cX10_hold 3 (some .int) 2 39 glM (fun ad => [.ref (ad 0), .int p]) M (PI (fun r _ => r = -1)) := by
  refine AM.of (by decide) (fun _ => Nat.le_of_ble_eq_true rfl) (fun X ad cI cZ cB hX hR => ?_)
  show V X M [(0, .ref (ad 0)), (1, .int p)] [] 0
  obtain ⟨hT, hn, hd, hP, hz, hk, hu⟩ := hF
  refine s_aload_n (k := 0) hX dX10_hold_0 rfl rfl ?_
  refine s_iload_n (k := 1) hX dX10_hold_1 rfl rfl ?_
  refine s_callVi hX (c_X10_isPerson p M hP) mX10_isPerson lX10_334 (by decide) (by decide) oM0 rfl rfl rfl rfl rfl (Nat.le_of_ble_eq_true rfl) dX10_hold_2 (fun r2 M_1 hp2 => ?_)
  obtain ⟨rfl, h2⟩ := hp2
  subst h2
  refine s_if_ne (tgt := 10) hX dX10_hold_5 (by decide) (fun c5 => ?_) (fun c5 => ?_)
  · first | exact absurd (by decide) c5 | exact absurd c5 (by decide)
  · refine s_iconst (v := (-1)) hX dX10_hold_8 (by decide) ?_
    exact s_iret hX hR dX10_hold_9 rfl
set_option maxHeartbeats 4000000 in
theorem c_X10_oneMore (p w : Int32) (M : Mem) (hF : FrM M) : AM yX10_oneMore cX10_oneMore 6 (some .int) 2 39 glM (fun ad => [.ref (ad 0), .int p, .int w]) M (PI (fun r _ => r = -1)) := by
  refine AM.of (by decide) (fun _ => Nat.le_of_ble_eq_true rfl) (fun X ad cI cZ cB hX hR => ?_)
  show V X M [(0, .ref (ad 0)), (1, .int p), (2, .int w)] [] 0
  obtain ⟨hT, hn, hd, hP, hz, hk, hu⟩ := hF
  refine s_aload_n (k := 0) hX dX10_oneMore_0 rfl rfl ?_
  refine s_iload_n (k := 1) hX dX10_oneMore_1 rfl rfl ?_
  refine s_callVi hX (c_X10_isPerson p M hP) mX10_isPerson lX10_334 (by decide) (by decide) oM0 rfl rfl rfl rfl rfl (Nat.le_of_ble_eq_true rfl) dX10_oneMore_2 (fun r2 M_1 hp2 => ?_)
  obtain ⟨rfl, h2⟩ := hp2
  subst h2
  refine s_if_eq (tgt := 17) hX dX10_oneMore_5 (by decide) (fun c5 => ?_) (fun c5 => ?_)
  · refine s_iconst (v := (-1)) hX dX10_oneMore_17 (by decide) ?_
    exact s_iret hX hR dX10_oneMore_18 rfl
  · first | exact absurd (by decide) c5 | exact absurd c5 (by decide)
set_option maxHeartbeats 4000000 in
theorem c_X10_key (p w : Int32) (M : Mem) (hF : FrM M) : AM yX10_key cX10_key 8 (some .int) 2 39 glM (fun ad => [.ref (ad 0), .int p, .int w]) M (PI (fun r _ => r = -1)) := by
  refine AM.of (by decide) (fun _ => Nat.le_of_ble_eq_true rfl) (fun X ad cI cZ cB hX hR => ?_)
  show V X M [(0, .ref (ad 0)), (1, .int p), (2, .int w)] [] 0
  obtain ⟨hT, hn, hd, hP, hz, hk, hu⟩ := hF
  refine s_aload_n (k := 0) hX dX10_key_0 rfl rfl ?_
  refine s_iload_n (k := 1) hX dX10_key_1 rfl rfl ?_
  refine s_callVi hX (c_X10_isPerson p M hP) mX10_isPerson lX10_334 (by decide) (by decide) oM0 rfl rfl rfl rfl rfl (Nat.le_of_ble_eq_true rfl) dX10_key_2 (fun r2 M_1 hp2 => ?_)
  obtain ⟨rfl, h2⟩ := hp2
  subst h2
  refine s_if_eq (tgt := 17) hX dX10_key_5 (by decide) (fun c5 => ?_) (fun c5 => ?_)
  · refine s_iconst (v := (-1)) hX dX10_key_17 (by decide) ?_
    exact s_iret hX hR dX10_key_18 rfl
  · first | exact absurd (by decide) c5 | exact absurd c5 (by decide)
set_option maxHeartbeats 4000000 in
theorem c_X10_firstNight (p : Int32) (M : Mem) (hF : FrM M) : AM yX10_firstNight cX10_firstNight 4 (some .int) 2 39 glM (fun ad => [.ref (ad 0), .int p]) M (PI (fun r _ => r = -1)) := by
  refine AM.of (by decide) (fun _ => Nat.le_of_ble_eq_true rfl) (fun X ad cI cZ cB hX hR => ?_)
  show V X M [(0, .ref (ad 0)), (1, .int p)] [] 0
  obtain ⟨hT, hn, hd, hP, hz, hk, hu⟩ := hF
  refine s_aload_n (k := 0) hX dX10_firstNight_0 rfl rfl ?_
  refine s_iload_n (k := 1) hX dX10_firstNight_1 rfl rfl ?_
  refine s_callVi hX (c_X10_isPerson p M hP) mX10_isPerson lX10_334 (by decide) (by decide) oM0 rfl rfl rfl rfl rfl (Nat.le_of_ble_eq_true rfl) dX10_firstNight_2 (fun r2 M_1 hp2 => ?_)
  obtain ⟨rfl, h2⟩ := hp2
  subst h2
  refine s_if_ne (tgt := 10) hX dX10_firstNight_5 (by decide) (fun c5 => ?_) (fun c5 => ?_)
  · first | exact absurd (by decide) c5 | exact absurd c5 (by decide)
  · refine s_iconst (v := (-1)) hX dX10_firstNight_8 (by decide) ?_
    exact s_iret hX hR dX10_firstNight_9 rfl
set_option maxHeartbeats 4000000 in
theorem c_X10_walk (p x n w : Int32) (M : Mem) (hF : FrM M) : AM yX10_walk cX10_walk 15 (some .int) 2 39 glM (fun ad => [.ref (ad 0), .int p, .int x, .int n, .int w]) M (PI (fun r _ => r = -1)) := by
  refine AM.of (by decide) (fun _ => Nat.le_of_ble_eq_true rfl) (fun X ad cI cZ cB hX hR => ?_)
  show V X M [(0, .ref (ad 0)), (1, .int p), (2, .int x), (3, .int n), (4, .int w)] [] 0
  obtain ⟨hT, hn, hd, hP, hz, hk, hu⟩ := hF
  refine s_aload_n (k := 0) hX dX10_walk_0 rfl rfl ?_
  refine s_iload_n (k := 1) hX dX10_walk_1 rfl rfl ?_
  refine s_callVi hX (c_X10_isPerson p M hP) mX10_isPerson lX10_334 (by decide) (by decide) oM0 rfl rfl rfl rfl rfl (Nat.le_of_ble_eq_true rfl) dX10_walk_2 (fun r2 M_1 hp2 => ?_)
  obtain ⟨rfl, h2⟩ := hp2
  subst h2
  refine s_if_eq (tgt := 46) hX dX10_walk_5 (by decide) (fun c5 => ?_) (fun c5 => ?_)
  · refine s_iconst (v := (-1)) hX dX10_walk_46 (by decide) ?_
    exact s_iret hX hR dX10_walk_47 rfl
  · first | exact absurd (by decide) c5 | exact absurd c5 (by decide)
set_option maxHeartbeats 4000000 in
theorem c_X10_meet (p q w : Int32) (M : Mem) (hF : FrM M) : AM yX10_meet cX10_meet 8 (some .int) 2 39 glM (fun ad => [.ref (ad 0), .int p, .int q, .int w]) M (PI (fun r _ => r = -1)) := by
  refine AM.of (by decide) (fun _ => Nat.le_of_ble_eq_true rfl) (fun X ad cI cZ cB hX hR => ?_)
  show V X M [(0, .ref (ad 0)), (1, .int p), (2, .int q), (3, .int w)] [] 0
  obtain ⟨hT, hn, hd, hP, hz, hk, hu⟩ := hF
  refine s_aload_n (k := 0) hX dX10_meet_0 rfl rfl ?_
  refine s_iload_n (k := 1) hX dX10_meet_1 rfl rfl ?_
  refine s_callVi hX (c_X10_isPerson p M hP) mX10_isPerson lX10_334 (by decide) (by decide) oM0 rfl rfl rfl rfl rfl (Nat.le_of_ble_eq_true rfl) dX10_meet_2 (fun r2 M_1 hp2 => ?_)
  obtain ⟨rfl, h2⟩ := hp2
  subst h2
  refine s_if_eq (tgt := 25) hX dX10_meet_5 (by decide) (fun c5 => ?_) (fun c5 => ?_)
  · refine s_iconst (v := (-1)) hX dX10_meet_25 (by decide) ?_
    exact s_iret hX hR dX10_meet_26 rfl
  · first | exact absurd (by decide) c5 | exact absurd c5 (by decide)
set_option maxHeartbeats 4000000 in
theorem c_X10_leastStride (M : Mem) (hF : FrM M) : AM yX10_leastStride cX10_leastStride 2 (some .int) 4 39 glM (fun ad => [.ref (ad 0)]) M (PI (fun r _ => r = nI 21)) := by
  refine AM.of (by decide) (fun _ => Nat.le_of_ble_eq_true rfl) (fun X ad cI cZ cB hX hR => ?_)
  show V X M [(0, .ref (ad 0))] [] 0
  obtain ⟨hT, hn, hd, hP, hz, hk, hu⟩ := hF
  refine s_iconst (v := (nI 1)) hX dX10_leastStride_0 (by decide) ?_
  refine s_istore_n (lv' := [(0, .ref (ad 0)), (1, .int (nI 1))]) hX dX10_leastStride_1 rfl (by decide) rfl ?_
  have lp2 : ∀ (N2 : Nat) (i : Nat) (Mi : Mem), (1 ≤ i) → (i ≤ 21) → (21 < i + N2) → (∀ j, j < 40 → Mi 1 j = 0) → V X Mi [(0, .ref (ad 0)), (1, .int (nI i))] [] 2 := by
    intro N2
    induction N2 with
    | zero => intro i Mi hi1 hi hN2 hTi; exact absurd hN2 (by omega)
    | succ N2 ih2 =>
      intro i Mi hi1 hi hN2 hTi
      refine s_iload_n (k := 1) hX dX10_leastStride_2 rfl rfl ?_
      refine s_bipush (v := (nI 30)) hX dX10_leastStride_3 (by decide) ?_
      refine s_icmp_gt (tgt := 25) hX dX10_leastStride_5 (by decide) (fun c5 => ?_) (fun c5 => ?_)
      · replace c5 := (nI_ltI (by omega) (by omega)).mp c5
        omega
      · replace c5 := mt (nI_ltI (by omega) (by omega)).mpr c5
        refine s_aload_n (k := 0) hX dX10_leastStride_8 rfl rfl ?_
        refine s_iload_n (k := 1) hX dX10_leastStride_9 rfl rfl ?_
        refine s_callVi hX (c_X10_crossing (nI i) Mi hTi) mX10_crossing lX10_337 (by decide) (by decide) oM0 rfl rfl rfl rfl rfl (Nat.le_of_ble_eq_true rfl) dX10_leastStride_10 (fun r10 M_2 hp10 => ?_)
        obtain ⟨rfl, hfq⟩ := hp10
        refine s_iconst (v := (-1)) hX dX10_leastStride_13 (by decide) ?_
        refine s_icmp_eq (tgt := 19) hX dX10_leastStride_14 (by decide) (fun c14 => ?_) (fun c14 => ?_)
        · replace c14 := ls1 c14 (by omega)
          refine s_iinc (k := 1) (v := nI (i + 1)) (lv' := [(0, .ref (ad 0)), (1, .int (nI (i + 1)))]) hX dX10_leastStride_19 (nI_1 _) (by decide) rfl rfl ?_
          refine s_goto (tgt := 2) hX dX10_leastStride_22 (by decide) ?_
          exact ih2 (i + 1) _ (by omega) (by omega) (by omega) (fun j hj => (hfq 1 j (by decide)).trans (hTi j hj))
        · replace c14 := ls2 c14 (by omega)
          refine s_iload_n (k := 1) hX dX10_leastStride_17 rfl rfl ?_
          exact s_iret hX hR dX10_leastStride_18 (by rw [show i = 21 by omega])
  exact lp2 22 1 M (by omega) (by omega) (by omega) hT
set_option maxHeartbeats 4000000 in
theorem c_X10_islands (s what : Int32) (M : Mem) (hF : FrM M) : AM yX10_islands cX10_islands 6 (some .int) 2 39 glM (fun ad => [.ref (ad 0), .int s, .int what]) M (PI (fun r _ => r = if (1 ≤ s.toInt ∧ s.toInt ≤ 30) ∧ what.toInt = 100 then nI 0 else -1)) := by
  refine AM.of (by decide) (fun _ => Nat.le_of_ble_eq_true rfl) (fun X ad cI cZ cB hX hR => ?_)
  show V X M [(0, .ref (ad 0)), (1, .int s), (2, .int what)] [] 0
  obtain ⟨hT, hn, hd, hP, hz, hk, hu⟩ := hF
  refine s_iload_n (k := 1) hX dX10_islands_0 rfl rfl ?_
  refine s_iconst (v := (nI 1)) hX dX10_islands_1 (by decide) ?_
  refine s_bipush (v := (nI 30)) hX dX10_islands_2 (by decide) ?_
  refine s_callSi hX (c_X10_in s 1 30 M (by decide) (by decide)) mX10_in lX10_132 (by decide) (by decide) rfl rfl (Nat.le_of_ble_eq_true rfl) dX10_islands_4 (fun r4 M_1 hp4 => ?_)
  obtain ⟨rfl, h2⟩ := hp4
  subst h2
  refine s_if_eq (tgt := 24) hX dX10_islands_7 (by decide) (fun c7 => ?_) (fun c7 => ?_)
  · replace c7 := bI_eq c7
    refine s_iconst (v := (-1)) hX dX10_islands_24 (by decide) ?_
    exact s_iret hX hR dX10_islands_25 (by rw [if_neg (by omega)])
  · replace c7 := bI_ne c7
    refine s_iload_n (k := 2) hX dX10_islands_10 rfl rfl ?_
    refine s_bipush (v := (nI 100)) hX dX10_islands_11 (by decide) ?_
    refine s_icmp_eq (tgt := 26) hX dX10_islands_13 (by decide) (fun c13 => ?_) (fun c13 => ?_)
    · replace c13 := (q_eq (by omega)).mp c13
      refine s_aload_n (k := 0) hX dX10_islands_26 rfl rfl ?_
      refine s_iload_n (k := 1) hX dX10_islands_27 rfl rfl ?_
      refine s_callVi hX (c_X10_laysIslands s M hT) mX10_laysIslands lX10_356 (by decide) (by decide) oM0 rfl rfl rfl rfl rfl (Nat.le_of_ble_eq_true rfl) dX10_islands_28 (fun r28 M_2 hp28 => ?_)
      have hri := hp28
      refine s_istore_n (lv' := [(0, .ref (ad 0)), (1, .int s), (2, .int what), (3, .int r28)]) hX dX10_islands_31 rfl (by decide) rfl ?_
      refine s_iload_n (k := 2) hX dX10_islands_32 rfl rfl ?_
      refine s_bipush (v := (nI 100)) hX dX10_islands_33 (by decide) ?_
      refine s_icmp_ne (tgt := 40) hX dX10_islands_35 (by decide) (fun c35 => ?_) (fun c35 => ?_)
      · replace c35 := mt (q_eq (by omega)).mpr c35
        omega
      · replace c35 := (q_eq (by omega)).mp c35
        refine s_iload_n (k := 3) hX dX10_islands_38 rfl rfl ?_
        exact s_iret hX hR dX10_islands_39 (by rw [if_pos (by omega)]; exact hri)
    · replace c13 := mt (q_eq (by omega)).mpr c13
      refine s_aload_n (k := 0) hX dX10_islands_16 rfl rfl ?_
      refine s_iload_n (k := 2) hX dX10_islands_17 rfl rfl ?_
      refine s_callVi hX (c_X10_isStone what M hT) mX10_isStone lX10_154 (by decide) (by decide) oM0 rfl rfl rfl rfl rfl (Nat.le_of_ble_eq_true rfl) dX10_islands_18 (fun r18 M_3 hp18 => ?_)
      obtain ⟨rfl, h2⟩ := hp18
      subst h2
      refine s_if_ne (tgt := 26) hX dX10_islands_21 (by decide) (fun c21 => ?_) (fun c21 => ?_)
      · first | exact absurd (by decide) c21 | exact absurd c21 (by decide)
      · refine s_iconst (v := (-1)) hX dX10_islands_24 (by decide) ?_
        exact s_iret hX hR dX10_islands_25 (by rw [if_neg (by omega)])
set_option maxHeartbeats 4000000 in
theorem c_X10_market (M : Mem) (hF : FrM M) : AM yX10_market cX10_market 3 (some .int) 4 39 glM (fun ad => [.ref (ad 0)]) M (PI (fun r _ => r = nI 0)) := by
  refine AM.of (by decide) (fun _ => Nat.le_of_ble_eq_true rfl) (fun X ad cI cZ cB hX hR => ?_)
  show V X M [(0, .ref (ad 0))] [] 0
  obtain ⟨hT, hn, hd, hP, hz, hk, hu⟩ := hF
  refine s_iconst (v := (nI 0)) hX dX10_market_0 (by decide) ?_
  refine s_istore_n (lv' := [(0, .ref (ad 0)), (1, .int (nI 0))]) hX dX10_market_1 rfl (by decide) rfl ?_
  refine s_iconst (v := (nI 0)) hX dX10_market_2 (by decide) ?_
  refine s_istore_n (lv' := [(0, .ref (ad 0)), (1, .int (nI 0)), (2, .int (nI 0))]) hX dX10_market_3 rfl (by decide) rfl ?_
  have lp4 : ∀ (N4 : Nat) (i : Nat), (i ≤ 8) → (8 < i + N4) → V X M [(0, .ref (ad 0)), (1, .int (nI 0)), (2, .int (nI i))] [] 4 := by
    intro N4
    induction N4 with
    | zero => intro i hi hN4; exact absurd hN4 (by omega)
    | succ N4 ih4 =>
      intro i hi hN4
      refine s_iload_n (k := 2) hX dX10_market_4 rfl rfl ?_
      refine s_bipush (v := (nI 8)) hX dX10_market_5 (by decide) ?_
      refine s_icmp_ge (tgt := 44) hX dX10_market_7 (by decide) (fun c7 => ?_) (fun c7 => ?_)
      · replace c7 := (nI_leI (by omega) (by omega)).mp c7
        refine s_iload_n (k := 1) hX dX10_market_44 rfl rfl ?_
        exact s_iret hX hR dX10_market_45 rfl
      · replace c7 := mt (nI_leI (by omega) (by omega)).mpr c7
        refine s_aload_n (k := 0) hX dX10_market_10 rfl rfl ?_
        refine s_iload_n (k := 2) hX dX10_market_11 rfl rfl ?_
        refine s_callVi hX (c_X10_isPerson (nI i) M hP) mX10_isPerson lX10_334 (by decide) (by decide) oM0 rfl rfl rfl rfl rfl (Nat.le_of_ble_eq_true rfl) dX10_market_12 (fun r12 M_3 hp12 => ?_)
        obtain ⟨rfl, h2⟩ := hp12
        subst h2
        refine s_if_eq (tgt := 38) hX dX10_market_15 (by decide) (fun c15 => ?_) (fun c15 => ?_)
        · refine s_iinc (k := 2) (v := nI (i + 1)) (lv' := [(0, .ref (ad 0)), (1, .int (nI 0)), (2, .int (nI (i + 1)))]) hX dX10_market_38 (nI_1 _) (by decide) rfl rfl ?_
          refine s_goto (tgt := 4) hX dX10_market_41 (by decide) ?_
          exact ih4 (i + 1) (by omega) (by omega)
        · first | exact absurd (by decide) c15 | exact absurd c15 (by decide)
  exact lp4 9 0 (by omega) (by omega)
set_option maxHeartbeats 4000000 in
theorem c_X10_chalk (n w : Int32) (M : Mem) (hF : FrM M) : AM yX10_chalk cX10_chalk 7 (some .int) 1 39 glM (fun ad => [.ref (ad 0), .int n, .int w]) M (PI (fun r _ => r = -1)) := by
  refine AM.of (by decide) (fun _ => Nat.le_of_ble_eq_true rfl) (fun X ad cI cZ cB hX hR => ?_)
  show V X M [(0, .ref (ad 0)), (1, .int n), (2, .int w)] [] 0
  obtain ⟨hT, hn, hd, hP, hz, hk, hu⟩ := hF
  refine s_iload_n (k := 1) hX dX10_chalk_0 rfl rfl ?_
  refine s_iconst (v := (nI 1)) hX dX10_chalk_1 (by decide) ?_
  refine s_bipush (v := (nI 7)) hX dX10_chalk_2 (by decide) ?_
  refine s_callSi hX (c_X10_in n 1 7 M (by decide) (by decide)) mX10_in lX10_132 (by decide) (by decide) rfl rfl (Nat.le_of_ble_eq_true rfl) dX10_chalk_4 (fun r4 M_1 hp4 => ?_)
  obtain ⟨rfl, h2⟩ := hp4
  subst h2
  refine s_if_eq (tgt := 37) hX dX10_chalk_7 (by decide) (fun c7 => ?_) (fun c7 => ?_)
  · replace c7 := bI_eq c7
    refine s_iconst (v := (-1)) hX dX10_chalk_37 (by decide) ?_
    exact s_iret hX hR dX10_chalk_38 rfl
  · replace c7 := bI_ne c7
    obtain ⟨m, hm, rfl⟩ := ixi (x := n) (n := 8) (by omega) (by omega)
    have hm1 : 1 ≤ m := by have hq := c7.1; rw [nI_toInt (by omega)] at hq; omega
    refine s_iload_n (k := 2) hX dX10_chalk_10 rfl rfl ?_
    refine s_bipush (v := (nI 100)) hX dX10_chalk_11 (by decide) ?_
    refine s_icmp_eq (tgt := 27) hX dX10_chalk_13 (by decide) (fun c13 => ?_) (fun c13 => ?_)
    · replace c13 := (q_eq (by omega)).mp c13
      refine s_iconst (v := (nI 2)) hX dX10_chalk_27 (by decide) ?_
      refine s_iload_n (k := 1) hX dX10_chalk_28 rfl rfl ?_
      refine s_imul hX dX10_chalk_29 ?_
      refine s_top (y := nI (2 * m)) (pk_mul 2 m) ?_
      refine s_aload_n (k := 0) hX dX10_chalk_30 rfl rfl ?_
      refine s_get hX fX10_158 oM0 rfl dX10_chalk_31 ?_
      refine s_top (y := nI 0) (hz) ?_
      refine s_icmp_le (tgt := 39) hX dX10_chalk_34 (by decide) (fun c34 => ?_) (fun c34 => ?_)
      · replace c34 := (nI_leI (by omega) (by omega)).mp c34
        omega
      · replace c34 := mt (nI_leI (by omega) (by omega)).mpr c34
        refine s_iconst (v := (-1)) hX dX10_chalk_37 (by decide) ?_
        exact s_iret hX hR dX10_chalk_38 rfl
    · replace c13 := mt (q_eq (by omega)).mpr c13
      refine s_iload_n (k := 2) hX dX10_chalk_16 rfl rfl ?_
      refine s_iconst (v := (nI 0)) hX dX10_chalk_17 (by decide) ?_
      refine s_iload_n (k := 1) hX dX10_chalk_18 rfl rfl ?_
      refine s_iconst (v := (nI 1)) hX dX10_chalk_19 (by decide) ?_
      refine s_isub hX dX10_chalk_20 ?_
      refine s_callSi hX (c_X10_in2 w (nI 0) (nI m - nI 1) M) mX10_in lX10_132 (by decide) (by decide) rfl rfl (Nat.le_of_ble_eq_true rfl) dX10_chalk_21 (fun r21 M_2 hp21 => ?_)
      obtain ⟨rfl, h2⟩ := hp21
      subst h2
      refine s_if_eq (tgt := 37) hX dX10_chalk_24 (by decide) (fun c24 => ?_) (fun c24 => ?_)
      · replace c24 := bI_eq c24
        refine s_iconst (v := (-1)) hX dX10_chalk_37 (by decide) ?_
        exact s_iret hX hR dX10_chalk_38 rfl
      · replace c24 := bI_ne c24
        refine s_iconst (v := (nI 2)) hX dX10_chalk_27 (by decide) ?_
        refine s_iload_n (k := 1) hX dX10_chalk_28 rfl rfl ?_
        refine s_imul hX dX10_chalk_29 ?_
        refine s_top (y := nI (2 * m)) (pk_mul 2 m) ?_
        refine s_aload_n (k := 0) hX dX10_chalk_30 rfl rfl ?_
        refine s_get hX fX10_158 oM0 rfl dX10_chalk_31 ?_
        refine s_top (y := nI 0) (hz) ?_
        refine s_icmp_le (tgt := 39) hX dX10_chalk_34 (by decide) (fun c34 => ?_) (fun c34 => ?_)
        · replace c34 := (nI_leI (by omega) (by omega)).mp c34
          omega
        · replace c34 := mt (nI_leI (by omega) (by omega)).mpr c34
          refine s_iconst (v := (-1)) hX dX10_chalk_37 (by decide) ?_
          exact s_iret hX hR dX10_chalk_38 rfl
set_option maxHeartbeats 4000000 in
theorem c_X10_shape (what : Int32) (M : Mem) (hF : FrM M) : AM yX10_shape cX10_shape 2 (some .int) 4 39 glM (fun ad => [.ref (ad 0), .int what]) M (PI (fun r _ => r = if what.toInt = 0 ∨ what.toInt = 1 ∨ what.toInt = 2 then nI 0 else if what.toInt = 3 then -2 else -1)) := by
  refine AM.of (by decide) (fun _ => Nat.le_of_ble_eq_true rfl) (fun X ad cI cZ cB hX hR => ?_)
  show V X M [(0, .ref (ad 0)), (1, .int what)] [] 0
  obtain ⟨hT, hn, hd, hP, hz, hk, hu⟩ := hF
  refine s_iload_n (k := 1) hX dX10_shape_0 rfl rfl ?_
  by_cases sw1 : what.toInt < 0 ∨ 3 < what.toInt
  · refine s_tabOut (tgt := 52) hX dX10_shape_1 sw1 (by decide) ?_
    refine s_iconst (v := (-1)) hX dX10_shape_52 (by decide) ?_
    exact s_iret hX hR dX10_shape_53 (by rw [if_neg (by omega), if_neg (by omega)])
  · obtain ⟨tv, htv, rfl⟩ := ixi (x := what) (n := 4) (by omega) (by omega)
    have htw : tv = 0 ∨ tv = 1 ∨ tv = 2 ∨ tv = 3 := by omega
    rcases htw with rfl | rfl | rfl | rfl
    · refine s_tabIn (tgt := 32) (off := 31) hX dX10_shape_1 (by decide) (by decide) (by decide) (by decide) ?_
      refine s_aload_n (k := 0) hX dX10_shape_32 rfl rfl ?_
      refine s_callVi hX (c_X10_mostInLine M hT) mX10_mostInLine lX10_402 (by decide) (by decide) oM0 rfl rfl rfl rfl rfl (Nat.le_of_ble_eq_true rfl) dX10_shape_33 (fun r33 M_1 hp33 => ?_)
      have hrs := hp33
      exact s_iret hX hR dX10_shape_36 (by rw [if_pos (by decide)]; exact hrs)
    · refine s_tabIn (tgt := 37) (off := 36) hX dX10_shape_1 (by decide) (by decide) (by decide) (by decide) ?_
      refine s_aload_n (k := 0) hX dX10_shape_37 rfl rfl ?_
      refine s_callVi hX (c_X10_yardRow M hT) mX10_yardRow lX10_405 (by decide) (by decide) oM0 rfl rfl rfl rfl rfl (Nat.le_of_ble_eq_true rfl) dX10_shape_38 (fun r38 M_2 hp38 => ?_)
      have hrs := hp38
      exact s_iret hX hR dX10_shape_41 (by rw [if_pos (by decide)]; exact hrs)
    · refine s_tabIn (tgt := 42) (off := 41) hX dX10_shape_1 (by decide) (by decide) (by decide) (by decide) ?_
      refine s_aload_n (k := 0) hX dX10_shape_42 rfl rfl ?_
      refine s_callVi hX (c_X10_pairsOf M hT) mX10_pairsOf lX10_408 (by decide) (by decide) oM0 rfl rfl rfl rfl rfl (Nat.le_of_ble_eq_true rfl) dX10_shape_43 (fun r43 M_3 hp43 => ?_)
      have hrs := hp43
      exact s_iret hX hR dX10_shape_46 (by rw [if_pos (by decide)]; exact hrs)
    · refine s_tabIn (tgt := 47) (off := 46) hX dX10_shape_1 (by decide) (by decide) (by decide) (by decide) ?_
      refine s_aload_n (k := 0) hX dX10_shape_47 rfl rfl ?_
      refine s_callVi hX (c_X10_closest M hT) mX10_closest lX10_411 (by decide) (by decide) oM0 rfl rfl rfl rfl rfl (Nat.le_of_ble_eq_true rfl) dX10_shape_48 (fun r48 M_4 hp48 => ?_)
      have hrs := hp48
      exact s_iret hX hR dX10_shape_51 (by rw [if_neg (by decide), if_pos (by decide)]; exact hrs)
set_option maxHeartbeats 4000000 in
theorem c_X10_letters (n w : Int32) (M : Mem) (hF : FrM M) : AM yX10_letters cX10_letters 8 (some .int) 1 39 glM (fun ad => [.ref (ad 0), .int n, .int w]) M (PI (fun r _ => r = -1)) := by
  refine AM.of (by decide) (fun _ => Nat.le_of_ble_eq_true rfl) (fun X ad cI cZ cB hX hR => ?_)
  show V X M [(0, .ref (ad 0)), (1, .int n), (2, .int w)] [] 0
  obtain ⟨hT, hn, hd, hP, hz, hk, hu⟩ := hF
  refine s_iload_n (k := 1) hX dX10_letters_0 rfl rfl ?_
  refine s_iconst (v := (nI 1)) hX dX10_letters_1 (by decide) ?_
  refine s_bipush (v := (nI 8)) hX dX10_letters_2 (by decide) ?_
  refine s_callSi hX (c_X10_in n 1 8 M (by decide) (by decide)) mX10_in lX10_132 (by decide) (by decide) rfl rfl (Nat.le_of_ble_eq_true rfl) dX10_letters_4 (fun r4 M_1 hp4 => ?_)
  obtain ⟨rfl, h2⟩ := hp4
  subst h2
  refine s_if_eq (tgt := 27) hX dX10_letters_7 (by decide) (fun c7 => ?_) (fun c7 => ?_)
  · replace c7 := bI_eq c7
    refine s_iconst (v := (-1)) hX dX10_letters_27 (by decide) ?_
    exact s_iret hX hR dX10_letters_28 rfl
  · replace c7 := bI_ne c7
    refine s_iload_n (k := 2) hX dX10_letters_10 rfl rfl ?_
    refine s_iconst (v := (nI 0)) hX dX10_letters_11 (by decide) ?_
    refine s_iconst (v := (nI 1)) hX dX10_letters_12 (by decide) ?_
    refine s_callSi hX (c_X10_in w 0 1 M (by decide) (by decide)) mX10_in lX10_132 (by decide) (by decide) rfl rfl (Nat.le_of_ble_eq_true rfl) dX10_letters_13 (fun r13 M_2 hp13 => ?_)
    obtain ⟨rfl, h2⟩ := hp13
    subst h2
    refine s_if_eq (tgt := 27) hX dX10_letters_16 (by decide) (fun c16 => ?_) (fun c16 => ?_)
    · replace c16 := bI_eq c16
      refine s_iconst (v := (-1)) hX dX10_letters_27 (by decide) ?_
      exact s_iret hX hR dX10_letters_28 rfl
    · replace c16 := bI_ne c16
      refine s_iload_n (k := 1) hX dX10_letters_19 rfl rfl ?_
      refine s_aload_n (k := 0) hX dX10_letters_20 rfl rfl ?_
      refine s_get hX fX10_158 oM0 rfl dX10_letters_21 ?_
      refine s_top (y := nI 0) (hz) ?_
      refine s_icmp_le (tgt := 29) hX dX10_letters_24 (by decide) (fun c24 => ?_) (fun c24 => ?_)
      · replace c24 := (q_le (by omega)).mp c24
        omega
      · replace c24 := mt (q_le (by omega)).mpr c24
        refine s_iconst (v := (-1)) hX dX10_letters_27 (by decide) ?_
        exact s_iret hX hR dX10_letters_28 rfl
set_option maxHeartbeats 4000000 in
theorem c_X10_thrown (n : Int32) (M : Mem) (hF : FrM M) : AM yX10_thrown cX10_thrown 6 (some .int) 3 39 glM (fun ad => [.ref (ad 0), .int n]) M (PI (fun r _ => r = if 1 ≤ n.toInt ∧ n.toInt ≤ 6 then -2 else -1)) := by
  refine AM.of (by decide) (fun _ => Nat.le_of_ble_eq_true rfl) (fun X ad cI cZ cB hX hR => ?_)
  show V X M [(0, .ref (ad 0)), (1, .int n)] [] 0
  obtain ⟨hT, hn, hd, hP, hz, hk, hu⟩ := hF
  refine s_iload_n (k := 1) hX dX10_thrown_0 rfl rfl ?_
  refine s_iconst (v := (nI 1)) hX dX10_thrown_1 (by decide) ?_
  refine s_bipush (v := (nI 6)) hX dX10_thrown_2 (by decide) ?_
  refine s_callSi hX (c_X10_in n 1 6 M (by decide) (by decide)) mX10_in lX10_132 (by decide) (by decide) rfl rfl (Nat.le_of_ble_eq_true rfl) dX10_thrown_4 (fun r4 M_1 hp4 => ?_)
  obtain ⟨rfl, h2⟩ := hp4
  subst h2
  refine s_if_ne (tgt := 12) hX dX10_thrown_7 (by decide) (fun c7 => ?_) (fun c7 => ?_)
  · replace c7 := bI_ne c7
    obtain ⟨m, hm, rfl⟩ := ixi (x := n) (n := 7) (by omega) (by omega)
    have hm1 : 1 ≤ m := by have hq := c7.1; rw [nI_toInt (by omega)] at hq; omega
    refine s_aload_n (k := 0) hX dX10_thrown_12 rfl rfl ?_
    refine s_iload_n (k := 1) hX dX10_thrown_13 rfl rfl ?_
    refine s_iconst (v := (nI 1)) hX dX10_thrown_14 (by decide) ?_
    refine s_callVi hX (c_X10_listsStones m hm1 (by omega) (nI 1) M hT) mX10_listsStones lX10_383 (by decide) (by decide) oM0 rfl rfl rfl rfl rfl (Nat.le_of_ble_eq_true rfl) dX10_thrown_15 (fun r15 M_2 hp15 => ?_)
    have hrl := hp15
    subst hrl
    refine s_if_ne (tgt := 24) hX dX10_thrown_18 (by decide) (fun c18 => ?_) (fun c18 => ?_)
    · first | exact absurd (by decide) c18 | exact absurd c18 (by decide)
    · refine s_bipush (v := (-2)) hX dX10_thrown_21 (by decide) ?_
      exact s_iret hX hR dX10_thrown_23 (by rw [if_pos (by omega)])
  · replace c7 := bI_eq c7
    refine s_iconst (v := (-1)) hX dX10_thrown_10 (by decide) ?_
    exact s_iret hX hR dX10_thrown_11 (by rw [if_neg (by omega)])
set_option maxHeartbeats 4000000 in
theorem c_X10_seed (x : Int32) (M : Mem) (hF : FrM M) : AM yX10_seed cX10_seed 2 (some .boolean) 1 39 glM (fun ad => [.ref (ad 0), .int x]) M (PI (fun r _ => r = bI (0 ≤ x.toInt ∧ x.toInt ≤ 65535))) := by
  refine AM.of (by decide) (fun _ => Nat.le_of_ble_eq_true rfl) (fun X ad cI cZ cB hX hR => ?_)
  show V X M [(0, .ref (ad 0)), (1, .int x)] [] 0
  obtain ⟨hT, hn, hd, hP, hz, hk, hu⟩ := hF
  refine s_iload_n (k := 1) hX dX10_seed_0 rfl rfl ?_
  refine s_iconst (v := (nI 0)) hX dX10_seed_1 (by decide) ?_
  refine s_ldcw (v := (nI 65535)) hX kX10_414 dX10_seed_2 ?_
  refine s_callSi hX (c_X10_in x 0 65535 M (by decide) (by decide)) mX10_in lX10_132 (by decide) (by decide) rfl rfl (Nat.le_of_ble_eq_true rfl) dX10_seed_5 (fun r5 M_1 hp5 => ?_)
  obtain ⟨rfl, h2⟩ := hp5
  subst h2
  refine s_if_ne (tgt := 13) hX dX10_seed_8 (by decide) (fun c8 => ?_) (fun c8 => ?_)
  · replace c8 := bI_ne c8
    refine s_aload_n (k := 0) hX dX10_seed_13 rfl rfl ?_
    refine s_get hX fX10_7 oM0 rfl dX10_seed_14 ?_
    refine s_sipush (v := (nI 201)) hX dX10_seed_17 (by decide) ?_
    refine s_iload_n (k := 1) hX dX10_seed_20 rfl rfl ?_
    refine s_iastN hX aM1 (by omega) dX10_seed_21 ?_
    refine s_mem (fun M_2 eM_2 => ?_)
    refine s_iconst (v := (nI 1)) hX dX10_seed_22 (by decide) ?_
    exact s_zret hX hR dX10_seed_23 (by first | decide | assumption) (bI_t (by omega))
  · replace c8 := bI_eq c8
    refine s_iconst (v := (nI 0)) hX dX10_seed_11 (by decide) ?_
    exact s_zret hX hR dX10_seed_12 (by first | decide | assumption) (bI_f (by omega))
set_option maxHeartbeats 4000000 in
theorem c_X10_keep (M : Mem) (hF : FrM M) : AM yX10_keep cX10_keep 1 (some .int) 1 39 glM (fun ad => [.ref (ad 0)]) M (PI (fun r _ => r = nI 0)) := by
  refine AM.of (by decide) (fun _ => Nat.le_of_ble_eq_true rfl) (fun X ad cI cZ cB hX hR => ?_)
  show V X M [(0, .ref (ad 0))] [] 0
  obtain ⟨hT, hn, hd, hP, hz, hk, hu⟩ := hF
  refine s_aload_n (k := 0) hX dX10_keep_0 rfl rfl ?_
  refine s_iconst (v := (nI 1)) hX dX10_keep_1 (by decide) ?_
  refine s_puti (ty := .boolean) hX fX10_415 oM0 rfl (Nat.le_of_ble_eq_true rfl) ty_10_54 rfl rfl dX10_keep_2 ?_
  refine s_mem (fun M_1 eM_1 => ?_)
  refine s_aload_n (k := 0) hX dX10_keep_5 rfl rfl ?_
  refine s_get hX fX10_7 oM0 rfl dX10_keep_6 ?_
  refine s_aload_n (k := 0) hX dX10_keep_9 rfl rfl ?_
  refine s_get hX fX10_16 oM0 rfl dX10_keep_10 ?_
  refine s_callSv hX (c_X10_copies 1 3 aM1 aM3 M_1 (by decide)) mX10_copies lX10_315 (by decide) (by decide) rfl rfl (Nat.le_of_ble_eq_true rfl) dX10_keep_13 (fun M_2 hp13 => ?_)
  obtain ⟨hfc, hvc⟩ := hp13
  refine s_aload_n (k := 0) hX dX10_keep_16 rfl rfl ?_
  refine s_get hX fX10_7 oM0 rfl dX10_keep_17 ?_
  refine s_sipush (v := (nI 200)) hX dX10_keep_20 (by decide) ?_
  refine s_ialdN hX aM1 (by omega) dX10_keep_23 ?_
  exact s_iret hX hR dX10_keep_24 (by rw [hfc _ _ (by decide), eM_1, mset_get, if_neg (by decide)]; exact hn)
set_option maxHeartbeats 4000000 in
theorem c_X10_undo (M : Mem) (hF : FrM M) : AM yX10_undo cX10_undo 1 (some .boolean) 1 39 glM (fun ad => [.ref (ad 0)]) M (PI (fun r _ => r = nI 0)) := by
  refine AM.of (by decide) (fun _ => Nat.le_of_ble_eq_true rfl) (fun X ad cI cZ cB hX hR => ?_)
  show V X M [(0, .ref (ad 0))] [] 0
  obtain ⟨hT, hn, hd, hP, hz, hk, hu⟩ := hF
  refine s_aload_n (k := 0) hX dX10_undo_0 rfl rfl ?_
  refine s_get hX fX10_415 oM0 rfl dX10_undo_1 ?_
  refine s_top (y := nI 0) (hk) ?_
  refine s_if_ne (tgt := 9) hX dX10_undo_4 (by decide) (fun c4 => ?_) (fun c4 => ?_)
  · first | exact absurd (by decide) c4 | exact absurd c4 (by decide)
  · refine s_iconst (v := (nI 0)) hX dX10_undo_7 (by decide) ?_
    exact s_zret hX hR dX10_undo_8 (by first | decide | assumption) rfl
set_option maxHeartbeats 4000000 in
theorem c_X10_check (n : Int32) (M : Mem) (hF : FrM M) : AM yX10_check cX10_check 3 (some .int) 1 39 glM (fun ad => [.ref (ad 0), .int n]) M (PI (fun r _ => r = if n.toInt = 0 then -1 else -2)) := by
  refine AM.of (by decide) (fun _ => Nat.le_of_ble_eq_true rfl) (fun X ad cI cZ cB hX hR => ?_)
  show V X M [(0, .ref (ad 0)), (1, .int n)] [] 0
  obtain ⟨hT, hn, hd, hP, hz, hk, hu⟩ := hF
  refine s_iload_n (k := 1) hX dX10_check_0 rfl rfl ?_
  refine s_iconst (v := (nI 0)) hX dX10_check_1 (by decide) ?_
  refine s_bipush (v := (nI 40)) hX dX10_check_2 (by decide) ?_
  refine s_callSi hX (c_X10_in n 0 40 M (by decide) (by decide)) mX10_in lX10_132 (by decide) (by decide) rfl rfl (Nat.le_of_ble_eq_true rfl) dX10_check_4 (fun r4 M_1 hp4 => ?_)
  obtain ⟨rfl, h2⟩ := hp4
  subst h2
  refine s_if_eq (tgt := 18) hX dX10_check_7 (by decide) (fun c7 => ?_) (fun c7 => ?_)
  · replace c7 := bI_eq c7
    refine s_bipush (v := (-2)) hX dX10_check_18 (by decide) ?_
    exact s_iret hX hR dX10_check_20 (by rw [if_neg (by omega)])
  · replace c7 := bI_ne c7
    refine s_iload_n (k := 1) hX dX10_check_10 rfl rfl ?_
    refine s_aload_n (k := 0) hX dX10_check_11 rfl rfl ?_
    refine s_get hX fX10_158 oM0 rfl dX10_check_12 ?_
    refine s_top (y := nI 0) (hz) ?_
    refine s_icmp_le (tgt := 21) hX dX10_check_15 (by decide) (fun c15 => ?_) (fun c15 => ?_)
    · replace c15 := (q_le (by omega)).mp c15
      obtain rfl : n = nI 0 := (q_eq (by decide)).mpr (by omega)
      refine s_aload_n (k := 0) hX dX10_check_21 rfl rfl ?_
      refine s_iconst (v := (nI 0)) hX dX10_check_22 (by decide) ?_
      refine s_puti (ty := .int) hX fX10_158 oM0 rfl (Nat.le_of_ble_eq_true rfl) ty_10_6 rfl rfl dX10_check_23 ?_
      refine s_mem (fun M_2 eM_2 => ?_)
      refine s_iconst (v := (nI 0)) hX dX10_check_26 (by decide) ?_
      refine s_istore_n (lv' := [(0, .ref (ad 0)), (1, .int (nI 0)), (2, .int (nI 0))]) hX dX10_check_27 rfl (by decide) rfl ?_
      refine s_iload_n (k := 2) hX dX10_check_28 rfl rfl ?_
      refine s_iload_n (k := 1) hX dX10_check_29 rfl rfl ?_
      refine s_icmp_ge (tgt := 72) hX dX10_check_30 (by decide) (fun c30 => ?_) (fun c30 => ?_)
      · refine s_iconst (v := (-1)) hX dX10_check_72 (by decide) ?_
        exact s_iret hX hR dX10_check_73 (by rw [if_pos (by decide)])
      · first | exact absurd (by decide) c30 | exact absurd c30 (by decide)
    · replace c15 := mt (q_le (by omega)).mpr c15
      refine s_bipush (v := (-2)) hX dX10_check_18 (by decide) ?_
      exact s_iret hX hR dX10_check_20 (by rw [if_neg (by omega)])
set_option maxHeartbeats 4000000 in
theorem c_X10_count (what : Int32) (M : Mem) (hF : FrM M) : AM yX10_count cX10_count 2 (some .int) 3 39 glM (fun ad => [.ref (ad 0), .int what]) M (PI (fun r _ => r = if what.toInt = 6 then 1 else if 0 ≤ what.toInt ∧ what.toInt ≤ 5 then nI 0 else -1)) := by
  refine AM.of (by decide) (fun _ => Nat.le_of_ble_eq_true rfl) (fun X ad cI cZ cB hX hR => ?_)
  show V X M [(0, .ref (ad 0)), (1, .int what)] [] 0
  obtain ⟨hT, hn, hd, hP, hz, hk, hu⟩ := hF
  refine s_iload_n (k := 1) hX dX10_count_0 rfl rfl ?_
  by_cases sw1 : what.toInt < 0 ∨ 6 < what.toInt
  · refine s_tabOut (tgt := 91) hX dX10_count_1 sw1 (by decide) ?_
    refine s_aload_n (k := 0) hX dX10_count_91 rfl rfl ?_
    refine s_iload_n (k := 1) hX dX10_count_92 rfl rfl ?_
    refine s_bipush (v := (nI 10)) hX dX10_count_93 (by decide) ?_
    refine s_isub hX dX10_count_95 ?_
    refine s_callVi hX (c_X10_isPerson (what - nI 10) M hP) mX10_isPerson lX10_334 (by decide) (by decide) oM0 rfl rfl rfl rfl rfl (Nat.le_of_ble_eq_true rfl) dX10_count_96 (fun r96 M_1 hp96 => ?_)
    obtain ⟨rfl, h2⟩ := hp96
    subst h2
    refine s_if_eq (tgt := 114) hX dX10_count_99 (by decide) (fun c99 => ?_) (fun c99 => ?_)
    · refine s_iconst (v := (-1)) hX dX10_count_114 (by decide) ?_
      exact s_iret hX hR dX10_count_115 (by rw [if_neg (by omega), if_neg (by omega)])
    · first | exact absurd (by decide) c99 | exact absurd c99 (by decide)
  · obtain ⟨tv, htv, rfl⟩ := ixi (x := what) (n := 7) (by omega) (by omega)
    have htw : tv = 0 ∨ tv = 1 ∨ tv = 2 ∨ tv = 3 ∨ tv = 4 ∨ tv = 5 ∨ tv = 6 := by omega
    rcases htw with rfl | rfl | rfl | rfl | rfl | rfl | rfl
    · refine s_tabIn (tgt := 44) (off := 43) hX dX10_count_1 (by decide) (by decide) (by decide) (by decide) ?_
      refine s_aload_n (k := 0) hX dX10_count_44 rfl rfl ?_
      refine s_get hX fX10_7 oM0 rfl dX10_count_45 ?_
      refine s_sipush (v := (nI 200)) hX dX10_count_48 (by decide) ?_
      refine s_ialdN hX aM1 (by omega) dX10_count_51 ?_
      exact s_iret hX hR dX10_count_52 (by rw [if_neg (by decide), if_pos (by decide)]; exact hn)
    · refine s_tabIn (tgt := 53) (off := 52) hX dX10_count_1 (by decide) (by decide) (by decide) (by decide) ?_
      refine s_aload_n (k := 0) hX dX10_count_53 rfl rfl ?_
      refine s_iconst (v := (nI 0)) hX dX10_count_54 (by decide) ?_
      refine s_callVi hX (c_X10_sumOf (nI 0) M hT) mX10_sumOf lX10_312 (by decide) (by decide) oM0 rfl rfl rfl rfl rfl (Nat.le_of_ble_eq_true rfl) dX10_count_55 (fun r55 M_2 hp55 => ?_)
      obtain ⟨rfl, h2⟩ := hp55
      subst h2
      exact s_iret hX hR dX10_count_58 (by rw [if_neg (by decide), if_pos (by decide)])
    · refine s_tabIn (tgt := 59) (off := 58) hX dX10_count_1 (by decide) (by decide) (by decide) (by decide) ?_
      refine s_aload_n (k := 0) hX dX10_count_59 rfl rfl ?_
      refine s_sipush (v := (nI 160)) hX dX10_count_60 (by decide) ?_
      refine s_callVi hX (c_X10_sumOf (nI 160) M hT) mX10_sumOf lX10_312 (by decide) (by decide) oM0 rfl rfl rfl rfl rfl (Nat.le_of_ble_eq_true rfl) dX10_count_63 (fun r63 M_3 hp63 => ?_)
      obtain ⟨rfl, h2⟩ := hp63
      subst h2
      exact s_iret hX hR dX10_count_66 (by rw [if_neg (by decide), if_pos (by decide)])
    · refine s_tabIn (tgt := 67) (off := 66) hX dX10_count_1 (by decide) (by decide) (by decide) (by decide) ?_
      refine s_aload_n (k := 0) hX dX10_count_67 rfl rfl ?_
      refine s_get hX fX10_136 oM0 rfl dX10_count_68 ?_
      exact s_iret hX hR dX10_count_71 (by rw [if_neg (by decide), if_pos (by decide)]; exact hP)
    · refine s_tabIn (tgt := 72) (off := 71) hX dX10_count_1 (by decide) (by decide) (by decide) (by decide) ?_
      refine s_aload_n (k := 0) hX dX10_count_72 rfl rfl ?_
      refine s_get hX fX10_258 oM0 rfl dX10_count_73 ?_
      exact s_iret hX hR dX10_count_76 (by rw [if_neg (by decide), if_pos (by decide)]; exact hu)
    · refine s_tabIn (tgt := 77) (off := 76) hX dX10_count_1 (by decide) (by decide) (by decide) (by decide) ?_
      refine s_aload_n (k := 0) hX dX10_count_77 rfl rfl ?_
      refine s_get hX fX10_158 oM0 rfl dX10_count_78 ?_
      exact s_iret hX hR dX10_count_81 (by rw [if_neg (by decide), if_pos (by decide)]; exact hz)
    · refine s_tabIn (tgt := 82) (off := 81) hX dX10_count_1 (by decide) (by decide) (by decide) (by decide) ?_
      refine s_aload_n (k := 0) hX dX10_count_82 rfl rfl ?_
      refine s_get hX fX10_7 oM0 rfl dX10_count_83 ?_
      refine s_sipush (v := (nI 201)) hX dX10_count_86 (by decide) ?_
      refine s_ialdN hX aM1 (by omega) dX10_count_89 ?_
      exact s_iret hX hR dX10_count_90 (by rw [if_pos (by decide)]; exact hd)
