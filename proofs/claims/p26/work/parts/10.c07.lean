theorem zcdX8_islandSize_0 : decode cX8_islandSize 0 = .ok (.aload_n 1, 1) ∧ decode cX8_islandSize 1 = .ok (.iload_n 3, 1) ∧ decode cX8_islandSize 2 = .ok (.invokevirtual 104, 3) ∧ decode cX8_islandSize 5 = .ok (.ifCond .eq 19, 3) ∧ decode cX8_islandSize 8 = .ok (.aload_n 0, 1) ∧ decode cX8_islandSize 9 = .ok (.aload_n 1, 1) ∧ decode cX8_islandSize 10 = .ok (.iload_n 2, 1) ∧ decode cX8_islandSize 11 = .ok (.iload_n 3, 1) := by decide +kernel
theorem zcdX8_islandSize_12 : decode cX8_islandSize 12 = .ok (.aload_n 0, 1) ∧ decode cX8_islandSize 13 = .ok (.getfield 9, 3) ∧ decode cX8_islandSize 16 = .ok (.bipush 40, 2) ∧ decode cX8_islandSize 18 = .ok (.invokevirtual 47, 3) ∧ decode cX8_islandSize 21 = .ok (.goto 4, 3) ∧ decode cX8_islandSize 24 = .ok (.iconst 0, 1) ∧ decode cX8_islandSize 25 = .ok (.ireturn, 1) ∧ decode cX8_meeting 0 = .ok (.aload_n 0, 1) := by decide +kernel
theorem zcdX8_meeting_1 : decode cX8_meeting 1 = .ok (.aload_n 1, 1) ∧ decode cX8_meeting 2 = .ok (.iload_n 2, 1) ∧ decode cX8_meeting 3 = .ok (.bipush 40, 2) ∧ decode cX8_meeting 5 = .ok (.aload_n 0, 1) ∧ decode cX8_meeting 6 = .ok (.getfield 9, 3) ∧ decode cX8_meeting 9 = .ok (.bipush 42, 2) ∧ decode cX8_meeting 11 = .ok (.invokevirtual 47, 3) ∧ decode cX8_meeting 14 = .ok (.pop, 1) := by decide +kernel
theorem zcdX8_meeting_15 : decode cX8_meeting 15 = .ok (.aload_n 0, 1) ∧ decode cX8_meeting 16 = .ok (.aload_n 1, 1) ∧ decode cX8_meeting 17 = .ok (.iload_n 3, 1) ∧ decode cX8_meeting 18 = .ok (.bipush 41, 2) ∧ decode cX8_meeting 20 = .ok (.aload_n 0, 1) ∧ decode cX8_meeting 21 = .ok (.getfield 15, 3) ∧ decode cX8_meeting 24 = .ok (.bipush 42, 2) ∧ decode cX8_meeting 26 = .ok (.invokevirtual 47, 3) := by decide +kernel
theorem zcdX8_meeting_29 : decode cX8_meeting 29 = .ok (.pop, 1) ∧ decode cX8_meeting 30 = .ok (.bipush (-2), 2) ∧ decode cX8_meeting 32 = .ok (.istore 5, 2) ∧ decode cX8_meeting 34 = .ok (.bipush (-2), 2) ∧ decode cX8_meeting 36 = .ok (.istore 6, 2) ∧ decode cX8_meeting 38 = .ok (.iconst 0, 1) ∧ decode cX8_meeting 39 = .ok (.istore 7, 2) ∧ decode cX8_meeting 41 = .ok (.iload 7, 2) := by decide +kernel
theorem zcdX8_meeting_43 : decode cX8_meeting 43 = .ok (.bipush 40, 2) ∧ decode cX8_meeting 45 = .ok (.if_icmp .ge 72, 3) ∧ decode cX8_meeting 48 = .ok (.aload_n 0, 1) ∧ decode cX8_meeting 49 = .ok (.getfield 9, 3) ∧ decode cX8_meeting 52 = .ok (.iload 7, 2) ∧ decode cX8_meeting 54 = .ok (.iaload, 1) ∧ decode cX8_meeting 55 = .ok (.iconst (-1), 1) ∧ decode cX8_meeting 56 = .ok (.if_icmp .eq 55, 3) := by decide +kernel
theorem zcdX8_meeting_59 : decode cX8_meeting 59 = .ok (.aload_n 0, 1) ∧ decode cX8_meeting 60 = .ok (.getfield 15, 3) ∧ decode cX8_meeting 63 = .ok (.iload 7, 2) ∧ decode cX8_meeting 65 = .ok (.iaload, 1) ∧ decode cX8_meeting 66 = .ok (.iconst (-1), 1) ∧ decode cX8_meeting 67 = .ok (.if_icmp .eq 44, 3) ∧ decode cX8_meeting 70 = .ok (.aload_n 0, 1) ∧ decode cX8_meeting 71 = .ok (.getfield 9, 3) := by decide +kernel
theorem zcdX8_meeting_74 : decode cX8_meeting 74 = .ok (.iload 7, 2) ∧ decode cX8_meeting 76 = .ok (.iaload, 1) ∧ decode cX8_meeting 77 = .ok (.aload_n 0, 1) ∧ decode cX8_meeting 78 = .ok (.getfield 15, 3) ∧ decode cX8_meeting 81 = .ok (.iload 7, 2) ∧ decode cX8_meeting 83 = .ok (.iaload, 1) ∧ decode cX8_meeting 84 = .ok (.invokestatic 86, 3) ∧ decode cX8_meeting 87 = .ok (.istore 8, 2) := by decide +kernel
theorem zcdX8_meeting_89 : decode cX8_meeting 89 = .ok (.iload 6, 2) ∧ decode cX8_meeting 91 = .ok (.bipush (-2), 2) ∧ decode cX8_meeting 93 = .ok (.if_icmp .eq 10, 3) ∧ decode cX8_meeting 96 = .ok (.iload 8, 2) ∧ decode cX8_meeting 98 = .ok (.iload 5, 2) ∧ decode cX8_meeting 100 = .ok (.if_icmp .ge 11, 3) ∧ decode cX8_meeting 103 = .ok (.iload 8, 2) ∧ decode cX8_meeting 105 = .ok (.istore 5, 2) := by decide +kernel
theorem zcdX8_meeting_107 : decode cX8_meeting 107 = .ok (.iload 7, 2) ∧ decode cX8_meeting 109 = .ok (.istore 6, 2) ∧ decode cX8_meeting 111 = .ok (.iinc 7 1, 3) ∧ decode cX8_meeting 114 = .ok (.goto (-73), 3) ∧ decode cX8_meeting 117 = .ok (.iload 4, 2) ∧ decode cX8_meeting 119 = .ok (.ifCond .ne 8, 3) ∧ decode cX8_meeting 122 = .ok (.iload 5, 2) ∧ decode cX8_meeting 124 = .ok (.goto 5, 3) := by decide +kernel
theorem zcdX8_meeting_127 : decode cX8_meeting 127 = .ok (.iload 6, 2) ∧ decode cX8_meeting 129 = .ok (.ireturn, 1) ∧ decode cX8_needs 0 = .ok (.aload_n 1, 1) ∧ decode cX8_needs 1 = .ok (.iload_n 3, 1) ∧ decode cX8_needs 2 = .ok (.invokevirtual 104, 3) ∧ decode cX8_needs 5 = .ok (.ifCond .ne 5, 3) ∧ decode cX8_needs 8 = .ok (.iconst 0, 1) ∧ decode cX8_needs 9 = .ok (.ireturn, 1) := by decide +kernel
theorem zcdX8_needs_10 : decode cX8_needs 10 = .ok (.aload_n 1, 1) ∧ decode cX8_needs 11 = .ok (.getfield 108, 3) ∧ decode cX8_needs 14 = .ok (.iload_n 3, 1) ∧ decode cX8_needs 15 = .ok (.iconst 1, 1) ∧ decode cX8_needs 16 = .ok (.bastore, 1) ∧ decode cX8_needs 17 = .ok (.aload_n 0, 1) ∧ decode cX8_needs 18 = .ok (.aload_n 1, 1) ∧ decode cX8_needs 19 = .ok (.iload_n 2, 1) := by decide +kernel
theorem zcdX8_needs_20 : decode cX8_needs 20 = .ok (.invokevirtual 89, 3) ∧ decode cX8_needs 23 = .ok (.ifCond .ne 7, 3) ∧ decode cX8_needs 26 = .ok (.iconst 1, 1) ∧ decode cX8_needs 27 = .ok (.goto 4, 3) ∧ decode cX8_needs 30 = .ok (.iconst 0, 1) ∧ decode cX8_needs 31 = .ok (.istore 4, 2) ∧ decode cX8_needs 33 = .ok (.aload_n 1, 1) ∧ decode cX8_needs 34 = .ok (.getfield 108, 3) := by decide +kernel
theorem zcdX8_needs_37 : decode cX8_needs 37 = .ok (.iload_n 3, 1) ∧ decode cX8_needs 38 = .ok (.iconst 0, 1) ∧ decode cX8_needs 39 = .ok (.bastore, 1) ∧ decode cX8_needs 40 = .ok (.iload 4, 2) ∧ decode cX8_needs 42 = .ok (.ireturn, 1) ∧ decode cX9_isPlace 0 = .ok (.iload_n 0, 1) ∧ decode cX9_isPlace 1 = .ok (.ifCond .lt 24, 3) ∧ decode cX9_isPlace 4 = .ok (.iload_n 0, 1) := by decide +kernel
theorem zcdX9_isPlace_5 : decode cX9_isPlace 5 = .ok (.bipush 39, 2) ∧ decode cX9_isPlace 7 = .ok (.if_icmp .gt 18, 3) ∧ decode cX9_isPlace 10 = .ok (.iload_n 1, 1) ∧ decode cX9_isPlace 11 = .ok (.iconst 1, 1) ∧ decode cX9_isPlace 12 = .ok (.if_icmp .lt 13, 3) ∧ decode cX9_isPlace 15 = .ok (.iload_n 1, 1) ∧ decode cX9_isPlace 16 = .ok (.bipush 20, 2) ∧ decode cX9_isPlace 18 = .ok (.if_icmp .gt 7, 3) := by decide +kernel
theorem zcdX9_isPlace_21 : decode cX9_isPlace 21 = .ok (.iconst 1, 1) ∧ decode cX9_isPlace 22 = .ok (.goto 4, 3) ∧ decode cX9_isPlace 25 = .ok (.iconst 0, 1) ∧ decode cX9_isPlace 26 = .ok (.ireturn, 1) ∧ decode cX9_at 0 = .ok (.iload_n 1, 1) ∧ decode cX9_at 1 = .ok (.iload_n 2, 1) ∧ decode cX9_at 2 = .ok (.invokestatic 86, 3) ∧ decode cX9_at 5 = .ok (.ifCond .ne 5, 3) := by decide +kernel
theorem zcdX9_at_8 : decode cX9_at 8 = .ok (.iconst (-1), 1) ∧ decode cX9_at 9 = .ok (.ireturn, 1) ∧ decode cX9_at 10 = .ok (.aload_n 0, 1) ∧ decode cX9_at 11 = .ok (.getfield 10, 3) ∧ decode cX9_at 14 = .ok (.iload_n 1, 1) ∧ decode cX9_at 15 = .ok (.iload_n 2, 1) ∧ decode cX9_at 16 = .ok (.invokevirtual 90, 3) ∧ decode cX9_at 19 = .ok (.istore_n 3, 1) := by decide +kernel
theorem zcdX9_at_20 : decode cX9_at 20 = .ok (.iload_n 3, 1) ∧ decode cX9_at 21 = .ok (.iconst (-1), 1) ∧ decode cX9_at 22 = .ok (.if_icmp .ne 8, 3) ∧ decode cX9_at 25 = .ok (.bipush (-2), 2) ∧ decode cX9_at 27 = .ok (.goto 4, 3) ∧ decode cX9_at 30 = .ok (.iload_n 3, 1) ∧ decode cX9_at 31 = .ok (.ireturn, 1) ∧ decode cX9_chalk 0 = .ok (.iload_n 1, 1) := by decide +kernel
theorem zcdX9_chalk_1 : decode cX9_chalk 1 = .ok (.iconst 1, 1) ∧ decode cX9_chalk 2 = .ok (.if_icmp .lt 25, 3) ∧ decode cX9_chalk 5 = .ok (.iload_n 1, 1) ∧ decode cX9_chalk 6 = .ok (.bipush 7, 2) ∧ decode cX9_chalk 8 = .ok (.if_icmp .gt 19, 3) ∧ decode cX9_chalk 11 = .ok (.aload_n 0, 1) ∧ decode cX9_chalk 12 = .ok (.getfield 25, 3) ∧ decode cX9_chalk 15 = .ok (.iconst 2, 1) := by decide +kernel
theorem zcdX9_chalk_16 : decode cX9_chalk 16 = .ok (.iload_n 1, 1) ∧ decode cX9_chalk 17 = .ok (.imul, 1) ∧ decode cX9_chalk 18 = .ok (.iconst 2, 1) ∧ decode cX9_chalk 19 = .ok (.bipush 14, 2) ∧ decode cX9_chalk 21 = .ok (.invokevirtual 119, 3) ∧ decode cX9_chalk 24 = .ok (.ifCond .ne 5, 3) ∧ decode cX9_chalk 27 = .ok (.iconst (-1), 1) ∧ decode cX9_chalk 28 = .ok (.ireturn, 1) := by decide +kernel
theorem zcdX9_chalk_29 : decode cX9_chalk 29 = .ok (.iload_n 2, 1) ∧ decode cX9_chalk 30 = .ok (.bipush 100, 2) ∧ decode cX9_chalk 32 = .ok (.if_icmp .eq 14, 3) ∧ decode cX9_chalk 35 = .ok (.iload_n 2, 1) ∧ decode cX9_chalk 36 = .ok (.ifCond .lt 8, 3) ∧ decode cX9_chalk 39 = .ok (.iload_n 2, 1) ∧ decode cX9_chalk 40 = .ok (.iload_n 1, 1) ∧ decode cX9_chalk 41 = .ok (.if_icmp .lt 5, 3) := by decide +kernel
theorem zcdX9_chalk_44 : decode cX9_chalk 44 = .ok (.iconst (-1), 1) ∧ decode cX9_chalk 45 = .ok (.ireturn, 1) ∧ decode cX9_chalk 46 = .ok (.aload_n 0, 1) ∧ decode cX9_chalk 47 = .ok (.getfield 25, 3) ∧ decode cX9_chalk 50 = .ok (.iconst 2, 1) ∧ decode cX9_chalk 51 = .ok (.iload_n 1, 1) ∧ decode cX9_chalk 52 = .ok (.imul, 1) ∧ decode cX9_chalk 53 = .ok (.invokevirtual 123, 3) := by decide +kernel
theorem zcdX9_chalk_56 : decode cX9_chalk 56 = .ok (.aload_n 0, 1) ∧ decode cX9_chalk 57 = .ok (.getfield 10, 3) ∧ decode cX9_chalk 60 = .ok (.invokevirtual 234, 3) ∧ decode cX9_chalk 63 = .ok (.iload_n 1, 1) ∧ decode cX9_chalk 64 = .ok (.if_icmp .ge 6, 3) ∧ decode cX9_chalk 67 = .ok (.bipush (-2), 2) ∧ decode cX9_chalk 69 = .ok (.ireturn, 1) ∧ decode cX9_chalk 70 = .ok (.aload_n 0, 1) := by decide +kernel
theorem zcdX9_chalk_71 : decode cX9_chalk 71 = .ok (.getfield 60, 3) ∧ decode cX9_chalk 74 = .ok (.aload_n 0, 1) ∧ decode cX9_chalk 75 = .ok (.getfield 25, 3) ∧ decode cX9_chalk 78 = .ok (.iload_n 1, 1) ∧ decode cX9_chalk 79 = .ok (.invokevirtual 237, 3) ∧ decode cX9_chalk 82 = .ok (.ifCond .ne 6, 3) ∧ decode cX9_chalk 85 = .ok (.bipush (-3), 2) ∧ decode cX9_chalk 87 = .ok (.ireturn, 1) := by decide +kernel
theorem zcdX9_chalk_88 : decode cX9_chalk 88 = .ok (.aload_n 0, 1) ∧ decode cX9_chalk 89 = .ok (.getfield 60, 3) ∧ decode cX9_chalk 92 = .ok (.aload_n 0, 1) ∧ decode cX9_chalk 93 = .ok (.getfield 10, 3) ∧ decode cX9_chalk 96 = .ok (.iload_n 1, 1) ∧ decode cX9_chalk 97 = .ok (.invokevirtual 240, 3) ∧ decode cX9_chalk 100 = .ok (.iload_n 2, 1) ∧ decode cX9_chalk 101 = .ok (.bipush 100, 2) := by decide +kernel
theorem zcdX9_chalk_103 : decode cX9_chalk 103 = .ok (.if_icmp .ne 13, 3) ∧ decode cX9_chalk 106 = .ok (.aload_n 0, 1) ∧ decode cX9_chalk 107 = .ok (.getfield 60, 3) ∧ decode cX9_chalk 110 = .ok (.invokevirtual 244, 3) ∧ decode cX9_chalk 113 = .ok (.goto 12, 3) ∧ decode cX9_chalk 116 = .ok (.aload_n 0, 1) ∧ decode cX9_chalk 117 = .ok (.getfield 60, 3) ∧ decode cX9_chalk 120 = .ok (.iload_n 1, 1) := by decide +kernel
theorem zcdX9_chalk_121 : decode cX9_chalk 121 = .ok (.iload_n 2, 1) ∧ decode cX9_chalk 122 = .ok (.invokevirtual 247, 3) ∧ decode cX9_chalk 125 = .ok (.ireturn, 1) ∧ decode cX9_check 0 = .ok (.aload_n 0, 1) ∧ decode cX9_check 1 = .ok (.getfield 25, 3) ∧ decode cX9_check 4 = .ok (.iload_n 1, 1) ∧ decode cX9_check 5 = .ok (.iconst 0, 1) ∧ decode cX9_check 6 = .ok (.bipush 40, 2) := by decide +kernel
theorem zcdX9_check_8 : decode cX9_check 8 = .ok (.invokevirtual 119, 3) ∧ decode cX9_check 11 = .ok (.ifCond .ne 6, 3) ∧ decode cX9_check 14 = .ok (.bipush (-2), 2) ∧ decode cX9_check 16 = .ok (.ireturn, 1) ∧ decode cX9_check 17 = .ok (.aload_n 0, 1) ∧ decode cX9_check 18 = .ok (.getfield 25, 3) ∧ decode cX9_check 21 = .ok (.iload_n 1, 1) ∧ decode cX9_check 22 = .ok (.invokevirtual 123, 3) := by decide +kernel
theorem zcdX9_check_25 : decode cX9_check 25 = .ok (.iconst 0, 1) ∧ decode cX9_check 26 = .ok (.istore_n 2, 1) ∧ decode cX9_check 27 = .ok (.iload_n 2, 1) ∧ decode cX9_check 28 = .ok (.iload_n 1, 1) ∧ decode cX9_check 29 = .ok (.if_icmp .ge 50, 3) ∧ decode cX9_check 32 = .ok (.aload_n 0, 1) ∧ decode cX9_check 33 = .ok (.getfield 10, 3) ∧ decode cX9_check 36 = .ok (.iload_n 2, 1) := by decide +kernel
theorem zcdX9_check_37 : decode cX9_check 37 = .ok (.invokevirtual 98, 3) ∧ decode cX9_check 40 = .ok (.ifCond .eq 15, 3) ∧ decode cX9_check 43 = .ok (.aload_n 0, 1) ∧ decode cX9_check 44 = .ok (.getfield 10, 3) ∧ decode cX9_check 47 = .ok (.getfield 152, 3) ∧ decode cX9_check 50 = .ok (.iload_n 2, 1) ∧ decode cX9_check 51 = .ok (.iaload, 1) ∧ decode cX9_check 52 = .ok (.goto 6, 3) := by decide +kernel
theorem zcdX9_check_55 : decode cX9_check 55 = .ok (.sipush 255, 3) ∧ decode cX9_check 58 = .ok (.istore_n 3, 1) ∧ decode cX9_check 59 = .ok (.aload_n 0, 1) ∧ decode cX9_check 60 = .ok (.getfield 25, 3) ∧ decode cX9_check 63 = .ok (.iload_n 2, 1) ∧ decode cX9_check 64 = .ok (.invokevirtual 265, 3) ∧ decode cX9_check 67 = .ok (.iload_n 3, 1) ∧ decode cX9_check 68 = .ok (.if_icmp .eq 5, 3) := by decide +kernel
theorem zcdX9_check_71 : decode cX9_check 71 = .ok (.iload_n 2, 1) ∧ decode cX9_check 72 = .ok (.ireturn, 1) ∧ decode cX9_check 73 = .ok (.iinc 2 1, 3) ∧ decode cX9_check 76 = .ok (.goto (-49), 3) ∧ decode cX9_check 79 = .ok (.iconst (-1), 1) ∧ decode cX9_check 80 = .ok (.ireturn, 1) ∧ decode cX9_toldPeople 0 = .ok (.iconst 0, 1) ∧ decode cX9_toldPeople 1 = .ok (.istore_n 1, 1) := by decide +kernel
theorem zcdX9_toldPeople_2 : decode cX9_toldPeople 2 = .ok (.iconst 0, 1) ∧ decode cX9_toldPeople 3 = .ok (.istore_n 2, 1) ∧ decode cX9_toldPeople 4 = .ok (.iload_n 2, 1) ∧ decode cX9_toldPeople 5 = .ok (.bipush 8, 2) ∧ decode cX9_toldPeople 7 = .ok (.if_icmp .ge 24, 3) ∧ decode cX9_toldPeople 10 = .ok (.aload_n 0, 1) ∧ decode cX9_toldPeople 11 = .ok (.getfield 64, 3) ∧ decode cX9_toldPeople 14 = .ok (.iload_n 2, 1) := by decide +kernel
theorem zcdX9_toldPeople_15 : decode cX9_toldPeople 15 = .ok (.iaload, 1) ∧ decode cX9_toldPeople 16 = .ok (.ifCond .eq 9, 3) ∧ decode cX9_toldPeople 19 = .ok (.iload_n 1, 1) ∧ decode cX9_toldPeople 20 = .ok (.iconst 1, 1) ∧ decode cX9_toldPeople 21 = .ok (.iload_n 2, 1) ∧ decode cX9_toldPeople 22 = .ok (.ishl, 1) ∧ decode cX9_toldPeople 23 = .ok (.ior, 1) ∧ decode cX9_toldPeople 24 = .ok (.istore_n 1, 1) := by decide +kernel
theorem zcdX9_toldPeople_25 : decode cX9_toldPeople 25 = .ok (.iinc 2 1, 3) ∧ decode cX9_toldPeople 28 = .ok (.goto (-24), 3) ∧ decode cX9_toldPeople 31 = .ok (.iload_n 1, 1) ∧ decode cX9_toldPeople 32 = .ok (.ireturn, 1) ∧ decode cX9_strideOf 0 = .ok (.iload_n 1, 1) ∧ decode cX9_strideOf 1 = .ok (.ifCond .lt 18, 3) ∧ decode cX9_strideOf 4 = .ok (.iload_n 1, 1) ∧ decode cX9_strideOf 5 = .ok (.bipush 8, 2) := by decide +kernel
theorem zcdX9_strideOf_7 : decode cX9_strideOf 7 = .ok (.if_icmp .ge 12, 3) ∧ decode cX9_strideOf 10 = .ok (.aload_n 0, 1) ∧ decode cX9_strideOf 11 = .ok (.getfield 64, 3) ∧ decode cX9_strideOf 14 = .ok (.iload_n 1, 1) ∧ decode cX9_strideOf 15 = .ok (.iaload, 1) ∧ decode cX9_strideOf 16 = .ok (.goto 4, 3) ∧ decode cX9_strideOf 19 = .ok (.iconst 0, 1) ∧ decode cX9_strideOf 20 = .ok (.ireturn, 1) := by decide +kernel
theorem zcdX9_count_0 : decode cX9_count 0 = .ok (.iload_n 1, 1) ∧ decode cX9_count 1 = .ok (.tableswitch 96 0 6 #[43, 51, 59, 67, 72, 80, 88], 43) ∧ decode cX9_count 44 = .ok (.aload_n 0, 1) ∧ decode cX9_count 45 = .ok (.getfield 10, 3) ∧ decode cX9_count 48 = .ok (.getfield 285, 3) ∧ decode cX9_count 51 = .ok (.ireturn, 1) ∧ decode cX9_count 52 = .ok (.aload_n 0, 1) ∧ decode cX9_count 53 = .ok (.getfield 10, 3) := by decide +kernel
theorem zcdX9_count_56 : decode cX9_count 56 = .ok (.invokevirtual 234, 3) ∧ decode cX9_count 59 = .ok (.ireturn, 1) ∧ decode cX9_count 60 = .ok (.aload_n 0, 1) ∧ decode cX9_count 61 = .ok (.getfield 10, 3) ∧ decode cX9_count 64 = .ok (.invokevirtual 161, 3) ∧ decode cX9_count 67 = .ok (.ireturn, 1) ∧ decode cX9_count 68 = .ok (.aload_n 0, 1) ∧ decode cX9_count 69 = .ok (.invokevirtual 288, 3) := by decide +kernel
theorem zcdX9_count_72 : decode cX9_count 72 = .ok (.ireturn, 1) ∧ decode cX9_count 73 = .ok (.aload_n 0, 1) ∧ decode cX9_count 74 = .ok (.getfield 71, 3) ∧ decode cX9_count 77 = .ok (.getfield 291, 3) ∧ decode cX9_count 80 = .ok (.ireturn, 1) ∧ decode cX9_count 81 = .ok (.aload_n 0, 1) ∧ decode cX9_count 82 = .ok (.getfield 25, 3) ∧ decode cX9_count 85 = .ok (.getfield 111, 3) := by decide +kernel
theorem zcdX9_count_88 : decode cX9_count 88 = .ok (.ireturn, 1) ∧ decode cX9_count 89 = .ok (.aload_n 0, 1) ∧ decode cX9_count 90 = .ok (.getfield 10, 3) ∧ decode cX9_count 93 = .ok (.getfield 282, 3) ∧ decode cX9_count 96 = .ok (.ireturn, 1) ∧ decode cX9_count 97 = .ok (.iload_n 1, 1) ∧ decode cX9_count 98 = .ok (.bipush 10, 2) ∧ decode cX9_count 100 = .ok (.if_icmp .lt 25, 3) := by decide +kernel
theorem zcdX9_count_103 : decode cX9_count 103 = .ok (.aload_n 0, 1) ∧ decode cX9_count 104 = .ok (.iload_n 1, 1) ∧ decode cX9_count 105 = .ok (.bipush 10, 2) ∧ decode cX9_count 107 = .ok (.isub, 1) ∧ decode cX9_count 108 = .ok (.invokevirtual 175, 3) ∧ decode cX9_count 111 = .ok (.ifCond .eq 14, 3) ∧ decode cX9_count 114 = .ok (.aload_n 0, 1) ∧ decode cX9_count 115 = .ok (.iload_n 1, 1) := by decide +kernel
theorem zcdX9_count_116 : decode cX9_count 116 = .ok (.bipush 10, 2) ∧ decode cX9_count 118 = .ok (.isub, 1) ∧ decode cX9_count 119 = .ok (.invokevirtual 175, 3) ∧ decode cX9_count 122 = .ok (.goto 4, 3) ∧ decode cX9_count 125 = .ok (.iconst (-1), 1) ∧ decode cX9_count 126 = .ok (.ireturn, 1) ∧ decode cX9_isStone 0 = .ok (.iload_n 0, 1) ∧ decode cX9_isStone 1 = .ok (.ifCond .lt 13, 3) := by decide +kernel
theorem zcdX9_isStone_4 : decode cX9_isStone 4 = .ok (.iload_n 0, 1) ∧ decode cX9_isStone 5 = .ok (.bipush 40, 2) ∧ decode cX9_isStone 7 = .ok (.if_icmp .ge 7, 3) ∧ decode cX9_isStone 10 = .ok (.iconst 1, 1) ∧ decode cX9_isStone 11 = .ok (.goto 4, 3) ∧ decode cX9_isStone 14 = .ok (.iconst 0, 1) ∧ decode cX9_isStone 15 = .ok (.ireturn, 1) ∧ decode cX9_cross 0 = .ok (.aload_n 0, 1) := by decide +kernel
theorem zcdX9_cross_1 : decode cX9_cross 1 = .ok (.iload_n 1, 1) ∧ decode cX9_cross 2 = .ok (.invokevirtual 175, 3) ∧ decode cX9_cross 5 = .ok (.istore_n 3, 1) ∧ decode cX9_cross 6 = .ok (.iload_n 3, 1) ∧ decode cX9_cross 7 = .ok (.ifCond .eq 22, 3) ∧ decode cX9_cross 10 = .ok (.iload_n 2, 1) ∧ decode cX9_cross 11 = .ok (.invokestatic 82, 3) ∧ decode cX9_cross 14 = .ok (.ifCond .ne 17, 3) := by decide +kernel
theorem zcdX9_cross_17 : decode cX9_cross 17 = .ok (.iload_n 2, 1) ∧ decode cX9_cross 18 = .ok (.bipush 100, 2) ∧ decode cX9_cross 20 = .ok (.if_icmp .eq 11, 3) ∧ decode cX9_cross 23 = .ok (.iload_n 2, 1) ∧ decode cX9_cross 24 = .ok (.bipush 101, 2) ∧ decode cX9_cross 26 = .ok (.if_icmp .eq 5, 3) ∧ decode cX9_cross 29 = .ok (.iconst (-1), 1) ∧ decode cX9_cross 30 = .ok (.ireturn, 1) := by decide +kernel
theorem zcdX9_cross_31 : decode cX9_cross 31 = .ok (.aload_n 0, 1) ∧ decode cX9_cross 32 = .ok (.getfield 39, 3) ∧ decode cX9_cross 35 = .ok (.aload_n 0, 1) ∧ decode cX9_cross 36 = .ok (.getfield 10, 3) ∧ decode cX9_cross 39 = .ok (.iload_n 3, 1) ∧ decode cX9_cross 40 = .ok (.iload_n 2, 1) ∧ decode cX9_cross 41 = .ok (.invokevirtual 178, 3) ∧ decode cX9_cross 44 = .ok (.ireturn, 1) := by decide +kernel
theorem zcdX9_isEither_0 : decode cX9_isEither 0 = .ok (.iload_n 0, 1) ∧ decode cX9_isEither 1 = .ok (.ifCond .eq 8, 3) ∧ decode cX9_isEither 4 = .ok (.iload_n 0, 1) ∧ decode cX9_isEither 5 = .ok (.iconst 1, 1) ∧ decode cX9_isEither 6 = .ok (.if_icmp .ne 7, 3) ∧ decode cX9_isEither 9 = .ok (.iconst 1, 1) ∧ decode cX9_isEither 10 = .ok (.goto 4, 3) ∧ decode cX9_isEither 13 = .ok (.iconst 0, 1) := by decide +kernel
theorem zcdX9_isEither_14 : decode cX9_isEither 14 = .ok (.ireturn, 1) ∧ decode cX9_driest 0 = .ok (.aload_n 0, 1) ∧ decode cX9_driest 1 = .ok (.iload_n 1, 1) ∧ decode cX9_driest 2 = .ok (.invokevirtual 175, 3) ∧ decode cX9_driest 5 = .ok (.istore_n 3, 1) ∧ decode cX9_driest 6 = .ok (.iload_n 3, 1) ∧ decode cX9_driest 7 = .ok (.ifCond .eq 10, 3) ∧ decode cX9_driest 10 = .ok (.iload_n 2, 1) := by decide +kernel
theorem zcdX9_driest_11 : decode cX9_driest 11 = .ok (.invokestatic 182, 3) ∧ decode cX9_driest 14 = .ok (.ifCond .ne 5, 3) ∧ decode cX9_driest 17 = .ok (.iconst (-1), 1) ∧ decode cX9_driest 18 = .ok (.ireturn, 1) ∧ decode cX9_driest 19 = .ok (.aload_n 0, 1) ∧ decode cX9_driest 20 = .ok (.getfield 39, 3) ∧ decode cX9_driest 23 = .ok (.aload_n 0, 1) ∧ decode cX9_driest 24 = .ok (.getfield 10, 3) := by decide +kernel
theorem zcdX9_driest_27 : decode cX9_driest 27 = .ok (.iload_n 3, 1) ∧ decode cX9_driest 28 = .ok (.iload_n 2, 1) ∧ decode cX9_driest 29 = .ok (.invokevirtual 185, 3) ∧ decode cX9_driest 32 = .ok (.ireturn, 1) ∧ decode cX9_unlike 0 = .ok (.iconst 0, 1) ∧ decode cX9_unlike 1 = .ok (.istore_n 3, 1) ∧ decode cX9_unlike 2 = .ok (.iconst 0, 1) ∧ decode cX9_unlike 3 = .ok (.istore 4, 2) := by decide +kernel
theorem zcdX9_unlike_5 : decode cX9_unlike 5 = .ok (.iload 4, 2) ∧ decode cX9_unlike 7 = .ok (.iload_n 2, 1) ∧ decode cX9_unlike 8 = .ok (.if_icmp .ge 43, 3) ∧ decode cX9_unlike 11 = .ok (.iload_n 3, 1) ∧ decode cX9_unlike 12 = .ok (.iload_n 1, 1) ∧ decode cX9_unlike 13 = .ok (.iload 4, 2) ∧ decode cX9_unlike 15 = .ok (.ishr, 1) ∧ decode cX9_unlike 16 = .ok (.iconst 1, 1) := by decide +kernel
theorem zcdX9_unlike_17 : decode cX9_unlike 17 = .ok (.iand, 1) ∧ decode cX9_unlike 18 = .ok (.ifCond .eq 15, 3) ∧ decode cX9_unlike 21 = .ok (.aload_n 0, 1) ∧ decode cX9_unlike 22 = .ok (.getfield 25, 3) ∧ decode cX9_unlike 25 = .ok (.iload 4, 2) ∧ decode cX9_unlike 27 = .ok (.invokevirtual 265, 3) ∧ decode cX9_unlike 30 = .ok (.goto 13, 3) ∧ decode cX9_unlike 33 = .ok (.aload_n 0, 1) := by decide +kernel
theorem zcdX9_unlike_34 : decode cX9_unlike 34 = .ok (.getfield 25, 3) ∧ decode cX9_unlike 37 = .ok (.iload 4, 2) ∧ decode cX9_unlike 39 = .ok (.invokevirtual 265, 3) ∧ decode cX9_unlike 42 = .ok (.ineg, 1) ∧ decode cX9_unlike 43 = .ok (.iadd, 1) ∧ decode cX9_unlike 44 = .ok (.istore_n 3, 1) ∧ decode cX9_unlike 45 = .ok (.iinc 4 1, 3) ∧ decode cX9_unlike 48 = .ok (.goto (-43), 3) := by decide +kernel
theorem zcdX9_unlike_51 : decode cX9_unlike 51 = .ok (.iload_n 3, 1) ∧ decode cX9_unlike 52 = .ok (.invokestatic 319, 3) ∧ decode cX9_unlike 55 = .ok (.ireturn, 1) ∧ decode cX9_evenBag 0 = .ok (.iconst 1, 1) ∧ decode cX9_evenBag 1 = .ok (.istore_n 2, 1) ∧ decode cX9_evenBag 2 = .ok (.iconst 1, 1) ∧ decode cX9_evenBag 3 = .ok (.istore_n 3, 1) ∧ decode cX9_evenBag 4 = .ok (.iload_n 3, 1) := by decide +kernel
theorem zcdX9_evenBag_5 : decode cX9_evenBag 5 = .ok (.iconst 1, 1) ∧ decode cX9_evenBag 6 = .ok (.iload_n 1, 1) ∧ decode cX9_evenBag 7 = .ok (.ishl, 1) ∧ decode cX9_evenBag 8 = .ok (.if_icmp .ge 26, 3) ∧ decode cX9_evenBag 11 = .ok (.aload_n 0, 1) ∧ decode cX9_evenBag 12 = .ok (.iload_n 3, 1) ∧ decode cX9_evenBag 13 = .ok (.iload_n 1, 1) ∧ decode cX9_evenBag 14 = .ok (.invokevirtual 271, 3) := by decide +kernel
theorem zcdX9_evenBag_17 : decode cX9_evenBag 17 = .ok (.aload_n 0, 1) ∧ decode cX9_evenBag 18 = .ok (.iload_n 2, 1) ∧ decode cX9_evenBag 19 = .ok (.iload_n 1, 1) ∧ decode cX9_evenBag 20 = .ok (.invokevirtual 271, 3) ∧ decode cX9_evenBag 23 = .ok (.if_icmp .ge 5, 3) ∧ decode cX9_evenBag 26 = .ok (.iload_n 3, 1) ∧ decode cX9_evenBag 27 = .ok (.istore_n 2, 1) ∧ decode cX9_evenBag 28 = .ok (.iinc 3 2, 3) := by decide +kernel
theorem zcdX9_evenBag_31 : decode cX9_evenBag 31 = .ok (.goto (-27), 3) ∧ decode cX9_evenBag 34 = .ok (.iload_n 2, 1) ∧ decode cX9_evenBag 35 = .ok (.ireturn, 1) ∧ decode cX9_feed 0 = .ok (.aload_n 0, 1) ∧ decode cX9_feed 1 = .ok (.getfield 25, 3) ∧ decode cX9_feed 4 = .ok (.getfield 111, 3) ∧ decode cX9_feed 7 = .ok (.bipush 20, 2) ∧ decode cX9_feed 9 = .ok (.iadd, 1) := by decide +kernel
theorem zcdX9_feed_10 : decode cX9_feed 10 = .ok (.sipush 260, 3) ∧ decode cX9_feed 13 = .ok (.if_icmp .le 5, 3) ∧ decode cX9_feed 16 = .ok (.iconst (-1), 1) ∧ decode cX9_feed 17 = .ok (.ireturn, 1) ∧ decode cX9_feed 18 = .ok (.aload_n 0, 1) ∧ decode cX9_feed 19 = .ok (.getfield 25, 3) ∧ decode cX9_feed 22 = .ok (.iload_n 1, 1) ∧ decode cX9_feed 23 = .ok (.invokevirtual 115, 3) := by decide +kernel
theorem zcdX9_feed_26 : decode cX9_feed 26 = .ok (.aload_n 0, 1) ∧ decode cX9_feed 27 = .ok (.getfield 25, 3) ∧ decode cX9_feed 30 = .ok (.iload_n 2, 1) ∧ decode cX9_feed 31 = .ok (.invokevirtual 115, 3) ∧ decode cX9_feed 34 = .ok (.aload_n 0, 1) ∧ decode cX9_feed 35 = .ok (.getfield 25, 3) ∧ decode cX9_feed 38 = .ok (.iload_n 3, 1) ∧ decode cX9_feed 39 = .ok (.invokevirtual 115, 3) := by decide +kernel
theorem zcdX9_feed_42 : decode cX9_feed 42 = .ok (.aload_n 0, 1) ∧ decode cX9_feed 43 = .ok (.getfield 25, 3) ∧ decode cX9_feed 46 = .ok (.iload 4, 2) ∧ decode cX9_feed 48 = .ok (.invokevirtual 115, 3) ∧ decode cX9_feed 51 = .ok (.aload_n 0, 1) ∧ decode cX9_feed 52 = .ok (.getfield 25, 3) ∧ decode cX9_feed 55 = .ok (.iload 5, 2) ∧ decode cX9_feed 57 = .ok (.invokevirtual 115, 3) := by decide +kernel
theorem zcdX9_feed_60 : decode cX9_feed 60 = .ok (.aload_n 0, 1) ∧ decode cX9_feed 61 = .ok (.getfield 25, 3) ∧ decode cX9_feed 64 = .ok (.getfield 111, 3) ∧ decode cX9_feed 67 = .ok (.ireturn, 1) ∧ decode cX9_fewestThrows 0 = .ok (.iload 5, 2) ∧ decode cX9_fewestThrows 2 = .ok (.ifCond .gt 5, 3) ∧ decode cX9_fewestThrows 5 = .ok (.iconst 0, 1) ∧ decode cX9_fewestThrows 6 = .ok (.ireturn, 1) := by decide +kernel
theorem zcdX9_fewestThrows_7 : decode cX9_fewestThrows 7 = .ok (.ldc_w 326, 3) ∧ decode cX9_fewestThrows 10 = .ok (.istore 6, 2) ∧ decode cX9_fewestThrows 12 = .ok (.iconst 0, 1) ∧ decode cX9_fewestThrows 13 = .ok (.istore 7, 2) ∧ decode cX9_fewestThrows 15 = .ok (.iload 7, 2) ∧ decode cX9_fewestThrows 17 = .ok (.iload 4, 2) ∧ decode cX9_fewestThrows 19 = .ok (.if_icmp .gt 73, 3) ∧ decode cX9_fewestThrows 22 = .ok (.iload 7, 2) := by decide +kernel
theorem zcdX9_fewestThrows_24 : decode cX9_fewestThrows 24 = .ok (.bipush 40, 2) ∧ decode cX9_fewestThrows 26 = .ok (.if_icmp .ge 66, 3) ∧ decode cX9_fewestThrows 29 = .ok (.aload_n 0, 1) ∧ decode cX9_fewestThrows 30 = .ok (.iload 7, 2) ∧ decode cX9_fewestThrows 32 = .ok (.invokevirtual 327, 3) ∧ decode cX9_fewestThrows 35 = .ok (.ifCond .eq 51, 3) ∧ decode cX9_fewestThrows 38 = .ok (.lload_n 2, 1) ∧ decode cX9_fewestThrows 39 = .ok (.iload 7, 2) := by decide +kernel
theorem zcdX9_fewestThrows_41 : decode cX9_fewestThrows 41 = .ok (.lshr, 1) ∧ decode cX9_fewestThrows 42 = .ok (.lconst 1, 1) ∧ decode cX9_fewestThrows 43 = .ok (.land, 1) ∧ decode cX9_fewestThrows 44 = .ok (.lconst 0, 1) ∧ decode cX9_fewestThrows 45 = .ok (.lcmp, 1) ∧ decode cX9_fewestThrows 46 = .ok (.ifCond .ne 40, 3) ∧ decode cX9_fewestThrows 49 = .ok (.aload_n 0, 1) ∧ decode cX9_fewestThrows 50 = .ok (.iload_n 1, 1) := by decide +kernel
theorem zcdX9_fewestThrows_51 : decode cX9_fewestThrows 51 = .ok (.iload 7, 2) ∧ decode cX9_fewestThrows 53 = .ok (.invokevirtual 330, 3) ∧ decode cX9_fewestThrows 56 = .ok (.aload_n 0, 1) ∧ decode cX9_fewestThrows 57 = .ok (.iload 7, 2) ∧ decode cX9_fewestThrows 59 = .ok (.lload_n 2, 1) ∧ decode cX9_fewestThrows 60 = .ok (.lconst 1, 1) ∧ decode cX9_fewestThrows 61 = .ok (.iload 7, 2) ∧ decode cX9_fewestThrows 63 = .ok (.lshl, 1) := by decide +kernel
theorem zcdX9_fewestThrows_64 : decode cX9_fewestThrows 64 = .ok (.lor, 1) ∧ decode cX9_fewestThrows 65 = .ok (.iload 4, 2) ∧ decode cX9_fewestThrows 67 = .ok (.iload 5, 2) ∧ decode cX9_fewestThrows 69 = .ok (.iconst 1, 1) ∧ decode cX9_fewestThrows 70 = .ok (.isub, 1) ∧ decode cX9_fewestThrows 71 = .ok (.invokestatic 277, 3) ∧ decode cX9_fewestThrows 74 = .ok (.iadd, 1) ∧ decode cX9_fewestThrows 75 = .ok (.istore 8, 2) := by decide +kernel
theorem zcdX9_fewestThrows_77 : decode cX9_fewestThrows 77 = .ok (.iload 6, 2) ∧ decode cX9_fewestThrows 79 = .ok (.iload 8, 2) ∧ decode cX9_fewestThrows 81 = .ok (.invokestatic 333, 3) ∧ decode cX9_fewestThrows 84 = .ok (.istore 6, 2) ∧ decode cX9_fewestThrows 86 = .ok (.iinc 7 1, 3) ∧ decode cX9_fewestThrows 89 = .ok (.goto (-74), 3) ∧ decode cX9_fewestThrows 92 = .ok (.iload 6, 2) ∧ decode cX9_fewestThrows 94 = .ok (.ireturn, 1) := by decide +kernel
set_option maxHeartbeats 4000000 in
theorem t_X8_islandSize (b : Nat) (hb : isF b) (v2 : Int32) (v3 : Int32) (M : Mem) : AXi yX8_islandSize cX8_islandSize 4 (some .int) 5 60 glC (fun ad => [.ref (ad 23), .ref (ad b), .int v2, .int v3]) M (f_X8_islandSize b M v2 v3) := by
  intro r0 h
  refine AM.of (by decide) (fun _ => Nat.le_of_ble_eq_true rfl) (fun X ad cI cZ cB hX hR => ?_)
  show V X M [(0, .ref (ad 23)), (1, .ref (ad b)), (2, .int v2), (3, .int v3)] [] 0
  refine s_aload_n (k := 1) hX zcdX8_islandSize_0.1 rfl rfl ?_
  refine s_iload_n (k := 3) hX zcdX8_islandSize_0.2.1 rfl rfl ?_
  refine e_callVp hX (t_X2_isDry b hb v3 M) mX2_isDry lX8_104 (by decide) (by decide) (oF hb) rfl rfl rfl rfl rfl (Nat.le_of_ble_eq_true rfl) zcdX8_islandSize_0.2.2.1 h (fun r_1 h => ?_)
  refine e_if_eq (tgt := 24) hX zcdX8_islandSize_0.2.2.2.1 (by decide) z_eq h (fun h => ?_) (fun h => ?_)
  · refine s_iconst (v := (nI 0)) hX zcdX8_islandSize_12.2.2.2.2.2.1 (by decide) ?_
    exact e_ireti hX hR zcdX8_islandSize_12.2.2.2.2.2.2.1 h
  · refine s_aload_n (k := 0) hX zcdX8_islandSize_0.2.2.2.2.1 rfl rfl ?_
    refine s_aload_n (k := 1) hX zcdX8_islandSize_0.2.2.2.2.2.1 rfl rfl ?_
    refine s_iload_n (k := 2) hX zcdX8_islandSize_0.2.2.2.2.2.2.1 rfl rfl ?_
    refine s_iload_n (k := 3) hX zcdX8_islandSize_0.2.2.2.2.2.2.2 rfl rfl ?_
    refine s_aload_n (k := 0) hX zcdX8_islandSize_12.1 rfl rfl ?_
    refine s_get hX fX8_9 oC23 rfl zcdX8_islandSize_12.2.1 ?_
    refine s_bipush (v := (nI 40)) hX zcdX8_islandSize_12.2.2.1 (by decide) ?_
    refine e_callVi hX (t_X8_spread b hb 24 42 aC24 (by decide) v2 v3 (nI 40) M) mX8_spread lX8_47 (by decide) (by decide) oC23 rfl rfl rfl rfl rfl (Nat.le_of_ble_eq_true rfl) zcdX8_islandSize_12.2.2.2.1 h (fun r_2 M_3 h => ?_)
    refine s_goto (tgt := 25) hX zcdX8_islandSize_12.2.2.2.2.1 (by decide) ?_
    exact e_ireti hX hR zcdX8_islandSize_12.2.2.2.2.2.2.1 h
set_option maxHeartbeats 4000000 in
theorem t_X8_meeting (b : Nat) (hb : isF b) (v2 : Int32) (v3 : Int32) (v4 : Int32) (M : Mem) : AXi yX8_meeting cX8_meeting 9 (some .int) 5 60 glC (fun ad => [.ref (ad 23), .ref (ad b), .int v2, .int v3, .int v4]) M (f_X8_meeting b M v2 v3 v4) := by
  intro r0 h
  refine AM.of (by decide) (fun _ => Nat.le_of_ble_eq_true rfl) (fun X ad cI cZ cB hX hR => ?_)
  show V X M [(0, .ref (ad 23)), (1, .ref (ad b)), (2, .int v2), (3, .int v3), (4, .int v4)] [] 0
  refine s_aload_n (k := 0) hX zcdX8_islandSize_12.2.2.2.2.2.2.2 rfl rfl ?_
  refine s_aload_n (k := 1) hX zcdX8_meeting_1.1 rfl rfl ?_
  refine s_iload_n (k := 2) hX zcdX8_meeting_1.2.1 rfl rfl ?_
  refine s_bipush (v := (nI 40)) hX zcdX8_meeting_1.2.2.1 (by decide) ?_
  refine s_aload_n (k := 0) hX zcdX8_meeting_1.2.2.2.1 rfl rfl ?_
  refine s_get hX fX8_9 oC23 rfl zcdX8_meeting_1.2.2.2.2.1 ?_
  refine s_bipush (v := (nI 42)) hX zcdX8_meeting_1.2.2.2.2.2.1 (by decide) ?_
  refine e_callVi hX (t_X8_spread b hb 24 42 aC24 (by decide) v2 (nI 40) (nI 42) M) mX8_spread lX8_47 (by decide) (by decide) oC23 rfl rfl rfl rfl rfl (Nat.le_of_ble_eq_true rfl) zcdX8_meeting_1.2.2.2.2.2.2.1 h (fun r_1 M_2 h => ?_)
  refine s_pop hX zcdX8_meeting_1.2.2.2.2.2.2.2 rfl ?_
  refine s_aload_n (k := 0) hX zcdX8_meeting_15.1 rfl rfl ?_
  refine s_aload_n (k := 1) hX zcdX8_meeting_15.2.1 rfl rfl ?_
  refine s_iload_n (k := 3) hX zcdX8_meeting_15.2.2.1 rfl rfl ?_
  refine s_bipush (v := (nI 41)) hX zcdX8_meeting_15.2.2.2.1 (by decide) ?_
  refine s_aload_n (k := 0) hX zcdX8_meeting_15.2.2.2.2.1 rfl rfl ?_
  refine s_get hX fX8_15 oC23 rfl zcdX8_meeting_15.2.2.2.2.2.1 ?_
  refine s_bipush (v := (nI 42)) hX zcdX8_meeting_15.2.2.2.2.2.2.1 (by decide) ?_
  refine e_callVi hX (t_X8_spread b hb 25 42 aC25 (by decide) v3 (nI 41) (nI 42) M_2) mX8_spread lX8_47 (by decide) (by decide) oC23 rfl rfl rfl rfl rfl (Nat.le_of_ble_eq_true rfl) zcdX8_meeting_15.2.2.2.2.2.2.2 h (fun r_3 M_4 h => ?_)
  refine s_pop hX zcdX8_meeting_29.1 rfl ?_
  refine s_bipush (v := (-2)) hX zcdX8_meeting_29.2.1 (by decide) ?_
  refine s_istore (lv' := [(0, .ref (ad 23)), (1, .ref (ad b)), (2, .int v2), (3, .int v3), (4, .int v4), (5, .int (-2))]) hX zcdX8_meeting_29.2.2.1 (by decide) rfl ?_
  refine s_bipush (v := (-2)) hX zcdX8_meeting_29.2.2.2.1 (by decide) ?_
  refine s_istore (lv' := [(0, .ref (ad 23)), (1, .ref (ad b)), (2, .int v2), (3, .int v3), (4, .int v4), (5, .int (-2)), (6, .int (-2))]) hX zcdX8_meeting_29.2.2.2.2.1 (by decide) rfl ?_
  refine s_iconst (v := (nI 0)) hX zcdX8_meeting_29.2.2.2.2.2.1 (by decide) ?_
  refine s_istore (lv' := [(0, .ref (ad 23)), (1, .ref (ad b)), (2, .int v2), (3, .int v3), (4, .int v4), (5, .int (-2)), (6, .int (-2)), (7, .int (nI 0))]) hX zcdX8_meeting_29.2.2.2.2.2.2.1 (by decide) rfl ?_
  have lp41 : ∀ (N41 : Nat) (y5_41 : Int32) (y6_41 : Int32) (y7_41 : Int32), wlp3 (f_X8_meeting_B41 v4 M_4) N41 y5_41 y6_41 y7_41 = some r0 → V X M_4 [(0, .ref (ad 23)), (4, .int v4), (5, .int y5_41), (6, .int y6_41), (7, .int y7_41)] [] 41 := by
    intro N41
    induction N41 with
    | zero => exact fun _ _ _ h => e_none h
    | succ N41 ih41 =>
      intro y5_41 y6_41 y7_41 h
      replace h : f_X8_meeting_B41 v4 M_4 (wlp3 (f_X8_meeting_B41 v4 M_4) N41) y5_41 y6_41 y7_41 = some r0 := h
      generalize wlp3 (f_X8_meeting_B41 v4 M_4) N41 = ag41 at ih41 h
      refine s_iload (k := 4) hX zcdX8_meeting_29.2.2.2.2.2.2.2 rfl ?_
      refine s_bipush (v := (nI 40)) hX zcdX8_meeting_43.1 (by decide) ?_
      have j117 : f_X8_meeting_L117 v4 M_4 y5_41 y6_41 = some r0 → V X M_4 [(4, .int v4), (5, .int y5_41), (6, .int y6_41)] [] 117 := by
        intro  h
        refine s_iload (k := 0) hX zcdX8_meeting_107.2.2.2.2.1 rfl ?_
        refine e_if_ne (tgt := 127) hX zcdX8_meeting_107.2.2.2.2.2.1 (by decide) z_eq h (fun h => ?_) (fun h => ?_)
        · refine s_iload (k := 2) hX zcdX8_meeting_127.1 rfl ?_
          exact e_ireti hX hR zcdX8_meeting_127.2.1 h
        · refine s_iload (k := 1) hX zcdX8_meeting_107.2.2.2.2.2.2.1 rfl ?_
          refine s_goto (tgt := 129) hX zcdX8_meeting_107.2.2.2.2.2.2.2 (by decide) ?_
          exact e_ireti hX hR zcdX8_meeting_127.2.1 h
      refine e_icmp_ge (tgt := 117) hX zcdX8_meeting_43.2.1 (by decide) (m_ge (by decide +kernel)) h (fun h => ?_) (fun h => ?_)
      · refine s_loc [1, 2, 3] rfl ?_
        exact j117 h
      · refine s_aload_n (k := 0) hX zcdX8_meeting_43.2.2.1 rfl rfl ?_
        refine s_get hX fX8_9 oC23 rfl zcdX8_meeting_43.2.2.2.1 ?_
        refine s_iload (k := 4) hX zcdX8_meeting_43.2.2.2.2.1 rfl ?_
        refine e_iald hX aC24 zcdX8_meeting_43.2.2.2.2.2.1 h (fun h => ?_)
        refine s_iconst (v := (-1)) hX zcdX8_meeting_43.2.2.2.2.2.2.1 (by decide) ?_
        refine e_icmp_eq (tgt := 111) hX zcdX8_meeting_43.2.2.2.2.2.2.2 (by decide) (m_eq (by decide +kernel)) h (fun h => ?_) (fun h => ?_)
        · refine s_iinc (k := 4) (v := (y7_41 + (nI 1))) (lv' := [(0, .ref (ad 23)), (4, .int v4), (5, .int y5_41), (6, .int y6_41), (7, .int (y7_41 + (nI 1)))]) hX zcdX8_meeting_107.2.2.1 (congrArg (fun z => y7_41 + z) (by decide)) (by decide) rfl rfl ?_
          refine s_goto (tgt := 41) hX zcdX8_meeting_107.2.2.2.1 (by decide) ?_
          exact ih41 y5_41 y6_41 (y7_41 + (nI 1)) h
        · refine s_aload_n (k := 0) hX zcdX8_meeting_59.1 rfl rfl ?_
          refine s_get hX fX8_15 oC23 rfl zcdX8_meeting_59.2.1 ?_
          refine s_iload (k := 4) hX zcdX8_meeting_59.2.2.1 rfl ?_
          refine e_iald hX aC25 zcdX8_meeting_59.2.2.2.1 h (fun h => ?_)
          refine s_iconst (v := (-1)) hX zcdX8_meeting_59.2.2.2.2.1 (by decide) ?_
          refine e_icmp_eq (tgt := 111) hX zcdX8_meeting_59.2.2.2.2.2.1 (by decide) (m_eq (by decide +kernel)) h (fun h => ?_) (fun h => ?_)
          · refine s_iinc (k := 4) (v := (y7_41 + (nI 1))) (lv' := [(0, .ref (ad 23)), (4, .int v4), (5, .int y5_41), (6, .int y6_41), (7, .int (y7_41 + (nI 1)))]) hX zcdX8_meeting_107.2.2.1 (congrArg (fun z => y7_41 + z) (by decide)) (by decide) rfl rfl ?_
            refine s_goto (tgt := 41) hX zcdX8_meeting_107.2.2.2.1 (by decide) ?_
            exact ih41 y5_41 y6_41 (y7_41 + (nI 1)) h
          · refine s_aload_n (k := 0) hX zcdX8_meeting_59.2.2.2.2.2.2.1 rfl rfl ?_
            refine s_get hX fX8_9 oC23 rfl zcdX8_meeting_59.2.2.2.2.2.2.2 ?_
            refine s_iload (k := 4) hX zcdX8_meeting_74.1 rfl ?_
            refine e_iald hX aC24 zcdX8_meeting_74.2.1 h (fun h => ?_)
            refine s_aload_n (k := 0) hX zcdX8_meeting_74.2.2.1 rfl rfl ?_
            refine s_get hX fX8_15 oC23 rfl zcdX8_meeting_74.2.2.2.1 ?_
            refine s_iload (k := 4) hX zcdX8_meeting_74.2.2.2.2.1 rfl ?_
            refine e_iald hX aC25 zcdX8_meeting_74.2.2.2.2.2.1 h (fun h => ?_)
            refine e_mmax hX lX8_86 mJ9_max (by omega) (Nat.le_of_ble_eq_true rfl) zcdX8_meeting_74.2.2.2.2.2.2.1 ?_
            refine e_bnd h (fun x_5 h => ?_)
            refine s_istore (lv' := [(0, .ref (ad 23)), (4, .int v4), (5, .int y5_41), (6, .int y6_41), (7, .int y7_41), (8, .int x_5)]) hX zcdX8_meeting_74.2.2.2.2.2.2.2 (by decide) rfl ?_
            refine s_iload (k := 3) hX zcdX8_meeting_89.1 rfl ?_
            refine s_bipush (v := (-2)) hX zcdX8_meeting_89.2.1 (by decide) ?_
            refine e_icmp_eq (tgt := 103) hX zcdX8_meeting_89.2.2.1 (by decide) (m_eq (by decide +kernel)) h (fun h => ?_) (fun h => ?_)
            · refine s_iload (k := 5) hX zcdX8_meeting_89.2.2.2.2.2.2.1 rfl ?_
              refine s_istore (lv' := [(0, .ref (ad 23)), (4, .int v4), (6, .int y6_41), (7, .int y7_41), (8, .int x_5), (5, .int x_5)]) hX zcdX8_meeting_89.2.2.2.2.2.2.2 (by decide) rfl ?_
              refine s_iload (k := 3) hX zcdX8_meeting_107.1 rfl ?_
              refine s_istore (lv' := [(0, .ref (ad 23)), (4, .int v4), (7, .int y7_41), (8, .int x_5), (5, .int x_5), (6, .int y7_41)]) hX zcdX8_meeting_107.2.1 (by decide) rfl ?_
              refine s_iinc (k := 2) (v := (y7_41 + (nI 1))) (lv' := [(0, .ref (ad 23)), (4, .int v4), (8, .int x_5), (5, .int x_5), (6, .int y7_41), (7, .int (y7_41 + (nI 1)))]) hX zcdX8_meeting_107.2.2.1 (congrArg (fun z => y7_41 + z) (by decide)) (by decide) rfl rfl ?_
              refine s_goto (tgt := 41) hX zcdX8_meeting_107.2.2.2.1 (by decide) ?_
              refine s_loc [0, 1, 3, 4, 5] rfl ?_
              exact ih41 x_5 y7_41 (y7_41 + (nI 1)) h
            · refine s_iload (k := 5) hX zcdX8_meeting_89.2.2.2.1 rfl ?_
              refine s_iload (k := 2) hX zcdX8_meeting_89.2.2.2.2.1 rfl ?_
              refine e_icmp_ge (tgt := 111) hX zcdX8_meeting_89.2.2.2.2.2.1 (by decide) r_le h (fun h => ?_) (fun h => ?_)
              · refine s_iinc (k := 4) (v := (y7_41 + (nI 1))) (lv' := [(0, .ref (ad 23)), (4, .int v4), (5, .int y5_41), (6, .int y6_41), (8, .int x_5), (7, .int (y7_41 + (nI 1)))]) hX zcdX8_meeting_107.2.2.1 (congrArg (fun z => y7_41 + z) (by decide)) (by decide) rfl rfl ?_
                refine s_goto (tgt := 41) hX zcdX8_meeting_107.2.2.2.1 (by decide) ?_
                refine s_loc [0, 1, 2, 3, 5] rfl ?_
                exact ih41 y5_41 y6_41 (y7_41 + (nI 1)) h
              · refine s_iload (k := 5) hX zcdX8_meeting_89.2.2.2.2.2.2.1 rfl ?_
                refine s_istore (lv' := [(0, .ref (ad 23)), (4, .int v4), (6, .int y6_41), (7, .int y7_41), (8, .int x_5), (5, .int x_5)]) hX zcdX8_meeting_89.2.2.2.2.2.2.2 (by decide) rfl ?_
                refine s_iload (k := 3) hX zcdX8_meeting_107.1 rfl ?_
                refine s_istore (lv' := [(0, .ref (ad 23)), (4, .int v4), (7, .int y7_41), (8, .int x_5), (5, .int x_5), (6, .int y7_41)]) hX zcdX8_meeting_107.2.1 (by decide) rfl ?_
                refine s_iinc (k := 2) (v := (y7_41 + (nI 1))) (lv' := [(0, .ref (ad 23)), (4, .int v4), (8, .int x_5), (5, .int x_5), (6, .int y7_41), (7, .int (y7_41 + (nI 1)))]) hX zcdX8_meeting_107.2.2.1 (congrArg (fun z => y7_41 + z) (by decide)) (by decide) rfl rfl ?_
                refine s_goto (tgt := 41) hX zcdX8_meeting_107.2.2.2.1 (by decide) ?_
                refine s_loc [0, 1, 3, 4, 5] rfl ?_
                exact ih41 x_5 y7_41 (y7_41 + (nI 1)) h
  refine s_loc [0, 4, 5, 6, 7] rfl ?_
  exact lp41 FU (-2) (-2) (nI 0) h
set_option maxHeartbeats 4000000 in
theorem t_X8_needs (b : Nat) (hb : isF b) (v2 : Int32) (v3 : Int32) (M : Mem) : AXi yX8_needs cX8_needs 5 (some .boolean) 6 60 glC (fun ad => [.ref (ad 23), .ref (ad b), .int v2, .int v3]) M (f_X8_needs b M v2 v3) := by
  intro r0 h
  refine AM.of (by decide) (fun _ => Nat.le_of_ble_eq_true rfl) (fun X ad cI cZ cB hX hR => ?_)
  show V X M [(0, .ref (ad 23)), (1, .ref (ad b)), (2, .int v2), (3, .int v3)] [] 0
  refine s_aload_n (k := 1) hX zcdX8_meeting_127.2.2.1 rfl rfl ?_
  refine s_iload_n (k := 3) hX zcdX8_meeting_127.2.2.2.1 rfl rfl ?_
  refine e_callVp hX (t_X2_isDry b hb v3 M) mX2_isDry lX8_104 (by decide) (by decide) (oF hb) rfl rfl rfl rfl rfl (Nat.le_of_ble_eq_true rfl) zcdX8_meeting_127.2.2.2.2.1 h (fun r_1 h => ?_)
  refine e_if_ne (tgt := 10) hX zcdX8_meeting_127.2.2.2.2.2.1 (by decide) z_eq h (fun h => ?_) (fun h => ?_)
  · refine s_aload_n (k := 1) hX zcdX8_needs_10.1 rfl rfl ?_
    refine s_get hX fX8_108 (oF hb) rfl zcdX8_needs_10.2.1 ?_
    refine s_iload_n (k := 3) hX zcdX8_needs_10.2.2.1 rfl rfl ?_
    refine s_iconst (v := (nI 1)) hX zcdX8_needs_10.2.2.2.1 (by decide) ?_
    refine e_zast hX (aF5 hb) zcdX8_needs_10.2.2.2.2.1 h (fun h => ?_)
    refine e_bndM h (fun M_2 h => ?_)
    refine s_aload_n (k := 0) hX zcdX8_needs_10.2.2.2.2.2.1 rfl rfl ?_
    refine s_aload_n (k := 1) hX zcdX8_needs_10.2.2.2.2.2.2.1 rfl rfl ?_
    refine s_iload_n (k := 2) hX zcdX8_needs_10.2.2.2.2.2.2.2 rfl rfl ?_
    refine e_callVi hX (t_X8_canCross b hb v2 M_2) mX8_canCross lX8_89 (by decide) (by decide) oC23 rfl rfl rfl rfl rfl (Nat.le_of_ble_eq_true rfl) zcdX8_needs_20.1 h (fun r_3 M_4 h => ?_)
    have j31 : ∀ (t0_31 : Int32), f_X8_needs_L31 b v3 M_4 t0_31 = some r0 → V X M_4 [(1, .ref (ad b)), (3, .int v3)] [.int t0_31] 31 := by
      intro t0_31 h
      refine s_istore (lv' := [(1, .ref (ad b)), (3, .int v3), (4, .int t0_31)]) hX zcdX8_needs_20.2.2.2.2.2.1 (by decide) rfl ?_
      refine s_aload_n (k := 0) hX zcdX8_needs_20.2.2.2.2.2.2.1 rfl rfl ?_
      refine s_get hX fX8_108 (oF hb) rfl zcdX8_needs_20.2.2.2.2.2.2.2 ?_
      refine s_iload_n (k := 1) hX zcdX8_needs_37.1 rfl rfl ?_
      refine s_iconst (v := (nI 0)) hX zcdX8_needs_37.2.1 (by decide) ?_
      refine e_zast hX (aF5 hb) zcdX8_needs_37.2.2.1 h (fun h => ?_)
      refine e_bndM h (fun M_5 h => ?_)
      refine s_iload (k := 2) hX zcdX8_needs_37.2.2.2.1 rfl ?_
      exact e_zreti hX hR zcdX8_needs_37.2.2.2.2.1 h
    refine e_if_ne (tgt := 30) hX zcdX8_needs_20.2.1 (by decide) z_eq h (fun h => ?_) (fun h => ?_)
    · refine s_iconst (v := (nI 0)) hX zcdX8_needs_20.2.2.2.2.1 (by decide) ?_
      refine s_loc [1, 3] rfl ?_
      exact j31 (nI 0) h
    · refine s_iconst (v := (nI 1)) hX zcdX8_needs_20.2.2.1 (by decide) ?_
      refine s_goto (tgt := 31) hX zcdX8_needs_20.2.2.2.1 (by decide) ?_
      refine s_loc [1, 3] rfl ?_
      exact j31 (nI 1) h
  · refine s_iconst (v := (nI 0)) hX zcdX8_meeting_127.2.2.2.2.2.2.1 (by decide) ?_
    exact e_zretiL hX hR zcdX8_meeting_127.2.2.2.2.2.2.2 (by decide) h
set_option maxHeartbeats 4000000 in
theorem t_X9_isPlace (v0 : Int32) (v1 : Int32) (M : Mem) : AXp yX9_isPlace cX9_isPlace 2 (some .boolean) 0 60 glC (fun ad => [.int v0, .int v1]) M (f_X9_isPlace v0 v1) := by
  intro r0 h
  refine AM.of (by decide) (fun _ => Nat.le_of_ble_eq_true rfl) (fun X ad cI cZ cB hX hR => ?_)
  show V X M [(0, .int v0), (1, .int v1)] [] 0
  refine s_iload_n (k := 0) hX zcdX8_needs_37.2.2.2.2.2.1 rfl rfl ?_
  refine e_if_lt (tgt := 25) hX zcdX8_needs_37.2.2.2.2.2.2.1 (by decide) z_lt h (fun h => ?_) (fun h => ?_)
  · refine s_iconst (v := (nI 0)) hX zcdX9_isPlace_21.2.2.1 (by decide) ?_
    exact e_zretpL hX hR zcdX9_isPlace_21.2.2.2.1 (by decide) h
  · refine s_iload_n (k := 0) hX zcdX8_needs_37.2.2.2.2.2.2.2 rfl rfl ?_
    refine s_bipush (v := (nI 39)) hX zcdX9_isPlace_5.1 (by decide) ?_
    refine e_icmp_gt (tgt := 25) hX zcdX9_isPlace_5.2.1 (by decide) (m_gt (by decide +kernel)) h (fun h => ?_) (fun h => ?_)
    · refine s_iconst (v := (nI 0)) hX zcdX9_isPlace_21.2.2.1 (by decide) ?_
      exact e_zretpL hX hR zcdX9_isPlace_21.2.2.2.1 (by decide) h
    · refine s_iload_n (k := 1) hX zcdX9_isPlace_5.2.2.1 rfl rfl ?_
      refine s_iconst (v := (nI 1)) hX zcdX9_isPlace_5.2.2.2.1 (by decide) ?_
      refine e_icmp_lt (tgt := 25) hX zcdX9_isPlace_5.2.2.2.2.1 (by decide) (m_lt (by decide +kernel)) h (fun h => ?_) (fun h => ?_)
      · refine s_iconst (v := (nI 0)) hX zcdX9_isPlace_21.2.2.1 (by decide) ?_
        exact e_zretpL hX hR zcdX9_isPlace_21.2.2.2.1 (by decide) h
      · refine s_iload_n (k := 1) hX zcdX9_isPlace_5.2.2.2.2.2.1 rfl rfl ?_
        refine s_bipush (v := (nI 20)) hX zcdX9_isPlace_5.2.2.2.2.2.2.1 (by decide) ?_
        refine e_icmp_gt (tgt := 25) hX zcdX9_isPlace_5.2.2.2.2.2.2.2 (by decide) (m_gt (by decide +kernel)) h (fun h => ?_) (fun h => ?_)
        · refine s_iconst (v := (nI 0)) hX zcdX9_isPlace_21.2.2.1 (by decide) ?_
          exact e_zretpL hX hR zcdX9_isPlace_21.2.2.2.1 (by decide) h
        · refine s_iconst (v := (nI 1)) hX zcdX9_isPlace_21.1 (by decide) ?_
          refine s_goto (tgt := 26) hX zcdX9_isPlace_21.2.1 (by decide) ?_
          exact e_zretpL hX hR zcdX9_isPlace_21.2.2.2.1 (by decide) h
set_option maxHeartbeats 4000000 in
theorem t_X9_at (v1 : Int32) (v2 : Int32) (M : Mem) : AXp yX9_at cX9_at 4 (some .int) 1 60 glC (fun ad => [.ref (ad 0), .int v1, .int v2]) M (f_X9_at M v1 v2) := by
  intro r0 h
  refine AM.of (by decide) (fun _ => Nat.le_of_ble_eq_true rfl) (fun X ad cI cZ cB hX hR => ?_)
  show V X M [(0, .ref (ad 0)), (1, .int v1), (2, .int v2)] [] 0
  refine s_iload_n (k := 1) hX zcdX9_isPlace_21.2.2.2.2.1 rfl rfl ?_
  refine s_iload_n (k := 2) hX zcdX9_isPlace_21.2.2.2.2.2.1 rfl rfl ?_
  refine e_callSp hX (t_X9_isPlace v1 v2 M) mX9_isPlace lX9_86 (by decide) (by decide) rfl rfl (Nat.le_of_ble_eq_true rfl) zcdX9_isPlace_21.2.2.2.2.2.2.1 h (fun r_1 h => ?_)
  refine e_if_ne (tgt := 10) hX zcdX9_isPlace_21.2.2.2.2.2.2.2 (by decide) z_eq h (fun h => ?_) (fun h => ?_)
  · refine s_aload_n (k := 0) hX zcdX9_at_8.2.2.1 rfl rfl ?_
    refine s_get hX fX9_10 oC0 rfl zcdX9_at_8.2.2.2.1 ?_
    refine s_iload_n (k := 1) hX zcdX9_at_8.2.2.2.2.1 rfl rfl ?_
    refine s_iload_n (k := 2) hX zcdX9_at_8.2.2.2.2.2.1 rfl rfl ?_
    refine e_callVp hX (t_X2_stoneAt 1 (Or.inl rfl) v1 v2 M) mX2_stoneAt lX9_90 (by decide) (by decide) oC1 rfl rfl rfl rfl rfl (Nat.le_of_ble_eq_true rfl) zcdX9_at_8.2.2.2.2.2.2.1 h (fun r_2 h => ?_)
    refine s_istore_n (lv' := [(0, .ref (ad 0)), (1, .int v1), (2, .int v2), (3, .int r_2)]) hX zcdX9_at_8.2.2.2.2.2.2.2 rfl (by decide) rfl ?_
    refine s_iload_n (k := 3) hX zcdX9_at_20.1 rfl rfl ?_
    refine s_iconst (v := (-1)) hX zcdX9_at_20.2.1 (by decide) ?_
    refine e_icmp_ne (tgt := 30) hX zcdX9_at_20.2.2.1 (by decide) (m_eq (by decide +kernel)) h (fun h => ?_) (fun h => ?_)
    · refine s_iload_n (k := 3) hX zcdX9_at_20.2.2.2.2.2.1 rfl rfl ?_
      exact e_iretp hX hR zcdX9_at_20.2.2.2.2.2.2.1 h
    · refine s_bipush (v := (-2)) hX zcdX9_at_20.2.2.2.1 (by decide) ?_
      refine s_goto (tgt := 31) hX zcdX9_at_20.2.2.2.2.1 (by decide) ?_
      exact e_iretp hX hR zcdX9_at_20.2.2.2.2.2.2.1 h
  · refine s_iconst (v := (-1)) hX zcdX9_at_8.1 (by decide) ?_
    exact e_iretp hX hR zcdX9_at_8.2.1 h
set_option maxHeartbeats 4000000 in
theorem t_X9_chalk (v1 : Int32) (v2 : Int32) (M : Mem) : AXi yX9_chalk cX9_chalk 3 (some .int) 3 60 glC (fun ad => [.ref (ad 0), .int v1, .int v2]) M (f_X9_chalk M v1 v2) := by
  intro r0 h
  refine AM.of (by decide) (fun _ => Nat.le_of_ble_eq_true rfl) (fun X ad cI cZ cB hX hR => ?_)
  show V X M [(0, .ref (ad 0)), (1, .int v1), (2, .int v2)] [] 0
  refine s_iload_n (k := 1) hX zcdX9_at_20.2.2.2.2.2.2.2 rfl rfl ?_
  refine s_iconst (v := (nI 1)) hX zcdX9_chalk_1.1 (by decide) ?_
  refine e_icmp_lt (tgt := 27) hX zcdX9_chalk_1.2.1 (by decide) (m_lt (by decide +kernel)) h (fun h => ?_) (fun h => ?_)
  · refine s_iconst (v := (-1)) hX zcdX9_chalk_16.2.2.2.2.2.2.1 (by decide) ?_
    exact e_ireti hX hR zcdX9_chalk_16.2.2.2.2.2.2.2 h
  · refine s_iload_n (k := 1) hX zcdX9_chalk_1.2.2.1 rfl rfl ?_
    refine s_bipush (v := (nI 7)) hX zcdX9_chalk_1.2.2.2.1 (by decide) ?_
    refine e_icmp_gt (tgt := 27) hX zcdX9_chalk_1.2.2.2.2.1 (by decide) (m_gt (by decide +kernel)) h (fun h => ?_) (fun h => ?_)
    · refine s_iconst (v := (-1)) hX zcdX9_chalk_16.2.2.2.2.2.2.1 (by decide) ?_
      exact e_ireti hX hR zcdX9_chalk_16.2.2.2.2.2.2.2 h
    · refine s_aload_n (k := 0) hX zcdX9_chalk_1.2.2.2.2.2.1 rfl rfl ?_
      refine s_get hX fX9_25 oC0 rfl zcdX9_chalk_1.2.2.2.2.2.2.1 ?_
      refine s_iconst (v := (nI 2)) hX zcdX9_chalk_1.2.2.2.2.2.2.2 (by decide) ?_
      refine s_iload_n (k := 1) hX zcdX9_chalk_16.1 rfl rfl ?_
      refine s_imul hX zcdX9_chalk_16.2.1 ?_
      refine s_iconst (v := (nI 2)) hX zcdX9_chalk_16.2.2.1 (by decide) ?_
      refine s_bipush (v := (nI 14)) hX zcdX9_chalk_16.2.2.2.1 (by decide) ?_
      refine e_callVp hX (t_X7_holds ((nI 2) * v1) (nI 2) (nI 14) M) mX7_holds lX9_119 (by decide) (by decide) oC19 rfl rfl rfl rfl rfl (Nat.le_of_ble_eq_true rfl) zcdX9_chalk_16.2.2.2.2.1 h (fun r_1 h => ?_)
      refine e_if_ne (tgt := 29) hX zcdX9_chalk_16.2.2.2.2.2.1 (by decide) z_eq h (fun h => ?_) (fun h => ?_)
      · refine s_iload_n (k := 2) hX zcdX9_chalk_29.1 rfl rfl ?_
        refine s_bipush (v := (nI 100)) hX zcdX9_chalk_29.2.1 (by decide) ?_
        have j46 : f_X9_chalk_L46 M v1 v2 = some r0 → V X M [(0, .ref (ad 0)), (1, .int v1), (2, .int v2)] [] 46 := by
          intro  h
          refine s_aload_n (k := 0) hX zcdX9_chalk_44.2.2.1 rfl rfl ?_
          refine s_get hX fX9_25 oC0 rfl zcdX9_chalk_44.2.2.2.1 ?_
          refine s_iconst (v := (nI 2)) hX zcdX9_chalk_44.2.2.2.2.1 (by decide) ?_
          refine s_iload_n (k := 1) hX zcdX9_chalk_44.2.2.2.2.2.1 rfl rfl ?_
          refine s_imul hX zcdX9_chalk_44.2.2.2.2.2.2.1 ?_
          refine e_callVv hX (t_X7_open ((nI 2) * v1) M) mX7_open lX9_123 (by decide) (by decide) oC19 rfl rfl rfl rfl rfl (Nat.le_of_ble_eq_true rfl) zcdX9_chalk_44.2.2.2.2.2.2.2 h (fun M_2 h => ?_)
          refine s_aload_n (k := 0) hX zcdX9_chalk_56.1 rfl rfl ?_
          refine s_get hX fX9_10 oC0 rfl zcdX9_chalk_56.2.1 ?_
          refine e_callVp hX (t_X2_countTold 1 (Or.inl rfl) M_2) mX2_countTold lX9_234 (by decide) (by decide) oC1 rfl rfl rfl rfl rfl (Nat.le_of_ble_eq_true rfl) zcdX9_chalk_56.2.2.1 h (fun r_3 h => ?_)
          refine s_iload_n (k := 1) hX zcdX9_chalk_56.2.2.2.1 rfl rfl ?_
          refine e_icmp_ge (tgt := 70) hX zcdX9_chalk_56.2.2.2.2.1 (by decide) r_le h (fun h => ?_) (fun h => ?_)
          · refine s_aload_n (k := 0) hX zcdX9_chalk_56.2.2.2.2.2.2.2 rfl rfl ?_
            refine s_get hX fX9_60 oC0 rfl zcdX9_chalk_71.1 ?_
            refine s_aload_n (k := 0) hX zcdX9_chalk_71.2.1 rfl rfl ?_
            refine s_get hX fX9_25 oC0 rfl zcdX9_chalk_71.2.2.1 ?_
            refine s_iload_n (k := 1) hX zcdX9_chalk_71.2.2.2.1 rfl rfl ?_
            refine e_callVi hX (t_X0_read v1 M_2) mX0_read lX9_237 (by decide) (by decide) oC37 rfl rfl rfl rfl rfl (Nat.le_of_ble_eq_true rfl) zcdX9_chalk_71.2.2.2.2.1 h (fun r_4 M_5 h => ?_)
            refine e_if_ne (tgt := 88) hX zcdX9_chalk_71.2.2.2.2.2.1 (by decide) z_eq h (fun h => ?_) (fun h => ?_)
            · refine s_aload_n (k := 0) hX zcdX9_chalk_88.1 rfl rfl ?_
              refine s_get hX fX9_60 oC0 rfl zcdX9_chalk_88.2.1 ?_
              refine s_aload_n (k := 0) hX zcdX9_chalk_88.2.2.1 rfl rfl ?_
              refine s_get hX fX9_10 oC0 rfl zcdX9_chalk_88.2.2.2.1 ?_
              refine s_iload_n (k := 1) hX zcdX9_chalk_88.2.2.2.2.1 rfl rfl ?_
              refine e_callVv hX (t_X0_match 1 (Or.inl rfl) v1 M_5) mX0_match lX9_240 (by decide) (by decide) oC37 rfl rfl rfl rfl rfl (Nat.le_of_ble_eq_true rfl) zcdX9_chalk_88.2.2.2.2.2.1 h (fun M_6 h => ?_)
              refine s_iload_n (k := 2) hX zcdX9_chalk_88.2.2.2.2.2.2.1 rfl rfl ?_
              refine s_bipush (v := (nI 100)) hX zcdX9_chalk_88.2.2.2.2.2.2.2 (by decide) ?_
              refine e_icmp_ne (tgt := 116) hX zcdX9_chalk_103.1 (by decide) (m_eq (by decide +kernel)) h (fun h => ?_) (fun h => ?_)
              · refine s_aload_n (k := 0) hX zcdX9_chalk_103.2.2.2.2.2.1 rfl rfl ?_
                refine s_get hX fX9_60 oC0 rfl zcdX9_chalk_103.2.2.2.2.2.2.1 ?_
                refine s_iload_n (k := 1) hX zcdX9_chalk_103.2.2.2.2.2.2.2 rfl rfl ?_
                refine s_iload_n (k := 2) hX zcdX9_chalk_121.1 rfl rfl ?_
                refine e_callVp hX (t_X0_stoneOf v1 v2 M_6) mX0_stoneOf lX9_247 (by decide) (by decide) oC37 rfl rfl rfl rfl rfl (Nat.le_of_ble_eq_true rfl) zcdX9_chalk_121.2.1 h (fun r_7 h => ?_)
                exact e_ireti hX hR zcdX9_chalk_121.2.2.1 h
              · refine s_aload_n (k := 0) hX zcdX9_chalk_103.2.1 rfl rfl ?_
                refine s_get hX fX9_60 oC0 rfl zcdX9_chalk_103.2.2.1 ?_
                refine e_callVp hX (t_X0_wayInAll M_6) mX0_wayInAll lX9_244 (by decide) (by decide) oC37 rfl rfl rfl rfl rfl (Nat.le_of_ble_eq_true rfl) zcdX9_chalk_103.2.2.2.1 h (fun r_8 h => ?_)
                refine s_goto (tgt := 125) hX zcdX9_chalk_103.2.2.2.2.1 (by decide) ?_
                exact e_ireti hX hR zcdX9_chalk_121.2.2.1 h
            · refine s_bipush (v := (-3)) hX zcdX9_chalk_71.2.2.2.2.2.2.1 (by decide) ?_
              exact e_ireti hX hR zcdX9_chalk_71.2.2.2.2.2.2.2 h
          · refine s_bipush (v := (-2)) hX zcdX9_chalk_56.2.2.2.2.2.1 (by decide) ?_
            exact e_ireti hX hR zcdX9_chalk_56.2.2.2.2.2.2.1 h
        refine e_icmp_eq (tgt := 46) hX zcdX9_chalk_29.2.2.1 (by decide) (m_eq (by decide +kernel)) h (fun h => ?_) (fun h => ?_)
        · exact j46 h
        · refine s_iload_n (k := 2) hX zcdX9_chalk_29.2.2.2.1 rfl rfl ?_
          refine e_if_lt (tgt := 44) hX zcdX9_chalk_29.2.2.2.2.1 (by decide) z_lt h (fun h => ?_) (fun h => ?_)
          · refine s_iconst (v := (-1)) hX zcdX9_chalk_44.1 (by decide) ?_
            exact e_ireti hX hR zcdX9_chalk_44.2.1 h
          · refine s_iload_n (k := 2) hX zcdX9_chalk_29.2.2.2.2.2.1 rfl rfl ?_
            refine s_iload_n (k := 1) hX zcdX9_chalk_29.2.2.2.2.2.2.1 rfl rfl ?_
            refine e_icmp_lt (tgt := 46) hX zcdX9_chalk_29.2.2.2.2.2.2.2 (by decide) r_lt h (fun h => ?_) (fun h => ?_)
            · exact j46 h
            · refine s_iconst (v := (-1)) hX zcdX9_chalk_44.1 (by decide) ?_
              exact e_ireti hX hR zcdX9_chalk_44.2.1 h
      · refine s_iconst (v := (-1)) hX zcdX9_chalk_16.2.2.2.2.2.2.1 (by decide) ?_
        exact e_ireti hX hR zcdX9_chalk_16.2.2.2.2.2.2.2 h
set_option maxHeartbeats 4000000 in
theorem t_X9_check (v1 : Int32) (M : Mem) : AXi yX9_check cX9_check 4 (some .int) 1 60 glC (fun ad => [.ref (ad 0), .int v1]) M (f_X9_check M v1) := by
  intro r0 h
  refine AM.of (by decide) (fun _ => Nat.le_of_ble_eq_true rfl) (fun X ad cI cZ cB hX hR => ?_)
  show V X M [(0, .ref (ad 0)), (1, .int v1)] [] 0
  refine s_aload_n (k := 0) hX zcdX9_chalk_121.2.2.2.1 rfl rfl ?_
  refine s_get hX fX9_25 oC0 rfl zcdX9_chalk_121.2.2.2.2.1 ?_
  refine s_iload_n (k := 1) hX zcdX9_chalk_121.2.2.2.2.2.1 rfl rfl ?_
  refine s_iconst (v := (nI 0)) hX zcdX9_chalk_121.2.2.2.2.2.2.1 (by decide) ?_
  refine s_bipush (v := (nI 40)) hX zcdX9_chalk_121.2.2.2.2.2.2.2 (by decide) ?_
  refine e_callVp hX (t_X7_holds v1 (nI 0) (nI 40) M) mX7_holds lX9_119 (by decide) (by decide) oC19 rfl rfl rfl rfl rfl (Nat.le_of_ble_eq_true rfl) zcdX9_check_8.1 h (fun r_1 h => ?_)
  refine e_if_ne (tgt := 17) hX zcdX9_check_8.2.1 (by decide) z_eq h (fun h => ?_) (fun h => ?_)
  · refine s_aload_n (k := 0) hX zcdX9_check_8.2.2.2.2.1 rfl rfl ?_
    refine s_get hX fX9_25 oC0 rfl zcdX9_check_8.2.2.2.2.2.1 ?_
    refine s_iload_n (k := 1) hX zcdX9_check_8.2.2.2.2.2.2.1 rfl rfl ?_
    refine e_callVv hX (t_X7_open v1 M) mX7_open lX9_123 (by decide) (by decide) oC19 rfl rfl rfl rfl rfl (Nat.le_of_ble_eq_true rfl) zcdX9_check_8.2.2.2.2.2.2.2 h (fun M_2 h => ?_)
    refine s_iconst (v := (nI 0)) hX zcdX9_check_25.1 (by decide) ?_
    refine s_istore_n (lv' := [(0, .ref (ad 0)), (1, .int v1), (2, .int (nI 0))]) hX zcdX9_check_25.2.1 rfl (by decide) rfl ?_
    have lp27 : ∀ (N27 : Nat) (y2_27 : Int32), wlp1 (f_X9_check_B27 v1 M_2) N27 y2_27 = some r0 → V X M_2 [(0, .ref (ad 0)), (1, .int v1), (2, .int y2_27)] [] 27 := by
      intro N27
      induction N27 with
      | zero => exact fun _ h => e_none h
      | succ N27 ih27 =>
        intro y2_27 h
        replace h : f_X9_check_B27 v1 M_2 (wlp1 (f_X9_check_B27 v1 M_2) N27) y2_27 = some r0 := h
        generalize wlp1 (f_X9_check_B27 v1 M_2) N27 = ag27 at ih27 h
        refine s_iload_n (k := 2) hX zcdX9_check_25.2.2.1 rfl rfl ?_
        refine s_iload_n (k := 1) hX zcdX9_check_25.2.2.2.1 rfl rfl ?_
        refine e_icmp_ge (tgt := 79) hX zcdX9_check_25.2.2.2.2.1 (by decide) r_le h (fun h => ?_) (fun h => ?_)
        · refine s_iconst (v := (-1)) hX zcdX9_check_71.2.2.2.2.1 (by decide) ?_
          exact e_ireti hX hR zcdX9_check_71.2.2.2.2.2.1 h
        · refine s_aload_n (k := 0) hX zcdX9_check_25.2.2.2.2.2.1 rfl rfl ?_
          refine s_get hX fX9_10 oC0 rfl zcdX9_check_25.2.2.2.2.2.2.1 ?_
          refine s_iload_n (k := 2) hX zcdX9_check_25.2.2.2.2.2.2.2 rfl rfl ?_
          refine e_callVp hX (t_X2_isTold 1 (Or.inl rfl) y2_27 M_2) mX2_isTold lX9_98 (by decide) (by decide) oC1 rfl rfl rfl rfl rfl (Nat.le_of_ble_eq_true rfl) zcdX9_check_37.1 h (fun r_3 h => ?_)
          have j58 : ∀ (t0_58 : Int32), f_X9_check_L58 M_2 ag27 y2_27 t0_58 = some r0 → V X M_2 [(0, .ref (ad 0)), (1, .int v1), (2, .int y2_27)] [.int t0_58] 58 := by
            intro t0_58 h
            refine s_istore_n (lv' := [(0, .ref (ad 0)), (1, .int v1), (2, .int y2_27), (3, .int t0_58)]) hX zcdX9_check_55.2.1 rfl (by decide) rfl ?_
            refine s_aload_n (k := 0) hX zcdX9_check_55.2.2.1 rfl rfl ?_
            refine s_get hX fX9_25 oC0 rfl zcdX9_check_55.2.2.2.1 ?_
            refine s_iload_n (k := 2) hX zcdX9_check_55.2.2.2.2.1 rfl rfl ?_
            refine e_callVp hX (t_X7_byteAt y2_27 M_2) mX7_byteAt lX9_265 (by decide) (by decide) oC19 rfl rfl rfl rfl rfl (Nat.le_of_ble_eq_true rfl) zcdX9_check_55.2.2.2.2.2.1 h (fun r_4 h => ?_)
            refine s_iload_n (k := 3) hX zcdX9_check_55.2.2.2.2.2.2.1 rfl rfl ?_
            refine e_icmp_eq (tgt := 73) hX zcdX9_check_55.2.2.2.2.2.2.2 (by decide) r_eq h (fun h => ?_) (fun h => ?_)
            · refine s_iinc (k := 2) (v := (y2_27 + (nI 1))) (lv' := [(0, .ref (ad 0)), (1, .int v1), (3, .int t0_58), (2, .int (y2_27 + (nI 1)))]) hX zcdX9_check_71.2.2.1 (congrArg (fun z => y2_27 + z) (by decide)) (by decide) rfl rfl ?_
              refine s_goto (tgt := 27) hX zcdX9_check_71.2.2.2.1 (by decide) ?_
              refine s_loc [0, 1, 3] rfl ?_
              exact ih27 (y2_27 + (nI 1)) h
            · refine s_iload_n (k := 2) hX zcdX9_check_71.1 rfl rfl ?_
              exact e_ireti hX hR zcdX9_check_71.2.1 h
          refine e_if_eq (tgt := 55) hX zcdX9_check_37.2.1 (by decide) z_eq h (fun h => ?_) (fun h => ?_)
          · refine s_sipush (v := (nI 255)) hX zcdX9_check_55.1 (by decide) ?_
            exact j58 (nI 255) h
          · refine s_aload_n (k := 0) hX zcdX9_check_37.2.2.1 rfl rfl ?_
            refine s_get hX fX9_10 oC0 rfl zcdX9_check_37.2.2.2.1 ?_
            refine s_get hX fX9_152 oC1 rfl zcdX9_check_37.2.2.2.2.1 ?_
            refine s_iload_n (k := 2) hX zcdX9_check_37.2.2.2.2.2.1 rfl rfl ?_
            refine e_iald hX aC2 zcdX9_check_37.2.2.2.2.2.2.1 h (fun h => ?_)
            refine s_goto (tgt := 58) hX zcdX9_check_37.2.2.2.2.2.2.2 (by decide) ?_
            exact j58 (M_2 2 (ix y2_27)) h
    exact lp27 FU (nI 0) h
  · refine s_bipush (v := (-2)) hX zcdX9_check_8.2.2.1 (by decide) ?_
    exact e_ireti hX hR zcdX9_check_8.2.2.2.1 h
set_option maxHeartbeats 4000000 in
theorem t_X9_toldPeople (M : Mem) : AXp yX9_toldPeople cX9_toldPeople 3 (some .int) 0 60 glC (fun ad => [.ref (ad 0)]) M (f_X9_toldPeople M) := by
  intro r0 h
  refine AM.of (by decide) (fun _ => Nat.le_of_ble_eq_true rfl) (fun X ad cI cZ cB hX hR => ?_)
  show V X M [(0, .ref (ad 0))] [] 0
  refine s_iconst (v := (nI 0)) hX zcdX9_check_71.2.2.2.2.2.2.1 (by decide) ?_
  refine s_istore_n (lv' := [(0, .ref (ad 0)), (1, .int (nI 0))]) hX zcdX9_check_71.2.2.2.2.2.2.2 rfl (by decide) rfl ?_
  refine s_iconst (v := (nI 0)) hX zcdX9_toldPeople_2.1 (by decide) ?_
  refine s_istore_n (lv' := [(0, .ref (ad 0)), (1, .int (nI 0)), (2, .int (nI 0))]) hX zcdX9_toldPeople_2.2.1 rfl (by decide) rfl ?_
  have lp4 : ∀ (N4 : Nat) (y1_4 : Int32) (y2_4 : Int32), wlp2 (f_X9_toldPeople_B4 M) N4 y1_4 y2_4 = some r0 → V X M [(0, .ref (ad 0)), (1, .int y1_4), (2, .int y2_4)] [] 4 := by
    intro N4
    induction N4 with
    | zero => exact fun _ _ h => e_none h
    | succ N4 ih4 =>
      intro y1_4 y2_4 h
      replace h : f_X9_toldPeople_B4 M (wlp2 (f_X9_toldPeople_B4 M) N4) y1_4 y2_4 = some r0 := h
      generalize wlp2 (f_X9_toldPeople_B4 M) N4 = ag4 at ih4 h
      refine s_iload_n (k := 2) hX zcdX9_toldPeople_2.2.2.1 rfl rfl ?_
      refine s_bipush (v := (nI 8)) hX zcdX9_toldPeople_2.2.2.2.1 (by decide) ?_
      refine e_icmp_ge (tgt := 31) hX zcdX9_toldPeople_2.2.2.2.2.1 (by decide) (m_ge (by decide +kernel)) h (fun h => ?_) (fun h => ?_)
      · refine s_iload_n (k := 1) hX zcdX9_toldPeople_25.2.2.1 rfl rfl ?_
        exact e_iretp hX hR zcdX9_toldPeople_25.2.2.2.1 h
      · refine s_aload_n (k := 0) hX zcdX9_toldPeople_2.2.2.2.2.2.1 rfl rfl ?_
        refine s_get hX fX9_64 oC0 rfl zcdX9_toldPeople_2.2.2.2.2.2.2.1 ?_
        refine s_iload_n (k := 2) hX zcdX9_toldPeople_2.2.2.2.2.2.2.2 rfl rfl ?_
        refine e_iald hX aC43 zcdX9_toldPeople_15.1 h (fun h => ?_)
        refine e_if_eq (tgt := 25) hX zcdX9_toldPeople_15.2.1 (by decide) z_eq h (fun h => ?_) (fun h => ?_)
        · refine s_iinc (k := 2) (v := (y2_4 + (nI 1))) (lv' := [(0, .ref (ad 0)), (1, .int y1_4), (2, .int (y2_4 + (nI 1)))]) hX zcdX9_toldPeople_25.1 (congrArg (fun z => y2_4 + z) (by decide)) (by decide) rfl rfl ?_
          refine s_goto (tgt := 4) hX zcdX9_toldPeople_25.2.1 (by decide) ?_
          exact ih4 y1_4 (y2_4 + (nI 1)) h
        · refine s_iload_n (k := 1) hX zcdX9_toldPeople_15.2.2.1 rfl rfl ?_
          refine s_iconst (v := (nI 1)) hX zcdX9_toldPeople_15.2.2.2.1 (by decide) ?_
          refine s_iload_n (k := 2) hX zcdX9_toldPeople_15.2.2.2.2.1 rfl rfl ?_
          refine e_ishl hX zcdX9_toldPeople_15.2.2.2.2.2.1 ?_
          refine s_ior hX zcdX9_toldPeople_15.2.2.2.2.2.2.1 ?_
          refine e_bnd h (fun x_1 h => ?_)
          refine s_istore_n (lv' := [(0, .ref (ad 0)), (2, .int y2_4), (1, .int x_1)]) hX zcdX9_toldPeople_15.2.2.2.2.2.2.2 rfl (by decide) rfl ?_
          refine s_iinc (k := 1) (v := (y2_4 + (nI 1))) (lv' := [(0, .ref (ad 0)), (1, .int x_1), (2, .int (y2_4 + (nI 1)))]) hX zcdX9_toldPeople_25.1 (congrArg (fun z => y2_4 + z) (by decide)) (by decide) rfl rfl ?_
          refine s_goto (tgt := 4) hX zcdX9_toldPeople_25.2.1 (by decide) ?_
          exact ih4 x_1 (y2_4 + (nI 1)) h
  exact lp4 FU (nI 0) (nI 0) h
set_option maxHeartbeats 4000000 in
theorem t_X9_strideOf (v1 : Int32) (M : Mem) : AXp yX9_strideOf cX9_strideOf 2 (some .int) 0 60 glC (fun ad => [.ref (ad 0), .int v1]) M (f_X9_strideOf M v1) := by
  intro r0 h
  refine AM.of (by decide) (fun _ => Nat.le_of_ble_eq_true rfl) (fun X ad cI cZ cB hX hR => ?_)
  show V X M [(0, .ref (ad 0)), (1, .int v1)] [] 0
  refine s_iload_n (k := 1) hX zcdX9_toldPeople_25.2.2.2.2.1 rfl rfl ?_
  refine e_if_lt (tgt := 19) hX zcdX9_toldPeople_25.2.2.2.2.2.1 (by decide) z_lt h (fun h => ?_) (fun h => ?_)
  · refine s_iconst (v := (nI 0)) hX zcdX9_strideOf_7.2.2.2.2.2.2.1 (by decide) ?_
    exact e_iretp hX hR zcdX9_strideOf_7.2.2.2.2.2.2.2 h
  · refine s_iload_n (k := 1) hX zcdX9_toldPeople_25.2.2.2.2.2.2.1 rfl rfl ?_
    refine s_bipush (v := (nI 8)) hX zcdX9_toldPeople_25.2.2.2.2.2.2.2 (by decide) ?_
    refine e_icmp_ge (tgt := 19) hX zcdX9_strideOf_7.1 (by decide) (m_ge (by decide +kernel)) h (fun h => ?_) (fun h => ?_)
    · refine s_iconst (v := (nI 0)) hX zcdX9_strideOf_7.2.2.2.2.2.2.1 (by decide) ?_
      exact e_iretp hX hR zcdX9_strideOf_7.2.2.2.2.2.2.2 h
    · refine s_aload_n (k := 0) hX zcdX9_strideOf_7.2.1 rfl rfl ?_
      refine s_get hX fX9_64 oC0 rfl zcdX9_strideOf_7.2.2.1 ?_
      refine s_iload_n (k := 1) hX zcdX9_strideOf_7.2.2.2.1 rfl rfl ?_
      refine e_iald hX aC43 zcdX9_strideOf_7.2.2.2.2.1 h (fun h => ?_)
      refine s_goto (tgt := 20) hX zcdX9_strideOf_7.2.2.2.2.2.1 (by decide) ?_
      exact e_iretp hX hR zcdX9_strideOf_7.2.2.2.2.2.2.2 h
set_option maxHeartbeats 4000000 in
theorem t_X9_count (v1 : Int32) (M : Mem) : AXp yX9_count cX9_count 2 (some .int) 1 60 glC (fun ad => [.ref (ad 0), .int v1]) M (f_X9_count M v1) := by
  intro r0 h
  refine AM.of (by decide) (fun _ => Nat.le_of_ble_eq_true rfl) (fun X ad cI cZ cB hX hR => ?_)
  show V X M [(0, .ref (ad 0)), (1, .int v1)] [] 0
  refine s_iload_n (k := 1) hX zcdX9_count_0.1 rfl rfl ?_
  refine e_if h (fun c0 h => ?_) (fun c0 h => ?_)
  · refine s_tabIn (tgt := 44) (off := 43) hX zcdX9_count_0.2.1 (by omega) (by omega) (by rw [c0]; rfl) (by decide) ?_
    refine s_aload_n (k := 0) hX zcdX9_count_0.2.2.1 rfl rfl ?_
    refine s_get hX fX9_10 oC0 rfl zcdX9_count_0.2.2.2.1 ?_
    refine s_get hX fX9_285 oC1 rfl zcdX9_count_0.2.2.2.2.1 ?_
    exact e_iretp hX hR zcdX9_count_0.2.2.2.2.2.1 h
  refine e_if h (fun c1 h => ?_) (fun c1 h => ?_)
  · refine s_tabIn (tgt := 52) (off := 51) hX zcdX9_count_0.2.1 (by omega) (by omega) (by rw [c1]; rfl) (by decide) ?_
    refine s_aload_n (k := 0) hX zcdX9_count_0.2.2.2.2.2.2.1 rfl rfl ?_
    refine s_get hX fX9_10 oC0 rfl zcdX9_count_0.2.2.2.2.2.2.2 ?_
    refine e_callVp hX (t_X2_countTold 1 (Or.inl rfl) M) mX2_countTold lX9_234 (by decide) (by decide) oC1 rfl rfl rfl rfl rfl (Nat.le_of_ble_eq_true rfl) zcdX9_count_56.1 h (fun r_1 h => ?_)
    exact e_iretp hX hR zcdX9_count_56.2.1 h
  refine e_if h (fun c2 h => ?_) (fun c2 h => ?_)
  · refine s_tabIn (tgt := 60) (off := 59) hX zcdX9_count_0.2.1 (by omega) (by omega) (by rw [c2]; rfl) (by decide) ?_
    refine s_aload_n (k := 0) hX zcdX9_count_56.2.2.1 rfl rfl ?_
    refine s_get hX fX9_10 oC0 rfl zcdX9_count_56.2.2.2.1 ?_
    refine e_callVp hX (t_X2_countSunk 1 (Or.inl rfl) M) mX2_countSunk lX9_161 (by decide) (by decide) oC1 rfl rfl rfl rfl rfl (Nat.le_of_ble_eq_true rfl) zcdX9_count_56.2.2.2.2.1 h (fun r_2 h => ?_)
    exact e_iretp hX hR zcdX9_count_56.2.2.2.2.2.1 h
  refine e_if h (fun c3 h => ?_) (fun c3 h => ?_)
  · refine s_tabIn (tgt := 68) (off := 67) hX zcdX9_count_0.2.1 (by omega) (by omega) (by rw [c3]; rfl) (by decide) ?_
    refine s_aload_n (k := 0) hX zcdX9_count_56.2.2.2.2.2.2.1 rfl rfl ?_
    refine e_callVp hX (t_X9_toldPeople M) mX9_toldPeople lX9_288 (by decide) (by decide) oC0 rfl rfl rfl rfl rfl (Nat.le_of_ble_eq_true rfl) zcdX9_count_56.2.2.2.2.2.2.2 h (fun r_3 h => ?_)
    exact e_iretp hX hR zcdX9_count_72.1 h
  refine e_if h (fun c4 h => ?_) (fun c4 h => ?_)
  · refine s_tabIn (tgt := 73) (off := 72) hX zcdX9_count_0.2.1 (by omega) (by omega) (by rw [c4]; rfl) (by decide) ?_
    refine s_aload_n (k := 0) hX zcdX9_count_72.2.1 rfl rfl ?_
    refine s_get hX fX9_71 oC0 rfl zcdX9_count_72.2.2.1 ?_
    refine e_rl h (fun c_4 hc_4 ecc_4 h => ?_)
    refine s_get hX fX9_291 (oL hc_4) rfl zcdX9_count_72.2.2.2.1 ?_
    exact e_iretp hX hR zcdX9_count_72.2.2.2.2.1 h
  refine e_if h (fun c5 h => ?_) (fun c5 h => ?_)
  · refine s_tabIn (tgt := 81) (off := 80) hX zcdX9_count_0.2.1 (by omega) (by omega) (by rw [c5]; rfl) (by decide) ?_
    refine s_aload_n (k := 0) hX zcdX9_count_72.2.2.2.2.2.1 rfl rfl ?_
    refine s_get hX fX9_25 oC0 rfl zcdX9_count_72.2.2.2.2.2.2.1 ?_
    refine s_get hX fX9_111 oC19 rfl zcdX9_count_72.2.2.2.2.2.2.2 ?_
    exact e_iretp hX hR zcdX9_count_88.1 h
  refine e_if h (fun c6 h => ?_) (fun c6 h => ?_)
  · refine s_tabIn (tgt := 89) (off := 88) hX zcdX9_count_0.2.1 (by omega) (by omega) (by rw [c6]; rfl) (by decide) ?_
    refine s_aload_n (k := 0) hX zcdX9_count_88.2.1 rfl rfl ?_
    refine s_get hX fX9_10 oC0 rfl zcdX9_count_88.2.2.1 ?_
    refine s_get hX fX9_282 oC1 rfl zcdX9_count_88.2.2.2.1 ?_
    exact e_iretp hX hR zcdX9_count_88.2.2.2.2.1 h
  refine s_tabOut (tgt := 97) hX zcdX9_count_0.2.1 (by omega) (by decide) ?_
  refine s_iload_n (k := 1) hX zcdX9_count_88.2.2.2.2.2.1 rfl rfl ?_
  refine s_bipush (v := (nI 10)) hX zcdX9_count_88.2.2.2.2.2.2.1 (by decide) ?_
  refine e_icmp_lt (tgt := 125) hX zcdX9_count_88.2.2.2.2.2.2.2 (by decide) (m_lt (by decide +kernel)) h (fun h => ?_) (fun h => ?_)
  · refine s_iconst (v := (-1)) hX zcdX9_count_116.2.2.2.2.1 (by decide) ?_
    exact e_iretp hX hR zcdX9_count_116.2.2.2.2.2.1 h
  · refine s_aload_n (k := 0) hX zcdX9_count_103.1 rfl rfl ?_
    refine s_iload_n (k := 1) hX zcdX9_count_103.2.1 rfl rfl ?_
    refine s_bipush (v := (nI 10)) hX zcdX9_count_103.2.2.1 (by decide) ?_
    refine s_isub hX zcdX9_count_103.2.2.2.1 ?_
    refine e_callVp hX (t_X9_strideOf (v1 - (nI 10)) M) mX9_strideOf lX9_175 (by decide) (by decide) oC0 rfl rfl rfl rfl rfl (Nat.le_of_ble_eq_true rfl) zcdX9_count_103.2.2.2.2.1 h (fun r_5 h => ?_)
    refine e_if_eq (tgt := 125) hX zcdX9_count_103.2.2.2.2.2.1 (by decide) z_eq h (fun h => ?_) (fun h => ?_)
    · refine s_iconst (v := (-1)) hX zcdX9_count_116.2.2.2.2.1 (by decide) ?_
      exact e_iretp hX hR zcdX9_count_116.2.2.2.2.2.1 h
    · refine s_aload_n (k := 0) hX zcdX9_count_103.2.2.2.2.2.2.1 rfl rfl ?_
      refine s_iload_n (k := 1) hX zcdX9_count_103.2.2.2.2.2.2.2 rfl rfl ?_
      refine s_bipush (v := (nI 10)) hX zcdX9_count_116.1 (by decide) ?_
      refine s_isub hX zcdX9_count_116.2.1 ?_
      refine e_callVp hX (t_X9_strideOf (v1 - (nI 10)) M) mX9_strideOf lX9_175 (by decide) (by decide) oC0 rfl rfl rfl rfl rfl (Nat.le_of_ble_eq_true rfl) zcdX9_count_116.2.2.1 h (fun r_6 h => ?_)
      refine s_goto (tgt := 126) hX zcdX9_count_116.2.2.2.1 (by decide) ?_
      exact e_iretp hX hR zcdX9_count_116.2.2.2.2.2.1 h
set_option maxHeartbeats 4000000 in
theorem t_X9_isStone (v0 : Int32) (M : Mem) : AXp yX9_isStone cX9_isStone 1 (some .boolean) 0 60 glC (fun ad => [.int v0]) M (f_X9_isStone v0) := by
  intro r0 h
  refine AM.of (by decide) (fun _ => Nat.le_of_ble_eq_true rfl) (fun X ad cI cZ cB hX hR => ?_)
  show V X M [(0, .int v0)] [] 0
  refine s_iload_n (k := 0) hX zcdX9_count_116.2.2.2.2.2.2.1 rfl rfl ?_
  refine e_if_lt (tgt := 14) hX zcdX9_count_116.2.2.2.2.2.2.2 (by decide) z_lt h (fun h => ?_) (fun h => ?_)
  · refine s_iconst (v := (nI 0)) hX zcdX9_isStone_4.2.2.2.2.2.1 (by decide) ?_
    exact e_zretpL hX hR zcdX9_isStone_4.2.2.2.2.2.2.1 (by decide) h
  · refine s_iload_n (k := 0) hX zcdX9_isStone_4.1 rfl rfl ?_
    refine s_bipush (v := (nI 40)) hX zcdX9_isStone_4.2.1 (by decide) ?_
    refine e_icmp_ge (tgt := 14) hX zcdX9_isStone_4.2.2.1 (by decide) (m_ge (by decide +kernel)) h (fun h => ?_) (fun h => ?_)
    · refine s_iconst (v := (nI 0)) hX zcdX9_isStone_4.2.2.2.2.2.1 (by decide) ?_
      exact e_zretpL hX hR zcdX9_isStone_4.2.2.2.2.2.2.1 (by decide) h
    · refine s_iconst (v := (nI 1)) hX zcdX9_isStone_4.2.2.2.1 (by decide) ?_
      refine s_goto (tgt := 15) hX zcdX9_isStone_4.2.2.2.2.1 (by decide) ?_
      exact e_zretpL hX hR zcdX9_isStone_4.2.2.2.2.2.2.1 (by decide) h
set_option maxHeartbeats 4000000 in
theorem t_X9_cross (v1 : Int32) (v2 : Int32) (M : Mem) : AXi yX9_cross cX9_cross 4 (some .int) 7 60 glC (fun ad => [.ref (ad 0), .int v1, .int v2]) M (f_X9_cross M v1 v2) := by
  intro r0 h
  refine AM.of (by decide) (fun _ => Nat.le_of_ble_eq_true rfl) (fun X ad cI cZ cB hX hR => ?_)
  show V X M [(0, .ref (ad 0)), (1, .int v1), (2, .int v2)] [] 0
  refine s_aload_n (k := 0) hX zcdX9_isStone_4.2.2.2.2.2.2.2 rfl rfl ?_
  refine s_iload_n (k := 1) hX zcdX9_cross_1.1 rfl rfl ?_
  refine e_callVp hX (t_X9_strideOf v1 M) mX9_strideOf lX9_175 (by decide) (by decide) oC0 rfl rfl rfl rfl rfl (Nat.le_of_ble_eq_true rfl) zcdX9_cross_1.2.1 h (fun r_1 h => ?_)
  refine s_istore_n (lv' := [(0, .ref (ad 0)), (1, .int v1), (2, .int v2), (3, .int r_1)]) hX zcdX9_cross_1.2.2.1 rfl (by decide) rfl ?_
  refine s_iload_n (k := 3) hX zcdX9_cross_1.2.2.2.1 rfl rfl ?_
  refine e_if_eq (tgt := 29) hX zcdX9_cross_1.2.2.2.2.1 (by decide) z_eq h (fun h => ?_) (fun h => ?_)
  · refine s_iconst (v := (-1)) hX zcdX9_cross_17.2.2.2.2.2.2.1 (by decide) ?_
    exact e_ireti hX hR zcdX9_cross_17.2.2.2.2.2.2.2 h
  · refine s_iload_n (k := 2) hX zcdX9_cross_1.2.2.2.2.2.1 rfl rfl ?_
    refine e_callSp hX (t_X9_isStone v2 M) mX9_isStone lX9_82 (by decide) (by decide) rfl rfl (Nat.le_of_ble_eq_true rfl) zcdX9_cross_1.2.2.2.2.2.2.1 h (fun r_2 h => ?_)
    have j31 : f_X9_cross_L31 M v2 r_1 = some r0 → V X M [(0, .ref (ad 0)), (2, .int v2), (3, .int r_1)] [] 31 := by
      intro  h
      refine s_aload_n (k := 0) hX zcdX9_cross_31.1 rfl rfl ?_
      refine s_get hX fX9_39 oC0 rfl zcdX9_cross_31.2.1 ?_
      refine s_aload_n (k := 0) hX zcdX9_cross_31.2.2.1 rfl rfl ?_
      refine s_get hX fX9_10 oC0 rfl zcdX9_cross_31.2.2.2.1 ?_
      refine s_iload_n (k := 2) hX zcdX9_cross_31.2.2.2.2.1 rfl rfl ?_
      refine s_iload_n (k := 1) hX zcdX9_cross_31.2.2.2.2.2.1 rfl rfl ?_
      refine e_callVi hX (t_X8_crossing 1 (Or.inl rfl) r_1 v2 M) mX8_crossing lX9_178 (by decide) (by decide) oC23 rfl rfl rfl rfl rfl (Nat.le_of_ble_eq_true rfl) zcdX9_cross_31.2.2.2.2.2.2.1 h (fun r_3 M_4 h => ?_)
      exact e_ireti hX hR zcdX9_cross_31.2.2.2.2.2.2.2 h
    refine e_if_ne (tgt := 31) hX zcdX9_cross_1.2.2.2.2.2.2.2 (by decide) z_eq h (fun h => ?_) (fun h => ?_)
    · refine s_loc [0, 2, 3] rfl ?_
      exact j31 h
    · refine s_iload_n (k := 2) hX zcdX9_cross_17.1 rfl rfl ?_
      refine s_bipush (v := (nI 100)) hX zcdX9_cross_17.2.1 (by decide) ?_
      refine e_icmp_eq (tgt := 31) hX zcdX9_cross_17.2.2.1 (by decide) (m_eq (by decide +kernel)) h (fun h => ?_) (fun h => ?_)
      · refine s_loc [0, 2, 3] rfl ?_
        exact j31 h
      · refine s_iload_n (k := 2) hX zcdX9_cross_17.2.2.2.1 rfl rfl ?_
        refine s_bipush (v := (nI 101)) hX zcdX9_cross_17.2.2.2.2.1 (by decide) ?_
        refine e_icmp_eq (tgt := 31) hX zcdX9_cross_17.2.2.2.2.2.1 (by decide) (m_eq (by decide +kernel)) h (fun h => ?_) (fun h => ?_)
        · refine s_loc [0, 2, 3] rfl ?_
          exact j31 h
        · refine s_iconst (v := (-1)) hX zcdX9_cross_17.2.2.2.2.2.2.1 (by decide) ?_
          exact e_ireti hX hR zcdX9_cross_17.2.2.2.2.2.2.2 h
set_option maxHeartbeats 4000000 in
theorem t_X9_isEither (v0 : Int32) (M : Mem) : AXp yX9_isEither cX9_isEither 1 (some .boolean) 0 60 glC (fun ad => [.int v0]) M (f_X9_isEither v0) := by
  intro r0 h
  refine AM.of (by decide) (fun _ => Nat.le_of_ble_eq_true rfl) (fun X ad cI cZ cB hX hR => ?_)
  show V X M [(0, .int v0)] [] 0
  refine s_iload_n (k := 0) hX zcdX9_isEither_0.1 rfl rfl ?_
  refine e_if_eq (tgt := 9) hX zcdX9_isEither_0.2.1 (by decide) z_eq h (fun h => ?_) (fun h => ?_)
  · refine s_iconst (v := (nI 1)) hX zcdX9_isEither_0.2.2.2.2.2.1 (by decide) ?_
    refine s_goto (tgt := 14) hX zcdX9_isEither_0.2.2.2.2.2.2.1 (by decide) ?_
    exact e_zretpL hX hR zcdX9_isEither_14.1 (by decide) h
  · refine s_iload_n (k := 0) hX zcdX9_isEither_0.2.2.1 rfl rfl ?_
    refine s_iconst (v := (nI 1)) hX zcdX9_isEither_0.2.2.2.1 (by decide) ?_
    refine e_icmp_ne (tgt := 13) hX zcdX9_isEither_0.2.2.2.2.1 (by decide) (m_eq (by decide +kernel)) h (fun h => ?_) (fun h => ?_)
    · refine s_iconst (v := (nI 0)) hX zcdX9_isEither_0.2.2.2.2.2.2.2 (by decide) ?_
      exact e_zretpL hX hR zcdX9_isEither_14.1 (by decide) h
    · refine s_iconst (v := (nI 1)) hX zcdX9_isEither_0.2.2.2.2.2.1 (by decide) ?_
      refine s_goto (tgt := 14) hX zcdX9_isEither_0.2.2.2.2.2.2.1 (by decide) ?_
      exact e_zretpL hX hR zcdX9_isEither_14.1 (by decide) h
set_option maxHeartbeats 4000000 in
theorem t_X9_driest (v1 : Int32) (v2 : Int32) (M : Mem) : AXi yX9_driest cX9_driest 4 (some .int) 5 60 glC (fun ad => [.ref (ad 0), .int v1, .int v2]) M (f_X9_driest M v1 v2) := by
  intro r0 h
  refine AM.of (by decide) (fun _ => Nat.le_of_ble_eq_true rfl) (fun X ad cI cZ cB hX hR => ?_)
  show V X M [(0, .ref (ad 0)), (1, .int v1), (2, .int v2)] [] 0
  refine s_aload_n (k := 0) hX zcdX9_isEither_14.2.1 rfl rfl ?_
  refine s_iload_n (k := 1) hX zcdX9_isEither_14.2.2.1 rfl rfl ?_
  refine e_callVp hX (t_X9_strideOf v1 M) mX9_strideOf lX9_175 (by decide) (by decide) oC0 rfl rfl rfl rfl rfl (Nat.le_of_ble_eq_true rfl) zcdX9_isEither_14.2.2.2.1 h (fun r_1 h => ?_)
  refine s_istore_n (lv' := [(0, .ref (ad 0)), (1, .int v1), (2, .int v2), (3, .int r_1)]) hX zcdX9_isEither_14.2.2.2.2.1 rfl (by decide) rfl ?_
  refine s_iload_n (k := 3) hX zcdX9_isEither_14.2.2.2.2.2.1 rfl rfl ?_
  refine e_if_eq (tgt := 17) hX zcdX9_isEither_14.2.2.2.2.2.2.1 (by decide) z_eq h (fun h => ?_) (fun h => ?_)
  · refine s_iconst (v := (-1)) hX zcdX9_driest_11.2.2.1 (by decide) ?_
    exact e_ireti hX hR zcdX9_driest_11.2.2.2.1 h
  · refine s_iload_n (k := 2) hX zcdX9_isEither_14.2.2.2.2.2.2.2 rfl rfl ?_
    refine e_callSp hX (t_X9_isEither v2 M) mX9_isEither lX9_182 (by decide) (by decide) rfl rfl (Nat.le_of_ble_eq_true rfl) zcdX9_driest_11.1 h (fun r_2 h => ?_)
    refine e_if_ne (tgt := 19) hX zcdX9_driest_11.2.1 (by decide) z_eq h (fun h => ?_) (fun h => ?_)
    · refine s_aload_n (k := 0) hX zcdX9_driest_11.2.2.2.2.1 rfl rfl ?_
      refine s_get hX fX9_39 oC0 rfl zcdX9_driest_11.2.2.2.2.2.1 ?_
      refine s_aload_n (k := 0) hX zcdX9_driest_11.2.2.2.2.2.2.1 rfl rfl ?_
      refine s_get hX fX9_10 oC0 rfl zcdX9_driest_11.2.2.2.2.2.2.2 ?_
      refine s_iload_n (k := 3) hX zcdX9_driest_27.1 rfl rfl ?_
      refine s_iload_n (k := 2) hX zcdX9_driest_27.2.1 rfl rfl ?_
      refine e_callVi hX (t_X8_driestWay 1 (Or.inl rfl) r_1 v2 M) mX8_driestWay lX9_185 (by decide) (by decide) oC23 rfl rfl rfl rfl rfl (Nat.le_of_ble_eq_true rfl) zcdX9_driest_27.2.2.1 h (fun r_3 M_4 h => ?_)
      exact e_ireti hX hR zcdX9_driest_27.2.2.2.1 h
    · refine s_iconst (v := (-1)) hX zcdX9_driest_11.2.2.1 (by decide) ?_
      exact e_ireti hX hR zcdX9_driest_11.2.2.2.1 h
set_option maxHeartbeats 4000000 in
theorem t_X9_unlike (v1 : Int32) (v2 : Int32) (M : Mem) : AXp yX9_unlike cX9_unlike 5 (some .int) 1 60 glC (fun ad => [.ref (ad 0), .int v1, .int v2]) M (f_X9_unlike M v1 v2) := by
  intro r0 h
  refine AM.of (by decide) (fun _ => Nat.le_of_ble_eq_true rfl) (fun X ad cI cZ cB hX hR => ?_)
  show V X M [(0, .ref (ad 0)), (1, .int v1), (2, .int v2)] [] 0
  refine s_iconst (v := (nI 0)) hX zcdX9_driest_27.2.2.2.2.1 (by decide) ?_
  refine s_istore_n (lv' := [(0, .ref (ad 0)), (1, .int v1), (2, .int v2), (3, .int (nI 0))]) hX zcdX9_driest_27.2.2.2.2.2.1 rfl (by decide) rfl ?_
  refine s_iconst (v := (nI 0)) hX zcdX9_driest_27.2.2.2.2.2.2.1 (by decide) ?_
  refine s_istore (lv' := [(0, .ref (ad 0)), (1, .int v1), (2, .int v2), (3, .int (nI 0)), (4, .int (nI 0))]) hX zcdX9_driest_27.2.2.2.2.2.2.2 (by decide) rfl ?_
  have lp5 : ∀ (N5 : Nat) (y3_5 : Int32) (y4_5 : Int32), wlp2 (f_X9_unlike_B5 M v1 v2) N5 y3_5 y4_5 = some r0 → V X M [(0, .ref (ad 0)), (1, .int v1), (2, .int v2), (3, .int y3_5), (4, .int y4_5)] [] 5 := by
    intro N5
    induction N5 with
    | zero => exact fun _ _ h => e_none h
    | succ N5 ih5 =>
      intro y3_5 y4_5 h
      replace h : f_X9_unlike_B5 M v1 v2 (wlp2 (f_X9_unlike_B5 M v1 v2) N5) y3_5 y4_5 = some r0 := h
      generalize wlp2 (f_X9_unlike_B5 M v1 v2) N5 = ag5 at ih5 h
      refine s_iload (k := 4) hX zcdX9_unlike_5.1 rfl ?_
      refine s_iload_n (k := 2) hX zcdX9_unlike_5.2.1 rfl rfl ?_
      have j51 : f_X9_unlike_L51 y3_5 = some r0 → V X M [(3, .int y3_5)] [] 51 := by
        intro  h
        refine s_iload_n (k := 0) hX zcdX9_unlike_51.1 rfl rfl ?_
        refine e_mabs hX lX9_319 mJ9_abs (by omega) (Nat.le_of_ble_eq_true rfl) zcdX9_unlike_51.2.1 ?_
        exact e_iretp hX hR zcdX9_unlike_51.2.2.1 h
      refine e_icmp_ge (tgt := 51) hX zcdX9_unlike_5.2.2.1 (by decide) r_le h (fun h => ?_) (fun h => ?_)
      · refine s_loc [3] rfl ?_
        exact j51 h
      · refine s_iload_n (k := 3) hX zcdX9_unlike_5.2.2.2.1 rfl rfl ?_
        refine s_iload_n (k := 1) hX zcdX9_unlike_5.2.2.2.2.1 rfl rfl ?_
        refine s_iload (k := 4) hX zcdX9_unlike_5.2.2.2.2.2.1 rfl ?_
        refine e_ishr hX zcdX9_unlike_5.2.2.2.2.2.2.1 ?_
        refine s_iconst (v := (nI 1)) hX zcdX9_unlike_5.2.2.2.2.2.2.2 (by decide) ?_
        refine s_iand hX zcdX9_unlike_17.1 ?_
        refine e_if_eq (tgt := 33) hX zcdX9_unlike_17.2.1 (by decide) z_eq h (fun h => ?_) (fun h => ?_)
        · refine s_aload_n (k := 0) hX zcdX9_unlike_17.2.2.2.2.2.2.2 rfl rfl ?_
          refine s_get hX fX9_25 oC0 rfl zcdX9_unlike_34.1 ?_
          refine s_iload (k := 4) hX zcdX9_unlike_34.2.1 rfl ?_
          refine e_callVp hX (t_X7_byteAt y4_5 M) mX7_byteAt lX9_265 (by decide) (by decide) oC19 rfl rfl rfl rfl rfl (Nat.le_of_ble_eq_true rfl) zcdX9_unlike_34.2.2.1 h (fun r_1 h => ?_)
          refine s_ineg hX zcdX9_unlike_34.2.2.2.1 ?_
          refine s_iadd hX zcdX9_unlike_34.2.2.2.2.1 ?_
          refine e_bnd h (fun x_2 h => ?_)
          refine s_istore_n (lv' := [(0, .ref (ad 0)), (1, .int v1), (2, .int v2), (4, .int y4_5), (3, .int x_2)]) hX zcdX9_unlike_34.2.2.2.2.2.1 rfl (by decide) rfl ?_
          refine s_iinc (k := 3) (v := (y4_5 + (nI 1))) (lv' := [(0, .ref (ad 0)), (1, .int v1), (2, .int v2), (3, .int x_2), (4, .int (y4_5 + (nI 1)))]) hX zcdX9_unlike_34.2.2.2.2.2.2.1 (congrArg (fun z => y4_5 + z) (by decide)) (by decide) rfl rfl ?_
          refine s_goto (tgt := 5) hX zcdX9_unlike_34.2.2.2.2.2.2.2 (by decide) ?_
          exact ih5 x_2 (y4_5 + (nI 1)) h
        · refine s_aload_n (k := 0) hX zcdX9_unlike_17.2.2.1 rfl rfl ?_
          refine s_get hX fX9_25 oC0 rfl zcdX9_unlike_17.2.2.2.1 ?_
          refine s_iload (k := 4) hX zcdX9_unlike_17.2.2.2.2.1 rfl ?_
          refine e_callVp hX (t_X7_byteAt y4_5 M) mX7_byteAt lX9_265 (by decide) (by decide) oC19 rfl rfl rfl rfl rfl (Nat.le_of_ble_eq_true rfl) zcdX9_unlike_17.2.2.2.2.2.1 h (fun r_3 h => ?_)
          refine s_goto (tgt := 43) hX zcdX9_unlike_17.2.2.2.2.2.2.1 (by decide) ?_
          refine s_iadd hX zcdX9_unlike_34.2.2.2.2.1 ?_
          refine e_bnd h (fun x_4 h => ?_)
          refine s_istore_n (lv' := [(0, .ref (ad 0)), (1, .int v1), (2, .int v2), (4, .int y4_5), (3, .int x_4)]) hX zcdX9_unlike_34.2.2.2.2.2.1 rfl (by decide) rfl ?_
          refine s_iinc (k := 3) (v := (y4_5 + (nI 1))) (lv' := [(0, .ref (ad 0)), (1, .int v1), (2, .int v2), (3, .int x_4), (4, .int (y4_5 + (nI 1)))]) hX zcdX9_unlike_34.2.2.2.2.2.2.1 (congrArg (fun z => y4_5 + z) (by decide)) (by decide) rfl rfl ?_
          refine s_goto (tgt := 5) hX zcdX9_unlike_34.2.2.2.2.2.2.2 (by decide) ?_
          exact ih5 x_4 (y4_5 + (nI 1)) h
  exact lp5 FU (nI 0) (nI 0) h
set_option maxHeartbeats 4000000 in
theorem t_X9_evenBag (v1 : Int32) (M : Mem) : AXp yX9_evenBag cX9_evenBag 4 (some .int) 2 60 glC (fun ad => [.ref (ad 0), .int v1]) M (f_X9_evenBag M v1) := by
  intro r0 h
  refine AM.of (by decide) (fun _ => Nat.le_of_ble_eq_true rfl) (fun X ad cI cZ cB hX hR => ?_)
  show V X M [(0, .ref (ad 0)), (1, .int v1)] [] 0
  refine s_iconst (v := (nI 1)) hX zcdX9_unlike_51.2.2.2.1 (by decide) ?_
  refine s_istore_n (lv' := [(0, .ref (ad 0)), (1, .int v1), (2, .int (nI 1))]) hX zcdX9_unlike_51.2.2.2.2.1 rfl (by decide) rfl ?_
  refine s_iconst (v := (nI 1)) hX zcdX9_unlike_51.2.2.2.2.2.1 (by decide) ?_
  refine s_istore_n (lv' := [(0, .ref (ad 0)), (1, .int v1), (2, .int (nI 1)), (3, .int (nI 1))]) hX zcdX9_unlike_51.2.2.2.2.2.2.1 rfl (by decide) rfl ?_
  have lp4 : ∀ (N4 : Nat) (y2_4 : Int32) (y3_4 : Int32), wlp2 (f_X9_evenBag_B4 M v1) N4 y2_4 y3_4 = some r0 → V X M [(0, .ref (ad 0)), (1, .int v1), (2, .int y2_4), (3, .int y3_4)] [] 4 := by
    intro N4
    induction N4 with
    | zero => exact fun _ _ h => e_none h
    | succ N4 ih4 =>
      intro y2_4 y3_4 h
      replace h : f_X9_evenBag_B4 M v1 (wlp2 (f_X9_evenBag_B4 M v1) N4) y2_4 y3_4 = some r0 := h
      generalize wlp2 (f_X9_evenBag_B4 M v1) N4 = ag4 at ih4 h
      refine s_iload_n (k := 3) hX zcdX9_unlike_51.2.2.2.2.2.2.2 rfl rfl ?_
      refine s_iconst (v := (nI 1)) hX zcdX9_evenBag_5.1 (by decide) ?_
      refine s_iload_n (k := 1) hX zcdX9_evenBag_5.2.1 rfl rfl ?_
      refine e_ishl hX zcdX9_evenBag_5.2.2.1 ?_
      refine e_icmp_ge (tgt := 34) hX zcdX9_evenBag_5.2.2.2.1 (by decide) r_le h (fun h => ?_) (fun h => ?_)
      · refine s_iload_n (k := 2) hX zcdX9_evenBag_31.2.1 rfl rfl ?_
        exact e_iretp hX hR zcdX9_evenBag_31.2.2.1 h
      · refine s_aload_n (k := 0) hX zcdX9_evenBag_5.2.2.2.2.1 rfl rfl ?_
        refine s_iload_n (k := 3) hX zcdX9_evenBag_5.2.2.2.2.2.1 rfl rfl ?_
        refine s_iload_n (k := 1) hX zcdX9_evenBag_5.2.2.2.2.2.2.1 rfl rfl ?_
        refine e_callVp hX (t_X9_unlike y3_4 v1 M) mX9_unlike lX9_271 (by decide) (by decide) oC0 rfl rfl rfl rfl rfl (Nat.le_of_ble_eq_true rfl) zcdX9_evenBag_5.2.2.2.2.2.2.2 h (fun r_1 h => ?_)
        refine s_aload_n (k := 0) hX zcdX9_evenBag_17.1 rfl rfl ?_
        refine s_iload_n (k := 2) hX zcdX9_evenBag_17.2.1 rfl rfl ?_
        refine s_iload_n (k := 1) hX zcdX9_evenBag_17.2.2.1 rfl rfl ?_
        refine e_callVp hX (t_X9_unlike y2_4 v1 M) mX9_unlike lX9_271 (by decide) (by decide) oC0 rfl rfl rfl rfl rfl (Nat.le_of_ble_eq_true rfl) zcdX9_evenBag_17.2.2.2.1 h (fun r_2 h => ?_)
        refine e_icmp_ge (tgt := 28) hX zcdX9_evenBag_17.2.2.2.2.1 (by decide) r_le h (fun h => ?_) (fun h => ?_)
        · refine s_iinc (k := 3) (v := (y3_4 + (nI 2))) (lv' := [(0, .ref (ad 0)), (1, .int v1), (2, .int y2_4), (3, .int (y3_4 + (nI 2)))]) hX zcdX9_evenBag_17.2.2.2.2.2.2.2 (congrArg (fun z => y3_4 + z) (by decide)) (by decide) rfl rfl ?_
          refine s_goto (tgt := 4) hX zcdX9_evenBag_31.1 (by decide) ?_
          exact ih4 y2_4 (y3_4 + (nI 2)) h
        · refine s_iload_n (k := 3) hX zcdX9_evenBag_17.2.2.2.2.2.1 rfl rfl ?_
          refine s_istore_n (lv' := [(0, .ref (ad 0)), (1, .int v1), (3, .int y3_4), (2, .int y3_4)]) hX zcdX9_evenBag_17.2.2.2.2.2.2.1 rfl (by decide) rfl ?_
          refine s_iinc (k := 2) (v := (y3_4 + (nI 2))) (lv' := [(0, .ref (ad 0)), (1, .int v1), (2, .int y3_4), (3, .int (y3_4 + (nI 2)))]) hX zcdX9_evenBag_17.2.2.2.2.2.2.2 (congrArg (fun z => y3_4 + z) (by decide)) (by decide) rfl rfl ?_
          refine s_goto (tgt := 4) hX zcdX9_evenBag_31.1 (by decide) ?_
          exact ih4 y3_4 (y3_4 + (nI 2)) h
  exact lp4 FU (nI 1) (nI 1) h
set_option maxHeartbeats 4000000 in
theorem t_X9_feed (v1 : Int32) (v2 : Int32) (v3 : Int32) (v4 : Int32) (v5 : Int32) (M : Mem) : AXi yX9_feed cX9_feed 6 (some .int) 1 60 glC (fun ad => [.ref (ad 0), .int v1, .int v2, .int v3, .int v4, .int v5]) M (f_X9_feed M v1 v2 v3 v4 v5) := by
  intro r0 h
  refine AM.of (by decide) (fun _ => Nat.le_of_ble_eq_true rfl) (fun X ad cI cZ cB hX hR => ?_)
  show V X M [(0, .ref (ad 0)), (1, .int v1), (2, .int v2), (3, .int v3), (4, .int v4), (5, .int v5)] [] 0
  refine s_aload_n (k := 0) hX zcdX9_evenBag_31.2.2.2.1 rfl rfl ?_
  refine s_get hX fX9_25 oC0 rfl zcdX9_evenBag_31.2.2.2.2.1 ?_
  refine s_get hX fX9_111 oC19 rfl zcdX9_evenBag_31.2.2.2.2.2.1 ?_
  refine s_bipush (v := (nI 20)) hX zcdX9_evenBag_31.2.2.2.2.2.2.1 (by decide) ?_
  refine s_iadd hX zcdX9_evenBag_31.2.2.2.2.2.2.2 ?_
  refine s_sipush (v := (nI 260)) hX zcdX9_feed_10.1 (by decide) ?_
  refine e_icmp_le (tgt := 18) hX zcdX9_feed_10.2.1 (by decide) (m_le (by decide +kernel)) h (fun h => ?_) (fun h => ?_)
  · refine s_aload_n (k := 0) hX zcdX9_feed_10.2.2.2.2.1 rfl rfl ?_
    refine s_get hX fX9_25 oC0 rfl zcdX9_feed_10.2.2.2.2.2.1 ?_
    refine s_iload_n (k := 1) hX zcdX9_feed_10.2.2.2.2.2.2.1 rfl rfl ?_
    refine e_callVv hX (t_X7_append v1 M) mX7_append lX9_115 (by decide) (by decide) oC19 rfl rfl rfl rfl rfl (Nat.le_of_ble_eq_true rfl) zcdX9_feed_10.2.2.2.2.2.2.2 h (fun M_1 h => ?_)
    refine s_aload_n (k := 0) hX zcdX9_feed_26.1 rfl rfl ?_
    refine s_get hX fX9_25 oC0 rfl zcdX9_feed_26.2.1 ?_
    refine s_iload_n (k := 2) hX zcdX9_feed_26.2.2.1 rfl rfl ?_
    refine e_callVv hX (t_X7_append v2 M_1) mX7_append lX9_115 (by decide) (by decide) oC19 rfl rfl rfl rfl rfl (Nat.le_of_ble_eq_true rfl) zcdX9_feed_26.2.2.2.1 h (fun M_2 h => ?_)
    refine s_aload_n (k := 0) hX zcdX9_feed_26.2.2.2.2.1 rfl rfl ?_
    refine s_get hX fX9_25 oC0 rfl zcdX9_feed_26.2.2.2.2.2.1 ?_
    refine s_iload_n (k := 3) hX zcdX9_feed_26.2.2.2.2.2.2.1 rfl rfl ?_
    refine e_callVv hX (t_X7_append v3 M_2) mX7_append lX9_115 (by decide) (by decide) oC19 rfl rfl rfl rfl rfl (Nat.le_of_ble_eq_true rfl) zcdX9_feed_26.2.2.2.2.2.2.2 h (fun M_3 h => ?_)
    refine s_aload_n (k := 0) hX zcdX9_feed_42.1 rfl rfl ?_
    refine s_get hX fX9_25 oC0 rfl zcdX9_feed_42.2.1 ?_
    refine s_iload (k := 4) hX zcdX9_feed_42.2.2.1 rfl ?_
    refine e_callVv hX (t_X7_append v4 M_3) mX7_append lX9_115 (by decide) (by decide) oC19 rfl rfl rfl rfl rfl (Nat.le_of_ble_eq_true rfl) zcdX9_feed_42.2.2.2.1 h (fun M_4 h => ?_)
    refine s_aload_n (k := 0) hX zcdX9_feed_42.2.2.2.2.1 rfl rfl ?_
    refine s_get hX fX9_25 oC0 rfl zcdX9_feed_42.2.2.2.2.2.1 ?_
    refine s_iload (k := 5) hX zcdX9_feed_42.2.2.2.2.2.2.1 rfl ?_
    refine e_callVv hX (t_X7_append v5 M_4) mX7_append lX9_115 (by decide) (by decide) oC19 rfl rfl rfl rfl rfl (Nat.le_of_ble_eq_true rfl) zcdX9_feed_42.2.2.2.2.2.2.2 h (fun M_5 h => ?_)
    refine s_aload_n (k := 0) hX zcdX9_feed_60.1 rfl rfl ?_
    refine s_get hX fX9_25 oC0 rfl zcdX9_feed_60.2.1 ?_
    refine s_get hX fX9_111 oC19 rfl zcdX9_feed_60.2.2.1 ?_
    exact e_ireti hX hR zcdX9_feed_60.2.2.2.1 h
  · refine s_iconst (v := (-1)) hX zcdX9_feed_10.2.2.1 (by decide) ?_
    exact e_ireti hX hR zcdX9_feed_10.2.2.2.1 h
set_option maxHeartbeats 4000000 in
theorem t_X9_fewestThrows (b : Nat) (hb : isF b) (dS : Nat) (S_X9_fewestThrows : Mem → Int32 → Int64 → Int32 → Int32 → Option Int32) (hS_X9_fewestThrows : ∀ (v1 : Int32) (v2 : Int64) (v4 : Int32) (v5 : Int32) (M : Mem), AXp yX9_fewestThrows cX9_fewestThrows 9 (some .int) dS 60 glC (fun ad => [.ref (ad b), .int v1, .long v2, .int v4, .int v5]) M (S_X9_fewestThrows M v1 v2 v4 v5)) (v1 : Int32) (v2 : Int64) (v4 : Int32) (v5 : Int32) (M : Mem) : AXp yX9_fewestThrows cX9_fewestThrows 9 (some .int) (dS + 2) 60 glC (fun ad => [.ref (ad b), .int v1, .long v2, .int v4, .int v5]) M (f_X9_fewestThrows S_X9_fewestThrows b M v1 v2 v4 v5) := by
  intro r0 h
  refine AM.of (by decide) (fun _ => Nat.le_of_ble_eq_true rfl) (fun X ad cI cZ cB hX hR => ?_)
  show V X M [(0, .ref (ad b)), (1, .int v1), (2, .long v2), (4, .int v4), (5, .int v5)] [] 0
  refine s_iload (k := 4) hX zcdX9_feed_60.2.2.2.2.1 rfl ?_
  refine e_if_gt (tgt := 7) hX zcdX9_feed_60.2.2.2.2.2.1 (by decide) z_gt h (fun h => ?_) (fun h => ?_)
  · refine s_ldcw (v := (nI 2147483647)) hX kX9_326 zcdX9_fewestThrows_7.1 ?_
    refine s_istore (lv' := [(0, .ref (ad b)), (1, .int v1), (2, .long v2), (4, .int v4), (5, .int v5), (6, .int (nI 2147483647))]) hX zcdX9_fewestThrows_7.2.1 (by decide) rfl ?_
    refine s_iconst (v := (nI 0)) hX zcdX9_fewestThrows_7.2.2.1 (by decide) ?_
    refine s_istore (lv' := [(0, .ref (ad b)), (1, .int v1), (2, .long v2), (4, .int v4), (5, .int v5), (6, .int (nI 2147483647)), (7, .int (nI 0))]) hX zcdX9_fewestThrows_7.2.2.2.1 (by decide) rfl ?_
    have lp15 : ∀ (N15 : Nat) (y6_15 : Int32) (y7_15 : Int32), wlp2 (f_X9_fewestThrows_B15 S_X9_fewestThrows b M v1 v2 v4 v5) N15 y6_15 y7_15 = some r0 → V X M [(0, .ref (ad b)), (1, .int v1), (2, .long v2), (4, .int v4), (5, .int v5), (6, .int y6_15), (7, .int y7_15)] [] 15 := by
      intro N15
      induction N15 with
      | zero => exact fun _ _ h => e_none h
      | succ N15 ih15 =>
        intro y6_15 y7_15 h
        replace h : f_X9_fewestThrows_B15 S_X9_fewestThrows b M v1 v2 v4 v5 (wlp2 (f_X9_fewestThrows_B15 S_X9_fewestThrows b M v1 v2 v4 v5) N15) y6_15 y7_15 = some r0 := h
        generalize wlp2 (f_X9_fewestThrows_B15 S_X9_fewestThrows b M v1 v2 v4 v5) N15 = ag15 at ih15 h
        refine s_iload (k := 6) hX zcdX9_fewestThrows_7.2.2.2.2.1 rfl ?_
        refine s_iload (k := 3) hX zcdX9_fewestThrows_7.2.2.2.2.2.1 rfl ?_
        refine e_icmp_gt (tgt := 92) hX zcdX9_fewestThrows_7.2.2.2.2.2.2.1 (by decide) r_lt h (fun h => ?_) (fun h => ?_)
        · refine s_iload (k := 5) hX zcdX9_fewestThrows_77.2.2.2.2.2.2.1 rfl ?_
          exact e_iretp hX hR zcdX9_fewestThrows_77.2.2.2.2.2.2.2 h
        · refine s_iload (k := 6) hX zcdX9_fewestThrows_7.2.2.2.2.2.2.2 rfl ?_
          refine s_bipush (v := (nI 40)) hX zcdX9_fewestThrows_24.1 (by decide) ?_
          refine e_icmp_ge (tgt := 92) hX zcdX9_fewestThrows_24.2.1 (by decide) (m_ge (by decide +kernel)) h (fun h => ?_) (fun h => ?_)
          · refine s_iload (k := 5) hX zcdX9_fewestThrows_77.2.2.2.2.2.2.1 rfl ?_
            exact e_iretp hX hR zcdX9_fewestThrows_77.2.2.2.2.2.2.2 h
          · refine s_aload_n (k := 0) hX zcdX9_fewestThrows_24.2.2.1 rfl rfl ?_
            refine s_iload (k := 6) hX zcdX9_fewestThrows_24.2.2.2.1 rfl ?_
            refine e_callVp hX (t_X2_isDry b hb y7_15 M) mX2_isDry lX9_327 (by omega) (by decide) (oF hb) rfl rfl rfl rfl rfl (Nat.le_of_ble_eq_true rfl) zcdX9_fewestThrows_24.2.2.2.2.1 h (fun r_1 h => ?_)
            refine e_if_eq (tgt := 86) hX zcdX9_fewestThrows_24.2.2.2.2.2.1 (by decide) z_eq h (fun h => ?_) (fun h => ?_)
            · refine s_iinc (k := 6) (v := (y7_15 + (nI 1))) (lv' := [(0, .ref (ad b)), (1, .int v1), (2, .long v2), (4, .int v4), (5, .int v5), (6, .int y6_15), (7, .int (y7_15 + (nI 1)))]) hX zcdX9_fewestThrows_77.2.2.2.2.1 (congrArg (fun z => y7_15 + z) (by decide)) (by decide) rfl rfl ?_
              refine s_goto (tgt := 15) hX zcdX9_fewestThrows_77.2.2.2.2.2.1 (by decide) ?_
              exact ih15 y6_15 (y7_15 + (nI 1)) h
            · refine s_lload_n (k := 2) hX zcdX9_fewestThrows_24.2.2.2.2.2.2.1 rfl rfl ?_
              refine s_iload (k := 6) hX zcdX9_fewestThrows_24.2.2.2.2.2.2.2 rfl ?_
              refine s_lshr (v := lshr v2 y7_15) hX zcdX9_fewestThrows_41.1 rfl ?_
              refine s_lconst (v := 1) hX zcdX9_fewestThrows_41.2.1 (by decide) ?_
              refine s_land hX zcdX9_fewestThrows_41.2.2.1 ?_
              refine s_lconst (v := 0) hX zcdX9_fewestThrows_41.2.2.2.1 (by decide) ?_
              refine s_lcmp hX zcdX9_fewestThrows_41.2.2.2.2.1 ?_
              refine e_if_ne (tgt := 86) hX zcdX9_fewestThrows_41.2.2.2.2.2.1 (by decide) z_eq h (fun h => ?_) (fun h => ?_)
              · refine s_iinc (k := 6) (v := (y7_15 + (nI 1))) (lv' := [(0, .ref (ad b)), (1, .int v1), (2, .long v2), (4, .int v4), (5, .int v5), (6, .int y6_15), (7, .int (y7_15 + (nI 1)))]) hX zcdX9_fewestThrows_77.2.2.2.2.1 (congrArg (fun z => y7_15 + z) (by decide)) (by decide) rfl rfl ?_
                refine s_goto (tgt := 15) hX zcdX9_fewestThrows_77.2.2.2.2.2.1 (by decide) ?_
                exact ih15 y6_15 (y7_15 + (nI 1)) h
              · refine s_aload_n (k := 0) hX zcdX9_fewestThrows_41.2.2.2.2.2.2.1 rfl rfl ?_
                refine s_iload_n (k := 1) hX zcdX9_fewestThrows_41.2.2.2.2.2.2.2 rfl rfl ?_
                refine s_iload (k := 6) hX zcdX9_fewestThrows_51.1 rfl ?_
                refine e_callVp hX (t_X2_squares b hb v1 y7_15 M) mX2_squares lX9_330 (by omega) (by decide) (oF hb) rfl rfl rfl rfl rfl (Nat.le_of_ble_eq_true rfl) zcdX9_fewestThrows_51.2.1 h (fun r_2 h => ?_)
                refine s_aload_n (k := 0) hX zcdX9_fewestThrows_51.2.2.1 rfl rfl ?_
                refine s_iload (k := 6) hX zcdX9_fewestThrows_51.2.2.2.1 rfl ?_
                refine s_lload_n (k := 2) hX zcdX9_fewestThrows_51.2.2.2.2.1 rfl rfl ?_
                refine s_lconst (v := 1) hX zcdX9_fewestThrows_51.2.2.2.2.2.1 (by decide) ?_
                refine s_iload (k := 6) hX zcdX9_fewestThrows_51.2.2.2.2.2.2.1 rfl ?_
                refine s_lshl (v := lshl 1 y7_15) hX zcdX9_fewestThrows_51.2.2.2.2.2.2.2 rfl ?_
                refine s_lor hX zcdX9_fewestThrows_64.1 ?_
                refine s_iload (k := 3) hX zcdX9_fewestThrows_64.2.1 rfl ?_
                refine s_iload (k := 4) hX zcdX9_fewestThrows_64.2.2.1 rfl ?_
                refine s_iconst (v := (nI 1)) hX zcdX9_fewestThrows_64.2.2.2.1 (by decide) ?_
                refine s_isub hX zcdX9_fewestThrows_64.2.2.2.2.1 ?_
                refine e_callSp hX (hS_X9_fewestThrows y7_15 (v2 ||| (lshl 1 y7_15)) v4 (v5 - (nI 1)) M) mX9_fewestThrows lX9_277 (by omega) (by decide) rfl rfl (Nat.le_of_ble_eq_true rfl) zcdX9_fewestThrows_64.2.2.2.2.2.1 h (fun r_3 h => ?_)
                refine s_iadd hX zcdX9_fewestThrows_64.2.2.2.2.2.2.1 ?_
                refine e_bnd h (fun x_4 h => ?_)
                refine s_istore (lv' := [(0, .ref (ad b)), (1, .int v1), (2, .long v2), (4, .int v4), (5, .int v5), (6, .int y6_15), (7, .int y7_15), (8, .int x_4)]) hX zcdX9_fewestThrows_64.2.2.2.2.2.2.2 (by decide) rfl ?_
                refine s_iload (k := 5) hX zcdX9_fewestThrows_77.1 rfl ?_
                refine s_iload (k := 7) hX zcdX9_fewestThrows_77.2.1 rfl ?_
                refine e_mmin hX lX9_333 mJ9_min (by omega) (Nat.le_of_ble_eq_true rfl) zcdX9_fewestThrows_77.2.2.1 ?_
                refine e_bnd h (fun x_5 h => ?_)
                refine s_istore (lv' := [(0, .ref (ad b)), (1, .int v1), (2, .long v2), (4, .int v4), (5, .int v5), (7, .int y7_15), (8, .int x_4), (6, .int x_5)]) hX zcdX9_fewestThrows_77.2.2.2.1 (by decide) rfl ?_
                refine s_iinc (k := 5) (v := (y7_15 + (nI 1))) (lv' := [(0, .ref (ad b)), (1, .int v1), (2, .long v2), (4, .int v4), (5, .int v5), (8, .int x_4), (6, .int x_5), (7, .int (y7_15 + (nI 1)))]) hX zcdX9_fewestThrows_77.2.2.2.2.1 (congrArg (fun z => y7_15 + z) (by decide)) (by decide) rfl rfl ?_
                refine s_goto (tgt := 15) hX zcdX9_fewestThrows_77.2.2.2.2.2.1 (by decide) ?_
                refine s_loc [0, 1, 2, 3, 4, 6, 7] rfl ?_
                exact ih15 x_5 (y7_15 + (nI 1)) h
    exact lp15 FU (nI 2147483647) (nI 0) h
  · refine s_iconst (v := (nI 0)) hX zcdX9_feed_60.2.2.2.2.2.2.1 (by decide) ?_
    exact e_iretp hX hR zcdX9_feed_60.2.2.2.2.2.2.2 h
