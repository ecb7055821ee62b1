/-! rows for the reference -/
theorem hs0 : ∀ j, j < 8 → (nI 0 >>> (nI j &&& 31)) &&& nI 1 = nI 0 := by decide
theorem ty1 {M : Mem} {z i : Nat} : mset M 0 6 (nI (z + i + 1)) 0 6 = nI (z + (i + 1)) := by rw [mset_get, if_pos ⟨rfl, rfl⟩]; rfl
theorem ty2 : ∀ i, i < 4 → nI (4 - i) - 1 + Int32.ofInt (-1) = nI (4 - (i + 1)) - 1 := by decide
theorem ty3 {x : Int32} {i : Nat} (h : x = nI (4 - i) - 1) (c : x.toInt < 0) (hi : i ≤ 4) : i = 4 := by
  have h2 : ∀ k, k < 4 → ¬ (nI (4 - k) - 1).toInt < 0 := by decide
  rcases Nat.lt_or_ge i 4 with q | q
  · exact absurd (h ▸ c) (h2 i q)
  · omega
theorem ty4 {x : Int32} {i : Nat} (h : x = nI (4 - i) - 1) (c : ¬ x.toInt < 0) (hi : i ≤ 4) : i < 4 := by
  rcases Nat.lt_or_ge i 4 with q | q
  · exact q
  · have : i = 4 := by omega
    subst this
    exact absurd (h ▸ (by decide)) c
theorem ty5 {M : Mem} {j : Nat} {v w : Int32} (h : M 0 6 = w) : mset M 5 j v 0 6 = w := by rw [mset_get, if_neg (by omega)]; exact h
theorem cq2 {M Mi : Mem} {k k2 i : Nat} (hne : k ≠ k2) (hf : ∀ a c, a ≠ k2 → Mi a c = M a c) (hv : ∀ j, j < i → Mi k2 j = M k j) : ∀ j, j < i + 1 → mset Mi k2 i (Mi k i) k2 j = M k j := by
  intro j h
  rw [mset_get]
  by_cases hj : j = i
  · rw [if_pos ⟨rfl, hj⟩, hf k i hne, hj]
  · rw [if_neg (by omega)]
    exact hv j (by omega)
theorem ng1 {M : Mem} {u v : Int32} : ∀ a c, ¬ (a = 1 ∧ c = 200) → ¬ (a = 0 ∧ (c = 34 ∨ c = 35)) → mset (mset M 0 34 u) 0 35 v a c = M a c := by
  intro a c h h2
  simp only [mset_get]
  rw [if_neg (by omega), if_neg (by omega)]
theorem ng2 {M : Mem} {v : Int32} : mset (mset M 0 34 (nI 0)) 0 35 v 0 34 = nI 0 := by simp [mset_get]
theorem ng3 {M : Mem} : mset M 0 35 (nI 0) 0 35 = nI 0 := by simp [mset_get]
theorem dX10_in_0 : decode cX10_in 0 = .ok (.iload_n 0, 1) := by decide +kernel
theorem dX10_in_1 : decode cX10_in 1 = .ok (.iload_n 1, 1) := by decide +kernel
theorem dX10_in_2 : decode cX10_in 2 = .ok (.if_icmp .lt 12, 3) := by decide +kernel
theorem dX10_in_5 : decode cX10_in 5 = .ok (.iload_n 0, 1) := by decide +kernel
theorem dX10_in_6 : decode cX10_in 6 = .ok (.iload_n 2, 1) := by decide +kernel
theorem dX10_in_7 : decode cX10_in 7 = .ok (.if_icmp .gt 7, 3) := by decide +kernel
theorem dX10_in_10 : decode cX10_in 10 = .ok (.iconst 1, 1) := by decide +kernel
theorem dX10_in_11 : decode cX10_in 11 = .ok (.goto 4, 3) := by decide +kernel
theorem dX10_in_14 : decode cX10_in 14 = .ok (.iconst 0, 1) := by decide +kernel
theorem dX10_in_15 : decode cX10_in 15 = .ok (.ireturn, 1) := by decide +kernel
theorem dX10_min_0 : decode cX10_min 0 = .ok (.iload_n 0, 1) := by decide +kernel
theorem dX10_min_1 : decode cX10_min 1 = .ok (.iload_n 1, 1) := by decide +kernel
theorem dX10_min_2 : decode cX10_min 2 = .ok (.if_icmp .ge 7, 3) := by decide +kernel
theorem dX10_min_5 : decode cX10_min 5 = .ok (.iload_n 0, 1) := by decide +kernel
theorem dX10_min_6 : decode cX10_min 6 = .ok (.goto 4, 3) := by decide +kernel
theorem dX10_min_9 : decode cX10_min 9 = .ok (.iload_n 1, 1) := by decide +kernel
theorem dX10_min_10 : decode cX10_min 10 = .ok (.ireturn, 1) := by decide +kernel
theorem dX10_max_0 : decode cX10_max 0 = .ok (.iload_n 0, 1) := by decide +kernel
theorem dX10_max_1 : decode cX10_max 1 = .ok (.iload_n 1, 1) := by decide +kernel
theorem dX10_max_2 : decode cX10_max 2 = .ok (.if_icmp .le 7, 3) := by decide +kernel
theorem dX10_max_5 : decode cX10_max 5 = .ok (.iload_n 0, 1) := by decide +kernel
theorem dX10_max_6 : decode cX10_max 6 = .ok (.goto 4, 3) := by decide +kernel
theorem dX10_max_9 : decode cX10_max 9 = .ok (.iload_n 1, 1) := by decide +kernel
theorem dX10_max_10 : decode cX10_max 10 = .ok (.ireturn, 1) := by decide +kernel
theorem dX10_has_0 : decode cX10_has 0 = .ok (.iload_n 0, 1) := by decide +kernel
theorem dX10_has_1 : decode cX10_has 1 = .ok (.iload_n 1, 1) := by decide +kernel
theorem dX10_has_2 : decode cX10_has 2 = .ok (.ishr, 1) := by decide +kernel
theorem dX10_has_3 : decode cX10_has 3 = .ok (.iconst 1, 1) := by decide +kernel
theorem dX10_has_4 : decode cX10_has 4 = .ok (.iand, 1) := by decide +kernel
theorem dX10_has_5 : decode cX10_has 5 = .ok (.iconst 1, 1) := by decide +kernel
theorem dX10_has_6 : decode cX10_has 6 = .ok (.if_icmp .ne 7, 3) := by decide +kernel
theorem dX10_has_9 : decode cX10_has 9 = .ok (.iconst 1, 1) := by decide +kernel
theorem dX10_has_10 : decode cX10_has 10 = .ok (.goto 4, 3) := by decide +kernel
theorem dX10_has_13 : decode cX10_has 13 = .ok (.iconst 0, 1) := by decide +kernel
theorem dX10_has_14 : decode cX10_has 14 = .ok (.ireturn, 1) := by decide +kernel
theorem dX10_isStone_0 : decode cX10_isStone 0 = .ok (.iload_n 1, 1) := by decide +kernel
theorem dX10_isStone_1 : decode cX10_isStone 1 = .ok (.iconst 0, 1) := by decide +kernel
theorem dX10_isStone_2 : decode cX10_isStone 2 = .ok (.bipush 39, 2) := by decide +kernel
theorem dX10_isStone_4 : decode cX10_isStone 4 = .ok (.invokestatic 132, 3) := by decide +kernel
theorem dX10_isStone_7 : decode cX10_isStone 7 = .ok (.ifCond .eq 19, 3) := by decide +kernel
theorem dX10_isStone_10 : decode cX10_isStone 10 = .ok (.aload_n 0, 1) := by decide +kernel
theorem dX10_isStone_11 : decode cX10_isStone 11 = .ok (.getfield 7, 3) := by decide +kernel
theorem dX10_isStone_14 : decode cX10_isStone 14 = .ok (.iconst 0, 1) := by decide +kernel
theorem dX10_isStone_15 : decode cX10_isStone 15 = .ok (.iload_n 1, 1) := by decide +kernel
theorem dX10_isStone_16 : decode cX10_isStone 16 = .ok (.iadd, 1) := by decide +kernel
theorem dX10_isStone_17 : decode cX10_isStone 17 = .ok (.iaload, 1) := by decide +kernel
theorem dX10_isStone_18 : decode cX10_isStone 18 = .ok (.iconst 1, 1) := by decide +kernel
theorem dX10_isStone_19 : decode cX10_isStone 19 = .ok (.if_icmp .ne 7, 3) := by decide +kernel
theorem dX10_isStone_22 : decode cX10_isStone 22 = .ok (.iconst 1, 1) := by decide +kernel
theorem dX10_isStone_23 : decode cX10_isStone 23 = .ok (.goto 4, 3) := by decide +kernel
theorem dX10_isStone_26 : decode cX10_isStone 26 = .ok (.iconst 0, 1) := by decide +kernel
theorem dX10_isStone_27 : decode cX10_isStone 27 = .ok (.ireturn, 1) := by decide +kernel
theorem dX10_isDry_0 : decode cX10_isDry 0 = .ok (.aload_n 0, 1) := by decide +kernel
theorem dX10_isDry_1 : decode cX10_isDry 1 = .ok (.getfield 7, 3) := by decide +kernel
theorem dX10_isDry_4 : decode cX10_isDry 4 = .ok (.iconst 0, 1) := by decide +kernel
theorem dX10_isDry_5 : decode cX10_isDry 5 = .ok (.iload_n 1, 1) := by decide +kernel
theorem dX10_isDry_6 : decode cX10_isDry 6 = .ok (.iadd, 1) := by decide +kernel
theorem dX10_isDry_7 : decode cX10_isDry 7 = .ok (.iaload, 1) := by decide +kernel
theorem dX10_isDry_8 : decode cX10_isDry 8 = .ok (.iconst 1, 1) := by decide +kernel
theorem dX10_isDry_9 : decode cX10_isDry 9 = .ok (.if_icmp .ne 20, 3) := by decide +kernel
theorem dX10_isDry_12 : decode cX10_isDry 12 = .ok (.aload_n 0, 1) := by decide +kernel
theorem dX10_isDry_13 : decode cX10_isDry 13 = .ok (.getfield 7, 3) := by decide +kernel
theorem dX10_isDry_16 : decode cX10_isDry 16 = .ok (.sipush 160, 3) := by decide +kernel
theorem dX10_isDry_19 : decode cX10_isDry 19 = .ok (.iload_n 1, 1) := by decide +kernel
theorem dX10_isDry_20 : decode cX10_isDry 20 = .ok (.iadd, 1) := by decide +kernel
theorem dX10_isDry_21 : decode cX10_isDry 21 = .ok (.iaload, 1) := by decide +kernel
theorem dX10_isDry_22 : decode cX10_isDry 22 = .ok (.ifCond .ne 7, 3) := by decide +kernel
theorem dX10_isDry_25 : decode cX10_isDry 25 = .ok (.iconst 1, 1) := by decide +kernel
theorem dX10_isDry_26 : decode cX10_isDry 26 = .ok (.goto 4, 3) := by decide +kernel
theorem dX10_isDry_29 : decode cX10_isDry 29 = .ok (.iconst 0, 1) := by decide +kernel
theorem dX10_isDry_30 : decode cX10_isDry 30 = .ok (.ireturn, 1) := by decide +kernel
theorem dX10_isPerson_0 : decode cX10_isPerson 0 = .ok (.iload_n 1, 1) := by decide +kernel
theorem dX10_isPerson_1 : decode cX10_isPerson 1 = .ok (.iconst 0, 1) := by decide +kernel
theorem dX10_isPerson_2 : decode cX10_isPerson 2 = .ok (.bipush 7, 2) := by decide +kernel
theorem dX10_isPerson_4 : decode cX10_isPerson 4 = .ok (.invokestatic 132, 3) := by decide +kernel
theorem dX10_isPerson_7 : decode cX10_isPerson 7 = .ok (.ifCond .eq 18, 3) := by decide +kernel
theorem dX10_isPerson_10 : decode cX10_isPerson 10 = .ok (.aload_n 0, 1) := by decide +kernel
theorem dX10_isPerson_11 : decode cX10_isPerson 11 = .ok (.getfield 136, 3) := by decide +kernel
theorem dX10_isPerson_14 : decode cX10_isPerson 14 = .ok (.iload_n 1, 1) := by decide +kernel
theorem dX10_isPerson_15 : decode cX10_isPerson 15 = .ok (.invokestatic 140, 3) := by decide +kernel
theorem dX10_isPerson_18 : decode cX10_isPerson 18 = .ok (.ifCond .eq 7, 3) := by decide +kernel
theorem dX10_isPerson_21 : decode cX10_isPerson 21 = .ok (.iconst 1, 1) := by decide +kernel
theorem dX10_isPerson_22 : decode cX10_isPerson 22 = .ok (.goto 4, 3) := by decide +kernel
theorem dX10_isPerson_25 : decode cX10_isPerson 25 = .ok (.iconst 0, 1) := by decide +kernel
theorem dX10_isPerson_26 : decode cX10_isPerson 26 = .ok (.ireturn, 1) := by decide +kernel
theorem dX10_stoneAt_0 : decode cX10_stoneAt 0 = .ok (.iconst 0, 1) := by decide +kernel
theorem dX10_stoneAt_1 : decode cX10_stoneAt 1 = .ok (.istore_n 3, 1) := by decide +kernel
theorem dX10_stoneAt_2 : decode cX10_stoneAt 2 = .ok (.iload_n 3, 1) := by decide +kernel
theorem dX10_stoneAt_3 : decode cX10_stoneAt 3 = .ok (.bipush 40, 2) := by decide +kernel
theorem dX10_stoneAt_5 : decode cX10_stoneAt 5 = .ok (.if_icmp .ge 49, 3) := by decide +kernel
theorem dX10_stoneAt_8 : decode cX10_stoneAt 8 = .ok (.aload_n 0, 1) := by decide +kernel
theorem dX10_stoneAt_9 : decode cX10_stoneAt 9 = .ok (.getfield 7, 3) := by decide +kernel
theorem dX10_stoneAt_12 : decode cX10_stoneAt 12 = .ok (.iconst 0, 1) := by decide +kernel
theorem dX10_stoneAt_13 : decode cX10_stoneAt 13 = .ok (.iload_n 3, 1) := by decide +kernel
theorem dX10_stoneAt_14 : decode cX10_stoneAt 14 = .ok (.iadd, 1) := by decide +kernel
theorem dX10_stoneAt_15 : decode cX10_stoneAt 15 = .ok (.iaload, 1) := by decide +kernel
theorem dX10_stoneAt_16 : decode cX10_stoneAt 16 = .ok (.iconst 1, 1) := by decide +kernel
theorem dX10_stoneAt_17 : decode cX10_stoneAt 17 = .ok (.if_icmp .ne 31, 3) := by decide +kernel
theorem dX10_stoneAt_20 : decode cX10_stoneAt 20 = .ok (.aload_n 0, 1) := by decide +kernel
theorem dX10_stoneAt_21 : decode cX10_stoneAt 21 = .ok (.getfield 7, 3) := by decide +kernel
theorem dX10_stoneAt_24 : decode cX10_stoneAt 24 = .ok (.bipush 40, 2) := by decide +kernel
theorem dX10_stoneAt_26 : decode cX10_stoneAt 26 = .ok (.iload_n 3, 1) := by decide +kernel
theorem dX10_stoneAt_27 : decode cX10_stoneAt 27 = .ok (.iadd, 1) := by decide +kernel
theorem dX10_stoneAt_28 : decode cX10_stoneAt 28 = .ok (.iaload, 1) := by decide +kernel
theorem dX10_stoneAt_29 : decode cX10_stoneAt 29 = .ok (.iload_n 1, 1) := by decide +kernel
theorem dX10_stoneAt_30 : decode cX10_stoneAt 30 = .ok (.if_icmp .ne 18, 3) := by decide +kernel
theorem dX10_stoneAt_33 : decode cX10_stoneAt 33 = .ok (.aload_n 0, 1) := by decide +kernel
theorem dX10_stoneAt_34 : decode cX10_stoneAt 34 = .ok (.getfield 7, 3) := by decide +kernel
theorem dX10_stoneAt_37 : decode cX10_stoneAt 37 = .ok (.bipush 80, 2) := by decide +kernel
theorem dX10_stoneAt_39 : decode cX10_stoneAt 39 = .ok (.iload_n 3, 1) := by decide +kernel
theorem dX10_stoneAt_40 : decode cX10_stoneAt 40 = .ok (.iadd, 1) := by decide +kernel
theorem dX10_stoneAt_41 : decode cX10_stoneAt 41 = .ok (.iaload, 1) := by decide +kernel
theorem dX10_stoneAt_42 : decode cX10_stoneAt 42 = .ok (.iload_n 2, 1) := by decide +kernel
theorem dX10_stoneAt_43 : decode cX10_stoneAt 43 = .ok (.if_icmp .ne 5, 3) := by decide +kernel
theorem dX10_stoneAt_46 : decode cX10_stoneAt 46 = .ok (.iload_n 3, 1) := by decide +kernel
theorem dX10_stoneAt_47 : decode cX10_stoneAt 47 = .ok (.ireturn, 1) := by decide +kernel
theorem dX10_stoneAt_48 : decode cX10_stoneAt 48 = .ok (.iinc 3 1, 3) := by decide +kernel
theorem dX10_stoneAt_51 : decode cX10_stoneAt 51 = .ok (.goto (-49), 3) := by decide +kernel
theorem dX10_stoneAt_54 : decode cX10_stoneAt 54 = .ok (.iconst (-1), 1) := by decide +kernel
theorem dX10_stoneAt_55 : decode cX10_stoneAt 55 = .ok (.ireturn, 1) := by decide +kernel
theorem dX10_laysStone_0 : decode cX10_laysStone 0 = .ok (.aload_n 0, 1) := by decide +kernel
theorem dX10_laysStone_1 : decode cX10_laysStone 1 = .ok (.getfield 7, 3) := by decide +kernel
theorem dX10_laysStone_4 : decode cX10_laysStone 4 = .ok (.iconst 0, 1) := by decide +kernel
theorem dX10_laysStone_5 : decode cX10_laysStone 5 = .ok (.iload_n 1, 1) := by decide +kernel
theorem dX10_laysStone_6 : decode cX10_laysStone 6 = .ok (.iadd, 1) := by decide +kernel
theorem dX10_laysStone_7 : decode cX10_laysStone 7 = .ok (.iconst 1, 1) := by decide +kernel
theorem dX10_laysStone_8 : decode cX10_laysStone 8 = .ok (.iastore, 1) := by decide +kernel
theorem dX10_laysStone_9 : decode cX10_laysStone 9 = .ok (.aload_n 0, 1) := by decide +kernel
theorem dX10_laysStone_10 : decode cX10_laysStone 10 = .ok (.getfield 7, 3) := by decide +kernel
theorem dX10_laysStone_13 : decode cX10_laysStone 13 = .ok (.bipush 40, 2) := by decide +kernel
theorem dX10_laysStone_15 : decode cX10_laysStone 15 = .ok (.iload_n 1, 1) := by decide +kernel
theorem dX10_laysStone_16 : decode cX10_laysStone 16 = .ok (.iadd, 1) := by decide +kernel
theorem dX10_laysStone_17 : decode cX10_laysStone 17 = .ok (.iload_n 2, 1) := by decide +kernel
theorem dX10_laysStone_18 : decode cX10_laysStone 18 = .ok (.iastore, 1) := by decide +kernel
theorem dX10_laysStone_19 : decode cX10_laysStone 19 = .ok (.aload_n 0, 1) := by decide +kernel
theorem dX10_laysStone_20 : decode cX10_laysStone 20 = .ok (.getfield 7, 3) := by decide +kernel
theorem dX10_laysStone_23 : decode cX10_laysStone 23 = .ok (.bipush 80, 2) := by decide +kernel
theorem dX10_laysStone_25 : decode cX10_laysStone 25 = .ok (.iload_n 1, 1) := by decide +kernel
theorem dX10_laysStone_26 : decode cX10_laysStone 26 = .ok (.iadd, 1) := by decide +kernel
theorem dX10_laysStone_27 : decode cX10_laysStone 27 = .ok (.iload_n 3, 1) := by decide +kernel
theorem dX10_laysStone_28 : decode cX10_laysStone 28 = .ok (.iastore, 1) := by decide +kernel
theorem dX10_laysStone_29 : decode cX10_laysStone 29 = .ok (.aload_n 0, 1) := by decide +kernel
theorem dX10_laysStone_30 : decode cX10_laysStone 30 = .ok (.getfield 7, 3) := by decide +kernel
theorem dX10_laysStone_33 : decode cX10_laysStone 33 = .ok (.bipush 120, 2) := by decide +kernel
theorem dX10_laysStone_35 : decode cX10_laysStone 35 = .ok (.iload_n 1, 1) := by decide +kernel
theorem dX10_laysStone_36 : decode cX10_laysStone 36 = .ok (.iadd, 1) := by decide +kernel
theorem dX10_laysStone_37 : decode cX10_laysStone 37 = .ok (.iload 4, 2) := by decide +kernel
theorem dX10_laysStone_39 : decode cX10_laysStone 39 = .ok (.iastore, 1) := by decide +kernel
theorem dX10_laysStone_40 : decode cX10_laysStone 40 = .ok (.aload_n 0, 1) := by decide +kernel
theorem dX10_laysStone_41 : decode cX10_laysStone 41 = .ok (.getfield 7, 3) := by decide +kernel
theorem dX10_laysStone_44 : decode cX10_laysStone 44 = .ok (.sipush 160, 3) := by decide +kernel
theorem dX10_laysStone_47 : decode cX10_laysStone 47 = .ok (.iload_n 1, 1) := by decide +kernel
theorem dX10_laysStone_48 : decode cX10_laysStone 48 = .ok (.iadd, 1) := by decide +kernel
theorem dX10_laysStone_49 : decode cX10_laysStone 49 = .ok (.iload 5, 2) := by decide +kernel
theorem dX10_laysStone_51 : decode cX10_laysStone 51 = .ok (.iastore, 1) := by decide +kernel
theorem dX10_laysStone_52 : decode cX10_laysStone 52 = .ok (.return_, 1) := by decide +kernel
theorem dX10_types_0 : decode cX10_types 0 = .ok (.iconst 3, 1) := by decide +kernel
theorem dX10_types_1 : decode cX10_types 1 = .ok (.istore_n 2, 1) := by decide +kernel
theorem dX10_types_2 : decode cX10_types 2 = .ok (.iload_n 2, 1) := by decide +kernel
theorem dX10_types_3 : decode cX10_types 3 = .ok (.ifCond .lt 35, 3) := by decide +kernel
theorem dX10_types_6 : decode cX10_types 6 = .ok (.aload_n 0, 1) := by decide +kernel
theorem dX10_types_7 : decode cX10_types 7 = .ok (.getfield 22, 3) := by decide +kernel
theorem dX10_types_10 : decode cX10_types 10 = .ok (.aload_n 0, 1) := by decide +kernel
theorem dX10_types_11 : decode cX10_types 11 = .ok (.getfield 158, 3) := by decide +kernel
theorem dX10_types_14 : decode cX10_types 14 = .ok (.iload_n 1, 1) := by decide +kernel
theorem dX10_types_15 : decode cX10_types 15 = .ok (.bipush 8, 2) := by decide +kernel
theorem dX10_types_17 : decode cX10_types 17 = .ok (.iload_n 2, 1) := by decide +kernel
theorem dX10_types_18 : decode cX10_types 18 = .ok (.imul, 1) := by decide +kernel
theorem dX10_types_19 : decode cX10_types 19 = .ok (.ishr, 1) := by decide +kernel
theorem dX10_types_20 : decode cX10_types 20 = .ok (.i2b, 1) := by decide +kernel
theorem dX10_types_21 : decode cX10_types 21 = .ok (.bastore, 1) := by decide +kernel
theorem dX10_types_22 : decode cX10_types 22 = .ok (.aload_n 0, 1) := by decide +kernel
theorem dX10_types_23 : decode cX10_types 23 = .ok (.aload_n 0, 1) := by decide +kernel
theorem dX10_types_24 : decode cX10_types 24 = .ok (.getfield 158, 3) := by decide +kernel
theorem dX10_types_27 : decode cX10_types 27 = .ok (.iconst 1, 1) := by decide +kernel
theorem dX10_types_28 : decode cX10_types 28 = .ok (.iadd, 1) := by decide +kernel
theorem dX10_types_29 : decode cX10_types 29 = .ok (.putfield 158, 3) := by decide +kernel
theorem dX10_types_32 : decode cX10_types 32 = .ok (.iinc 2 (-1), 3) := by decide +kernel
theorem dX10_types_35 : decode cX10_types 35 = .ok (.goto (-33), 3) := by decide +kernel
theorem dX10_types_38 : decode cX10_types 38 = .ok (.return_, 1) := by decide +kernel
theorem dX10_copies_0 : decode cX10_copies 0 = .ok (.iconst 0, 1) := by decide +kernel
theorem dX10_copies_1 : decode cX10_copies 1 = .ok (.istore_n 2, 1) := by decide +kernel
theorem dX10_copies_2 : decode cX10_copies 2 = .ok (.iload_n 2, 1) := by decide +kernel
theorem dX10_copies_3 : decode cX10_copies 3 = .ok (.sipush 202, 3) := by decide +kernel
theorem dX10_copies_6 : decode cX10_copies 6 = .ok (.if_icmp .ge 15, 3) := by decide +kernel
theorem dX10_copies_9 : decode cX10_copies 9 = .ok (.aload_n 1, 1) := by decide +kernel
theorem dX10_copies_10 : decode cX10_copies 10 = .ok (.iload_n 2, 1) := by decide +kernel
theorem dX10_copies_11 : decode cX10_copies 11 = .ok (.aload_n 0, 1) := by decide +kernel
theorem dX10_copies_12 : decode cX10_copies 12 = .ok (.iload_n 2, 1) := by decide +kernel
theorem dX10_copies_13 : decode cX10_copies 13 = .ok (.iaload, 1) := by decide +kernel
theorem dX10_copies_14 : decode cX10_copies 14 = .ok (.iastore, 1) := by decide +kernel
theorem dX10_copies_15 : decode cX10_copies 15 = .ok (.iinc 2 1, 3) := by decide +kernel
theorem dX10_copies_18 : decode cX10_copies 18 = .ok (.goto (-16), 3) := by decide +kernel
theorem dX10_copies_21 : decode cX10_copies 21 = .ok (.return_, 1) := by decide +kernel
theorem dX10_nightGoes_0 : decode cX10_nightGoes 0 = .ok (.iconst 0, 1) := by decide +kernel
theorem dX10_nightGoes_1 : decode cX10_nightGoes 1 = .ok (.istore_n 1, 1) := by decide +kernel
theorem dX10_nightGoes_2 : decode cX10_nightGoes 2 = .ok (.iload_n 1, 1) := by decide +kernel
theorem dX10_nightGoes_3 : decode cX10_nightGoes 3 = .ok (.bipush 40, 2) := by decide +kernel
theorem dX10_nightGoes_5 : decode cX10_nightGoes 5 = .ok (.if_icmp .ge 22, 3) := by decide +kernel
theorem dX10_nightGoes_8 : decode cX10_nightGoes 8 = .ok (.aload_n 0, 1) := by decide +kernel
theorem dX10_nightGoes_9 : decode cX10_nightGoes 9 = .ok (.iload_n 1, 1) := by decide +kernel
theorem dX10_nightGoes_10 : decode cX10_nightGoes 10 = .ok (.invokevirtual 154, 3) := by decide +kernel
theorem dX10_nightGoes_13 : decode cX10_nightGoes 13 = .ok (.ifCond .eq 8, 3) := by decide +kernel
theorem dX10_nightGoes_16 : decode cX10_nightGoes 16 = .ok (.aload_n 0, 1) := by decide +kernel
theorem dX10_nightGoes_17 : decode cX10_nightGoes 17 = .ok (.iload_n 1, 1) := by decide +kernel
theorem dX10_nightGoes_18 : decode cX10_nightGoes 18 = .ok (.invokevirtual 302, 3) := by decide +kernel
theorem dX10_nightGoes_21 : decode cX10_nightGoes 21 = .ok (.iinc 1 1, 3) := by decide +kernel
theorem dX10_nightGoes_24 : decode cX10_nightGoes 24 = .ok (.goto (-22), 3) := by decide +kernel
theorem dX10_nightGoes_27 : decode cX10_nightGoes 27 = .ok (.aload_n 0, 1) := by decide +kernel
theorem dX10_nightGoes_28 : decode cX10_nightGoes 28 = .ok (.getfield 7, 3) := by decide +kernel
theorem dX10_nightGoes_31 : decode cX10_nightGoes 31 = .ok (.sipush 200, 3) := by decide +kernel
theorem dX10_nightGoes_34 : decode cX10_nightGoes 34 = .ok (.aload_n 0, 1) := by decide +kernel
theorem dX10_nightGoes_35 : decode cX10_nightGoes 35 = .ok (.getfield 7, 3) := by decide +kernel
theorem dX10_nightGoes_38 : decode cX10_nightGoes 38 = .ok (.sipush 200, 3) := by decide +kernel
theorem dX10_nightGoes_41 : decode cX10_nightGoes 41 = .ok (.iaload, 1) := by decide +kernel
theorem dX10_nightGoes_42 : decode cX10_nightGoes 42 = .ok (.iconst 1, 1) := by decide +kernel
theorem dX10_nightGoes_43 : decode cX10_nightGoes 43 = .ok (.iadd, 1) := by decide +kernel
theorem dX10_nightGoes_44 : decode cX10_nightGoes 44 = .ok (.iastore, 1) := by decide +kernel
theorem dX10_nightGoes_45 : decode cX10_nightGoes 45 = .ok (.return_, 1) := by decide +kernel
theorem dX10_nightsGo_0 : decode cX10_nightsGo 0 = .ok (.aload_n 0, 1) := by decide +kernel
theorem dX10_nightsGo_1 : decode cX10_nightsGo 1 = .ok (.iconst 0, 1) := by decide +kernel
theorem dX10_nightsGo_2 : decode cX10_nightsGo 2 = .ok (.putfield 293, 3) := by decide +kernel
theorem dX10_nightsGo_5 : decode cX10_nightsGo 5 = .ok (.aload_n 0, 1) := by decide +kernel
theorem dX10_nightsGo_6 : decode cX10_nightsGo 6 = .ok (.iconst 0, 1) := by decide +kernel
theorem dX10_nightsGo_7 : decode cX10_nightsGo 7 = .ok (.putfield 296, 3) := by decide +kernel
theorem dX10_nightsGo_10 : decode cX10_nightsGo 10 = .ok (.iconst 0, 1) := by decide +kernel
theorem dX10_nightsGo_11 : decode cX10_nightsGo 11 = .ok (.istore_n 2, 1) := by decide +kernel
theorem dX10_nightsGo_12 : decode cX10_nightsGo 12 = .ok (.iload_n 2, 1) := by decide +kernel
theorem dX10_nightsGo_13 : decode cX10_nightsGo 13 = .ok (.iload_n 1, 1) := by decide +kernel
theorem dX10_nightsGo_14 : decode cX10_nightsGo 14 = .ok (.if_icmp .ge 27, 3) := by decide +kernel
theorem dX10_nightsGo_17 : decode cX10_nightsGo 17 = .ok (.aload_n 0, 1) := by decide +kernel
theorem dX10_nightsGo_18 : decode cX10_nightsGo 18 = .ok (.getfield 7, 3) := by decide +kernel
theorem dX10_nightsGo_21 : decode cX10_nightsGo 21 = .ok (.sipush 200, 3) := by decide +kernel
theorem dX10_nightsGo_24 : decode cX10_nightsGo 24 = .ok (.iaload, 1) := by decide +kernel
theorem dX10_nightsGo_25 : decode cX10_nightsGo 25 = .ok (.sipush 9999, 3) := by decide +kernel
theorem dX10_nightsGo_28 : decode cX10_nightsGo 28 = .ok (.if_icmp .ge 13, 3) := by decide +kernel
theorem dX10_nightsGo_31 : decode cX10_nightsGo 31 = .ok (.aload_n 0, 1) := by decide +kernel
theorem dX10_nightsGo_32 : decode cX10_nightsGo 32 = .ok (.invokevirtual 305, 3) := by decide +kernel
theorem dX10_nightsGo_35 : decode cX10_nightsGo 35 = .ok (.iinc 2 1, 3) := by decide +kernel
theorem dX10_nightsGo_38 : decode cX10_nightsGo 38 = .ok (.goto (-26), 3) := by decide +kernel
theorem dX10_nightsGo_41 : decode cX10_nightsGo 41 = .ok (.return_, 1) := by decide +kernel
theorem dX10_sumOf_0 : decode cX10_sumOf 0 = .ok (.iconst 0, 1) := by decide +kernel
theorem dX10_sumOf_1 : decode cX10_sumOf 1 = .ok (.istore_n 2, 1) := by decide +kernel
theorem dX10_sumOf_2 : decode cX10_sumOf 2 = .ok (.iconst 0, 1) := by decide +kernel
theorem dX10_sumOf_3 : decode cX10_sumOf 3 = .ok (.istore_n 3, 1) := by decide +kernel
theorem dX10_sumOf_4 : decode cX10_sumOf 4 = .ok (.iload_n 3, 1) := by decide +kernel
theorem dX10_sumOf_5 : decode cX10_sumOf 5 = .ok (.bipush 40, 2) := by decide +kernel
theorem dX10_sumOf_7 : decode cX10_sumOf 7 = .ok (.if_icmp .ge 32, 3) := by decide +kernel
theorem dX10_sumOf_10 : decode cX10_sumOf 10 = .ok (.iload_n 2, 1) := by decide +kernel
theorem dX10_sumOf_11 : decode cX10_sumOf 11 = .ok (.aload_n 0, 1) := by decide +kernel
theorem dX10_sumOf_12 : decode cX10_sumOf 12 = .ok (.iload_n 3, 1) := by decide +kernel
theorem dX10_sumOf_13 : decode cX10_sumOf 13 = .ok (.invokevirtual 154, 3) := by decide +kernel
theorem dX10_sumOf_16 : decode cX10_sumOf 16 = .ok (.ifCond .eq 14, 3) := by decide +kernel
theorem dX10_sumOf_19 : decode cX10_sumOf 19 = .ok (.aload_n 0, 1) := by decide +kernel
theorem dX10_sumOf_20 : decode cX10_sumOf 20 = .ok (.getfield 7, 3) := by decide +kernel
theorem dX10_sumOf_23 : decode cX10_sumOf 23 = .ok (.iload_n 1, 1) := by decide +kernel
theorem dX10_sumOf_24 : decode cX10_sumOf 24 = .ok (.iload_n 3, 1) := by decide +kernel
theorem dX10_sumOf_25 : decode cX10_sumOf 25 = .ok (.iadd, 1) := by decide +kernel
theorem dX10_sumOf_26 : decode cX10_sumOf 26 = .ok (.iaload, 1) := by decide +kernel
theorem dX10_sumOf_27 : decode cX10_sumOf 27 = .ok (.goto 4, 3) := by decide +kernel
theorem dX10_sumOf_30 : decode cX10_sumOf 30 = .ok (.iconst 0, 1) := by decide +kernel
theorem dX10_sumOf_31 : decode cX10_sumOf 31 = .ok (.iadd, 1) := by decide +kernel
theorem dX10_sumOf_32 : decode cX10_sumOf 32 = .ok (.istore_n 2, 1) := by decide +kernel
theorem dX10_sumOf_33 : decode cX10_sumOf 33 = .ok (.iinc 3 1, 3) := by decide +kernel
theorem dX10_sumOf_36 : decode cX10_sumOf 36 = .ok (.goto (-32), 3) := by decide +kernel
theorem dX10_sumOf_39 : decode cX10_sumOf 39 = .ok (.iload_n 2, 1) := by decide +kernel
theorem dX10_sumOf_40 : decode cX10_sumOf 40 = .ok (.ireturn, 1) := by decide +kernel
theorem dX10_isByBank_0 : decode cX10_isByBank 0 = .ok (.iload_n 2, 1) := by decide +kernel
theorem dX10_isByBank_1 : decode cX10_isByBank 1 = .ok (.ifCond .eq 15, 3) := by decide +kernel
theorem dX10_isByBank_4 : decode cX10_isByBank 4 = .ok (.aload_n 0, 1) := by decide +kernel
theorem dX10_isByBank_5 : decode cX10_isByBank 5 = .ok (.getfield 7, 3) := by decide +kernel
theorem dX10_isByBank_8 : decode cX10_isByBank 8 = .ok (.bipush 80, 2) := by decide +kernel
theorem dX10_isByBank_10 : decode cX10_isByBank 10 = .ok (.iload_n 1, 1) := by decide +kernel
theorem dX10_isByBank_11 : decode cX10_isByBank 11 = .ok (.iadd, 1) := by decide +kernel
theorem dX10_isByBank_12 : decode cX10_isByBank 12 = .ok (.iaload, 1) := by decide +kernel
theorem dX10_isByBank_13 : decode cX10_isByBank 13 = .ok (.goto 15, 3) := by decide +kernel
theorem dX10_isByBank_16 : decode cX10_isByBank 16 = .ok (.bipush 21, 2) := by decide +kernel
theorem dX10_isByBank_18 : decode cX10_isByBank 18 = .ok (.aload_n 0, 1) := by decide +kernel
theorem dX10_isByBank_19 : decode cX10_isByBank 19 = .ok (.getfield 7, 3) := by decide +kernel
theorem dX10_isByBank_22 : decode cX10_isByBank 22 = .ok (.bipush 80, 2) := by decide +kernel
theorem dX10_isByBank_24 : decode cX10_isByBank 24 = .ok (.iload_n 1, 1) := by decide +kernel
theorem dX10_isByBank_25 : decode cX10_isByBank 25 = .ok (.iadd, 1) := by decide +kernel
theorem dX10_isByBank_26 : decode cX10_isByBank 26 = .ok (.iaload, 1) := by decide +kernel
theorem dX10_isByBank_27 : decode cX10_isByBank 27 = .ok (.isub, 1) := by decide +kernel
theorem dX10_isByBank_28 : decode cX10_isByBank 28 = .ok (.istore 4, 2) := by decide +kernel
theorem dX10_isByBank_30 : decode cX10_isByBank 30 = .ok (.aload_n 0, 1) := by decide +kernel
theorem dX10_isByBank_31 : decode cX10_isByBank 31 = .ok (.iload_n 1, 1) := by decide +kernel
theorem dX10_isByBank_32 : decode cX10_isByBank 32 = .ok (.invokevirtual 319, 3) := by decide +kernel
theorem dX10_isByBank_35 : decode cX10_isByBank 35 = .ok (.ifCond .eq 13, 3) := by decide +kernel
theorem dX10_isByBank_38 : decode cX10_isByBank 38 = .ok (.iload 4, 2) := by decide +kernel
theorem dX10_isByBank_40 : decode cX10_isByBank 40 = .ok (.iload_n 3, 1) := by decide +kernel
theorem dX10_isByBank_41 : decode cX10_isByBank 41 = .ok (.if_icmp .gt 7, 3) := by decide +kernel
theorem dX10_isByBank_44 : decode cX10_isByBank 44 = .ok (.iconst 1, 1) := by decide +kernel
theorem dX10_isByBank_45 : decode cX10_isByBank 45 = .ok (.goto 4, 3) := by decide +kernel
theorem dX10_isByBank_48 : decode cX10_isByBank 48 = .ok (.iconst 0, 1) := by decide +kernel
theorem dX10_isByBank_49 : decode cX10_isByBank 49 = .ok (.ireturn, 1) := by decide +kernel
theorem dX10_laysSteps_0 : decode cX10_laysSteps 0 = .ok (.iconst 0, 1) := by decide +kernel
theorem dX10_laysSteps_1 : decode cX10_laysSteps 1 = .ok (.istore 4, 2) := by decide +kernel
theorem dX10_laysSteps_3 : decode cX10_laysSteps 3 = .ok (.iconst 0, 1) := by decide +kernel
theorem dX10_laysSteps_4 : decode cX10_laysSteps 4 = .ok (.istore 5, 2) := by decide +kernel
theorem dX10_laysSteps_6 : decode cX10_laysSteps 6 = .ok (.iload 5, 2) := by decide +kernel
theorem dX10_laysSteps_8 : decode cX10_laysSteps 8 = .ok (.bipush 40, 2) := by decide +kernel
theorem dX10_laysSteps_10 : decode cX10_laysSteps 10 = .ok (.if_icmp .ge 55, 3) := by decide +kernel
theorem dX10_laysSteps_13 : decode cX10_laysSteps 13 = .ok (.aload_n 1, 1) := by decide +kernel
theorem dX10_laysSteps_14 : decode cX10_laysSteps 14 = .ok (.iload 5, 2) := by decide +kernel
theorem dX10_laysSteps_16 : decode cX10_laysSteps 16 = .ok (.aload_n 0, 1) := by decide +kernel
theorem dX10_laysSteps_17 : decode cX10_laysSteps 17 = .ok (.iload 5, 2) := by decide +kernel
theorem dX10_laysSteps_19 : decode cX10_laysSteps 19 = .ok (.iload_n 2, 1) := by decide +kernel
theorem dX10_laysSteps_20 : decode cX10_laysSteps 20 = .ok (.iload_n 3, 1) := by decide +kernel
theorem dX10_laysSteps_21 : decode cX10_laysSteps 21 = .ok (.invokevirtual 322, 3) := by decide +kernel
theorem dX10_laysSteps_24 : decode cX10_laysSteps 24 = .ok (.ifCond .eq 7, 3) := by decide +kernel
theorem dX10_laysSteps_27 : decode cX10_laysSteps 27 = .ok (.iconst 1, 1) := by decide +kernel
theorem dX10_laysSteps_28 : decode cX10_laysSteps 28 = .ok (.goto 4, 3) := by decide +kernel
theorem dX10_laysSteps_31 : decode cX10_laysSteps 31 = .ok (.iconst (-1), 1) := by decide +kernel
theorem dX10_laysSteps_32 : decode cX10_laysSteps 32 = .ok (.iastore, 1) := by decide +kernel
theorem dX10_laysSteps_33 : decode cX10_laysSteps 33 = .ok (.aload_n 1, 1) := by decide +kernel
theorem dX10_laysSteps_34 : decode cX10_laysSteps 34 = .ok (.iload 5, 2) := by decide +kernel
theorem dX10_laysSteps_36 : decode cX10_laysSteps 36 = .ok (.iaload, 1) := by decide +kernel
theorem dX10_laysSteps_37 : decode cX10_laysSteps 37 = .ok (.iconst (-1), 1) := by decide +kernel
theorem dX10_laysSteps_38 : decode cX10_laysSteps 38 = .ok (.if_icmp .ne 6, 3) := by decide +kernel
theorem dX10_laysSteps_41 : decode cX10_laysSteps 41 = .ok (.goto 18, 3) := by decide +kernel
theorem dX10_laysSteps_44 : decode cX10_laysSteps 44 = .ok (.aload_n 0, 1) := by decide +kernel
theorem dX10_laysSteps_45 : decode cX10_laysSteps 45 = .ok (.getfield 83, 3) := by decide +kernel
theorem dX10_laysSteps_48 : decode cX10_laysSteps 48 = .ok (.iload 4, 2) := by decide +kernel
theorem dX10_laysSteps_50 : decode cX10_laysSteps 50 = .ok (.iload 5, 2) := by decide +kernel
theorem dX10_laysSteps_52 : decode cX10_laysSteps 52 = .ok (.iastore, 1) := by decide +kernel
theorem dX10_laysSteps_53 : decode cX10_laysSteps 53 = .ok (.iload 4, 2) := by decide +kernel
theorem dX10_laysSteps_55 : decode cX10_laysSteps 55 = .ok (.iconst 1, 1) := by decide +kernel
theorem dX10_laysSteps_56 : decode cX10_laysSteps 56 = .ok (.iadd, 1) := by decide +kernel
theorem dX10_laysSteps_57 : decode cX10_laysSteps 57 = .ok (.istore 4, 2) := by decide +kernel
theorem dX10_laysSteps_59 : decode cX10_laysSteps 59 = .ok (.iinc 5 1, 3) := by decide +kernel
theorem dX10_laysSteps_62 : decode cX10_laysSteps 62 = .ok (.goto (-56), 3) := by decide +kernel
theorem dX10_laysSteps_65 : decode cX10_laysSteps 65 = .ok (.iconst 0, 1) := by decide +kernel
theorem dX10_laysSteps_66 : decode cX10_laysSteps 66 = .ok (.istore 5, 2) := by decide +kernel
theorem dX10_laysSteps_68 : decode cX10_laysSteps 68 = .ok (.iload 5, 2) := by decide +kernel
theorem dX10_laysSteps_70 : decode cX10_laysSteps 70 = .ok (.iload 4, 2) := by decide +kernel
theorem dX10_laysSteps_72 : decode cX10_laysSteps 72 = .ok (.if_icmp .ge 82, 3) := by decide +kernel
theorem dX10_laysSteps_75 : decode cX10_laysSteps 75 = .ok (.aload_n 0, 1) := by decide +kernel
theorem dX10_laysSteps_76 : decode cX10_laysSteps 76 = .ok (.getfield 83, 3) := by decide +kernel
theorem dX10_laysSteps_79 : decode cX10_laysSteps 79 = .ok (.iload 5, 2) := by decide +kernel
theorem dX10_laysSteps_81 : decode cX10_laysSteps 81 = .ok (.iaload, 1) := by decide +kernel
theorem dX10_laysSteps_82 : decode cX10_laysSteps 82 = .ok (.istore 6, 2) := by decide +kernel
theorem dX10_laysSteps_84 : decode cX10_laysSteps 84 = .ok (.iconst 0, 1) := by decide +kernel
theorem dX10_laysSteps_85 : decode cX10_laysSteps 85 = .ok (.istore 7, 2) := by decide +kernel
theorem dX10_laysSteps_87 : decode cX10_laysSteps 87 = .ok (.iload 7, 2) := by decide +kernel
theorem dX10_laysSteps_89 : decode cX10_laysSteps 89 = .ok (.bipush 40, 2) := by decide +kernel
theorem dX10_laysSteps_91 : decode cX10_laysSteps 91 = .ok (.if_icmp .ge 57, 3) := by decide +kernel
theorem dX10_laysSteps_94 : decode cX10_laysSteps 94 = .ok (.aload_n 1, 1) := by decide +kernel
theorem dX10_laysSteps_95 : decode cX10_laysSteps 95 = .ok (.iload 7, 2) := by decide +kernel
theorem dX10_laysSteps_97 : decode cX10_laysSteps 97 = .ok (.iaload, 1) := by decide +kernel
theorem dX10_laysSteps_98 : decode cX10_laysSteps 98 = .ok (.iconst (-1), 1) := by decide +kernel
theorem dX10_laysSteps_99 : decode cX10_laysSteps 99 = .ok (.if_icmp .ne 43, 3) := by decide +kernel
theorem dX10_laysSteps_102 : decode cX10_laysSteps 102 = .ok (.aload_n 0, 1) := by decide +kernel
theorem dX10_laysSteps_103 : decode cX10_laysSteps 103 = .ok (.iload 6, 2) := by decide +kernel
theorem dX10_laysSteps_105 : decode cX10_laysSteps 105 = .ok (.iload 7, 2) := by decide +kernel
theorem dX10_laysSteps_107 : decode cX10_laysSteps 107 = .ok (.iload_n 3, 1) := by decide +kernel
theorem dX10_laysSteps_108 : decode cX10_laysSteps 108 = .ok (.invokevirtual 326, 3) := by decide +kernel
theorem dX10_laysSteps_111 : decode cX10_laysSteps 111 = .ok (.ifCond .ne 6, 3) := by decide +kernel
theorem dX10_laysSteps_114 : decode cX10_laysSteps 114 = .ok (.goto 28, 3) := by decide +kernel
theorem dX10_laysSteps_117 : decode cX10_laysSteps 117 = .ok (.aload_n 1, 1) := by decide +kernel
theorem dX10_laysSteps_118 : decode cX10_laysSteps 118 = .ok (.iload 7, 2) := by decide +kernel
theorem dX10_laysSteps_120 : decode cX10_laysSteps 120 = .ok (.aload_n 1, 1) := by decide +kernel
theorem dX10_laysSteps_121 : decode cX10_laysSteps 121 = .ok (.iload 6, 2) := by decide +kernel
theorem dX10_laysSteps_123 : decode cX10_laysSteps 123 = .ok (.iaload, 1) := by decide +kernel
theorem dX10_laysSteps_124 : decode cX10_laysSteps 124 = .ok (.iconst 1, 1) := by decide +kernel
theorem dX10_laysSteps_125 : decode cX10_laysSteps 125 = .ok (.iadd, 1) := by decide +kernel
theorem dX10_laysSteps_126 : decode cX10_laysSteps 126 = .ok (.iastore, 1) := by decide +kernel
theorem dX10_laysSteps_127 : decode cX10_laysSteps 127 = .ok (.aload_n 0, 1) := by decide +kernel
theorem dX10_laysSteps_128 : decode cX10_laysSteps 128 = .ok (.getfield 83, 3) := by decide +kernel
theorem dX10_laysSteps_131 : decode cX10_laysSteps 131 = .ok (.iload 4, 2) := by decide +kernel
theorem dX10_laysSteps_133 : decode cX10_laysSteps 133 = .ok (.iload 7, 2) := by decide +kernel
theorem dX10_laysSteps_135 : decode cX10_laysSteps 135 = .ok (.iastore, 1) := by decide +kernel
theorem dX10_laysSteps_136 : decode cX10_laysSteps 136 = .ok (.iload 4, 2) := by decide +kernel
theorem dX10_laysSteps_138 : decode cX10_laysSteps 138 = .ok (.iconst 1, 1) := by decide +kernel
theorem dX10_laysSteps_139 : decode cX10_laysSteps 139 = .ok (.iadd, 1) := by decide +kernel
theorem dX10_laysSteps_140 : decode cX10_laysSteps 140 = .ok (.istore 4, 2) := by decide +kernel
theorem dX10_laysSteps_142 : decode cX10_laysSteps 142 = .ok (.iinc 7 1, 3) := by decide +kernel
theorem dX10_laysSteps_145 : decode cX10_laysSteps 145 = .ok (.goto (-58), 3) := by decide +kernel
theorem dX10_laysSteps_148 : decode cX10_laysSteps 148 = .ok (.iinc 5 1, 3) := by decide +kernel
theorem dX10_laysSteps_151 : decode cX10_laysSteps 151 = .ok (.goto (-83), 3) := by decide +kernel
theorem dX10_laysSteps_154 : decode cX10_laysSteps 154 = .ok (.return_, 1) := by decide +kernel
theorem dX10_crossing_0 : decode cX10_crossing 0 = .ok (.iload_n 1, 1) := by decide +kernel
theorem dX10_crossing_1 : decode cX10_crossing 1 = .ok (.bipush 21, 2) := by decide +kernel
theorem dX10_crossing_3 : decode cX10_crossing 3 = .ok (.if_icmp .lt 5, 3) := by decide +kernel
theorem dX10_crossing_6 : decode cX10_crossing 6 = .ok (.iconst 1, 1) := by decide +kernel
theorem dX10_crossing_7 : decode cX10_crossing 7 = .ok (.ireturn, 1) := by decide +kernel
theorem dX10_crossing_8 : decode cX10_crossing 8 = .ok (.aload_n 0, 1) := by decide +kernel
theorem dX10_crossing_9 : decode cX10_crossing 9 = .ok (.aload_n 0, 1) := by decide +kernel
theorem dX10_crossing_10 : decode cX10_crossing 10 = .ok (.getfield 77, 3) := by decide +kernel
theorem dX10_crossing_13 : decode cX10_crossing 13 = .ok (.iconst 1, 1) := by decide +kernel
theorem dX10_crossing_14 : decode cX10_crossing 14 = .ok (.iload_n 1, 1) := by decide +kernel
theorem dX10_crossing_15 : decode cX10_crossing 15 = .ok (.invokevirtual 329, 3) := by decide +kernel
theorem dX10_crossing_18 : decode cX10_crossing 18 = .ok (.iconst (-1), 1) := by decide +kernel
theorem dX10_crossing_19 : decode cX10_crossing 19 = .ok (.istore_n 2, 1) := by decide +kernel
theorem dX10_crossing_20 : decode cX10_crossing 20 = .ok (.iconst 0, 1) := by decide +kernel
theorem dX10_crossing_21 : decode cX10_crossing 21 = .ok (.istore_n 3, 1) := by decide +kernel
theorem dX10_crossing_22 : decode cX10_crossing 22 = .ok (.iload_n 3, 1) := by decide +kernel
theorem dX10_crossing_23 : decode cX10_crossing 23 = .ok (.bipush 40, 2) := by decide +kernel
theorem dX10_crossing_25 : decode cX10_crossing 25 = .ok (.if_icmp .ge 58, 3) := by decide +kernel
theorem dX10_crossing_28 : decode cX10_crossing 28 = .ok (.aload_n 0, 1) := by decide +kernel
theorem dX10_crossing_29 : decode cX10_crossing 29 = .ok (.getfield 77, 3) := by decide +kernel
theorem dX10_crossing_32 : decode cX10_crossing 32 = .ok (.iload_n 3, 1) := by decide +kernel
theorem dX10_crossing_33 : decode cX10_crossing 33 = .ok (.iaload, 1) := by decide +kernel
theorem dX10_crossing_34 : decode cX10_crossing 34 = .ok (.iconst (-1), 1) := by decide +kernel
theorem dX10_crossing_35 : decode cX10_crossing 35 = .ok (.if_icmp .eq 42, 3) := by decide +kernel
theorem dX10_crossing_38 : decode cX10_crossing 38 = .ok (.aload_n 0, 1) := by decide +kernel
theorem dX10_crossing_39 : decode cX10_crossing 39 = .ok (.iload_n 3, 1) := by decide +kernel
theorem dX10_crossing_40 : decode cX10_crossing 40 = .ok (.iconst 0, 1) := by decide +kernel
theorem dX10_crossing_41 : decode cX10_crossing 41 = .ok (.iload_n 1, 1) := by decide +kernel
theorem dX10_crossing_42 : decode cX10_crossing 42 = .ok (.invokevirtual 322, 3) := by decide +kernel
theorem dX10_crossing_45 : decode cX10_crossing 45 = .ok (.ifCond .ne 6, 3) := by decide +kernel
theorem dX10_crossing_48 : decode cX10_crossing 48 = .ok (.goto 29, 3) := by decide +kernel
theorem dX10_crossing_51 : decode cX10_crossing 51 = .ok (.iload_n 2, 1) := by decide +kernel
theorem dX10_crossing_52 : decode cX10_crossing 52 = .ok (.iconst (-1), 1) := by decide +kernel
theorem dX10_crossing_53 : decode cX10_crossing 53 = .ok (.if_icmp .eq 15, 3) := by decide +kernel
theorem dX10_crossing_56 : decode cX10_crossing 56 = .ok (.aload_n 0, 1) := by decide +kernel
theorem dX10_crossing_57 : decode cX10_crossing 57 = .ok (.getfield 77, 3) := by decide +kernel
theorem dX10_crossing_60 : decode cX10_crossing 60 = .ok (.iload_n 3, 1) := by decide +kernel
theorem dX10_crossing_61 : decode cX10_crossing 61 = .ok (.iaload, 1) := by decide +kernel
theorem dX10_crossing_62 : decode cX10_crossing 62 = .ok (.iconst 1, 1) := by decide +kernel
theorem dX10_crossing_63 : decode cX10_crossing 63 = .ok (.iadd, 1) := by decide +kernel
theorem dX10_crossing_64 : decode cX10_crossing 64 = .ok (.iload_n 2, 1) := by decide +kernel
theorem dX10_crossing_65 : decode cX10_crossing 65 = .ok (.if_icmp .ge 12, 3) := by decide +kernel
theorem dX10_crossing_68 : decode cX10_crossing 68 = .ok (.aload_n 0, 1) := by decide +kernel
theorem dX10_crossing_69 : decode cX10_crossing 69 = .ok (.getfield 77, 3) := by decide +kernel
theorem dX10_crossing_72 : decode cX10_crossing 72 = .ok (.iload_n 3, 1) := by decide +kernel
theorem dX10_crossing_73 : decode cX10_crossing 73 = .ok (.iaload, 1) := by decide +kernel
theorem dX10_crossing_74 : decode cX10_crossing 74 = .ok (.iconst 1, 1) := by decide +kernel
theorem dX10_crossing_75 : decode cX10_crossing 75 = .ok (.iadd, 1) := by decide +kernel
theorem dX10_crossing_76 : decode cX10_crossing 76 = .ok (.istore_n 2, 1) := by decide +kernel
theorem dX10_crossing_77 : decode cX10_crossing 77 = .ok (.iinc 3 1, 3) := by decide +kernel
theorem dX10_crossing_80 : decode cX10_crossing 80 = .ok (.goto (-58), 3) := by decide +kernel
theorem dX10_crossing_83 : decode cX10_crossing 83 = .ok (.iload_n 2, 1) := by decide +kernel
theorem dX10_crossing_84 : decode cX10_crossing 84 = .ok (.ireturn, 1) := by decide +kernel
theorem dX10_laysIslands_0 : decode cX10_laysIslands 0 = .ok (.iconst 0, 1) := by decide +kernel
theorem dX10_laysIslands_1 : decode cX10_laysIslands 1 = .ok (.istore_n 2, 1) := by decide +kernel
theorem dX10_laysIslands_2 : decode cX10_laysIslands 2 = .ok (.iconst 0, 1) := by decide +kernel
theorem dX10_laysIslands_3 : decode cX10_laysIslands 3 = .ok (.istore_n 3, 1) := by decide +kernel
theorem dX10_laysIslands_4 : decode cX10_laysIslands 4 = .ok (.iload_n 3, 1) := by decide +kernel
theorem dX10_laysIslands_5 : decode cX10_laysIslands 5 = .ok (.bipush 40, 2) := by decide +kernel
theorem dX10_laysIslands_7 : decode cX10_laysIslands 7 = .ok (.if_icmp .ge 16, 3) := by decide +kernel
theorem dX10_laysIslands_10 : decode cX10_laysIslands 10 = .ok (.aload_n 0, 1) := by decide +kernel
theorem dX10_laysIslands_11 : decode cX10_laysIslands 11 = .ok (.getfield 101, 3) := by decide +kernel
theorem dX10_laysIslands_14 : decode cX10_laysIslands 14 = .ok (.iload_n 3, 1) := by decide +kernel
theorem dX10_laysIslands_15 : decode cX10_laysIslands 15 = .ok (.iconst (-1), 1) := by decide +kernel
theorem dX10_laysIslands_16 : decode cX10_laysIslands 16 = .ok (.iastore, 1) := by decide +kernel
theorem dX10_laysIslands_17 : decode cX10_laysIslands 17 = .ok (.iinc 3 1, 3) := by decide +kernel
theorem dX10_laysIslands_20 : decode cX10_laysIslands 20 = .ok (.goto (-16), 3) := by decide +kernel
theorem dX10_laysIslands_23 : decode cX10_laysIslands 23 = .ok (.iconst 0, 1) := by decide +kernel
theorem dX10_laysIslands_24 : decode cX10_laysIslands 24 = .ok (.istore_n 3, 1) := by decide +kernel
theorem dX10_laysIslands_25 : decode cX10_laysIslands 25 = .ok (.iload_n 3, 1) := by decide +kernel
theorem dX10_laysIslands_26 : decode cX10_laysIslands 26 = .ok (.bipush 40, 2) := by decide +kernel
theorem dX10_laysIslands_28 : decode cX10_laysIslands 28 = .ok (.if_icmp .ge 137, 3) := by decide +kernel
theorem dX10_laysIslands_31 : decode cX10_laysIslands 31 = .ok (.aload_n 0, 1) := by decide +kernel
theorem dX10_laysIslands_32 : decode cX10_laysIslands 32 = .ok (.iload_n 3, 1) := by decide +kernel
theorem dX10_laysIslands_33 : decode cX10_laysIslands 33 = .ok (.invokevirtual 319, 3) := by decide +kernel
theorem dX10_laysIslands_36 : decode cX10_laysIslands 36 = .ok (.ifCond .eq 123, 3) := by decide +kernel
theorem dX10_laysIslands_39 : decode cX10_laysIslands 39 = .ok (.aload_n 0, 1) := by decide +kernel
theorem dX10_laysIslands_40 : decode cX10_laysIslands 40 = .ok (.getfield 101, 3) := by decide +kernel
theorem dX10_laysIslands_43 : decode cX10_laysIslands 43 = .ok (.iload_n 3, 1) := by decide +kernel
theorem dX10_laysIslands_44 : decode cX10_laysIslands 44 = .ok (.iaload, 1) := by decide +kernel
theorem dX10_laysIslands_45 : decode cX10_laysIslands 45 = .ok (.iconst (-1), 1) := by decide +kernel
theorem dX10_laysIslands_46 : decode cX10_laysIslands 46 = .ok (.if_icmp .eq 6, 3) := by decide +kernel
theorem dX10_laysIslands_49 : decode cX10_laysIslands 49 = .ok (.goto 110, 3) := by decide +kernel
theorem dX10_laysIslands_52 : decode cX10_laysIslands 52 = .ok (.iconst 1, 1) := by decide +kernel
theorem dX10_laysIslands_53 : decode cX10_laysIslands 53 = .ok (.istore 4, 2) := by decide +kernel
theorem dX10_laysIslands_55 : decode cX10_laysIslands 55 = .ok (.aload_n 0, 1) := by decide +kernel
theorem dX10_laysIslands_56 : decode cX10_laysIslands 56 = .ok (.getfield 83, 3) := by decide +kernel
theorem dX10_laysIslands_59 : decode cX10_laysIslands 59 = .ok (.iconst 0, 1) := by decide +kernel
theorem dX10_laysIslands_60 : decode cX10_laysIslands 60 = .ok (.iload_n 3, 1) := by decide +kernel
theorem dX10_laysIslands_61 : decode cX10_laysIslands 61 = .ok (.iastore, 1) := by decide +kernel
theorem dX10_laysIslands_62 : decode cX10_laysIslands 62 = .ok (.aload_n 0, 1) := by decide +kernel
theorem dX10_laysIslands_63 : decode cX10_laysIslands 63 = .ok (.getfield 101, 3) := by decide +kernel
theorem dX10_laysIslands_66 : decode cX10_laysIslands 66 = .ok (.iload_n 3, 1) := by decide +kernel
theorem dX10_laysIslands_67 : decode cX10_laysIslands 67 = .ok (.iload_n 2, 1) := by decide +kernel
theorem dX10_laysIslands_68 : decode cX10_laysIslands 68 = .ok (.iastore, 1) := by decide +kernel
theorem dX10_laysIslands_69 : decode cX10_laysIslands 69 = .ok (.iconst 0, 1) := by decide +kernel
theorem dX10_laysIslands_70 : decode cX10_laysIslands 70 = .ok (.istore 5, 2) := by decide +kernel
theorem dX10_laysIslands_72 : decode cX10_laysIslands 72 = .ok (.iload 5, 2) := by decide +kernel
theorem dX10_laysIslands_74 : decode cX10_laysIslands 74 = .ok (.iload 4, 2) := by decide +kernel
theorem dX10_laysIslands_76 : decode cX10_laysIslands 76 = .ok (.if_icmp .ge 79, 3) := by decide +kernel
theorem dX10_laysIslands_79 : decode cX10_laysIslands 79 = .ok (.iconst 0, 1) := by decide +kernel
theorem dX10_laysIslands_80 : decode cX10_laysIslands 80 = .ok (.istore 6, 2) := by decide +kernel
theorem dX10_laysIslands_82 : decode cX10_laysIslands 82 = .ok (.iload 6, 2) := by decide +kernel
theorem dX10_laysIslands_84 : decode cX10_laysIslands 84 = .ok (.bipush 40, 2) := by decide +kernel
theorem dX10_laysIslands_86 : decode cX10_laysIslands 86 = .ok (.if_icmp .ge 63, 3) := by decide +kernel
theorem dX10_laysIslands_89 : decode cX10_laysIslands 89 = .ok (.aload_n 0, 1) := by decide +kernel
theorem dX10_laysIslands_90 : decode cX10_laysIslands 90 = .ok (.getfield 101, 3) := by decide +kernel
theorem dX10_laysIslands_93 : decode cX10_laysIslands 93 = .ok (.iload 6, 2) := by decide +kernel
theorem dX10_laysIslands_95 : decode cX10_laysIslands 95 = .ok (.iaload, 1) := by decide +kernel
theorem dX10_laysIslands_96 : decode cX10_laysIslands 96 = .ok (.iconst (-1), 1) := by decide +kernel
theorem dX10_laysIslands_97 : decode cX10_laysIslands 97 = .ok (.if_icmp .ne 46, 3) := by decide +kernel
theorem dX10_laysIslands_100 : decode cX10_laysIslands 100 = .ok (.aload_n 0, 1) := by decide +kernel
theorem dX10_laysIslands_101 : decode cX10_laysIslands 101 = .ok (.aload_n 0, 1) := by decide +kernel
theorem dX10_laysIslands_102 : decode cX10_laysIslands 102 = .ok (.getfield 83, 3) := by decide +kernel
theorem dX10_laysIslands_105 : decode cX10_laysIslands 105 = .ok (.iload 5, 2) := by decide +kernel
theorem dX10_laysIslands_107 : decode cX10_laysIslands 107 = .ok (.iaload, 1) := by decide +kernel
theorem dX10_laysIslands_108 : decode cX10_laysIslands 108 = .ok (.iload 6, 2) := by decide +kernel
theorem dX10_laysIslands_110 : decode cX10_laysIslands 110 = .ok (.iload_n 1, 1) := by decide +kernel
theorem dX10_laysIslands_111 : decode cX10_laysIslands 111 = .ok (.invokevirtual 326, 3) := by decide +kernel
theorem dX10_laysIslands_114 : decode cX10_laysIslands 114 = .ok (.ifCond .ne 6, 3) := by decide +kernel
theorem dX10_laysIslands_117 : decode cX10_laysIslands 117 = .ok (.goto 26, 3) := by decide +kernel
theorem dX10_laysIslands_120 : decode cX10_laysIslands 120 = .ok (.aload_n 0, 1) := by decide +kernel
theorem dX10_laysIslands_121 : decode cX10_laysIslands 121 = .ok (.getfield 101, 3) := by decide +kernel
theorem dX10_laysIslands_124 : decode cX10_laysIslands 124 = .ok (.iload 6, 2) := by decide +kernel
theorem dX10_laysIslands_126 : decode cX10_laysIslands 126 = .ok (.iload_n 2, 1) := by decide +kernel
theorem dX10_laysIslands_127 : decode cX10_laysIslands 127 = .ok (.iastore, 1) := by decide +kernel
theorem dX10_laysIslands_128 : decode cX10_laysIslands 128 = .ok (.aload_n 0, 1) := by decide +kernel
theorem dX10_laysIslands_129 : decode cX10_laysIslands 129 = .ok (.getfield 83, 3) := by decide +kernel
theorem dX10_laysIslands_132 : decode cX10_laysIslands 132 = .ok (.iload 4, 2) := by decide +kernel
theorem dX10_laysIslands_134 : decode cX10_laysIslands 134 = .ok (.iload 6, 2) := by decide +kernel
theorem dX10_laysIslands_136 : decode cX10_laysIslands 136 = .ok (.iastore, 1) := by decide +kernel
theorem dX10_laysIslands_137 : decode cX10_laysIslands 137 = .ok (.iload 4, 2) := by decide +kernel
theorem dX10_laysIslands_139 : decode cX10_laysIslands 139 = .ok (.iconst 1, 1) := by decide +kernel
theorem dX10_laysIslands_140 : decode cX10_laysIslands 140 = .ok (.iadd, 1) := by decide +kernel
theorem dX10_laysIslands_141 : decode cX10_laysIslands 141 = .ok (.istore 4, 2) := by decide +kernel
theorem dX10_laysIslands_143 : decode cX10_laysIslands 143 = .ok (.iinc 6 1, 3) := by decide +kernel
theorem dX10_laysIslands_146 : decode cX10_laysIslands 146 = .ok (.goto (-64), 3) := by decide +kernel
theorem dX10_laysIslands_149 : decode cX10_laysIslands 149 = .ok (.iinc 5 1, 3) := by decide +kernel
theorem dX10_laysIslands_152 : decode cX10_laysIslands 152 = .ok (.goto (-80), 3) := by decide +kernel
theorem dX10_laysIslands_155 : decode cX10_laysIslands 155 = .ok (.iload_n 2, 1) := by decide +kernel
theorem dX10_laysIslands_156 : decode cX10_laysIslands 156 = .ok (.iconst 1, 1) := by decide +kernel
theorem dX10_laysIslands_157 : decode cX10_laysIslands 157 = .ok (.iadd, 1) := by decide +kernel
theorem dX10_laysIslands_158 : decode cX10_laysIslands 158 = .ok (.istore_n 2, 1) := by decide +kernel
theorem dX10_laysIslands_159 : decode cX10_laysIslands 159 = .ok (.iinc 3 1, 3) := by decide +kernel
theorem dX10_laysIslands_162 : decode cX10_laysIslands 162 = .ok (.goto (-137), 3) := by decide +kernel
theorem dX10_laysIslands_165 : decode cX10_laysIslands 165 = .ok (.iload_n 2, 1) := by decide +kernel
theorem dX10_laysIslands_166 : decode cX10_laysIslands 166 = .ok (.ireturn, 1) := by decide +kernel
theorem dX10_mostInLine_0 : decode cX10_mostInLine 0 = .ok (.iconst 2, 1) := by decide +kernel
theorem dX10_mostInLine_1 : decode cX10_mostInLine 1 = .ok (.aload_n 0, 1) := by decide +kernel
theorem dX10_mostInLine_2 : decode cX10_mostInLine 2 = .ok (.iconst 0, 1) := by decide +kernel
theorem dX10_mostInLine_3 : decode cX10_mostInLine 3 = .ok (.invokevirtual 312, 3) := by decide +kernel
theorem dX10_mostInLine_6 : decode cX10_mostInLine 6 = .ok (.invokestatic 125, 3) := by decide +kernel
theorem dX10_mostInLine_9 : decode cX10_mostInLine 9 = .ok (.istore_n 1, 1) := by decide +kernel
theorem dX10_mostInLine_10 : decode cX10_mostInLine 10 = .ok (.iconst 0, 1) := by decide +kernel
theorem dX10_mostInLine_11 : decode cX10_mostInLine 11 = .ok (.istore_n 2, 1) := by decide +kernel
theorem dX10_mostInLine_12 : decode cX10_mostInLine 12 = .ok (.iload_n 2, 1) := by decide +kernel
theorem dX10_mostInLine_13 : decode cX10_mostInLine 13 = .ok (.bipush 40, 2) := by decide +kernel
theorem dX10_mostInLine_15 : decode cX10_mostInLine 15 = .ok (.if_icmp .ge 93, 3) := by decide +kernel
theorem dX10_mostInLine_18 : decode cX10_mostInLine 18 = .ok (.iconst 0, 1) := by decide +kernel
theorem dX10_mostInLine_19 : decode cX10_mostInLine 19 = .ok (.istore_n 3, 1) := by decide +kernel
theorem dX10_mostInLine_20 : decode cX10_mostInLine 20 = .ok (.iload_n 3, 1) := by decide +kernel
theorem dX10_mostInLine_21 : decode cX10_mostInLine 21 = .ok (.iload_n 2, 1) := by decide +kernel
theorem dX10_mostInLine_22 : decode cX10_mostInLine 22 = .ok (.if_icmp .ge 80, 3) := by decide +kernel
theorem dX10_mostInLine_25 : decode cX10_mostInLine 25 = .ok (.aload_n 0, 1) := by decide +kernel
theorem dX10_mostInLine_26 : decode cX10_mostInLine 26 = .ok (.iload_n 2, 1) := by decide +kernel
theorem dX10_mostInLine_27 : decode cX10_mostInLine 27 = .ok (.invokevirtual 154, 3) := by decide +kernel
theorem dX10_mostInLine_30 : decode cX10_mostInLine 30 = .ok (.ifCond .eq 66, 3) := by decide +kernel
theorem dX10_mostInLine_33 : decode cX10_mostInLine 33 = .ok (.aload_n 0, 1) := by decide +kernel
theorem dX10_mostInLine_34 : decode cX10_mostInLine 34 = .ok (.iload_n 3, 1) := by decide +kernel
theorem dX10_mostInLine_35 : decode cX10_mostInLine 35 = .ok (.invokevirtual 154, 3) := by decide +kernel
theorem dX10_mostInLine_38 : decode cX10_mostInLine 38 = .ok (.ifCond .ne 6, 3) := by decide +kernel
theorem dX10_mostInLine_41 : decode cX10_mostInLine 41 = .ok (.goto 55, 3) := by decide +kernel
theorem dX10_mostInLine_44 : decode cX10_mostInLine 44 = .ok (.iconst 0, 1) := by decide +kernel
theorem dX10_mostInLine_45 : decode cX10_mostInLine 45 = .ok (.istore 4, 2) := by decide +kernel
theorem dX10_mostInLine_47 : decode cX10_mostInLine 47 = .ok (.iconst 0, 1) := by decide +kernel
theorem dX10_mostInLine_48 : decode cX10_mostInLine 48 = .ok (.istore 5, 2) := by decide +kernel
theorem dX10_mostInLine_50 : decode cX10_mostInLine 50 = .ok (.iload 5, 2) := by decide +kernel
theorem dX10_mostInLine_52 : decode cX10_mostInLine 52 = .ok (.bipush 40, 2) := by decide +kernel
theorem dX10_mostInLine_54 : decode cX10_mostInLine 54 = .ok (.if_icmp .ge 35, 3) := by decide +kernel
theorem dX10_mostInLine_57 : decode cX10_mostInLine 57 = .ok (.aload_n 0, 1) := by decide +kernel
theorem dX10_mostInLine_58 : decode cX10_mostInLine 58 = .ok (.iload 5, 2) := by decide +kernel
theorem dX10_mostInLine_60 : decode cX10_mostInLine 60 = .ok (.invokevirtual 154, 3) := by decide +kernel
theorem dX10_mostInLine_63 : decode cX10_mostInLine 63 = .ok (.ifCond .eq 20, 3) := by decide +kernel
theorem dX10_mostInLine_66 : decode cX10_mostInLine 66 = .ok (.aload_n 0, 1) := by decide +kernel
theorem dX10_mostInLine_67 : decode cX10_mostInLine 67 = .ok (.iload_n 2, 1) := by decide +kernel
theorem dX10_mostInLine_68 : decode cX10_mostInLine 68 = .ok (.iload_n 3, 1) := by decide +kernel
theorem dX10_mostInLine_69 : decode cX10_mostInLine 69 = .ok (.iload 5, 2) := by decide +kernel
theorem dX10_mostInLine_71 : decode cX10_mostInLine 71 = .ok (.invokevirtual 396, 3) := by decide +kernel
theorem dX10_mostInLine_74 : decode cX10_mostInLine 74 = .ok (.ifCond .eq 9, 3) := by decide +kernel
theorem dX10_mostInLine_77 : decode cX10_mostInLine 77 = .ok (.iload 4, 2) := by decide +kernel
theorem dX10_mostInLine_79 : decode cX10_mostInLine 79 = .ok (.iconst 1, 1) := by decide +kernel
theorem dX10_mostInLine_80 : decode cX10_mostInLine 80 = .ok (.iadd, 1) := by decide +kernel
theorem dX10_mostInLine_81 : decode cX10_mostInLine 81 = .ok (.istore 4, 2) := by decide +kernel
theorem dX10_mostInLine_83 : decode cX10_mostInLine 83 = .ok (.iinc 5 1, 3) := by decide +kernel
theorem dX10_mostInLine_86 : decode cX10_mostInLine 86 = .ok (.goto (-36), 3) := by decide +kernel
theorem dX10_mostInLine_89 : decode cX10_mostInLine 89 = .ok (.iload_n 1, 1) := by decide +kernel
theorem dX10_mostInLine_90 : decode cX10_mostInLine 90 = .ok (.iload 4, 2) := by decide +kernel
theorem dX10_mostInLine_92 : decode cX10_mostInLine 92 = .ok (.invokestatic 129, 3) := by decide +kernel
theorem dX10_mostInLine_95 : decode cX10_mostInLine 95 = .ok (.istore_n 1, 1) := by decide +kernel
theorem dX10_mostInLine_96 : decode cX10_mostInLine 96 = .ok (.iinc 3 1, 3) := by decide +kernel
theorem dX10_mostInLine_99 : decode cX10_mostInLine 99 = .ok (.goto (-79), 3) := by decide +kernel
theorem dX10_mostInLine_102 : decode cX10_mostInLine 102 = .ok (.iinc 2 1, 3) := by decide +kernel
theorem dX10_mostInLine_105 : decode cX10_mostInLine 105 = .ok (.goto (-93), 3) := by decide +kernel
theorem dX10_mostInLine_108 : decode cX10_mostInLine 108 = .ok (.iload_n 1, 1) := by decide +kernel
theorem dX10_mostInLine_109 : decode cX10_mostInLine 109 = .ok (.ireturn, 1) := by decide +kernel
theorem dX10_yardRow_0 : decode cX10_yardRow 0 = .ok (.iconst 0, 1) := by decide +kernel
theorem dX10_yardRow_1 : decode cX10_yardRow 1 = .ok (.istore_n 1, 1) := by decide +kernel
theorem dX10_yardRow_2 : decode cX10_yardRow 2 = .ok (.iconst 0, 1) := by decide +kernel
theorem dX10_yardRow_3 : decode cX10_yardRow 3 = .ok (.istore_n 2, 1) := by decide +kernel
theorem dX10_yardRow_4 : decode cX10_yardRow 4 = .ok (.iload_n 2, 1) := by decide +kernel
theorem dX10_yardRow_5 : decode cX10_yardRow 5 = .ok (.bipush 40, 2) := by decide +kernel
theorem dX10_yardRow_7 : decode cX10_yardRow 7 = .ok (.if_icmp .ge 60, 3) := by decide +kernel
theorem dX10_yardRow_10 : decode cX10_yardRow 10 = .ok (.iconst 0, 1) := by decide +kernel
theorem dX10_yardRow_11 : decode cX10_yardRow 11 = .ok (.istore_n 3, 1) := by decide +kernel
theorem dX10_yardRow_12 : decode cX10_yardRow 12 = .ok (.aload_n 0, 1) := by decide +kernel
theorem dX10_yardRow_13 : decode cX10_yardRow 13 = .ok (.iload_n 2, 1) := by decide +kernel
theorem dX10_yardRow_14 : decode cX10_yardRow 14 = .ok (.invokevirtual 154, 3) := by decide +kernel
theorem dX10_yardRow_17 : decode cX10_yardRow 17 = .ok (.ifCond .eq 38, 3) := by decide +kernel
theorem dX10_yardRow_20 : decode cX10_yardRow 20 = .ok (.aload_n 0, 1) := by decide +kernel
theorem dX10_yardRow_21 : decode cX10_yardRow 21 = .ok (.aload_n 0, 1) := by decide +kernel
theorem dX10_yardRow_22 : decode cX10_yardRow 22 = .ok (.getfield 7, 3) := by decide +kernel
theorem dX10_yardRow_25 : decode cX10_yardRow 25 = .ok (.bipush 40, 2) := by decide +kernel
theorem dX10_yardRow_27 : decode cX10_yardRow 27 = .ok (.iload_n 2, 1) := by decide +kernel
theorem dX10_yardRow_28 : decode cX10_yardRow 28 = .ok (.iadd, 1) := by decide +kernel
theorem dX10_yardRow_29 : decode cX10_yardRow 29 = .ok (.iaload, 1) := by decide +kernel
theorem dX10_yardRow_30 : decode cX10_yardRow 30 = .ok (.aload_n 0, 1) := by decide +kernel
theorem dX10_yardRow_31 : decode cX10_yardRow 31 = .ok (.getfield 7, 3) := by decide +kernel
theorem dX10_yardRow_34 : decode cX10_yardRow 34 = .ok (.bipush 80, 2) := by decide +kernel
theorem dX10_yardRow_36 : decode cX10_yardRow 36 = .ok (.iload_n 2, 1) := by decide +kernel
theorem dX10_yardRow_37 : decode cX10_yardRow 37 = .ok (.iadd, 1) := by decide +kernel
theorem dX10_yardRow_38 : decode cX10_yardRow 38 = .ok (.iaload, 1) := by decide +kernel
theorem dX10_yardRow_39 : decode cX10_yardRow 39 = .ok (.iload_n 3, 1) := by decide +kernel
theorem dX10_yardRow_40 : decode cX10_yardRow 40 = .ok (.iadd, 1) := by decide +kernel
theorem dX10_yardRow_41 : decode cX10_yardRow 41 = .ok (.invokevirtual 147, 3) := by decide +kernel
theorem dX10_yardRow_44 : decode cX10_yardRow 44 = .ok (.iconst (-1), 1) := by decide +kernel
theorem dX10_yardRow_45 : decode cX10_yardRow 45 = .ok (.if_icmp .eq 10, 3) := by decide +kernel
theorem dX10_yardRow_48 : decode cX10_yardRow 48 = .ok (.iload_n 3, 1) := by decide +kernel
theorem dX10_yardRow_49 : decode cX10_yardRow 49 = .ok (.iconst 1, 1) := by decide +kernel
theorem dX10_yardRow_50 : decode cX10_yardRow 50 = .ok (.iadd, 1) := by decide +kernel
theorem dX10_yardRow_51 : decode cX10_yardRow 51 = .ok (.istore_n 3, 1) := by decide +kernel
theorem dX10_yardRow_52 : decode cX10_yardRow 52 = .ok (.goto (-40), 3) := by decide +kernel
theorem dX10_yardRow_55 : decode cX10_yardRow 55 = .ok (.iload_n 1, 1) := by decide +kernel
theorem dX10_yardRow_56 : decode cX10_yardRow 56 = .ok (.iload_n 3, 1) := by decide +kernel
theorem dX10_yardRow_57 : decode cX10_yardRow 57 = .ok (.invokestatic 129, 3) := by decide +kernel
theorem dX10_yardRow_60 : decode cX10_yardRow 60 = .ok (.istore_n 1, 1) := by decide +kernel
theorem dX10_yardRow_61 : decode cX10_yardRow 61 = .ok (.iinc 2 1, 3) := by decide +kernel
theorem dX10_yardRow_64 : decode cX10_yardRow 64 = .ok (.goto (-60), 3) := by decide +kernel
theorem dX10_yardRow_67 : decode cX10_yardRow 67 = .ok (.iload_n 1, 1) := by decide +kernel
theorem dX10_yardRow_68 : decode cX10_yardRow 68 = .ok (.ireturn, 1) := by decide +kernel
theorem dX10_pairsOf_0 : decode cX10_pairsOf 0 = .ok (.iconst 0, 1) := by decide +kernel
theorem dX10_pairsOf_1 : decode cX10_pairsOf 1 = .ok (.istore_n 1, 1) := by decide +kernel
theorem dX10_pairsOf_2 : decode cX10_pairsOf 2 = .ok (.iconst 0, 1) := by decide +kernel
theorem dX10_pairsOf_3 : decode cX10_pairsOf 3 = .ok (.istore_n 2, 1) := by decide +kernel
theorem dX10_pairsOf_4 : decode cX10_pairsOf 4 = .ok (.iload_n 2, 1) := by decide +kernel
theorem dX10_pairsOf_5 : decode cX10_pairsOf 5 = .ok (.bipush 40, 2) := by decide +kernel
theorem dX10_pairsOf_7 : decode cX10_pairsOf 7 = .ok (.if_icmp .ge 44, 3) := by decide +kernel
theorem dX10_pairsOf_10 : decode cX10_pairsOf 10 = .ok (.aload_n 0, 1) := by decide +kernel
theorem dX10_pairsOf_11 : decode cX10_pairsOf 11 = .ok (.iload_n 2, 1) := by decide +kernel
theorem dX10_pairsOf_12 : decode cX10_pairsOf 12 = .ok (.invokevirtual 154, 3) := by decide +kernel
theorem dX10_pairsOf_15 : decode cX10_pairsOf 15 = .ok (.ifCond .ne 6, 3) := by decide +kernel
theorem dX10_pairsOf_18 : decode cX10_pairsOf 18 = .ok (.goto 27, 3) := by decide +kernel
theorem dX10_pairsOf_21 : decode cX10_pairsOf 21 = .ok (.aload_n 0, 1) := by decide +kernel
theorem dX10_pairsOf_22 : decode cX10_pairsOf 22 = .ok (.iload_n 2, 1) := by decide +kernel
theorem dX10_pairsOf_23 : decode cX10_pairsOf 23 = .ok (.invokevirtual 399, 3) := by decide +kernel
theorem dX10_pairsOf_26 : decode cX10_pairsOf 26 = .ok (.istore_n 3, 1) := by decide +kernel
theorem dX10_pairsOf_27 : decode cX10_pairsOf 27 = .ok (.iload_n 3, 1) := by decide +kernel
theorem dX10_pairsOf_28 : decode cX10_pairsOf 28 = .ok (.iload_n 2, 1) := by decide +kernel
theorem dX10_pairsOf_29 : decode cX10_pairsOf 29 = .ok (.if_icmp .le 16, 3) := by decide +kernel
theorem dX10_pairsOf_32 : decode cX10_pairsOf 32 = .ok (.aload_n 0, 1) := by decide +kernel
theorem dX10_pairsOf_33 : decode cX10_pairsOf 33 = .ok (.iload_n 3, 1) := by decide +kernel
theorem dX10_pairsOf_34 : decode cX10_pairsOf 34 = .ok (.invokevirtual 399, 3) := by decide +kernel
theorem dX10_pairsOf_37 : decode cX10_pairsOf 37 = .ok (.iload_n 2, 1) := by decide +kernel
theorem dX10_pairsOf_38 : decode cX10_pairsOf 38 = .ok (.if_icmp .ne 7, 3) := by decide +kernel
theorem dX10_pairsOf_41 : decode cX10_pairsOf 41 = .ok (.iload_n 1, 1) := by decide +kernel
theorem dX10_pairsOf_42 : decode cX10_pairsOf 42 = .ok (.iconst 1, 1) := by decide +kernel
theorem dX10_pairsOf_43 : decode cX10_pairsOf 43 = .ok (.iadd, 1) := by decide +kernel
theorem dX10_pairsOf_44 : decode cX10_pairsOf 44 = .ok (.istore_n 1, 1) := by decide +kernel
theorem dX10_pairsOf_45 : decode cX10_pairsOf 45 = .ok (.iinc 2 1, 3) := by decide +kernel
theorem dX10_pairsOf_48 : decode cX10_pairsOf 48 = .ok (.goto (-44), 3) := by decide +kernel
theorem dX10_pairsOf_51 : decode cX10_pairsOf 51 = .ok (.iload_n 1, 1) := by decide +kernel
theorem dX10_pairsOf_52 : decode cX10_pairsOf 52 = .ok (.ireturn, 1) := by decide +kernel
theorem dX10_closest_0 : decode cX10_closest 0 = .ok (.bipush (-2), 2) := by decide +kernel
theorem dX10_closest_2 : decode cX10_closest 2 = .ok (.istore_n 1, 1) := by decide +kernel
theorem dX10_closest_3 : decode cX10_closest 3 = .ok (.iconst 0, 1) := by decide +kernel
theorem dX10_closest_4 : decode cX10_closest 4 = .ok (.istore_n 2, 1) := by decide +kernel
theorem dX10_closest_5 : decode cX10_closest 5 = .ok (.iload_n 2, 1) := by decide +kernel
theorem dX10_closest_6 : decode cX10_closest 6 = .ok (.bipush 40, 2) := by decide +kernel
theorem dX10_closest_8 : decode cX10_closest 8 = .ok (.if_icmp .ge 55, 3) := by decide +kernel
theorem dX10_closest_11 : decode cX10_closest 11 = .ok (.aload_n 0, 1) := by decide +kernel
theorem dX10_closest_12 : decode cX10_closest 12 = .ok (.iload_n 2, 1) := by decide +kernel
theorem dX10_closest_13 : decode cX10_closest 13 = .ok (.invokevirtual 154, 3) := by decide +kernel
theorem dX10_closest_16 : decode cX10_closest 16 = .ok (.ifCond .eq 11, 3) := by decide +kernel
theorem dX10_closest_19 : decode cX10_closest 19 = .ok (.aload_n 0, 1) := by decide +kernel
theorem dX10_closest_20 : decode cX10_closest 20 = .ok (.iload_n 2, 1) := by decide +kernel
theorem dX10_closest_21 : decode cX10_closest 21 = .ok (.invokevirtual 399, 3) := by decide +kernel
theorem dX10_closest_24 : decode cX10_closest 24 = .ok (.goto 4, 3) := by decide +kernel
theorem dX10_closest_27 : decode cX10_closest 27 = .ok (.iconst (-1), 1) := by decide +kernel
theorem dX10_closest_28 : decode cX10_closest 28 = .ok (.istore_n 3, 1) := by decide +kernel
theorem dX10_closest_29 : decode cX10_closest 29 = .ok (.iload_n 3, 1) := by decide +kernel
theorem dX10_closest_30 : decode cX10_closest 30 = .ok (.iconst (-1), 1) := by decide +kernel
theorem dX10_closest_31 : decode cX10_closest 31 = .ok (.if_icmp .eq 26, 3) := by decide +kernel
theorem dX10_closest_34 : decode cX10_closest 34 = .ok (.iload_n 1, 1) := by decide +kernel
theorem dX10_closest_35 : decode cX10_closest 35 = .ok (.bipush (-2), 2) := by decide +kernel
theorem dX10_closest_37 : decode cX10_closest 37 = .ok (.if_icmp .eq 13, 3) := by decide +kernel
theorem dX10_closest_40 : decode cX10_closest 40 = .ok (.aload_n 0, 1) := by decide +kernel
theorem dX10_closest_41 : decode cX10_closest 41 = .ok (.iload_n 2, 1) := by decide +kernel
theorem dX10_closest_42 : decode cX10_closest 42 = .ok (.iload_n 3, 1) := by decide +kernel
theorem dX10_closest_43 : decode cX10_closest 43 = .ok (.invokevirtual 144, 3) := by decide +kernel
theorem dX10_closest_46 : decode cX10_closest 46 = .ok (.iload_n 1, 1) := by decide +kernel
theorem dX10_closest_47 : decode cX10_closest 47 = .ok (.if_icmp .ge 10, 3) := by decide +kernel
theorem dX10_closest_50 : decode cX10_closest 50 = .ok (.aload_n 0, 1) := by decide +kernel
theorem dX10_closest_51 : decode cX10_closest 51 = .ok (.iload_n 2, 1) := by decide +kernel
theorem dX10_closest_52 : decode cX10_closest 52 = .ok (.iload_n 3, 1) := by decide +kernel
theorem dX10_closest_53 : decode cX10_closest 53 = .ok (.invokevirtual 144, 3) := by decide +kernel
theorem dX10_closest_56 : decode cX10_closest 56 = .ok (.istore_n 1, 1) := by decide +kernel
theorem dX10_closest_57 : decode cX10_closest 57 = .ok (.iinc 2 1, 3) := by decide +kernel
theorem dX10_closest_60 : decode cX10_closest 60 = .ok (.goto (-55), 3) := by decide +kernel
theorem dX10_closest_63 : decode cX10_closest 63 = .ok (.iload_n 1, 1) := by decide +kernel
theorem dX10_closest_64 : decode cX10_closest 64 = .ok (.ireturn, 1) := by decide +kernel
theorem dX10_listsStones_0 : decode cX10_listsStones 0 = .ok (.iconst 0, 1) := by decide +kernel
theorem dX10_listsStones_1 : decode cX10_listsStones 1 = .ok (.istore_n 3, 1) := by decide +kernel
theorem dX10_listsStones_2 : decode cX10_listsStones 2 = .ok (.iconst 0, 1) := by decide +kernel
theorem dX10_listsStones_3 : decode cX10_listsStones 3 = .ok (.istore 4, 2) := by decide +kernel
theorem dX10_listsStones_5 : decode cX10_listsStones 5 = .ok (.iload 4, 2) := by decide +kernel
theorem dX10_listsStones_7 : decode cX10_listsStones 7 = .ok (.bipush 40, 2) := by decide +kernel
theorem dX10_listsStones_9 : decode cX10_listsStones 9 = .ok (.if_icmp .ge 51, 3) := by decide +kernel
theorem dX10_listsStones_12 : decode cX10_listsStones 12 = .ok (.iload_n 3, 1) := by decide +kernel
theorem dX10_listsStones_13 : decode cX10_listsStones 13 = .ok (.iload_n 1, 1) := by decide +kernel
theorem dX10_listsStones_14 : decode cX10_listsStones 14 = .ok (.if_icmp .ge 46, 3) := by decide +kernel
theorem dX10_listsStones_17 : decode cX10_listsStones 17 = .ok (.aload_n 0, 1) := by decide +kernel
theorem dX10_listsStones_18 : decode cX10_listsStones 18 = .ok (.iload 4, 2) := by decide +kernel
theorem dX10_listsStones_20 : decode cX10_listsStones 20 = .ok (.invokevirtual 154, 3) := by decide +kernel
theorem dX10_listsStones_23 : decode cX10_listsStones 23 = .ok (.ifCond .eq 31, 3) := by decide +kernel
theorem dX10_listsStones_26 : decode cX10_listsStones 26 = .ok (.iload_n 2, 1) := by decide +kernel
theorem dX10_listsStones_27 : decode cX10_listsStones 27 = .ok (.ifCond .eq 15, 3) := by decide +kernel
theorem dX10_listsStones_30 : decode cX10_listsStones 30 = .ok (.aload_n 0, 1) := by decide +kernel
theorem dX10_listsStones_31 : decode cX10_listsStones 31 = .ok (.iload 4, 2) := by decide +kernel
theorem dX10_listsStones_33 : decode cX10_listsStones 33 = .ok (.invokevirtual 319, 3) := by decide +kernel
theorem dX10_listsStones_36 : decode cX10_listsStones 36 = .ok (.ifCond .ne 6, 3) := by decide +kernel
theorem dX10_listsStones_39 : decode cX10_listsStones 39 = .ok (.goto 15, 3) := by decide +kernel
theorem dX10_listsStones_42 : decode cX10_listsStones 42 = .ok (.aload_n 0, 1) := by decide +kernel
theorem dX10_listsStones_43 : decode cX10_listsStones 43 = .ok (.getfield 116, 3) := by decide +kernel
theorem dX10_listsStones_46 : decode cX10_listsStones 46 = .ok (.iload_n 3, 1) := by decide +kernel
theorem dX10_listsStones_47 : decode cX10_listsStones 47 = .ok (.iload 4, 2) := by decide +kernel
theorem dX10_listsStones_49 : decode cX10_listsStones 49 = .ok (.iastore, 1) := by decide +kernel
theorem dX10_listsStones_50 : decode cX10_listsStones 50 = .ok (.iload_n 3, 1) := by decide +kernel
theorem dX10_listsStones_51 : decode cX10_listsStones 51 = .ok (.iconst 1, 1) := by decide +kernel
theorem dX10_listsStones_52 : decode cX10_listsStones 52 = .ok (.iadd, 1) := by decide +kernel
theorem dX10_listsStones_53 : decode cX10_listsStones 53 = .ok (.istore_n 3, 1) := by decide +kernel
theorem dX10_listsStones_54 : decode cX10_listsStones 54 = .ok (.iinc 4 1, 3) := by decide +kernel
theorem dX10_listsStones_57 : decode cX10_listsStones 57 = .ok (.goto (-52), 3) := by decide +kernel
theorem dX10_listsStones_60 : decode cX10_listsStones 60 = .ok (.iload_n 3, 1) := by decide +kernel
theorem dX10_listsStones_61 : decode cX10_listsStones 61 = .ok (.iload_n 1, 1) := by decide +kernel
theorem dX10_listsStones_62 : decode cX10_listsStones 62 = .ok (.if_icmp .ne 7, 3) := by decide +kernel
theorem dX10_listsStones_65 : decode cX10_listsStones 65 = .ok (.iconst 1, 1) := by decide +kernel
theorem dX10_listsStones_66 : decode cX10_listsStones 66 = .ok (.goto 4, 3) := by decide +kernel
theorem dX10_listsStones_69 : decode cX10_listsStones 69 = .ok (.iconst 0, 1) := by decide +kernel
theorem dX10_listsStones_70 : decode cX10_listsStones 70 = .ok (.ireturn, 1) := by decide +kernel
set_option maxHeartbeats 4000000 in
theorem c_X10_in (v : Int32) (lo hi : Nat) (M : Mem) (h1 : lo < 2 ^ 31) (h2 : hi < 2 ^ 31) : AM yX10_in cX10_in 3 (some .boolean) 0 39 glM (fun ad => [.int v, .int (nI lo), .int (nI hi)]) M (PI (fun r M' => r = bI ((lo : Int) ≤ v.toInt ∧ v.toInt ≤ (hi : Int)) ∧ M = M')) := by
  refine AM.of (by decide) (fun _ => Nat.le_of_ble_eq_true rfl) (fun X ad cI cZ cB hX hR => ?_)
  show V X M [(0, .int v), (1, .int (nI lo)), (2, .int (nI hi))] [] 0
  refine s_iload_n (k := 0) hX dX10_in_0 rfl rfl ?_
  refine s_iload_n (k := 1) hX dX10_in_1 rfl rfl ?_
  refine s_icmp_lt (tgt := 14) hX dX10_in_2 (by decide) (fun c2 => ?_) (fun c2 => ?_)
  · replace c2 := (q_lt (by omega)).mp c2
    refine s_iconst (v := (nI 0)) hX dX10_in_14 (by decide) ?_
    exact s_zret hX hR dX10_in_15 (by first | decide | assumption) ⟨bI_f (by omega), rfl⟩
  · replace c2 := mt (q_lt (by omega)).mpr c2
    refine s_iload_n (k := 0) hX dX10_in_5 rfl rfl ?_
    refine s_iload_n (k := 2) hX dX10_in_6 rfl rfl ?_
    refine s_icmp_gt (tgt := 14) hX dX10_in_7 (by decide) (fun c7 => ?_) (fun c7 => ?_)
    · replace c7 := (q_gt (by omega)).mp c7
      refine s_iconst (v := (nI 0)) hX dX10_in_14 (by decide) ?_
      exact s_zret hX hR dX10_in_15 (by first | decide | assumption) ⟨bI_f (by omega), rfl⟩
    · replace c7 := mt (q_gt (by omega)).mpr c7
      refine s_iconst (v := (nI 1)) hX dX10_in_10 (by decide) ?_
      refine s_goto (tgt := 15) hX dX10_in_11 (by decide) ?_
      exact s_zret hX hR dX10_in_15 (by first | decide | assumption) ⟨bI_t (by omega), rfl⟩
set_option maxHeartbeats 4000000 in
theorem c_X10_in2 (v lo hi : Int32) (M : Mem) : AM yX10_in cX10_in 3 (some .boolean) 0 39 glM (fun ad => [.int v, .int lo, .int hi]) M (PI (fun r M' => r = bI (lo.toInt ≤ v.toInt ∧ v.toInt ≤ hi.toInt) ∧ M = M')) := by
  refine AM.of (by decide) (fun _ => Nat.le_of_ble_eq_true rfl) (fun X ad cI cZ cB hX hR => ?_)
  show V X M [(0, .int v), (1, .int lo), (2, .int hi)] [] 0
  refine s_iload_n (k := 0) hX dX10_in_0 rfl rfl ?_
  refine s_iload_n (k := 1) hX dX10_in_1 rfl rfl ?_
  refine s_icmp_lt (tgt := 14) hX dX10_in_2 (by decide) (fun c2 => ?_) (fun c2 => ?_)
  · replace c2 := Int32.lt_iff_toInt_lt.mp c2
    refine s_iconst (v := (nI 0)) hX dX10_in_14 (by decide) ?_
    exact s_zret hX hR dX10_in_15 (by first | decide | assumption) ⟨bI_f (by omega), rfl⟩
  · replace c2 := mt Int32.lt_iff_toInt_lt.mpr c2
    refine s_iload_n (k := 0) hX dX10_in_5 rfl rfl ?_
    refine s_iload_n (k := 2) hX dX10_in_6 rfl rfl ?_
    refine s_icmp_gt (tgt := 14) hX dX10_in_7 (by decide) (fun c7 => ?_) (fun c7 => ?_)
    · replace c7 := Int32.lt_iff_toInt_lt.mp c7
      refine s_iconst (v := (nI 0)) hX dX10_in_14 (by decide) ?_
      exact s_zret hX hR dX10_in_15 (by first | decide | assumption) ⟨bI_f (by omega), rfl⟩
    · replace c7 := mt Int32.lt_iff_toInt_lt.mpr c7
      refine s_iconst (v := (nI 1)) hX dX10_in_10 (by decide) ?_
      refine s_goto (tgt := 15) hX dX10_in_11 (by decide) ?_
      exact s_zret hX hR dX10_in_15 (by first | decide | assumption) ⟨bI_t (by omega), rfl⟩
set_option maxHeartbeats 4000000 in
theorem c_X10_min (v w : Int32) (M : Mem) : AM yX10_min cX10_min 2 (some .int) 0 39 glM (fun ad => [.int v, .int w]) M (PI (fun r M' => r = (if v.toInt < w.toInt then v else w) ∧ M = M')) := by
  refine AM.of (by decide) (fun _ => Nat.le_of_ble_eq_true rfl) (fun X ad cI cZ cB hX hR => ?_)
  show V X M [(0, .int v), (1, .int w)] [] 0
  refine s_iload_n (k := 0) hX dX10_min_0 rfl rfl ?_
  refine s_iload_n (k := 1) hX dX10_min_1 rfl rfl ?_
  refine s_icmp_ge (tgt := 9) hX dX10_min_2 (by decide) (fun c2 => ?_) (fun c2 => ?_)
  · replace c2 := Int32.le_iff_toInt_le.mp c2
    refine s_iload_n (k := 1) hX dX10_min_9 rfl rfl ?_
    exact s_iret hX hR dX10_min_10 ⟨by first | (rw [if_pos (by omega)]; done) | rw [if_neg (by omega)], rfl⟩
  · replace c2 := mt Int32.le_iff_toInt_le.mpr c2
    refine s_iload_n (k := 0) hX dX10_min_5 rfl rfl ?_
    refine s_goto (tgt := 10) hX dX10_min_6 (by decide) ?_
    exact s_iret hX hR dX10_min_10 ⟨by first | (rw [if_pos (by omega)]; done) | rw [if_neg (by omega)], rfl⟩
set_option maxHeartbeats 4000000 in
theorem c_X10_max (v w : Int32) (M : Mem) : AM yX10_max cX10_max 2 (some .int) 0 39 glM (fun ad => [.int v, .int w]) M (PI (fun r M' => r = (if w.toInt < v.toInt then v else w) ∧ M = M')) := by
  refine AM.of (by decide) (fun _ => Nat.le_of_ble_eq_true rfl) (fun X ad cI cZ cB hX hR => ?_)
  show V X M [(0, .int v), (1, .int w)] [] 0
  refine s_iload_n (k := 0) hX dX10_max_0 rfl rfl ?_
  refine s_iload_n (k := 1) hX dX10_max_1 rfl rfl ?_
  refine s_icmp_le (tgt := 9) hX dX10_max_2 (by decide) (fun c2 => ?_) (fun c2 => ?_)
  · replace c2 := Int32.le_iff_toInt_le.mp c2
    refine s_iload_n (k := 1) hX dX10_max_9 rfl rfl ?_
    exact s_iret hX hR dX10_max_10 ⟨by first | (rw [if_pos (by omega)]; done) | rw [if_neg (by omega)], rfl⟩
  · replace c2 := mt Int32.le_iff_toInt_le.mpr c2
    refine s_iload_n (k := 0) hX dX10_max_5 rfl rfl ?_
    refine s_goto (tgt := 10) hX dX10_max_6 (by decide) ?_
    exact s_iret hX hR dX10_max_10 ⟨by first | (rw [if_pos (by omega)]; done) | rw [if_neg (by omega)], rfl⟩
set_option maxHeartbeats 4000000 in
theorem c_X10_has (j : Nat) (hj : j < 8) (M : Mem) : AM yX10_has cX10_has 2 (some .boolean) 0 39 glM (fun ad => [.int (nI 0), .int (nI j)]) M (PI (fun r M' => r = nI 0 ∧ M = M')) := by
  refine AM.of (by decide) (fun _ => Nat.le_of_ble_eq_true rfl) (fun X ad cI cZ cB hX hR => ?_)
  show V X M [(0, .int (nI 0)), (1, .int (nI j))] [] 0
  refine s_iload_n (k := 0) hX dX10_has_0 rfl rfl ?_
  refine s_iload_n (k := 1) hX dX10_has_1 rfl rfl ?_
  refine s_ishr hX dX10_has_2 ?_
  refine s_iconst (v := (nI 1)) hX dX10_has_3 (by decide) ?_
  refine s_iand hX dX10_has_4 ?_
  refine s_top (y := nI 0) (hs0 j hj) ?_
  refine s_iconst (v := (nI 1)) hX dX10_has_5 (by decide) ?_
  refine s_icmp_ne (tgt := 13) hX dX10_has_6 (by decide) (fun c6 => ?_) (fun c6 => ?_)
  · refine s_iconst (v := (nI 0)) hX dX10_has_13 (by decide) ?_
    exact s_zret hX hR dX10_has_14 (by first | decide | assumption) ⟨rfl, rfl⟩
  · first | exact absurd (by decide) c6 | exact absurd c6 (by decide)
set_option maxHeartbeats 4000000 in
theorem c_X10_isStone (i : Int32) (M : Mem) (hT : ∀ j, j < 40 → M 1 j = 0) : AM yX10_isStone cX10_isStone 2 (some .boolean) 1 39 glM (fun ad => [.ref (ad 0), .int i]) M (PI (fun r M' => r = nI 0 ∧ M = M')) := by
  refine AM.of (by decide) (fun _ => Nat.le_of_ble_eq_true rfl) (fun X ad cI cZ cB hX hR => ?_)
  show V X M [(0, .ref (ad 0)), (1, .int i)] [] 0
  refine s_iload_n (k := 1) hX dX10_isStone_0 rfl rfl ?_
  refine s_iconst (v := (nI 0)) hX dX10_isStone_1 (by decide) ?_
  refine s_bipush (v := (nI 39)) hX dX10_isStone_2 (by decide) ?_
  refine s_callSi hX (c_X10_in i 0 39 M (by decide) (by decide)) mX10_in lX10_132 (by decide) (by decide) rfl rfl (Nat.le_of_ble_eq_true rfl) dX10_isStone_4 (fun r4 M_1 hp4 => ?_)
  obtain ⟨rfl, h2⟩ := hp4
  subst h2
  refine s_if_eq (tgt := 26) hX dX10_isStone_7 (by decide) (fun c7 => ?_) (fun c7 => ?_)
  · replace c7 := bI_eq c7
    refine s_iconst (v := (nI 0)) hX dX10_isStone_26 (by decide) ?_
    exact s_zret hX hR dX10_isStone_27 (by first | decide | assumption) ⟨rfl, rfl⟩
  · replace c7 := bI_ne c7
    obtain ⟨j, hj, rfl⟩ := ixi (x := i) (n := 40) (by omega) (by omega)
    refine s_aload_n (k := 0) hX dX10_isStone_10 rfl rfl ?_
    refine s_get hX fX10_7 oM0 rfl dX10_isStone_11 ?_
    refine s_iconst (v := (nI 0)) hX dX10_isStone_14 (by decide) ?_
    refine s_iload_n (k := 1) hX dX10_isStone_15 rfl rfl ?_
    refine s_iadd hX dX10_isStone_16 ?_
    refine s_top (y := nI j) (nI_z _) ?_
    refine s_ialdN hX aM1 (by omega) dX10_isStone_17 ?_
    refine s_iconst (v := (nI 1)) hX dX10_isStone_18 (by decide) ?_
    refine s_icmp_ne (tgt := 26) hX dX10_isStone_19 (by decide) (fun c19 => ?_) (fun c19 => ?_)
    · refine s_iconst (v := (nI 0)) hX dX10_isStone_26 (by decide) ?_
      exact s_zret hX hR dX10_isStone_27 (by first | decide | assumption) ⟨rfl, rfl⟩
    · rw [hT j hj] at c19; exact absurd c19 (by decide)
set_option maxHeartbeats 4000000 in
theorem c_X10_isDry (j : Nat) (hj : j < 40) (M : Mem) (hT : ∀ j, j < 40 → M 1 j = 0) : AM yX10_isDry cX10_isDry 2 (some .boolean) 0 39 glM (fun ad => [.ref (ad 0), .int (nI j)]) M (PI (fun r M' => r = nI 0 ∧ M = M')) := by
  refine AM.of (by decide) (fun _ => Nat.le_of_ble_eq_true rfl) (fun X ad cI cZ cB hX hR => ?_)
  show V X M [(0, .ref (ad 0)), (1, .int (nI j))] [] 0
  refine s_aload_n (k := 0) hX dX10_isDry_0 rfl rfl ?_
  refine s_get hX fX10_7 oM0 rfl dX10_isDry_1 ?_
  refine s_iconst (v := (nI 0)) hX dX10_isDry_4 (by decide) ?_
  refine s_iload_n (k := 1) hX dX10_isDry_5 rfl rfl ?_
  refine s_iadd hX dX10_isDry_6 ?_
  refine s_top (y := nI j) (nI_z _) ?_
  refine s_ialdN hX aM1 (by omega) dX10_isDry_7 ?_
  refine s_iconst (v := (nI 1)) hX dX10_isDry_8 (by decide) ?_
  refine s_icmp_ne (tgt := 29) hX dX10_isDry_9 (by decide) (fun c9 => ?_) (fun c9 => ?_)
  · refine s_iconst (v := (nI 0)) hX dX10_isDry_29 (by decide) ?_
    exact s_zret hX hR dX10_isDry_30 (by first | decide | assumption) ⟨rfl, rfl⟩
  · rw [hT j hj] at c9; exact absurd c9 (by decide)
set_option maxHeartbeats 4000000 in
theorem c_X10_isPerson (p : Int32) (M : Mem) (hP : M 0 4 = nI 0) : AM yX10_isPerson cX10_isPerson 2 (some .boolean) 1 39 glM (fun ad => [.ref (ad 0), .int p]) M (PI (fun r M' => r = nI 0 ∧ M = M')) := by
  refine AM.of (by decide) (fun _ => Nat.le_of_ble_eq_true rfl) (fun X ad cI cZ cB hX hR => ?_)
  show V X M [(0, .ref (ad 0)), (1, .int p)] [] 0
  refine s_iload_n (k := 1) hX dX10_isPerson_0 rfl rfl ?_
  refine s_iconst (v := (nI 0)) hX dX10_isPerson_1 (by decide) ?_
  refine s_bipush (v := (nI 7)) hX dX10_isPerson_2 (by decide) ?_
  refine s_callSi hX (c_X10_in p 0 7 M (by decide) (by decide)) mX10_in lX10_132 (by decide) (by decide) rfl rfl (Nat.le_of_ble_eq_true rfl) dX10_isPerson_4 (fun r4 M_1 hp4 => ?_)
  obtain ⟨rfl, h2⟩ := hp4
  subst h2
  refine s_if_eq (tgt := 25) hX dX10_isPerson_7 (by decide) (fun c7 => ?_) (fun c7 => ?_)
  · replace c7 := bI_eq c7
    refine s_iconst (v := (nI 0)) hX dX10_isPerson_25 (by decide) ?_
    exact s_zret hX hR dX10_isPerson_26 (by first | decide | assumption) ⟨rfl, rfl⟩
  · replace c7 := bI_ne c7
    obtain ⟨j, hj, rfl⟩ := ixi (x := p) (n := 8) (by omega) (by omega)
    refine s_aload_n (k := 0) hX dX10_isPerson_10 rfl rfl ?_
    refine s_get hX fX10_136 oM0 rfl dX10_isPerson_11 ?_
    refine s_top (y := nI 0) (hP) ?_
    refine s_iload_n (k := 1) hX dX10_isPerson_14 rfl rfl ?_
    refine s_callSi hX (c_X10_has j hj M) mX10_has lX10_140 (by decide) (by decide) rfl rfl (Nat.le_of_ble_eq_true rfl) dX10_isPerson_15 (fun r15 M_2 hp15 => ?_)
    obtain ⟨rfl, h2⟩ := hp15
    subst h2
    refine s_if_eq (tgt := 25) hX dX10_isPerson_18 (by decide) (fun c18 => ?_) (fun c18 => ?_)
    · refine s_iconst (v := (nI 0)) hX dX10_isPerson_25 (by decide) ?_
      exact s_zret hX hR dX10_isPerson_26 (by first | decide | assumption) ⟨rfl, rfl⟩
    · first | exact absurd (by decide) c18 | exact absurd c18 (by decide)
set_option maxHeartbeats 4000000 in
theorem c_X10_stoneAt (x y : Int32) (M : Mem) (hT : ∀ j, j < 40 → M 1 j = 0) : AM yX10_stoneAt cX10_stoneAt 4 (some .int) 0 39 glM (fun ad => [.ref (ad 0), .int x, .int y]) M (PI (fun r M' => r = -1 ∧ M = M')) := by
  refine AM.of (by decide) (fun _ => Nat.le_of_ble_eq_true rfl) (fun X ad cI cZ cB hX hR => ?_)
  show V X M [(0, .ref (ad 0)), (1, .int x), (2, .int y)] [] 0
  refine s_iconst (v := (nI 0)) hX dX10_stoneAt_0 (by decide) ?_
  refine s_istore_n (lv' := [(0, .ref (ad 0)), (1, .int x), (2, .int y), (3, .int (nI 0))]) hX dX10_stoneAt_1 rfl (by decide) rfl ?_
  have lp2 : ∀ (N2 : Nat) (i : Nat), (i ≤ 40) → (40 < i + N2) → V X M [(0, .ref (ad 0)), (1, .int x), (2, .int y), (3, .int (nI i))] [] 2 := by
    intro N2
    induction N2 with
    | zero => intro i hi hN2; exact absurd hN2 (by omega)
    | succ N2 ih2 =>
      intro i hi hN2
      refine s_iload_n (k := 3) hX dX10_stoneAt_2 rfl rfl ?_
      refine s_bipush (v := (nI 40)) hX dX10_stoneAt_3 (by decide) ?_
      refine s_icmp_ge (tgt := 54) hX dX10_stoneAt_5 (by decide) (fun c5 => ?_) (fun c5 => ?_)
      · replace c5 := (nI_leI (by omega) (by omega)).mp c5
        refine s_iconst (v := (-1)) hX dX10_stoneAt_54 (by decide) ?_
        exact s_iret hX hR dX10_stoneAt_55 ⟨rfl, rfl⟩
      · replace c5 := mt (nI_leI (by omega) (by omega)).mpr c5
        refine s_aload_n (k := 0) hX dX10_stoneAt_8 rfl rfl ?_
        refine s_get hX fX10_7 oM0 rfl dX10_stoneAt_9 ?_
        refine s_iconst (v := (nI 0)) hX dX10_stoneAt_12 (by decide) ?_
        refine s_iload_n (k := 3) hX dX10_stoneAt_13 rfl rfl ?_
        refine s_iadd hX dX10_stoneAt_14 ?_
        refine s_top (y := nI i) (nI_z _) ?_
        refine s_ialdN hX aM1 (by omega) dX10_stoneAt_15 ?_
        refine s_iconst (v := (nI 1)) hX dX10_stoneAt_16 (by decide) ?_
        refine s_icmp_ne (tgt := 48) hX dX10_stoneAt_17 (by decide) (fun c17 => ?_) (fun c17 => ?_)
        · refine s_iinc (k := 3) (v := nI (i + 1)) (lv' := [(0, .ref (ad 0)), (1, .int x), (2, .int y), (3, .int (nI (i + 1)))]) hX dX10_stoneAt_48 (nI_1 _) (by decide) rfl rfl ?_
          refine s_goto (tgt := 2) hX dX10_stoneAt_51 (by decide) ?_
          exact ih2 (i + 1) (by omega) (by omega)
        · rw [hT i (by omega)] at c17; exact absurd c17 (by decide)
  exact lp2 41 0 (by omega) (by omega)
set_option maxHeartbeats 4000000 in
theorem c_X10_laysStone (j : Nat) (hj : j < 40) (x y s u : Int32) (M : Mem) : AM yX10_laysStone cX10_laysStone 6 none 0 39 glM (fun ad => [.ref (ad 0), .int (nI j), .int x, .int y, .int s, .int u]) M (PV (fun _ => True)) := by
  refine AM.of (by decide) (fun _ => Nat.le_of_ble_eq_true rfl) (fun X ad cI cZ cB hX hR => ?_)
  show V X M [(0, .ref (ad 0)), (1, .int (nI j)), (2, .int x), (3, .int y), (4, .int s), (5, .int u)] [] 0
  refine s_aload_n (k := 0) hX dX10_laysStone_0 rfl rfl ?_
  refine s_get hX fX10_7 oM0 rfl dX10_laysStone_1 ?_
  refine s_iconst (v := (nI 0)) hX dX10_laysStone_4 (by decide) ?_
  refine s_iload_n (k := 1) hX dX10_laysStone_5 rfl rfl ?_
  refine s_iadd hX dX10_laysStone_6 ?_
  refine s_top (y := nI j) (nI_z _) ?_
  refine s_iconst (v := (nI 1)) hX dX10_laysStone_7 (by decide) ?_
  refine s_iastN hX aM1 (by omega) dX10_laysStone_8 ?_
  refine s_mem (fun M_1 eM_1 => ?_)
  refine s_aload_n (k := 0) hX dX10_laysStone_9 rfl rfl ?_
  refine s_get hX fX10_7 oM0 rfl dX10_laysStone_10 ?_
  refine s_bipush (v := (nI 40)) hX dX10_laysStone_13 (by decide) ?_
  refine s_iload_n (k := 1) hX dX10_laysStone_15 rfl rfl ?_
  refine s_iadd hX dX10_laysStone_16 ?_
  refine s_top (y := nI (40 + j)) (nI_add _ _) ?_
  refine s_iload_n (k := 2) hX dX10_laysStone_17 rfl rfl ?_
  refine s_iastN hX aM1 (by omega) dX10_laysStone_18 ?_
  refine s_mem (fun M_2 eM_2 => ?_)
  refine s_aload_n (k := 0) hX dX10_laysStone_19 rfl rfl ?_
  refine s_get hX fX10_7 oM0 rfl dX10_laysStone_20 ?_
  refine s_bipush (v := (nI 80)) hX dX10_laysStone_23 (by decide) ?_
  refine s_iload_n (k := 1) hX dX10_laysStone_25 rfl rfl ?_
  refine s_iadd hX dX10_laysStone_26 ?_
  refine s_top (y := nI (80 + j)) (nI_add _ _) ?_
  refine s_iload_n (k := 3) hX dX10_laysStone_27 rfl rfl ?_
  refine s_iastN hX aM1 (by omega) dX10_laysStone_28 ?_
  refine s_mem (fun M_3 eM_3 => ?_)
  refine s_aload_n (k := 0) hX dX10_laysStone_29 rfl rfl ?_
  refine s_get hX fX10_7 oM0 rfl dX10_laysStone_30 ?_
  refine s_bipush (v := (nI 120)) hX dX10_laysStone_33 (by decide) ?_
  refine s_iload_n (k := 1) hX dX10_laysStone_35 rfl rfl ?_
  refine s_iadd hX dX10_laysStone_36 ?_
  refine s_top (y := nI (120 + j)) (nI_add _ _) ?_
  refine s_iload (k := 4) hX dX10_laysStone_37 rfl ?_
  refine s_iastN hX aM1 (by omega) dX10_laysStone_39 ?_
  refine s_mem (fun M_4 eM_4 => ?_)
  refine s_aload_n (k := 0) hX dX10_laysStone_40 rfl rfl ?_
  refine s_get hX fX10_7 oM0 rfl dX10_laysStone_41 ?_
  refine s_sipush (v := (nI 160)) hX dX10_laysStone_44 (by decide) ?_
  refine s_iload_n (k := 1) hX dX10_laysStone_47 rfl rfl ?_
  refine s_iadd hX dX10_laysStone_48 ?_
  refine s_top (y := nI (160 + j)) (nI_add _ _) ?_
  refine s_iload (k := 5) hX dX10_laysStone_49 rfl ?_
  refine s_iastN hX aM1 (by omega) dX10_laysStone_51 ?_
  refine s_mem (fun M_5 eM_5 => ?_)
  exact s_vret hX hR dX10_laysStone_52 trivial
set_option maxHeartbeats 4000000 in
theorem c_X10_types (w : Int32) (M : Mem) (z : Nat) (hz : M 0 6 = nI z) (hz2 : z + 4 ≤ 260) : AM yX10_types cX10_types 3 none 0 39 glM (fun ad => [.ref (ad 0), .int w]) M (PV (fun M' => M' 0 6 = nI (z + 4))) := by
  refine AM.of (by decide) (fun _ => Nat.le_of_ble_eq_true rfl) (fun X ad cI cZ cB hX hR => ?_)
  show V X M [(0, .ref (ad 0)), (1, .int w)] [] 0
  refine s_iconst (v := (nI 3)) hX dX10_types_0 (by decide) ?_
  refine s_istore_n (lv' := [(0, .ref (ad 0)), (1, .int w), (2, .int (nI 3))]) hX dX10_types_1 rfl (by decide) rfl ?_
  have lp2 : ∀ (N2 : Nat) (i : Nat) (Mi : Mem) (x2 : Int32), (i ≤ 4) → (4 < i + N2) → (Mi 0 6 = nI (z + i)) → (x2 = nI (4 - i) - 1) → V X Mi [(0, .ref (ad 0)), (1, .int w), (2, .int x2)] [] 2 := by
    intro N2
    induction N2 with
    | zero => intro i Mi x2 hi hN2 hm hx; exact absurd hN2 (by omega)
    | succ N2 ih2 =>
      intro i Mi x2 hi hN2 hm hx
      refine s_iload_n (k := 2) hX dX10_types_2 rfl rfl ?_
      refine s_if_lt (tgt := 38) hX dX10_types_3 (by decide) (fun c3 => ?_) (fun c3 => ?_)
      · replace c3 := z_lt.mp c3
        exact s_vret hX hR dX10_types_38 (by rw [hm, show i = 4 from ty3 hx c3 hi])
      · replace c3 := mt z_lt.mpr c3
        have hi4 : i < 4 := ty4 hx c3 hi
        refine s_aload_n (k := 0) hX dX10_types_6 rfl rfl ?_
        refine s_get hX fX10_22 oM0 rfl dX10_types_7 ?_
        refine s_aload_n (k := 0) hX dX10_types_10 rfl rfl ?_
        refine s_get hX fX10_158 oM0 rfl dX10_types_11 ?_
        refine s_top (y := nI (z + i)) (hm) ?_
        refine s_iload_n (k := 1) hX dX10_types_14 rfl rfl ?_
        refine s_bipush (v := (nI 8)) hX dX10_types_15 (by decide) ?_
        refine s_iload_n (k := 2) hX dX10_types_17 rfl rfl ?_
        refine s_imul hX dX10_types_18 ?_
        refine s_ishr hX dX10_types_19 ?_
        refine s_i2b hX dX10_types_20 rfl ?_
        refine s_bastN hX aM5 (by omega) dX10_types_21 ?_
        refine s_mem (fun M_2 eM_2 => ?_)
        refine s_aload_n (k := 0) hX dX10_types_22 rfl rfl ?_
        refine s_aload_n (k := 0) hX dX10_types_23 rfl rfl ?_
        refine s_get hX fX10_158 oM0 rfl dX10_types_24 ?_
        refine s_top (y := nI (z + i)) (by rw [eM_2]; exact ty5 hm) ?_
        refine s_iconst (v := (nI 1)) hX dX10_types_27 (by decide) ?_
        refine s_iadd hX dX10_types_28 ?_
        refine s_top (y := nI ((z + i) + 1)) (nI_add _ _) ?_
        refine s_puti (ty := .int) hX fX10_158 oM0 rfl (Nat.le_of_ble_eq_true rfl) ty_10_6 rfl rfl dX10_types_29 ?_
        refine s_mem (fun M_3 eM_3 => ?_)
        obtain ⟨x3, ex3⟩ : ∃ q : Int32, q = x2 + Int32.ofInt (-1) := ⟨_, rfl⟩
        refine s_iinc (k := 2) (v := x3) (lv' := [(0, .ref (ad 0)), (1, .int w), (2, .int x3)]) hX dX10_types_32 ex3.symm (by decide) rfl rfl ?_
        refine s_goto (tgt := 2) hX dX10_types_35 (by decide) ?_
        exact ih2 (i + 1) _ _ (by omega) (by omega) (by rw [eM_3]; exact ty1) (by rw [ex3, hx]; exact ty2 i (by omega))
  exact lp2 5 0 M _ (by omega) (by omega) hz (by decide)
set_option maxHeartbeats 4000000 in
theorem c_X10_copies (k k2 : Nat) (hk : ∀ {ad : Nat → Nat} {cI cZ cB : ClassId}, IA (glM ad cI cZ cB) 39 k cI 202) (hk2 : ∀ {ad : Nat → Nat} {cI cZ cB : ClassId}, IA (glM ad cI cZ cB) 39 k2 cI 202) (M : Mem) (hne : k ≠ k2) : AM yX10_copies cX10_copies 3 none 0 39 glM (fun ad => [.ref (ad k), .ref (ad k2)]) M (PV (fun M' => (∀ a c, a ≠ k2 → M' a c = M a c) ∧ ∀ j, j < 202 → M' k2 j = M k j)) := by
  refine AM.of (by decide) (fun _ => Nat.le_of_ble_eq_true rfl) (fun X ad cI cZ cB hX hR => ?_)
  show V X M [(0, .ref (ad k)), (1, .ref (ad k2))] [] 0
  refine s_iconst (v := (nI 0)) hX dX10_copies_0 (by decide) ?_
  refine s_istore_n (lv' := [(0, .ref (ad k)), (1, .ref (ad k2)), (2, .int (nI 0))]) hX dX10_copies_1 rfl (by decide) rfl ?_
  have lp2 : ∀ (N2 : Nat) (i : Nat) (Mi : Mem), (i ≤ 202) → (202 < i + N2) → (∀ a c, a ≠ k2 → Mi a c = M a c) → (∀ j, j < i → Mi k2 j = M k j) → V X Mi [(0, .ref (ad k)), (1, .ref (ad k2)), (2, .int (nI i))] [] 2 := by
    intro N2
    induction N2 with
    | zero => intro i Mi hi hN2 hf hv; exact absurd hN2 (by omega)
    | succ N2 ih2 =>
      intro i Mi hi hN2 hf hv
      refine s_iload_n (k := 2) hX dX10_copies_2 rfl rfl ?_
      refine s_sipush (v := (nI 202)) hX dX10_copies_3 (by decide) ?_
      refine s_icmp_ge (tgt := 21) hX dX10_copies_6 (by decide) (fun c6 => ?_) (fun c6 => ?_)
      · replace c6 := (nI_leI (by omega) (by omega)).mp c6
        exact s_vret hX hR dX10_copies_21 ⟨hf, fun j hj => hv j (by omega)⟩
      · replace c6 := mt (nI_leI (by omega) (by omega)).mpr c6
        refine s_aload_n (k := 1) hX dX10_copies_9 rfl rfl ?_
        refine s_iload_n (k := 2) hX dX10_copies_10 rfl rfl ?_
        refine s_aload_n (k := 0) hX dX10_copies_11 rfl rfl ?_
        refine s_iload_n (k := 2) hX dX10_copies_12 rfl rfl ?_
        refine s_ialdN hX hk (by omega) dX10_copies_13 ?_
        refine s_iastN hX hk2 (by omega) dX10_copies_14 ?_
        refine s_mem (fun M_2 eM_2 => ?_)
        refine s_iinc (k := 2) (v := nI (i + 1)) (lv' := [(0, .ref (ad k)), (1, .ref (ad k2)), (2, .int (nI (i + 1)))]) hX dX10_copies_15 (nI_1 _) (by decide) rfl rfl ?_
        refine s_goto (tgt := 2) hX dX10_copies_18 (by decide) ?_
        exact ih2 (i + 1) _ (by omega) (by omega) (by subst_vars; exact fl1 hf) (by subst_vars; exact cq2 hne hf hv)
  exact lp2 203 0 M (by omega) (by omega) (fun _ _ _ => rfl) (fun j hj => absurd hj (by omega))
set_option maxHeartbeats 4000000 in
theorem c_X10_nightGoes (M : Mem) (hT : ∀ j, j < 40 → M 1 j = 0) : AM yX10_nightGoes cX10_nightGoes 2 none 2 39 glM (fun ad => [.ref (ad 0)]) M (PV (fun M' => ∀ a c, ¬ (a = 1 ∧ c = 200) → M' a c = M a c)) := by
  refine AM.of (by decide) (fun _ => Nat.le_of_ble_eq_true rfl) (fun X ad cI cZ cB hX hR => ?_)
  show V X M [(0, .ref (ad 0))] [] 0
  refine s_iconst (v := (nI 0)) hX dX10_nightGoes_0 (by decide) ?_
  refine s_istore_n (lv' := [(0, .ref (ad 0)), (1, .int (nI 0))]) hX dX10_nightGoes_1 rfl (by decide) rfl ?_
  have lp2 : ∀ (N2 : Nat) (i : Nat), (i ≤ 40) → (40 < i + N2) → V X M [(0, .ref (ad 0)), (1, .int (nI i))] [] 2 := by
    intro N2
    induction N2 with
    | zero => intro i hi hN2; exact absurd hN2 (by omega)
    | succ N2 ih2 =>
      intro i hi hN2
      refine s_iload_n (k := 1) hX dX10_nightGoes_2 rfl rfl ?_
      refine s_bipush (v := (nI 40)) hX dX10_nightGoes_3 (by decide) ?_
      refine s_icmp_ge (tgt := 27) hX dX10_nightGoes_5 (by decide) (fun c5 => ?_) (fun c5 => ?_)
      · replace c5 := (nI_leI (by omega) (by omega)).mp c5
        refine s_aload_n (k := 0) hX dX10_nightGoes_27 rfl rfl ?_
        refine s_get hX fX10_7 oM0 rfl dX10_nightGoes_28 ?_
        refine s_sipush (v := (nI 200)) hX dX10_nightGoes_31 (by decide) ?_
        refine s_aload_n (k := 0) hX dX10_nightGoes_34 rfl rfl ?_
        refine s_get hX fX10_7 oM0 rfl dX10_nightGoes_35 ?_
        refine s_sipush (v := (nI 200)) hX dX10_nightGoes_38 (by decide) ?_
        refine s_ialdN hX aM1 (by omega) dX10_nightGoes_41 ?_
        refine s_iconst (v := (nI 1)) hX dX10_nightGoes_42 (by decide) ?_
        refine s_iadd hX dX10_nightGoes_43 ?_
        refine s_iastN hX aM1 (by omega) dX10_nightGoes_44 ?_
        refine s_mem (fun M_2 eM_2 => ?_)
        exact s_vret hX hR dX10_nightGoes_45 (by subst_vars; intro a c h; rw [mset_get, if_neg h])
      · replace c5 := mt (nI_leI (by omega) (by omega)).mpr c5
        refine s_aload_n (k := 0) hX dX10_nightGoes_8 rfl rfl ?_
        refine s_iload_n (k := 1) hX dX10_nightGoes_9 rfl rfl ?_
        refine s_callVi hX (c_X10_isStone (nI i) M hT) mX10_isStone lX10_154 (by decide) (by decide) oM0 rfl rfl rfl rfl rfl (Nat.le_of_ble_eq_true rfl) dX10_nightGoes_10 (fun r10 M_3 hp10 => ?_)
        obtain ⟨rfl, h2⟩ := hp10
        subst h2
        refine s_if_eq (tgt := 21) hX dX10_nightGoes_13 (by decide) (fun c13 => ?_) (fun c13 => ?_)
        · refine s_iinc (k := 1) (v := nI (i + 1)) (lv' := [(0, .ref (ad 0)), (1, .int (nI (i + 1)))]) hX dX10_nightGoes_21 (nI_1 _) (by decide) rfl rfl ?_
          refine s_goto (tgt := 2) hX dX10_nightGoes_24 (by decide) ?_
          exact ih2 (i + 1) (by omega) (by omega)
        · first | exact absurd (by decide) c13 | exact absurd c13 (by decide)
  exact lp2 41 0 (by omega) (by omega)
set_option maxHeartbeats 4000000 in
theorem c_X10_nightsGo (m : Nat) (hm : m ≤ 60) (M : Mem) (hT : ∀ j, j < 40 → M 1 j = 0) : AM yX10_nightsGo cX10_nightsGo 3 none 3 39 glM (fun ad => [.ref (ad 0), .int (nI m)]) M (PV (fun M' => (∀ a c, ¬ (a = 1 ∧ c = 200) → ¬ (a = 0 ∧ (c = 34 ∨ c = 35)) → M' a c = M a c) ∧ M' 0 34 = nI 0 ∧ M' 0 35 = nI 0)) := by
  refine AM.of (by decide) (fun _ => Nat.le_of_ble_eq_true rfl) (fun X ad cI cZ cB hX hR => ?_)
  show V X M [(0, .ref (ad 0)), (1, .int (nI m))] [] 0
  refine s_aload_n (k := 0) hX dX10_nightsGo_0 rfl rfl ?_
  refine s_iconst (v := (nI 0)) hX dX10_nightsGo_1 (by decide) ?_
  refine s_puti (ty := .int) hX fX10_293 oM0 rfl (Nat.le_of_ble_eq_true rfl) ty_10_34 rfl rfl dX10_nightsGo_2 ?_
  refine s_mem (fun M_1 eM_1 => ?_)
  refine s_aload_n (k := 0) hX dX10_nightsGo_5 rfl rfl ?_
  refine s_iconst (v := (nI 0)) hX dX10_nightsGo_6 (by decide) ?_
  refine s_puti (ty := .int) hX fX10_296 oM0 rfl (Nat.le_of_ble_eq_true rfl) ty_10_35 rfl rfl dX10_nightsGo_7 ?_
  refine s_mem (fun M_2 eM_2 => ?_)
  refine s_iconst (v := (nI 0)) hX dX10_nightsGo_10 (by decide) ?_
  refine s_istore_n (lv' := [(0, .ref (ad 0)), (1, .int (nI m)), (2, .int (nI 0))]) hX dX10_nightsGo_11 rfl (by decide) rfl ?_
  have lp12 : ∀ (N12 : Nat) (g : Nat) (Mi : Mem), (g ≤ m) → (m < g + N12) → (∀ a c, ¬ (a = 1 ∧ c = 200) → ¬ (a = 0 ∧ (c = 34 ∨ c = 35)) → Mi a c = M a c) → (Mi 0 34 = nI 0) → (Mi 0 35 = nI 0) → V X Mi [(0, .ref (ad 0)), (1, .int (nI m)), (2, .int (nI g))] [] 12 := by
    intro N12
    induction N12 with
    | zero => intro g Mi hg hN12 hf h1 h2; exact absurd hN12 (by omega)
    | succ N12 ih12 =>
      intro g Mi hg hN12 hf h1 h2
      refine s_iload_n (k := 2) hX dX10_nightsGo_12 rfl rfl ?_
      refine s_iload_n (k := 1) hX dX10_nightsGo_13 rfl rfl ?_
      refine s_icmp_ge (tgt := 41) hX dX10_nightsGo_14 (by decide) (fun c14 => ?_) (fun c14 => ?_)
      · replace c14 := (nI_leI (by omega) (by omega)).mp c14
        exact s_vret hX hR dX10_nightsGo_41 ⟨hf, h1, h2⟩
      · replace c14 := mt (nI_leI (by omega) (by omega)).mpr c14
        refine s_aload_n (k := 0) hX dX10_nightsGo_17 rfl rfl ?_
        refine s_get hX fX10_7 oM0 rfl dX10_nightsGo_18 ?_
        refine s_sipush (v := (nI 200)) hX dX10_nightsGo_21 (by decide) ?_
        refine s_ialdN hX aM1 (by omega) dX10_nightsGo_24 ?_
        refine s_sipush (v := (nI 9999)) hX dX10_nightsGo_25 (by decide) ?_
        refine s_icmp_ge (tgt := 41) hX dX10_nightsGo_28 (by decide) (fun c28 => ?_) (fun c28 => ?_)
        · exact s_vret hX hR dX10_nightsGo_41 ⟨hf, h1, h2⟩
        · refine s_aload_n (k := 0) hX dX10_nightsGo_31 rfl rfl ?_
          refine s_callVv hX (c_X10_nightGoes Mi (fun j hj => (hf 1 j (by omega) (by omega)).trans (hT j hj))) mX10_nightGoes lX10_305 (by decide) (by decide) oM0 rfl rfl rfl rfl rfl (Nat.le_of_ble_eq_true rfl) dX10_nightsGo_32 (fun M_4 hp32 => ?_)
          have hq := hp32
          refine s_iinc (k := 2) (v := nI (g + 1)) (lv' := [(0, .ref (ad 0)), (1, .int (nI m)), (2, .int (nI (g + 1)))]) hX dX10_nightsGo_35 (nI_1 _) (by decide) rfl rfl ?_
          refine s_goto (tgt := 12) hX dX10_nightsGo_38 (by decide) ?_
          exact ih12 (g + 1) _ (by omega) (by omega) (fun a c q1 q2 => (hq a c q1).trans (hf a c q1 q2)) ((hq _ _ (by decide)).trans h1) ((hq _ _ (by decide)).trans h2)
  exact lp12 (m + 1) 0 _ (by omega) (by omega) (by subst_vars; exact ng1) (by subst_vars; exact ng2) (by subst_vars; exact ng3)
set_option maxHeartbeats 4000000 in
theorem c_X10_sumOf (q : Int32) (M : Mem) (hT : ∀ j, j < 40 → M 1 j = 0) : AM yX10_sumOf cX10_sumOf 4 (some .int) 2 39 glM (fun ad => [.ref (ad 0), .int q]) M (PI (fun r M' => r = nI 0 ∧ M = M')) := by
  refine AM.of (by decide) (fun _ => Nat.le_of_ble_eq_true rfl) (fun X ad cI cZ cB hX hR => ?_)
  show V X M [(0, .ref (ad 0)), (1, .int q)] [] 0
  refine s_iconst (v := (nI 0)) hX dX10_sumOf_0 (by decide) ?_
  refine s_istore_n (lv' := [(0, .ref (ad 0)), (1, .int q), (2, .int (nI 0))]) hX dX10_sumOf_1 rfl (by decide) rfl ?_
  refine s_iconst (v := (nI 0)) hX dX10_sumOf_2 (by decide) ?_
  refine s_istore_n (lv' := [(0, .ref (ad 0)), (1, .int q), (2, .int (nI 0)), (3, .int (nI 0))]) hX dX10_sumOf_3 rfl (by decide) rfl ?_
  have lp4 : ∀ (N4 : Nat) (i : Nat), (i ≤ 40) → (40 < i + N4) → V X M [(0, .ref (ad 0)), (1, .int q), (2, .int (nI 0)), (3, .int (nI i))] [] 4 := by
    intro N4
    induction N4 with
    | zero => intro i hi hN4; exact absurd hN4 (by omega)
    | succ N4 ih4 =>
      intro i hi hN4
      refine s_iload_n (k := 3) hX dX10_sumOf_4 rfl rfl ?_
      refine s_bipush (v := (nI 40)) hX dX10_sumOf_5 (by decide) ?_
      refine s_icmp_ge (tgt := 39) hX dX10_sumOf_7 (by decide) (fun c7 => ?_) (fun c7 => ?_)
      · replace c7 := (nI_leI (by omega) (by omega)).mp c7
        refine s_iload_n (k := 2) hX dX10_sumOf_39 rfl rfl ?_
        exact s_iret hX hR dX10_sumOf_40 ⟨rfl, rfl⟩
      · replace c7 := mt (nI_leI (by omega) (by omega)).mpr c7
        refine s_iload_n (k := 2) hX dX10_sumOf_10 rfl rfl ?_
        refine s_aload_n (k := 0) hX dX10_sumOf_11 rfl rfl ?_
        refine s_iload_n (k := 3) hX dX10_sumOf_12 rfl rfl ?_
        refine s_callVi hX (c_X10_isStone (nI i) M hT) mX10_isStone lX10_154 (by decide) (by decide) oM0 rfl rfl rfl rfl rfl (Nat.le_of_ble_eq_true rfl) dX10_sumOf_13 (fun r13 M_3 hp13 => ?_)
        obtain ⟨rfl, h2⟩ := hp13
        subst h2
        refine s_if_eq (tgt := 30) hX dX10_sumOf_16 (by decide) (fun c16 => ?_) (fun c16 => ?_)
        · refine s_iconst (v := (nI 0)) hX dX10_sumOf_30 (by decide) ?_
          refine s_iadd hX dX10_sumOf_31 ?_
          refine s_top (y := nI 0) (nI_z _) ?_
          refine s_istore_n (lv' := [(0, .ref (ad 0)), (1, .int q), (3, .int (nI i)), (2, .int (nI 0))]) hX dX10_sumOf_32 rfl (by decide) rfl ?_
          refine s_iinc (k := 2) (v := nI (i + 1)) (lv' := [(0, .ref (ad 0)), (1, .int q), (2, .int (nI 0)), (3, .int (nI (i + 1)))]) hX dX10_sumOf_33 (nI_1 _) (by decide) rfl rfl ?_
          refine s_goto (tgt := 4) hX dX10_sumOf_36 (by decide) ?_
          exact ih4 (i + 1) (by omega) (by omega)
        · first | exact absurd (by decide) c16 | exact absurd c16 (by decide)
  exact lp4 41 0 (by omega) (by omega)
set_option maxHeartbeats 4000000 in
theorem c_X10_isByBank (j : Nat) (hj : j < 40) (w s : Int32) (M : Mem) (hT : ∀ j, j < 40 → M 1 j = 0) : AM yX10_isByBank cX10_isByBank 5 (some .boolean) 1 39 glM (fun ad => [.ref (ad 0), .int (nI j), .int w, .int s]) M (PI (fun r M' => r = nI 0 ∧ M = M')) := by
  refine AM.of (by decide) (fun _ => Nat.le_of_ble_eq_true rfl) (fun X ad cI cZ cB hX hR => ?_)
  show V X M [(0, .ref (ad 0)), (1, .int (nI j)), (2, .int w), (3, .int s)] [] 0
  refine s_iload_n (k := 2) hX dX10_isByBank_0 rfl rfl ?_
  refine s_if_eq (tgt := 16) hX dX10_isByBank_1 (by decide) (fun c1 => ?_) (fun c1 => ?_)
  · replace c1 := z_eq.mp c1
    refine s_bipush (v := (nI 21)) hX dX10_isByBank_16 (by decide) ?_
    refine s_aload_n (k := 0) hX dX10_isByBank_18 rfl rfl ?_
    refine s_get hX fX10_7 oM0 rfl dX10_isByBank_19 ?_
    refine s_bipush (v := (nI 80)) hX dX10_isByBank_22 (by decide) ?_
    refine s_iload_n (k := 1) hX dX10_isByBank_24 rfl rfl ?_
    refine s_iadd hX dX10_isByBank_25 ?_
    refine s_top (y := nI (80 + j)) (nI_add _ _) ?_
    refine s_ialdN hX aM1 (by omega) dX10_isByBank_26 ?_
    refine s_isub hX dX10_isByBank_27 ?_
    refine s_topi (fun x4_1 ex4_1 => ?_)
    refine s_istore (lv' := [(0, .ref (ad 0)), (1, .int (nI j)), (2, .int w), (3, .int s), (4, .int x4_1)]) hX dX10_isByBank_28 (by decide) rfl ?_
    refine s_aload_n (k := 0) hX dX10_isByBank_30 rfl rfl ?_
    refine s_iload_n (k := 1) hX dX10_isByBank_31 rfl rfl ?_
    refine s_callVi hX (c_X10_isDry j hj M hT) mX10_isDry lX10_319 (by decide) (by decide) oM0 rfl rfl rfl rfl rfl (Nat.le_of_ble_eq_true rfl) dX10_isByBank_32 (fun r32 M_2 hp32 => ?_)
    obtain ⟨rfl, h2⟩ := hp32
    subst h2
    refine s_if_eq (tgt := 48) hX dX10_isByBank_35 (by decide) (fun c35 => ?_) (fun c35 => ?_)
    · refine s_iconst (v := (nI 0)) hX dX10_isByBank_48 (by decide) ?_
      exact s_zret hX hR dX10_isByBank_49 (by first | decide | assumption) ⟨rfl, rfl⟩
    · first | exact absurd (by decide) c35 | exact absurd c35 (by decide)
  · replace c1 := mt z_eq.mpr c1
    refine s_aload_n (k := 0) hX dX10_isByBank_4 rfl rfl ?_
    refine s_get hX fX10_7 oM0 rfl dX10_isByBank_5 ?_
    refine s_bipush (v := (nI 80)) hX dX10_isByBank_8 (by decide) ?_
    refine s_iload_n (k := 1) hX dX10_isByBank_10 rfl rfl ?_
    refine s_iadd hX dX10_isByBank_11 ?_
    refine s_top (y := nI (80 + j)) (nI_add _ _) ?_
    refine s_ialdN hX aM1 (by omega) dX10_isByBank_12 ?_
    refine s_goto (tgt := 28) hX dX10_isByBank_13 (by decide) ?_
    refine s_topi (fun x4_3 ex4_3 => ?_)
    refine s_istore (lv' := [(0, .ref (ad 0)), (1, .int (nI j)), (2, .int w), (3, .int s), (4, .int x4_3)]) hX dX10_isByBank_28 (by decide) rfl ?_
    refine s_aload_n (k := 0) hX dX10_isByBank_30 rfl rfl ?_
    refine s_iload_n (k := 1) hX dX10_isByBank_31 rfl rfl ?_
    refine s_callVi hX (c_X10_isDry j hj M hT) mX10_isDry lX10_319 (by decide) (by decide) oM0 rfl rfl rfl rfl rfl (Nat.le_of_ble_eq_true rfl) dX10_isByBank_32 (fun r32 M_4 hp32 => ?_)
    obtain ⟨rfl, h2⟩ := hp32
    subst h2
    refine s_if_eq (tgt := 48) hX dX10_isByBank_35 (by decide) (fun c35 => ?_) (fun c35 => ?_)
    · refine s_iconst (v := (nI 0)) hX dX10_isByBank_48 (by decide) ?_
      exact s_zret hX hR dX10_isByBank_49 (by first | decide | assumption) ⟨rfl, rfl⟩
    · first | exact absurd (by decide) c35 | exact absurd c35 (by decide)
set_option maxHeartbeats 4000000 in
theorem c_X10_laysSteps (w s : Int32) (M : Mem) (hT : ∀ j, j < 40 → M 1 j = 0) : AM yX10_laysSteps cX10_laysSteps 8 none 2 39 glM (fun ad => [.ref (ad 0), .ref (ad 23), .int w, .int s]) M (PV (fun M' => (∀ a c, a ≠ 23 → M' a c = M a c) ∧ ∀ j, j < 40 → M' 23 j = -1)) := by
  refine AM.of (by decide) (fun _ => Nat.le_of_ble_eq_true rfl) (fun X ad cI cZ cB hX hR => ?_)
  show V X M [(0, .ref (ad 0)), (1, .ref (ad 23)), (2, .int w), (3, .int s)] [] 0
  refine s_iconst (v := (nI 0)) hX dX10_laysSteps_0 (by decide) ?_
  refine s_istore (lv' := [(0, .ref (ad 0)), (1, .ref (ad 23)), (2, .int w), (3, .int s), (4, .int (nI 0))]) hX dX10_laysSteps_1 (by decide) rfl ?_
  refine s_iconst (v := (nI 0)) hX dX10_laysSteps_3 (by decide) ?_
  refine s_istore (lv' := [(0, .ref (ad 0)), (1, .ref (ad 23)), (2, .int w), (3, .int s), (4, .int (nI 0)), (5, .int (nI 0))]) hX dX10_laysSteps_4 (by decide) rfl ?_
  have lp6 : ∀ (N6 : Nat) (i : Nat) (Mi : Mem), (i ≤ 40) → (40 < i + N6) → (∀ a c, a ≠ 23 → Mi a c = M a c) → (∀ j, j < i → Mi 23 j = -1) → V X Mi [(0, .ref (ad 0)), (1, .ref (ad 23)), (2, .int w), (3, .int s), (4, .int (nI 0)), (5, .int (nI i))] [] 6 := by
    intro N6
    induction N6 with
    | zero => intro i Mi hi hN6 hf hv; exact absurd hN6 (by omega)
    | succ N6 ih6 =>
      intro i Mi hi hN6 hf hv
      refine s_iload (k := 5) hX dX10_laysSteps_6 rfl ?_
      refine s_bipush (v := (nI 40)) hX dX10_laysSteps_8 (by decide) ?_
      refine s_icmp_ge (tgt := 65) hX dX10_laysSteps_10 (by decide) (fun c10 => ?_) (fun c10 => ?_)
      · replace c10 := (nI_leI (by omega) (by omega)).mp c10
        refine s_iconst (v := (nI 0)) hX dX10_laysSteps_65 (by decide) ?_
        refine s_istore (lv' := [(0, .ref (ad 0)), (1, .ref (ad 23)), (2, .int w), (3, .int s), (4, .int (nI 0)), (5, .int (nI 0))]) hX dX10_laysSteps_66 (by decide) rfl ?_
        refine s_iload (k := 5) hX dX10_laysSteps_68 rfl ?_
        refine s_iload (k := 4) hX dX10_laysSteps_70 rfl ?_
        refine s_icmp_ge (tgt := 154) hX dX10_laysSteps_72 (by decide) (fun c72 => ?_) (fun c72 => ?_)
        · exact s_vret hX hR dX10_laysSteps_154 ⟨hf, fun j hj => hv j (by omega)⟩
        · first | exact absurd (by decide) c72 | exact absurd c72 (by decide)
      · replace c10 := mt (nI_leI (by omega) (by omega)).mpr c10
        refine s_aload_n (k := 1) hX dX10_laysSteps_13 rfl rfl ?_
        refine s_iload (k := 5) hX dX10_laysSteps_14 rfl ?_
        refine s_aload_n (k := 0) hX dX10_laysSteps_16 rfl rfl ?_
        refine s_iload (k := 5) hX dX10_laysSteps_17 rfl ?_
        refine s_iload_n (k := 2) hX dX10_laysSteps_19 rfl rfl ?_
        refine s_iload_n (k := 3) hX dX10_laysSteps_20 rfl rfl ?_
        refine s_callVi hX (c_X10_isByBank i (by omega) w s Mi (fun j hj => (hf 1 j (by decide)).trans (hT j hj))) mX10_isByBank lX10_322 (by decide) (by decide) oM0 rfl rfl rfl rfl rfl (Nat.le_of_ble_eq_true rfl) dX10_laysSteps_21 (fun r21 M_4 hp21 => ?_)
        obtain ⟨rfl, h2⟩ := hp21
        subst h2
        refine s_if_eq (tgt := 31) hX dX10_laysSteps_24 (by decide) (fun c24 => ?_) (fun c24 => ?_)
        · refine s_iconst (v := (-1)) hX dX10_laysSteps_31 (by decide) ?_
          refine s_iastN hX aM23 (by omega) dX10_laysSteps_32 ?_
          refine s_mem (fun M_5 eM_5 => ?_)
          refine s_aload_n (k := 1) hX dX10_laysSteps_33 rfl rfl ?_
          refine s_iload (k := 5) hX dX10_laysSteps_34 rfl ?_
          refine s_ialdN hX aM23 (by omega) dX10_laysSteps_36 ?_
          refine s_iconst (v := (-1)) hX dX10_laysSteps_37 (by decide) ?_
          refine s_icmp_ne (tgt := 44) hX dX10_laysSteps_38 (by decide) (fun c38 => ?_) (fun c38 => ?_)
          · exact absurd (by rw [eM_5, mset_get, if_pos ⟨rfl, rfl⟩]) c38
          · refine s_goto (tgt := 59) hX dX10_laysSteps_41 (by decide) ?_
            refine s_iinc (k := 5) (v := nI (i + 1)) (lv' := [(0, .ref (ad 0)), (1, .ref (ad 23)), (2, .int w), (3, .int s), (4, .int (nI 0)), (5, .int (nI (i + 1)))]) hX dX10_laysSteps_59 (nI_1 _) (by decide) rfl rfl ?_
            refine s_goto (tgt := 6) hX dX10_laysSteps_62 (by decide) ?_
            exact ih6 (i + 1) _ (by omega) (by omega) (by subst_vars; exact fl1 hf) (by subst_vars; exact fl2 hv)
        · first | exact absurd (by decide) c24 | exact absurd c24 (by decide)
  exact lp6 41 0 M (by omega) (by omega) (fun _ _ _ => rfl) (fun j hj => absurd hj (by omega))
set_option maxHeartbeats 4000000 in
theorem c_X10_crossing (s : Int32) (M : Mem) (hT : ∀ j, j < 40 → M 1 j = 0) : AM yX10_crossing cX10_crossing 4 (some .int) 3 39 glM (fun ad => [.ref (ad 0), .int s]) M (PI (fun r M' => r = (if 21 ≤ s.toInt then nI 1 else -1) ∧ ∀ a c, a ≠ 23 → M' a c = M a c)) := by
  refine AM.of (by decide) (fun _ => Nat.le_of_ble_eq_true rfl) (fun X ad cI cZ cB hX hR => ?_)
  show V X M [(0, .ref (ad 0)), (1, .int s)] [] 0
  refine s_iload_n (k := 1) hX dX10_crossing_0 rfl rfl ?_
  refine s_bipush (v := (nI 21)) hX dX10_crossing_1 (by decide) ?_
  refine s_icmp_lt (tgt := 8) hX dX10_crossing_3 (by decide) (fun c3 => ?_) (fun c3 => ?_)
  · replace c3 := (q_lt (by omega)).mp c3
    refine s_aload_n (k := 0) hX dX10_crossing_8 rfl rfl ?_
    refine s_aload_n (k := 0) hX dX10_crossing_9 rfl rfl ?_
    refine s_get hX fX10_77 oM0 rfl dX10_crossing_10 ?_
    refine s_iconst (v := (nI 1)) hX dX10_crossing_13 (by decide) ?_
    refine s_iload_n (k := 1) hX dX10_crossing_14 rfl rfl ?_
    refine s_callVv hX (c_X10_laysSteps (nI 1) s M hT) mX10_laysSteps lX10_329 (by decide) (by decide) oM0 rfl rfl rfl rfl rfl (Nat.le_of_ble_eq_true rfl) dX10_crossing_15 (fun M_1 hp15 => ?_)
    obtain ⟨hf, hv⟩ := hp15
    refine s_iconst (v := (-1)) hX dX10_crossing_18 (by decide) ?_
    refine s_istore_n (lv' := [(0, .ref (ad 0)), (1, .int s), (2, .int (-1))]) hX dX10_crossing_19 rfl (by decide) rfl ?_
    refine s_iconst (v := (nI 0)) hX dX10_crossing_20 (by decide) ?_
    refine s_istore_n (lv' := [(0, .ref (ad 0)), (1, .int s), (2, .int (-1)), (3, .int (nI 0))]) hX dX10_crossing_21 rfl (by decide) rfl ?_
    have lp22 : ∀ (N22 : Nat) (i : Nat), (i ≤ 40) → (40 < i + N22) → V X M_1 [(0, .ref (ad 0)), (1, .int s), (2, .int (-1)), (3, .int (nI i))] [] 22 := by
      intro N22
      induction N22 with
      | zero => intro i hi hN22; exact absurd hN22 (by omega)
      | succ N22 ih22 =>
        intro i hi hN22
        refine s_iload_n (k := 3) hX dX10_crossing_22 rfl rfl ?_
        refine s_bipush (v := (nI 40)) hX dX10_crossing_23 (by decide) ?_
        refine s_icmp_ge (tgt := 83) hX dX10_crossing_25 (by decide) (fun c25 => ?_) (fun c25 => ?_)
        · replace c25 := (nI_leI (by omega) (by omega)).mp c25
          refine s_iload_n (k := 2) hX dX10_crossing_83 rfl rfl ?_
          exact s_iret hX hR dX10_crossing_84 ⟨by rw [if_neg (by omega)], hf⟩
        · replace c25 := mt (nI_leI (by omega) (by omega)).mpr c25
          refine s_aload_n (k := 0) hX dX10_crossing_28 rfl rfl ?_
          refine s_get hX fX10_77 oM0 rfl dX10_crossing_29 ?_
          refine s_iload_n (k := 3) hX dX10_crossing_32 rfl rfl ?_
          refine s_ialdN hX aM23 (by omega) dX10_crossing_33 ?_
          refine s_iconst (v := (-1)) hX dX10_crossing_34 (by decide) ?_
          refine s_icmp_eq (tgt := 77) hX dX10_crossing_35 (by decide) (fun c35 => ?_) (fun c35 => ?_)
          · refine s_iinc (k := 3) (v := nI (i + 1)) (lv' := [(0, .ref (ad 0)), (1, .int s), (2, .int (-1)), (3, .int (nI (i + 1)))]) hX dX10_crossing_77 (nI_1 _) (by decide) rfl rfl ?_
            refine s_goto (tgt := 22) hX dX10_crossing_80 (by decide) ?_
            exact ih22 (i + 1) (by omega) (by omega)
          · exact absurd (hv i (by omega)) c35
    exact lp22 41 0 (by omega) (by omega)
  · replace c3 := mt (q_lt (by omega)).mpr c3
    refine s_iconst (v := (nI 1)) hX dX10_crossing_6 (by decide) ?_
    exact s_iret hX hR dX10_crossing_7 ⟨by rw [if_pos (by omega)], fun _ _ _ => rfl⟩
set_option maxHeartbeats 4000000 in
theorem c_X10_laysIslands (s : Int32) (M : Mem) (hT : ∀ j, j < 40 → M 1 j = 0) : AM yX10_laysIslands cX10_laysIslands 7 (some .int) 1 39 glM (fun ad => [.ref (ad 0), .int s]) M (PI (fun r _ => r = nI 0)) := by
  refine AM.of (by decide) (fun _ => Nat.le_of_ble_eq_true rfl) (fun X ad cI cZ cB hX hR => ?_)
  show V X M [(0, .ref (ad 0)), (1, .int s)] [] 0
  refine s_iconst (v := (nI 0)) hX dX10_laysIslands_0 (by decide) ?_
  refine s_istore_n (lv' := [(0, .ref (ad 0)), (1, .int s), (2, .int (nI 0))]) hX dX10_laysIslands_1 rfl (by decide) rfl ?_
  refine s_iconst (v := (nI 0)) hX dX10_laysIslands_2 (by decide) ?_
  refine s_istore_n (lv' := [(0, .ref (ad 0)), (1, .int s), (2, .int (nI 0)), (3, .int (nI 0))]) hX dX10_laysIslands_3 rfl (by decide) rfl ?_
  have lp4 : ∀ (N4 : Nat) (i : Nat) (Mi : Mem), (i ≤ 40) → (40 < i + N4) → (∀ a c, a ≠ 31 → Mi a c = M a c) → V X Mi [(0, .ref (ad 0)), (1, .int s), (2, .int (nI 0)), (3, .int (nI i))] [] 4 := by
    intro N4
    induction N4 with
    | zero => intro i Mi hi hN4 hf; exact absurd hN4 (by omega)
    | succ N4 ih4 =>
      intro i Mi hi hN4 hf
      refine s_iload_n (k := 3) hX dX10_laysIslands_4 rfl rfl ?_
      refine s_bipush (v := (nI 40)) hX dX10_laysIslands_5 (by decide) ?_
      refine s_icmp_ge (tgt := 23) hX dX10_laysIslands_7 (by decide) (fun c7 => ?_) (fun c7 => ?_)
      · replace c7 := (nI_leI (by omega) (by omega)).mp c7
        refine s_iconst (v := (nI 0)) hX dX10_laysIslands_23 (by decide) ?_
        refine s_istore_n (lv' := [(0, .ref (ad 0)), (1, .int s), (2, .int (nI 0)), (3, .int (nI 0))]) hX dX10_laysIslands_24 rfl (by decide) rfl ?_
        have lp25 : ∀ (N25 : Nat) (f : Nat), (f ≤ 40) → (40 < f + N25) → V X Mi [(0, .ref (ad 0)), (1, .int s), (2, .int (nI 0)), (3, .int (nI f))] [] 25 := by
          intro N25
          induction N25 with
          | zero => intro f hff hN25; exact absurd hN25 (by omega)
          | succ N25 ih25 =>
            intro f hff hN25
            refine s_iload_n (k := 3) hX dX10_laysIslands_25 rfl rfl ?_
            refine s_bipush (v := (nI 40)) hX dX10_laysIslands_26 (by decide) ?_
            refine s_icmp_ge (tgt := 165) hX dX10_laysIslands_28 (by decide) (fun c28 => ?_) (fun c28 => ?_)
            · replace c28 := (nI_leI (by omega) (by omega)).mp c28
              refine s_iload_n (k := 2) hX dX10_laysIslands_165 rfl rfl ?_
              exact s_iret hX hR dX10_laysIslands_166 rfl
            · replace c28 := mt (nI_leI (by omega) (by omega)).mpr c28
              refine s_aload_n (k := 0) hX dX10_laysIslands_31 rfl rfl ?_
              refine s_iload_n (k := 3) hX dX10_laysIslands_32 rfl rfl ?_
              refine s_callVi hX (c_X10_isDry f (by omega) Mi (fun j hj => (hf 1 j (by decide)).trans (hT j hj))) mX10_isDry lX10_319 (by decide) (by decide) oM0 rfl rfl rfl rfl rfl (Nat.le_of_ble_eq_true rfl) dX10_laysIslands_33 (fun r33 M_4 hp33 => ?_)
              obtain ⟨rfl, h2⟩ := hp33
              subst h2
              refine s_if_eq (tgt := 159) hX dX10_laysIslands_36 (by decide) (fun c36 => ?_) (fun c36 => ?_)
              · refine s_iinc (k := 3) (v := nI (f + 1)) (lv' := [(0, .ref (ad 0)), (1, .int s), (2, .int (nI 0)), (3, .int (nI (f + 1)))]) hX dX10_laysIslands_159 (nI_1 _) (by decide) rfl rfl ?_
                refine s_goto (tgt := 25) hX dX10_laysIslands_162 (by decide) ?_
                exact ih25 (f + 1) (by omega) (by omega)
              · first | exact absurd (by decide) c36 | exact absurd c36 (by decide)
        exact lp25 41 0 (by omega) (by omega)
      · replace c7 := mt (nI_leI (by omega) (by omega)).mpr c7
        refine s_aload_n (k := 0) hX dX10_laysIslands_10 rfl rfl ?_
        refine s_get hX fX10_101 oM0 rfl dX10_laysIslands_11 ?_
        refine s_iload_n (k := 3) hX dX10_laysIslands_14 rfl rfl ?_
        refine s_iconst (v := (-1)) hX dX10_laysIslands_15 (by decide) ?_
        refine s_iastN hX aM31 (by omega) dX10_laysIslands_16 ?_
        refine s_mem (fun M_5 eM_5 => ?_)
        refine s_iinc (k := 3) (v := nI (i + 1)) (lv' := [(0, .ref (ad 0)), (1, .int s), (2, .int (nI 0)), (3, .int (nI (i + 1)))]) hX dX10_laysIslands_17 (nI_1 _) (by decide) rfl rfl ?_
        refine s_goto (tgt := 4) hX dX10_laysIslands_20 (by decide) ?_
        exact ih4 (i + 1) _ (by omega) (by omega) (by subst_vars; exact fl1 hf)
  exact lp4 41 0 M (by omega) (by omega) (fun _ _ _ => rfl)
set_option maxHeartbeats 4000000 in
theorem c_X10_mostInLine (M : Mem) (hT : ∀ j, j < 40 → M 1 j = 0) : AM yX10_mostInLine cX10_mostInLine 6 (some .int) 3 39 glM (fun ad => [.ref (ad 0)]) M (PI (fun r _ => r = nI 0)) := by
  refine AM.of (by decide) (fun _ => Nat.le_of_ble_eq_true rfl) (fun X ad cI cZ cB hX hR => ?_)
  show V X M [(0, .ref (ad 0))] [] 0
  refine s_iconst (v := (nI 2)) hX dX10_mostInLine_0 (by decide) ?_
  refine s_aload_n (k := 0) hX dX10_mostInLine_1 rfl rfl ?_
  refine s_iconst (v := (nI 0)) hX dX10_mostInLine_2 (by decide) ?_
  refine s_callVi hX (c_X10_sumOf (nI 0) M hT) mX10_sumOf lX10_312 (by decide) (by decide) oM0 rfl rfl rfl rfl rfl (Nat.le_of_ble_eq_true rfl) dX10_mostInLine_3 (fun r3 M_1 hp3 => ?_)
  obtain ⟨rfl, h2⟩ := hp3
  subst h2
  refine s_callSi hX (c_X10_min (nI 2) (nI 0) M) mX10_min lX10_125 (by decide) (by decide) rfl rfl (Nat.le_of_ble_eq_true rfl) dX10_mostInLine_6 (fun r6 M_2 hp6 => ?_)
  obtain ⟨rfl, h2⟩ := hp6
  subst h2
  refine s_top (y := nI 0) (by decide) ?_
  refine s_istore_n (lv' := [(0, .ref (ad 0)), (1, .int (nI 0))]) hX dX10_mostInLine_9 rfl (by decide) rfl ?_
  refine s_iconst (v := (nI 0)) hX dX10_mostInLine_10 (by decide) ?_
  refine s_istore_n (lv' := [(0, .ref (ad 0)), (1, .int (nI 0)), (2, .int (nI 0))]) hX dX10_mostInLine_11 rfl (by decide) rfl ?_
  have lp12 : ∀ (N12 : Nat) (i : Nat), (i ≤ 40) → (40 < i + N12) → V X M [(0, .ref (ad 0)), (1, .int (nI 0)), (2, .int (nI i))] [] 12 := by
    intro N12
    induction N12 with
    | zero => intro i hi hN12; exact absurd hN12 (by omega)
    | succ N12 ih12 =>
      intro i hi hN12
      refine s_iload_n (k := 2) hX dX10_mostInLine_12 rfl rfl ?_
      refine s_bipush (v := (nI 40)) hX dX10_mostInLine_13 (by decide) ?_
      refine s_icmp_ge (tgt := 108) hX dX10_mostInLine_15 (by decide) (fun c15 => ?_) (fun c15 => ?_)
      · replace c15 := (nI_leI (by omega) (by omega)).mp c15
        refine s_iload_n (k := 1) hX dX10_mostInLine_108 rfl rfl ?_
        exact s_iret hX hR dX10_mostInLine_109 rfl
      · replace c15 := mt (nI_leI (by omega) (by omega)).mpr c15
        refine s_iconst (v := (nI 0)) hX dX10_mostInLine_18 (by decide) ?_
        refine s_istore_n (lv' := [(0, .ref (ad 0)), (1, .int (nI 0)), (2, .int (nI i)), (3, .int (nI 0))]) hX dX10_mostInLine_19 rfl (by decide) rfl ?_
        have lp20 : ∀ (N20 : Nat) (j : Nat), (j ≤ i) → (i < j + N20) → V X M [(0, .ref (ad 0)), (1, .int (nI 0)), (2, .int (nI i)), (3, .int (nI j))] [] 20 := by
          intro N20
          induction N20 with
          | zero => intro j hj hN20; exact absurd hN20 (by omega)
          | succ N20 ih20 =>
            intro j hj hN20
            refine s_iload_n (k := 3) hX dX10_mostInLine_20 rfl rfl ?_
            refine s_iload_n (k := 2) hX dX10_mostInLine_21 rfl rfl ?_
            refine s_icmp_ge (tgt := 102) hX dX10_mostInLine_22 (by decide) (fun c22 => ?_) (fun c22 => ?_)
            · replace c22 := (nI_leI (by omega) (by omega)).mp c22
              refine s_iinc (k := 2) (v := nI (i + 1)) (lv' := [(0, .ref (ad 0)), (1, .int (nI 0)), (3, .int (nI j)), (2, .int (nI (i + 1)))]) hX dX10_mostInLine_102 (nI_1 _) (by decide) rfl rfl ?_
              refine s_goto (tgt := 12) hX dX10_mostInLine_105 (by decide) ?_
              refine s_loc [0, 1, 3] rfl ?_
              exact ih12 (i + 1) (by omega) (by omega)
            · replace c22 := mt (nI_leI (by omega) (by omega)).mpr c22
              refine s_aload_n (k := 0) hX dX10_mostInLine_25 rfl rfl ?_
              refine s_iload_n (k := 2) hX dX10_mostInLine_26 rfl rfl ?_
              refine s_callVi hX (c_X10_isStone (nI i) M hT) mX10_isStone lX10_154 (by decide) (by decide) oM0 rfl rfl rfl rfl rfl (Nat.le_of_ble_eq_true rfl) dX10_mostInLine_27 (fun r27 M_6 hp27 => ?_)
              obtain ⟨rfl, h2⟩ := hp27
              subst h2
              refine s_if_eq (tgt := 96) hX dX10_mostInLine_30 (by decide) (fun c30 => ?_) (fun c30 => ?_)
              · refine s_iinc (k := 3) (v := nI (j + 1)) (lv' := [(0, .ref (ad 0)), (1, .int (nI 0)), (2, .int (nI i)), (3, .int (nI (j + 1)))]) hX dX10_mostInLine_96 (nI_1 _) (by decide) rfl rfl ?_
                refine s_goto (tgt := 20) hX dX10_mostInLine_99 (by decide) ?_
                exact ih20 (j + 1) (by omega) (by omega)
              · first | exact absurd (by decide) c30 | exact absurd c30 (by decide)
        exact lp20 (i + 1) 0 (by omega) (by omega)
  exact lp12 41 0 (by omega) (by omega)
set_option maxHeartbeats 4000000 in
theorem c_X10_yardRow (M : Mem) (hT : ∀ j, j < 40 → M 1 j = 0) : AM yX10_yardRow cX10_yardRow 4 (some .int) 2 39 glM (fun ad => [.ref (ad 0)]) M (PI (fun r _ => r = nI 0)) := by
  refine AM.of (by decide) (fun _ => Nat.le_of_ble_eq_true rfl) (fun X ad cI cZ cB hX hR => ?_)
  show V X M [(0, .ref (ad 0))] [] 0
  refine s_iconst (v := (nI 0)) hX dX10_yardRow_0 (by decide) ?_
  refine s_istore_n (lv' := [(0, .ref (ad 0)), (1, .int (nI 0))]) hX dX10_yardRow_1 rfl (by decide) rfl ?_
  refine s_iconst (v := (nI 0)) hX dX10_yardRow_2 (by decide) ?_
  refine s_istore_n (lv' := [(0, .ref (ad 0)), (1, .int (nI 0)), (2, .int (nI 0))]) hX dX10_yardRow_3 rfl (by decide) rfl ?_
  have lp4 : ∀ (N4 : Nat) (i : Nat), (i ≤ 40) → (40 < i + N4) → V X M [(0, .ref (ad 0)), (1, .int (nI 0)), (2, .int (nI i))] [] 4 := by
    intro N4
    induction N4 with
    | zero => intro i hi hN4; exact absurd hN4 (by omega)
    | succ N4 ih4 =>
      intro i hi hN4
      refine s_iload_n (k := 2) hX dX10_yardRow_4 rfl rfl ?_
      refine s_bipush (v := (nI 40)) hX dX10_yardRow_5 (by decide) ?_
      refine s_icmp_ge (tgt := 67) hX dX10_yardRow_7 (by decide) (fun c7 => ?_) (fun c7 => ?_)
      · replace c7 := (nI_leI (by omega) (by omega)).mp c7
        refine s_iload_n (k := 1) hX dX10_yardRow_67 rfl rfl ?_
        exact s_iret hX hR dX10_yardRow_68 rfl
      · replace c7 := mt (nI_leI (by omega) (by omega)).mpr c7
        refine s_iconst (v := (nI 0)) hX dX10_yardRow_10 (by decide) ?_
        refine s_istore_n (lv' := [(0, .ref (ad 0)), (1, .int (nI 0)), (2, .int (nI i)), (3, .int (nI 0))]) hX dX10_yardRow_11 rfl (by decide) rfl ?_
        refine s_aload_n (k := 0) hX dX10_yardRow_12 rfl rfl ?_
        refine s_iload_n (k := 2) hX dX10_yardRow_13 rfl rfl ?_
        refine s_callVi hX (c_X10_isStone (nI i) M hT) mX10_isStone lX10_154 (by decide) (by decide) oM0 rfl rfl rfl rfl rfl (Nat.le_of_ble_eq_true rfl) dX10_yardRow_14 (fun r14 M_4 hp14 => ?_)
        obtain ⟨rfl, h2⟩ := hp14
        subst h2
        refine s_if_eq (tgt := 55) hX dX10_yardRow_17 (by decide) (fun c17 => ?_) (fun c17 => ?_)
        · refine s_iload_n (k := 1) hX dX10_yardRow_55 rfl rfl ?_
          refine s_iload_n (k := 3) hX dX10_yardRow_56 rfl rfl ?_
          refine s_callSi hX (c_X10_max (nI 0) (nI 0) M) mX10_max lX10_129 (by decide) (by decide) rfl rfl (Nat.le_of_ble_eq_true rfl) dX10_yardRow_57 (fun r57 M_5 hp57 => ?_)
          obtain ⟨rfl, h2⟩ := hp57
          subst h2
          refine s_top (y := nI 0) (by decide) ?_
          refine s_istore_n (lv' := [(0, .ref (ad 0)), (2, .int (nI i)), (3, .int (nI 0)), (1, .int (nI 0))]) hX dX10_yardRow_60 rfl (by decide) rfl ?_
          refine s_iinc (k := 1) (v := nI (i + 1)) (lv' := [(0, .ref (ad 0)), (3, .int (nI 0)), (1, .int (nI 0)), (2, .int (nI (i + 1)))]) hX dX10_yardRow_61 (nI_1 _) (by decide) rfl rfl ?_
          refine s_goto (tgt := 4) hX dX10_yardRow_64 (by decide) ?_
          refine s_loc [0, 2, 3] rfl ?_
          exact ih4 (i + 1) (by omega) (by omega)
        · first | exact absurd (by decide) c17 | exact absurd c17 (by decide)
  exact lp4 41 0 (by omega) (by omega)
set_option maxHeartbeats 4000000 in
theorem c_X10_pairsOf (M : Mem) (hT : ∀ j, j < 40 → M 1 j = 0) : AM yX10_pairsOf cX10_pairsOf 4 (some .int) 2 39 glM (fun ad => [.ref (ad 0)]) M (PI (fun r _ => r = nI 0)) := by
  refine AM.of (by decide) (fun _ => Nat.le_of_ble_eq_true rfl) (fun X ad cI cZ cB hX hR => ?_)
  show V X M [(0, .ref (ad 0))] [] 0
  refine s_iconst (v := (nI 0)) hX dX10_pairsOf_0 (by decide) ?_
  refine s_istore_n (lv' := [(0, .ref (ad 0)), (1, .int (nI 0))]) hX dX10_pairsOf_1 rfl (by decide) rfl ?_
  refine s_iconst (v := (nI 0)) hX dX10_pairsOf_2 (by decide) ?_
  refine s_istore_n (lv' := [(0, .ref (ad 0)), (1, .int (nI 0)), (2, .int (nI 0))]) hX dX10_pairsOf_3 rfl (by decide) rfl ?_
  have lp4 : ∀ (N4 : Nat) (i : Nat), (i ≤ 40) → (40 < i + N4) → V X M [(0, .ref (ad 0)), (1, .int (nI 0)), (2, .int (nI i))] [] 4 := by
    intro N4
    induction N4 with
    | zero => intro i hi hN4; exact absurd hN4 (by omega)
    | succ N4 ih4 =>
      intro i hi hN4
      refine s_iload_n (k := 2) hX dX10_pairsOf_4 rfl rfl ?_
      refine s_bipush (v := (nI 40)) hX dX10_pairsOf_5 (by decide) ?_
      refine s_icmp_ge (tgt := 51) hX dX10_pairsOf_7 (by decide) (fun c7 => ?_) (fun c7 => ?_)
      · replace c7 := (nI_leI (by omega) (by omega)).mp c7
        refine s_iload_n (k := 1) hX dX10_pairsOf_51 rfl rfl ?_
        exact s_iret hX hR dX10_pairsOf_52 rfl
      · replace c7 := mt (nI_leI (by omega) (by omega)).mpr c7
        refine s_aload_n (k := 0) hX dX10_pairsOf_10 rfl rfl ?_
        refine s_iload_n (k := 2) hX dX10_pairsOf_11 rfl rfl ?_
        refine s_callVi hX (c_X10_isStone (nI i) M hT) mX10_isStone lX10_154 (by decide) (by decide) oM0 rfl rfl rfl rfl rfl (Nat.le_of_ble_eq_true rfl) dX10_pairsOf_12 (fun r12 M_3 hp12 => ?_)
        obtain ⟨rfl, h2⟩ := hp12
        subst h2
        refine s_if_ne (tgt := 21) hX dX10_pairsOf_15 (by decide) (fun c15 => ?_) (fun c15 => ?_)
        · first | exact absurd (by decide) c15 | exact absurd c15 (by decide)
        · refine s_goto (tgt := 45) hX dX10_pairsOf_18 (by decide) ?_
          refine s_iinc (k := 2) (v := nI (i + 1)) (lv' := [(0, .ref (ad 0)), (1, .int (nI 0)), (2, .int (nI (i + 1)))]) hX dX10_pairsOf_45 (nI_1 _) (by decide) rfl rfl ?_
          refine s_goto (tgt := 4) hX dX10_pairsOf_48 (by decide) ?_
          exact ih4 (i + 1) (by omega) (by omega)
  exact lp4 41 0 (by omega) (by omega)
set_option maxHeartbeats 4000000 in
theorem c_X10_closest (M : Mem) (hT : ∀ j, j < 40 → M 1 j = 0) : AM yX10_closest cX10_closest 4 (some .int) 2 39 glM (fun ad => [.ref (ad 0)]) M (PI (fun r _ => r = -2)) := by
  refine AM.of (by decide) (fun _ => Nat.le_of_ble_eq_true rfl) (fun X ad cI cZ cB hX hR => ?_)
  show V X M [(0, .ref (ad 0))] [] 0
  refine s_bipush (v := (-2)) hX dX10_closest_0 (by decide) ?_
  refine s_istore_n (lv' := [(0, .ref (ad 0)), (1, .int (-2))]) hX dX10_closest_2 rfl (by decide) rfl ?_
  refine s_iconst (v := (nI 0)) hX dX10_closest_3 (by decide) ?_
  refine s_istore_n (lv' := [(0, .ref (ad 0)), (1, .int (-2)), (2, .int (nI 0))]) hX dX10_closest_4 rfl (by decide) rfl ?_
  have lp5 : ∀ (N5 : Nat) (i : Nat), (i ≤ 40) → (40 < i + N5) → V X M [(0, .ref (ad 0)), (1, .int (-2)), (2, .int (nI i))] [] 5 := by
    intro N5
    induction N5 with
    | zero => intro i hi hN5; exact absurd hN5 (by omega)
    | succ N5 ih5 =>
      intro i hi hN5
      refine s_iload_n (k := 2) hX dX10_closest_5 rfl rfl ?_
      refine s_bipush (v := (nI 40)) hX dX10_closest_6 (by decide) ?_
      refine s_icmp_ge (tgt := 63) hX dX10_closest_8 (by decide) (fun c8 => ?_) (fun c8 => ?_)
      · replace c8 := (nI_leI (by omega) (by omega)).mp c8
        refine s_iload_n (k := 1) hX dX10_closest_63 rfl rfl ?_
        exact s_iret hX hR dX10_closest_64 rfl
      · replace c8 := mt (nI_leI (by omega) (by omega)).mpr c8
        refine s_aload_n (k := 0) hX dX10_closest_11 rfl rfl ?_
        refine s_iload_n (k := 2) hX dX10_closest_12 rfl rfl ?_
        refine s_callVi hX (c_X10_isStone (nI i) M hT) mX10_isStone lX10_154 (by decide) (by decide) oM0 rfl rfl rfl rfl rfl (Nat.le_of_ble_eq_true rfl) dX10_closest_13 (fun r13 M_3 hp13 => ?_)
        obtain ⟨rfl, h2⟩ := hp13
        subst h2
        refine s_if_eq (tgt := 27) hX dX10_closest_16 (by decide) (fun c16 => ?_) (fun c16 => ?_)
        · refine s_iconst (v := (-1)) hX dX10_closest_27 (by decide) ?_
          refine s_istore_n (lv' := [(0, .ref (ad 0)), (1, .int (-2)), (2, .int (nI i)), (3, .int (-1))]) hX dX10_closest_28 rfl (by decide) rfl ?_
          refine s_iload_n (k := 3) hX dX10_closest_29 rfl rfl ?_
          refine s_iconst (v := (-1)) hX dX10_closest_30 (by decide) ?_
          refine s_icmp_eq (tgt := 57) hX dX10_closest_31 (by decide) (fun c31 => ?_) (fun c31 => ?_)
          · refine s_iinc (k := 2) (v := nI (i + 1)) (lv' := [(0, .ref (ad 0)), (1, .int (-2)), (3, .int (-1)), (2, .int (nI (i + 1)))]) hX dX10_closest_57 (nI_1 _) (by decide) rfl rfl ?_
            refine s_goto (tgt := 5) hX dX10_closest_60 (by decide) ?_
            refine s_loc [0, 1, 3] rfl ?_
            exact ih5 (i + 1) (by omega) (by omega)
          · first | exact absurd (by decide) c31 | exact absurd c31 (by decide)
        · first | exact absurd (by decide) c16 | exact absurd c16 (by decide)
  exact lp5 41 0 (by omega) (by omega)
set_option maxHeartbeats 4000000 in
theorem c_X10_listsStones (m : Nat) (h1 : 1 ≤ m) (h2 : m ≤ 7) (w : Int32) (M : Mem) (hT : ∀ j, j < 40 → M 1 j = 0) : AM yX10_listsStones cX10_listsStones 5 (some .boolean) 2 39 glM (fun ad => [.ref (ad 0), .int (nI m), .int w]) M (PI (fun r _ => r = nI 0)) := by
  refine AM.of (by decide) (fun _ => Nat.le_of_ble_eq_true rfl) (fun X ad cI cZ cB hX hR => ?_)
  show V X M [(0, .ref (ad 0)), (1, .int (nI m)), (2, .int w)] [] 0
  refine s_iconst (v := (nI 0)) hX dX10_listsStones_0 (by decide) ?_
  refine s_istore_n (lv' := [(0, .ref (ad 0)), (1, .int (nI m)), (2, .int w), (3, .int (nI 0))]) hX dX10_listsStones_1 rfl (by decide) rfl ?_
  refine s_iconst (v := (nI 0)) hX dX10_listsStones_2 (by decide) ?_
  refine s_istore (lv' := [(0, .ref (ad 0)), (1, .int (nI m)), (2, .int w), (3, .int (nI 0)), (4, .int (nI 0))]) hX dX10_listsStones_3 (by decide) rfl ?_
  have lp5 : ∀ (N5 : Nat) (i : Nat), (i ≤ 40) → (40 < i + N5) → V X M [(0, .ref (ad 0)), (1, .int (nI m)), (2, .int w), (3, .int (nI 0)), (4, .int (nI i))] [] 5 := by
    intro N5
    induction N5 with
    | zero => intro i hi hN5; exact absurd hN5 (by omega)
    | succ N5 ih5 =>
      intro i hi hN5
      refine s_iload (k := 4) hX dX10_listsStones_5 rfl ?_
      refine s_bipush (v := (nI 40)) hX dX10_listsStones_7 (by decide) ?_
      refine s_icmp_ge (tgt := 60) hX dX10_listsStones_9 (by decide) (fun c9 => ?_) (fun c9 => ?_)
      · replace c9 := (nI_leI (by omega) (by omega)).mp c9
        refine s_iload_n (k := 3) hX dX10_listsStones_60 rfl rfl ?_
        refine s_iload_n (k := 1) hX dX10_listsStones_61 rfl rfl ?_
        refine s_icmp_ne (tgt := 69) hX dX10_listsStones_62 (by decide) (fun c62 => ?_) (fun c62 => ?_)
        · replace c62 := mt (nI_eq (by omega) (by omega)).mpr c62
          refine s_iconst (v := (nI 0)) hX dX10_listsStones_69 (by decide) ?_
          exact s_zret hX hR dX10_listsStones_70 (by first | decide | assumption) rfl
        · replace c62 := (nI_eq (by omega) (by omega)).mp c62
          omega
      · replace c9 := mt (nI_leI (by omega) (by omega)).mpr c9
        refine s_iload_n (k := 3) hX dX10_listsStones_12 rfl rfl ?_
        refine s_iload_n (k := 1) hX dX10_listsStones_13 rfl rfl ?_
        refine s_icmp_ge (tgt := 60) hX dX10_listsStones_14 (by decide) (fun c14 => ?_) (fun c14 => ?_)
        · replace c14 := (nI_leI (by omega) (by omega)).mp c14
          omega
        · replace c14 := mt (nI_leI (by omega) (by omega)).mpr c14
          refine s_aload_n (k := 0) hX dX10_listsStones_17 rfl rfl ?_
          refine s_iload (k := 4) hX dX10_listsStones_18 rfl ?_
          refine s_callVi hX (c_X10_isStone (nI i) M hT) mX10_isStone lX10_154 (by decide) (by decide) oM0 rfl rfl rfl rfl rfl (Nat.le_of_ble_eq_true rfl) dX10_listsStones_20 (fun r20 M_3 hp20 => ?_)
          obtain ⟨rfl, h2⟩ := hp20
          subst h2
          refine s_if_eq (tgt := 54) hX dX10_listsStones_23 (by decide) (fun c23 => ?_) (fun c23 => ?_)
          · refine s_iinc (k := 4) (v := nI (i + 1)) (lv' := [(0, .ref (ad 0)), (1, .int (nI m)), (2, .int w), (3, .int (nI 0)), (4, .int (nI (i + 1)))]) hX dX10_listsStones_54 (nI_1 _) (by decide) rfl rfl ?_
            refine s_goto (tgt := 5) hX dX10_listsStones_57 (by decide) ?_
            exact ih5 (i + 1) (by omega) (by omega)
          · first | exact absurd (by decide) c23 | exact absurd c23 (by decide)
  exact lp5 41 0 (by omega) (by omega)
