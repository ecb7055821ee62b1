/-! rows for the class, leaves -/
theorem ap1 {M : Mem} {z i : Nat} : mset M 19 1 (nI (z + i + 1)) 19 1 = nI (z + (i + 1)) := by rw [mset_get, if_pos ⟨rfl, rfl⟩]; rfl
theorem ap2 : ∀ i, i < 4 → nI (32 - 8 * i) - 8 + Int32.ofInt (-8) = nI (32 - 8 * (i + 1)) - 8 := by decide
theorem ap3 {x : Int32} {i : Nat} (h : x = nI (32 - 8 * i) - 8) (c : x.toInt < 0) (hi : i ≤ 4) : i = 4 := by
  have h2 : ∀ k, k < 4 → ¬ (nI (32 - 8 * k) - 8).toInt < 0 := by decide
  rcases Nat.lt_or_ge i 4 with q | q
  · exact absurd (h ▸ c) (h2 i q)
  · omega
theorem ap4 {x : Int32} {i : Nat} (h : x = nI (32 - 8 * i) - 8) (c : ¬ x.toInt < 0) (hi : i ≤ 4) : i < 4 := by
  rcases Nat.lt_or_ge i 4 with q | q
  · exact q
  · have : i = 4 := by omega
    subst this
    exact absurd (h ▸ (by decide)) c
theorem ap5 {M : Mem} {j : Nat} {v w : Int32} (h : M 19 1 = w) : mset M 20 j v 19 1 = w := by rw [mset_get, if_neg (by omega)]; exact h
theorem cp1 {M Mi : Mem} {b i : Nat} {v1 v2 v3 v4 v5 : Int32} (hf : ∀ a c, (a < b + 1 ∨ b + 5 < a) → Mi a c = M a c) : ∀ a c, (a < b + 1 ∨ b + 5 < a) → mset (mset (mset (mset (mset Mi (b + 1) i v1) (b + 2) i v2) (b + 3) i v3) (b + 4) i v4) (b + 5) i v5 a c = M a c := by
  intro a c h
  simp only [mset_get]
  rw [if_neg (by omega), if_neg (by omega), if_neg (by omega), if_neg (by omega), if_neg (by omega)]
  exact hf a c h
theorem cp2 {M Mi : Mem} {b b2 i : Nat} {v1 v2 v3 v5 : Int32} (hb : isF b) (hb2 : isF b2) (hne : b ≠ b2) (hf : ∀ a c, (a < b + 1 ∨ b + 5 < a) → Mi a c = M a c) (ht : ∀ j, j < i → Mi (b + 4) j = vp_nar .boolean (M (b2 + 4) j)) :
    ∀ j, j < i + 1 → mset (mset (mset (mset (mset Mi (b + 1) i v1) (b + 2) i v2) (b + 3) i v3) (b + 4) i (vp_nar .boolean (mset (mset (mset Mi (b + 1) i v1) (b + 2) i v2) (b + 3) i v3 (b2 + 4) i))) (b + 5) i v5 (b + 4) j = vp_nar .boolean (M (b2 + 4) j) := by
  intro j hj
  have hb0 : b = 1 ∨ b = 7 ∨ b = 13 := hb
  have hb1 : b2 = 1 ∨ b2 = 7 ∨ b2 = 13 := hb2
  simp only [mset_get]
  rw [if_neg (by omega)]
  by_cases hji : j = i
  · subst hji
    rw [if_pos (by simp), if_neg (by omega), if_neg (by omega), if_neg (by omega), hf (b2 + 4) j (by omega)]
  · rw [if_neg (by omega), if_neg (by omega), if_neg (by omega), if_neg (by omega)]
    exact ht j (by omega)
theorem cp3 {M M1 : Mem} {b : Nat} {v1 v2 : Int32} (hf : ∀ a c, (a < b + 1 ∨ b + 5 < a) → M1 a c = M a c) : ∀ a c, (a < b ∨ b + 5 < a) → mset (mset M1 b 5 v1) b 6 v2 a c = M a c := by
  intro a c h
  simp only [mset_get]
  rw [if_neg (by omega), if_neg (by omega)]
  exact hf a c (by omega)
theorem cp4 {M M1 : Mem} {b b2 : Nat} {v1 v2 : Int32} (ht : ∀ j, j < 40 → M1 (b + 4) j = vp_nar .boolean (M (b2 + 4) j)) : ∀ j, j < 40 → mset (mset M1 b 5 v1) b 6 v2 (b + 4) j = vp_nar .boolean (M (b2 + 4) j) := by
  intro j h
  simp only [mset_get]
  rw [if_neg (by omega), if_neg (by omega)]
  exact ht j h
theorem dX9_isStone_0 : decode cX9_isStone 0 = .ok (.iload_n 0, 1) := by decide +kernel
theorem dX9_isStone_1 : decode cX9_isStone 1 = .ok (.ifCond .lt 13, 3) := by decide +kernel
theorem dX9_isStone_4 : decode cX9_isStone 4 = .ok (.iload_n 0, 1) := by decide +kernel
theorem dX9_isStone_5 : decode cX9_isStone 5 = .ok (.bipush 40, 2) := by decide +kernel
theorem dX9_isStone_7 : decode cX9_isStone 7 = .ok (.if_icmp .ge 7, 3) := by decide +kernel
theorem dX9_isStone_10 : decode cX9_isStone 10 = .ok (.iconst 1, 1) := by decide +kernel
theorem dX9_isStone_11 : decode cX9_isStone 11 = .ok (.goto 4, 3) := by decide +kernel
theorem dX9_isStone_14 : decode cX9_isStone 14 = .ok (.iconst 0, 1) := by decide +kernel
theorem dX9_isStone_15 : decode cX9_isStone 15 = .ok (.ireturn, 1) := by decide +kernel
theorem dX9_isStride_0 : decode cX9_isStride 0 = .ok (.iload_n 0, 1) := by decide +kernel
theorem dX9_isStride_1 : decode cX9_isStride 1 = .ok (.iconst 1, 1) := by decide +kernel
theorem dX9_isStride_2 : decode cX9_isStride 2 = .ok (.if_icmp .lt 13, 3) := by decide +kernel
theorem dX9_isStride_5 : decode cX9_isStride 5 = .ok (.iload_n 0, 1) := by decide +kernel
theorem dX9_isStride_6 : decode cX9_isStride 6 = .ok (.bipush 30, 2) := by decide +kernel
theorem dX9_isStride_8 : decode cX9_isStride 8 = .ok (.if_icmp .gt 7, 3) := by decide +kernel
theorem dX9_isStride_11 : decode cX9_isStride 11 = .ok (.iconst 1, 1) := by decide +kernel
theorem dX9_isStride_12 : decode cX9_isStride 12 = .ok (.goto 4, 3) := by decide +kernel
theorem dX9_isStride_15 : decode cX9_isStride 15 = .ok (.iconst 0, 1) := by decide +kernel
theorem dX9_isStride_16 : decode cX9_isStride 16 = .ok (.ireturn, 1) := by decide +kernel
theorem dX9_isNights_0 : decode cX9_isNights 0 = .ok (.iload_n 0, 1) := by decide +kernel
theorem dX9_isNights_1 : decode cX9_isNights 1 = .ok (.iconst 1, 1) := by decide +kernel
theorem dX9_isNights_2 : decode cX9_isNights 2 = .ok (.if_icmp .lt 13, 3) := by decide +kernel
theorem dX9_isNights_5 : decode cX9_isNights 5 = .ok (.iload_n 0, 1) := by decide +kernel
theorem dX9_isNights_6 : decode cX9_isNights 6 = .ok (.bipush 60, 2) := by decide +kernel
theorem dX9_isNights_8 : decode cX9_isNights 8 = .ok (.if_icmp .gt 7, 3) := by decide +kernel
theorem dX9_isNights_11 : decode cX9_isNights 11 = .ok (.iconst 1, 1) := by decide +kernel
theorem dX9_isNights_12 : decode cX9_isNights 12 = .ok (.goto 4, 3) := by decide +kernel
theorem dX9_isNights_15 : decode cX9_isNights 15 = .ok (.iconst 0, 1) := by decide +kernel
theorem dX9_isNights_16 : decode cX9_isNights 16 = .ok (.ireturn, 1) := by decide +kernel
theorem dX9_isEither_0 : decode cX9_isEither 0 = .ok (.iload_n 0, 1) := by decide +kernel
theorem dX9_isEither_1 : decode cX9_isEither 1 = .ok (.ifCond .eq 8, 3) := by decide +kernel
theorem dX9_isEither_4 : decode cX9_isEither 4 = .ok (.iload_n 0, 1) := by decide +kernel
theorem dX9_isEither_5 : decode cX9_isEither 5 = .ok (.iconst 1, 1) := by decide +kernel
theorem dX9_isEither_6 : decode cX9_isEither 6 = .ok (.if_icmp .ne 7, 3) := by decide +kernel
theorem dX9_isEither_9 : decode cX9_isEither 9 = .ok (.iconst 1, 1) := by decide +kernel
theorem dX9_isEither_10 : decode cX9_isEither 10 = .ok (.goto 4, 3) := by decide +kernel
theorem dX9_isEither_13 : decode cX9_isEither 13 = .ok (.iconst 0, 1) := by decide +kernel
theorem dX9_isEither_14 : decode cX9_isEither 14 = .ok (.ireturn, 1) := by decide +kernel
theorem dX9_isPlace_0 : decode cX9_isPlace 0 = .ok (.iload_n 0, 1) := by decide +kernel
theorem dX9_isPlace_1 : decode cX9_isPlace 1 = .ok (.ifCond .lt 24, 3) := by decide +kernel
theorem dX9_isPlace_4 : decode cX9_isPlace 4 = .ok (.iload_n 0, 1) := by decide +kernel
theorem dX9_isPlace_5 : decode cX9_isPlace 5 = .ok (.bipush 39, 2) := by decide +kernel
theorem dX9_isPlace_7 : decode cX9_isPlace 7 = .ok (.if_icmp .gt 18, 3) := by decide +kernel
theorem dX9_isPlace_10 : decode cX9_isPlace 10 = .ok (.iload_n 1, 1) := by decide +kernel
theorem dX9_isPlace_11 : decode cX9_isPlace 11 = .ok (.iconst 1, 1) := by decide +kernel
theorem dX9_isPlace_12 : decode cX9_isPlace 12 = .ok (.if_icmp .lt 13, 3) := by decide +kernel
theorem dX9_isPlace_15 : decode cX9_isPlace 15 = .ok (.iload_n 1, 1) := by decide +kernel
theorem dX9_isPlace_16 : decode cX9_isPlace 16 = .ok (.bipush 20, 2) := by decide +kernel
theorem dX9_isPlace_18 : decode cX9_isPlace 18 = .ok (.if_icmp .gt 7, 3) := by decide +kernel
theorem dX9_isPlace_21 : decode cX9_isPlace 21 = .ok (.iconst 1, 1) := by decide +kernel
theorem dX9_isPlace_22 : decode cX9_isPlace 22 = .ok (.goto 4, 3) := by decide +kernel
theorem dX9_isPlace_25 : decode cX9_isPlace 25 = .ok (.iconst 0, 1) := by decide +kernel
theorem dX9_isPlace_26 : decode cX9_isPlace 26 = .ok (.ireturn, 1) := by decide +kernel
theorem dX9_strideOf_0 : decode cX9_strideOf 0 = .ok (.iload_n 1, 1) := by decide +kernel
theorem dX9_strideOf_1 : decode cX9_strideOf 1 = .ok (.ifCond .lt 18, 3) := by decide +kernel
theorem dX9_strideOf_4 : decode cX9_strideOf 4 = .ok (.iload_n 1, 1) := by decide +kernel
theorem dX9_strideOf_5 : decode cX9_strideOf 5 = .ok (.bipush 8, 2) := by decide +kernel
theorem dX9_strideOf_7 : decode cX9_strideOf 7 = .ok (.if_icmp .ge 12, 3) := by decide +kernel
theorem dX9_strideOf_10 : decode cX9_strideOf 10 = .ok (.aload_n 0, 1) := by decide +kernel
theorem dX9_strideOf_11 : decode cX9_strideOf 11 = .ok (.getfield 64, 3) := by decide +kernel
theorem dX9_strideOf_14 : decode cX9_strideOf 14 = .ok (.iload_n 1, 1) := by decide +kernel
theorem dX9_strideOf_15 : decode cX9_strideOf 15 = .ok (.iaload, 1) := by decide +kernel
theorem dX9_strideOf_16 : decode cX9_strideOf 16 = .ok (.goto 4, 3) := by decide +kernel
theorem dX9_strideOf_19 : decode cX9_strideOf 19 = .ok (.iconst 0, 1) := by decide +kernel
theorem dX9_strideOf_20 : decode cX9_strideOf 20 = .ok (.ireturn, 1) := by decide +kernel
theorem dX9_toldPeople_0 : decode cX9_toldPeople 0 = .ok (.iconst 0, 1) := by decide +kernel
theorem dX9_toldPeople_1 : decode cX9_toldPeople 1 = .ok (.istore_n 1, 1) := by decide +kernel
theorem dX9_toldPeople_2 : decode cX9_toldPeople 2 = .ok (.iconst 0, 1) := by decide +kernel
theorem dX9_toldPeople_3 : decode cX9_toldPeople 3 = .ok (.istore_n 2, 1) := by decide +kernel
theorem dX9_toldPeople_4 : decode cX9_toldPeople 4 = .ok (.iload_n 2, 1) := by decide +kernel
theorem dX9_toldPeople_5 : decode cX9_toldPeople 5 = .ok (.bipush 8, 2) := by decide +kernel
theorem dX9_toldPeople_7 : decode cX9_toldPeople 7 = .ok (.if_icmp .ge 24, 3) := by decide +kernel
theorem dX9_toldPeople_10 : decode cX9_toldPeople 10 = .ok (.aload_n 0, 1) := by decide +kernel
theorem dX9_toldPeople_11 : decode cX9_toldPeople 11 = .ok (.getfield 64, 3) := by decide +kernel
theorem dX9_toldPeople_14 : decode cX9_toldPeople 14 = .ok (.iload_n 2, 1) := by decide +kernel
theorem dX9_toldPeople_15 : decode cX9_toldPeople 15 = .ok (.iaload, 1) := by decide +kernel
theorem dX9_toldPeople_16 : decode cX9_toldPeople 16 = .ok (.ifCond .eq 9, 3) := by decide +kernel
theorem dX9_toldPeople_19 : decode cX9_toldPeople 19 = .ok (.iload_n 1, 1) := by decide +kernel
theorem dX9_toldPeople_20 : decode cX9_toldPeople 20 = .ok (.iconst 1, 1) := by decide +kernel
theorem dX9_toldPeople_21 : decode cX9_toldPeople 21 = .ok (.iload_n 2, 1) := by decide +kernel
theorem dX9_toldPeople_22 : decode cX9_toldPeople 22 = .ok (.ishl, 1) := by decide +kernel
theorem dX9_toldPeople_23 : decode cX9_toldPeople 23 = .ok (.ior, 1) := by decide +kernel
theorem dX9_toldPeople_24 : decode cX9_toldPeople 24 = .ok (.istore_n 1, 1) := by decide +kernel
theorem dX9_toldPeople_25 : decode cX9_toldPeople 25 = .ok (.iinc 2 1, 3) := by decide +kernel
theorem dX9_toldPeople_28 : decode cX9_toldPeople 28 = .ok (.goto (-24), 3) := by decide +kernel
theorem dX9_toldPeople_31 : decode cX9_toldPeople 31 = .ok (.iload_n 1, 1) := by decide +kernel
theorem dX9_toldPeople_32 : decode cX9_toldPeople 32 = .ok (.ireturn, 1) := by decide +kernel
theorem dX2_isTold_0 : decode cX2_isTold 0 = .ok (.iload_n 1, 1) := by decide +kernel
theorem dX2_isTold_1 : decode cX2_isTold 1 = .ok (.ifCond .lt 22, 3) := by decide +kernel
theorem dX2_isTold_4 : decode cX2_isTold 4 = .ok (.iload_n 1, 1) := by decide +kernel
theorem dX2_isTold_5 : decode cX2_isTold 5 = .ok (.bipush 40, 2) := by decide +kernel
theorem dX2_isTold_7 : decode cX2_isTold 7 = .ok (.if_icmp .ge 16, 3) := by decide +kernel
theorem dX2_isTold_10 : decode cX2_isTold 10 = .ok (.aload_n 0, 1) := by decide +kernel
theorem dX2_isTold_11 : decode cX2_isTold 11 = .ok (.getfield 21, 3) := by decide +kernel
theorem dX2_isTold_14 : decode cX2_isTold 14 = .ok (.iload_n 1, 1) := by decide +kernel
theorem dX2_isTold_15 : decode cX2_isTold 15 = .ok (.baload, 1) := by decide +kernel
theorem dX2_isTold_16 : decode cX2_isTold 16 = .ok (.ifCond .eq 7, 3) := by decide +kernel
theorem dX2_isTold_19 : decode cX2_isTold 19 = .ok (.iconst 1, 1) := by decide +kernel
theorem dX2_isTold_20 : decode cX2_isTold 20 = .ok (.goto 4, 3) := by decide +kernel
theorem dX2_isTold_23 : decode cX2_isTold 23 = .ok (.iconst 0, 1) := by decide +kernel
theorem dX2_isTold_24 : decode cX2_isTold 24 = .ok (.ireturn, 1) := by decide +kernel
theorem dX2_isDry_0 : decode cX2_isDry 0 = .ok (.iload_n 1, 1) := by decide +kernel
theorem dX2_isDry_1 : decode cX2_isDry 1 = .ok (.ifCond .lt 31, 3) := by decide +kernel
theorem dX2_isDry_4 : decode cX2_isDry 4 = .ok (.iload_n 1, 1) := by decide +kernel
theorem dX2_isDry_5 : decode cX2_isDry 5 = .ok (.bipush 40, 2) := by decide +kernel
theorem dX2_isDry_7 : decode cX2_isDry 7 = .ok (.if_icmp .ge 25, 3) := by decide +kernel
theorem dX2_isDry_10 : decode cX2_isDry 10 = .ok (.aload_n 0, 1) := by decide +kernel
theorem dX2_isDry_11 : decode cX2_isDry 11 = .ok (.getfield 21, 3) := by decide +kernel
theorem dX2_isDry_14 : decode cX2_isDry 14 = .ok (.iload_n 1, 1) := by decide +kernel
theorem dX2_isDry_15 : decode cX2_isDry 15 = .ok (.baload, 1) := by decide +kernel
theorem dX2_isDry_16 : decode cX2_isDry 16 = .ok (.ifCond .eq 16, 3) := by decide +kernel
theorem dX2_isDry_19 : decode cX2_isDry 19 = .ok (.aload_n 0, 1) := by decide +kernel
theorem dX2_isDry_20 : decode cX2_isDry 20 = .ok (.getfield 25, 3) := by decide +kernel
theorem dX2_isDry_23 : decode cX2_isDry 23 = .ok (.iload_n 1, 1) := by decide +kernel
theorem dX2_isDry_24 : decode cX2_isDry 24 = .ok (.baload, 1) := by decide +kernel
theorem dX2_isDry_25 : decode cX2_isDry 25 = .ok (.ifCond .ne 7, 3) := by decide +kernel
theorem dX2_isDry_28 : decode cX2_isDry 28 = .ok (.iconst 1, 1) := by decide +kernel
theorem dX2_isDry_29 : decode cX2_isDry 29 = .ok (.goto 4, 3) := by decide +kernel
theorem dX2_isDry_32 : decode cX2_isDry 32 = .ok (.iconst 0, 1) := by decide +kernel
theorem dX2_isDry_33 : decode cX2_isDry 33 = .ok (.ireturn, 1) := by decide +kernel
theorem dX2_stoneAt_0 : decode cX2_stoneAt 0 = .ok (.iconst 0, 1) := by decide +kernel
theorem dX2_stoneAt_1 : decode cX2_stoneAt 1 = .ok (.istore_n 3, 1) := by decide +kernel
theorem dX2_stoneAt_2 : decode cX2_stoneAt 2 = .ok (.iload_n 3, 1) := by decide +kernel
theorem dX2_stoneAt_3 : decode cX2_stoneAt 3 = .ok (.bipush 40, 2) := by decide +kernel
theorem dX2_stoneAt_5 : decode cX2_stoneAt 5 = .ok (.if_icmp .ge 40, 3) := by decide +kernel
theorem dX2_stoneAt_8 : decode cX2_stoneAt 8 = .ok (.aload_n 0, 1) := by decide +kernel
theorem dX2_stoneAt_9 : decode cX2_stoneAt 9 = .ok (.getfield 21, 3) := by decide +kernel
theorem dX2_stoneAt_12 : decode cX2_stoneAt 12 = .ok (.iload_n 3, 1) := by decide +kernel
theorem dX2_stoneAt_13 : decode cX2_stoneAt 13 = .ok (.baload, 1) := by decide +kernel
theorem dX2_stoneAt_14 : decode cX2_stoneAt 14 = .ok (.ifCond .eq 25, 3) := by decide +kernel
theorem dX2_stoneAt_17 : decode cX2_stoneAt 17 = .ok (.aload_n 0, 1) := by decide +kernel
theorem dX2_stoneAt_18 : decode cX2_stoneAt 18 = .ok (.getfield 9, 3) := by decide +kernel
theorem dX2_stoneAt_21 : decode cX2_stoneAt 21 = .ok (.iload_n 3, 1) := by decide +kernel
theorem dX2_stoneAt_22 : decode cX2_stoneAt 22 = .ok (.iaload, 1) := by decide +kernel
theorem dX2_stoneAt_23 : decode cX2_stoneAt 23 = .ok (.iload_n 1, 1) := by decide +kernel
theorem dX2_stoneAt_24 : decode cX2_stoneAt 24 = .ok (.if_icmp .ne 15, 3) := by decide +kernel
theorem dX2_stoneAt_27 : decode cX2_stoneAt 27 = .ok (.aload_n 0, 1) := by decide +kernel
theorem dX2_stoneAt_28 : decode cX2_stoneAt 28 = .ok (.getfield 15, 3) := by decide +kernel
theorem dX2_stoneAt_31 : decode cX2_stoneAt 31 = .ok (.iload_n 3, 1) := by decide +kernel
theorem dX2_stoneAt_32 : decode cX2_stoneAt 32 = .ok (.iaload, 1) := by decide +kernel
theorem dX2_stoneAt_33 : decode cX2_stoneAt 33 = .ok (.iload_n 2, 1) := by decide +kernel
theorem dX2_stoneAt_34 : decode cX2_stoneAt 34 = .ok (.if_icmp .ne 5, 3) := by decide +kernel
theorem dX2_stoneAt_37 : decode cX2_stoneAt 37 = .ok (.iload_n 3, 1) := by decide +kernel
theorem dX2_stoneAt_38 : decode cX2_stoneAt 38 = .ok (.ireturn, 1) := by decide +kernel
theorem dX2_stoneAt_39 : decode cX2_stoneAt 39 = .ok (.iinc 3 1, 3) := by decide +kernel
theorem dX2_stoneAt_42 : decode cX2_stoneAt 42 = .ok (.goto (-40), 3) := by decide +kernel
theorem dX2_stoneAt_45 : decode cX2_stoneAt 45 = .ok (.iconst (-1), 1) := by decide +kernel
theorem dX2_stoneAt_46 : decode cX2_stoneAt 46 = .ok (.ireturn, 1) := by decide +kernel
theorem dX2_countTold_0 : decode cX2_countTold 0 = .ok (.iconst 0, 1) := by decide +kernel
theorem dX2_countTold_1 : decode cX2_countTold 1 = .ok (.istore_n 1, 1) := by decide +kernel
theorem dX2_countTold_2 : decode cX2_countTold 2 = .ok (.iconst 0, 1) := by decide +kernel
theorem dX2_countTold_3 : decode cX2_countTold 3 = .ok (.istore_n 2, 1) := by decide +kernel
theorem dX2_countTold_4 : decode cX2_countTold 4 = .ok (.iload_n 2, 1) := by decide +kernel
theorem dX2_countTold_5 : decode cX2_countTold 5 = .ok (.bipush 40, 2) := by decide +kernel
theorem dX2_countTold_7 : decode cX2_countTold 7 = .ok (.if_icmp .ge 26, 3) := by decide +kernel
theorem dX2_countTold_10 : decode cX2_countTold 10 = .ok (.iload_n 1, 1) := by decide +kernel
theorem dX2_countTold_11 : decode cX2_countTold 11 = .ok (.aload_n 0, 1) := by decide +kernel
theorem dX2_countTold_12 : decode cX2_countTold 12 = .ok (.getfield 21, 3) := by decide +kernel
theorem dX2_countTold_15 : decode cX2_countTold 15 = .ok (.iload_n 2, 1) := by decide +kernel
theorem dX2_countTold_16 : decode cX2_countTold 16 = .ok (.baload, 1) := by decide +kernel
theorem dX2_countTold_17 : decode cX2_countTold 17 = .ok (.ifCond .eq 7, 3) := by decide +kernel
theorem dX2_countTold_20 : decode cX2_countTold 20 = .ok (.iconst 1, 1) := by decide +kernel
theorem dX2_countTold_21 : decode cX2_countTold 21 = .ok (.goto 4, 3) := by decide +kernel
theorem dX2_countTold_24 : decode cX2_countTold 24 = .ok (.iconst 0, 1) := by decide +kernel
theorem dX2_countTold_25 : decode cX2_countTold 25 = .ok (.iadd, 1) := by decide +kernel
theorem dX2_countTold_26 : decode cX2_countTold 26 = .ok (.istore_n 1, 1) := by decide +kernel
theorem dX2_countTold_27 : decode cX2_countTold 27 = .ok (.iinc 2 1, 3) := by decide +kernel
theorem dX2_countTold_30 : decode cX2_countTold 30 = .ok (.goto (-26), 3) := by decide +kernel
theorem dX2_countTold_33 : decode cX2_countTold 33 = .ok (.iload_n 1, 1) := by decide +kernel
theorem dX2_countTold_34 : decode cX2_countTold 34 = .ok (.ireturn, 1) := by decide +kernel
theorem dX2_countSunk_0 : decode cX2_countSunk 0 = .ok (.iconst 0, 1) := by decide +kernel
theorem dX2_countSunk_1 : decode cX2_countSunk 1 = .ok (.istore_n 1, 1) := by decide +kernel
theorem dX2_countSunk_2 : decode cX2_countSunk 2 = .ok (.iconst 0, 1) := by decide +kernel
theorem dX2_countSunk_3 : decode cX2_countSunk 3 = .ok (.istore_n 2, 1) := by decide +kernel
theorem dX2_countSunk_4 : decode cX2_countSunk 4 = .ok (.iload_n 2, 1) := by decide +kernel
theorem dX2_countSunk_5 : decode cX2_countSunk 5 = .ok (.bipush 40, 2) := by decide +kernel
theorem dX2_countSunk_7 : decode cX2_countSunk 7 = .ok (.if_icmp .ge 35, 3) := by decide +kernel
theorem dX2_countSunk_10 : decode cX2_countSunk 10 = .ok (.iload_n 1, 1) := by decide +kernel
theorem dX2_countSunk_11 : decode cX2_countSunk 11 = .ok (.aload_n 0, 1) := by decide +kernel
theorem dX2_countSunk_12 : decode cX2_countSunk 12 = .ok (.getfield 21, 3) := by decide +kernel
theorem dX2_countSunk_15 : decode cX2_countSunk 15 = .ok (.iload_n 2, 1) := by decide +kernel
theorem dX2_countSunk_16 : decode cX2_countSunk 16 = .ok (.baload, 1) := by decide +kernel
theorem dX2_countSunk_17 : decode cX2_countSunk 17 = .ok (.ifCond .eq 16, 3) := by decide +kernel
theorem dX2_countSunk_20 : decode cX2_countSunk 20 = .ok (.aload_n 0, 1) := by decide +kernel
theorem dX2_countSunk_21 : decode cX2_countSunk 21 = .ok (.getfield 25, 3) := by decide +kernel
theorem dX2_countSunk_24 : decode cX2_countSunk 24 = .ok (.iload_n 2, 1) := by decide +kernel
theorem dX2_countSunk_25 : decode cX2_countSunk 25 = .ok (.baload, 1) := by decide +kernel
theorem dX2_countSunk_26 : decode cX2_countSunk 26 = .ok (.ifCond .eq 7, 3) := by decide +kernel
theorem dX2_countSunk_29 : decode cX2_countSunk 29 = .ok (.iconst 1, 1) := by decide +kernel
theorem dX2_countSunk_30 : decode cX2_countSunk 30 = .ok (.goto 4, 3) := by decide +kernel
theorem dX2_countSunk_33 : decode cX2_countSunk 33 = .ok (.iconst 0, 1) := by decide +kernel
theorem dX2_countSunk_34 : decode cX2_countSunk 34 = .ok (.iadd, 1) := by decide +kernel
theorem dX2_countSunk_35 : decode cX2_countSunk 35 = .ok (.istore_n 1, 1) := by decide +kernel
theorem dX2_countSunk_36 : decode cX2_countSunk 36 = .ok (.iinc 2 1, 3) := by decide +kernel
theorem dX2_countSunk_39 : decode cX2_countSunk 39 = .ok (.goto (-35), 3) := by decide +kernel
theorem dX2_countSunk_42 : decode cX2_countSunk 42 = .ok (.iload_n 1, 1) := by decide +kernel
theorem dX2_countSunk_43 : decode cX2_countSunk 43 = .ok (.ireturn, 1) := by decide +kernel
theorem dX2_sumOfX_0 : decode cX2_sumOfX 0 = .ok (.iconst 0, 1) := by decide +kernel
theorem dX2_sumOfX_1 : decode cX2_sumOfX 1 = .ok (.istore_n 1, 1) := by decide +kernel
theorem dX2_sumOfX_2 : decode cX2_sumOfX 2 = .ok (.iconst 0, 1) := by decide +kernel
theorem dX2_sumOfX_3 : decode cX2_sumOfX 3 = .ok (.istore_n 2, 1) := by decide +kernel
theorem dX2_sumOfX_4 : decode cX2_sumOfX 4 = .ok (.iload_n 2, 1) := by decide +kernel
theorem dX2_sumOfX_5 : decode cX2_sumOfX 5 = .ok (.bipush 40, 2) := by decide +kernel
theorem dX2_sumOfX_7 : decode cX2_sumOfX 7 = .ok (.if_icmp .ge 31, 3) := by decide +kernel
theorem dX2_sumOfX_10 : decode cX2_sumOfX 10 = .ok (.iload_n 1, 1) := by decide +kernel
theorem dX2_sumOfX_11 : decode cX2_sumOfX 11 = .ok (.aload_n 0, 1) := by decide +kernel
theorem dX2_sumOfX_12 : decode cX2_sumOfX 12 = .ok (.getfield 21, 3) := by decide +kernel
theorem dX2_sumOfX_15 : decode cX2_sumOfX 15 = .ok (.iload_n 2, 1) := by decide +kernel
theorem dX2_sumOfX_16 : decode cX2_sumOfX 16 = .ok (.baload, 1) := by decide +kernel
theorem dX2_sumOfX_17 : decode cX2_sumOfX 17 = .ok (.ifCond .eq 12, 3) := by decide +kernel
theorem dX2_sumOfX_20 : decode cX2_sumOfX 20 = .ok (.aload_n 0, 1) := by decide +kernel
theorem dX2_sumOfX_21 : decode cX2_sumOfX 21 = .ok (.getfield 9, 3) := by decide +kernel
theorem dX2_sumOfX_24 : decode cX2_sumOfX 24 = .ok (.iload_n 2, 1) := by decide +kernel
theorem dX2_sumOfX_25 : decode cX2_sumOfX 25 = .ok (.iaload, 1) := by decide +kernel
theorem dX2_sumOfX_26 : decode cX2_sumOfX 26 = .ok (.goto 4, 3) := by decide +kernel
theorem dX2_sumOfX_29 : decode cX2_sumOfX 29 = .ok (.iconst 0, 1) := by decide +kernel
theorem dX2_sumOfX_30 : decode cX2_sumOfX 30 = .ok (.iadd, 1) := by decide +kernel
theorem dX2_sumOfX_31 : decode cX2_sumOfX 31 = .ok (.istore_n 1, 1) := by decide +kernel
theorem dX2_sumOfX_32 : decode cX2_sumOfX 32 = .ok (.iinc 2 1, 3) := by decide +kernel
theorem dX2_sumOfX_35 : decode cX2_sumOfX 35 = .ok (.goto (-31), 3) := by decide +kernel
theorem dX2_sumOfX_38 : decode cX2_sumOfX 38 = .ok (.iload_n 1, 1) := by decide +kernel
theorem dX2_sumOfX_39 : decode cX2_sumOfX 39 = .ok (.ireturn, 1) := by decide +kernel
theorem dX2_lay_0 : decode cX2_lay 0 = .ok (.iload_n 1, 1) := by decide +kernel
theorem dX2_lay_1 : decode cX2_lay 1 = .ok (.ifCond .lt 9, 3) := by decide +kernel
theorem dX2_lay_4 : decode cX2_lay 4 = .ok (.iload_n 1, 1) := by decide +kernel
theorem dX2_lay_5 : decode cX2_lay 5 = .ok (.bipush 40, 2) := by decide +kernel
theorem dX2_lay_7 : decode cX2_lay 7 = .ok (.if_icmp .lt 4, 3) := by decide +kernel
theorem dX2_lay_10 : decode cX2_lay 10 = .ok (.return_, 1) := by decide +kernel
theorem dX2_lay_11 : decode cX2_lay 11 = .ok (.aload_n 0, 1) := by decide +kernel
theorem dX2_lay_12 : decode cX2_lay 12 = .ok (.getfield 9, 3) := by decide +kernel
theorem dX2_lay_15 : decode cX2_lay 15 = .ok (.iload_n 1, 1) := by decide +kernel
theorem dX2_lay_16 : decode cX2_lay 16 = .ok (.iload_n 2, 1) := by decide +kernel
theorem dX2_lay_17 : decode cX2_lay 17 = .ok (.iastore, 1) := by decide +kernel
theorem dX2_lay_18 : decode cX2_lay 18 = .ok (.aload_n 0, 1) := by decide +kernel
theorem dX2_lay_19 : decode cX2_lay 19 = .ok (.getfield 15, 3) := by decide +kernel
theorem dX2_lay_22 : decode cX2_lay 22 = .ok (.iload_n 1, 1) := by decide +kernel
theorem dX2_lay_23 : decode cX2_lay 23 = .ok (.iload_n 3, 1) := by decide +kernel
theorem dX2_lay_24 : decode cX2_lay 24 = .ok (.iastore, 1) := by decide +kernel
theorem dX2_lay_25 : decode cX2_lay 25 = .ok (.aload_n 0, 1) := by decide +kernel
theorem dX2_lay_26 : decode cX2_lay 26 = .ok (.getfield 18, 3) := by decide +kernel
theorem dX2_lay_29 : decode cX2_lay 29 = .ok (.iload_n 1, 1) := by decide +kernel
theorem dX2_lay_30 : decode cX2_lay 30 = .ok (.iload 4, 2) := by decide +kernel
theorem dX2_lay_32 : decode cX2_lay 32 = .ok (.iastore, 1) := by decide +kernel
theorem dX2_lay_33 : decode cX2_lay 33 = .ok (.aload_n 0, 1) := by decide +kernel
theorem dX2_lay_34 : decode cX2_lay 34 = .ok (.getfield 25, 3) := by decide +kernel
theorem dX2_lay_37 : decode cX2_lay 37 = .ok (.iload_n 1, 1) := by decide +kernel
theorem dX2_lay_38 : decode cX2_lay 38 = .ok (.iload 5, 2) := by decide +kernel
theorem dX2_lay_40 : decode cX2_lay 40 = .ok (.bastore, 1) := by decide +kernel
theorem dX2_lay_41 : decode cX2_lay 41 = .ok (.aload_n 0, 1) := by decide +kernel
theorem dX2_lay_42 : decode cX2_lay 42 = .ok (.getfield 21, 3) := by decide +kernel
theorem dX2_lay_45 : decode cX2_lay 45 = .ok (.iload_n 1, 1) := by decide +kernel
theorem dX2_lay_46 : decode cX2_lay 46 = .ok (.iconst 1, 1) := by decide +kernel
theorem dX2_lay_47 : decode cX2_lay 47 = .ok (.bastore, 1) := by decide +kernel
theorem dX2_lay_48 : decode cX2_lay 48 = .ok (.return_, 1) := by decide +kernel
theorem dX7_holds_0 : decode cX7_holds 0 = .ok (.iload_n 1, 1) := by decide +kernel
theorem dX7_holds_1 : decode cX7_holds 1 = .ok (.iload_n 2, 1) := by decide +kernel
theorem dX7_holds_2 : decode cX7_holds 2 = .ok (.if_icmp .lt 20, 3) := by decide +kernel
theorem dX7_holds_5 : decode cX7_holds 5 = .ok (.iload_n 1, 1) := by decide +kernel
theorem dX7_holds_6 : decode cX7_holds 6 = .ok (.iload_n 3, 1) := by decide +kernel
theorem dX7_holds_7 : decode cX7_holds 7 = .ok (.if_icmp .gt 15, 3) := by decide +kernel
theorem dX7_holds_10 : decode cX7_holds 10 = .ok (.iload_n 1, 1) := by decide +kernel
theorem dX7_holds_11 : decode cX7_holds 11 = .ok (.aload_n 0, 1) := by decide +kernel
theorem dX7_holds_12 : decode cX7_holds 12 = .ok (.getfield 15, 3) := by decide +kernel
theorem dX7_holds_15 : decode cX7_holds 15 = .ok (.if_icmp .gt 7, 3) := by decide +kernel
theorem dX7_holds_18 : decode cX7_holds 18 = .ok (.iconst 1, 1) := by decide +kernel
theorem dX7_holds_19 : decode cX7_holds 19 = .ok (.goto 4, 3) := by decide +kernel
theorem dX7_holds_22 : decode cX7_holds 22 = .ok (.iconst 0, 1) := by decide +kernel
theorem dX7_holds_23 : decode cX7_holds 23 = .ok (.ireturn, 1) := by decide +kernel
theorem dX7_open_0 : decode cX7_open 0 = .ok (.aload_n 0, 1) := by decide +kernel
theorem dX7_open_1 : decode cX7_open 1 = .ok (.iload_n 1, 1) := by decide +kernel
theorem dX7_open_2 : decode cX7_open 2 = .ok (.putfield 19, 3) := by decide +kernel
theorem dX7_open_5 : decode cX7_open 5 = .ok (.aload_n 0, 1) := by decide +kernel
theorem dX7_open_6 : decode cX7_open 6 = .ok (.iconst 0, 1) := by decide +kernel
theorem dX7_open_7 : decode cX7_open 7 = .ok (.putfield 22, 3) := by decide +kernel
theorem dX7_open_10 : decode cX7_open 10 = .ok (.aload_n 0, 1) := by decide +kernel
theorem dX7_open_11 : decode cX7_open 11 = .ok (.iconst 0, 1) := by decide +kernel
theorem dX7_open_12 : decode cX7_open 12 = .ok (.putfield 25, 3) := by decide +kernel
theorem dX7_open_15 : decode cX7_open 15 = .ok (.aload_n 0, 1) := by decide +kernel
theorem dX7_open_16 : decode cX7_open 16 = .ok (.iconst 0, 1) := by decide +kernel
theorem dX7_open_17 : decode cX7_open 17 = .ok (.putfield 15, 3) := by decide +kernel
theorem dX7_open_20 : decode cX7_open 20 = .ok (.return_, 1) := by decide +kernel
theorem dX7_append_0 : decode cX7_append 0 = .ok (.bipush 24, 2) := by decide +kernel
theorem dX7_append_2 : decode cX7_append 2 = .ok (.istore_n 2, 1) := by decide +kernel
theorem dX7_append_3 : decode cX7_append 3 = .ok (.iload_n 2, 1) := by decide +kernel
theorem dX7_append_4 : decode cX7_append 4 = .ok (.ifCond .lt 52, 3) := by decide +kernel
theorem dX7_append_7 : decode cX7_append 7 = .ok (.aload_n 0, 1) := by decide +kernel
theorem dX7_append_8 : decode cX7_append 8 = .ok (.getfield 15, 3) := by decide +kernel
theorem dX7_append_11 : decode cX7_append 11 = .ok (.ifCond .lt 39, 3) := by decide +kernel
theorem dX7_append_14 : decode cX7_append 14 = .ok (.aload_n 0, 1) := by decide +kernel
theorem dX7_append_15 : decode cX7_append 15 = .ok (.getfield 15, 3) := by decide +kernel
theorem dX7_append_18 : decode cX7_append 18 = .ok (.sipush 260, 3) := by decide +kernel
theorem dX7_append_21 : decode cX7_append 21 = .ok (.if_icmp .ge 29, 3) := by decide +kernel
theorem dX7_append_24 : decode cX7_append 24 = .ok (.aload_n 0, 1) := by decide +kernel
theorem dX7_append_25 : decode cX7_append 25 = .ok (.getfield 9, 3) := by decide +kernel
theorem dX7_append_28 : decode cX7_append 28 = .ok (.aload_n 0, 1) := by decide +kernel
theorem dX7_append_29 : decode cX7_append 29 = .ok (.getfield 15, 3) := by decide +kernel
theorem dX7_append_32 : decode cX7_append 32 = .ok (.iload_n 1, 1) := by decide +kernel
theorem dX7_append_33 : decode cX7_append 33 = .ok (.iload_n 2, 1) := by decide +kernel
theorem dX7_append_34 : decode cX7_append 34 = .ok (.ishr, 1) := by decide +kernel
theorem dX7_append_35 : decode cX7_append 35 = .ok (.sipush 255, 3) := by decide +kernel
theorem dX7_append_38 : decode cX7_append 38 = .ok (.iand, 1) := by decide +kernel
theorem dX7_append_39 : decode cX7_append 39 = .ok (.iastore, 1) := by decide +kernel
theorem dX7_append_40 : decode cX7_append 40 = .ok (.aload_n 0, 1) := by decide +kernel
theorem dX7_append_41 : decode cX7_append 41 = .ok (.dup, 1) := by decide +kernel
theorem dX7_append_42 : decode cX7_append 42 = .ok (.getfield 15, 3) := by decide +kernel
theorem dX7_append_45 : decode cX7_append 45 = .ok (.iconst 1, 1) := by decide +kernel
theorem dX7_append_46 : decode cX7_append 46 = .ok (.iadd, 1) := by decide +kernel
theorem dX7_append_47 : decode cX7_append 47 = .ok (.putfield 15, 3) := by decide +kernel
theorem dX7_append_50 : decode cX7_append 50 = .ok (.iinc 2 (-8), 3) := by decide +kernel
theorem dX7_append_53 : decode cX7_append 53 = .ok (.goto (-50), 3) := by decide +kernel
theorem dX7_append_56 : decode cX7_append 56 = .ok (.return_, 1) := by decide +kernel
theorem dX2_copyStones_0 : decode cX2_copyStones 0 = .ok (.iconst 0, 1) := by decide +kernel
theorem dX2_copyStones_1 : decode cX2_copyStones 1 = .ok (.istore_n 2, 1) := by decide +kernel
theorem dX2_copyStones_2 : decode cX2_copyStones 2 = .ok (.iload_n 2, 1) := by decide +kernel
theorem dX2_copyStones_3 : decode cX2_copyStones 3 = .ok (.bipush 40, 2) := by decide +kernel
theorem dX2_copyStones_5 : decode cX2_copyStones 5 = .ok (.if_icmp .ge 69, 3) := by decide +kernel
theorem dX2_copyStones_8 : decode cX2_copyStones 8 = .ok (.aload_n 0, 1) := by decide +kernel
theorem dX2_copyStones_9 : decode cX2_copyStones 9 = .ok (.getfield 9, 3) := by decide +kernel
theorem dX2_copyStones_12 : decode cX2_copyStones 12 = .ok (.iload_n 2, 1) := by decide +kernel
theorem dX2_copyStones_13 : decode cX2_copyStones 13 = .ok (.aload_n 1, 1) := by decide +kernel
theorem dX2_copyStones_14 : decode cX2_copyStones 14 = .ok (.getfield 9, 3) := by decide +kernel
theorem dX2_copyStones_17 : decode cX2_copyStones 17 = .ok (.iload_n 2, 1) := by decide +kernel
theorem dX2_copyStones_18 : decode cX2_copyStones 18 = .ok (.iaload, 1) := by decide +kernel
theorem dX2_copyStones_19 : decode cX2_copyStones 19 = .ok (.iastore, 1) := by decide +kernel
theorem dX2_copyStones_20 : decode cX2_copyStones 20 = .ok (.aload_n 0, 1) := by decide +kernel
theorem dX2_copyStones_21 : decode cX2_copyStones 21 = .ok (.getfield 15, 3) := by decide +kernel
theorem dX2_copyStones_24 : decode cX2_copyStones 24 = .ok (.iload_n 2, 1) := by decide +kernel
theorem dX2_copyStones_25 : decode cX2_copyStones 25 = .ok (.aload_n 1, 1) := by decide +kernel
theorem dX2_copyStones_26 : decode cX2_copyStones 26 = .ok (.getfield 15, 3) := by decide +kernel
theorem dX2_copyStones_29 : decode cX2_copyStones 29 = .ok (.iload_n 2, 1) := by decide +kernel
theorem dX2_copyStones_30 : decode cX2_copyStones 30 = .ok (.iaload, 1) := by decide +kernel
theorem dX2_copyStones_31 : decode cX2_copyStones 31 = .ok (.iastore, 1) := by decide +kernel
theorem dX2_copyStones_32 : decode cX2_copyStones 32 = .ok (.aload_n 0, 1) := by decide +kernel
theorem dX2_copyStones_33 : decode cX2_copyStones 33 = .ok (.getfield 18, 3) := by decide +kernel
theorem dX2_copyStones_36 : decode cX2_copyStones 36 = .ok (.iload_n 2, 1) := by decide +kernel
theorem dX2_copyStones_37 : decode cX2_copyStones 37 = .ok (.aload_n 1, 1) := by decide +kernel
theorem dX2_copyStones_38 : decode cX2_copyStones 38 = .ok (.getfield 18, 3) := by decide +kernel
theorem dX2_copyStones_41 : decode cX2_copyStones 41 = .ok (.iload_n 2, 1) := by decide +kernel
theorem dX2_copyStones_42 : decode cX2_copyStones 42 = .ok (.iaload, 1) := by decide +kernel
theorem dX2_copyStones_43 : decode cX2_copyStones 43 = .ok (.iastore, 1) := by decide +kernel
theorem dX2_copyStones_44 : decode cX2_copyStones 44 = .ok (.aload_n 0, 1) := by decide +kernel
theorem dX2_copyStones_45 : decode cX2_copyStones 45 = .ok (.getfield 21, 3) := by decide +kernel
theorem dX2_copyStones_48 : decode cX2_copyStones 48 = .ok (.iload_n 2, 1) := by decide +kernel
theorem dX2_copyStones_49 : decode cX2_copyStones 49 = .ok (.aload_n 1, 1) := by decide +kernel
theorem dX2_copyStones_50 : decode cX2_copyStones 50 = .ok (.getfield 21, 3) := by decide +kernel
theorem dX2_copyStones_53 : decode cX2_copyStones 53 = .ok (.iload_n 2, 1) := by decide +kernel
theorem dX2_copyStones_54 : decode cX2_copyStones 54 = .ok (.baload, 1) := by decide +kernel
theorem dX2_copyStones_55 : decode cX2_copyStones 55 = .ok (.bastore, 1) := by decide +kernel
theorem dX2_copyStones_56 : decode cX2_copyStones 56 = .ok (.aload_n 0, 1) := by decide +kernel
theorem dX2_copyStones_57 : decode cX2_copyStones 57 = .ok (.getfield 25, 3) := by decide +kernel
theorem dX2_copyStones_60 : decode cX2_copyStones 60 = .ok (.iload_n 2, 1) := by decide +kernel
theorem dX2_copyStones_61 : decode cX2_copyStones 61 = .ok (.aload_n 1, 1) := by decide +kernel
theorem dX2_copyStones_62 : decode cX2_copyStones 62 = .ok (.getfield 25, 3) := by decide +kernel
theorem dX2_copyStones_65 : decode cX2_copyStones 65 = .ok (.iload_n 2, 1) := by decide +kernel
theorem dX2_copyStones_66 : decode cX2_copyStones 66 = .ok (.baload, 1) := by decide +kernel
theorem dX2_copyStones_67 : decode cX2_copyStones 67 = .ok (.bastore, 1) := by decide +kernel
theorem dX2_copyStones_68 : decode cX2_copyStones 68 = .ok (.iinc 2 1, 3) := by decide +kernel
theorem dX2_copyStones_71 : decode cX2_copyStones 71 = .ok (.goto (-69), 3) := by decide +kernel
theorem dX2_copyStones_74 : decode cX2_copyStones 74 = .ok (.return_, 1) := by decide +kernel
theorem dX2_copyAll_0 : decode cX2_copyAll 0 = .ok (.aload_n 0, 1) := by decide +kernel
theorem dX2_copyAll_1 : decode cX2_copyAll 1 = .ok (.aload_n 1, 1) := by decide +kernel
theorem dX2_copyAll_2 : decode cX2_copyAll 2 = .ok (.invokevirtual 35, 3) := by decide +kernel
theorem dX2_copyAll_5 : decode cX2_copyAll 5 = .ok (.aload_n 0, 1) := by decide +kernel
theorem dX2_copyAll_6 : decode cX2_copyAll 6 = .ok (.aload_n 1, 1) := by decide +kernel
theorem dX2_copyAll_7 : decode cX2_copyAll 7 = .ok (.getfield 28, 3) := by decide +kernel
theorem dX2_copyAll_10 : decode cX2_copyAll 10 = .ok (.putfield 28, 3) := by decide +kernel
theorem dX2_copyAll_13 : decode cX2_copyAll 13 = .ok (.aload_n 0, 1) := by decide +kernel
theorem dX2_copyAll_14 : decode cX2_copyAll 14 = .ok (.aload_n 1, 1) := by decide +kernel
theorem dX2_copyAll_15 : decode cX2_copyAll 15 = .ok (.getfield 32, 3) := by decide +kernel
theorem dX2_copyAll_18 : decode cX2_copyAll 18 = .ok (.putfield 32, 3) := by decide +kernel
theorem dX2_copyAll_21 : decode cX2_copyAll 21 = .ok (.return_, 1) := by decide +kernel
set_option maxHeartbeats 4000000 in
theorem c_X9_isStone (i : Int32) (M : Mem) : AM yX9_isStone cX9_isStone 1 (some .boolean) 0 60 glC (fun ad => [.int i]) M (PI (fun r M' => r = bI (0 ≤ i.toInt ∧ i.toInt < 40) ∧ M = M')) := by
  refine AM.of (by decide) (fun _ => Nat.le_of_ble_eq_true rfl) (fun X ad cI cZ cB hX hR => ?_)
  show V X M [(0, .int i)] [] 0
  refine s_iload_n (k := 0) hX dX9_isStone_0 rfl rfl ?_
  refine s_if_lt (tgt := 14) hX dX9_isStone_1 (by decide) (fun c1 => ?_) (fun c1 => ?_)
  · replace c1 := z_lt.mp c1
    refine s_iconst (v := (nI 0)) hX dX9_isStone_14 (by decide) ?_
    exact s_zret hX hR dX9_isStone_15 (by first | decide | assumption) ⟨bI_f (by omega), rfl⟩
  · replace c1 := mt z_lt.mpr c1
    refine s_iload_n (k := 0) hX dX9_isStone_4 rfl rfl ?_
    refine s_bipush (v := (nI 40)) hX dX9_isStone_5 (by decide) ?_
    refine s_icmp_ge (tgt := 14) hX dX9_isStone_7 (by decide) (fun c7 => ?_) (fun c7 => ?_)
    · replace c7 := (q_ge (by omega)).mp c7
      refine s_iconst (v := (nI 0)) hX dX9_isStone_14 (by decide) ?_
      exact s_zret hX hR dX9_isStone_15 (by first | decide | assumption) ⟨bI_f (by omega), rfl⟩
    · replace c7 := mt (q_ge (by omega)).mpr c7
      refine s_iconst (v := (nI 1)) hX dX9_isStone_10 (by decide) ?_
      refine s_goto (tgt := 15) hX dX9_isStone_11 (by decide) ?_
      exact s_zret hX hR dX9_isStone_15 (by first | decide | assumption) ⟨bI_t (by omega), rfl⟩
set_option maxHeartbeats 4000000 in
theorem c_X9_isStride (i : Int32) (M : Mem) : AM yX9_isStride cX9_isStride 1 (some .boolean) 0 60 glC (fun ad => [.int i]) M (PI (fun r M' => r = bI (1 ≤ i.toInt ∧ i.toInt ≤ 30) ∧ M = M')) := by
  refine AM.of (by decide) (fun _ => Nat.le_of_ble_eq_true rfl) (fun X ad cI cZ cB hX hR => ?_)
  show V X M [(0, .int i)] [] 0
  refine s_iload_n (k := 0) hX dX9_isStride_0 rfl rfl ?_
  refine s_iconst (v := (nI 1)) hX dX9_isStride_1 (by decide) ?_
  refine s_icmp_lt (tgt := 15) hX dX9_isStride_2 (by decide) (fun c2 => ?_) (fun c2 => ?_)
  · replace c2 := (q_lt (by omega)).mp c2
    refine s_iconst (v := (nI 0)) hX dX9_isStride_15 (by decide) ?_
    exact s_zret hX hR dX9_isStride_16 (by first | decide | assumption) ⟨bI_f (by omega), rfl⟩
  · replace c2 := mt (q_lt (by omega)).mpr c2
    refine s_iload_n (k := 0) hX dX9_isStride_5 rfl rfl ?_
    refine s_bipush (v := (nI 30)) hX dX9_isStride_6 (by decide) ?_
    refine s_icmp_gt (tgt := 15) hX dX9_isStride_8 (by decide) (fun c8 => ?_) (fun c8 => ?_)
    · replace c8 := (q_gt (by omega)).mp c8
      refine s_iconst (v := (nI 0)) hX dX9_isStride_15 (by decide) ?_
      exact s_zret hX hR dX9_isStride_16 (by first | decide | assumption) ⟨bI_f (by omega), rfl⟩
    · replace c8 := mt (q_gt (by omega)).mpr c8
      refine s_iconst (v := (nI 1)) hX dX9_isStride_11 (by decide) ?_
      refine s_goto (tgt := 16) hX dX9_isStride_12 (by decide) ?_
      exact s_zret hX hR dX9_isStride_16 (by first | decide | assumption) ⟨bI_t (by omega), rfl⟩
set_option maxHeartbeats 4000000 in
theorem c_X9_isNights (i : Int32) (M : Mem) : AM yX9_isNights cX9_isNights 1 (some .boolean) 0 60 glC (fun ad => [.int i]) M (PI (fun r M' => r = bI (1 ≤ i.toInt ∧ i.toInt ≤ 60) ∧ M = M')) := by
  refine AM.of (by decide) (fun _ => Nat.le_of_ble_eq_true rfl) (fun X ad cI cZ cB hX hR => ?_)
  show V X M [(0, .int i)] [] 0
  refine s_iload_n (k := 0) hX dX9_isNights_0 rfl rfl ?_
  refine s_iconst (v := (nI 1)) hX dX9_isNights_1 (by decide) ?_
  refine s_icmp_lt (tgt := 15) hX dX9_isNights_2 (by decide) (fun c2 => ?_) (fun c2 => ?_)
  · replace c2 := (q_lt (by omega)).mp c2
    refine s_iconst (v := (nI 0)) hX dX9_isNights_15 (by decide) ?_
    exact s_zret hX hR dX9_isNights_16 (by first | decide | assumption) ⟨bI_f (by omega), rfl⟩
  · replace c2 := mt (q_lt (by omega)).mpr c2
    refine s_iload_n (k := 0) hX dX9_isNights_5 rfl rfl ?_
    refine s_bipush (v := (nI 60)) hX dX9_isNights_6 (by decide) ?_
    refine s_icmp_gt (tgt := 15) hX dX9_isNights_8 (by decide) (fun c8 => ?_) (fun c8 => ?_)
    · replace c8 := (q_gt (by omega)).mp c8
      refine s_iconst (v := (nI 0)) hX dX9_isNights_15 (by decide) ?_
      exact s_zret hX hR dX9_isNights_16 (by first | decide | assumption) ⟨bI_f (by omega), rfl⟩
    · replace c8 := mt (q_gt (by omega)).mpr c8
      refine s_iconst (v := (nI 1)) hX dX9_isNights_11 (by decide) ?_
      refine s_goto (tgt := 16) hX dX9_isNights_12 (by decide) ?_
      exact s_zret hX hR dX9_isNights_16 (by first | decide | assumption) ⟨bI_t (by omega), rfl⟩
set_option maxHeartbeats 4000000 in
theorem c_X9_isEither (i : Int32) (M : Mem) : AM yX9_isEither cX9_isEither 1 (some .boolean) 0 60 glC (fun ad => [.int i]) M (PI (fun r M' => r = bI (i.toInt = 0 ∨ i.toInt = 1) ∧ M = M')) := by
  refine AM.of (by decide) (fun _ => Nat.le_of_ble_eq_true rfl) (fun X ad cI cZ cB hX hR => ?_)
  show V X M [(0, .int i)] [] 0
  refine s_iload_n (k := 0) hX dX9_isEither_0 rfl rfl ?_
  refine s_if_eq (tgt := 9) hX dX9_isEither_1 (by decide) (fun c1 => ?_) (fun c1 => ?_)
  · replace c1 := z_eq.mp c1
    refine s_iconst (v := (nI 1)) hX dX9_isEither_9 (by decide) ?_
    refine s_goto (tgt := 14) hX dX9_isEither_10 (by decide) ?_
    exact s_zret hX hR dX9_isEither_14 (by first | decide | assumption) ⟨bI_t (by omega), rfl⟩
  · replace c1 := mt z_eq.mpr c1
    refine s_iload_n (k := 0) hX dX9_isEither_4 rfl rfl ?_
    refine s_iconst (v := (nI 1)) hX dX9_isEither_5 (by decide) ?_
    refine s_icmp_ne (tgt := 13) hX dX9_isEither_6 (by decide) (fun c6 => ?_) (fun c6 => ?_)
    · replace c6 := mt (q_eq (by omega)).mpr c6
      refine s_iconst (v := (nI 0)) hX dX9_isEither_13 (by decide) ?_
      exact s_zret hX hR dX9_isEither_14 (by first | decide | assumption) ⟨bI_f (by omega), rfl⟩
    · replace c6 := (q_eq (by omega)).mp c6
      refine s_iconst (v := (nI 1)) hX dX9_isEither_9 (by decide) ?_
      refine s_goto (tgt := 14) hX dX9_isEither_10 (by decide) ?_
      exact s_zret hX hR dX9_isEither_14 (by first | decide | assumption) ⟨bI_t (by omega), rfl⟩
set_option maxHeartbeats 4000000 in
theorem c_X9_isPlace (x y : Int32) (M : Mem) : AM yX9_isPlace cX9_isPlace 2 (some .boolean) 0 60 glC (fun ad => [.int x, .int y]) M (PI (fun r M' => r = bI (0 ≤ x.toInt ∧ x.toInt ≤ 39 ∧ 1 ≤ y.toInt ∧ y.toInt ≤ 20) ∧ M = M')) := by
  refine AM.of (by decide) (fun _ => Nat.le_of_ble_eq_true rfl) (fun X ad cI cZ cB hX hR => ?_)
  show V X M [(0, .int x), (1, .int y)] [] 0
  refine s_iload_n (k := 0) hX dX9_isPlace_0 rfl rfl ?_
  refine s_if_lt (tgt := 25) hX dX9_isPlace_1 (by decide) (fun c1 => ?_) (fun c1 => ?_)
  · replace c1 := z_lt.mp c1
    refine s_iconst (v := (nI 0)) hX dX9_isPlace_25 (by decide) ?_
    exact s_zret hX hR dX9_isPlace_26 (by first | decide | assumption) ⟨bI_f (by omega), rfl⟩
  · replace c1 := mt z_lt.mpr c1
    refine s_iload_n (k := 0) hX dX9_isPlace_4 rfl rfl ?_
    refine s_bipush (v := (nI 39)) hX dX9_isPlace_5 (by decide) ?_
    refine s_icmp_gt (tgt := 25) hX dX9_isPlace_7 (by decide) (fun c7 => ?_) (fun c7 => ?_)
    · replace c7 := (q_gt (by omega)).mp c7
      refine s_iconst (v := (nI 0)) hX dX9_isPlace_25 (by decide) ?_
      exact s_zret hX hR dX9_isPlace_26 (by first | decide | assumption) ⟨bI_f (by omega), rfl⟩
    · replace c7 := mt (q_gt (by omega)).mpr c7
      refine s_iload_n (k := 1) hX dX9_isPlace_10 rfl rfl ?_
      refine s_iconst (v := (nI 1)) hX dX9_isPlace_11 (by decide) ?_
      refine s_icmp_lt (tgt := 25) hX dX9_isPlace_12 (by decide) (fun c12 => ?_) (fun c12 => ?_)
      · replace c12 := (q_lt (by omega)).mp c12
        refine s_iconst (v := (nI 0)) hX dX9_isPlace_25 (by decide) ?_
        exact s_zret hX hR dX9_isPlace_26 (by first | decide | assumption) ⟨bI_f (by omega), rfl⟩
      · replace c12 := mt (q_lt (by omega)).mpr c12
        refine s_iload_n (k := 1) hX dX9_isPlace_15 rfl rfl ?_
        refine s_bipush (v := (nI 20)) hX dX9_isPlace_16 (by decide) ?_
        refine s_icmp_gt (tgt := 25) hX dX9_isPlace_18 (by decide) (fun c18 => ?_) (fun c18 => ?_)
        · replace c18 := (q_gt (by omega)).mp c18
          refine s_iconst (v := (nI 0)) hX dX9_isPlace_25 (by decide) ?_
          exact s_zret hX hR dX9_isPlace_26 (by first | decide | assumption) ⟨bI_f (by omega), rfl⟩
        · replace c18 := mt (q_gt (by omega)).mpr c18
          refine s_iconst (v := (nI 1)) hX dX9_isPlace_21 (by decide) ?_
          refine s_goto (tgt := 26) hX dX9_isPlace_22 (by decide) ?_
          exact s_zret hX hR dX9_isPlace_26 (by first | decide | assumption) ⟨bI_t (by omega), rfl⟩
set_option maxHeartbeats 4000000 in
theorem c_X9_strideOf (p : Int32) (M : Mem) (hS : ∀ j, j < 8 → M 43 j = 0) : AM yX9_strideOf cX9_strideOf 2 (some .int) 0 60 glC (fun ad => [.ref (ad 0), .int p]) M (PI (fun r M' => r = nI 0 ∧ M = M')) := by
  refine AM.of (by decide) (fun _ => Nat.le_of_ble_eq_true rfl) (fun X ad cI cZ cB hX hR => ?_)
  show V X M [(0, .ref (ad 0)), (1, .int p)] [] 0
  refine s_iload_n (k := 1) hX dX9_strideOf_0 rfl rfl ?_
  refine s_if_lt (tgt := 19) hX dX9_strideOf_1 (by decide) (fun c1 => ?_) (fun c1 => ?_)
  · replace c1 := z_lt.mp c1
    refine s_iconst (v := (nI 0)) hX dX9_strideOf_19 (by decide) ?_
    exact s_iret hX hR dX9_strideOf_20 ⟨rfl, rfl⟩
  · replace c1 := mt z_lt.mpr c1
    refine s_iload_n (k := 1) hX dX9_strideOf_4 rfl rfl ?_
    refine s_bipush (v := (nI 8)) hX dX9_strideOf_5 (by decide) ?_
    refine s_icmp_ge (tgt := 19) hX dX9_strideOf_7 (by decide) (fun c7 => ?_) (fun c7 => ?_)
    · replace c7 := (q_ge (by omega)).mp c7
      refine s_iconst (v := (nI 0)) hX dX9_strideOf_19 (by decide) ?_
      exact s_iret hX hR dX9_strideOf_20 ⟨rfl, rfl⟩
    · replace c7 := mt (q_ge (by omega)).mpr c7
      obtain ⟨j, hj, rfl⟩ := ixi (x := p) (n := 8) (by omega) (by omega)
      refine s_aload_n (k := 0) hX dX9_strideOf_10 rfl rfl ?_
      refine s_get hX fX9_64 oC0 rfl dX9_strideOf_11 ?_
      refine s_iload_n (k := 1) hX dX9_strideOf_14 rfl rfl ?_
      refine s_ialdN hX aC43 (by omega) dX9_strideOf_15 ?_
      refine s_goto (tgt := 20) hX dX9_strideOf_16 (by decide) ?_
      exact s_iret hX hR dX9_strideOf_20 ⟨hS j hj, rfl⟩
set_option maxHeartbeats 4000000 in
theorem c_X9_toldPeople (M : Mem) (hS : ∀ j, j < 8 → M 43 j = 0) : AM yX9_toldPeople cX9_toldPeople 3 (some .int) 0 60 glC (fun ad => [.ref (ad 0)]) M (PI (fun r M' => r = nI 0 ∧ M = M')) := by
  refine AM.of (by decide) (fun _ => Nat.le_of_ble_eq_true rfl) (fun X ad cI cZ cB hX hR => ?_)
  show V X M [(0, .ref (ad 0))] [] 0
  refine s_iconst (v := (nI 0)) hX dX9_toldPeople_0 (by decide) ?_
  refine s_istore_n (lv' := [(0, .ref (ad 0)), (1, .int (nI 0))]) hX dX9_toldPeople_1 rfl (by decide) rfl ?_
  refine s_iconst (v := (nI 0)) hX dX9_toldPeople_2 (by decide) ?_
  refine s_istore_n (lv' := [(0, .ref (ad 0)), (1, .int (nI 0)), (2, .int (nI 0))]) hX dX9_toldPeople_3 rfl (by decide) rfl ?_
  have lp4 : ∀ (N4 : Nat) (i : Nat), (i ≤ 8) → (8 < i + N4) → V X M [(0, .ref (ad 0)), (1, .int (nI 0)), (2, .int (nI i))] [] 4 := by
    intro N4
    induction N4 with
    | zero => intro i hi hN4; exact absurd hN4 (by omega)
    | succ N4 ih4 =>
      intro i hi hN4
      refine s_iload_n (k := 2) hX dX9_toldPeople_4 rfl rfl ?_
      refine s_bipush (v := (nI 8)) hX dX9_toldPeople_5 (by decide) ?_
      refine s_icmp_ge (tgt := 31) hX dX9_toldPeople_7 (by decide) (fun c7 => ?_) (fun c7 => ?_)
      · replace c7 := (nI_leI (by omega) (by omega)).mp c7
        refine s_iload_n (k := 1) hX dX9_toldPeople_31 rfl rfl ?_
        exact s_iret hX hR dX9_toldPeople_32 ⟨rfl, rfl⟩
      · replace c7 := mt (nI_leI (by omega) (by omega)).mpr c7
        refine s_aload_n (k := 0) hX dX9_toldPeople_10 rfl rfl ?_
        refine s_get hX fX9_64 oC0 rfl dX9_toldPeople_11 ?_
        refine s_iload_n (k := 2) hX dX9_toldPeople_14 rfl rfl ?_
        refine s_ialdN hX aC43 (by omega) dX9_toldPeople_15 ?_
        refine s_if_eq (tgt := 25) hX dX9_toldPeople_16 (by decide) (fun c16 => ?_) (fun c16 => ?_)
        · refine s_iinc (k := 2) (v := nI (i + 1)) (lv' := [(0, .ref (ad 0)), (1, .int (nI 0)), (2, .int (nI (i + 1)))]) hX dX9_toldPeople_25 (nI_1 _) (by decide) rfl rfl ?_
          refine s_goto (tgt := 4) hX dX9_toldPeople_28 (by decide) ?_
          exact ih4 (i + 1) (by omega) (by omega)
        · exact absurd (hS i (by omega)) c16
  exact lp4 9 0 (by omega) (by omega)
set_option maxHeartbeats 4000000 in
theorem c_X2_isTold (b : Nat) (hb : isF b) (i : Int32) (M : Mem) (hT : ∀ j, j < 40 → M (b + 4) j = 0) : AM yX2_isTold cX2_isTold 2 (some .boolean) 0 60 glC (fun ad => [.ref (ad b), .int i]) M (PI (fun r M' => r = nI 0 ∧ M = M')) := by
  refine AM.of (by decide) (fun _ => Nat.le_of_ble_eq_true rfl) (fun X ad cI cZ cB hX hR => ?_)
  show V X M [(0, .ref (ad b)), (1, .int i)] [] 0
  refine s_iload_n (k := 1) hX dX2_isTold_0 rfl rfl ?_
  refine s_if_lt (tgt := 23) hX dX2_isTold_1 (by decide) (fun c1 => ?_) (fun c1 => ?_)
  · replace c1 := z_lt.mp c1
    refine s_iconst (v := (nI 0)) hX dX2_isTold_23 (by decide) ?_
    exact s_zret hX hR dX2_isTold_24 (by first | decide | assumption) ⟨rfl, rfl⟩
  · replace c1 := mt z_lt.mpr c1
    refine s_iload_n (k := 1) hX dX2_isTold_4 rfl rfl ?_
    refine s_bipush (v := (nI 40)) hX dX2_isTold_5 (by decide) ?_
    refine s_icmp_ge (tgt := 23) hX dX2_isTold_7 (by decide) (fun c7 => ?_) (fun c7 => ?_)
    · replace c7 := (q_ge (by omega)).mp c7
      refine s_iconst (v := (nI 0)) hX dX2_isTold_23 (by decide) ?_
      exact s_zret hX hR dX2_isTold_24 (by first | decide | assumption) ⟨rfl, rfl⟩
    · replace c7 := mt (q_ge (by omega)).mpr c7
      obtain ⟨j, hj, rfl⟩ := ixi (x := i) (n := 40) (by omega) (by omega)
      refine s_aload_n (k := 0) hX dX2_isTold_10 rfl rfl ?_
      refine s_get hX fX2_21 (oF hb) rfl dX2_isTold_11 ?_
      refine s_iload_n (k := 1) hX dX2_isTold_14 rfl rfl ?_
      refine s_zaldN hX (aF4 hb) (by omega) dX2_isTold_15 ?_
      refine s_if_eq (tgt := 23) hX dX2_isTold_16 (by decide) (fun c16 => ?_) (fun c16 => ?_)
      · refine s_iconst (v := (nI 0)) hX dX2_isTold_23 (by decide) ?_
        exact s_zret hX hR dX2_isTold_24 (by first | decide | assumption) ⟨rfl, rfl⟩
      · exact absurd (hT j hj) c16
set_option maxHeartbeats 4000000 in
theorem c_X2_isDry (b : Nat) (hb : isF b) (i : Int32) (M : Mem) (hT : ∀ j, j < 40 → M (b + 4) j = 0) : AM yX2_isDry cX2_isDry 2 (some .boolean) 0 60 glC (fun ad => [.ref (ad b), .int i]) M (PI (fun r M' => r = nI 0 ∧ M = M')) := by
  refine AM.of (by decide) (fun _ => Nat.le_of_ble_eq_true rfl) (fun X ad cI cZ cB hX hR => ?_)
  show V X M [(0, .ref (ad b)), (1, .int i)] [] 0
  refine s_iload_n (k := 1) hX dX2_isDry_0 rfl rfl ?_
  refine s_if_lt (tgt := 32) hX dX2_isDry_1 (by decide) (fun c1 => ?_) (fun c1 => ?_)
  · replace c1 := z_lt.mp c1
    refine s_iconst (v := (nI 0)) hX dX2_isDry_32 (by decide) ?_
    exact s_zret hX hR dX2_isDry_33 (by first | decide | assumption) ⟨rfl, rfl⟩
  · replace c1 := mt z_lt.mpr c1
    refine s_iload_n (k := 1) hX dX2_isDry_4 rfl rfl ?_
    refine s_bipush (v := (nI 40)) hX dX2_isDry_5 (by decide) ?_
    refine s_icmp_ge (tgt := 32) hX dX2_isDry_7 (by decide) (fun c7 => ?_) (fun c7 => ?_)
    · replace c7 := (q_ge (by omega)).mp c7
      refine s_iconst (v := (nI 0)) hX dX2_isDry_32 (by decide) ?_
      exact s_zret hX hR dX2_isDry_33 (by first | decide | assumption) ⟨rfl, rfl⟩
    · replace c7 := mt (q_ge (by omega)).mpr c7
      obtain ⟨j, hj, rfl⟩ := ixi (x := i) (n := 40) (by omega) (by omega)
      refine s_aload_n (k := 0) hX dX2_isDry_10 rfl rfl ?_
      refine s_get hX fX2_21 (oF hb) rfl dX2_isDry_11 ?_
      refine s_iload_n (k := 1) hX dX2_isDry_14 rfl rfl ?_
      refine s_zaldN hX (aF4 hb) (by omega) dX2_isDry_15 ?_
      refine s_if_eq (tgt := 32) hX dX2_isDry_16 (by decide) (fun c16 => ?_) (fun c16 => ?_)
      · refine s_iconst (v := (nI 0)) hX dX2_isDry_32 (by decide) ?_
        exact s_zret hX hR dX2_isDry_33 (by first | decide | assumption) ⟨rfl, rfl⟩
      · exact absurd (hT j hj) c16
set_option maxHeartbeats 4000000 in
theorem c_X2_stoneAt (b : Nat) (hb : isF b) (x y : Int32) (M : Mem) (hT : ∀ j, j < 40 → M (b + 4) j = 0) : AM yX2_stoneAt cX2_stoneAt 4 (some .int) 0 60 glC (fun ad => [.ref (ad b), .int x, .int y]) M (PI (fun r M' => r = -1 ∧ M = M')) := by
  refine AM.of (by decide) (fun _ => Nat.le_of_ble_eq_true rfl) (fun X ad cI cZ cB hX hR => ?_)
  show V X M [(0, .ref (ad b)), (1, .int x), (2, .int y)] [] 0
  refine s_iconst (v := (nI 0)) hX dX2_stoneAt_0 (by decide) ?_
  refine s_istore_n (lv' := [(0, .ref (ad b)), (1, .int x), (2, .int y), (3, .int (nI 0))]) hX dX2_stoneAt_1 rfl (by decide) rfl ?_
  have lp2 : ∀ (N2 : Nat) (i : Nat), (i ≤ 40) → (40 < i + N2) → V X M [(0, .ref (ad b)), (1, .int x), (2, .int y), (3, .int (nI i))] [] 2 := by
    intro N2
    induction N2 with
    | zero => intro i hi hN2; exact absurd hN2 (by omega)
    | succ N2 ih2 =>
      intro i hi hN2
      refine s_iload_n (k := 3) hX dX2_stoneAt_2 rfl rfl ?_
      refine s_bipush (v := (nI 40)) hX dX2_stoneAt_3 (by decide) ?_
      refine s_icmp_ge (tgt := 45) hX dX2_stoneAt_5 (by decide) (fun c5 => ?_) (fun c5 => ?_)
      · replace c5 := (nI_leI (by omega) (by omega)).mp c5
        refine s_iconst (v := (-1)) hX dX2_stoneAt_45 (by decide) ?_
        exact s_iret hX hR dX2_stoneAt_46 ⟨rfl, rfl⟩
      · replace c5 := mt (nI_leI (by omega) (by omega)).mpr c5
        refine s_aload_n (k := 0) hX dX2_stoneAt_8 rfl rfl ?_
        refine s_get hX fX2_21 (oF hb) rfl dX2_stoneAt_9 ?_
        refine s_iload_n (k := 3) hX dX2_stoneAt_12 rfl rfl ?_
        refine s_zaldN hX (aF4 hb) (by omega) dX2_stoneAt_13 ?_
        refine s_if_eq (tgt := 39) hX dX2_stoneAt_14 (by decide) (fun c14 => ?_) (fun c14 => ?_)
        · refine s_iinc (k := 3) (v := nI (i + 1)) (lv' := [(0, .ref (ad b)), (1, .int x), (2, .int y), (3, .int (nI (i + 1)))]) hX dX2_stoneAt_39 (nI_1 _) (by decide) rfl rfl ?_
          refine s_goto (tgt := 2) hX dX2_stoneAt_42 (by decide) ?_
          exact ih2 (i + 1) (by omega) (by omega)
        · exact absurd (hT i (by omega)) c14
  exact lp2 41 0 (by omega) (by omega)
set_option maxHeartbeats 4000000 in
theorem c_X2_countTold (b : Nat) (hb : isF b) (M : Mem) (hT : ∀ j, j < 40 → M (b + 4) j = 0) : AM yX2_countTold cX2_countTold 3 (some .int) 0 60 glC (fun ad => [.ref (ad b)]) M (PI (fun r M' => r = nI 0 ∧ M = M')) := by
  refine AM.of (by decide) (fun _ => Nat.le_of_ble_eq_true rfl) (fun X ad cI cZ cB hX hR => ?_)
  show V X M [(0, .ref (ad b))] [] 0
  refine s_iconst (v := (nI 0)) hX dX2_countTold_0 (by decide) ?_
  refine s_istore_n (lv' := [(0, .ref (ad b)), (1, .int (nI 0))]) hX dX2_countTold_1 rfl (by decide) rfl ?_
  refine s_iconst (v := (nI 0)) hX dX2_countTold_2 (by decide) ?_
  refine s_istore_n (lv' := [(0, .ref (ad b)), (1, .int (nI 0)), (2, .int (nI 0))]) hX dX2_countTold_3 rfl (by decide) rfl ?_
  have lp4 : ∀ (N4 : Nat) (i : Nat), (i ≤ 40) → (40 < i + N4) → V X M [(0, .ref (ad b)), (1, .int (nI 0)), (2, .int (nI i))] [] 4 := by
    intro N4
    induction N4 with
    | zero => intro i hi hN4; exact absurd hN4 (by omega)
    | succ N4 ih4 =>
      intro i hi hN4
      refine s_iload_n (k := 2) hX dX2_countTold_4 rfl rfl ?_
      refine s_bipush (v := (nI 40)) hX dX2_countTold_5 (by decide) ?_
      refine s_icmp_ge (tgt := 33) hX dX2_countTold_7 (by decide) (fun c7 => ?_) (fun c7 => ?_)
      · replace c7 := (nI_leI (by omega) (by omega)).mp c7
        refine s_iload_n (k := 1) hX dX2_countTold_33 rfl rfl ?_
        exact s_iret hX hR dX2_countTold_34 ⟨rfl, rfl⟩
      · replace c7 := mt (nI_leI (by omega) (by omega)).mpr c7
        refine s_iload_n (k := 1) hX dX2_countTold_10 rfl rfl ?_
        refine s_aload_n (k := 0) hX dX2_countTold_11 rfl rfl ?_
        refine s_get hX fX2_21 (oF hb) rfl dX2_countTold_12 ?_
        refine s_iload_n (k := 2) hX dX2_countTold_15 rfl rfl ?_
        refine s_zaldN hX (aF4 hb) (by omega) dX2_countTold_16 ?_
        refine s_if_eq (tgt := 24) hX dX2_countTold_17 (by decide) (fun c17 => ?_) (fun c17 => ?_)
        · refine s_iconst (v := (nI 0)) hX dX2_countTold_24 (by decide) ?_
          refine s_iadd hX dX2_countTold_25 ?_
          refine s_top (y := nI 0) (nI_z _) ?_
          refine s_top (y := nI 0) (by decide) ?_
          refine s_istore_n (lv' := [(0, .ref (ad b)), (2, .int (nI i)), (1, .int (nI 0))]) hX dX2_countTold_26 rfl (by decide) rfl ?_
          refine s_iinc (k := 1) (v := nI (i + 1)) (lv' := [(0, .ref (ad b)), (1, .int (nI 0)), (2, .int (nI (i + 1)))]) hX dX2_countTold_27 (nI_1 _) (by decide) rfl rfl ?_
          refine s_goto (tgt := 4) hX dX2_countTold_30 (by decide) ?_
          exact ih4 (i + 1) (by omega) (by omega)
        · exact absurd (hT i (by omega)) c17
  exact lp4 41 0 (by omega) (by omega)
set_option maxHeartbeats 4000000 in
theorem c_X2_countSunk (b : Nat) (hb : isF b) (M : Mem) (hT : ∀ j, j < 40 → M (b + 4) j = 0) : AM yX2_countSunk cX2_countSunk 3 (some .int) 0 60 glC (fun ad => [.ref (ad b)]) M (PI (fun r M' => r = nI 0 ∧ M = M')) := by
  refine AM.of (by decide) (fun _ => Nat.le_of_ble_eq_true rfl) (fun X ad cI cZ cB hX hR => ?_)
  show V X M [(0, .ref (ad b))] [] 0
  refine s_iconst (v := (nI 0)) hX dX2_countSunk_0 (by decide) ?_
  refine s_istore_n (lv' := [(0, .ref (ad b)), (1, .int (nI 0))]) hX dX2_countSunk_1 rfl (by decide) rfl ?_
  refine s_iconst (v := (nI 0)) hX dX2_countSunk_2 (by decide) ?_
  refine s_istore_n (lv' := [(0, .ref (ad b)), (1, .int (nI 0)), (2, .int (nI 0))]) hX dX2_countSunk_3 rfl (by decide) rfl ?_
  have lp4 : ∀ (N4 : Nat) (i : Nat), (i ≤ 40) → (40 < i + N4) → V X M [(0, .ref (ad b)), (1, .int (nI 0)), (2, .int (nI i))] [] 4 := by
    intro N4
    induction N4 with
    | zero => intro i hi hN4; exact absurd hN4 (by omega)
    | succ N4 ih4 =>
      intro i hi hN4
      refine s_iload_n (k := 2) hX dX2_countSunk_4 rfl rfl ?_
      refine s_bipush (v := (nI 40)) hX dX2_countSunk_5 (by decide) ?_
      refine s_icmp_ge (tgt := 42) hX dX2_countSunk_7 (by decide) (fun c7 => ?_) (fun c7 => ?_)
      · replace c7 := (nI_leI (by omega) (by omega)).mp c7
        refine s_iload_n (k := 1) hX dX2_countSunk_42 rfl rfl ?_
        exact s_iret hX hR dX2_countSunk_43 ⟨rfl, rfl⟩
      · replace c7 := mt (nI_leI (by omega) (by omega)).mpr c7
        refine s_iload_n (k := 1) hX dX2_countSunk_10 rfl rfl ?_
        refine s_aload_n (k := 0) hX dX2_countSunk_11 rfl rfl ?_
        refine s_get hX fX2_21 (oF hb) rfl dX2_countSunk_12 ?_
        refine s_iload_n (k := 2) hX dX2_countSunk_15 rfl rfl ?_
        refine s_zaldN hX (aF4 hb) (by omega) dX2_countSunk_16 ?_
        refine s_if_eq (tgt := 33) hX dX2_countSunk_17 (by decide) (fun c17 => ?_) (fun c17 => ?_)
        · refine s_iconst (v := (nI 0)) hX dX2_countSunk_33 (by decide) ?_
          refine s_iadd hX dX2_countSunk_34 ?_
          refine s_top (y := nI 0) (nI_z _) ?_
          refine s_top (y := nI 0) (by decide) ?_
          refine s_istore_n (lv' := [(0, .ref (ad b)), (2, .int (nI i)), (1, .int (nI 0))]) hX dX2_countSunk_35 rfl (by decide) rfl ?_
          refine s_iinc (k := 1) (v := nI (i + 1)) (lv' := [(0, .ref (ad b)), (1, .int (nI 0)), (2, .int (nI (i + 1)))]) hX dX2_countSunk_36 (nI_1 _) (by decide) rfl rfl ?_
          refine s_goto (tgt := 4) hX dX2_countSunk_39 (by decide) ?_
          exact ih4 (i + 1) (by omega) (by omega)
        · exact absurd (hT i (by omega)) c17
  exact lp4 41 0 (by omega) (by omega)
set_option maxHeartbeats 4000000 in
theorem c_X2_sumOfX (b : Nat) (hb : isF b) (M : Mem) (hT : ∀ j, j < 40 → M (b + 4) j = 0) : AM yX2_sumOfX cX2_sumOfX 3 (some .int) 0 60 glC (fun ad => [.ref (ad b)]) M (PI (fun r M' => r = nI 0 ∧ M = M')) := by
  refine AM.of (by decide) (fun _ => Nat.le_of_ble_eq_true rfl) (fun X ad cI cZ cB hX hR => ?_)
  show V X M [(0, .ref (ad b))] [] 0
  refine s_iconst (v := (nI 0)) hX dX2_sumOfX_0 (by decide) ?_
  refine s_istore_n (lv' := [(0, .ref (ad b)), (1, .int (nI 0))]) hX dX2_sumOfX_1 rfl (by decide) rfl ?_
  refine s_iconst (v := (nI 0)) hX dX2_sumOfX_2 (by decide) ?_
  refine s_istore_n (lv' := [(0, .ref (ad b)), (1, .int (nI 0)), (2, .int (nI 0))]) hX dX2_sumOfX_3 rfl (by decide) rfl ?_
  have lp4 : ∀ (N4 : Nat) (i : Nat), (i ≤ 40) → (40 < i + N4) → V X M [(0, .ref (ad b)), (1, .int (nI 0)), (2, .int (nI i))] [] 4 := by
    intro N4
    induction N4 with
    | zero => intro i hi hN4; exact absurd hN4 (by omega)
    | succ N4 ih4 =>
      intro i hi hN4
      refine s_iload_n (k := 2) hX dX2_sumOfX_4 rfl rfl ?_
      refine s_bipush (v := (nI 40)) hX dX2_sumOfX_5 (by decide) ?_
      refine s_icmp_ge (tgt := 38) hX dX2_sumOfX_7 (by decide) (fun c7 => ?_) (fun c7 => ?_)
      · replace c7 := (nI_leI (by omega) (by omega)).mp c7
        refine s_iload_n (k := 1) hX dX2_sumOfX_38 rfl rfl ?_
        exact s_iret hX hR dX2_sumOfX_39 ⟨rfl, rfl⟩
      · replace c7 := mt (nI_leI (by omega) (by omega)).mpr c7
        refine s_iload_n (k := 1) hX dX2_sumOfX_10 rfl rfl ?_
        refine s_aload_n (k := 0) hX dX2_sumOfX_11 rfl rfl ?_
        refine s_get hX fX2_21 (oF hb) rfl dX2_sumOfX_12 ?_
        refine s_iload_n (k := 2) hX dX2_sumOfX_15 rfl rfl ?_
        refine s_zaldN hX (aF4 hb) (by omega) dX2_sumOfX_16 ?_
        refine s_if_eq (tgt := 29) hX dX2_sumOfX_17 (by decide) (fun c17 => ?_) (fun c17 => ?_)
        · refine s_iconst (v := (nI 0)) hX dX2_sumOfX_29 (by decide) ?_
          refine s_iadd hX dX2_sumOfX_30 ?_
          refine s_top (y := nI 0) (nI_z _) ?_
          refine s_top (y := nI 0) (by decide) ?_
          refine s_istore_n (lv' := [(0, .ref (ad b)), (2, .int (nI i)), (1, .int (nI 0))]) hX dX2_sumOfX_31 rfl (by decide) rfl ?_
          refine s_iinc (k := 1) (v := nI (i + 1)) (lv' := [(0, .ref (ad b)), (1, .int (nI 0)), (2, .int (nI (i + 1)))]) hX dX2_sumOfX_32 (nI_1 _) (by decide) rfl rfl ?_
          refine s_goto (tgt := 4) hX dX2_sumOfX_35 (by decide) ?_
          exact ih4 (i + 1) (by omega) (by omega)
        · exact absurd (hT i (by omega)) c17
  exact lp4 41 0 (by omega) (by omega)
set_option maxHeartbeats 4000000 in
theorem c_X2_lay (b : Nat) (hb : isF b) (i x y s u : Int32) (M : Mem) : AM yX2_lay cX2_lay 6 none 0 60 glC (fun ad => [.ref (ad b), .int i, .int x, .int y, .int s, .int u]) M (PV (fun _ => True)) := by
  refine AM.of (by decide) (fun _ => Nat.le_of_ble_eq_true rfl) (fun X ad cI cZ cB hX hR => ?_)
  show V X M [(0, .ref (ad b)), (1, .int i), (2, .int x), (3, .int y), (4, .int s), (5, .int u)] [] 0
  refine s_iload_n (k := 1) hX dX2_lay_0 rfl rfl ?_
  refine s_if_lt (tgt := 10) hX dX2_lay_1 (by decide) (fun c1 => ?_) (fun c1 => ?_)
  · replace c1 := z_lt.mp c1
    exact s_vret hX hR dX2_lay_10 trivial
  · replace c1 := mt z_lt.mpr c1
    refine s_iload_n (k := 1) hX dX2_lay_4 rfl rfl ?_
    refine s_bipush (v := (nI 40)) hX dX2_lay_5 (by decide) ?_
    refine s_icmp_lt (tgt := 11) hX dX2_lay_7 (by decide) (fun c7 => ?_) (fun c7 => ?_)
    · replace c7 := (q_lt (by omega)).mp c7
      obtain ⟨j, hj, rfl⟩ := ixi (x := i) (n := 40) (by omega) (by omega)
      refine s_aload_n (k := 0) hX dX2_lay_11 rfl rfl ?_
      refine s_get hX fX2_9 (oF hb) rfl dX2_lay_12 ?_
      refine s_iload_n (k := 1) hX dX2_lay_15 rfl rfl ?_
      refine s_iload_n (k := 2) hX dX2_lay_16 rfl rfl ?_
      refine s_iastN hX (aF1 hb) (by omega) dX2_lay_17 ?_
      refine s_mem (fun M_1 eM_1 => ?_)
      refine s_aload_n (k := 0) hX dX2_lay_18 rfl rfl ?_
      refine s_get hX fX2_15 (oF hb) rfl dX2_lay_19 ?_
      refine s_iload_n (k := 1) hX dX2_lay_22 rfl rfl ?_
      refine s_iload_n (k := 3) hX dX2_lay_23 rfl rfl ?_
      refine s_iastN hX (aF2 hb) (by omega) dX2_lay_24 ?_
      refine s_mem (fun M_2 eM_2 => ?_)
      refine s_aload_n (k := 0) hX dX2_lay_25 rfl rfl ?_
      refine s_get hX fX2_18 (oF hb) rfl dX2_lay_26 ?_
      refine s_iload_n (k := 1) hX dX2_lay_29 rfl rfl ?_
      refine s_iload (k := 4) hX dX2_lay_30 rfl ?_
      refine s_iastN hX (aF3 hb) (by omega) dX2_lay_32 ?_
      refine s_mem (fun M_3 eM_3 => ?_)
      refine s_aload_n (k := 0) hX dX2_lay_33 rfl rfl ?_
      refine s_get hX fX2_25 (oF hb) rfl dX2_lay_34 ?_
      refine s_iload_n (k := 1) hX dX2_lay_37 rfl rfl ?_
      refine s_iload (k := 5) hX dX2_lay_38 rfl ?_
      refine s_zastN hX (aF5 hb) (by omega) dX2_lay_40 ?_
      refine s_mem (fun M_4 eM_4 => ?_)
      refine s_aload_n (k := 0) hX dX2_lay_41 rfl rfl ?_
      refine s_get hX fX2_21 (oF hb) rfl dX2_lay_42 ?_
      refine s_iload_n (k := 1) hX dX2_lay_45 rfl rfl ?_
      refine s_iconst (v := (nI 1)) hX dX2_lay_46 (by decide) ?_
      refine s_zastN hX (aF4 hb) (by omega) dX2_lay_47 ?_
      refine s_mem (fun M_5 eM_5 => ?_)
      exact s_vret hX hR dX2_lay_48 trivial
    · replace c7 := mt (q_lt (by omega)).mpr c7
      exact s_vret hX hR dX2_lay_10 trivial
set_option maxHeartbeats 4000000 in
theorem c_X7_holds (n lo hi : Int32) (M : Mem) : AM yX7_holds cX7_holds 4 (some .boolean) 0 60 glC (fun ad => [.ref (ad 19), .int n, .int lo, .int hi]) M (PI (fun r M' => r = bI (lo.toInt ≤ n.toInt ∧ n.toInt ≤ hi.toInt ∧ n.toInt ≤ (M 19 1).toInt) ∧ M = M')) := by
  refine AM.of (by decide) (fun _ => Nat.le_of_ble_eq_true rfl) (fun X ad cI cZ cB hX hR => ?_)
  show V X M [(0, .ref (ad 19)), (1, .int n), (2, .int lo), (3, .int hi)] [] 0
  refine s_iload_n (k := 1) hX dX7_holds_0 rfl rfl ?_
  refine s_iload_n (k := 2) hX dX7_holds_1 rfl rfl ?_
  refine s_icmp_lt (tgt := 22) hX dX7_holds_2 (by decide) (fun c2 => ?_) (fun c2 => ?_)
  · replace c2 := Int32.lt_iff_toInt_lt.mp c2
    refine s_iconst (v := (nI 0)) hX dX7_holds_22 (by decide) ?_
    exact s_zret hX hR dX7_holds_23 (by first | decide | assumption) ⟨bI_f (by omega), rfl⟩
  · replace c2 := mt Int32.lt_iff_toInt_lt.mpr c2
    refine s_iload_n (k := 1) hX dX7_holds_5 rfl rfl ?_
    refine s_iload_n (k := 3) hX dX7_holds_6 rfl rfl ?_
    refine s_icmp_gt (tgt := 22) hX dX7_holds_7 (by decide) (fun c7 => ?_) (fun c7 => ?_)
    · replace c7 := Int32.lt_iff_toInt_lt.mp c7
      refine s_iconst (v := (nI 0)) hX dX7_holds_22 (by decide) ?_
      exact s_zret hX hR dX7_holds_23 (by first | decide | assumption) ⟨bI_f (by omega), rfl⟩
    · replace c7 := mt Int32.lt_iff_toInt_lt.mpr c7
      refine s_iload_n (k := 1) hX dX7_holds_10 rfl rfl ?_
      refine s_aload_n (k := 0) hX dX7_holds_11 rfl rfl ?_
      refine s_get hX fX7_15 oC19 rfl dX7_holds_12 ?_
      refine s_icmp_gt (tgt := 22) hX dX7_holds_15 (by decide) (fun c15 => ?_) (fun c15 => ?_)
      · replace c15 := Int32.lt_iff_toInt_lt.mp c15
        refine s_iconst (v := (nI 0)) hX dX7_holds_22 (by decide) ?_
        exact s_zret hX hR dX7_holds_23 (by first | decide | assumption) ⟨bI_f (by omega), rfl⟩
      · replace c15 := mt Int32.lt_iff_toInt_lt.mpr c15
        refine s_iconst (v := (nI 1)) hX dX7_holds_18 (by decide) ?_
        refine s_goto (tgt := 23) hX dX7_holds_19 (by decide) ?_
        exact s_zret hX hR dX7_holds_23 (by first | decide | assumption) ⟨bI_t (by omega), rfl⟩
set_option maxHeartbeats 4000000 in
theorem c_X7_open (n : Int32) (M : Mem) : AM yX7_open cX7_open 2 none 0 60 glC (fun ad => [.ref (ad 19), .int n]) M (PV (fun _ => True)) := by
  refine AM.of (by decide) (fun _ => Nat.le_of_ble_eq_true rfl) (fun X ad cI cZ cB hX hR => ?_)
  show V X M [(0, .ref (ad 19)), (1, .int n)] [] 0
  refine s_aload_n (k := 0) hX dX7_open_0 rfl rfl ?_
  refine s_iload_n (k := 1) hX dX7_open_1 rfl rfl ?_
  refine s_puti (ty := .int) hX fX7_19 oC19 rfl (Nat.le_of_ble_eq_true rfl) ty_7_2 rfl rfl dX7_open_2 ?_
  refine s_mem (fun M_1 eM_1 => ?_)
  refine s_aload_n (k := 0) hX dX7_open_5 rfl rfl ?_
  refine s_iconst (v := (nI 0)) hX dX7_open_6 (by decide) ?_
  refine s_puti (ty := .int) hX fX7_22 oC19 rfl (Nat.le_of_ble_eq_true rfl) ty_7_3 rfl rfl dX7_open_7 ?_
  refine s_mem (fun M_2 eM_2 => ?_)
  refine s_aload_n (k := 0) hX dX7_open_10 rfl rfl ?_
  refine s_iconst (v := (nI 0)) hX dX7_open_11 (by decide) ?_
  refine s_puti (ty := .int) hX fX7_25 oC19 rfl (Nat.le_of_ble_eq_true rfl) ty_7_4 rfl rfl dX7_open_12 ?_
  refine s_mem (fun M_3 eM_3 => ?_)
  refine s_aload_n (k := 0) hX dX7_open_15 rfl rfl ?_
  refine s_iconst (v := (nI 0)) hX dX7_open_16 (by decide) ?_
  refine s_puti (ty := .int) hX fX7_15 oC19 rfl (Nat.le_of_ble_eq_true rfl) ty_7_1 rfl rfl dX7_open_17 ?_
  refine s_mem (fun M_4 eM_4 => ?_)
  exact s_vret hX hR dX7_open_20 trivial
set_option maxHeartbeats 4000000 in
theorem c_X7_append (w : Int32) (M : Mem) (z : Nat) (hz : M 19 1 = nI z) (hz2 : z + 4 ≤ 260) : AM yX7_append cX7_append 3 none 0 60 glC (fun ad => [.ref (ad 19), .int w]) M (PV (fun M' => M' 19 1 = nI (z + 4))) := by
  refine AM.of (by decide) (fun _ => Nat.le_of_ble_eq_true rfl) (fun X ad cI cZ cB hX hR => ?_)
  show V X M [(0, .ref (ad 19)), (1, .int w)] [] 0
  refine s_bipush (v := (nI 24)) hX dX7_append_0 (by decide) ?_
  refine s_istore_n (lv' := [(0, .ref (ad 19)), (1, .int w), (2, .int (nI 24))]) hX dX7_append_2 rfl (by decide) rfl ?_
  have lp3 : ∀ (N3 : Nat) (i : Nat) (Mi : Mem) (x2 : Int32), (i ≤ 4) → (4 < i + N3) → (Mi 19 1 = nI (z + i)) → (x2 = nI (32 - 8 * i) - 8) → V X Mi [(0, .ref (ad 19)), (1, .int w), (2, .int x2)] [] 3 := by
    intro N3
    induction N3 with
    | zero => intro i Mi x2 hi hN3 hm hx; exact absurd hN3 (by omega)
    | succ N3 ih3 =>
      intro i Mi x2 hi hN3 hm hx
      refine s_iload_n (k := 2) hX dX7_append_3 rfl rfl ?_
      refine s_if_lt (tgt := 56) hX dX7_append_4 (by decide) (fun c4 => ?_) (fun c4 => ?_)
      · replace c4 := z_lt.mp c4
        exact s_vret hX hR dX7_append_56 (by rw [hm, show i = 4 from ap3 hx c4 hi])
      · replace c4 := mt z_lt.mpr c4
        have hi4 : i < 4 := ap4 hx c4 hi
        refine s_aload_n (k := 0) hX dX7_append_7 rfl rfl ?_
        refine s_get hX fX7_15 oC19 rfl dX7_append_8 ?_
        refine s_top (y := nI (z + i)) (hm) ?_
        refine s_if_lt (tgt := 50) hX dX7_append_11 (by decide) (fun c11 => ?_) (fun c11 => ?_)
        · exact absurd c11 (nI_pos (by omega))
        · refine s_aload_n (k := 0) hX dX7_append_14 rfl rfl ?_
          refine s_get hX fX7_15 oC19 rfl dX7_append_15 ?_
          refine s_top (y := nI (z + i)) (hm) ?_
          refine s_sipush (v := (nI 260)) hX dX7_append_18 (by decide) ?_
          refine s_icmp_ge (tgt := 50) hX dX7_append_21 (by decide) (fun c21 => ?_) (fun c21 => ?_)
          · replace c21 := (nI_leI (by omega) (by omega)).mp c21
            omega
          · replace c21 := mt (nI_leI (by omega) (by omega)).mpr c21
            refine s_aload_n (k := 0) hX dX7_append_24 rfl rfl ?_
            refine s_get hX fX7_9 oC19 rfl dX7_append_25 ?_
            refine s_aload_n (k := 0) hX dX7_append_28 rfl rfl ?_
            refine s_get hX fX7_15 oC19 rfl dX7_append_29 ?_
            refine s_top (y := nI (z + i)) (hm) ?_
            refine s_iload_n (k := 1) hX dX7_append_32 rfl rfl ?_
            refine s_iload_n (k := 2) hX dX7_append_33 rfl rfl ?_
            refine s_ishr hX dX7_append_34 ?_
            refine s_sipush (v := (nI 255)) hX dX7_append_35 (by decide) ?_
            refine s_iand hX dX7_append_38 ?_
            refine s_iastN hX aC20 (by omega) dX7_append_39 ?_
            refine s_mem (fun M_2 eM_2 => ?_)
            refine s_aload_n (k := 0) hX dX7_append_40 rfl rfl ?_
            refine s_dup hX dX7_append_41 rfl ?_
            refine s_get hX fX7_15 oC19 rfl dX7_append_42 ?_
            refine s_top (y := nI (z + i)) (by rw [eM_2]; exact ap5 hm) ?_
            refine s_iconst (v := (nI 1)) hX dX7_append_45 (by decide) ?_
            refine s_iadd hX dX7_append_46 ?_
            refine s_top (y := nI ((z + i) + 1)) (nI_add _ _) ?_
            refine s_puti (ty := .int) hX fX7_15 oC19 rfl (Nat.le_of_ble_eq_true rfl) ty_7_1 rfl rfl dX7_append_47 ?_
            refine s_mem (fun M_3 eM_3 => ?_)
            obtain ⟨x3, ex3⟩ : ∃ q : Int32, q = x2 + Int32.ofInt (-8) := ⟨_, rfl⟩
            refine s_iinc (k := 2) (v := x3) (lv' := [(0, .ref (ad 19)), (1, .int w), (2, .int x3)]) hX dX7_append_50 ex3.symm (by decide) rfl rfl ?_
            refine s_goto (tgt := 3) hX dX7_append_53 (by decide) ?_
            exact ih3 (i + 1) _ _ (by omega) (by omega) (by rw [eM_3]; exact ap1) (by rw [ex3, hx]; exact ap2 i (by omega))
  exact lp3 5 0 M _ (by omega) (by omega) hz (by decide)
set_option maxHeartbeats 4000000 in
theorem c_X2_copyStones (b : Nat) (hb : isF b) (b2 : Nat) (hb2 : isF b2) (M : Mem) (hne : b ≠ b2) : AM yX2_copyStones cX2_copyStones 3 none 0 60 glC (fun ad => [.ref (ad b), .ref (ad b2)]) M (PV (fun M' => (∀ a c, (a < b + 1 ∨ b + 5 < a) → M' a c = M a c) ∧ ∀ j, j < 40 → M' (b + 4) j = vp_nar .boolean (M (b2 + 4) j))) := by
  refine AM.of (by decide) (fun _ => Nat.le_of_ble_eq_true rfl) (fun X ad cI cZ cB hX hR => ?_)
  show V X M [(0, .ref (ad b)), (1, .ref (ad b2))] [] 0
  refine s_iconst (v := (nI 0)) hX dX2_copyStones_0 (by decide) ?_
  refine s_istore_n (lv' := [(0, .ref (ad b)), (1, .ref (ad b2)), (2, .int (nI 0))]) hX dX2_copyStones_1 rfl (by decide) rfl ?_
  have lp2 : ∀ (N2 : Nat) (i : Nat) (Mi : Mem), (i ≤ 40) → (40 < i + N2) → (∀ a c, (a < b + 1 ∨ b + 5 < a) → Mi a c = M a c) → (∀ j, j < i → Mi (b + 4) j = vp_nar .boolean (M (b2 + 4) j)) → V X Mi [(0, .ref (ad b)), (1, .ref (ad b2)), (2, .int (nI i))] [] 2 := by
    intro N2
    induction N2 with
    | zero => intro i Mi hi hN2 hf ht; exact absurd hN2 (by omega)
    | succ N2 ih2 =>
      intro i Mi hi hN2 hf ht
      refine s_iload_n (k := 2) hX dX2_copyStones_2 rfl rfl ?_
      refine s_bipush (v := (nI 40)) hX dX2_copyStones_3 (by decide) ?_
      refine s_icmp_ge (tgt := 74) hX dX2_copyStones_5 (by decide) (fun c5 => ?_) (fun c5 => ?_)
      · replace c5 := (nI_leI (by omega) (by omega)).mp c5
        exact s_vret hX hR dX2_copyStones_74 ⟨hf, fun j hj => ht j (by omega)⟩
      · replace c5 := mt (nI_leI (by omega) (by omega)).mpr c5
        refine s_aload_n (k := 0) hX dX2_copyStones_8 rfl rfl ?_
        refine s_get hX fX2_9 (oF hb) rfl dX2_copyStones_9 ?_
        refine s_iload_n (k := 2) hX dX2_copyStones_12 rfl rfl ?_
        refine s_aload_n (k := 1) hX dX2_copyStones_13 rfl rfl ?_
        refine s_get hX fX2_9 (oF hb2) rfl dX2_copyStones_14 ?_
        refine s_iload_n (k := 2) hX dX2_copyStones_17 rfl rfl ?_
        refine s_ialdN hX (aF1 hb2) (by omega) dX2_copyStones_18 ?_
        refine s_iastN hX (aF1 hb) (by omega) dX2_copyStones_19 ?_
        refine s_mem (fun M_2 eM_2 => ?_)
        refine s_aload_n (k := 0) hX dX2_copyStones_20 rfl rfl ?_
        refine s_get hX fX2_15 (oF hb) rfl dX2_copyStones_21 ?_
        refine s_iload_n (k := 2) hX dX2_copyStones_24 rfl rfl ?_
        refine s_aload_n (k := 1) hX dX2_copyStones_25 rfl rfl ?_
        refine s_get hX fX2_15 (oF hb2) rfl dX2_copyStones_26 ?_
        refine s_iload_n (k := 2) hX dX2_copyStones_29 rfl rfl ?_
        refine s_ialdN hX (aF2 hb2) (by omega) dX2_copyStones_30 ?_
        refine s_iastN hX (aF2 hb) (by omega) dX2_copyStones_31 ?_
        refine s_mem (fun M_3 eM_3 => ?_)
        refine s_aload_n (k := 0) hX dX2_copyStones_32 rfl rfl ?_
        refine s_get hX fX2_18 (oF hb) rfl dX2_copyStones_33 ?_
        refine s_iload_n (k := 2) hX dX2_copyStones_36 rfl rfl ?_
        refine s_aload_n (k := 1) hX dX2_copyStones_37 rfl rfl ?_
        refine s_get hX fX2_18 (oF hb2) rfl dX2_copyStones_38 ?_
        refine s_iload_n (k := 2) hX dX2_copyStones_41 rfl rfl ?_
        refine s_ialdN hX (aF3 hb2) (by omega) dX2_copyStones_42 ?_
        refine s_iastN hX (aF3 hb) (by omega) dX2_copyStones_43 ?_
        refine s_mem (fun M_4 eM_4 => ?_)
        refine s_aload_n (k := 0) hX dX2_copyStones_44 rfl rfl ?_
        refine s_get hX fX2_21 (oF hb) rfl dX2_copyStones_45 ?_
        refine s_iload_n (k := 2) hX dX2_copyStones_48 rfl rfl ?_
        refine s_aload_n (k := 1) hX dX2_copyStones_49 rfl rfl ?_
        refine s_get hX fX2_21 (oF hb2) rfl dX2_copyStones_50 ?_
        refine s_iload_n (k := 2) hX dX2_copyStones_53 rfl rfl ?_
        refine s_zaldN hX (aF4 hb2) (by omega) dX2_copyStones_54 ?_
        refine s_zastN hX (aF4 hb) (by omega) dX2_copyStones_55 ?_
        refine s_mem (fun M_5 eM_5 => ?_)
        refine s_aload_n (k := 0) hX dX2_copyStones_56 rfl rfl ?_
        refine s_get hX fX2_25 (oF hb) rfl dX2_copyStones_57 ?_
        refine s_iload_n (k := 2) hX dX2_copyStones_60 rfl rfl ?_
        refine s_aload_n (k := 1) hX dX2_copyStones_61 rfl rfl ?_
        refine s_get hX fX2_25 (oF hb2) rfl dX2_copyStones_62 ?_
        refine s_iload_n (k := 2) hX dX2_copyStones_65 rfl rfl ?_
        refine s_zaldN hX (aF5 hb2) (by omega) dX2_copyStones_66 ?_
        refine s_zastN hX (aF5 hb) (by omega) dX2_copyStones_67 ?_
        refine s_mem (fun M_6 eM_6 => ?_)
        refine s_iinc (k := 2) (v := nI (i + 1)) (lv' := [(0, .ref (ad b)), (1, .ref (ad b2)), (2, .int (nI (i + 1)))]) hX dX2_copyStones_68 (nI_1 _) (by decide) rfl rfl ?_
        refine s_goto (tgt := 2) hX dX2_copyStones_71 (by decide) ?_
        exact ih2 (i + 1) _ (by omega) (by omega) (by subst_vars; exact cp1 hf) (by subst_vars; exact cp2 hb hb2 hne hf ht)
  exact lp2 41 0 M (by omega) (by omega) (fun _ _ _ => rfl) (fun j hj => absurd hj (by omega))
set_option maxHeartbeats 4000000 in
theorem c_X2_copyAll (b : Nat) (hb : isF b) (b2 : Nat) (hb2 : isF b2) (M : Mem) (hne : b ≠ b2) : AM yX2_copyAll cX2_copyAll 2 none 1 60 glC (fun ad => [.ref (ad b), .ref (ad b2)]) M (PV (fun M' => (∀ a c, (a < b ∨ b + 5 < a) → M' a c = M a c) ∧ ∀ j, j < 40 → M' (b + 4) j = vp_nar .boolean (M (b2 + 4) j))) := by
  refine AM.of (by decide) (fun _ => Nat.le_of_ble_eq_true rfl) (fun X ad cI cZ cB hX hR => ?_)
  show V X M [(0, .ref (ad b)), (1, .ref (ad b2))] [] 0
  refine s_aload_n (k := 0) hX dX2_copyAll_0 rfl rfl ?_
  refine s_aload_n (k := 1) hX dX2_copyAll_1 rfl rfl ?_
  refine s_callVv hX (c_X2_copyStones b hb b2 hb2 M hne) mX2_copyStones lX2_35 (by decide) (by decide) (oF hb) rfl rfl rfl rfl rfl (Nat.le_of_ble_eq_true rfl) dX2_copyAll_2 (fun M_1 hp2 => ?_)
  obtain ⟨hf, ht⟩ := hp2
  refine s_aload_n (k := 0) hX dX2_copyAll_5 rfl rfl ?_
  refine s_aload_n (k := 1) hX dX2_copyAll_6 rfl rfl ?_
  refine s_get hX fX2_28 (oF hb2) rfl dX2_copyAll_7 ?_
  refine s_puti (ty := .int) hX fX2_28 (oF hb) rfl (Nat.le_of_ble_eq_true rfl) ty_2_5 rfl rfl dX2_copyAll_10 ?_
  refine s_mem (fun M_2 eM_2 => ?_)
  refine s_aload_n (k := 0) hX dX2_copyAll_13 rfl rfl ?_
  refine s_aload_n (k := 1) hX dX2_copyAll_14 rfl rfl ?_
  refine s_get hX fX2_32 (oF hb2) rfl dX2_copyAll_15 ?_
  refine s_puti (ty := .int) hX fX2_32 (oF hb) rfl (Nat.le_of_ble_eq_true rfl) ty_2_6 rfl rfl dX2_copyAll_18 ?_
  refine s_mem (fun M_3 eM_3 => ?_)
  exact s_vret hX hR dX2_copyAll_21 (by subst_vars; exact ⟨cp3 hf, cp4 ht⟩)
