/-! rows for the class, rivers and ways -/
theorem fl1 {M Mi : Mem} {k i : Nat} {v : Int32} (hf : ∀ a c, a ≠ k → Mi a c = M a c) : ∀ a c, a ≠ k → mset Mi k i v a c = M a c := by
  intro a c h
  rw [mset_get, if_neg (by omega)]
  exact hf a c h
theorem fl2 {Mi : Mem} {k i : Nat} {v : Int32} (hv : ∀ j, j < i → Mi k j = v) : ∀ j, j < i + 1 → mset Mi k i v k j = v := by
  intro j h
  rw [mset_get]
  by_cases hj : j = i
  · rw [if_pos ⟨rfl, hj⟩]
  · rw [if_neg (by omega)]
    exact hv j (by omega)
theorem ps1 {M : Mem} {b : Nat} {u v : Int32} : ∀ a c, a ≠ 21 → a ≠ b → mset (mset M 21 1 u) 21 2 v a c = M a c := by
  intro a c h h2
  simp only [mset_get]
  rw [if_neg (by omega), if_neg (by omega)]
theorem ps2 {M : Mem} {v : Int32} : mset (mset M 21 1 (nI 0)) 21 2 v 21 1 = nI 0 := by simp [mset_get]
theorem ps3 {M : Mem} : mset M 21 2 (nI 0) 21 2 = nI 0 := by simp [mset_get]
theorem ps4 {M Mi : Mem} {b : Nat} {v : Int32} (hf : ∀ a c, a ≠ 21 → a ≠ b → Mi a c = M a c) : ∀ a c, a ≠ 21 → a ≠ b → mset Mi b 5 v a c = M a c := by
  intro a c h h2
  rw [mset_get, if_neg (by omega)]
  exact hf a c h h2
theorem ps5 {Mi : Mem} {b j : Nat} {v w : Int32} (hb : isF b) (h : Mi 21 j = w) : mset Mi b 5 v 21 j = w := by
  have hb0 : b = 1 ∨ b = 7 ∨ b = 13 := hb
  rw [mset_get, if_neg (by omega)]
  exact h
theorem m1_le {n : Nat} (h : n < 2 ^ 31) : (-1 : Int32) ≤ nI n := by
  rw [Int32.le_iff_toInt_le, nI_toInt h]
  have : ((-1 : Int32)).toInt = -1 := by decide
  omega
def spJ (M : Mem) (s : Int32) (h i t : Nat) (Mi : Mem) : Prop := (∀ a c, a ≠ 24 → a ≠ 26 → Mi a c = M a c) ∧ Mi 26 0 = nI 40 ∧ (t = 2 → Mi 26 1 = nI 41) ∧ Mi 24 40 = nI 0 ∧ (Mi 24 41 = -1 ↔ t = 1) ∧ (t = 2 → 21 ≤ s.toInt) ∧ ((1 ≤ h ∨ 41 < i) → 21 ≤ s.toInt → t = 2)
theorem sp0 {M : Mem} {s : Int32} (hv : ∀ j, j < 42 → M 24 j = -1) : spJ M s 0 0 1 (mset (mset M 24 40 (nI 0)) 26 0 (nI 40)) := by
  refine ⟨fun a c h1 h2 => ?_, by simp [mset_get], fun h => absurd h (by decide), by simp [mset_get], ?_, fun h => absurd h (by decide), fun h => absurd h (by omega)⟩
  · simp only [mset_get]
    rw [if_neg (by omega), if_neg (by omega)]
  · simp [mset_get, hv 41 (by decide)]
theorem sp2 {M : Mem} {s : Int32} {h t : Nat} {Mi : Mem} (hI : spJ M s h 0 t Mi) (hh : h < 2) (hht : h < t) (ht : t ≤ 2 := by omega) : Mi 26 h = nI (40 + h) := by
  obtain ⟨-, h1, h2, -⟩ := hI
  rcases (show h = 0 ∨ h = 1 by omega) with rfl | rfl
  · exact h1
  · exact h2 (by omega)
theorem sp3a {M : Mem} {s : Int32} {h i t : Nat} {Mi : Mem} (hJ : spJ M s h i t Mi) (hc : ¬ Mi 24 i = -1) (hi : i < 42) (ht1 : h + 1 ≤ t) (ht2 : t ≤ 2) : spJ M s h (i + 1) t Mi := by
  obtain ⟨a1, a2, a3, a4, a5, a6, a7⟩ := hJ
  refine ⟨a1, a2, a3, a4, a5, a6, fun h1 h2 => ?_⟩
  rcases (show i = 41 ∨ (1 ≤ h ∨ 41 < i) by omega) with rfl | q
  · have : ¬ t = 1 := fun z => hc (a5.mpr z)
    omega
  · exact a7 q h2
theorem sp3c {M : Mem} {s : Int32} {h i t : Nat} {Mi : Mem} (hJ : spJ M s h i t Mi) (hc : ¬ (40 + h ≠ i ∧ 40 ≤ i ∧ 21 ≤ s.toInt)) : spJ M s h (i + 1) t Mi := by
  obtain ⟨a1, a2, a3, a4, a5, a6, a7⟩ := hJ
  refine ⟨a1, a2, a3, a4, a5, a6, fun h1 h2 => ?_⟩
  rcases (show (1 ≤ h ∨ 41 < i) ∨ (h = 0 ∧ i = 41) by omega) with q | q
  · exact a7 q h2
  · exact absurd ⟨by omega, by omega, h2⟩ hc
theorem sp3d {M : Mem} {s x : Int32} {h i t : Nat} {Mi : Mem} (hJ : spJ M s h i t Mi) (hc : Mi 24 i = -1) (hd : 40 + h ≠ i ∧ 40 ≤ i ∧ 21 ≤ s.toInt) (hi : i < 42) (hh : h < 2) (hx : h = 0 → ¬ x = -1) (ht1 : h + 1 ≤ t) : spJ M s h (i + 1) (t + 1) (mset (mset Mi 24 i x) 26 t (nI i)) := by
  obtain ⟨a1, a2, a3, a4, a5, a6, a7⟩ := hJ
  have hi1 : i = 41 := by
    rcases (show i = 40 ∨ i = 41 by omega) with rfl | q
    · rw [a4] at hc
      exact absurd hc (by decide)
    · exact q
  subst hi1
  have ht : t = 1 := a5.mp hc
  subst ht
  have h0 : h = 0 := by omega
  refine ⟨fun a c h1 h2 => ?_, ?_, fun _ => by simp [mset_get], ?_, ?_, fun _ => hd.2.2, fun _ _ => rfl⟩
  · simp only [mset_get]
    rw [if_neg (by omega), if_neg (by omega)]
    exact a1 a c h1 h2
  · simp only [mset_get]
    rw [if_neg (by omega), if_neg (by omega)]
    exact a2
  · simp only [mset_get]
    rw [if_neg (by omega), if_neg (by omega)]
    exact a4
  · simp only [mset_get]
    rw [if_neg (by omega), if_pos (by simp)]
    exact ⟨fun z => absurd z (hx h0), fun z => absurd z (by decide)⟩
theorem sp7 {M : Mem} {s : Int32} {h i t : Nat} {Mi : Mem} (hJ : spJ M s h i t Mi) (hc : Mi 24 i = -1) (hd : 40 + h ≠ i ∧ 40 ≤ i ∧ 21 ≤ s.toInt) (hi : i < 42) : t = 1 := by
  obtain ⟨a1, a2, a3, a4, a5, a6, a7⟩ := hJ
  rcases (show i = 40 ∨ i = 41 by omega) with rfl | rfl
  · rw [a4] at hc
    exact absurd hc (by decide)
  · exact a5.mp hc
theorem sp4 {M : Mem} {s : Int32} {h i t : Nat} {Mi : Mem} (hJ : spJ M s h i t Mi) (hi : 41 < i) : spJ M s (h + 1) 0 t Mi := by
  obtain ⟨a1, a2, a3, a4, a5, a6, a7⟩ := hJ
  exact ⟨a1, a2, a3, a4, a5, a6, fun _ h2 => a7 (Or.inr hi) h2⟩
theorem sp5 {M : Mem} {s x : Int32} {h t : Nat} {Mi : Mem} (hI : spJ M s h 0 t Mi) (h0 : h = 0) (ex : x = Mi 24 (40 + h) + nI 1) : ¬ x = -1 := by
  subst h0
  obtain ⟨-, -, -, a4, -⟩ := hI
  rw [ex, a4]
  decide
theorem sp6 {M : Mem} {s : Int32} {h t : Nat} {Mi : Mem} (hI : spJ M s h 0 t Mi) (hh : 1 ≤ h) (h1 : 1 ≤ t) (h2 : t ≤ 2) : Mi 24 41 = -1 ↔ s.toInt < 21 := by
  obtain ⟨-, -, -, -, a5, a6, a7⟩ := hI
  rw [a5]
  constructor
  · intro z
    rcases Int.lt_or_le s.toInt 21 with q | q
    · exact q
    · have := a7 (Or.inl hh) q
      omega
  · intro z
    rcases (show t = 1 ∨ t = 2 by omega) with q | q
    · exact q
    · have := a6 q
      omega
theorem dJ7_fill_53178_0 : decode cJ7_fill_53178 0 = .ok (.iconst 0, 1) := by decide +kernel
theorem dJ7_fill_53178_1 : decode cJ7_fill_53178 1 = .ok (.istore_n 2, 1) := by decide +kernel
theorem dJ7_fill_53178_2 : decode cJ7_fill_53178 2 = .ok (.aload_n 0, 1) := by decide +kernel
theorem dJ7_fill_53178_3 : decode cJ7_fill_53178 3 = .ok (.arraylength, 1) := by decide +kernel
theorem dJ7_fill_53178_4 : decode cJ7_fill_53178 4 = .ok (.istore_n 3, 1) := by decide +kernel
theorem dJ7_fill_53178_5 : decode cJ7_fill_53178 5 = .ok (.iload_n 2, 1) := by decide +kernel
theorem dJ7_fill_53178_6 : decode cJ7_fill_53178 6 = .ok (.iload_n 3, 1) := by decide +kernel
theorem dJ7_fill_53178_7 : decode cJ7_fill_53178 7 = .ok (.if_icmp .ge 13, 3) := by decide +kernel
theorem dJ7_fill_53178_10 : decode cJ7_fill_53178 10 = .ok (.aload_n 0, 1) := by decide +kernel
theorem dJ7_fill_53178_11 : decode cJ7_fill_53178 11 = .ok (.iload_n 2, 1) := by decide +kernel
theorem dJ7_fill_53178_12 : decode cJ7_fill_53178 12 = .ok (.iload_n 1, 1) := by decide +kernel
theorem dJ7_fill_53178_13 : decode cJ7_fill_53178 13 = .ok (.iastore, 1) := by decide +kernel
theorem dJ7_fill_53178_14 : decode cJ7_fill_53178 14 = .ok (.iinc 2 1, 3) := by decide +kernel
theorem dJ7_fill_53178_17 : decode cJ7_fill_53178 17 = .ok (.goto (-12), 3) := by decide +kernel
theorem dJ7_fill_53178_20 : decode cJ7_fill_53178 20 = .ok (.return_, 1) := by decide +kernel
theorem dX5_pass_0 : decode cX5_pass 0 = .ok (.aload_n 0, 1) := by decide +kernel
theorem dX5_pass_1 : decode cX5_pass 1 = .ok (.iconst 0, 1) := by decide +kernel
theorem dX5_pass_2 : decode cX5_pass 2 = .ok (.putfield 15, 3) := by decide +kernel
theorem dX5_pass_5 : decode cX5_pass 5 = .ok (.aload_n 0, 1) := by decide +kernel
theorem dX5_pass_6 : decode cX5_pass 6 = .ok (.iconst 0, 1) := by decide +kernel
theorem dX5_pass_7 : decode cX5_pass 7 = .ok (.putfield 19, 3) := by decide +kernel
theorem dX5_pass_10 : decode cX5_pass 10 = .ok (.iconst 0, 1) := by decide +kernel
theorem dX5_pass_11 : decode cX5_pass 11 = .ok (.istore 4, 2) := by decide +kernel
theorem dX5_pass_13 : decode cX5_pass 13 = .ok (.iload 4, 2) := by decide +kernel
theorem dX5_pass_15 : decode cX5_pass 15 = .ok (.iload_n 3, 1) := by decide +kernel
theorem dX5_pass_16 : decode cX5_pass 16 = .ok (.if_icmp .ge 63, 3) := by decide +kernel
theorem dX5_pass_19 : decode cX5_pass 19 = .ok (.aload_n 1, 1) := by decide +kernel
theorem dX5_pass_20 : decode cX5_pass 20 = .ok (.getfield 22, 3) := by decide +kernel
theorem dX5_pass_23 : decode cX5_pass 23 = .ok (.sipush 9999, 3) := by decide +kernel
theorem dX5_pass_26 : decode cX5_pass 26 = .ok (.if_icmp .ge 53, 3) := by decide +kernel
theorem dX5_pass_29 : decode cX5_pass 29 = .ok (.iconst 0, 1) := by decide +kernel
theorem dX5_pass_30 : decode cX5_pass 30 = .ok (.istore 5, 2) := by decide +kernel
theorem dX5_pass_32 : decode cX5_pass 32 = .ok (.iload 5, 2) := by decide +kernel
theorem dX5_pass_34 : decode cX5_pass 34 = .ok (.bipush 40, 2) := by decide +kernel
theorem dX5_pass_36 : decode cX5_pass 36 = .ok (.if_icmp .ge 27, 3) := by decide +kernel
theorem dX5_pass_39 : decode cX5_pass 39 = .ok (.aload_n 1, 1) := by decide +kernel
theorem dX5_pass_40 : decode cX5_pass 40 = .ok (.getfield 27, 3) := by decide +kernel
theorem dX5_pass_43 : decode cX5_pass 43 = .ok (.iload 5, 2) := by decide +kernel
theorem dX5_pass_45 : decode cX5_pass 45 = .ok (.baload, 1) := by decide +kernel
theorem dX5_pass_46 : decode cX5_pass 46 = .ok (.ifCond .eq 11, 3) := by decide +kernel
theorem dX5_pass_49 : decode cX5_pass 49 = .ok (.aload_n 0, 1) := by decide +kernel
theorem dX5_pass_50 : decode cX5_pass 50 = .ok (.aload_n 1, 1) := by decide +kernel
theorem dX5_pass_51 : decode cX5_pass 51 = .ok (.aload_n 2, 1) := by decide +kernel
theorem dX5_pass_52 : decode cX5_pass 52 = .ok (.iload 5, 2) := by decide +kernel
theorem dX5_pass_54 : decode cX5_pass 54 = .ok (.invokevirtual 31, 3) := by decide +kernel
theorem dX5_pass_57 : decode cX5_pass 57 = .ok (.iinc 5 1, 3) := by decide +kernel
theorem dX5_pass_60 : decode cX5_pass 60 = .ok (.goto (-28), 3) := by decide +kernel
theorem dX5_pass_63 : decode cX5_pass 63 = .ok (.aload_n 1, 1) := by decide +kernel
theorem dX5_pass_64 : decode cX5_pass 64 = .ok (.dup, 1) := by decide +kernel
theorem dX5_pass_65 : decode cX5_pass 65 = .ok (.getfield 22, 3) := by decide +kernel
theorem dX5_pass_68 : decode cX5_pass 68 = .ok (.iconst 1, 1) := by decide +kernel
theorem dX5_pass_69 : decode cX5_pass 69 = .ok (.iadd, 1) := by decide +kernel
theorem dX5_pass_70 : decode cX5_pass 70 = .ok (.putfield 22, 3) := by decide +kernel
theorem dX5_pass_73 : decode cX5_pass 73 = .ok (.iinc 4 1, 3) := by decide +kernel
theorem dX5_pass_76 : decode cX5_pass 76 = .ok (.goto (-63), 3) := by decide +kernel
theorem dX5_pass_79 : decode cX5_pass 79 = .ok (.return_, 1) := by decide +kernel
theorem dX2_canStand_0 : decode cX2_canStand 0 = .ok (.iload_n 1, 1) := by decide +kernel
theorem dX2_canStand_1 : decode cX2_canStand 1 = .ok (.bipush 40, 2) := by decide +kernel
theorem dX2_canStand_3 : decode cX2_canStand 3 = .ok (.if_icmp .eq 17, 3) := by decide +kernel
theorem dX2_canStand_6 : decode cX2_canStand 6 = .ok (.iload_n 1, 1) := by decide +kernel
theorem dX2_canStand_7 : decode cX2_canStand 7 = .ok (.bipush 41, 2) := by decide +kernel
theorem dX2_canStand_9 : decode cX2_canStand 9 = .ok (.if_icmp .eq 11, 3) := by decide +kernel
theorem dX2_canStand_12 : decode cX2_canStand 12 = .ok (.aload_n 0, 1) := by decide +kernel
theorem dX2_canStand_13 : decode cX2_canStand 13 = .ok (.iload_n 1, 1) := by decide +kernel
theorem dX2_canStand_14 : decode cX2_canStand 14 = .ok (.invokevirtual 45, 3) := by decide +kernel
theorem dX2_canStand_17 : decode cX2_canStand 17 = .ok (.ifCond .eq 7, 3) := by decide +kernel
theorem dX2_canStand_20 : decode cX2_canStand 20 = .ok (.iconst 1, 1) := by decide +kernel
theorem dX2_canStand_21 : decode cX2_canStand 21 = .ok (.goto 4, 3) := by decide +kernel
theorem dX2_canStand_24 : decode cX2_canStand 24 = .ok (.iconst 0, 1) := by decide +kernel
theorem dX2_canStand_25 : decode cX2_canStand 25 = .ok (.ireturn, 1) := by decide +kernel
theorem dX2_heightOf_0 : decode cX2_heightOf 0 = .ok (.iload_n 1, 1) := by decide +kernel
theorem dX2_heightOf_1 : decode cX2_heightOf 1 = .ok (.bipush 41, 2) := by decide +kernel
theorem dX2_heightOf_3 : decode cX2_heightOf 3 = .ok (.if_icmp .ne 6, 3) := by decide +kernel
theorem dX2_heightOf_6 : decode cX2_heightOf 6 = .ok (.bipush 21, 2) := by decide +kernel
theorem dX2_heightOf_8 : decode cX2_heightOf 8 = .ok (.ireturn, 1) := by decide +kernel
theorem dX2_heightOf_9 : decode cX2_heightOf 9 = .ok (.iload_n 1, 1) := by decide +kernel
theorem dX2_heightOf_10 : decode cX2_heightOf 10 = .ok (.ifCond .lt 18, 3) := by decide +kernel
theorem dX2_heightOf_13 : decode cX2_heightOf 13 = .ok (.iload_n 1, 1) := by decide +kernel
theorem dX2_heightOf_14 : decode cX2_heightOf 14 = .ok (.bipush 40, 2) := by decide +kernel
theorem dX2_heightOf_16 : decode cX2_heightOf 16 = .ok (.if_icmp .ge 12, 3) := by decide +kernel
theorem dX2_heightOf_19 : decode cX2_heightOf 19 = .ok (.aload_n 0, 1) := by decide +kernel
theorem dX2_heightOf_20 : decode cX2_heightOf 20 = .ok (.getfield 15, 3) := by decide +kernel
theorem dX2_heightOf_23 : decode cX2_heightOf 23 = .ok (.iload_n 1, 1) := by decide +kernel
theorem dX2_heightOf_24 : decode cX2_heightOf 24 = .ok (.iaload, 1) := by decide +kernel
theorem dX2_heightOf_25 : decode cX2_heightOf 25 = .ok (.goto 4, 3) := by decide +kernel
theorem dX2_heightOf_28 : decode cX2_heightOf 28 = .ok (.iconst 0, 1) := by decide +kernel
theorem dX2_heightOf_29 : decode cX2_heightOf 29 = .ok (.ireturn, 1) := by decide +kernel
theorem dX2_isStep_0 : decode cX2_isStep 0 = .ok (.iload_n 1, 1) := by decide +kernel
theorem dX2_isStep_1 : decode cX2_isStep 1 = .ok (.iload_n 2, 1) := by decide +kernel
theorem dX2_isStep_2 : decode cX2_isStep 2 = .ok (.if_icmp .eq 11, 3) := by decide +kernel
theorem dX2_isStep_5 : decode cX2_isStep 5 = .ok (.aload_n 0, 1) := by decide +kernel
theorem dX2_isStep_6 : decode cX2_isStep 6 = .ok (.iload_n 1, 1) := by decide +kernel
theorem dX2_isStep_7 : decode cX2_isStep 7 = .ok (.invokevirtual 56, 3) := by decide +kernel
theorem dX2_isStep_10 : decode cX2_isStep 10 = .ok (.ifCond .ne 5, 3) := by decide +kernel
theorem dX2_isStep_13 : decode cX2_isStep 13 = .ok (.iconst 0, 1) := by decide +kernel
theorem dX2_isStep_14 : decode cX2_isStep 14 = .ok (.ireturn, 1) := by decide +kernel
theorem dX2_isStep_15 : decode cX2_isStep 15 = .ok (.iload_n 2, 1) := by decide +kernel
theorem dX2_isStep_16 : decode cX2_isStep 16 = .ok (.ifCond .lt 44, 3) := by decide +kernel
theorem dX2_isStep_19 : decode cX2_isStep 19 = .ok (.iload_n 2, 1) := by decide +kernel
theorem dX2_isStep_20 : decode cX2_isStep 20 = .ok (.bipush 40, 2) := by decide +kernel
theorem dX2_isStep_22 : decode cX2_isStep 22 = .ok (.if_icmp .ge 38, 3) := by decide +kernel
theorem dX2_isStep_25 : decode cX2_isStep 25 = .ok (.aload_n 0, 1) := by decide +kernel
theorem dX2_isStep_26 : decode cX2_isStep 26 = .ok (.iload_n 2, 1) := by decide +kernel
theorem dX2_isStep_27 : decode cX2_isStep 27 = .ok (.invokevirtual 45, 3) := by decide +kernel
theorem dX2_isStep_30 : decode cX2_isStep 30 = .ok (.ifCond .eq 28, 3) := by decide +kernel
theorem dX2_isStep_33 : decode cX2_isStep 33 = .ok (.aload_n 0, 1) := by decide +kernel
theorem dX2_isStep_34 : decode cX2_isStep 34 = .ok (.iload_n 1, 1) := by decide +kernel
theorem dX2_isStep_35 : decode cX2_isStep 35 = .ok (.aload_n 0, 1) := by decide +kernel
theorem dX2_isStep_36 : decode cX2_isStep 36 = .ok (.getfield 9, 3) := by decide +kernel
theorem dX2_isStep_39 : decode cX2_isStep 39 = .ok (.iload_n 2, 1) := by decide +kernel
theorem dX2_isStep_40 : decode cX2_isStep 40 = .ok (.iaload, 1) := by decide +kernel
theorem dX2_isStep_41 : decode cX2_isStep 41 = .ok (.aload_n 0, 1) := by decide +kernel
theorem dX2_isStep_42 : decode cX2_isStep 42 = .ok (.getfield 15, 3) := by decide +kernel
theorem dX2_isStep_45 : decode cX2_isStep 45 = .ok (.iload_n 2, 1) := by decide +kernel
theorem dX2_isStep_46 : decode cX2_isStep 46 = .ok (.iaload, 1) := by decide +kernel
theorem dX2_isStep_47 : decode cX2_isStep 47 = .ok (.iload_n 3, 1) := by decide +kernel
theorem dX2_isStep_48 : decode cX2_isStep 48 = .ok (.invokevirtual 59, 3) := by decide +kernel
theorem dX2_isStep_51 : decode cX2_isStep 51 = .ok (.ifCond .eq 7, 3) := by decide +kernel
theorem dX2_isStep_54 : decode cX2_isStep 54 = .ok (.iconst 1, 1) := by decide +kernel
theorem dX2_isStep_55 : decode cX2_isStep 55 = .ok (.goto 4, 3) := by decide +kernel
theorem dX2_isStep_58 : decode cX2_isStep 58 = .ok (.iconst 0, 1) := by decide +kernel
theorem dX2_isStep_59 : decode cX2_isStep 59 = .ok (.ireturn, 1) := by decide +kernel
theorem dX2_isStep_60 : decode cX2_isStep 60 = .ok (.iload_n 2, 1) := by decide +kernel
theorem dX2_isStep_61 : decode cX2_isStep 61 = .ok (.bipush 40, 2) := by decide +kernel
theorem dX2_isStep_63 : decode cX2_isStep 63 = .ok (.if_icmp .eq 9, 3) := by decide +kernel
theorem dX2_isStep_66 : decode cX2_isStep 66 = .ok (.iload_n 2, 1) := by decide +kernel
theorem dX2_isStep_67 : decode cX2_isStep 67 = .ok (.bipush 41, 2) := by decide +kernel
theorem dX2_isStep_69 : decode cX2_isStep 69 = .ok (.if_icmp .ne 25, 3) := by decide +kernel
theorem dX2_isStep_72 : decode cX2_isStep 72 = .ok (.aload_n 0, 1) := by decide +kernel
theorem dX2_isStep_73 : decode cX2_isStep 73 = .ok (.iload_n 1, 1) := by decide +kernel
theorem dX2_isStep_74 : decode cX2_isStep 74 = .ok (.invokevirtual 63, 3) := by decide +kernel
theorem dX2_isStep_77 : decode cX2_isStep 77 = .ok (.aload_n 0, 1) := by decide +kernel
theorem dX2_isStep_78 : decode cX2_isStep 78 = .ok (.iload_n 2, 1) := by decide +kernel
theorem dX2_isStep_79 : decode cX2_isStep 79 = .ok (.invokevirtual 63, 3) := by decide +kernel
theorem dX2_isStep_82 : decode cX2_isStep 82 = .ok (.isub, 1) := by decide +kernel
theorem dX2_isStep_83 : decode cX2_isStep 83 = .ok (.invokestatic 67, 3) := by decide +kernel
theorem dX2_isStep_86 : decode cX2_isStep 86 = .ok (.iload_n 3, 1) := by decide +kernel
theorem dX2_isStep_87 : decode cX2_isStep 87 = .ok (.if_icmp .gt 7, 3) := by decide +kernel
theorem dX2_isStep_90 : decode cX2_isStep 90 = .ok (.iconst 1, 1) := by decide +kernel
theorem dX2_isStep_91 : decode cX2_isStep 91 = .ok (.goto 4, 3) := by decide +kernel
theorem dX2_isStep_94 : decode cX2_isStep 94 = .ok (.iconst 0, 1) := by decide +kernel
theorem dX2_isStep_95 : decode cX2_isStep 95 = .ok (.ireturn, 1) := by decide +kernel
theorem dX8_spreadOn_0 : decode cX8_spreadOn 0 = .ok (.iload_n 3, 1) := by decide +kernel
theorem dX8_spreadOn_1 : decode cX8_spreadOn 1 = .ok (.ifCond .lt 17, 3) := by decide +kernel
theorem dX8_spreadOn_4 : decode cX8_spreadOn 4 = .ok (.iload_n 3, 1) := by decide +kernel
theorem dX8_spreadOn_5 : decode cX8_spreadOn 5 = .ok (.bipush 42, 2) := by decide +kernel
theorem dX8_spreadOn_7 : decode cX8_spreadOn 7 = .ok (.if_icmp .ge 11, 3) := by decide +kernel
theorem dX8_spreadOn_10 : decode cX8_spreadOn 10 = .ok (.aload 4, 2) := by decide +kernel
theorem dX8_spreadOn_12 : decode cX8_spreadOn 12 = .ok (.arraylength, 1) := by decide +kernel
theorem dX8_spreadOn_13 : decode cX8_spreadOn 13 = .ok (.bipush 42, 2) := by decide +kernel
theorem dX8_spreadOn_15 : decode cX8_spreadOn 15 = .ok (.if_icmp .ge 5, 3) := by decide +kernel
theorem dX8_spreadOn_18 : decode cX8_spreadOn 18 = .ok (.iconst 0, 1) := by decide +kernel
theorem dX8_spreadOn_19 : decode cX8_spreadOn 19 = .ok (.ireturn, 1) := by decide +kernel
theorem dX8_spreadOn_20 : decode cX8_spreadOn 20 = .ok (.aload 4, 2) := by decide +kernel
theorem dX8_spreadOn_22 : decode cX8_spreadOn 22 = .ok (.iload_n 3, 1) := by decide +kernel
theorem dX8_spreadOn_23 : decode cX8_spreadOn 23 = .ok (.iconst 0, 1) := by decide +kernel
theorem dX8_spreadOn_24 : decode cX8_spreadOn 24 = .ok (.iastore, 1) := by decide +kernel
theorem dX8_spreadOn_25 : decode cX8_spreadOn 25 = .ok (.aload_n 0, 1) := by decide +kernel
theorem dX8_spreadOn_26 : decode cX8_spreadOn 26 = .ok (.getfield 18, 3) := by decide +kernel
theorem dX8_spreadOn_29 : decode cX8_spreadOn 29 = .ok (.iconst 0, 1) := by decide +kernel
theorem dX8_spreadOn_30 : decode cX8_spreadOn 30 = .ok (.iload_n 3, 1) := by decide +kernel
theorem dX8_spreadOn_31 : decode cX8_spreadOn 31 = .ok (.iastore, 1) := by decide +kernel
theorem dX8_spreadOn_32 : decode cX8_spreadOn 32 = .ok (.iconst 1, 1) := by decide +kernel
theorem dX8_spreadOn_33 : decode cX8_spreadOn 33 = .ok (.istore 6, 2) := by decide +kernel
theorem dX8_spreadOn_35 : decode cX8_spreadOn 35 = .ok (.iconst 0, 1) := by decide +kernel
theorem dX8_spreadOn_36 : decode cX8_spreadOn 36 = .ok (.istore 7, 2) := by decide +kernel
theorem dX8_spreadOn_38 : decode cX8_spreadOn 38 = .ok (.iload 7, 2) := by decide +kernel
theorem dX8_spreadOn_40 : decode cX8_spreadOn 40 = .ok (.iload 6, 2) := by decide +kernel
theorem dX8_spreadOn_42 : decode cX8_spreadOn 42 = .ok (.if_icmp .ge 120, 3) := by decide +kernel
theorem dX8_spreadOn_45 : decode cX8_spreadOn 45 = .ok (.iload 7, 2) := by decide +kernel
theorem dX8_spreadOn_47 : decode cX8_spreadOn 47 = .ok (.bipush 42, 2) := by decide +kernel
theorem dX8_spreadOn_49 : decode cX8_spreadOn 49 = .ok (.if_icmp .ge 113, 3) := by decide +kernel
theorem dX8_spreadOn_52 : decode cX8_spreadOn 52 = .ok (.aload_n 0, 1) := by decide +kernel
theorem dX8_spreadOn_53 : decode cX8_spreadOn 53 = .ok (.getfield 18, 3) := by decide +kernel
theorem dX8_spreadOn_56 : decode cX8_spreadOn 56 = .ok (.iload 7, 2) := by decide +kernel
theorem dX8_spreadOn_58 : decode cX8_spreadOn 58 = .ok (.iaload, 1) := by decide +kernel
theorem dX8_spreadOn_59 : decode cX8_spreadOn 59 = .ok (.istore 8, 2) := by decide +kernel
theorem dX8_spreadOn_61 : decode cX8_spreadOn 61 = .ok (.iload 8, 2) := by decide +kernel
theorem dX8_spreadOn_63 : decode cX8_spreadOn 63 = .ok (.ifCond .lt 20, 3) := by decide +kernel
theorem dX8_spreadOn_66 : decode cX8_spreadOn 66 = .ok (.iload 8, 2) := by decide +kernel
theorem dX8_spreadOn_68 : decode cX8_spreadOn 68 = .ok (.bipush 42, 2) := by decide +kernel
theorem dX8_spreadOn_70 : decode cX8_spreadOn 70 = .ok (.if_icmp .ge 13, 3) := by decide +kernel
theorem dX8_spreadOn_73 : decode cX8_spreadOn 73 = .ok (.aload 4, 2) := by decide +kernel
theorem dX8_spreadOn_75 : decode cX8_spreadOn 75 = .ok (.iload 8, 2) := by decide +kernel
theorem dX8_spreadOn_77 : decode cX8_spreadOn 77 = .ok (.iaload, 1) := by decide +kernel
theorem dX8_spreadOn_78 : decode cX8_spreadOn 78 = .ok (.iconst 1, 1) := by decide +kernel
theorem dX8_spreadOn_79 : decode cX8_spreadOn 79 = .ok (.iadd, 1) := by decide +kernel
theorem dX8_spreadOn_80 : decode cX8_spreadOn 80 = .ok (.goto 4, 3) := by decide +kernel
theorem dX8_spreadOn_83 : decode cX8_spreadOn 83 = .ok (.iconst 0, 1) := by decide +kernel
theorem dX8_spreadOn_84 : decode cX8_spreadOn 84 = .ok (.istore 9, 2) := by decide +kernel
theorem dX8_spreadOn_86 : decode cX8_spreadOn 86 = .ok (.iconst 0, 1) := by decide +kernel
theorem dX8_spreadOn_87 : decode cX8_spreadOn 87 = .ok (.istore 10, 2) := by decide +kernel
theorem dX8_spreadOn_89 : decode cX8_spreadOn 89 = .ok (.iload 10, 2) := by decide +kernel
theorem dX8_spreadOn_91 : decode cX8_spreadOn 91 = .ok (.iload 5, 2) := by decide +kernel
theorem dX8_spreadOn_93 : decode cX8_spreadOn 93 = .ok (.if_icmp .ge 63, 3) := by decide +kernel
theorem dX8_spreadOn_96 : decode cX8_spreadOn 96 = .ok (.iload 10, 2) := by decide +kernel
theorem dX8_spreadOn_98 : decode cX8_spreadOn 98 = .ok (.bipush 42, 2) := by decide +kernel
theorem dX8_spreadOn_100 : decode cX8_spreadOn 100 = .ok (.if_icmp .ge 56, 3) := by decide +kernel
theorem dX8_spreadOn_103 : decode cX8_spreadOn 103 = .ok (.aload 4, 2) := by decide +kernel
theorem dX8_spreadOn_105 : decode cX8_spreadOn 105 = .ok (.iload 10, 2) := by decide +kernel
theorem dX8_spreadOn_107 : decode cX8_spreadOn 107 = .ok (.iaload, 1) := by decide +kernel
theorem dX8_spreadOn_108 : decode cX8_spreadOn 108 = .ok (.iconst (-1), 1) := by decide +kernel
theorem dX8_spreadOn_109 : decode cX8_spreadOn 109 = .ok (.if_icmp .ne 41, 3) := by decide +kernel
theorem dX8_spreadOn_112 : decode cX8_spreadOn 112 = .ok (.iload 6, 2) := by decide +kernel
theorem dX8_spreadOn_114 : decode cX8_spreadOn 114 = .ok (.bipush 42, 2) := by decide +kernel
theorem dX8_spreadOn_116 : decode cX8_spreadOn 116 = .ok (.if_icmp .ge 34, 3) := by decide +kernel
theorem dX8_spreadOn_119 : decode cX8_spreadOn 119 = .ok (.aload_n 1, 1) := by decide +kernel
theorem dX8_spreadOn_120 : decode cX8_spreadOn 120 = .ok (.iload 8, 2) := by decide +kernel
theorem dX8_spreadOn_122 : decode cX8_spreadOn 122 = .ok (.iload 10, 2) := by decide +kernel
theorem dX8_spreadOn_124 : decode cX8_spreadOn 124 = .ok (.iload_n 2, 1) := by decide +kernel
theorem dX8_spreadOn_125 : decode cX8_spreadOn 125 = .ok (.invokevirtual 41, 3) := by decide +kernel
theorem dX8_spreadOn_128 : decode cX8_spreadOn 128 = .ok (.ifCond .eq 22, 3) := by decide +kernel
theorem dX8_spreadOn_131 : decode cX8_spreadOn 131 = .ok (.aload 4, 2) := by decide +kernel
theorem dX8_spreadOn_133 : decode cX8_spreadOn 133 = .ok (.iload 10, 2) := by decide +kernel
theorem dX8_spreadOn_135 : decode cX8_spreadOn 135 = .ok (.iload 9, 2) := by decide +kernel
theorem dX8_spreadOn_137 : decode cX8_spreadOn 137 = .ok (.iastore, 1) := by decide +kernel
theorem dX8_spreadOn_138 : decode cX8_spreadOn 138 = .ok (.aload_n 0, 1) := by decide +kernel
theorem dX8_spreadOn_139 : decode cX8_spreadOn 139 = .ok (.getfield 18, 3) := by decide +kernel
theorem dX8_spreadOn_142 : decode cX8_spreadOn 142 = .ok (.iload 6, 2) := by decide +kernel
theorem dX8_spreadOn_144 : decode cX8_spreadOn 144 = .ok (.iload 10, 2) := by decide +kernel
theorem dX8_spreadOn_146 : decode cX8_spreadOn 146 = .ok (.iastore, 1) := by decide +kernel
theorem dX8_spreadOn_147 : decode cX8_spreadOn 147 = .ok (.iinc 6 1, 3) := by decide +kernel
theorem dX8_spreadOn_150 : decode cX8_spreadOn 150 = .ok (.iinc 10 1, 3) := by decide +kernel
theorem dX8_spreadOn_153 : decode cX8_spreadOn 153 = .ok (.goto (-64), 3) := by decide +kernel
theorem dX8_spreadOn_156 : decode cX8_spreadOn 156 = .ok (.iinc 7 1, 3) := by decide +kernel
theorem dX8_spreadOn_159 : decode cX8_spreadOn 159 = .ok (.goto (-121), 3) := by decide +kernel
theorem dX8_spreadOn_162 : decode cX8_spreadOn 162 = .ok (.iload 6, 2) := by decide +kernel
theorem dX8_spreadOn_164 : decode cX8_spreadOn 164 = .ok (.ireturn, 1) := by decide +kernel
theorem dX8_spread_0 : decode cX8_spread 0 = .ok (.aload 4, 2) := by decide +kernel
theorem dX8_spread_2 : decode cX8_spread 2 = .ok (.iconst (-1), 1) := by decide +kernel
theorem dX8_spread_3 : decode cX8_spread 3 = .ok (.invokestatic 31, 3) := by decide +kernel
theorem dX8_spread_6 : decode cX8_spread 6 = .ok (.aload_n 0, 1) := by decide +kernel
theorem dX8_spread_7 : decode cX8_spread 7 = .ok (.aload_n 1, 1) := by decide +kernel
theorem dX8_spread_8 : decode cX8_spread 8 = .ok (.iload_n 2, 1) := by decide +kernel
theorem dX8_spread_9 : decode cX8_spread 9 = .ok (.iload_n 3, 1) := by decide +kernel
theorem dX8_spread_10 : decode cX8_spread 10 = .ok (.aload 4, 2) := by decide +kernel
theorem dX8_spread_12 : decode cX8_spread 12 = .ok (.iload 5, 2) := by decide +kernel
theorem dX8_spread_14 : decode cX8_spread 14 = .ok (.invokevirtual 37, 3) := by decide +kernel
theorem dX8_spread_17 : decode cX8_spread 17 = .ok (.ireturn, 1) := by decide +kernel
theorem dX8_canCross_0 : decode cX8_canCross 0 = .ok (.aload_n 0, 1) := by decide +kernel
theorem dX8_canCross_1 : decode cX8_canCross 1 = .ok (.aload_n 1, 1) := by decide +kernel
theorem dX8_canCross_2 : decode cX8_canCross 2 = .ok (.iload_n 2, 1) := by decide +kernel
theorem dX8_canCross_3 : decode cX8_canCross 3 = .ok (.bipush 40, 2) := by decide +kernel
theorem dX8_canCross_5 : decode cX8_canCross 5 = .ok (.aload_n 0, 1) := by decide +kernel
theorem dX8_canCross_6 : decode cX8_canCross 6 = .ok (.getfield 9, 3) := by decide +kernel
theorem dX8_canCross_9 : decode cX8_canCross 9 = .ok (.bipush 42, 2) := by decide +kernel
theorem dX8_canCross_11 : decode cX8_canCross 11 = .ok (.invokevirtual 47, 3) := by decide +kernel
theorem dX8_canCross_14 : decode cX8_canCross 14 = .ok (.pop, 1) := by decide +kernel
theorem dX8_canCross_15 : decode cX8_canCross 15 = .ok (.aload_n 0, 1) := by decide +kernel
theorem dX8_canCross_16 : decode cX8_canCross 16 = .ok (.getfield 9, 3) := by decide +kernel
theorem dX8_canCross_19 : decode cX8_canCross 19 = .ok (.bipush 41, 2) := by decide +kernel
theorem dX8_canCross_21 : decode cX8_canCross 21 = .ok (.iaload, 1) := by decide +kernel
theorem dX8_canCross_22 : decode cX8_canCross 22 = .ok (.iconst (-1), 1) := by decide +kernel
theorem dX8_canCross_23 : decode cX8_canCross 23 = .ok (.if_icmp .eq 7, 3) := by decide +kernel
theorem dX8_canCross_26 : decode cX8_canCross 26 = .ok (.iconst 1, 1) := by decide +kernel
theorem dX8_canCross_27 : decode cX8_canCross 27 = .ok (.goto 4, 3) := by decide +kernel
theorem dX8_canCross_30 : decode cX8_canCross 30 = .ok (.iconst 0, 1) := by decide +kernel
theorem dX8_canCross_31 : decode cX8_canCross 31 = .ok (.ireturn, 1) := by decide +kernel
theorem dX8_countIslands_0 : decode cX8_countIslands 0 = .ok (.aload_n 0, 1) := by decide +kernel
theorem dX8_countIslands_1 : decode cX8_countIslands 1 = .ok (.getfield 9, 3) := by decide +kernel
theorem dX8_countIslands_4 : decode cX8_countIslands 4 = .ok (.iconst (-1), 1) := by decide +kernel
theorem dX8_countIslands_5 : decode cX8_countIslands 5 = .ok (.invokestatic 31, 3) := by decide +kernel
theorem dX8_countIslands_8 : decode cX8_countIslands 8 = .ok (.iconst 0, 1) := by decide +kernel
theorem dX8_countIslands_9 : decode cX8_countIslands 9 = .ok (.istore_n 3, 1) := by decide +kernel
theorem dX8_countIslands_10 : decode cX8_countIslands 10 = .ok (.iconst 0, 1) := by decide +kernel
theorem dX8_countIslands_11 : decode cX8_countIslands 11 = .ok (.istore 4, 2) := by decide +kernel
theorem dX8_countIslands_13 : decode cX8_countIslands 13 = .ok (.iload 4, 2) := by decide +kernel
theorem dX8_countIslands_15 : decode cX8_countIslands 15 = .ok (.bipush 40, 2) := by decide +kernel
theorem dX8_countIslands_17 : decode cX8_countIslands 17 = .ok (.if_icmp .ge 47, 3) := by decide +kernel
theorem dX8_countIslands_20 : decode cX8_countIslands 20 = .ok (.aload_n 1, 1) := by decide +kernel
theorem dX8_countIslands_21 : decode cX8_countIslands 21 = .ok (.iload 4, 2) := by decide +kernel
theorem dX8_countIslands_23 : decode cX8_countIslands 23 = .ok (.invokevirtual 104, 3) := by decide +kernel
theorem dX8_countIslands_26 : decode cX8_countIslands 26 = .ok (.ifCond .eq 32, 3) := by decide +kernel
theorem dX8_countIslands_29 : decode cX8_countIslands 29 = .ok (.aload_n 0, 1) := by decide +kernel
theorem dX8_countIslands_30 : decode cX8_countIslands 30 = .ok (.getfield 9, 3) := by decide +kernel
theorem dX8_countIslands_33 : decode cX8_countIslands 33 = .ok (.iload 4, 2) := by decide +kernel
theorem dX8_countIslands_35 : decode cX8_countIslands 35 = .ok (.iaload, 1) := by decide +kernel
theorem dX8_countIslands_36 : decode cX8_countIslands 36 = .ok (.iconst (-1), 1) := by decide +kernel
theorem dX8_countIslands_37 : decode cX8_countIslands 37 = .ok (.if_icmp .ne 21, 3) := by decide +kernel
theorem dX8_countIslands_40 : decode cX8_countIslands 40 = .ok (.iinc 3 1, 3) := by decide +kernel
theorem dX8_countIslands_43 : decode cX8_countIslands 43 = .ok (.aload_n 0, 1) := by decide +kernel
theorem dX8_countIslands_44 : decode cX8_countIslands 44 = .ok (.aload_n 1, 1) := by decide +kernel
theorem dX8_countIslands_45 : decode cX8_countIslands 45 = .ok (.iload_n 2, 1) := by decide +kernel
theorem dX8_countIslands_46 : decode cX8_countIslands 46 = .ok (.iload 4, 2) := by decide +kernel
theorem dX8_countIslands_48 : decode cX8_countIslands 48 = .ok (.aload_n 0, 1) := by decide +kernel
theorem dX8_countIslands_49 : decode cX8_countIslands 49 = .ok (.getfield 9, 3) := by decide +kernel
theorem dX8_countIslands_52 : decode cX8_countIslands 52 = .ok (.bipush 40, 2) := by decide +kernel
theorem dX8_countIslands_54 : decode cX8_countIslands 54 = .ok (.invokevirtual 37, 3) := by decide +kernel
theorem dX8_countIslands_57 : decode cX8_countIslands 57 = .ok (.pop, 1) := by decide +kernel
theorem dX8_countIslands_58 : decode cX8_countIslands 58 = .ok (.iinc 4 1, 3) := by decide +kernel
theorem dX8_countIslands_61 : decode cX8_countIslands 61 = .ok (.goto (-48), 3) := by decide +kernel
theorem dX8_countIslands_64 : decode cX8_countIslands 64 = .ok (.iload_n 3, 1) := by decide +kernel
theorem dX8_countIslands_65 : decode cX8_countIslands 65 = .ok (.ireturn, 1) := by decide +kernel
theorem dX6_line_0 : decode cX6_line 0 = .ok (.iconst 2, 1) := by decide +kernel
theorem dX6_line_1 : decode cX6_line 1 = .ok (.aload_n 0, 1) := by decide +kernel
theorem dX6_line_2 : decode cX6_line 2 = .ok (.invokevirtual 9, 3) := by decide +kernel
theorem dX6_line_5 : decode cX6_line 5 = .ok (.invokestatic 15, 3) := by decide +kernel
theorem dX6_line_8 : decode cX6_line 8 = .ok (.istore_n 1, 1) := by decide +kernel
theorem dX6_line_9 : decode cX6_line 9 = .ok (.iconst 0, 1) := by decide +kernel
theorem dX6_line_10 : decode cX6_line 10 = .ok (.istore_n 2, 1) := by decide +kernel
theorem dX6_line_11 : decode cX6_line 11 = .ok (.iload_n 2, 1) := by decide +kernel
theorem dX6_line_12 : decode cX6_line 12 = .ok (.bipush 40, 2) := by decide +kernel
theorem dX6_line_14 : decode cX6_line 14 = .ok (.if_icmp .ge 54, 3) := by decide +kernel
theorem dX6_line_17 : decode cX6_line 17 = .ok (.iload_n 2, 1) := by decide +kernel
theorem dX6_line_18 : decode cX6_line 18 = .ok (.iconst 1, 1) := by decide +kernel
theorem dX6_line_19 : decode cX6_line 19 = .ok (.iadd, 1) := by decide +kernel
theorem dX6_line_20 : decode cX6_line 20 = .ok (.istore_n 3, 1) := by decide +kernel
theorem dX6_line_21 : decode cX6_line 21 = .ok (.iload_n 3, 1) := by decide +kernel
theorem dX6_line_22 : decode cX6_line 22 = .ok (.bipush 40, 2) := by decide +kernel
theorem dX6_line_24 : decode cX6_line 24 = .ok (.if_icmp .ge 38, 3) := by decide +kernel
theorem dX6_line_27 : decode cX6_line 27 = .ok (.aload_n 0, 1) := by decide +kernel
theorem dX6_line_28 : decode cX6_line 28 = .ok (.getfield 21, 3) := by decide +kernel
theorem dX6_line_31 : decode cX6_line 31 = .ok (.iload_n 2, 1) := by decide +kernel
theorem dX6_line_32 : decode cX6_line 32 = .ok (.baload, 1) := by decide +kernel
theorem dX6_line_33 : decode cX6_line 33 = .ok (.ifCond .eq 23, 3) := by decide +kernel
theorem dX6_line_36 : decode cX6_line 36 = .ok (.aload_n 0, 1) := by decide +kernel
theorem dX6_line_37 : decode cX6_line 37 = .ok (.getfield 21, 3) := by decide +kernel
theorem dX6_line_40 : decode cX6_line 40 = .ok (.iload_n 3, 1) := by decide +kernel
theorem dX6_line_41 : decode cX6_line 41 = .ok (.baload, 1) := by decide +kernel
theorem dX6_line_42 : decode cX6_line 42 = .ok (.ifCond .eq 14, 3) := by decide +kernel
theorem dX6_line_45 : decode cX6_line 45 = .ok (.iload_n 1, 1) := by decide +kernel
theorem dX6_line_46 : decode cX6_line 46 = .ok (.aload_n 0, 1) := by decide +kernel
theorem dX6_line_47 : decode cX6_line 47 = .ok (.iload_n 2, 1) := by decide +kernel
theorem dX6_line_48 : decode cX6_line 48 = .ok (.iload_n 3, 1) := by decide +kernel
theorem dX6_line_49 : decode cX6_line 49 = .ok (.invokestatic 25, 3) := by decide +kernel
theorem dX6_line_52 : decode cX6_line 52 = .ok (.invokestatic 31, 3) := by decide +kernel
theorem dX6_line_55 : decode cX6_line 55 = .ok (.istore_n 1, 1) := by decide +kernel
theorem dX6_line_56 : decode cX6_line 56 = .ok (.iinc 3 1, 3) := by decide +kernel
theorem dX6_line_59 : decode cX6_line 59 = .ok (.goto (-38), 3) := by decide +kernel
theorem dX6_line_62 : decode cX6_line 62 = .ok (.iinc 2 1, 3) := by decide +kernel
theorem dX6_line_65 : decode cX6_line 65 = .ok (.goto (-54), 3) := by decide +kernel
theorem dX6_line_68 : decode cX6_line 68 = .ok (.iload_n 1, 1) := by decide +kernel
theorem dX6_line_69 : decode cX6_line 69 = .ok (.ireturn, 1) := by decide +kernel
theorem dX6_yardApart_0 : decode cX6_yardApart 0 = .ok (.iconst 0, 1) := by decide +kernel
theorem dX6_yardApart_1 : decode cX6_yardApart 1 = .ok (.istore_n 1, 1) := by decide +kernel
theorem dX6_yardApart_2 : decode cX6_yardApart 2 = .ok (.iconst 0, 1) := by decide +kernel
theorem dX6_yardApart_3 : decode cX6_yardApart 3 = .ok (.istore_n 2, 1) := by decide +kernel
theorem dX6_yardApart_4 : decode cX6_yardApart 4 = .ok (.iload_n 2, 1) := by decide +kernel
theorem dX6_yardApart_5 : decode cX6_yardApart 5 = .ok (.bipush 40, 2) := by decide +kernel
theorem dX6_yardApart_7 : decode cX6_yardApart 7 = .ok (.if_icmp .ge 60, 3) := by decide +kernel
theorem dX6_yardApart_10 : decode cX6_yardApart 10 = .ok (.aload_n 0, 1) := by decide +kernel
theorem dX6_yardApart_11 : decode cX6_yardApart 11 = .ok (.getfield 21, 3) := by decide +kernel
theorem dX6_yardApart_14 : decode cX6_yardApart 14 = .ok (.iload_n 2, 1) := by decide +kernel
theorem dX6_yardApart_15 : decode cX6_yardApart 15 = .ok (.baload, 1) := by decide +kernel
theorem dX6_yardApart_16 : decode cX6_yardApart 16 = .ok (.ifCond .eq 45, 3) := by decide +kernel
theorem dX6_yardApart_19 : decode cX6_yardApart 19 = .ok (.iconst 1, 1) := by decide +kernel
theorem dX6_yardApart_20 : decode cX6_yardApart 20 = .ok (.istore_n 3, 1) := by decide +kernel
theorem dX6_yardApart_21 : decode cX6_yardApart 21 = .ok (.iload_n 3, 1) := by decide +kernel
theorem dX6_yardApart_22 : decode cX6_yardApart 22 = .ok (.bipush 20, 2) := by decide +kernel
theorem dX6_yardApart_24 : decode cX6_yardApart 24 = .ok (.if_icmp .ge 31, 3) := by decide +kernel
theorem dX6_yardApart_27 : decode cX6_yardApart 27 = .ok (.aload_n 0, 1) := by decide +kernel
theorem dX6_yardApart_28 : decode cX6_yardApart 28 = .ok (.aload_n 0, 1) := by decide +kernel
theorem dX6_yardApart_29 : decode cX6_yardApart 29 = .ok (.getfield 38, 3) := by decide +kernel
theorem dX6_yardApart_32 : decode cX6_yardApart 32 = .ok (.iload_n 2, 1) := by decide +kernel
theorem dX6_yardApart_33 : decode cX6_yardApart 33 = .ok (.iaload, 1) := by decide +kernel
theorem dX6_yardApart_34 : decode cX6_yardApart 34 = .ok (.aload_n 0, 1) := by decide +kernel
theorem dX6_yardApart_35 : decode cX6_yardApart 35 = .ok (.getfield 42, 3) := by decide +kernel
theorem dX6_yardApart_38 : decode cX6_yardApart 38 = .ok (.iload_n 2, 1) := by decide +kernel
theorem dX6_yardApart_39 : decode cX6_yardApart 39 = .ok (.iaload, 1) := by decide +kernel
theorem dX6_yardApart_40 : decode cX6_yardApart 40 = .ok (.iload_n 3, 1) := by decide +kernel
theorem dX6_yardApart_41 : decode cX6_yardApart 41 = .ok (.iadd, 1) := by decide +kernel
theorem dX6_yardApart_42 : decode cX6_yardApart 42 = .ok (.invokevirtual 45, 3) := by decide +kernel
theorem dX6_yardApart_45 : decode cX6_yardApart 45 = .ok (.iconst (-1), 1) := by decide +kernel
theorem dX6_yardApart_46 : decode cX6_yardApart 46 = .ok (.if_icmp .eq 9, 3) := by decide +kernel
theorem dX6_yardApart_49 : decode cX6_yardApart 49 = .ok (.iinc 3 1, 3) := by decide +kernel
theorem dX6_yardApart_52 : decode cX6_yardApart 52 = .ok (.goto (-31), 3) := by decide +kernel
theorem dX6_yardApart_55 : decode cX6_yardApart 55 = .ok (.iload_n 1, 1) := by decide +kernel
theorem dX6_yardApart_56 : decode cX6_yardApart 56 = .ok (.iload_n 3, 1) := by decide +kernel
theorem dX6_yardApart_57 : decode cX6_yardApart 57 = .ok (.invokestatic 31, 3) := by decide +kernel
theorem dX6_yardApart_60 : decode cX6_yardApart 60 = .ok (.istore_n 1, 1) := by decide +kernel
theorem dX6_yardApart_61 : decode cX6_yardApart 61 = .ok (.iinc 2 1, 3) := by decide +kernel
theorem dX6_yardApart_64 : decode cX6_yardApart 64 = .ok (.goto (-60), 3) := by decide +kernel
theorem dX6_yardApart_67 : decode cX6_yardApart 67 = .ok (.iload_n 1, 1) := by decide +kernel
theorem dX6_yardApart_68 : decode cX6_yardApart 68 = .ok (.ireturn, 1) := by decide +kernel
theorem dX6_nearest_0 : decode cX6_nearest 0 = .ok (.iconst (-1), 1) := by decide +kernel
theorem dX6_nearest_1 : decode cX6_nearest 1 = .ok (.istore_n 2, 1) := by decide +kernel
theorem dX6_nearest_2 : decode cX6_nearest 2 = .ok (.iconst 0, 1) := by decide +kernel
theorem dX6_nearest_3 : decode cX6_nearest 3 = .ok (.istore_n 3, 1) := by decide +kernel
theorem dX6_nearest_4 : decode cX6_nearest 4 = .ok (.iload_n 3, 1) := by decide +kernel
theorem dX6_nearest_5 : decode cX6_nearest 5 = .ok (.bipush 40, 2) := by decide +kernel
theorem dX6_nearest_7 : decode cX6_nearest 7 = .ok (.if_icmp .ge 53, 3) := by decide +kernel
theorem dX6_nearest_10 : decode cX6_nearest 10 = .ok (.aload_n 0, 1) := by decide +kernel
theorem dX6_nearest_11 : decode cX6_nearest 11 = .ok (.iload_n 1, 1) := by decide +kernel
theorem dX6_nearest_12 : decode cX6_nearest 12 = .ok (.invokevirtual 34, 3) := by decide +kernel
theorem dX6_nearest_15 : decode cX6_nearest 15 = .ok (.ifCond .eq 45, 3) := by decide +kernel
theorem dX6_nearest_18 : decode cX6_nearest 18 = .ok (.iload_n 3, 1) := by decide +kernel
theorem dX6_nearest_19 : decode cX6_nearest 19 = .ok (.iload_n 1, 1) := by decide +kernel
theorem dX6_nearest_20 : decode cX6_nearest 20 = .ok (.if_icmp .eq 34, 3) := by decide +kernel
theorem dX6_nearest_23 : decode cX6_nearest 23 = .ok (.aload_n 0, 1) := by decide +kernel
theorem dX6_nearest_24 : decode cX6_nearest 24 = .ok (.getfield 21, 3) := by decide +kernel
theorem dX6_nearest_27 : decode cX6_nearest 27 = .ok (.iload_n 3, 1) := by decide +kernel
theorem dX6_nearest_28 : decode cX6_nearest 28 = .ok (.baload, 1) := by decide +kernel
theorem dX6_nearest_29 : decode cX6_nearest 29 = .ok (.ifCond .eq 25, 3) := by decide +kernel
theorem dX6_nearest_32 : decode cX6_nearest 32 = .ok (.iload_n 2, 1) := by decide +kernel
theorem dX6_nearest_33 : decode cX6_nearest 33 = .ok (.iconst (-1), 1) := by decide +kernel
theorem dX6_nearest_34 : decode cX6_nearest 34 = .ok (.if_icmp .eq 18, 3) := by decide +kernel
theorem dX6_nearest_37 : decode cX6_nearest 37 = .ok (.aload_n 0, 1) := by decide +kernel
theorem dX6_nearest_38 : decode cX6_nearest 38 = .ok (.iload_n 1, 1) := by decide +kernel
theorem dX6_nearest_39 : decode cX6_nearest 39 = .ok (.iload_n 3, 1) := by decide +kernel
theorem dX6_nearest_40 : decode cX6_nearest 40 = .ok (.invokevirtual 52, 3) := by decide +kernel
theorem dX6_nearest_43 : decode cX6_nearest 43 = .ok (.aload_n 0, 1) := by decide +kernel
theorem dX6_nearest_44 : decode cX6_nearest 44 = .ok (.iload_n 1, 1) := by decide +kernel
theorem dX6_nearest_45 : decode cX6_nearest 45 = .ok (.iload_n 2, 1) := by decide +kernel
theorem dX6_nearest_46 : decode cX6_nearest 46 = .ok (.invokevirtual 52, 3) := by decide +kernel
theorem dX6_nearest_49 : decode cX6_nearest 49 = .ok (.if_icmp .ge 5, 3) := by decide +kernel
theorem dX6_nearest_52 : decode cX6_nearest 52 = .ok (.iload_n 3, 1) := by decide +kernel
theorem dX6_nearest_53 : decode cX6_nearest 53 = .ok (.istore_n 2, 1) := by decide +kernel
theorem dX6_nearest_54 : decode cX6_nearest 54 = .ok (.iinc 3 1, 3) := by decide +kernel
theorem dX6_nearest_57 : decode cX6_nearest 57 = .ok (.goto (-53), 3) := by decide +kernel
theorem dX6_nearest_60 : decode cX6_nearest 60 = .ok (.iload_n 2, 1) := by decide +kernel
theorem dX6_nearest_61 : decode cX6_nearest 61 = .ok (.ireturn, 1) := by decide +kernel
theorem dX6_pairs_0 : decode cX6_pairs 0 = .ok (.iconst 0, 1) := by decide +kernel
theorem dX6_pairs_1 : decode cX6_pairs 1 = .ok (.istore_n 1, 1) := by decide +kernel
theorem dX6_pairs_2 : decode cX6_pairs 2 = .ok (.iconst 0, 1) := by decide +kernel
theorem dX6_pairs_3 : decode cX6_pairs 3 = .ok (.istore_n 2, 1) := by decide +kernel
theorem dX6_pairs_4 : decode cX6_pairs 4 = .ok (.iload_n 2, 1) := by decide +kernel
theorem dX6_pairs_5 : decode cX6_pairs 5 = .ok (.bipush 40, 2) := by decide +kernel
theorem dX6_pairs_7 : decode cX6_pairs 7 = .ok (.if_icmp .ge 32, 3) := by decide +kernel
theorem dX6_pairs_10 : decode cX6_pairs 10 = .ok (.aload_n 0, 1) := by decide +kernel
theorem dX6_pairs_11 : decode cX6_pairs 11 = .ok (.iload_n 2, 1) := by decide +kernel
theorem dX6_pairs_12 : decode cX6_pairs 12 = .ok (.invokestatic 48, 3) := by decide +kernel
theorem dX6_pairs_15 : decode cX6_pairs 15 = .ok (.istore_n 3, 1) := by decide +kernel
theorem dX6_pairs_16 : decode cX6_pairs 16 = .ok (.iload_n 3, 1) := by decide +kernel
theorem dX6_pairs_17 : decode cX6_pairs 17 = .ok (.iload_n 2, 1) := by decide +kernel
theorem dX6_pairs_18 : decode cX6_pairs 18 = .ok (.if_icmp .le 15, 3) := by decide +kernel
theorem dX6_pairs_21 : decode cX6_pairs 21 = .ok (.aload_n 0, 1) := by decide +kernel
theorem dX6_pairs_22 : decode cX6_pairs 22 = .ok (.iload_n 3, 1) := by decide +kernel
theorem dX6_pairs_23 : decode cX6_pairs 23 = .ok (.invokestatic 48, 3) := by decide +kernel
theorem dX6_pairs_26 : decode cX6_pairs 26 = .ok (.iload_n 2, 1) := by decide +kernel
theorem dX6_pairs_27 : decode cX6_pairs 27 = .ok (.if_icmp .ne 6, 3) := by decide +kernel
theorem dX6_pairs_30 : decode cX6_pairs 30 = .ok (.iinc 1 1, 3) := by decide +kernel
theorem dX6_pairs_33 : decode cX6_pairs 33 = .ok (.iinc 2 1, 3) := by decide +kernel
theorem dX6_pairs_36 : decode cX6_pairs 36 = .ok (.goto (-32), 3) := by decide +kernel
theorem dX6_pairs_39 : decode cX6_pairs 39 = .ok (.iload_n 1, 1) := by decide +kernel
theorem dX6_pairs_40 : decode cX6_pairs 40 = .ok (.ireturn, 1) := by decide +kernel
theorem dX6_closest_0 : decode cX6_closest 0 = .ok (.bipush (-2), 2) := by decide +kernel
theorem dX6_closest_2 : decode cX6_closest 2 = .ok (.istore_n 1, 1) := by decide +kernel
theorem dX6_closest_3 : decode cX6_closest 3 = .ok (.iconst 0, 1) := by decide +kernel
theorem dX6_closest_4 : decode cX6_closest 4 = .ok (.istore_n 2, 1) := by decide +kernel
theorem dX6_closest_5 : decode cX6_closest 5 = .ok (.iload_n 2, 1) := by decide +kernel
theorem dX6_closest_6 : decode cX6_closest 6 = .ok (.bipush 40, 2) := by decide +kernel
theorem dX6_closest_8 : decode cX6_closest 8 = .ok (.if_icmp .ge 43, 3) := by decide +kernel
theorem dX6_closest_11 : decode cX6_closest 11 = .ok (.aload_n 0, 1) := by decide +kernel
theorem dX6_closest_12 : decode cX6_closest 12 = .ok (.iload_n 2, 1) := by decide +kernel
theorem dX6_closest_13 : decode cX6_closest 13 = .ok (.invokestatic 48, 3) := by decide +kernel
theorem dX6_closest_16 : decode cX6_closest 16 = .ok (.istore_n 3, 1) := by decide +kernel
theorem dX6_closest_17 : decode cX6_closest 17 = .ok (.iload_n 3, 1) := by decide +kernel
theorem dX6_closest_18 : decode cX6_closest 18 = .ok (.iconst (-1), 1) := by decide +kernel
theorem dX6_closest_19 : decode cX6_closest 19 = .ok (.if_icmp .eq 26, 3) := by decide +kernel
theorem dX6_closest_22 : decode cX6_closest 22 = .ok (.iload_n 1, 1) := by decide +kernel
theorem dX6_closest_23 : decode cX6_closest 23 = .ok (.bipush (-2), 2) := by decide +kernel
theorem dX6_closest_25 : decode cX6_closest 25 = .ok (.if_icmp .eq 13, 3) := by decide +kernel
theorem dX6_closest_28 : decode cX6_closest 28 = .ok (.aload_n 0, 1) := by decide +kernel
theorem dX6_closest_29 : decode cX6_closest 29 = .ok (.iload_n 2, 1) := by decide +kernel
theorem dX6_closest_30 : decode cX6_closest 30 = .ok (.iload_n 3, 1) := by decide +kernel
theorem dX6_closest_31 : decode cX6_closest 31 = .ok (.invokevirtual 52, 3) := by decide +kernel
theorem dX6_closest_34 : decode cX6_closest 34 = .ok (.iload_n 1, 1) := by decide +kernel
theorem dX6_closest_35 : decode cX6_closest 35 = .ok (.if_icmp .ge 10, 3) := by decide +kernel
theorem dX6_closest_38 : decode cX6_closest 38 = .ok (.aload_n 0, 1) := by decide +kernel
theorem dX6_closest_39 : decode cX6_closest 39 = .ok (.iload_n 2, 1) := by decide +kernel
theorem dX6_closest_40 : decode cX6_closest 40 = .ok (.iload_n 3, 1) := by decide +kernel
theorem dX6_closest_41 : decode cX6_closest 41 = .ok (.invokevirtual 52, 3) := by decide +kernel
theorem dX6_closest_44 : decode cX6_closest 44 = .ok (.istore_n 1, 1) := by decide +kernel
theorem dX6_closest_45 : decode cX6_closest 45 = .ok (.iinc 2 1, 3) := by decide +kernel
theorem dX6_closest_48 : decode cX6_closest 48 = .ok (.goto (-43), 3) := by decide +kernel
theorem dX6_closest_51 : decode cX6_closest 51 = .ok (.iload_n 1, 1) := by decide +kernel
theorem dX6_closest_52 : decode cX6_closest 52 = .ok (.ireturn, 1) := by decide +kernel
theorem dX2_nextDry_0 : decode cX2_nextDry 0 = .ok (.iload_n 1, 1) := by decide +kernel
theorem dX2_nextDry_1 : decode cX2_nextDry 1 = .ok (.iconst 0, 1) := by decide +kernel
theorem dX2_nextDry_2 : decode cX2_nextDry 2 = .ok (.invokestatic 39, 3) := by decide +kernel
theorem dX2_nextDry_5 : decode cX2_nextDry 5 = .ok (.istore_n 2, 1) := by decide +kernel
theorem dX2_nextDry_6 : decode cX2_nextDry 6 = .ok (.iload_n 2, 1) := by decide +kernel
theorem dX2_nextDry_7 : decode cX2_nextDry 7 = .ok (.bipush 40, 2) := by decide +kernel
theorem dX2_nextDry_9 : decode cX2_nextDry 9 = .ok (.if_icmp .ge 19, 3) := by decide +kernel
theorem dX2_nextDry_12 : decode cX2_nextDry 12 = .ok (.aload_n 0, 1) := by decide +kernel
theorem dX2_nextDry_13 : decode cX2_nextDry 13 = .ok (.iload_n 2, 1) := by decide +kernel
theorem dX2_nextDry_14 : decode cX2_nextDry 14 = .ok (.invokevirtual 45, 3) := by decide +kernel
theorem dX2_nextDry_17 : decode cX2_nextDry 17 = .ok (.ifCond .eq 5, 3) := by decide +kernel
theorem dX2_nextDry_20 : decode cX2_nextDry 20 = .ok (.iload_n 2, 1) := by decide +kernel
theorem dX2_nextDry_21 : decode cX2_nextDry 21 = .ok (.ireturn, 1) := by decide +kernel
theorem dX2_nextDry_22 : decode cX2_nextDry 22 = .ok (.iinc 2 1, 3) := by decide +kernel
theorem dX2_nextDry_25 : decode cX2_nextDry 25 = .ok (.goto (-19), 3) := by decide +kernel
theorem dX2_nextDry_28 : decode cX2_nextDry 28 = .ok (.iconst (-1), 1) := by decide +kernel
theorem dX2_nextDry_29 : decode cX2_nextDry 29 = .ok (.ireturn, 1) := by decide +kernel
set_option maxHeartbeats 4000000 in
theorem c_J7_fill_53178 (k len : Nat) (hk : ∀ {ad : Nat → Nat} {cI cZ cB : ClassId}, IA (glC ad cI cZ cB) 60 k cI len) (hlen : len < 2 ^ 31) (v : Int32) (M : Mem) : AM yJ7_fill_53178 cJ7_fill_53178 4 none 0 60 glC (fun ad => [.ref (ad k), .int v]) M (PV (fun M' => (∀ a c, a ≠ k → M' a c = M a c) ∧ ∀ j, j < len → M' k j = v)) := by
  refine AM.of (by decide) (fun _ => Nat.le_of_ble_eq_true rfl) (fun X ad cI cZ cB hX hR => ?_)
  show V X M [(0, .ref (ad k)), (1, .int v)] [] 0
  refine s_iconst (v := (nI 0)) hX dJ7_fill_53178_0 (by decide) ?_
  refine s_istore_n (lv' := [(0, .ref (ad k)), (1, .int v), (2, .int (nI 0))]) hX dJ7_fill_53178_1 rfl (by decide) rfl ?_
  refine s_aload_n (k := 0) hX dJ7_fill_53178_2 rfl rfl ?_
  refine s_alen (v := nI len) hX hk rfl dJ7_fill_53178_3 ?_
  refine s_istore_n (lv' := [(0, .ref (ad k)), (1, .int v), (2, .int (nI 0)), (3, .int (nI len))]) hX dJ7_fill_53178_4 rfl (by decide) rfl ?_
  have lp5 : ∀ (N5 : Nat) (i : Nat) (Mi : Mem), (i ≤ len) → (len < i + N5) → (∀ a c, a ≠ k → Mi a c = M a c) → (∀ j, j < i → Mi k j = v) → V X Mi [(0, .ref (ad k)), (1, .int v), (2, .int (nI i)), (3, .int (nI len))] [] 5 := by
    intro N5
    induction N5 with
    | zero => intro i Mi hi hN5 hf hv; exact absurd hN5 (by omega)
    | succ N5 ih5 =>
      intro i Mi hi hN5 hf hv
      refine s_iload_n (k := 2) hX dJ7_fill_53178_5 rfl rfl ?_
      refine s_iload_n (k := 3) hX dJ7_fill_53178_6 rfl rfl ?_
      refine s_icmp_ge (tgt := 20) hX dJ7_fill_53178_7 (by decide) (fun c7 => ?_) (fun c7 => ?_)
      · replace c7 := (nI_leI (by omega) (by omega)).mp c7
        exact s_vret hX hR dJ7_fill_53178_20 ⟨hf, fun j hj => hv j (by omega)⟩
      · replace c7 := mt (nI_leI (by omega) (by omega)).mpr c7
        refine s_aload_n (k := 0) hX dJ7_fill_53178_10 rfl rfl ?_
        refine s_iload_n (k := 2) hX dJ7_fill_53178_11 rfl rfl ?_
        refine s_iload_n (k := 1) hX dJ7_fill_53178_12 rfl rfl ?_
        refine s_iastN (hlen := hlen) hX hk (by omega) dJ7_fill_53178_13 ?_
        refine s_mem (fun M_3 eM_3 => ?_)
        refine s_iinc (k := 2) (v := nI (i + 1)) (lv' := [(0, .ref (ad k)), (1, .int v), (3, .int (nI len)), (2, .int (nI (i + 1)))]) hX dJ7_fill_53178_14 (nI_1 _) (by decide) rfl rfl ?_
        refine s_goto (tgt := 5) hX dJ7_fill_53178_17 (by decide) ?_
        refine s_loc [0, 1, 3, 2] rfl ?_
        exact ih5 (i + 1) _ (by omega) (by omega) (by subst_vars; exact fl1 hf) (by subst_vars; exact fl2 hv)
  exact lp5 (len + 1) 0 M (by omega) (by omega) (fun _ _ _ => rfl) (fun j hj => absurd hj (by omega))
set_option maxHeartbeats 4000000 in
theorem c_X5_pass (b : Nat) (hb : isF b) (m : Nat) (hm : m ≤ 60) (M : Mem) (hT : ∀ j, j < 40 → M (b + 4) j = 0) : AM yX5_pass cX5_pass 6 none 0 60 glC (fun ad => [.ref (ad 21), .ref (ad b), .ref (ad 44), .int (nI m)]) M (PV (fun M' => (∀ a c, a ≠ 21 → a ≠ b → M' a c = M a c) ∧ M' 21 1 = nI 0 ∧ M' 21 2 = nI 0)) := by
  refine AM.of (by decide) (fun _ => Nat.le_of_ble_eq_true rfl) (fun X ad cI cZ cB hX hR => ?_)
  show V X M [(0, .ref (ad 21)), (1, .ref (ad b)), (2, .ref (ad 44)), (3, .int (nI m))] [] 0
  have hb0 : b = 1 ∨ b = 7 ∨ b = 13 := hb
  refine s_aload_n (k := 0) hX dX5_pass_0 rfl rfl ?_
  refine s_iconst (v := (nI 0)) hX dX5_pass_1 (by decide) ?_
  refine s_puti (ty := .int) hX fX5_15 oC21 rfl (Nat.le_of_ble_eq_true rfl) ty_5_1 rfl rfl dX5_pass_2 ?_
  refine s_mem (fun M_1 eM_1 => ?_)
  refine s_aload_n (k := 0) hX dX5_pass_5 rfl rfl ?_
  refine s_iconst (v := (nI 0)) hX dX5_pass_6 (by decide) ?_
  refine s_puti (ty := .int) hX fX5_19 oC21 rfl (Nat.le_of_ble_eq_true rfl) ty_5_2 rfl rfl dX5_pass_7 ?_
  refine s_mem (fun M_2 eM_2 => ?_)
  refine s_iconst (v := (nI 0)) hX dX5_pass_10 (by decide) ?_
  refine s_istore (lv' := [(0, .ref (ad 21)), (1, .ref (ad b)), (2, .ref (ad 44)), (3, .int (nI m)), (4, .int (nI 0))]) hX dX5_pass_11 (by decide) rfl ?_
  have lp13 : ∀ (N13 : Nat) (g : Nat) (Mi : Mem), (g ≤ m) → (m < g + N13) → (∀ a c, a ≠ 21 → a ≠ b → Mi a c = M a c) → (Mi 21 1 = nI 0) → (Mi 21 2 = nI 0) → V X Mi [(0, .ref (ad 21)), (1, .ref (ad b)), (2, .ref (ad 44)), (3, .int (nI m)), (4, .int (nI g))] [] 13 := by
    intro N13
    induction N13 with
    | zero => intro g Mi hg hN13 hf h1 h2; exact absurd hN13 (by omega)
    | succ N13 ih13 =>
      intro g Mi hg hN13 hf h1 h2
      refine s_iload (k := 4) hX dX5_pass_13 rfl ?_
      refine s_iload_n (k := 3) hX dX5_pass_15 rfl rfl ?_
      refine s_icmp_ge (tgt := 79) hX dX5_pass_16 (by decide) (fun c16 => ?_) (fun c16 => ?_)
      · replace c16 := (nI_leI (by omega) (by omega)).mp c16
        exact s_vret hX hR dX5_pass_79 ⟨hf, h1, h2⟩
      · replace c16 := mt (nI_leI (by omega) (by omega)).mpr c16
        refine s_aload_n (k := 1) hX dX5_pass_19 rfl rfl ?_
        refine s_get hX fX5_22 (oF hb) rfl dX5_pass_20 ?_
        refine s_sipush (v := (nI 9999)) hX dX5_pass_23 (by decide) ?_
        refine s_icmp_ge (tgt := 79) hX dX5_pass_26 (by decide) (fun c26 => ?_) (fun c26 => ?_)
        · exact s_vret hX hR dX5_pass_79 ⟨hf, h1, h2⟩
        · refine s_iconst (v := (nI 0)) hX dX5_pass_29 (by decide) ?_
          refine s_istore (lv' := [(0, .ref (ad 21)), (1, .ref (ad b)), (2, .ref (ad 44)), (3, .int (nI m)), (4, .int (nI g)), (5, .int (nI 0))]) hX dX5_pass_30 (by decide) rfl ?_
          have lp32 : ∀ (N32 : Nat) (i : Nat), (i ≤ 40) → (40 < i + N32) → V X Mi [(0, .ref (ad 21)), (1, .ref (ad b)), (2, .ref (ad 44)), (3, .int (nI m)), (4, .int (nI g)), (5, .int (nI i))] [] 32 := by
            intro N32
            induction N32 with
            | zero => intro i hi hN32; exact absurd hN32 (by omega)
            | succ N32 ih32 =>
              intro i hi hN32
              refine s_iload (k := 5) hX dX5_pass_32 rfl ?_
              refine s_bipush (v := (nI 40)) hX dX5_pass_34 (by decide) ?_
              refine s_icmp_ge (tgt := 63) hX dX5_pass_36 (by decide) (fun c36 => ?_) (fun c36 => ?_)
              · replace c36 := (nI_leI (by omega) (by omega)).mp c36
                refine s_aload_n (k := 1) hX dX5_pass_63 rfl rfl ?_
                refine s_dup hX dX5_pass_64 rfl ?_
                refine s_get hX fX5_22 (oF hb) rfl dX5_pass_65 ?_
                refine s_iconst (v := (nI 1)) hX dX5_pass_68 (by decide) ?_
                refine s_iadd hX dX5_pass_69 ?_
                refine s_puti (ty := .int) hX fX5_22 (oF hb) rfl (Nat.le_of_ble_eq_true rfl) ty_2_5 rfl rfl dX5_pass_70 ?_
                refine s_mem (fun M_5 eM_5 => ?_)
                refine s_iinc (k := 4) (v := nI (g + 1)) (lv' := [(0, .ref (ad 21)), (1, .ref (ad b)), (2, .ref (ad 44)), (3, .int (nI m)), (5, .int (nI i)), (4, .int (nI (g + 1)))]) hX dX5_pass_73 (nI_1 _) (by decide) rfl rfl ?_
                refine s_goto (tgt := 13) hX dX5_pass_76 (by decide) ?_
                refine s_loc [0, 1, 2, 3, 5] rfl ?_
                exact ih13 (g + 1) _ (by omega) (by omega) (by subst_vars; exact ps4 hf) (by subst_vars; exact ps5 hb h1) (by subst_vars; exact ps5 hb h2)
              · replace c36 := mt (nI_leI (by omega) (by omega)).mpr c36
                refine s_aload_n (k := 1) hX dX5_pass_39 rfl rfl ?_
                refine s_get hX fX5_27 (oF hb) rfl dX5_pass_40 ?_
                refine s_iload (k := 5) hX dX5_pass_43 rfl ?_
                refine s_zaldN hX (aF4 hb) (by omega) dX5_pass_45 ?_
                refine s_if_eq (tgt := 57) hX dX5_pass_46 (by decide) (fun c46 => ?_) (fun c46 => ?_)
                · refine s_iinc (k := 5) (v := nI (i + 1)) (lv' := [(0, .ref (ad 21)), (1, .ref (ad b)), (2, .ref (ad 44)), (3, .int (nI m)), (4, .int (nI g)), (5, .int (nI (i + 1)))]) hX dX5_pass_57 (nI_1 _) (by decide) rfl rfl ?_
                  refine s_goto (tgt := 32) hX dX5_pass_60 (by decide) ?_
                  exact ih32 (i + 1) (by omega) (by omega)
                · exact absurd ((hf (b + 4) i (by omega) (by omega)).trans (hT i (by omega))) c46
          exact lp32 41 0 (by omega) (by omega)
  exact lp13 (m + 1) 0 _ (by omega) (by omega) (by subst_vars; exact ps1) (by subst_vars; exact ps2) (by subst_vars; exact ps3)
set_option maxHeartbeats 4000000 in
theorem c_X2_canStand (b : Nat) (hb : isF b) (f : Nat) (hf : f = 40 ∨ f = 41) (M : Mem) : AM yX2_canStand cX2_canStand 2 (some .boolean) 0 60 glC (fun ad => [.ref (ad b), .int (nI f)]) M (PI (fun r M' => r = nI 1 ∧ M = M')) := by
  refine AM.of (by decide) (fun _ => Nat.le_of_ble_eq_true rfl) (fun X ad cI cZ cB hX hR => ?_)
  show V X M [(0, .ref (ad b)), (1, .int (nI f))] [] 0
  refine s_iload_n (k := 1) hX dX2_canStand_0 rfl rfl ?_
  refine s_bipush (v := (nI 40)) hX dX2_canStand_1 (by decide) ?_
  refine s_icmp_eq (tgt := 20) hX dX2_canStand_3 (by decide) (fun c3 => ?_) (fun c3 => ?_)
  · replace c3 := (nI_eq (by omega) (by omega)).mp c3
    refine s_iconst (v := (nI 1)) hX dX2_canStand_20 (by decide) ?_
    refine s_goto (tgt := 25) hX dX2_canStand_21 (by decide) ?_
    exact s_zret hX hR dX2_canStand_25 (by first | decide | assumption) ⟨rfl, rfl⟩
  · replace c3 := mt (nI_eq (by omega) (by omega)).mpr c3
    refine s_iload_n (k := 1) hX dX2_canStand_6 rfl rfl ?_
    refine s_bipush (v := (nI 41)) hX dX2_canStand_7 (by decide) ?_
    refine s_icmp_eq (tgt := 20) hX dX2_canStand_9 (by decide) (fun c9 => ?_) (fun c9 => ?_)
    · replace c9 := (nI_eq (by omega) (by omega)).mp c9
      refine s_iconst (v := (nI 1)) hX dX2_canStand_20 (by decide) ?_
      refine s_goto (tgt := 25) hX dX2_canStand_21 (by decide) ?_
      exact s_zret hX hR dX2_canStand_25 (by first | decide | assumption) ⟨rfl, rfl⟩
    · replace c9 := mt (nI_eq (by omega) (by omega)).mpr c9
      omega
set_option maxHeartbeats 4000000 in
theorem c_X2_heightOf (b : Nat) (hb : isF b) (f : Nat) (hf : f = 40 ∨ f = 41) (M : Mem) : AM yX2_heightOf cX2_heightOf 2 (some .int) 0 60 glC (fun ad => [.ref (ad b), .int (nI f)]) M (PI (fun r M' => r = nI (if f = 41 then 21 else 0) ∧ M = M')) := by
  refine AM.of (by decide) (fun _ => Nat.le_of_ble_eq_true rfl) (fun X ad cI cZ cB hX hR => ?_)
  show V X M [(0, .ref (ad b)), (1, .int (nI f))] [] 0
  refine s_iload_n (k := 1) hX dX2_heightOf_0 rfl rfl ?_
  refine s_bipush (v := (nI 41)) hX dX2_heightOf_1 (by decide) ?_
  refine s_icmp_ne (tgt := 9) hX dX2_heightOf_3 (by decide) (fun c3 => ?_) (fun c3 => ?_)
  · replace c3 := mt (nI_eq (by omega) (by omega)).mpr c3
    refine s_iload_n (k := 1) hX dX2_heightOf_9 rfl rfl ?_
    refine s_if_lt (tgt := 28) hX dX2_heightOf_10 (by decide) (fun c10 => ?_) (fun c10 => ?_)
    · exact absurd c10 (nI_pos (by omega))
    · refine s_iload_n (k := 1) hX dX2_heightOf_13 rfl rfl ?_
      refine s_bipush (v := (nI 40)) hX dX2_heightOf_14 (by decide) ?_
      refine s_icmp_ge (tgt := 28) hX dX2_heightOf_16 (by decide) (fun c16 => ?_) (fun c16 => ?_)
      · replace c16 := (nI_leI (by omega) (by omega)).mp c16
        refine s_iconst (v := (nI 0)) hX dX2_heightOf_28 (by decide) ?_
        exact s_iret hX hR dX2_heightOf_29 ⟨by rw [if_neg (by omega)], rfl⟩
      · replace c16 := mt (nI_leI (by omega) (by omega)).mpr c16
        omega
  · replace c3 := (nI_eq (by omega) (by omega)).mp c3
    refine s_bipush (v := (nI 21)) hX dX2_heightOf_6 (by decide) ?_
    exact s_iret hX hR dX2_heightOf_8 ⟨by rw [if_pos (by omega)], rfl⟩
set_option maxHeartbeats 4000000 in
theorem c_X2_isStep (b : Nat) (hb : isF b) (f : Nat) (hf : f = 40 ∨ f = 41) (t : Nat) (ht : t < 42) (s : Int32) (M : Mem) (hT : ∀ j, j < 40 → M (b + 4) j = 0) : AM yX2_isStep cX2_isStep 4 (some .boolean) 1 60 glC (fun ad => [.ref (ad b), .int (nI f), .int (nI t), .int s]) M (PI (fun r M' => r = bI (f ≠ t ∧ 40 ≤ t ∧ 21 ≤ s.toInt) ∧ M = M')) := by
  refine AM.of (by decide) (fun _ => Nat.le_of_ble_eq_true rfl) (fun X ad cI cZ cB hX hR => ?_)
  show V X M [(0, .ref (ad b)), (1, .int (nI f)), (2, .int (nI t)), (3, .int s)] [] 0
  refine s_iload_n (k := 1) hX dX2_isStep_0 rfl rfl ?_
  refine s_iload_n (k := 2) hX dX2_isStep_1 rfl rfl ?_
  refine s_icmp_eq (tgt := 13) hX dX2_isStep_2 (by decide) (fun c2 => ?_) (fun c2 => ?_)
  · replace c2 := (nI_eq (by omega) (by omega)).mp c2
    refine s_iconst (v := (nI 0)) hX dX2_isStep_13 (by decide) ?_
    exact s_zret hX hR dX2_isStep_14 (by first | decide | assumption) ⟨bI_f (by omega), rfl⟩
  · replace c2 := mt (nI_eq (by omega) (by omega)).mpr c2
    refine s_aload_n (k := 0) hX dX2_isStep_5 rfl rfl ?_
    refine s_iload_n (k := 1) hX dX2_isStep_6 rfl rfl ?_
    refine s_callVi hX (c_X2_canStand b hb f hf M) mX2_canStand lX2_56 (by decide) (by decide) (oF hb) rfl rfl rfl rfl rfl (Nat.le_of_ble_eq_true rfl) dX2_isStep_7 (fun r7 M_1 hp7 => ?_)
    obtain ⟨rfl, h2⟩ := hp7
    subst h2
    refine s_if_ne (tgt := 15) hX dX2_isStep_10 (by decide) (fun c10 => ?_) (fun c10 => ?_)
    · refine s_iload_n (k := 2) hX dX2_isStep_15 rfl rfl ?_
      refine s_if_lt (tgt := 60) hX dX2_isStep_16 (by decide) (fun c16 => ?_) (fun c16 => ?_)
      · exact absurd c16 (nI_pos (by omega))
      · refine s_iload_n (k := 2) hX dX2_isStep_19 rfl rfl ?_
        refine s_bipush (v := (nI 40)) hX dX2_isStep_20 (by decide) ?_
        refine s_icmp_ge (tgt := 60) hX dX2_isStep_22 (by decide) (fun c22 => ?_) (fun c22 => ?_)
        · replace c22 := (nI_leI (by omega) (by omega)).mp c22
          have hft : (f = 40 ∧ t = 41) ∨ (f = 41 ∧ t = 40) := by omega
          rcases hft with ⟨rfl, rfl⟩ | ⟨rfl, rfl⟩
          · refine s_iload_n (k := 2) hX dX2_isStep_60 rfl rfl ?_
            refine s_bipush (v := (nI 40)) hX dX2_isStep_61 (by decide) ?_
            refine s_icmp_eq (tgt := 72) hX dX2_isStep_63 (by decide) (fun c63 => ?_) (fun c63 => ?_)
            · first | exact absurd (by decide) c63 | exact absurd c63 (by decide)
            · refine s_iload_n (k := 2) hX dX2_isStep_66 rfl rfl ?_
              refine s_bipush (v := (nI 41)) hX dX2_isStep_67 (by decide) ?_
              refine s_icmp_ne (tgt := 94) hX dX2_isStep_69 (by decide) (fun c69 => ?_) (fun c69 => ?_)
              · first | exact absurd (by decide) c69 | exact absurd c69 (by decide)
              · refine s_aload_n (k := 0) hX dX2_isStep_72 rfl rfl ?_
                refine s_iload_n (k := 1) hX dX2_isStep_73 rfl rfl ?_
                refine s_callVi hX (c_X2_heightOf b hb _ (by omega) M) mX2_heightOf lX2_63 (by decide) (by decide) (oF hb) rfl rfl rfl rfl rfl (Nat.le_of_ble_eq_true rfl) dX2_isStep_74 (fun r74 M_2 hp74 => ?_)
                obtain ⟨rfl, h2⟩ := hp74
                subst h2
                refine s_aload_n (k := 0) hX dX2_isStep_77 rfl rfl ?_
                refine s_iload_n (k := 2) hX dX2_isStep_78 rfl rfl ?_
                refine s_callVi hX (c_X2_heightOf b hb _ (by omega) M) mX2_heightOf lX2_63 (by decide) (by decide) (oF hb) rfl rfl rfl rfl rfl (Nat.le_of_ble_eq_true rfl) dX2_isStep_79 (fun r79 M_3 hp79 => ?_)
                obtain ⟨rfl, h2⟩ := hp79
                subst h2
                refine s_isub hX dX2_isStep_82 ?_
                refine s_mabs hX lX2_67 mJ9_abs (by decide) (Nat.le_of_ble_eq_true rfl) dX2_isStep_83 ?_
                refine s_top (y := nI 21) (by decide) ?_
                refine s_iload_n (k := 3) hX dX2_isStep_86 rfl rfl ?_
                refine s_icmp_gt (tgt := 94) hX dX2_isStep_87 (by decide) (fun c87 => ?_) (fun c87 => ?_)
                · replace c87 := Int32.lt_iff_toInt_lt.mp c87; rw [nI_toInt (by decide)] at c87
                  refine s_iconst (v := (nI 0)) hX dX2_isStep_94 (by decide) ?_
                  exact s_zret hX hR dX2_isStep_95 (by first | decide | assumption) ⟨bI_f (by omega), rfl⟩
                · replace c87 := mt Int32.lt_iff_toInt_lt.mpr c87; rw [nI_toInt (by decide)] at c87
                  refine s_iconst (v := (nI 1)) hX dX2_isStep_90 (by decide) ?_
                  refine s_goto (tgt := 95) hX dX2_isStep_91 (by decide) ?_
                  exact s_zret hX hR dX2_isStep_95 (by first | decide | assumption) ⟨bI_t (by omega), rfl⟩
          · refine s_iload_n (k := 2) hX dX2_isStep_60 rfl rfl ?_
            refine s_bipush (v := (nI 40)) hX dX2_isStep_61 (by decide) ?_
            refine s_icmp_eq (tgt := 72) hX dX2_isStep_63 (by decide) (fun c63 => ?_) (fun c63 => ?_)
            · refine s_aload_n (k := 0) hX dX2_isStep_72 rfl rfl ?_
              refine s_iload_n (k := 1) hX dX2_isStep_73 rfl rfl ?_
              refine s_callVi hX (c_X2_heightOf b hb _ (by omega) M) mX2_heightOf lX2_63 (by decide) (by decide) (oF hb) rfl rfl rfl rfl rfl (Nat.le_of_ble_eq_true rfl) dX2_isStep_74 (fun r74 M_4 hp74 => ?_)
              obtain ⟨rfl, h2⟩ := hp74
              subst h2
              refine s_aload_n (k := 0) hX dX2_isStep_77 rfl rfl ?_
              refine s_iload_n (k := 2) hX dX2_isStep_78 rfl rfl ?_
              refine s_callVi hX (c_X2_heightOf b hb _ (by omega) M) mX2_heightOf lX2_63 (by decide) (by decide) (oF hb) rfl rfl rfl rfl rfl (Nat.le_of_ble_eq_true rfl) dX2_isStep_79 (fun r79 M_5 hp79 => ?_)
              obtain ⟨rfl, h2⟩ := hp79
              subst h2
              refine s_isub hX dX2_isStep_82 ?_
              refine s_mabs hX lX2_67 mJ9_abs (by decide) (Nat.le_of_ble_eq_true rfl) dX2_isStep_83 ?_
              refine s_top (y := nI 21) (by decide) ?_
              refine s_iload_n (k := 3) hX dX2_isStep_86 rfl rfl ?_
              refine s_icmp_gt (tgt := 94) hX dX2_isStep_87 (by decide) (fun c87 => ?_) (fun c87 => ?_)
              · replace c87 := Int32.lt_iff_toInt_lt.mp c87; rw [nI_toInt (by decide)] at c87
                refine s_iconst (v := (nI 0)) hX dX2_isStep_94 (by decide) ?_
                exact s_zret hX hR dX2_isStep_95 (by first | decide | assumption) ⟨bI_f (by omega), rfl⟩
              · replace c87 := mt Int32.lt_iff_toInt_lt.mpr c87; rw [nI_toInt (by decide)] at c87
                refine s_iconst (v := (nI 1)) hX dX2_isStep_90 (by decide) ?_
                refine s_goto (tgt := 95) hX dX2_isStep_91 (by decide) ?_
                exact s_zret hX hR dX2_isStep_95 (by first | decide | assumption) ⟨bI_t (by omega), rfl⟩
            · first | exact absurd (by decide) c63 | exact absurd c63 (by decide)
        · replace c22 := mt (nI_leI (by omega) (by omega)).mpr c22
          refine s_aload_n (k := 0) hX dX2_isStep_25 rfl rfl ?_
          refine s_iload_n (k := 2) hX dX2_isStep_26 rfl rfl ?_
          refine s_callVi hX (c_X2_isDry b hb (nI t) M hT) mX2_isDry lX2_45 (by decide) (by decide) (oF hb) rfl rfl rfl rfl rfl (Nat.le_of_ble_eq_true rfl) dX2_isStep_27 (fun r27 M_6 hp27 => ?_)
          obtain ⟨rfl, h2⟩ := hp27
          subst h2
          refine s_if_eq (tgt := 58) hX dX2_isStep_30 (by decide) (fun c30 => ?_) (fun c30 => ?_)
          · refine s_iconst (v := (nI 0)) hX dX2_isStep_58 (by decide) ?_
            exact s_zret hX hR dX2_isStep_59 (by first | decide | assumption) ⟨bI_f (by omega), rfl⟩
          · first | exact absurd (by decide) c30 | exact absurd c30 (by decide)
    · first | exact absurd (by decide) c10 | exact absurd c10 (by decide)
set_option maxHeartbeats 4000000 in
theorem c_X8_spreadOn (b : Nat) (hb : isF b) (s : Int32) (M : Mem) (hT : ∀ j, j < 40 → M (b + 4) j = 0) (hv : ∀ j, j < 42 → M 24 j = -1) : AM yX8_spreadOn cX8_spreadOn 11 (some .int) 2 60 glC (fun ad => [.ref (ad 23), .ref (ad b), .int s, .int (nI 40), .ref (ad 24), .int (nI 42)]) M (PI (fun _ M' => (∀ a c, a ≠ 24 → a ≠ 26 → M' a c = M a c) ∧ (M' 24 41 = -1 ↔ s.toInt < 21))) := by
  refine AM.of (by decide) (fun _ => Nat.le_of_ble_eq_true rfl) (fun X ad cI cZ cB hX hR => ?_)
  show V X M [(0, .ref (ad 23)), (1, .ref (ad b)), (2, .int s), (3, .int (nI 40)), (4, .ref (ad 24)), (5, .int (nI 42))] [] 0
  have hb0 : b = 1 ∨ b = 7 ∨ b = 13 := hb
  refine s_iload_n (k := 3) hX dX8_spreadOn_0 rfl rfl ?_
  refine s_if_lt (tgt := 18) hX dX8_spreadOn_1 (by decide) (fun c1 => ?_) (fun c1 => ?_)
  · first | exact absurd (by decide) c1 | exact absurd c1 (by decide)
  · refine s_iload_n (k := 3) hX dX8_spreadOn_4 rfl rfl ?_
    refine s_bipush (v := (nI 42)) hX dX8_spreadOn_5 (by decide) ?_
    refine s_icmp_ge (tgt := 18) hX dX8_spreadOn_7 (by decide) (fun c7 => ?_) (fun c7 => ?_)
    · replace c7 := (nI_leI (by omega) (by omega)).mp c7
      omega
    · replace c7 := mt (nI_leI (by omega) (by omega)).mpr c7
      refine s_aload (k := 4) hX dX8_spreadOn_10 rfl ?_
      refine s_alen (v := nI 42) hX aC24 rfl dX8_spreadOn_12 ?_
      refine s_bipush (v := (nI 42)) hX dX8_spreadOn_13 (by decide) ?_
      refine s_icmp_ge (tgt := 20) hX dX8_spreadOn_15 (by decide) (fun c15 => ?_) (fun c15 => ?_)
      · refine s_aload (k := 4) hX dX8_spreadOn_20 rfl ?_
        refine s_iload_n (k := 3) hX dX8_spreadOn_22 rfl rfl ?_
        refine s_iconst (v := (nI 0)) hX dX8_spreadOn_23 (by decide) ?_
        refine s_iastN hX aC24 (by omega) dX8_spreadOn_24 ?_
        refine s_mem (fun M_1 eM_1 => ?_)
        refine s_aload_n (k := 0) hX dX8_spreadOn_25 rfl rfl ?_
        refine s_get hX fX8_18 oC23 rfl dX8_spreadOn_26 ?_
        refine s_iconst (v := (nI 0)) hX dX8_spreadOn_29 (by decide) ?_
        refine s_iload_n (k := 3) hX dX8_spreadOn_30 rfl rfl ?_
        refine s_iastN hX aC26 (by omega) dX8_spreadOn_31 ?_
        refine s_mem (fun M_2 eM_2 => ?_)
        refine s_iconst (v := (nI 1)) hX dX8_spreadOn_32 (by decide) ?_
        refine s_istore (lv' := [(0, .ref (ad 23)), (1, .ref (ad b)), (2, .int s), (3, .int (nI 40)), (4, .ref (ad 24)), (5, .int (nI 42)), (6, .int (nI 1))]) hX dX8_spreadOn_33 (by decide) rfl ?_
        refine s_iconst (v := (nI 0)) hX dX8_spreadOn_35 (by decide) ?_
        refine s_istore (lv' := [(0, .ref (ad 23)), (1, .ref (ad b)), (2, .int s), (3, .int (nI 40)), (4, .ref (ad 24)), (5, .int (nI 42)), (6, .int (nI 1)), (7, .int (nI 0))]) hX dX8_spreadOn_36 (by decide) rfl ?_
        have lp38 : ∀ (N38 : Nat) (h t : Nat) (Mi : Mem), (h ≤ t) → (1 ≤ t) → (t ≤ 2) → (2 < h + N38) → (spJ M s h 0 t Mi) → V X Mi [(0, .ref (ad 23)), (1, .ref (ad b)), (2, .int s), (3, .int (nI 40)), (4, .ref (ad 24)), (5, .int (nI 42)), (6, .int (nI t)), (7, .int (nI h))] [] 38 := by
          intro N38
          induction N38 with
          | zero => intro h t Mi hht h1t ht2 hN38 hI; exact absurd hN38 (by omega)
          | succ N38 ih38 =>
            intro h t Mi hht h1t ht2 hN38 hI
            refine s_iload (k := 7) hX dX8_spreadOn_38 rfl ?_
            refine s_iload (k := 6) hX dX8_spreadOn_40 rfl ?_
            refine s_icmp_ge (tgt := 162) hX dX8_spreadOn_42 (by decide) (fun c42 => ?_) (fun c42 => ?_)
            · replace c42 := (nI_leI (by omega) (by omega)).mp c42
              refine s_iload (k := 6) hX dX8_spreadOn_162 rfl ?_
              exact s_iret hX hR dX8_spreadOn_164 ⟨hI.1, sp6 hI (by omega) h1t ht2⟩
            · replace c42 := mt (nI_leI (by omega) (by omega)).mpr c42
              have hh : h < 2 := by omega
              have hq := sp2 hI hh (by omega)
              refine s_iload (k := 7) hX dX8_spreadOn_45 rfl ?_
              refine s_bipush (v := (nI 42)) hX dX8_spreadOn_47 (by decide) ?_
              refine s_icmp_ge (tgt := 162) hX dX8_spreadOn_49 (by decide) (fun c49 => ?_) (fun c49 => ?_)
              · replace c49 := (nI_leI (by omega) (by omega)).mp c49
                omega
              · replace c49 := mt (nI_leI (by omega) (by omega)).mpr c49
                refine s_aload_n (k := 0) hX dX8_spreadOn_52 rfl rfl ?_
                refine s_get hX fX8_18 oC23 rfl dX8_spreadOn_53 ?_
                refine s_iload (k := 7) hX dX8_spreadOn_56 rfl ?_
                refine s_ialdN hX aC26 (by omega) dX8_spreadOn_58 ?_
                refine s_top (y := nI (40 + h)) (hq) ?_
                refine s_istore (lv' := [(0, .ref (ad 23)), (1, .ref (ad b)), (2, .int s), (3, .int (nI 40)), (4, .ref (ad 24)), (5, .int (nI 42)), (6, .int (nI t)), (7, .int (nI h)), (8, .int (nI (40 + h)))]) hX dX8_spreadOn_59 (by decide) rfl ?_
                refine s_iload (k := 8) hX dX8_spreadOn_61 rfl ?_
                refine s_if_lt (tgt := 83) hX dX8_spreadOn_63 (by decide) (fun c63 => ?_) (fun c63 => ?_)
                · exact absurd c63 (nI_pos (by omega))
                · refine s_iload (k := 8) hX dX8_spreadOn_66 rfl ?_
                  refine s_bipush (v := (nI 42)) hX dX8_spreadOn_68 (by decide) ?_
                  refine s_icmp_ge (tgt := 83) hX dX8_spreadOn_70 (by decide) (fun c70 => ?_) (fun c70 => ?_)
                  · replace c70 := (nI_leI (by omega) (by omega)).mp c70
                    omega
                  · replace c70 := mt (nI_leI (by omega) (by omega)).mpr c70
                    refine s_aload (k := 4) hX dX8_spreadOn_73 rfl ?_
                    refine s_iload (k := 8) hX dX8_spreadOn_75 rfl ?_
                    refine s_ialdN hX aC24 (by omega) dX8_spreadOn_77 ?_
                    refine s_iconst (v := (nI 1)) hX dX8_spreadOn_78 (by decide) ?_
                    refine s_iadd hX dX8_spreadOn_79 ?_
                    refine s_goto (tgt := 84) hX dX8_spreadOn_80 (by decide) ?_
                    refine s_topi (fun x9 ex9 => ?_)
                    refine s_istore (lv' := [(0, .ref (ad 23)), (1, .ref (ad b)), (2, .int s), (3, .int (nI 40)), (4, .ref (ad 24)), (5, .int (nI 42)), (6, .int (nI t)), (7, .int (nI h)), (8, .int (nI (40 + h))), (9, .int x9)]) hX dX8_spreadOn_84 (by decide) rfl ?_
                    have hx9 : h = 0 → ¬ x9 = -1 := fun h0 => sp5 hI h0 ex9
                    refine s_iconst (v := (nI 0)) hX dX8_spreadOn_86 (by decide) ?_
                    refine s_istore (lv' := [(0, .ref (ad 23)), (1, .ref (ad b)), (2, .int s), (3, .int (nI 40)), (4, .ref (ad 24)), (5, .int (nI 42)), (6, .int (nI t)), (7, .int (nI h)), (8, .int (nI (40 + h))), (9, .int x9), (10, .int (nI 0))]) hX dX8_spreadOn_87 (by decide) rfl ?_
                    have lp89 : ∀ (N89 : Nat) (i t2 : Nat) (Mj : Mem), (i ≤ 42) → (42 < i + N89) → (h + 1 ≤ t2) → (t2 ≤ 2) → (spJ M s h i t2 Mj) → V X Mj [(0, .ref (ad 23)), (1, .ref (ad b)), (2, .int s), (3, .int (nI 40)), (4, .ref (ad 24)), (5, .int (nI 42)), (6, .int (nI t2)), (7, .int (nI h)), (8, .int (nI (40 + h))), (9, .int x9), (10, .int (nI i))] [] 89 := by
                      intro N89
                      induction N89 with
                      | zero => intro i t2 Mj hi hN89 ht1 ht2 hJ; exact absurd hN89 (by omega)
                      | succ N89 ih89 =>
                        intro i t2 Mj hi hN89 ht1 ht2 hJ
                        refine s_iload (k := 10) hX dX8_spreadOn_89 rfl ?_
                        refine s_iload (k := 5) hX dX8_spreadOn_91 rfl ?_
                        refine s_icmp_ge (tgt := 156) hX dX8_spreadOn_93 (by decide) (fun c93 => ?_) (fun c93 => ?_)
                        · replace c93 := (nI_leI (by omega) (by omega)).mp c93
                          refine s_iinc (k := 7) (v := nI (h + 1)) (lv' := [(0, .ref (ad 23)), (1, .ref (ad b)), (2, .int s), (3, .int (nI 40)), (4, .ref (ad 24)), (5, .int (nI 42)), (6, .int (nI t2)), (8, .int (nI (40 + h))), (9, .int x9), (10, .int (nI i)), (7, .int (nI (h + 1)))]) hX dX8_spreadOn_156 (nI_1 _) (by decide) rfl rfl ?_
                          refine s_goto (tgt := 38) hX dX8_spreadOn_159 (by decide) ?_
                          refine s_loc [0, 1, 2, 3, 4, 5, 6, 10] rfl ?_
                          exact ih38 (h + 1) t2 Mj (by omega) (by omega) (by omega) (by omega) (sp4 hJ (by omega))
                        · replace c93 := mt (nI_leI (by omega) (by omega)).mpr c93
                          refine s_iload (k := 10) hX dX8_spreadOn_96 rfl ?_
                          refine s_bipush (v := (nI 42)) hX dX8_spreadOn_98 (by decide) ?_
                          refine s_icmp_ge (tgt := 156) hX dX8_spreadOn_100 (by decide) (fun c100 => ?_) (fun c100 => ?_)
                          · replace c100 := (nI_leI (by omega) (by omega)).mp c100
                            omega
                          · replace c100 := mt (nI_leI (by omega) (by omega)).mpr c100
                            have hi2 : i < 42 := by omega
                            refine s_aload (k := 4) hX dX8_spreadOn_103 rfl ?_
                            refine s_iload (k := 10) hX dX8_spreadOn_105 rfl ?_
                            refine s_ialdN hX aC24 (by omega) dX8_spreadOn_107 ?_
                            refine s_iconst (v := (-1)) hX dX8_spreadOn_108 (by decide) ?_
                            refine s_icmp_ne (tgt := 150) hX dX8_spreadOn_109 (by decide) (fun c109 => ?_) (fun c109 => ?_)
                            · refine s_iinc (k := 10) (v := nI (i + 1)) (lv' := [(0, .ref (ad 23)), (1, .ref (ad b)), (2, .int s), (3, .int (nI 40)), (4, .ref (ad 24)), (5, .int (nI 42)), (6, .int (nI t2)), (7, .int (nI h)), (8, .int (nI (40 + h))), (9, .int x9), (10, .int (nI (i + 1)))]) hX dX8_spreadOn_150 (nI_1 _) (by decide) rfl rfl ?_
                              refine s_goto (tgt := 89) hX dX8_spreadOn_153 (by decide) ?_
                              exact ih89 (i + 1) t2 Mj (by omega) (by omega) (by omega) (by omega) (sp3a hJ c109 hi2 ht1 ht2)
                            · refine s_iload (k := 6) hX dX8_spreadOn_112 rfl ?_
                              refine s_bipush (v := (nI 42)) hX dX8_spreadOn_114 (by decide) ?_
                              refine s_icmp_ge (tgt := 150) hX dX8_spreadOn_116 (by decide) (fun c116 => ?_) (fun c116 => ?_)
                              · replace c116 := (nI_leI (by omega) (by omega)).mp c116
                                omega
                              · replace c116 := mt (nI_leI (by omega) (by omega)).mpr c116
                                refine s_aload_n (k := 1) hX dX8_spreadOn_119 rfl rfl ?_
                                refine s_iload (k := 8) hX dX8_spreadOn_120 rfl ?_
                                refine s_iload (k := 10) hX dX8_spreadOn_122 rfl ?_
                                refine s_iload_n (k := 2) hX dX8_spreadOn_124 rfl rfl ?_
                                refine s_callVi hX (c_X2_isStep b hb (40 + h) (by omega) i hi2 s Mj (fun j hj => (hJ.1 (b + 4) j (by omega) (by omega)).trans (hT j hj))) mX2_isStep lX8_41 (by decide) (by decide) (oF hb) rfl rfl rfl rfl rfl (Nat.le_of_ble_eq_true rfl) dX8_spreadOn_125 (fun r125 M_7 hp125 => ?_)
                                obtain ⟨rfl, h2⟩ := hp125
                                subst h2
                                refine s_if_eq (tgt := 150) hX dX8_spreadOn_128 (by decide) (fun c128 => ?_) (fun c128 => ?_)
                                · replace c128 := bI_eq c128
                                  refine s_iinc (k := 10) (v := nI (i + 1)) (lv' := [(0, .ref (ad 23)), (1, .ref (ad b)), (2, .int s), (3, .int (nI 40)), (4, .ref (ad 24)), (5, .int (nI 42)), (6, .int (nI t2)), (7, .int (nI h)), (8, .int (nI (40 + h))), (9, .int x9), (10, .int (nI (i + 1)))]) hX dX8_spreadOn_150 (nI_1 _) (by decide) rfl rfl ?_
                                  refine s_goto (tgt := 89) hX dX8_spreadOn_153 (by decide) ?_
                                  exact ih89 (i + 1) t2 Mj (by omega) (by omega) (by omega) (by omega) (sp3c hJ c128)
                                · replace c128 := bI_ne c128
                                  have ht21 := sp7 hJ c109 c128 hi2
                                  refine s_aload (k := 4) hX dX8_spreadOn_131 rfl ?_
                                  refine s_iload (k := 10) hX dX8_spreadOn_133 rfl ?_
                                  refine s_iload (k := 9) hX dX8_spreadOn_135 rfl ?_
                                  refine s_iastN hX aC24 (by omega) dX8_spreadOn_137 ?_
                                  refine s_mem (fun M_8 eM_8 => ?_)
                                  refine s_aload_n (k := 0) hX dX8_spreadOn_138 rfl rfl ?_
                                  refine s_get hX fX8_18 oC23 rfl dX8_spreadOn_139 ?_
                                  refine s_iload (k := 6) hX dX8_spreadOn_142 rfl ?_
                                  refine s_iload (k := 10) hX dX8_spreadOn_144 rfl ?_
                                  refine s_iastN hX aC26 (by omega) dX8_spreadOn_146 ?_
                                  refine s_mem (fun M_9 eM_9 => ?_)
                                  refine s_iinc (k := 6) (v := nI (t2 + 1)) (lv' := [(0, .ref (ad 23)), (1, .ref (ad b)), (2, .int s), (3, .int (nI 40)), (4, .ref (ad 24)), (5, .int (nI 42)), (7, .int (nI h)), (8, .int (nI (40 + h))), (9, .int x9), (10, .int (nI i)), (6, .int (nI (t2 + 1)))]) hX dX8_spreadOn_147 (nI_1 _) (by decide) rfl rfl ?_
                                  refine s_iinc (k := 9) (v := nI (i + 1)) (lv' := [(0, .ref (ad 23)), (1, .ref (ad b)), (2, .int s), (3, .int (nI 40)), (4, .ref (ad 24)), (5, .int (nI 42)), (7, .int (nI h)), (8, .int (nI (40 + h))), (9, .int x9), (6, .int (nI (t2 + 1))), (10, .int (nI (i + 1)))]) hX dX8_spreadOn_150 (nI_1 _) (by decide) rfl rfl ?_
                                  refine s_goto (tgt := 89) hX dX8_spreadOn_153 (by decide) ?_
                                  refine s_loc [0, 1, 2, 3, 4, 5, 9, 6, 7, 8, 10] rfl ?_
                                  exact ih89 (i + 1) (t2 + 1) _ (by omega) (by omega) (by omega) (by omega) (by subst_vars; exact sp3d hJ c109 c128 hi2 hh hx9 ht1)
                    exact lp89 43 0 t Mi (by omega) (by omega) (by omega) (by omega) hI
        exact lp38 3 0 1 _ (by omega) (by omega) (by omega) (by omega) (by subst_vars; exact sp0 hv)
      · exact absurd (by decide) c15
set_option maxHeartbeats 4000000 in
theorem c_X8_spread (b : Nat) (hb : isF b) (s : Int32) (M : Mem) (hT : ∀ j, j < 40 → M (b + 4) j = 0) : AM yX8_spread cX8_spread 6 (some .int) 3 60 glC (fun ad => [.ref (ad 23), .ref (ad b), .int s, .int (nI 40), .ref (ad 24), .int (nI 42)]) M (PI (fun _ M' => (∀ a c, a ≠ 24 → a ≠ 26 → M' a c = M a c) ∧ (M' 24 41 = -1 ↔ s.toInt < 21))) := by
  refine AM.of (by decide) (fun _ => Nat.le_of_ble_eq_true rfl) (fun X ad cI cZ cB hX hR => ?_)
  show V X M [(0, .ref (ad 23)), (1, .ref (ad b)), (2, .int s), (3, .int (nI 40)), (4, .ref (ad 24)), (5, .int (nI 42))] [] 0
  have hb0 : b = 1 ∨ b = 7 ∨ b = 13 := hb
  refine s_aload (k := 4) hX dX8_spread_0 rfl ?_
  refine s_iconst (v := (-1)) hX dX8_spread_2 (by decide) ?_
  refine s_callSv hX (c_J7_fill_53178 24 42 aC24 (by decide) (-1) M) mJ7_fill_53178 lX8_31 (by decide) (by decide) rfl rfl (Nat.le_of_ble_eq_true rfl) dX8_spread_3 (fun M_1 hp3 => ?_)
  obtain ⟨hf1, hv1⟩ := hp3
  refine s_aload_n (k := 0) hX dX8_spread_6 rfl rfl ?_
  refine s_aload_n (k := 1) hX dX8_spread_7 rfl rfl ?_
  refine s_iload_n (k := 2) hX dX8_spread_8 rfl rfl ?_
  refine s_iload_n (k := 3) hX dX8_spread_9 rfl rfl ?_
  refine s_aload (k := 4) hX dX8_spread_10 rfl ?_
  refine s_iload (k := 5) hX dX8_spread_12 rfl ?_
  refine s_callVi hX (c_X8_spreadOn b hb s M_1 (fun j hj => (hf1 (b + 4) j (by omega)).trans (hT j hj)) hv1) mX8_spreadOn lX8_37 (by decide) (by decide) oC23 rfl rfl rfl rfl rfl (Nat.le_of_ble_eq_true rfl) dX8_spread_14 (fun r14 M_2 hp14 => ?_)
  obtain ⟨hf2, hv2⟩ := hp14
  exact s_iret hX hR dX8_spread_17 ⟨fun a c h1 h2 => (hf2 a c h1 h2).trans (hf1 a c h1), hv2⟩
set_option maxHeartbeats 4000000 in
theorem c_X8_canCross (b : Nat) (hb : isF b) (s : Int32) (M : Mem) (hT : ∀ j, j < 40 → M (b + 4) j = 0) : AM yX8_canCross cX8_canCross 3 (some .boolean) 4 60 glC (fun ad => [.ref (ad 23), .ref (ad b), .int s]) M (PI (fun r M' => r = bI (21 ≤ s.toInt) ∧ ∀ a c, a ≠ 24 → a ≠ 26 → M' a c = M a c)) := by
  refine AM.of (by decide) (fun _ => Nat.le_of_ble_eq_true rfl) (fun X ad cI cZ cB hX hR => ?_)
  show V X M [(0, .ref (ad 23)), (1, .ref (ad b)), (2, .int s)] [] 0
  refine s_aload_n (k := 0) hX dX8_canCross_0 rfl rfl ?_
  refine s_aload_n (k := 1) hX dX8_canCross_1 rfl rfl ?_
  refine s_iload_n (k := 2) hX dX8_canCross_2 rfl rfl ?_
  refine s_bipush (v := (nI 40)) hX dX8_canCross_3 (by decide) ?_
  refine s_aload_n (k := 0) hX dX8_canCross_5 rfl rfl ?_
  refine s_get hX fX8_9 oC23 rfl dX8_canCross_6 ?_
  refine s_bipush (v := (nI 42)) hX dX8_canCross_9 (by decide) ?_
  refine s_callVi hX (c_X8_spread b hb s M hT) mX8_spread lX8_47 (by decide) (by decide) oC23 rfl rfl rfl rfl rfl (Nat.le_of_ble_eq_true rfl) dX8_canCross_11 (fun r11 M_1 hp11 => ?_)
  obtain ⟨hf2, hv2⟩ := hp11
  refine s_pop hX dX8_canCross_14 rfl ?_
  refine s_aload_n (k := 0) hX dX8_canCross_15 rfl rfl ?_
  refine s_get hX fX8_9 oC23 rfl dX8_canCross_16 ?_
  refine s_bipush (v := (nI 41)) hX dX8_canCross_19 (by decide) ?_
  refine s_ialdN hX aC24 (by omega) dX8_canCross_21 ?_
  refine s_iconst (v := (-1)) hX dX8_canCross_22 (by decide) ?_
  refine s_icmp_eq (tgt := 30) hX dX8_canCross_23 (by decide) (fun c23 => ?_) (fun c23 => ?_)
  · refine s_iconst (v := (nI 0)) hX dX8_canCross_30 (by decide) ?_
    exact s_zret hX hR dX8_canCross_31 (by first | decide | assumption) ⟨bI_f (by have := hv2.mp c23; omega), hf2⟩
  · refine s_iconst (v := (nI 1)) hX dX8_canCross_26 (by decide) ?_
    refine s_goto (tgt := 31) hX dX8_canCross_27 (by decide) ?_
    exact s_zret hX hR dX8_canCross_31 (by first | decide | assumption) ⟨bI_t (by have := mt hv2.mpr c23; omega), hf2⟩
set_option maxHeartbeats 4000000 in
theorem c_X8_countIslands (b : Nat) (hb : isF b) (s : Int32) (M : Mem) (hT : ∀ j, j < 40 → M (b + 4) j = 0) : AM yX8_countIslands cX8_countIslands 5 (some .int) 1 60 glC (fun ad => [.ref (ad 23), .ref (ad b), .int s]) M (PI (fun r _ => r = nI 0)) := by
  refine AM.of (by decide) (fun _ => Nat.le_of_ble_eq_true rfl) (fun X ad cI cZ cB hX hR => ?_)
  show V X M [(0, .ref (ad 23)), (1, .ref (ad b)), (2, .int s)] [] 0
  have hb0 : b = 1 ∨ b = 7 ∨ b = 13 := hb
  refine s_aload_n (k := 0) hX dX8_countIslands_0 rfl rfl ?_
  refine s_get hX fX8_9 oC23 rfl dX8_countIslands_1 ?_
  refine s_iconst (v := (-1)) hX dX8_countIslands_4 (by decide) ?_
  refine s_callSv hX (c_J7_fill_53178 24 42 aC24 (by decide) (-1) M) mJ7_fill_53178 lX8_31 (by decide) (by decide) rfl rfl (Nat.le_of_ble_eq_true rfl) dX8_countIslands_5 (fun M_1 hp5 => ?_)
  obtain ⟨hf1, hv1⟩ := hp5
  refine s_iconst (v := (nI 0)) hX dX8_countIslands_8 (by decide) ?_
  refine s_istore_n (lv' := [(0, .ref (ad 23)), (1, .ref (ad b)), (2, .int s), (3, .int (nI 0))]) hX dX8_countIslands_9 rfl (by decide) rfl ?_
  refine s_iconst (v := (nI 0)) hX dX8_countIslands_10 (by decide) ?_
  refine s_istore (lv' := [(0, .ref (ad 23)), (1, .ref (ad b)), (2, .int s), (3, .int (nI 0)), (4, .int (nI 0))]) hX dX8_countIslands_11 (by decide) rfl ?_
  have lp13 : ∀ (N13 : Nat) (i : Nat), (i ≤ 40) → (40 < i + N13) → V X M_1 [(0, .ref (ad 23)), (1, .ref (ad b)), (2, .int s), (3, .int (nI 0)), (4, .int (nI i))] [] 13 := by
    intro N13
    induction N13 with
    | zero => intro i hi hN13; exact absurd hN13 (by omega)
    | succ N13 ih13 =>
      intro i hi hN13
      refine s_iload (k := 4) hX dX8_countIslands_13 rfl ?_
      refine s_bipush (v := (nI 40)) hX dX8_countIslands_15 (by decide) ?_
      refine s_icmp_ge (tgt := 64) hX dX8_countIslands_17 (by decide) (fun c17 => ?_) (fun c17 => ?_)
      · replace c17 := (nI_leI (by omega) (by omega)).mp c17
        refine s_iload_n (k := 3) hX dX8_countIslands_64 rfl rfl ?_
        exact s_iret hX hR dX8_countIslands_65 rfl
      · replace c17 := mt (nI_leI (by omega) (by omega)).mpr c17
        refine s_aload_n (k := 1) hX dX8_countIslands_20 rfl rfl ?_
        refine s_iload (k := 4) hX dX8_countIslands_21 rfl ?_
        refine s_callVi hX (c_X2_isDry b hb (nI i) M_1 (fun j hj => (hf1 (b + 4) j (by omega)).trans (hT j hj))) mX2_isDry lX8_104 (by decide) (by decide) (oF hb) rfl rfl rfl rfl rfl (Nat.le_of_ble_eq_true rfl) dX8_countIslands_23 (fun r23 M_4 hp23 => ?_)
        obtain ⟨rfl, h2⟩ := hp23
        subst h2
        refine s_if_eq (tgt := 58) hX dX8_countIslands_26 (by decide) (fun c26 => ?_) (fun c26 => ?_)
        · refine s_iinc (k := 4) (v := nI (i + 1)) (lv' := [(0, .ref (ad 23)), (1, .ref (ad b)), (2, .int s), (3, .int (nI 0)), (4, .int (nI (i + 1)))]) hX dX8_countIslands_58 (nI_1 _) (by decide) rfl rfl ?_
          refine s_goto (tgt := 13) hX dX8_countIslands_61 (by decide) ?_
          exact ih13 (i + 1) (by omega) (by omega)
        · first | exact absurd (by decide) c26 | exact absurd c26 (by decide)
  exact lp13 41 0 (by omega) (by omega)
set_option maxHeartbeats 4000000 in
theorem c_X6_line (b : Nat) (hb : isF b) (M : Mem) (hT : ∀ j, j < 40 → M (b + 4) j = 0) : AM yX6_line cX6_line 4 (some .int) 1 60 glC (fun ad => [.ref (ad b)]) M (PI (fun r _ => r = nI 0)) := by
  refine AM.of (by decide) (fun _ => Nat.le_of_ble_eq_true rfl) (fun X ad cI cZ cB hX hR => ?_)
  show V X M [(0, .ref (ad b))] [] 0
  refine s_iconst (v := (nI 2)) hX dX6_line_0 (by decide) ?_
  refine s_aload_n (k := 0) hX dX6_line_1 rfl rfl ?_
  refine s_callVi hX (c_X2_countTold b hb M hT) mX2_countTold lX6_9 (by decide) (by decide) (oF hb) rfl rfl rfl rfl rfl (Nat.le_of_ble_eq_true rfl) dX6_line_2 (fun r2 M_1 hp2 => ?_)
  obtain ⟨rfl, h2⟩ := hp2
  subst h2
  refine s_mmin hX lX6_15 mJ9_min (by decide) (Nat.le_of_ble_eq_true rfl) dX6_line_5 ?_
  refine s_top (y := nI 0) (by decide) ?_
  refine s_istore_n (lv' := [(0, .ref (ad b)), (1, .int (nI 0))]) hX dX6_line_8 rfl (by decide) rfl ?_
  refine s_iconst (v := (nI 0)) hX dX6_line_9 (by decide) ?_
  refine s_istore_n (lv' := [(0, .ref (ad b)), (1, .int (nI 0)), (2, .int (nI 0))]) hX dX6_line_10 rfl (by decide) rfl ?_
  have lp11 : ∀ (N11 : Nat) (i : Nat), (i ≤ 40) → (40 < i + N11) → V X M [(0, .ref (ad b)), (1, .int (nI 0)), (2, .int (nI i))] [] 11 := by
    intro N11
    induction N11 with
    | zero => intro i hi hN11; exact absurd hN11 (by omega)
    | succ N11 ih11 =>
      intro i hi hN11
      refine s_iload_n (k := 2) hX dX6_line_11 rfl rfl ?_
      refine s_bipush (v := (nI 40)) hX dX6_line_12 (by decide) ?_
      refine s_icmp_ge (tgt := 68) hX dX6_line_14 (by decide) (fun c14 => ?_) (fun c14 => ?_)
      · replace c14 := (nI_leI (by omega) (by omega)).mp c14
        refine s_iload_n (k := 1) hX dX6_line_68 rfl rfl ?_
        exact s_iret hX hR dX6_line_69 rfl
      · replace c14 := mt (nI_leI (by omega) (by omega)).mpr c14
        refine s_iload_n (k := 2) hX dX6_line_17 rfl rfl ?_
        refine s_iconst (v := (nI 1)) hX dX6_line_18 (by decide) ?_
        refine s_iadd hX dX6_line_19 ?_
        refine s_top (y := nI (i + 1)) (nI_add _ _) ?_
        refine s_istore_n (lv' := [(0, .ref (ad b)), (1, .int (nI 0)), (2, .int (nI i)), (3, .int (nI (i + 1)))]) hX dX6_line_20 rfl (by decide) rfl ?_
        have lp21 : ∀ (N21 : Nat) (j : Nat), (j ≤ 40) → (40 < j + N21) → V X M [(0, .ref (ad b)), (1, .int (nI 0)), (2, .int (nI i)), (3, .int (nI j))] [] 21 := by
          intro N21
          induction N21 with
          | zero => intro j hj hN21; exact absurd hN21 (by omega)
          | succ N21 ih21 =>
            intro j hj hN21
            refine s_iload_n (k := 3) hX dX6_line_21 rfl rfl ?_
            refine s_bipush (v := (nI 40)) hX dX6_line_22 (by decide) ?_
            refine s_icmp_ge (tgt := 62) hX dX6_line_24 (by decide) (fun c24 => ?_) (fun c24 => ?_)
            · replace c24 := (nI_leI (by omega) (by omega)).mp c24
              refine s_iinc (k := 2) (v := nI (i + 1)) (lv' := [(0, .ref (ad b)), (1, .int (nI 0)), (3, .int (nI j)), (2, .int (nI (i + 1)))]) hX dX6_line_62 (nI_1 _) (by decide) rfl rfl ?_
              refine s_goto (tgt := 11) hX dX6_line_65 (by decide) ?_
              refine s_loc [0, 1, 3] rfl ?_
              exact ih11 (i + 1) (by omega) (by omega)
            · replace c24 := mt (nI_leI (by omega) (by omega)).mpr c24
              refine s_aload_n (k := 0) hX dX6_line_27 rfl rfl ?_
              refine s_get hX fX6_21 (oF hb) rfl dX6_line_28 ?_
              refine s_iload_n (k := 2) hX dX6_line_31 rfl rfl ?_
              refine s_zaldN hX (aF4 hb) (by omega) dX6_line_32 ?_
              refine s_if_eq (tgt := 56) hX dX6_line_33 (by decide) (fun c33 => ?_) (fun c33 => ?_)
              · refine s_iinc (k := 3) (v := nI (j + 1)) (lv' := [(0, .ref (ad b)), (1, .int (nI 0)), (2, .int (nI i)), (3, .int (nI (j + 1)))]) hX dX6_line_56 (nI_1 _) (by decide) rfl rfl ?_
                refine s_goto (tgt := 21) hX dX6_line_59 (by decide) ?_
                exact ih21 (j + 1) (by omega) (by omega)
              · exact absurd (hT i (by omega)) c33
        exact lp21 41 (i + 1) (by omega) (by omega)
  exact lp11 41 0 (by omega) (by omega)
set_option maxHeartbeats 4000000 in
theorem c_X6_yardApart (b : Nat) (hb : isF b) (M : Mem) (hT : ∀ j, j < 40 → M (b + 4) j = 0) : AM yX6_yardApart cX6_yardApart 4 (some .int) 0 60 glC (fun ad => [.ref (ad b)]) M (PI (fun r _ => r = nI 0)) := by
  refine AM.of (by decide) (fun _ => Nat.le_of_ble_eq_true rfl) (fun X ad cI cZ cB hX hR => ?_)
  show V X M [(0, .ref (ad b))] [] 0
  refine s_iconst (v := (nI 0)) hX dX6_yardApart_0 (by decide) ?_
  refine s_istore_n (lv' := [(0, .ref (ad b)), (1, .int (nI 0))]) hX dX6_yardApart_1 rfl (by decide) rfl ?_
  refine s_iconst (v := (nI 0)) hX dX6_yardApart_2 (by decide) ?_
  refine s_istore_n (lv' := [(0, .ref (ad b)), (1, .int (nI 0)), (2, .int (nI 0))]) hX dX6_yardApart_3 rfl (by decide) rfl ?_
  have lp4 : ∀ (N4 : Nat) (i : Nat), (i ≤ 40) → (40 < i + N4) → V X M [(0, .ref (ad b)), (1, .int (nI 0)), (2, .int (nI i))] [] 4 := by
    intro N4
    induction N4 with
    | zero => intro i hi hN4; exact absurd hN4 (by omega)
    | succ N4 ih4 =>
      intro i hi hN4
      refine s_iload_n (k := 2) hX dX6_yardApart_4 rfl rfl ?_
      refine s_bipush (v := (nI 40)) hX dX6_yardApart_5 (by decide) ?_
      refine s_icmp_ge (tgt := 67) hX dX6_yardApart_7 (by decide) (fun c7 => ?_) (fun c7 => ?_)
      · replace c7 := (nI_leI (by omega) (by omega)).mp c7
        refine s_iload_n (k := 1) hX dX6_yardApart_67 rfl rfl ?_
        exact s_iret hX hR dX6_yardApart_68 rfl
      · replace c7 := mt (nI_leI (by omega) (by omega)).mpr c7
        refine s_aload_n (k := 0) hX dX6_yardApart_10 rfl rfl ?_
        refine s_get hX fX6_21 (oF hb) rfl dX6_yardApart_11 ?_
        refine s_iload_n (k := 2) hX dX6_yardApart_14 rfl rfl ?_
        refine s_zaldN hX (aF4 hb) (by omega) dX6_yardApart_15 ?_
        refine s_if_eq (tgt := 61) hX dX6_yardApart_16 (by decide) (fun c16 => ?_) (fun c16 => ?_)
        · refine s_iinc (k := 2) (v := nI (i + 1)) (lv' := [(0, .ref (ad b)), (1, .int (nI 0)), (2, .int (nI (i + 1)))]) hX dX6_yardApart_61 (nI_1 _) (by decide) rfl rfl ?_
          refine s_goto (tgt := 4) hX dX6_yardApart_64 (by decide) ?_
          exact ih4 (i + 1) (by omega) (by omega)
        · exact absurd (hT i (by omega)) c16
  exact lp4 41 0 (by omega) (by omega)
set_option maxHeartbeats 4000000 in
theorem c_X6_nearest (b : Nat) (hb : isF b) (i : Int32) (M : Mem) (hT : ∀ j, j < 40 → M (b + 4) j = 0) : AM yX6_nearest cX6_nearest 4 (some .int) 1 60 glC (fun ad => [.ref (ad b), .int i]) M (PI (fun r M' => r = -1 ∧ M = M')) := by
  refine AM.of (by decide) (fun _ => Nat.le_of_ble_eq_true rfl) (fun X ad cI cZ cB hX hR => ?_)
  show V X M [(0, .ref (ad b)), (1, .int i)] [] 0
  refine s_iconst (v := (-1)) hX dX6_nearest_0 (by decide) ?_
  refine s_istore_n (lv' := [(0, .ref (ad b)), (1, .int i), (2, .int (-1))]) hX dX6_nearest_1 rfl (by decide) rfl ?_
  refine s_iconst (v := (nI 0)) hX dX6_nearest_2 (by decide) ?_
  refine s_istore_n (lv' := [(0, .ref (ad b)), (1, .int i), (2, .int (-1)), (3, .int (nI 0))]) hX dX6_nearest_3 rfl (by decide) rfl ?_
  refine s_iload_n (k := 3) hX dX6_nearest_4 rfl rfl ?_
  refine s_bipush (v := (nI 40)) hX dX6_nearest_5 (by decide) ?_
  refine s_icmp_ge (tgt := 60) hX dX6_nearest_7 (by decide) (fun c7 => ?_) (fun c7 => ?_)
  · first | exact absurd (by decide) c7 | exact absurd c7 (by decide)
  · refine s_aload_n (k := 0) hX dX6_nearest_10 rfl rfl ?_
    refine s_iload_n (k := 1) hX dX6_nearest_11 rfl rfl ?_
    refine s_callVi hX (c_X2_isTold b hb i M hT) mX2_isTold lX6_34 (by decide) (by decide) (oF hb) rfl rfl rfl rfl rfl (Nat.le_of_ble_eq_true rfl) dX6_nearest_12 (fun r12 M_3 hp12 => ?_)
    obtain ⟨rfl, h2⟩ := hp12
    subst h2
    refine s_if_eq (tgt := 60) hX dX6_nearest_15 (by decide) (fun c15 => ?_) (fun c15 => ?_)
    · refine s_iload_n (k := 2) hX dX6_nearest_60 rfl rfl ?_
      exact s_iret hX hR dX6_nearest_61 ⟨rfl, rfl⟩
    · first | exact absurd (by decide) c15 | exact absurd c15 (by decide)
set_option maxHeartbeats 4000000 in
theorem c_X6_pairs (b : Nat) (hb : isF b) (M : Mem) (hT : ∀ j, j < 40 → M (b + 4) j = 0) : AM yX6_pairs cX6_pairs 4 (some .int) 2 60 glC (fun ad => [.ref (ad b)]) M (PI (fun r _ => r = nI 0)) := by
  refine AM.of (by decide) (fun _ => Nat.le_of_ble_eq_true rfl) (fun X ad cI cZ cB hX hR => ?_)
  show V X M [(0, .ref (ad b))] [] 0
  refine s_iconst (v := (nI 0)) hX dX6_pairs_0 (by decide) ?_
  refine s_istore_n (lv' := [(0, .ref (ad b)), (1, .int (nI 0))]) hX dX6_pairs_1 rfl (by decide) rfl ?_
  refine s_iconst (v := (nI 0)) hX dX6_pairs_2 (by decide) ?_
  refine s_istore_n (lv' := [(0, .ref (ad b)), (1, .int (nI 0)), (2, .int (nI 0))]) hX dX6_pairs_3 rfl (by decide) rfl ?_
  have lp4 : ∀ (N4 : Nat) (i : Nat), (i ≤ 40) → (40 < i + N4) → V X M [(0, .ref (ad b)), (1, .int (nI 0)), (2, .int (nI i))] [] 4 := by
    intro N4
    induction N4 with
    | zero => intro i hi hN4; exact absurd hN4 (by omega)
    | succ N4 ih4 =>
      intro i hi hN4
      refine s_iload_n (k := 2) hX dX6_pairs_4 rfl rfl ?_
      refine s_bipush (v := (nI 40)) hX dX6_pairs_5 (by decide) ?_
      refine s_icmp_ge (tgt := 39) hX dX6_pairs_7 (by decide) (fun c7 => ?_) (fun c7 => ?_)
      · replace c7 := (nI_leI (by omega) (by omega)).mp c7
        refine s_iload_n (k := 1) hX dX6_pairs_39 rfl rfl ?_
        exact s_iret hX hR dX6_pairs_40 rfl
      · replace c7 := mt (nI_leI (by omega) (by omega)).mpr c7
        refine s_aload_n (k := 0) hX dX6_pairs_10 rfl rfl ?_
        refine s_iload_n (k := 2) hX dX6_pairs_11 rfl rfl ?_
        refine s_callSi hX (c_X6_nearest b hb (nI i) M hT) mX6_nearest lX6_48 (by decide) (by decide) rfl rfl (Nat.le_of_ble_eq_true rfl) dX6_pairs_12 (fun r12 M_3 hp12 => ?_)
        obtain ⟨rfl, h2⟩ := hp12
        subst h2
        refine s_istore_n (lv' := [(0, .ref (ad b)), (1, .int (nI 0)), (2, .int (nI i)), (3, .int (-1))]) hX dX6_pairs_15 rfl (by decide) rfl ?_
        refine s_iload_n (k := 3) hX dX6_pairs_16 rfl rfl ?_
        refine s_iload_n (k := 2) hX dX6_pairs_17 rfl rfl ?_
        refine s_icmp_le (tgt := 33) hX dX6_pairs_18 (by decide) (fun c18 => ?_) (fun c18 => ?_)
        · refine s_iinc (k := 2) (v := nI (i + 1)) (lv' := [(0, .ref (ad b)), (1, .int (nI 0)), (3, .int (-1)), (2, .int (nI (i + 1)))]) hX dX6_pairs_33 (nI_1 _) (by decide) rfl rfl ?_
          refine s_goto (tgt := 4) hX dX6_pairs_36 (by decide) ?_
          refine s_loc [0, 1, 3] rfl ?_
          exact ih4 (i + 1) (by omega) (by omega)
        · exact absurd (m1_le (by omega)) c18
  exact lp4 41 0 (by omega) (by omega)
set_option maxHeartbeats 4000000 in
theorem c_X6_closest (b : Nat) (hb : isF b) (M : Mem) (hT : ∀ j, j < 40 → M (b + 4) j = 0) : AM yX6_closest cX6_closest 4 (some .int) 2 60 glC (fun ad => [.ref (ad b)]) M (PI (fun r _ => r = -2)) := by
  refine AM.of (by decide) (fun _ => Nat.le_of_ble_eq_true rfl) (fun X ad cI cZ cB hX hR => ?_)
  show V X M [(0, .ref (ad b))] [] 0
  refine s_bipush (v := (-2)) hX dX6_closest_0 (by decide) ?_
  refine s_istore_n (lv' := [(0, .ref (ad b)), (1, .int (-2))]) hX dX6_closest_2 rfl (by decide) rfl ?_
  refine s_iconst (v := (nI 0)) hX dX6_closest_3 (by decide) ?_
  refine s_istore_n (lv' := [(0, .ref (ad b)), (1, .int (-2)), (2, .int (nI 0))]) hX dX6_closest_4 rfl (by decide) rfl ?_
  have lp5 : ∀ (N5 : Nat) (i : Nat), (i ≤ 40) → (40 < i + N5) → V X M [(0, .ref (ad b)), (1, .int (-2)), (2, .int (nI i))] [] 5 := by
    intro N5
    induction N5 with
    | zero => intro i hi hN5; exact absurd hN5 (by omega)
    | succ N5 ih5 =>
      intro i hi hN5
      refine s_iload_n (k := 2) hX dX6_closest_5 rfl rfl ?_
      refine s_bipush (v := (nI 40)) hX dX6_closest_6 (by decide) ?_
      refine s_icmp_ge (tgt := 51) hX dX6_closest_8 (by decide) (fun c8 => ?_) (fun c8 => ?_)
      · replace c8 := (nI_leI (by omega) (by omega)).mp c8
        refine s_iload_n (k := 1) hX dX6_closest_51 rfl rfl ?_
        exact s_iret hX hR dX6_closest_52 rfl
      · replace c8 := mt (nI_leI (by omega) (by omega)).mpr c8
        refine s_aload_n (k := 0) hX dX6_closest_11 rfl rfl ?_
        refine s_iload_n (k := 2) hX dX6_closest_12 rfl rfl ?_
        refine s_callSi hX (c_X6_nearest b hb (nI i) M hT) mX6_nearest lX6_48 (by decide) (by decide) rfl rfl (Nat.le_of_ble_eq_true rfl) dX6_closest_13 (fun r13 M_3 hp13 => ?_)
        obtain ⟨rfl, h2⟩ := hp13
        subst h2
        refine s_istore_n (lv' := [(0, .ref (ad b)), (1, .int (-2)), (2, .int (nI i)), (3, .int (-1))]) hX dX6_closest_16 rfl (by decide) rfl ?_
        refine s_iload_n (k := 3) hX dX6_closest_17 rfl rfl ?_
        refine s_iconst (v := (-1)) hX dX6_closest_18 (by decide) ?_
        refine s_icmp_eq (tgt := 45) hX dX6_closest_19 (by decide) (fun c19 => ?_) (fun c19 => ?_)
        · refine s_iinc (k := 2) (v := nI (i + 1)) (lv' := [(0, .ref (ad b)), (1, .int (-2)), (3, .int (-1)), (2, .int (nI (i + 1)))]) hX dX6_closest_45 (nI_1 _) (by decide) rfl rfl ?_
          refine s_goto (tgt := 5) hX dX6_closest_48 (by decide) ?_
          refine s_loc [0, 1, 3] rfl ?_
          exact ih5 (i + 1) (by omega) (by omega)
        · first | exact absurd (by decide) c19 | exact absurd c19 (by decide)
  exact lp5 41 0 (by omega) (by omega)
set_option maxHeartbeats 4000000 in
theorem c_X2_nextDry (b : Nat) (hb : isF b) (M : Mem) (hT : ∀ j, j < 40 → M (b + 4) j = 0) : AM yX2_nextDry cX2_nextDry 3 (some .int) 1 60 glC (fun ad => [.ref (ad b), .int (nI 0)]) M (PI (fun r M' => r = -1 ∧ M = M')) := by
  refine AM.of (by decide) (fun _ => Nat.le_of_ble_eq_true rfl) (fun X ad cI cZ cB hX hR => ?_)
  show V X M [(0, .ref (ad b)), (1, .int (nI 0))] [] 0
  refine s_iload_n (k := 1) hX dX2_nextDry_0 rfl rfl ?_
  refine s_iconst (v := (nI 0)) hX dX2_nextDry_1 (by decide) ?_
  refine s_mmax hX lX2_39 mJ9_max (by decide) (Nat.le_of_ble_eq_true rfl) dX2_nextDry_2 ?_
  refine s_top (y := nI 0) (by decide) ?_
  refine s_istore_n (lv' := [(0, .ref (ad b)), (1, .int (nI 0)), (2, .int (nI 0))]) hX dX2_nextDry_5 rfl (by decide) rfl ?_
  have lp6 : ∀ (N6 : Nat) (i : Nat), (i ≤ 40) → (40 < i + N6) → V X M [(0, .ref (ad b)), (1, .int (nI 0)), (2, .int (nI i))] [] 6 := by
    intro N6
    induction N6 with
    | zero => intro i hi hN6; exact absurd hN6 (by omega)
    | succ N6 ih6 =>
      intro i hi hN6
      refine s_iload_n (k := 2) hX dX2_nextDry_6 rfl rfl ?_
      refine s_bipush (v := (nI 40)) hX dX2_nextDry_7 (by decide) ?_
      refine s_icmp_ge (tgt := 28) hX dX2_nextDry_9 (by decide) (fun c9 => ?_) (fun c9 => ?_)
      · replace c9 := (nI_leI (by omega) (by omega)).mp c9
        refine s_iconst (v := (-1)) hX dX2_nextDry_28 (by decide) ?_
        exact s_iret hX hR dX2_nextDry_29 ⟨rfl, rfl⟩
      · replace c9 := mt (nI_leI (by omega) (by omega)).mpr c9
        refine s_aload_n (k := 0) hX dX2_nextDry_12 rfl rfl ?_
        refine s_iload_n (k := 2) hX dX2_nextDry_13 rfl rfl ?_
        refine s_callVi hX (c_X2_isDry b hb (nI i) M hT) mX2_isDry lX2_45 (by decide) (by decide) (oF hb) rfl rfl rfl rfl rfl (Nat.le_of_ble_eq_true rfl) dX2_nextDry_14 (fun r14 M_1 hp14 => ?_)
        obtain ⟨rfl, h2⟩ := hp14
        subst h2
        refine s_if_eq (tgt := 22) hX dX2_nextDry_17 (by decide) (fun c17 => ?_) (fun c17 => ?_)
        · refine s_iinc (k := 2) (v := nI (i + 1)) (lv' := [(0, .ref (ad b)), (1, .int (nI 0)), (2, .int (nI (i + 1)))]) hX dX2_nextDry_22 (nI_1 _) (by decide) rfl rfl ?_
          refine s_goto (tgt := 6) hX dX2_nextDry_25 (by decide) ?_
          exact ih6 (i + 1) (by omega) (by omega)
        · first | exact absurd (by decide) c17 | exact absurd c17 (by decide)
  exact lp6 41 0 (by omega) (by omega)
