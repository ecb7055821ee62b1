/-! the constructors -/
theorem neU_of {X : CU} {ex : State → Prop} {idx : Nat} {y : MethodName} (hx : ∀ (P : State → Prop), (∀ s, ex s → P s) → (match X with | (_, _, _, _, s, _) => P s)) (h : ∀ s, ex s → va_Nw (.methodLinkNest RX9 idx y "SteppingStones") s) : NeU X idx y := by
  obtain ⟨p, l, e, R, s, m, args, below, meth, c, Q, A, D, nL'⟩ := X
  exact hx _ h
theorem exT {X : CU} : (match X with | (_, _, _, _, s, _) => ∀ U : State, s.WarmedH U.vm → (fun _ : State => True) U) := by
  obtain ⟨p, l, e, R, s, m, args, below, meth, c, Q, A, D, nL'⟩ := X
  exact fun _ _ => trivial
theorem blT : Blind (fun _ => True) := fun _ _ _ _ => trivial
theorem dX2_init_0 : decode cX2_init 0 = .ok (.aload_n 0, 1) := by decide +kernel
theorem dX2_init_1 : decode cX2_init 1 = .ok (.invokespecial 3, 3) := by decide +kernel
theorem dX2_init_4 : decode cX2_init 4 = .ok (.aload_n 0, 1) := by decide +kernel
theorem dX2_init_5 : decode cX2_init 5 = .ok (.bipush 40, 2) := by decide +kernel
theorem dX2_init_7 : decode cX2_init 7 = .ok (.newarray .int, 2) := by decide +kernel
theorem dX2_init_9 : decode cX2_init 9 = .ok (.putfield 9, 3) := by decide +kernel
theorem dX2_init_12 : decode cX2_init 12 = .ok (.aload_n 0, 1) := by decide +kernel
theorem dX2_init_13 : decode cX2_init 13 = .ok (.bipush 40, 2) := by decide +kernel
theorem dX2_init_15 : decode cX2_init 15 = .ok (.newarray .int, 2) := by decide +kernel
theorem dX2_init_17 : decode cX2_init 17 = .ok (.putfield 15, 3) := by decide +kernel
theorem dX2_init_20 : decode cX2_init 20 = .ok (.aload_n 0, 1) := by decide +kernel
theorem dX2_init_21 : decode cX2_init 21 = .ok (.bipush 40, 2) := by decide +kernel
theorem dX2_init_23 : decode cX2_init 23 = .ok (.newarray .int, 2) := by decide +kernel
theorem dX2_init_25 : decode cX2_init 25 = .ok (.putfield 18, 3) := by decide +kernel
theorem dX2_init_28 : decode cX2_init 28 = .ok (.aload_n 0, 1) := by decide +kernel
theorem dX2_init_29 : decode cX2_init 29 = .ok (.bipush 40, 2) := by decide +kernel
theorem dX2_init_31 : decode cX2_init 31 = .ok (.newarray .boolean, 2) := by decide +kernel
theorem dX2_init_33 : decode cX2_init 33 = .ok (.putfield 21, 3) := by decide +kernel
theorem dX2_init_36 : decode cX2_init 36 = .ok (.aload_n 0, 1) := by decide +kernel
theorem dX2_init_37 : decode cX2_init 37 = .ok (.bipush 40, 2) := by decide +kernel
theorem dX2_init_39 : decode cX2_init 39 = .ok (.newarray .boolean, 2) := by decide +kernel
theorem dX2_init_41 : decode cX2_init 41 = .ok (.putfield 25, 3) := by decide +kernel
theorem dX2_init_44 : decode cX2_init 44 = .ok (.aload_n 0, 1) := by decide +kernel
theorem dX2_init_45 : decode cX2_init 45 = .ok (.iconst 0, 1) := by decide +kernel
theorem dX2_init_46 : decode cX2_init 46 = .ok (.putfield 28, 3) := by decide +kernel
theorem dX2_init_49 : decode cX2_init 49 = .ok (.aload_n 0, 1) := by decide +kernel
theorem dX2_init_50 : decode cX2_init 50 = .ok (.iconst 1, 1) := by decide +kernel
theorem dX2_init_51 : decode cX2_init 51 = .ok (.putfield 32, 3) := by decide +kernel
theorem dX2_init_54 : decode cX2_init 54 = .ok (.return_, 1) := by decide +kernel
theorem dX7_init_0 : decode cX7_init 0 = .ok (.aload_n 0, 1) := by decide +kernel
theorem dX7_init_1 : decode cX7_init 1 = .ok (.invokespecial 3, 3) := by decide +kernel
theorem dX7_init_4 : decode cX7_init 4 = .ok (.aload_n 0, 1) := by decide +kernel
theorem dX7_init_5 : decode cX7_init 5 = .ok (.sipush 260, 3) := by decide +kernel
theorem dX7_init_8 : decode cX7_init 8 = .ok (.newarray .int, 2) := by decide +kernel
theorem dX7_init_10 : decode cX7_init 10 = .ok (.putfield 9, 3) := by decide +kernel
theorem dX7_init_13 : decode cX7_init 13 = .ok (.aload_n 0, 1) := by decide +kernel
theorem dX7_init_14 : decode cX7_init 14 = .ok (.iconst 0, 1) := by decide +kernel
theorem dX7_init_15 : decode cX7_init 15 = .ok (.putfield 15, 3) := by decide +kernel
theorem dX7_init_18 : decode cX7_init 18 = .ok (.aload_n 0, 1) := by decide +kernel
theorem dX7_init_19 : decode cX7_init 19 = .ok (.iconst 0, 1) := by decide +kernel
theorem dX7_init_20 : decode cX7_init 20 = .ok (.putfield 19, 3) := by decide +kernel
theorem dX7_init_23 : decode cX7_init 23 = .ok (.aload_n 0, 1) := by decide +kernel
theorem dX7_init_24 : decode cX7_init 24 = .ok (.iconst 0, 1) := by decide +kernel
theorem dX7_init_25 : decode cX7_init 25 = .ok (.putfield 22, 3) := by decide +kernel
theorem dX7_init_28 : decode cX7_init 28 = .ok (.aload_n 0, 1) := by decide +kernel
theorem dX7_init_29 : decode cX7_init 29 = .ok (.iconst 0, 1) := by decide +kernel
theorem dX7_init_30 : decode cX7_init 30 = .ok (.putfield 25, 3) := by decide +kernel
theorem dX7_init_33 : decode cX7_init 33 = .ok (.return_, 1) := by decide +kernel
theorem dX5_init_0 : decode cX5_init 0 = .ok (.aload_n 0, 1) := by decide +kernel
theorem dX5_init_1 : decode cX5_init 1 = .ok (.invokespecial 3, 3) := by decide +kernel
theorem dX5_init_4 : decode cX5_init 4 = .ok (.aload_n 0, 1) := by decide +kernel
theorem dX5_init_5 : decode cX5_init 5 = .ok (.bipush 8, 2) := by decide +kernel
theorem dX5_init_7 : decode cX5_init 7 = .ok (.newarray .int, 2) := by decide +kernel
theorem dX5_init_9 : decode cX5_init 9 = .ok (.putfield 11, 3) := by decide +kernel
theorem dX5_init_12 : decode cX5_init 12 = .ok (.aload_n 0, 1) := by decide +kernel
theorem dX5_init_13 : decode cX5_init 13 = .ok (.iconst 0, 1) := by decide +kernel
theorem dX5_init_14 : decode cX5_init 14 = .ok (.putfield 15, 3) := by decide +kernel
theorem dX5_init_17 : decode cX5_init 17 = .ok (.aload_n 0, 1) := by decide +kernel
theorem dX5_init_18 : decode cX5_init 18 = .ok (.iconst 0, 1) := by decide +kernel
theorem dX5_init_19 : decode cX5_init 19 = .ok (.putfield 19, 3) := by decide +kernel
theorem dX5_init_22 : decode cX5_init 22 = .ok (.return_, 1) := by decide +kernel
theorem dX8_init_0 : decode cX8_init 0 = .ok (.aload_n 0, 1) := by decide +kernel
theorem dX8_init_1 : decode cX8_init 1 = .ok (.invokespecial 3, 3) := by decide +kernel
theorem dX8_init_4 : decode cX8_init 4 = .ok (.aload_n 0, 1) := by decide +kernel
theorem dX8_init_5 : decode cX8_init 5 = .ok (.bipush 42, 2) := by decide +kernel
theorem dX8_init_7 : decode cX8_init 7 = .ok (.newarray .int, 2) := by decide +kernel
theorem dX8_init_9 : decode cX8_init 9 = .ok (.putfield 9, 3) := by decide +kernel
theorem dX8_init_12 : decode cX8_init 12 = .ok (.aload_n 0, 1) := by decide +kernel
theorem dX8_init_13 : decode cX8_init 13 = .ok (.bipush 42, 2) := by decide +kernel
theorem dX8_init_15 : decode cX8_init 15 = .ok (.newarray .int, 2) := by decide +kernel
theorem dX8_init_17 : decode cX8_init 17 = .ok (.putfield 15, 3) := by decide +kernel
theorem dX8_init_20 : decode cX8_init 20 = .ok (.aload_n 0, 1) := by decide +kernel
theorem dX8_init_21 : decode cX8_init 21 = .ok (.bipush 42, 2) := by decide +kernel
theorem dX8_init_23 : decode cX8_init 23 = .ok (.newarray .int, 2) := by decide +kernel
theorem dX8_init_25 : decode cX8_init 25 = .ok (.putfield 18, 3) := by decide +kernel
theorem dX8_init_28 : decode cX8_init 28 = .ok (.aload_n 0, 1) := by decide +kernel
theorem dX8_init_29 : decode cX8_init 29 = .ok (.bipush 42, 2) := by decide +kernel
theorem dX8_init_31 : decode cX8_init 31 = .ok (.newarray .int, 2) := by decide +kernel
theorem dX8_init_33 : decode cX8_init 33 = .ok (.putfield 21, 3) := by decide +kernel
theorem dX8_init_36 : decode cX8_init 36 = .ok (.aload_n 0, 1) := by decide +kernel
theorem dX8_init_37 : decode cX8_init 37 = .ok (.bipush 42, 2) := by decide +kernel
theorem dX8_init_39 : decode cX8_init 39 = .ok (.newarray .int, 2) := by decide +kernel
theorem dX8_init_41 : decode cX8_init 41 = .ok (.putfield 24, 3) := by decide +kernel
theorem dX8_init_44 : decode cX8_init 44 = .ok (.aload_n 0, 1) := by decide +kernel
theorem dX8_init_45 : decode cX8_init 45 = .ok (.bipush 42, 2) := by decide +kernel
theorem dX8_init_47 : decode cX8_init 47 = .ok (.newarray .boolean, 2) := by decide +kernel
theorem dX8_init_49 : decode cX8_init 49 = .ok (.putfield 27, 3) := by decide +kernel
theorem dX8_init_52 : decode cX8_init 52 = .ok (.return_, 1) := by decide +kernel
theorem dX1_init_0 : decode cX1_init 0 = .ok (.aload_n 0, 1) := by decide +kernel
theorem dX1_init_1 : decode cX1_init 1 = .ok (.invokespecial 3, 3) := by decide +kernel
theorem dX1_init_4 : decode cX1_init 4 = .ok (.aload_n 0, 1) := by decide +kernel
theorem dX1_init_5 : decode cX1_init 5 = .ok (.bipush 40, 2) := by decide +kernel
theorem dX1_init_7 : decode cX1_init 7 = .ok (.newarray .int, 2) := by decide +kernel
theorem dX1_init_9 : decode cX1_init 9 = .ok (.putfield 9, 3) := by decide +kernel
theorem dX1_init_12 : decode cX1_init 12 = .ok (.aload_n 0, 1) := by decide +kernel
theorem dX1_init_13 : decode cX1_init 13 = .ok (.bipush 80, 2) := by decide +kernel
theorem dX1_init_15 : decode cX1_init 15 = .ok (.newarray .int, 2) := by decide +kernel
theorem dX1_init_17 : decode cX1_init 17 = .ok (.putfield 15, 3) := by decide +kernel
theorem dX1_init_20 : decode cX1_init 20 = .ok (.aload_n 0, 1) := by decide +kernel
theorem dX1_init_21 : decode cX1_init 21 = .ok (.bipush 80, 2) := by decide +kernel
theorem dX1_init_23 : decode cX1_init 23 = .ok (.newarray .int, 2) := by decide +kernel
theorem dX1_init_25 : decode cX1_init 25 = .ok (.putfield 18, 3) := by decide +kernel
theorem dX1_init_28 : decode cX1_init 28 = .ok (.aload_n 0, 1) := by decide +kernel
theorem dX1_init_29 : decode cX1_init 29 = .ok (.iconst 0, 1) := by decide +kernel
theorem dX1_init_30 : decode cX1_init 30 = .ok (.putfield 21, 3) := by decide +kernel
theorem dX1_init_33 : decode cX1_init 33 = .ok (.return_, 1) := by decide +kernel
theorem dX4_init_0 : decode cX4_init 0 = .ok (.aload_n 0, 1) := by decide +kernel
theorem dX4_init_1 : decode cX4_init 1 = .ok (.invokespecial 3, 3) := by decide +kernel
theorem dX4_init_4 : decode cX4_init 4 = .ok (.aload_n 0, 1) := by decide +kernel
theorem dX4_init_5 : decode cX4_init 5 = .ok (.bipush 60, 2) := by decide +kernel
theorem dX4_init_7 : decode cX4_init 7 = .ok (.newarray .int, 2) := by decide +kernel
theorem dX4_init_9 : decode cX4_init 9 = .ok (.putfield 9, 3) := by decide +kernel
theorem dX4_init_12 : decode cX4_init 12 = .ok (.aload_n 0, 1) := by decide +kernel
theorem dX4_init_13 : decode cX4_init 13 = .ok (.bipush 60, 2) := by decide +kernel
theorem dX4_init_15 : decode cX4_init 15 = .ok (.newarray .int, 2) := by decide +kernel
theorem dX4_init_17 : decode cX4_init 17 = .ok (.putfield 15, 3) := by decide +kernel
theorem dX4_init_20 : decode cX4_init 20 = .ok (.aload_n 0, 1) := by decide +kernel
theorem dX4_init_21 : decode cX4_init 21 = .ok (.iconst 0, 1) := by decide +kernel
theorem dX4_init_22 : decode cX4_init 22 = .ok (.putfield 18, 3) := by decide +kernel
theorem dX4_init_25 : decode cX4_init 25 = .ok (.aload_n 0, 1) := by decide +kernel
theorem dX4_init_26 : decode cX4_init 26 = .ok (.iconst 0, 1) := by decide +kernel
theorem dX4_init_27 : decode cX4_init 27 = .ok (.putfield 22, 3) := by decide +kernel
theorem dX4_init_30 : decode cX4_init 30 = .ok (.aload_n 0, 1) := by decide +kernel
theorem dX4_init_31 : decode cX4_init 31 = .ok (.iconst 0, 1) := by decide +kernel
theorem dX4_init_32 : decode cX4_init 32 = .ok (.putfield 25, 3) := by decide +kernel
theorem dX4_init_35 : decode cX4_init 35 = .ok (.aload_n 0, 1) := by decide +kernel
theorem dX4_init_36 : decode cX4_init 36 = .ok (.iconst 0, 1) := by decide +kernel
theorem dX4_init_37 : decode cX4_init 37 = .ok (.putfield 28, 3) := by decide +kernel
theorem dX4_init_40 : decode cX4_init 40 = .ok (.return_, 1) := by decide +kernel
theorem dX0_init_0 : decode cX0_init 0 = .ok (.aload_n 0, 1) := by decide +kernel
theorem dX0_init_1 : decode cX0_init 1 = .ok (.invokespecial 3, 3) := by decide +kernel
theorem dX0_init_4 : decode cX0_init 4 = .ok (.aload_n 0, 1) := by decide +kernel
theorem dX0_init_5 : decode cX0_init 5 = .ok (.bipush 7, 2) := by decide +kernel
theorem dX0_init_7 : decode cX0_init 7 = .ok (.newarray .int, 2) := by decide +kernel
theorem dX0_init_9 : decode cX0_init 9 = .ok (.putfield 9, 3) := by decide +kernel
theorem dX0_init_12 : decode cX0_init 12 = .ok (.aload_n 0, 1) := by decide +kernel
theorem dX0_init_13 : decode cX0_init 13 = .ok (.bipush 7, 2) := by decide +kernel
theorem dX0_init_15 : decode cX0_init 15 = .ok (.newarray .int, 2) := by decide +kernel
theorem dX0_init_17 : decode cX0_init 17 = .ok (.putfield 15, 3) := by decide +kernel
theorem dX0_init_20 : decode cX0_init 20 = .ok (.aload_n 0, 1) := by decide +kernel
theorem dX0_init_21 : decode cX0_init 21 = .ok (.bipush 7, 2) := by decide +kernel
theorem dX0_init_23 : decode cX0_init 23 = .ok (.newarray .int, 2) := by decide +kernel
theorem dX0_init_25 : decode cX0_init 25 = .ok (.putfield 18, 3) := by decide +kernel
theorem dX0_init_28 : decode cX0_init 28 = .ok (.aload_n 0, 1) := by decide +kernel
theorem dX0_init_29 : decode cX0_init 29 = .ok (.bipush 49, 2) := by decide +kernel
theorem dX0_init_31 : decode cX0_init 31 = .ok (.newarray .int, 2) := by decide +kernel
theorem dX0_init_33 : decode cX0_init 33 = .ok (.putfield 21, 3) := by decide +kernel
theorem dX0_init_36 : decode cX0_init 36 = .ok (.aload_n 0, 1) := by decide +kernel
theorem dX0_init_37 : decode cX0_init 37 = .ok (.sipush 128, 3) := by decide +kernel
theorem dX0_init_40 : decode cX0_init 40 = .ok (.newarray .int, 2) := by decide +kernel
theorem dX0_init_42 : decode cX0_init 42 = .ok (.putfield 24, 3) := by decide +kernel
theorem dX0_init_45 : decode cX0_init 45 = .ok (.return_, 1) := by decide +kernel
theorem dX3_init_0 : decode cX3_init 0 = .ok (.aload_n 0, 1) := by decide +kernel
theorem dX3_init_1 : decode cX3_init 1 = .ok (.invokespecial 3, 3) := by decide +kernel
theorem dX3_init_4 : decode cX3_init 4 = .ok (.aload_n 0, 1) := by decide +kernel
theorem dX3_init_5 : decode cX3_init 5 = .ok (.sipush 240, 3) := by decide +kernel
theorem dX3_init_8 : decode cX3_init 8 = .ok (.newarray .int, 2) := by decide +kernel
theorem dX3_init_10 : decode cX3_init 10 = .ok (.putfield 9, 3) := by decide +kernel
theorem dX3_init_13 : decode cX3_init 13 = .ok (.aload_n 0, 1) := by decide +kernel
theorem dX3_init_14 : decode cX3_init 14 = .ok (.sipush 240, 3) := by decide +kernel
theorem dX3_init_17 : decode cX3_init 17 = .ok (.newarray .int, 2) := by decide +kernel
theorem dX3_init_19 : decode cX3_init 19 = .ok (.putfield 15, 3) := by decide +kernel
theorem dX3_init_22 : decode cX3_init 22 = .ok (.aload_n 0, 1) := by decide +kernel
theorem dX3_init_23 : decode cX3_init 23 = .ok (.bipush 32, 2) := by decide +kernel
theorem dX3_init_25 : decode cX3_init 25 = .ok (.newarray .int, 2) := by decide +kernel
theorem dX3_init_27 : decode cX3_init 27 = .ok (.putfield 18, 3) := by decide +kernel
theorem dX3_init_30 : decode cX3_init 30 = .ok (.aload_n 0, 1) := by decide +kernel
theorem dX3_init_31 : decode cX3_init 31 = .ok (.bipush 16, 2) := by decide +kernel
theorem dX3_init_33 : decode cX3_init 33 = .ok (.newarray .int, 2) := by decide +kernel
theorem dX3_init_35 : decode cX3_init 35 = .ok (.putfield 21, 3) := by decide +kernel
theorem dX3_init_38 : decode cX3_init 38 = .ok (.aload_n 0, 1) := by decide +kernel
theorem dX3_init_39 : decode cX3_init 39 = .ok (.bipush 16, 2) := by decide +kernel
theorem dX3_init_41 : decode cX3_init 41 = .ok (.newarray .int, 2) := by decide +kernel
theorem dX3_init_43 : decode cX3_init 43 = .ok (.putfield 24, 3) := by decide +kernel
theorem dX3_init_46 : decode cX3_init 46 = .ok (.aload_n 0, 1) := by decide +kernel
theorem dX3_init_47 : decode cX3_init 47 = .ok (.bipush 16, 2) := by decide +kernel
theorem dX3_init_49 : decode cX3_init 49 = .ok (.newarray .int, 2) := by decide +kernel
theorem dX3_init_51 : decode cX3_init 51 = .ok (.putfield 27, 3) := by decide +kernel
theorem dX3_init_54 : decode cX3_init 54 = .ok (.aload_n 0, 1) := by decide +kernel
theorem dX3_init_55 : decode cX3_init 55 = .ok (.bipush 16, 2) := by decide +kernel
theorem dX3_init_57 : decode cX3_init 57 = .ok (.newarray .int, 2) := by decide +kernel
theorem dX3_init_59 : decode cX3_init 59 = .ok (.putfield 30, 3) := by decide +kernel
theorem dX3_init_62 : decode cX3_init 62 = .ok (.aload_n 0, 1) := by decide +kernel
theorem dX3_init_63 : decode cX3_init 63 = .ok (.iconst 0, 1) := by decide +kernel
theorem dX3_init_64 : decode cX3_init 64 = .ok (.putfield 33, 3) := by decide +kernel
theorem dX3_init_67 : decode cX3_init 67 = .ok (.aload_n 0, 1) := by decide +kernel
theorem dX3_init_68 : decode cX3_init 68 = .ok (.iconst 0, 1) := by decide +kernel
theorem dX3_init_69 : decode cX3_init 69 = .ok (.putfield 37, 3) := by decide +kernel
theorem dX3_init_72 : decode cX3_init 72 = .ok (.aload_n 0, 1) := by decide +kernel
theorem dX3_init_73 : decode cX3_init 73 = .ok (.iconst 0, 1) := by decide +kernel
theorem dX3_init_74 : decode cX3_init 74 = .ok (.putfield 40, 3) := by decide +kernel
theorem dX3_init_77 : decode cX3_init 77 = .ok (.return_, 1) := by decide +kernel
theorem dX10_init_0 : decode cX10_init 0 = .ok (.aload_n 0, 1) := by decide +kernel
theorem dX10_init_1 : decode cX10_init 1 = .ok (.invokespecial 1, 3) := by decide +kernel
theorem dX10_init_4 : decode cX10_init 4 = .ok (.aload_n 0, 1) := by decide +kernel
theorem dX10_init_5 : decode cX10_init 5 = .ok (.sipush 202, 3) := by decide +kernel
theorem dX10_init_8 : decode cX10_init 8 = .ok (.newarray .int, 2) := by decide +kernel
theorem dX10_init_10 : decode cX10_init 10 = .ok (.putfield 7, 3) := by decide +kernel
theorem dX10_init_13 : decode cX10_init 13 = .ok (.aload_n 0, 1) := by decide +kernel
theorem dX10_init_14 : decode cX10_init 14 = .ok (.sipush 202, 3) := by decide +kernel
theorem dX10_init_17 : decode cX10_init 17 = .ok (.newarray .int, 2) := by decide +kernel
theorem dX10_init_19 : decode cX10_init 19 = .ok (.putfield 13, 3) := by decide +kernel
theorem dX10_init_22 : decode cX10_init 22 = .ok (.aload_n 0, 1) := by decide +kernel
theorem dX10_init_23 : decode cX10_init 23 = .ok (.sipush 202, 3) := by decide +kernel
theorem dX10_init_26 : decode cX10_init 26 = .ok (.newarray .int, 2) := by decide +kernel
theorem dX10_init_28 : decode cX10_init 28 = .ok (.putfield 16, 3) := by decide +kernel
theorem dX10_init_31 : decode cX10_init 31 = .ok (.aload_n 0, 1) := by decide +kernel
theorem dX10_init_32 : decode cX10_init 32 = .ok (.bipush 8, 2) := by decide +kernel
theorem dX10_init_34 : decode cX10_init 34 = .ok (.newarray .int, 2) := by decide +kernel
theorem dX10_init_36 : decode cX10_init 36 = .ok (.putfield 19, 3) := by decide +kernel
theorem dX10_init_39 : decode cX10_init 39 = .ok (.aload_n 0, 1) := by decide +kernel
theorem dX10_init_40 : decode cX10_init 40 = .ok (.sipush 260, 3) := by decide +kernel
theorem dX10_init_43 : decode cX10_init 43 = .ok (.newarray .byte, 2) := by decide +kernel
theorem dX10_init_45 : decode cX10_init 45 = .ok (.putfield 22, 3) := by decide +kernel
theorem dX10_init_48 : decode cX10_init 48 = .ok (.aload_n 0, 1) := by decide +kernel
theorem dX10_init_49 : decode cX10_init 49 = .ok (.sipush 260, 3) := by decide +kernel
theorem dX10_init_52 : decode cX10_init 52 = .ok (.newarray .int, 2) := by decide +kernel
theorem dX10_init_54 : decode cX10_init 54 = .ok (.putfield 26, 3) := by decide +kernel
theorem dX10_init_57 : decode cX10_init 57 = .ok (.aload_n 0, 1) := by decide +kernel
theorem dX10_init_58 : decode cX10_init 58 = .ok (.sipush 260, 3) := by decide +kernel
theorem dX10_init_61 : decode cX10_init 61 = .ok (.newarray .int, 2) := by decide +kernel
theorem dX10_init_63 : decode cX10_init 63 = .ok (.putfield 29, 3) := by decide +kernel
theorem dX10_init_66 : decode cX10_init 66 = .ok (.aload_n 0, 1) := by decide +kernel
theorem dX10_init_67 : decode cX10_init 67 = .ok (.bipush 16, 2) := by decide +kernel
theorem dX10_init_69 : decode cX10_init 69 = .ok (.newarray .int, 2) := by decide +kernel
theorem dX10_init_71 : decode cX10_init 71 = .ok (.putfield 32, 3) := by decide +kernel
theorem dX10_init_74 : decode cX10_init 74 = .ok (.aload_n 0, 1) := by decide +kernel
theorem dX10_init_75 : decode cX10_init 75 = .ok (.bipush 16, 2) := by decide +kernel
theorem dX10_init_77 : decode cX10_init 77 = .ok (.newarray .int, 2) := by decide +kernel
theorem dX10_init_79 : decode cX10_init 79 = .ok (.putfield 35, 3) := by decide +kernel
theorem dX10_init_82 : decode cX10_init 82 = .ok (.aload_n 0, 1) := by decide +kernel
theorem dX10_init_83 : decode cX10_init 83 = .ok (.bipush 16, 2) := by decide +kernel
theorem dX10_init_85 : decode cX10_init 85 = .ok (.newarray .int, 2) := by decide +kernel
theorem dX10_init_87 : decode cX10_init 87 = .ok (.putfield 38, 3) := by decide +kernel
theorem dX10_init_90 : decode cX10_init 90 = .ok (.aload_n 0, 1) := by decide +kernel
theorem dX10_init_91 : decode cX10_init 91 = .ok (.bipush 16, 2) := by decide +kernel
theorem dX10_init_93 : decode cX10_init 93 = .ok (.newarray .int, 2) := by decide +kernel
theorem dX10_init_95 : decode cX10_init 95 = .ok (.putfield 41, 3) := by decide +kernel
theorem dX10_init_98 : decode cX10_init 98 = .ok (.aload_n 0, 1) := by decide +kernel
theorem dX10_init_99 : decode cX10_init 99 = .ok (.sipush 260, 3) := by decide +kernel
theorem dX10_init_102 : decode cX10_init 102 = .ok (.newarray .int, 2) := by decide +kernel
theorem dX10_init_104 : decode cX10_init 104 = .ok (.putfield 44, 3) := by decide +kernel
theorem dX10_init_107 : decode cX10_init 107 = .ok (.aload_n 0, 1) := by decide +kernel
theorem dX10_init_108 : decode cX10_init 108 = .ok (.bipush 16, 2) := by decide +kernel
theorem dX10_init_110 : decode cX10_init 110 = .ok (.newarray .int, 2) := by decide +kernel
theorem dX10_init_112 : decode cX10_init 112 = .ok (.putfield 47, 3) := by decide +kernel
theorem dX10_init_115 : decode cX10_init 115 = .ok (.aload_n 0, 1) := by decide +kernel
theorem dX10_init_116 : decode cX10_init 116 = .ok (.bipush 16, 2) := by decide +kernel
theorem dX10_init_118 : decode cX10_init 118 = .ok (.newarray .int, 2) := by decide +kernel
theorem dX10_init_120 : decode cX10_init 120 = .ok (.putfield 50, 3) := by decide +kernel
theorem dX10_init_123 : decode cX10_init 123 = .ok (.aload_n 0, 1) := by decide +kernel
theorem dX10_init_124 : decode cX10_init 124 = .ok (.bipush 16, 2) := by decide +kernel
theorem dX10_init_126 : decode cX10_init 126 = .ok (.newarray .int, 2) := by decide +kernel
theorem dX10_init_128 : decode cX10_init 128 = .ok (.putfield 53, 3) := by decide +kernel
theorem dX10_init_131 : decode cX10_init 131 = .ok (.aload_n 0, 1) := by decide +kernel
theorem dX10_init_132 : decode cX10_init 132 = .ok (.bipush 16, 2) := by decide +kernel
theorem dX10_init_134 : decode cX10_init 134 = .ok (.newarray .int, 2) := by decide +kernel
theorem dX10_init_136 : decode cX10_init 136 = .ok (.putfield 56, 3) := by decide +kernel
theorem dX10_init_139 : decode cX10_init 139 = .ok (.aload_n 0, 1) := by decide +kernel
theorem dX10_init_140 : decode cX10_init 140 = .ok (.sipush 260, 3) := by decide +kernel
theorem dX10_init_143 : decode cX10_init 143 = .ok (.newarray .int, 2) := by decide +kernel
theorem dX10_init_145 : decode cX10_init 145 = .ok (.putfield 59, 3) := by decide +kernel
theorem dX10_init_148 : decode cX10_init 148 = .ok (.aload_n 0, 1) := by decide +kernel
theorem dX10_init_149 : decode cX10_init 149 = .ok (.bipush 8, 2) := by decide +kernel
theorem dX10_init_151 : decode cX10_init 151 = .ok (.newarray .int, 2) := by decide +kernel
theorem dX10_init_153 : decode cX10_init 153 = .ok (.putfield 62, 3) := by decide +kernel
theorem dX10_init_156 : decode cX10_init 156 = .ok (.aload_n 0, 1) := by decide +kernel
theorem dX10_init_157 : decode cX10_init 157 = .ok (.bipush 40, 2) := by decide +kernel
theorem dX10_init_159 : decode cX10_init 159 = .ok (.newarray .int, 2) := by decide +kernel
theorem dX10_init_161 : decode cX10_init 161 = .ok (.putfield 65, 3) := by decide +kernel
theorem dX10_init_164 : decode cX10_init 164 = .ok (.aload_n 0, 1) := by decide +kernel
theorem dX10_init_165 : decode cX10_init 165 = .ok (.bipush 40, 2) := by decide +kernel
theorem dX10_init_167 : decode cX10_init 167 = .ok (.newarray .int, 2) := by decide +kernel
theorem dX10_init_169 : decode cX10_init 169 = .ok (.putfield 68, 3) := by decide +kernel
theorem dX10_init_172 : decode cX10_init 172 = .ok (.aload_n 0, 1) := by decide +kernel
theorem dX10_init_173 : decode cX10_init 173 = .ok (.bipush 40, 2) := by decide +kernel
theorem dX10_init_175 : decode cX10_init 175 = .ok (.newarray .int, 2) := by decide +kernel
theorem dX10_init_177 : decode cX10_init 177 = .ok (.putfield 71, 3) := by decide +kernel
theorem dX10_init_180 : decode cX10_init 180 = .ok (.aload_n 0, 1) := by decide +kernel
theorem dX10_init_181 : decode cX10_init 181 = .ok (.bipush 40, 2) := by decide +kernel
theorem dX10_init_183 : decode cX10_init 183 = .ok (.newarray .int, 2) := by decide +kernel
theorem dX10_init_185 : decode cX10_init 185 = .ok (.putfield 74, 3) := by decide +kernel
theorem dX10_init_188 : decode cX10_init 188 = .ok (.aload_n 0, 1) := by decide +kernel
theorem dX10_init_189 : decode cX10_init 189 = .ok (.bipush 40, 2) := by decide +kernel
theorem dX10_init_191 : decode cX10_init 191 = .ok (.newarray .int, 2) := by decide +kernel
theorem dX10_init_193 : decode cX10_init 193 = .ok (.putfield 77, 3) := by decide +kernel
theorem dX10_init_196 : decode cX10_init 196 = .ok (.aload_n 0, 1) := by decide +kernel
theorem dX10_init_197 : decode cX10_init 197 = .ok (.bipush 40, 2) := by decide +kernel
theorem dX10_init_199 : decode cX10_init 199 = .ok (.newarray .int, 2) := by decide +kernel
theorem dX10_init_201 : decode cX10_init 201 = .ok (.putfield 80, 3) := by decide +kernel
theorem dX10_init_204 : decode cX10_init 204 = .ok (.aload_n 0, 1) := by decide +kernel
theorem dX10_init_205 : decode cX10_init 205 = .ok (.bipush 40, 2) := by decide +kernel
theorem dX10_init_207 : decode cX10_init 207 = .ok (.newarray .int, 2) := by decide +kernel
theorem dX10_init_209 : decode cX10_init 209 = .ok (.putfield 83, 3) := by decide +kernel
theorem dX10_init_212 : decode cX10_init 212 = .ok (.aload_n 0, 1) := by decide +kernel
theorem dX10_init_213 : decode cX10_init 213 = .ok (.bipush 40, 2) := by decide +kernel
theorem dX10_init_215 : decode cX10_init 215 = .ok (.newarray .int, 2) := by decide +kernel
theorem dX10_init_217 : decode cX10_init 217 = .ok (.putfield 86, 3) := by decide +kernel
theorem dX10_init_220 : decode cX10_init 220 = .ok (.aload_n 0, 1) := by decide +kernel
theorem dX10_init_221 : decode cX10_init 221 = .ok (.bipush 40, 2) := by decide +kernel
theorem dX10_init_223 : decode cX10_init 223 = .ok (.newarray .int, 2) := by decide +kernel
theorem dX10_init_225 : decode cX10_init 225 = .ok (.putfield 89, 3) := by decide +kernel
theorem dX10_init_228 : decode cX10_init 228 = .ok (.aload_n 0, 1) := by decide +kernel
theorem dX10_init_229 : decode cX10_init 229 = .ok (.sipush 6724, 3) := by decide +kernel
theorem dX10_init_232 : decode cX10_init 232 = .ok (.newarray .byte, 2) := by decide +kernel
theorem dX10_init_234 : decode cX10_init 234 = .ok (.putfield 92, 3) := by decide +kernel
theorem dX10_init_237 : decode cX10_init 237 = .ok (.aload_n 0, 1) := by decide +kernel
theorem dX10_init_238 : decode cX10_init 238 = .ok (.bipush 82, 2) := by decide +kernel
theorem dX10_init_240 : decode cX10_init 240 = .ok (.newarray .int, 2) := by decide +kernel
theorem dX10_init_242 : decode cX10_init 242 = .ok (.putfield 95, 3) := by decide +kernel
theorem dX10_init_245 : decode cX10_init 245 = .ok (.aload_n 0, 1) := by decide +kernel
theorem dX10_init_246 : decode cX10_init 246 = .ok (.bipush 82, 2) := by decide +kernel
theorem dX10_init_248 : decode cX10_init 248 = .ok (.newarray .int, 2) := by decide +kernel
theorem dX10_init_250 : decode cX10_init 250 = .ok (.putfield 98, 3) := by decide +kernel
theorem dX10_init_253 : decode cX10_init 253 = .ok (.aload_n 0, 1) := by decide +kernel
theorem dX10_init_254 : decode cX10_init 254 = .ok (.bipush 40, 2) := by decide +kernel
theorem dX10_init_256 : decode cX10_init 256 = .ok (.newarray .int, 2) := by decide +kernel
theorem dX10_init_258 : decode cX10_init 258 = .ok (.putfield 101, 3) := by decide +kernel
theorem dX10_init_261 : decode cX10_init 261 = .ok (.aload_n 0, 1) := by decide +kernel
theorem dX10_init_262 : decode cX10_init 262 = .ok (.bipush 60, 2) := by decide +kernel
theorem dX10_init_264 : decode cX10_init 264 = .ok (.newarray .int, 2) := by decide +kernel
theorem dX10_init_266 : decode cX10_init 266 = .ok (.putfield 104, 3) := by decide +kernel
theorem dX10_init_269 : decode cX10_init 269 = .ok (.aload_n 0, 1) := by decide +kernel
theorem dX10_init_270 : decode cX10_init 270 = .ok (.bipush 60, 2) := by decide +kernel
theorem dX10_init_272 : decode cX10_init 272 = .ok (.newarray .int, 2) := by decide +kernel
theorem dX10_init_274 : decode cX10_init 274 = .ok (.putfield 107, 3) := by decide +kernel
theorem dX10_init_277 : decode cX10_init 277 = .ok (.aload_n 0, 1) := by decide +kernel
theorem dX10_init_278 : decode cX10_init 278 = .ok (.iconst 2, 1) := by decide +kernel
theorem dX10_init_279 : decode cX10_init 279 = .ok (.newarray .int, 2) := by decide +kernel
theorem dX10_init_281 : decode cX10_init 281 = .ok (.putfield 110, 3) := by decide +kernel
theorem dX10_init_284 : decode cX10_init 284 = .ok (.aload_n 0, 1) := by decide +kernel
theorem dX10_init_285 : decode cX10_init 285 = .ok (.iconst 2, 1) := by decide +kernel
theorem dX10_init_286 : decode cX10_init 286 = .ok (.newarray .int, 2) := by decide +kernel
theorem dX10_init_288 : decode cX10_init 288 = .ok (.putfield 113, 3) := by decide +kernel
theorem dX10_init_291 : decode cX10_init 291 = .ok (.aload_n 0, 1) := by decide +kernel
theorem dX10_init_292 : decode cX10_init 292 = .ok (.bipush 7, 2) := by decide +kernel
theorem dX10_init_294 : decode cX10_init 294 = .ok (.newarray .int, 2) := by decide +kernel
theorem dX10_init_296 : decode cX10_init 296 = .ok (.putfield 116, 3) := by decide +kernel
theorem dX10_init_299 : decode cX10_init 299 = .ok (.aload_n 0, 1) := by decide +kernel
theorem dX10_init_300 : decode cX10_init 300 = .ok (.bipush 7, 2) := by decide +kernel
theorem dX10_init_302 : decode cX10_init 302 = .ok (.newarray .int, 2) := by decide +kernel
theorem dX10_init_304 : decode cX10_init 304 = .ok (.putfield 119, 3) := by decide +kernel
theorem dX10_init_307 : decode cX10_init 307 = .ok (.aload_n 0, 1) := by decide +kernel
theorem dX10_init_308 : decode cX10_init 308 = .ok (.bipush 7, 2) := by decide +kernel
theorem dX10_init_310 : decode cX10_init 310 = .ok (.newarray .int, 2) := by decide +kernel
theorem dX10_init_312 : decode cX10_init 312 = .ok (.putfield 122, 3) := by decide +kernel
theorem dX10_init_315 : decode cX10_init 315 = .ok (.aload_n 0, 1) := by decide +kernel
theorem dX10_init_316 : decode cX10_init 316 = .ok (.getfield 7, 3) := by decide +kernel
theorem dX10_init_319 : decode cX10_init 319 = .ok (.sipush 201, 3) := by decide +kernel
theorem dX10_init_322 : decode cX10_init 322 = .ok (.iconst 1, 1) := by decide +kernel
theorem dX10_init_323 : decode cX10_init 323 = .ok (.iastore, 1) := by decide +kernel
theorem dX10_init_324 : decode cX10_init 324 = .ok (.return_, 1) := by decide +kernel
theorem dX9_init_0 : decode cX9_init 0 = .ok (.aload_n 0, 1) := by decide +kernel
theorem dX9_init_1 : decode cX9_init 1 = .ok (.invokespecial 1, 3) := by decide +kernel
theorem dX9_init_4 : decode cX9_init 4 = .ok (.aload_n 0, 1) := by decide +kernel
theorem dX9_init_5 : decode cX9_init 5 = .ok (.new 7, 3) := by decide +kernel
theorem dX9_init_8 : decode cX9_init 8 = .ok (.dup, 1) := by decide +kernel
theorem dX9_init_9 : decode cX9_init 9 = .ok (.invokespecial 9, 3) := by decide +kernel
theorem dX9_init_12 : decode cX9_init 12 = .ok (.putfield 10, 3) := by decide +kernel
theorem dX9_init_15 : decode cX9_init 15 = .ok (.aload_n 0, 1) := by decide +kernel
theorem dX9_init_16 : decode cX9_init 16 = .ok (.new 7, 3) := by decide +kernel
theorem dX9_init_19 : decode cX9_init 19 = .ok (.dup, 1) := by decide +kernel
theorem dX9_init_20 : decode cX9_init 20 = .ok (.invokespecial 9, 3) := by decide +kernel
theorem dX9_init_23 : decode cX9_init 23 = .ok (.putfield 16, 3) := by decide +kernel
theorem dX9_init_26 : decode cX9_init 26 = .ok (.aload_n 0, 1) := by decide +kernel
theorem dX9_init_27 : decode cX9_init 27 = .ok (.new 7, 3) := by decide +kernel
theorem dX9_init_30 : decode cX9_init 30 = .ok (.dup, 1) := by decide +kernel
theorem dX9_init_31 : decode cX9_init 31 = .ok (.invokespecial 9, 3) := by decide +kernel
theorem dX9_init_34 : decode cX9_init 34 = .ok (.putfield 19, 3) := by decide +kernel
theorem dX9_init_37 : decode cX9_init 37 = .ok (.aload_n 0, 1) := by decide +kernel
theorem dX9_init_38 : decode cX9_init 38 = .ok (.new 22, 3) := by decide +kernel
theorem dX9_init_41 : decode cX9_init 41 = .ok (.dup, 1) := by decide +kernel
theorem dX9_init_42 : decode cX9_init 42 = .ok (.invokespecial 24, 3) := by decide +kernel
theorem dX9_init_45 : decode cX9_init 45 = .ok (.putfield 25, 3) := by decide +kernel
theorem dX9_init_48 : decode cX9_init 48 = .ok (.aload_n 0, 1) := by decide +kernel
theorem dX9_init_49 : decode cX9_init 49 = .ok (.new 29, 3) := by decide +kernel
theorem dX9_init_52 : decode cX9_init 52 = .ok (.dup, 1) := by decide +kernel
theorem dX9_init_53 : decode cX9_init 53 = .ok (.invokespecial 31, 3) := by decide +kernel
theorem dX9_init_56 : decode cX9_init 56 = .ok (.putfield 32, 3) := by decide +kernel
theorem dX9_init_59 : decode cX9_init 59 = .ok (.aload_n 0, 1) := by decide +kernel
theorem dX9_init_60 : decode cX9_init 60 = .ok (.new 36, 3) := by decide +kernel
theorem dX9_init_63 : decode cX9_init 63 = .ok (.dup, 1) := by decide +kernel
theorem dX9_init_64 : decode cX9_init 64 = .ok (.invokespecial 38, 3) := by decide +kernel
theorem dX9_init_67 : decode cX9_init 67 = .ok (.putfield 39, 3) := by decide +kernel
theorem dX9_init_70 : decode cX9_init 70 = .ok (.aload_n 0, 1) := by decide +kernel
theorem dX9_init_71 : decode cX9_init 71 = .ok (.new 43, 3) := by decide +kernel
theorem dX9_init_74 : decode cX9_init 74 = .ok (.dup, 1) := by decide +kernel
theorem dX9_init_75 : decode cX9_init 75 = .ok (.invokespecial 45, 3) := by decide +kernel
theorem dX9_init_78 : decode cX9_init 78 = .ok (.putfield 46, 3) := by decide +kernel
theorem dX9_init_81 : decode cX9_init 81 = .ok (.aload_n 0, 1) := by decide +kernel
theorem dX9_init_82 : decode cX9_init 82 = .ok (.new 50, 3) := by decide +kernel
theorem dX9_init_85 : decode cX9_init 85 = .ok (.dup, 1) := by decide +kernel
theorem dX9_init_86 : decode cX9_init 86 = .ok (.invokespecial 52, 3) := by decide +kernel
theorem dX9_init_89 : decode cX9_init 89 = .ok (.putfield 53, 3) := by decide +kernel
theorem dX9_init_92 : decode cX9_init 92 = .ok (.aload_n 0, 1) := by decide +kernel
theorem dX9_init_93 : decode cX9_init 93 = .ok (.new 57, 3) := by decide +kernel
theorem dX9_init_96 : decode cX9_init 96 = .ok (.dup, 1) := by decide +kernel
theorem dX9_init_97 : decode cX9_init 97 = .ok (.invokespecial 59, 3) := by decide +kernel
theorem dX9_init_100 : decode cX9_init 100 = .ok (.putfield 60, 3) := by decide +kernel
theorem dX9_init_103 : decode cX9_init 103 = .ok (.aload_n 0, 1) := by decide +kernel
theorem dX9_init_104 : decode cX9_init 104 = .ok (.bipush 8, 2) := by decide +kernel
theorem dX9_init_106 : decode cX9_init 106 = .ok (.newarray .int, 2) := by decide +kernel
theorem dX9_init_108 : decode cX9_init 108 = .ok (.putfield 64, 3) := by decide +kernel
theorem dX9_init_111 : decode cX9_init 111 = .ok (.aload_n 0, 1) := by decide +kernel
theorem dX9_init_112 : decode cX9_init 112 = .ok (.new 68, 3) := by decide +kernel
theorem dX9_init_115 : decode cX9_init 115 = .ok (.dup, 1) := by decide +kernel
theorem dX9_init_116 : decode cX9_init 116 = .ok (.invokespecial 70, 3) := by decide +kernel
theorem dX9_init_119 : decode cX9_init 119 = .ok (.putfield 71, 3) := by decide +kernel
theorem dX9_init_122 : decode cX9_init 122 = .ok (.aload_n 0, 1) := by decide +kernel
theorem dX9_init_123 : decode cX9_init 123 = .ok (.new 68, 3) := by decide +kernel
theorem dX9_init_126 : decode cX9_init 126 = .ok (.dup, 1) := by decide +kernel
theorem dX9_init_127 : decode cX9_init 127 = .ok (.invokespecial 70, 3) := by decide +kernel
theorem dX9_init_130 : decode cX9_init 130 = .ok (.putfield 75, 3) := by decide +kernel
theorem dX9_init_133 : decode cX9_init 133 = .ok (.aload_n 0, 1) := by decide +kernel
theorem dX9_init_134 : decode cX9_init 134 = .ok (.iconst 0, 1) := by decide +kernel
theorem dX9_init_135 : decode cX9_init 135 = .ok (.putfield 78, 3) := by decide +kernel
theorem dX9_init_138 : decode cX9_init 138 = .ok (.return_, 1) := by decide +kernel

theorem tyF_0_0 : ∀ q : vw_C, cls11[0]? = some q → (q.2.1 0).2.2.2 = true ∧ parseFieldDescriptor (q.2.1 0).2.2.1 = some (.array .int) ∧ (q.2.1 0).1 = RX0 := fun q h => by
  have h : some (RX0, TX0, 5) = some q := h
  cases h
  exact ⟨by decide +kernel, by decide +kernel, by decide +kernel⟩
theorem tyF_0_1 : ∀ q : vw_C, cls11[0]? = some q → (q.2.1 1).2.2.2 = true ∧ parseFieldDescriptor (q.2.1 1).2.2.1 = some (.array .int) ∧ (q.2.1 1).1 = RX0 := fun q h => by
  have h : some (RX0, TX0, 5) = some q := h
  cases h
  exact ⟨by decide +kernel, by decide +kernel, by decide +kernel⟩
theorem tyF_0_2 : ∀ q : vw_C, cls11[0]? = some q → (q.2.1 2).2.2.2 = true ∧ parseFieldDescriptor (q.2.1 2).2.2.1 = some (.array .int) ∧ (q.2.1 2).1 = RX0 := fun q h => by
  have h : some (RX0, TX0, 5) = some q := h
  cases h
  exact ⟨by decide +kernel, by decide +kernel, by decide +kernel⟩
theorem tyF_0_3 : ∀ q : vw_C, cls11[0]? = some q → (q.2.1 3).2.2.2 = true ∧ parseFieldDescriptor (q.2.1 3).2.2.1 = some (.array .int) ∧ (q.2.1 3).1 = RX0 := fun q h => by
  have h : some (RX0, TX0, 5) = some q := h
  cases h
  exact ⟨by decide +kernel, by decide +kernel, by decide +kernel⟩
theorem tyF_0_4 : ∀ q : vw_C, cls11[0]? = some q → (q.2.1 4).2.2.2 = true ∧ parseFieldDescriptor (q.2.1 4).2.2.1 = some (.array .int) ∧ (q.2.1 4).1 = RX0 := fun q h => by
  have h : some (RX0, TX0, 5) = some q := h
  cases h
  exact ⟨by decide +kernel, by decide +kernel, by decide +kernel⟩
theorem tyF_1_0 : ∀ q : vw_C, cls11[1]? = some q → (q.2.1 0).2.2.2 = true ∧ parseFieldDescriptor (q.2.1 0).2.2.1 = some (.array .int) ∧ (q.2.1 0).1 = RX1 := fun q h => by
  have h : some (RX1, TX1, 4) = some q := h
  cases h
  exact ⟨by decide +kernel, by decide +kernel, by decide +kernel⟩
theorem tyF_1_1 : ∀ q : vw_C, cls11[1]? = some q → (q.2.1 1).2.2.2 = true ∧ parseFieldDescriptor (q.2.1 1).2.2.1 = some (.array .int) ∧ (q.2.1 1).1 = RX1 := fun q h => by
  have h : some (RX1, TX1, 4) = some q := h
  cases h
  exact ⟨by decide +kernel, by decide +kernel, by decide +kernel⟩
theorem tyF_1_2 : ∀ q : vw_C, cls11[1]? = some q → (q.2.1 2).2.2.2 = true ∧ parseFieldDescriptor (q.2.1 2).2.2.1 = some (.array .int) ∧ (q.2.1 2).1 = RX1 := fun q h => by
  have h : some (RX1, TX1, 4) = some q := h
  cases h
  exact ⟨by decide +kernel, by decide +kernel, by decide +kernel⟩
theorem tyF_2_0 : ∀ q : vw_C, cls11[2]? = some q → (q.2.1 0).2.2.2 = true ∧ parseFieldDescriptor (q.2.1 0).2.2.1 = some (.array .int) ∧ (q.2.1 0).1 = RX2 := fun q h => by
  have h : some (RX2, TX2, 7) = some q := h
  cases h
  exact ⟨by decide +kernel, by decide +kernel, by decide +kernel⟩
theorem tyF_2_1 : ∀ q : vw_C, cls11[2]? = some q → (q.2.1 1).2.2.2 = true ∧ parseFieldDescriptor (q.2.1 1).2.2.1 = some (.array .int) ∧ (q.2.1 1).1 = RX2 := fun q h => by
  have h : some (RX2, TX2, 7) = some q := h
  cases h
  exact ⟨by decide +kernel, by decide +kernel, by decide +kernel⟩
theorem tyF_2_2 : ∀ q : vw_C, cls11[2]? = some q → (q.2.1 2).2.2.2 = true ∧ parseFieldDescriptor (q.2.1 2).2.2.1 = some (.array .int) ∧ (q.2.1 2).1 = RX2 := fun q h => by
  have h : some (RX2, TX2, 7) = some q := h
  cases h
  exact ⟨by decide +kernel, by decide +kernel, by decide +kernel⟩
theorem tyF_2_3 : ∀ q : vw_C, cls11[2]? = some q → (q.2.1 3).2.2.2 = true ∧ parseFieldDescriptor (q.2.1 3).2.2.1 = some (.array .boolean) ∧ (q.2.1 3).1 = RX2 := fun q h => by
  have h : some (RX2, TX2, 7) = some q := h
  cases h
  exact ⟨by decide +kernel, by decide +kernel, by decide +kernel⟩
theorem tyF_2_4 : ∀ q : vw_C, cls11[2]? = some q → (q.2.1 4).2.2.2 = true ∧ parseFieldDescriptor (q.2.1 4).2.2.1 = some (.array .boolean) ∧ (q.2.1 4).1 = RX2 := fun q h => by
  have h : some (RX2, TX2, 7) = some q := h
  cases h
  exact ⟨by decide +kernel, by decide +kernel, by decide +kernel⟩
theorem tyF_3_0 : ∀ q : vw_C, cls11[3]? = some q → (q.2.1 0).2.2.2 = true ∧ parseFieldDescriptor (q.2.1 0).2.2.1 = some (.array .int) ∧ (q.2.1 0).1 = RX3 := fun q h => by
  have h : some (RX3, TX3, 10) = some q := h
  cases h
  exact ⟨by decide +kernel, by decide +kernel, by decide +kernel⟩
theorem tyF_3_1 : ∀ q : vw_C, cls11[3]? = some q → (q.2.1 1).2.2.2 = true ∧ parseFieldDescriptor (q.2.1 1).2.2.1 = some (.array .int) ∧ (q.2.1 1).1 = RX3 := fun q h => by
  have h : some (RX3, TX3, 10) = some q := h
  cases h
  exact ⟨by decide +kernel, by decide +kernel, by decide +kernel⟩
theorem tyF_3_2 : ∀ q : vw_C, cls11[3]? = some q → (q.2.1 2).2.2.2 = true ∧ parseFieldDescriptor (q.2.1 2).2.2.1 = some (.array .int) ∧ (q.2.1 2).1 = RX3 := fun q h => by
  have h : some (RX3, TX3, 10) = some q := h
  cases h
  exact ⟨by decide +kernel, by decide +kernel, by decide +kernel⟩
theorem tyF_3_3 : ∀ q : vw_C, cls11[3]? = some q → (q.2.1 3).2.2.2 = true ∧ parseFieldDescriptor (q.2.1 3).2.2.1 = some (.array .int) ∧ (q.2.1 3).1 = RX3 := fun q h => by
  have h : some (RX3, TX3, 10) = some q := h
  cases h
  exact ⟨by decide +kernel, by decide +kernel, by decide +kernel⟩
theorem tyF_3_4 : ∀ q : vw_C, cls11[3]? = some q → (q.2.1 4).2.2.2 = true ∧ parseFieldDescriptor (q.2.1 4).2.2.1 = some (.array .int) ∧ (q.2.1 4).1 = RX3 := fun q h => by
  have h : some (RX3, TX3, 10) = some q := h
  cases h
  exact ⟨by decide +kernel, by decide +kernel, by decide +kernel⟩
theorem tyF_3_5 : ∀ q : vw_C, cls11[3]? = some q → (q.2.1 5).2.2.2 = true ∧ parseFieldDescriptor (q.2.1 5).2.2.1 = some (.array .int) ∧ (q.2.1 5).1 = RX3 := fun q h => by
  have h : some (RX3, TX3, 10) = some q := h
  cases h
  exact ⟨by decide +kernel, by decide +kernel, by decide +kernel⟩
theorem tyF_3_6 : ∀ q : vw_C, cls11[3]? = some q → (q.2.1 6).2.2.2 = true ∧ parseFieldDescriptor (q.2.1 6).2.2.1 = some (.array .int) ∧ (q.2.1 6).1 = RX3 := fun q h => by
  have h : some (RX3, TX3, 10) = some q := h
  cases h
  exact ⟨by decide +kernel, by decide +kernel, by decide +kernel⟩
theorem tyF_4_0 : ∀ q : vw_C, cls11[4]? = some q → (q.2.1 0).2.2.2 = true ∧ parseFieldDescriptor (q.2.1 0).2.2.1 = some (.array .int) ∧ (q.2.1 0).1 = RX4 := fun q h => by
  have h : some (RX4, TX4, 6) = some q := h
  cases h
  exact ⟨by decide +kernel, by decide +kernel, by decide +kernel⟩
theorem tyF_4_1 : ∀ q : vw_C, cls11[4]? = some q → (q.2.1 1).2.2.2 = true ∧ parseFieldDescriptor (q.2.1 1).2.2.1 = some (.array .int) ∧ (q.2.1 1).1 = RX4 := fun q h => by
  have h : some (RX4, TX4, 6) = some q := h
  cases h
  exact ⟨by decide +kernel, by decide +kernel, by decide +kernel⟩
theorem tyF_5_0 : ∀ q : vw_C, cls11[5]? = some q → (q.2.1 0).2.2.2 = true ∧ parseFieldDescriptor (q.2.1 0).2.2.1 = some (.array .int) ∧ (q.2.1 0).1 = RX5 := fun q h => by
  have h : some (RX5, TX5, 3) = some q := h
  cases h
  exact ⟨by decide +kernel, by decide +kernel, by decide +kernel⟩
theorem tyF_7_0 : ∀ q : vw_C, cls11[7]? = some q → (q.2.1 0).2.2.2 = true ∧ parseFieldDescriptor (q.2.1 0).2.2.1 = some (.array .int) ∧ (q.2.1 0).1 = RX7 := fun q h => by
  have h : some (RX7, TX7, 5) = some q := h
  cases h
  exact ⟨by decide +kernel, by decide +kernel, by decide +kernel⟩
theorem tyF_8_0 : ∀ q : vw_C, cls11[8]? = some q → (q.2.1 0).2.2.2 = true ∧ parseFieldDescriptor (q.2.1 0).2.2.1 = some (.array .int) ∧ (q.2.1 0).1 = RX8 := fun q h => by
  have h : some (RX8, TX8, 6) = some q := h
  cases h
  exact ⟨by decide +kernel, by decide +kernel, by decide +kernel⟩
theorem tyF_8_1 : ∀ q : vw_C, cls11[8]? = some q → (q.2.1 1).2.2.2 = true ∧ parseFieldDescriptor (q.2.1 1).2.2.1 = some (.array .int) ∧ (q.2.1 1).1 = RX8 := fun q h => by
  have h : some (RX8, TX8, 6) = some q := h
  cases h
  exact ⟨by decide +kernel, by decide +kernel, by decide +kernel⟩
theorem tyF_8_2 : ∀ q : vw_C, cls11[8]? = some q → (q.2.1 2).2.2.2 = true ∧ parseFieldDescriptor (q.2.1 2).2.2.1 = some (.array .int) ∧ (q.2.1 2).1 = RX8 := fun q h => by
  have h : some (RX8, TX8, 6) = some q := h
  cases h
  exact ⟨by decide +kernel, by decide +kernel, by decide +kernel⟩
theorem tyF_8_3 : ∀ q : vw_C, cls11[8]? = some q → (q.2.1 3).2.2.2 = true ∧ parseFieldDescriptor (q.2.1 3).2.2.1 = some (.array .int) ∧ (q.2.1 3).1 = RX8 := fun q h => by
  have h : some (RX8, TX8, 6) = some q := h
  cases h
  exact ⟨by decide +kernel, by decide +kernel, by decide +kernel⟩
theorem tyF_8_4 : ∀ q : vw_C, cls11[8]? = some q → (q.2.1 4).2.2.2 = true ∧ parseFieldDescriptor (q.2.1 4).2.2.1 = some (.array .int) ∧ (q.2.1 4).1 = RX8 := fun q h => by
  have h : some (RX8, TX8, 6) = some q := h
  cases h
  exact ⟨by decide +kernel, by decide +kernel, by decide +kernel⟩
theorem tyF_8_5 : ∀ q : vw_C, cls11[8]? = some q → (q.2.1 5).2.2.2 = true ∧ parseFieldDescriptor (q.2.1 5).2.2.1 = some (.array .boolean) ∧ (q.2.1 5).1 = RX8 := fun q h => by
  have h : some (RX8, TX8, 6) = some q := h
  cases h
  exact ⟨by decide +kernel, by decide +kernel, by decide +kernel⟩
theorem tyF_9_0 : ∀ q : vw_C, cls11[9]? = some q → (q.2.1 0).2.2.2 = true ∧ parseFieldDescriptor (q.2.1 0).2.2.1 = some (.object "SteppingStones$Ford") ∧ (q.2.1 0).1 = RX9 := fun q h => by
  have h : some (RX9, TX9, 13) = some q := h
  cases h
  exact ⟨by decide +kernel, by decide +kernel, by decide +kernel⟩
theorem tyF_9_1 : ∀ q : vw_C, cls11[9]? = some q → (q.2.1 1).2.2.2 = true ∧ parseFieldDescriptor (q.2.1 1).2.2.1 = some (.object "SteppingStones$Ford") ∧ (q.2.1 1).1 = RX9 := fun q h => by
  have h : some (RX9, TX9, 13) = some q := h
  cases h
  exact ⟨by decide +kernel, by decide +kernel, by decide +kernel⟩
theorem tyF_9_2 : ∀ q : vw_C, cls11[9]? = some q → (q.2.1 2).2.2.2 = true ∧ parseFieldDescriptor (q.2.1 2).2.2.1 = some (.object "SteppingStones$Ford") ∧ (q.2.1 2).1 = RX9 := fun q h => by
  have h : some (RX9, TX9, 13) = some q := h
  cases h
  exact ⟨by decide +kernel, by decide +kernel, by decide +kernel⟩
theorem tyF_9_3 : ∀ q : vw_C, cls11[9]? = some q → (q.2.1 3).2.2.2 = true ∧ parseFieldDescriptor (q.2.1 3).2.2.1 = some (.object "SteppingStones$Tape") ∧ (q.2.1 3).1 = RX9 := fun q h => by
  have h : some (RX9, TX9, 13) = some q := h
  cases h
  exact ⟨by decide +kernel, by decide +kernel, by decide +kernel⟩
theorem tyF_9_4 : ∀ q : vw_C, cls11[9]? = some q → (q.2.1 4).2.2.2 = true ∧ parseFieldDescriptor (q.2.1 4).2.2.1 = some (.object "SteppingStones$River") ∧ (q.2.1 4).1 = RX9 := fun q h => by
  have h : some (RX9, TX9, 13) = some q := h
  cases h
  exact ⟨by decide +kernel, by decide +kernel, by decide +kernel⟩
theorem tyF_9_5 : ∀ q : vw_C, cls11[9]? = some q → (q.2.1 5).2.2.2 = true ∧ parseFieldDescriptor (q.2.1 5).2.2.1 = some (.object "SteppingStones$Ways") ∧ (q.2.1 5).1 = RX9 := fun q h => by
  have h : some (RX9, TX9, 13) = some q := h
  cases h
  exact ⟨by decide +kernel, by decide +kernel, by decide +kernel⟩
theorem tyF_9_6 : ∀ q : vw_C, cls11[9]? = some q → (q.2.1 6).2.2.2 = true ∧ parseFieldDescriptor (q.2.1 6).2.2.1 = some (.object "SteppingStones$Dam") ∧ (q.2.1 6).1 = RX9 := fun q h => by
  have h : some (RX9, TX9, 13) = some q := h
  cases h
  exact ⟨by decide +kernel, by decide +kernel, by decide +kernel⟩
theorem tyF_9_7 : ∀ q : vw_C, cls11[9]? = some q → (q.2.1 7).2.2.2 = true ∧ parseFieldDescriptor (q.2.1 7).2.2.1 = some (.object "SteppingStones$Plan") ∧ (q.2.1 7).1 = RX9 := fun q h => by
  have h : some (RX9, TX9, 13) = some q := h
  cases h
  exact ⟨by decide +kernel, by decide +kernel, by decide +kernel⟩
theorem tyF_9_8 : ∀ q : vw_C, cls11[9]? = some q → (q.2.1 8).2.2.2 = true ∧ parseFieldDescriptor (q.2.1 8).2.2.1 = some (.object "SteppingStones$Chalk") ∧ (q.2.1 8).1 = RX9 := fun q h => by
  have h : some (RX9, TX9, 13) = some q := h
  cases h
  exact ⟨by decide +kernel, by decide +kernel, by decide +kernel⟩
theorem tyF_9_9 : ∀ q : vw_C, cls11[9]? = some q → (q.2.1 9).2.2.2 = true ∧ parseFieldDescriptor (q.2.1 9).2.2.1 = some (.array .int) ∧ (q.2.1 9).1 = RX9 := fun q h => by
  have h : some (RX9, TX9, 13) = some q := h
  cases h
  exact ⟨by decide +kernel, by decide +kernel, by decide +kernel⟩
theorem tyc_9_10 : ∀ q : vw_C, cls11[9]? = some q → (q.2.1 10).2.2.2 = false ∧ parseFieldDescriptor (q.2.1 10).2.2.1 = some (.object "SteppingStones$Law") := fun q h => by
  have h : some (RX9, TX9, 13) = some q := h
  cases h
  exact ⟨by decide +kernel, by decide +kernel⟩
theorem tyc_9_11 : ∀ q : vw_C, cls11[9]? = some q → (q.2.1 11).2.2.2 = false ∧ parseFieldDescriptor (q.2.1 11).2.2.1 = some (.object "SteppingStones$Law") := fun q h => by
  have h : some (RX9, TX9, 13) = some q := h
  cases h
  exact ⟨by decide +kernel, by decide +kernel⟩
theorem tyF_10_0 : ∀ q : vw_C, cls11[10]? = some q → (q.2.1 0).2.2.2 = true ∧ parseFieldDescriptor (q.2.1 0).2.2.1 = some (.array .int) ∧ (q.2.1 0).1 = RX10 := fun q h => by
  have h : some (RX10, TX10, 55) = some q := h
  cases h
  exact ⟨by decide +kernel, by decide +kernel, by decide +kernel⟩
theorem tyF_10_1 : ∀ q : vw_C, cls11[10]? = some q → (q.2.1 1).2.2.2 = true ∧ parseFieldDescriptor (q.2.1 1).2.2.1 = some (.array .int) ∧ (q.2.1 1).1 = RX10 := fun q h => by
  have h : some (RX10, TX10, 55) = some q := h
  cases h
  exact ⟨by decide +kernel, by decide +kernel, by decide +kernel⟩
theorem tyF_10_2 : ∀ q : vw_C, cls11[10]? = some q → (q.2.1 2).2.2.2 = true ∧ parseFieldDescriptor (q.2.1 2).2.2.1 = some (.array .int) ∧ (q.2.1 2).1 = RX10 := fun q h => by
  have h : some (RX10, TX10, 55) = some q := h
  cases h
  exact ⟨by decide +kernel, by decide +kernel, by decide +kernel⟩
theorem tyF_10_3 : ∀ q : vw_C, cls11[10]? = some q → (q.2.1 3).2.2.2 = true ∧ parseFieldDescriptor (q.2.1 3).2.2.1 = some (.array .int) ∧ (q.2.1 3).1 = RX10 := fun q h => by
  have h : some (RX10, TX10, 55) = some q := h
  cases h
  exact ⟨by decide +kernel, by decide +kernel, by decide +kernel⟩
theorem tyF_10_5 : ∀ q : vw_C, cls11[10]? = some q → (q.2.1 5).2.2.2 = true ∧ parseFieldDescriptor (q.2.1 5).2.2.1 = some (.array .byte) ∧ (q.2.1 5).1 = RX10 := fun q h => by
  have h : some (RX10, TX10, 55) = some q := h
  cases h
  exact ⟨by decide +kernel, by decide +kernel, by decide +kernel⟩
theorem tyF_10_16 : ∀ q : vw_C, cls11[10]? = some q → (q.2.1 16).2.2.2 = true ∧ parseFieldDescriptor (q.2.1 16).2.2.1 = some (.array .int) ∧ (q.2.1 16).1 = RX10 := fun q h => by
  have h : some (RX10, TX10, 55) = some q := h
  cases h
  exact ⟨by decide +kernel, by decide +kernel, by decide +kernel⟩
theorem tyF_10_17 : ∀ q : vw_C, cls11[10]? = some q → (q.2.1 17).2.2.2 = true ∧ parseFieldDescriptor (q.2.1 17).2.2.1 = some (.array .int) ∧ (q.2.1 17).1 = RX10 := fun q h => by
  have h : some (RX10, TX10, 55) = some q := h
  cases h
  exact ⟨by decide +kernel, by decide +kernel, by decide +kernel⟩
theorem tyF_10_18 : ∀ q : vw_C, cls11[10]? = some q → (q.2.1 18).2.2.2 = true ∧ parseFieldDescriptor (q.2.1 18).2.2.1 = some (.array .int) ∧ (q.2.1 18).1 = RX10 := fun q h => by
  have h : some (RX10, TX10, 55) = some q := h
  cases h
  exact ⟨by decide +kernel, by decide +kernel, by decide +kernel⟩
theorem tyF_10_19 : ∀ q : vw_C, cls11[10]? = some q → (q.2.1 19).2.2.2 = true ∧ parseFieldDescriptor (q.2.1 19).2.2.1 = some (.array .int) ∧ (q.2.1 19).1 = RX10 := fun q h => by
  have h : some (RX10, TX10, 55) = some q := h
  cases h
  exact ⟨by decide +kernel, by decide +kernel, by decide +kernel⟩
theorem tyF_10_20 : ∀ q : vw_C, cls11[10]? = some q → (q.2.1 20).2.2.2 = true ∧ parseFieldDescriptor (q.2.1 20).2.2.1 = some (.array .int) ∧ (q.2.1 20).1 = RX10 := fun q h => by
  have h : some (RX10, TX10, 55) = some q := h
  cases h
  exact ⟨by decide +kernel, by decide +kernel, by decide +kernel⟩
theorem tyF_10_21 : ∀ q : vw_C, cls11[10]? = some q → (q.2.1 21).2.2.2 = true ∧ parseFieldDescriptor (q.2.1 21).2.2.1 = some (.array .int) ∧ (q.2.1 21).1 = RX10 := fun q h => by
  have h : some (RX10, TX10, 55) = some q := h
  cases h
  exact ⟨by decide +kernel, by decide +kernel, by decide +kernel⟩
theorem tyF_10_22 : ∀ q : vw_C, cls11[10]? = some q → (q.2.1 22).2.2.2 = true ∧ parseFieldDescriptor (q.2.1 22).2.2.1 = some (.array .int) ∧ (q.2.1 22).1 = RX10 := fun q h => by
  have h : some (RX10, TX10, 55) = some q := h
  cases h
  exact ⟨by decide +kernel, by decide +kernel, by decide +kernel⟩
theorem tyF_10_23 : ∀ q : vw_C, cls11[10]? = some q → (q.2.1 23).2.2.2 = true ∧ parseFieldDescriptor (q.2.1 23).2.2.1 = some (.array .int) ∧ (q.2.1 23).1 = RX10 := fun q h => by
  have h : some (RX10, TX10, 55) = some q := h
  cases h
  exact ⟨by decide +kernel, by decide +kernel, by decide +kernel⟩
theorem tyF_10_24 : ∀ q : vw_C, cls11[10]? = some q → (q.2.1 24).2.2.2 = true ∧ parseFieldDescriptor (q.2.1 24).2.2.1 = some (.array .int) ∧ (q.2.1 24).1 = RX10 := fun q h => by
  have h : some (RX10, TX10, 55) = some q := h
  cases h
  exact ⟨by decide +kernel, by decide +kernel, by decide +kernel⟩
theorem tyF_10_25 : ∀ q : vw_C, cls11[10]? = some q → (q.2.1 25).2.2.2 = true ∧ parseFieldDescriptor (q.2.1 25).2.2.1 = some (.array .int) ∧ (q.2.1 25).1 = RX10 := fun q h => by
  have h : some (RX10, TX10, 55) = some q := h
  cases h
  exact ⟨by decide +kernel, by decide +kernel, by decide +kernel⟩
theorem tyF_10_26 : ∀ q : vw_C, cls11[10]? = some q → (q.2.1 26).2.2.2 = true ∧ parseFieldDescriptor (q.2.1 26).2.2.1 = some (.array .int) ∧ (q.2.1 26).1 = RX10 := fun q h => by
  have h : some (RX10, TX10, 55) = some q := h
  cases h
  exact ⟨by decide +kernel, by decide +kernel, by decide +kernel⟩
theorem tyF_10_27 : ∀ q : vw_C, cls11[10]? = some q → (q.2.1 27).2.2.2 = true ∧ parseFieldDescriptor (q.2.1 27).2.2.1 = some (.array .int) ∧ (q.2.1 27).1 = RX10 := fun q h => by
  have h : some (RX10, TX10, 55) = some q := h
  cases h
  exact ⟨by decide +kernel, by decide +kernel, by decide +kernel⟩
theorem tyF_10_28 : ∀ q : vw_C, cls11[10]? = some q → (q.2.1 28).2.2.2 = true ∧ parseFieldDescriptor (q.2.1 28).2.2.1 = some (.array .int) ∧ (q.2.1 28).1 = RX10 := fun q h => by
  have h : some (RX10, TX10, 55) = some q := h
  cases h
  exact ⟨by decide +kernel, by decide +kernel, by decide +kernel⟩
theorem tyF_10_29 : ∀ q : vw_C, cls11[10]? = some q → (q.2.1 29).2.2.2 = true ∧ parseFieldDescriptor (q.2.1 29).2.2.1 = some (.array .int) ∧ (q.2.1 29).1 = RX10 := fun q h => by
  have h : some (RX10, TX10, 55) = some q := h
  cases h
  exact ⟨by decide +kernel, by decide +kernel, by decide +kernel⟩
theorem tyF_10_30 : ∀ q : vw_C, cls11[10]? = some q → (q.2.1 30).2.2.2 = true ∧ parseFieldDescriptor (q.2.1 30).2.2.1 = some (.array .int) ∧ (q.2.1 30).1 = RX10 := fun q h => by
  have h : some (RX10, TX10, 55) = some q := h
  cases h
  exact ⟨by decide +kernel, by decide +kernel, by decide +kernel⟩
theorem tyF_10_31 : ∀ q : vw_C, cls11[10]? = some q → (q.2.1 31).2.2.2 = true ∧ parseFieldDescriptor (q.2.1 31).2.2.1 = some (.array .int) ∧ (q.2.1 31).1 = RX10 := fun q h => by
  have h : some (RX10, TX10, 55) = some q := h
  cases h
  exact ⟨by decide +kernel, by decide +kernel, by decide +kernel⟩
theorem tyF_10_32 : ∀ q : vw_C, cls11[10]? = some q → (q.2.1 32).2.2.2 = true ∧ parseFieldDescriptor (q.2.1 32).2.2.1 = some (.array .int) ∧ (q.2.1 32).1 = RX10 := fun q h => by
  have h : some (RX10, TX10, 55) = some q := h
  cases h
  exact ⟨by decide +kernel, by decide +kernel, by decide +kernel⟩
theorem tyF_10_36 : ∀ q : vw_C, cls11[10]? = some q → (q.2.1 36).2.2.2 = true ∧ parseFieldDescriptor (q.2.1 36).2.2.1 = some (.array .int) ∧ (q.2.1 36).1 = RX10 := fun q h => by
  have h : some (RX10, TX10, 55) = some q := h
  cases h
  exact ⟨by decide +kernel, by decide +kernel, by decide +kernel⟩
theorem tyF_10_37 : ∀ q : vw_C, cls11[10]? = some q → (q.2.1 37).2.2.2 = true ∧ parseFieldDescriptor (q.2.1 37).2.2.1 = some (.array .int) ∧ (q.2.1 37).1 = RX10 := fun q h => by
  have h : some (RX10, TX10, 55) = some q := h
  cases h
  exact ⟨by decide +kernel, by decide +kernel, by decide +kernel⟩
theorem tyF_10_38 : ∀ q : vw_C, cls11[10]? = some q → (q.2.1 38).2.2.2 = true ∧ parseFieldDescriptor (q.2.1 38).2.2.1 = some (.array .int) ∧ (q.2.1 38).1 = RX10 := fun q h => by
  have h : some (RX10, TX10, 55) = some q := h
  cases h
  exact ⟨by decide +kernel, by decide +kernel, by decide +kernel⟩
theorem tyF_10_39 : ∀ q : vw_C, cls11[10]? = some q → (q.2.1 39).2.2.2 = true ∧ parseFieldDescriptor (q.2.1 39).2.2.1 = some (.array .int) ∧ (q.2.1 39).1 = RX10 := fun q h => by
  have h : some (RX10, TX10, 55) = some q := h
  cases h
  exact ⟨by decide +kernel, by decide +kernel, by decide +kernel⟩
theorem tyF_10_40 : ∀ q : vw_C, cls11[10]? = some q → (q.2.1 40).2.2.2 = true ∧ parseFieldDescriptor (q.2.1 40).2.2.1 = some (.array .int) ∧ (q.2.1 40).1 = RX10 := fun q h => by
  have h : some (RX10, TX10, 55) = some q := h
  cases h
  exact ⟨by decide +kernel, by decide +kernel, by decide +kernel⟩
theorem tyF_10_41 : ∀ q : vw_C, cls11[10]? = some q → (q.2.1 41).2.2.2 = true ∧ parseFieldDescriptor (q.2.1 41).2.2.1 = some (.array .byte) ∧ (q.2.1 41).1 = RX10 := fun q h => by
  have h : some (RX10, TX10, 55) = some q := h
  cases h
  exact ⟨by decide +kernel, by decide +kernel, by decide +kernel⟩
theorem tyF_10_42 : ∀ q : vw_C, cls11[10]? = some q → (q.2.1 42).2.2.2 = true ∧ parseFieldDescriptor (q.2.1 42).2.2.1 = some (.array .int) ∧ (q.2.1 42).1 = RX10 := fun q h => by
  have h : some (RX10, TX10, 55) = some q := h
  cases h
  exact ⟨by decide +kernel, by decide +kernel, by decide +kernel⟩
theorem tyF_10_43 : ∀ q : vw_C, cls11[10]? = some q → (q.2.1 43).2.2.2 = true ∧ parseFieldDescriptor (q.2.1 43).2.2.1 = some (.array .int) ∧ (q.2.1 43).1 = RX10 := fun q h => by
  have h : some (RX10, TX10, 55) = some q := h
  cases h
  exact ⟨by decide +kernel, by decide +kernel, by decide +kernel⟩
theorem tyF_10_44 : ∀ q : vw_C, cls11[10]? = some q → (q.2.1 44).2.2.2 = true ∧ parseFieldDescriptor (q.2.1 44).2.2.1 = some (.array .int) ∧ (q.2.1 44).1 = RX10 := fun q h => by
  have h : some (RX10, TX10, 55) = some q := h
  cases h
  exact ⟨by decide +kernel, by decide +kernel, by decide +kernel⟩
theorem tyF_10_45 : ∀ q : vw_C, cls11[10]? = some q → (q.2.1 45).2.2.2 = true ∧ parseFieldDescriptor (q.2.1 45).2.2.1 = some (.array .int) ∧ (q.2.1 45).1 = RX10 := fun q h => by
  have h : some (RX10, TX10, 55) = some q := h
  cases h
  exact ⟨by decide +kernel, by decide +kernel, by decide +kernel⟩
theorem tyF_10_46 : ∀ q : vw_C, cls11[10]? = some q → (q.2.1 46).2.2.2 = true ∧ parseFieldDescriptor (q.2.1 46).2.2.1 = some (.array .int) ∧ (q.2.1 46).1 = RX10 := fun q h => by
  have h : some (RX10, TX10, 55) = some q := h
  cases h
  exact ⟨by decide +kernel, by decide +kernel, by decide +kernel⟩
theorem tyF_10_47 : ∀ q : vw_C, cls11[10]? = some q → (q.2.1 47).2.2.2 = true ∧ parseFieldDescriptor (q.2.1 47).2.2.1 = some (.array .int) ∧ (q.2.1 47).1 = RX10 := fun q h => by
  have h : some (RX10, TX10, 55) = some q := h
  cases h
  exact ⟨by decide +kernel, by decide +kernel, by decide +kernel⟩
theorem tyF_10_48 : ∀ q : vw_C, cls11[10]? = some q → (q.2.1 48).2.2.2 = true ∧ parseFieldDescriptor (q.2.1 48).2.2.1 = some (.array .int) ∧ (q.2.1 48).1 = RX10 := fun q h => by
  have h : some (RX10, TX10, 55) = some q := h
  cases h
  exact ⟨by decide +kernel, by decide +kernel, by decide +kernel⟩
theorem tyF_10_51 : ∀ q : vw_C, cls11[10]? = some q → (q.2.1 51).2.2.2 = true ∧ parseFieldDescriptor (q.2.1 51).2.2.1 = some (.array .int) ∧ (q.2.1 51).1 = RX10 := fun q h => by
  have h : some (RX10, TX10, 55) = some q := h
  cases h
  exact ⟨by decide +kernel, by decide +kernel, by decide +kernel⟩
theorem tyF_10_52 : ∀ q : vw_C, cls11[10]? = some q → (q.2.1 52).2.2.2 = true ∧ parseFieldDescriptor (q.2.1 52).2.2.1 = some (.array .int) ∧ (q.2.1 52).1 = RX10 := fun q h => by
  have h : some (RX10, TX10, 55) = some q := h
  cases h
  exact ⟨by decide +kernel, by decide +kernel, by decide +kernel⟩
theorem tyF_10_53 : ∀ q : vw_C, cls11[10]? = some q → (q.2.1 53).2.2.2 = true ∧ parseFieldDescriptor (q.2.1 53).2.2.1 = some (.array .int) ∧ (q.2.1 53).1 = RX10 := fun q h => by
  have h : some (RX10, TX10, 55) = some q := h
  cases h
  exact ⟨by decide +kernel, by decide +kernel, by decide +kernel⟩
def wiX2 : ClassId → ClassId → ClassId → (Nat → Nat) → va_W := fun cI cZ cB a => [(a 0, .inr (2, [.ref (a 1), .ref (a 2), .ref (a 3), .ref (a 4), .ref (a 5), .int 0, .int 1])), (a 1, zA cI 40), (a 2, zA cI 40), (a 3, zA cI 40), (a 4, zA cZ 40), (a 5, zA cZ 40)]
set_option maxHeartbeats 8000000 in
set_option maxRecDepth 100000 in
theorem c_X2_init : AI yX2_init cX2_init 2 [.null, .null, .null, .null, .null, .int 0, .int 0] 1 5 200 (fun _ => True) wiX2 := by
  refine AI.of (by decide) rfl (fun X cI cZ cB h0 hX hI hE hR => ?_)
  refine u_aload (kk := 0) hX dX2_init_0 rfl rfl ?_
  refine u_obj hX lX2_3 (by decide) (Nat.le_of_ble_eq_true rfl) dX2_init_1 ?_
  refine u_aload (kk := 0) hX dX2_init_4 rfl rfl ?_
  refine u_bipush (v := nI 40) hX dX2_init_5 (by decide) ?_
  refine u_new_int (N := 40) hX (Nat.le_of_ble_eq_true rfl) (Nat.le_of_ble_eq_true rfl) (Nat.le_of_ble_eq_true rfl) dX2_init_7 (fun q1 => ?_)
  refine u_putF (q0 := 0) (ty := (.array .int)) hX fX2_9 hI rfl (Nat.le_of_ble_eq_true rfl) tyF_2_0 rfl rfl (show _ = [(h0, .inr (2, [.ref q1, .null, .null, .null, .null, .int 0, .int 0])), (q1, zA cI 40)] from rfl) dX2_init_9 ?_
  refine u_aload (kk := 0) hX dX2_init_12 rfl rfl ?_
  refine u_bipush (v := nI 40) hX dX2_init_13 (by decide) ?_
  refine u_new_int (N := 40) hX (Nat.le_of_ble_eq_true rfl) (Nat.le_of_ble_eq_true rfl) (Nat.le_of_ble_eq_true rfl) dX2_init_15 (fun q2 => ?_)
  refine u_putF (q0 := 0) (ty := (.array .int)) hX fX2_15 hI rfl (Nat.le_of_ble_eq_true rfl) tyF_2_1 rfl rfl (show _ = [(h0, .inr (2, [.ref q1, .ref q2, .null, .null, .null, .int 0, .int 0])), (q1, zA cI 40), (q2, zA cI 40)] from rfl) dX2_init_17 ?_
  refine u_aload (kk := 0) hX dX2_init_20 rfl rfl ?_
  refine u_bipush (v := nI 40) hX dX2_init_21 (by decide) ?_
  refine u_new_int (N := 40) hX (Nat.le_of_ble_eq_true rfl) (Nat.le_of_ble_eq_true rfl) (Nat.le_of_ble_eq_true rfl) dX2_init_23 (fun q3 => ?_)
  refine u_putF (q0 := 0) (ty := (.array .int)) hX fX2_18 hI rfl (Nat.le_of_ble_eq_true rfl) tyF_2_2 rfl rfl (show _ = [(h0, .inr (2, [.ref q1, .ref q2, .ref q3, .null, .null, .int 0, .int 0])), (q1, zA cI 40), (q2, zA cI 40), (q3, zA cI 40)] from rfl) dX2_init_25 ?_
  refine u_aload (kk := 0) hX dX2_init_28 rfl rfl ?_
  refine u_bipush (v := nI 40) hX dX2_init_29 (by decide) ?_
  refine u_new_boolean (N := 40) hX (Nat.le_of_ble_eq_true rfl) (Nat.le_of_ble_eq_true rfl) (Nat.le_of_ble_eq_true rfl) dX2_init_31 (fun q4 => ?_)
  refine u_putF (q0 := 0) (ty := (.array .boolean)) hX fX2_21 hI rfl (Nat.le_of_ble_eq_true rfl) tyF_2_3 rfl rfl (show _ = [(h0, .inr (2, [.ref q1, .ref q2, .ref q3, .ref q4, .null, .int 0, .int 0])), (q1, zA cI 40), (q2, zA cI 40), (q3, zA cI 40), (q4, zA cZ 40)] from rfl) dX2_init_33 ?_
  refine u_aload (kk := 0) hX dX2_init_36 rfl rfl ?_
  refine u_bipush (v := nI 40) hX dX2_init_37 (by decide) ?_
  refine u_new_boolean (N := 40) hX (Nat.le_of_ble_eq_true rfl) (Nat.le_of_ble_eq_true rfl) (Nat.le_of_ble_eq_true rfl) dX2_init_39 (fun q5 => ?_)
  refine u_putF (q0 := 0) (ty := (.array .boolean)) hX fX2_25 hI rfl (Nat.le_of_ble_eq_true rfl) tyF_2_4 rfl rfl (show _ = [(h0, .inr (2, [.ref q1, .ref q2, .ref q3, .ref q4, .ref q5, .int 0, .int 0])), (q1, zA cI 40), (q2, zA cI 40), (q3, zA cI 40), (q4, zA cZ 40), (q5, zA cZ 40)] from rfl) dX2_init_41 ?_
  refine u_aload (kk := 0) hX dX2_init_44 rfl rfl ?_
  refine u_iconst (v := nI 0) hX dX2_init_45 (by decide) ?_
  refine u_put (q0 := 0) (ty := .int) hX fX2_28 rfl (Nat.le_of_ble_eq_true rfl) ty_2_5 rfl rfl (show _ = [(h0, .inr (2, [.ref q1, .ref q2, .ref q3, .ref q4, .ref q5, .int (nI 0), .int 0])), (q1, zA cI 40), (q2, zA cI 40), (q3, zA cI 40), (q4, zA cZ 40), (q5, zA cZ 40)] from rfl) dX2_init_46 ?_
  refine u_aload (kk := 0) hX dX2_init_49 rfl rfl ?_
  refine u_iconst (v := nI 1) hX dX2_init_50 (by decide) ?_
  refine u_put (q0 := 0) (ty := .int) hX fX2_32 rfl (Nat.le_of_ble_eq_true rfl) ty_2_6 rfl rfl (show _ = [(h0, .inr (2, [.ref q1, .ref q2, .ref q3, .ref q4, .ref q5, .int (nI 0), .int (nI 1)])), (q1, zA cI 40), (q2, zA cI 40), (q3, zA cI 40), (q4, zA cZ 40), (q5, zA cZ 40)] from rfl) dX2_init_51 ?_
  exact u_vret hX hR (fun k => if k = 0 then h0 else if k = 1 then q1 else if k = 2 then q2 else if k = 3 then q3 else if k = 4 then q4 else q5) rfl rfl (Nat.le_of_ble_eq_true rfl) (Nat.le_of_ble_eq_true rfl) dX2_init_54
def wiX7 : ClassId → ClassId → ClassId → (Nat → Nat) → va_W := fun cI cZ cB a => [(a 0, .inr (7, [.ref (a 1), .int 0, .int 0, .int 0, .int 0])), (a 1, zA cI 260)]
set_option maxHeartbeats 8000000 in
set_option maxRecDepth 100000 in
theorem c_X7_init : AI yX7_init cX7_init 7 [.null, .int 0, .int 0, .int 0, .int 0] 1 1 260 (fun _ => True) wiX7 := by
  refine AI.of (by decide) rfl (fun X cI cZ cB h0 hX hI hE hR => ?_)
  refine u_aload (kk := 0) hX dX7_init_0 rfl rfl ?_
  refine u_obj hX lX7_3 (by decide) (Nat.le_of_ble_eq_true rfl) dX7_init_1 ?_
  refine u_aload (kk := 0) hX dX7_init_4 rfl rfl ?_
  refine u_sipush (v := nI 260) hX dX7_init_5 (by decide) ?_
  refine u_new_int (N := 260) hX (Nat.le_of_ble_eq_true rfl) (Nat.le_of_ble_eq_true rfl) (Nat.le_of_ble_eq_true rfl) dX7_init_8 (fun q1 => ?_)
  refine u_putF (q0 := 0) (ty := (.array .int)) hX fX7_9 hI rfl (Nat.le_of_ble_eq_true rfl) tyF_7_0 rfl rfl (show _ = [(h0, .inr (7, [.ref q1, .int 0, .int 0, .int 0, .int 0])), (q1, zA cI 260)] from rfl) dX7_init_10 ?_
  refine u_aload (kk := 0) hX dX7_init_13 rfl rfl ?_
  refine u_iconst (v := nI 0) hX dX7_init_14 (by decide) ?_
  refine u_put (q0 := 0) (ty := .int) hX fX7_15 rfl (Nat.le_of_ble_eq_true rfl) ty_7_1 rfl rfl (show _ = [(h0, .inr (7, [.ref q1, .int (nI 0), .int 0, .int 0, .int 0])), (q1, zA cI 260)] from rfl) dX7_init_15 ?_
  refine u_aload (kk := 0) hX dX7_init_18 rfl rfl ?_
  refine u_iconst (v := nI 0) hX dX7_init_19 (by decide) ?_
  refine u_put (q0 := 0) (ty := .int) hX fX7_19 rfl (Nat.le_of_ble_eq_true rfl) ty_7_2 rfl rfl (show _ = [(h0, .inr (7, [.ref q1, .int (nI 0), .int (nI 0), .int 0, .int 0])), (q1, zA cI 260)] from rfl) dX7_init_20 ?_
  refine u_aload (kk := 0) hX dX7_init_23 rfl rfl ?_
  refine u_iconst (v := nI 0) hX dX7_init_24 (by decide) ?_
  refine u_put (q0 := 0) (ty := .int) hX fX7_22 rfl (Nat.le_of_ble_eq_true rfl) ty_7_3 rfl rfl (show _ = [(h0, .inr (7, [.ref q1, .int (nI 0), .int (nI 0), .int (nI 0), .int 0])), (q1, zA cI 260)] from rfl) dX7_init_25 ?_
  refine u_aload (kk := 0) hX dX7_init_28 rfl rfl ?_
  refine u_iconst (v := nI 0) hX dX7_init_29 (by decide) ?_
  refine u_put (q0 := 0) (ty := .int) hX fX7_25 rfl (Nat.le_of_ble_eq_true rfl) ty_7_4 rfl rfl (show _ = [(h0, .inr (7, [.ref q1, .int (nI 0), .int (nI 0), .int (nI 0), .int (nI 0)])), (q1, zA cI 260)] from rfl) dX7_init_30 ?_
  exact u_vret hX hR (fun k => if k = 0 then h0 else q1) rfl rfl (Nat.le_of_ble_eq_true rfl) (Nat.le_of_ble_eq_true rfl) dX7_init_33
def wiX5 : ClassId → ClassId → ClassId → (Nat → Nat) → va_W := fun cI cZ cB a => [(a 0, .inr (5, [.ref (a 1), .int 0, .int 0])), (a 1, zA cI 8)]
set_option maxHeartbeats 8000000 in
set_option maxRecDepth 100000 in
theorem c_X5_init : AI yX5_init cX5_init 5 [.null, .int 0, .int 0] 1 1 8 (fun _ => True) wiX5 := by
  refine AI.of (by decide) rfl (fun X cI cZ cB h0 hX hI hE hR => ?_)
  refine u_aload (kk := 0) hX dX5_init_0 rfl rfl ?_
  refine u_obj hX lX5_3 (by decide) (Nat.le_of_ble_eq_true rfl) dX5_init_1 ?_
  refine u_aload (kk := 0) hX dX5_init_4 rfl rfl ?_
  refine u_bipush (v := nI 8) hX dX5_init_5 (by decide) ?_
  refine u_new_int (N := 8) hX (Nat.le_of_ble_eq_true rfl) (Nat.le_of_ble_eq_true rfl) (Nat.le_of_ble_eq_true rfl) dX5_init_7 (fun q1 => ?_)
  refine u_putF (q0 := 0) (ty := (.array .int)) hX fX5_11 hI rfl (Nat.le_of_ble_eq_true rfl) tyF_5_0 rfl rfl (show _ = [(h0, .inr (5, [.ref q1, .int 0, .int 0])), (q1, zA cI 8)] from rfl) dX5_init_9 ?_
  refine u_aload (kk := 0) hX dX5_init_12 rfl rfl ?_
  refine u_iconst (v := nI 0) hX dX5_init_13 (by decide) ?_
  refine u_put (q0 := 0) (ty := .int) hX fX5_15 rfl (Nat.le_of_ble_eq_true rfl) ty_5_1 rfl rfl (show _ = [(h0, .inr (5, [.ref q1, .int (nI 0), .int 0])), (q1, zA cI 8)] from rfl) dX5_init_14 ?_
  refine u_aload (kk := 0) hX dX5_init_17 rfl rfl ?_
  refine u_iconst (v := nI 0) hX dX5_init_18 (by decide) ?_
  refine u_put (q0 := 0) (ty := .int) hX fX5_19 rfl (Nat.le_of_ble_eq_true rfl) ty_5_2 rfl rfl (show _ = [(h0, .inr (5, [.ref q1, .int (nI 0), .int (nI 0)])), (q1, zA cI 8)] from rfl) dX5_init_19 ?_
  exact u_vret hX hR (fun k => if k = 0 then h0 else q1) rfl rfl (Nat.le_of_ble_eq_true rfl) (Nat.le_of_ble_eq_true rfl) dX5_init_22
def wiX8 : ClassId → ClassId → ClassId → (Nat → Nat) → va_W := fun cI cZ cB a => [(a 0, .inr (8, [.ref (a 1), .ref (a 2), .ref (a 3), .ref (a 4), .ref (a 5), .ref (a 6)])), (a 1, zA cI 42), (a 2, zA cI 42), (a 3, zA cI 42), (a 4, zA cI 42), (a 5, zA cI 42), (a 6, zA cZ 42)]
set_option maxHeartbeats 8000000 in
set_option maxRecDepth 100000 in
theorem c_X8_init : AI yX8_init cX8_init 8 [.null, .null, .null, .null, .null, .null] 1 6 252 (fun _ => True) wiX8 := by
  refine AI.of (by decide) rfl (fun X cI cZ cB h0 hX hI hE hR => ?_)
  refine u_aload (kk := 0) hX dX8_init_0 rfl rfl ?_
  refine u_obj hX lX8_3 (by decide) (Nat.le_of_ble_eq_true rfl) dX8_init_1 ?_
  refine u_aload (kk := 0) hX dX8_init_4 rfl rfl ?_
  refine u_bipush (v := nI 42) hX dX8_init_5 (by decide) ?_
  refine u_new_int (N := 42) hX (Nat.le_of_ble_eq_true rfl) (Nat.le_of_ble_eq_true rfl) (Nat.le_of_ble_eq_true rfl) dX8_init_7 (fun q1 => ?_)
  refine u_putF (q0 := 0) (ty := (.array .int)) hX fX8_9 hI rfl (Nat.le_of_ble_eq_true rfl) tyF_8_0 rfl rfl (show _ = [(h0, .inr (8, [.ref q1, .null, .null, .null, .null, .null])), (q1, zA cI 42)] from rfl) dX8_init_9 ?_
  refine u_aload (kk := 0) hX dX8_init_12 rfl rfl ?_
  refine u_bipush (v := nI 42) hX dX8_init_13 (by decide) ?_
  refine u_new_int (N := 42) hX (Nat.le_of_ble_eq_true rfl) (Nat.le_of_ble_eq_true rfl) (Nat.le_of_ble_eq_true rfl) dX8_init_15 (fun q2 => ?_)
  refine u_putF (q0 := 0) (ty := (.array .int)) hX fX8_15 hI rfl (Nat.le_of_ble_eq_true rfl) tyF_8_1 rfl rfl (show _ = [(h0, .inr (8, [.ref q1, .ref q2, .null, .null, .null, .null])), (q1, zA cI 42), (q2, zA cI 42)] from rfl) dX8_init_17 ?_
  refine u_aload (kk := 0) hX dX8_init_20 rfl rfl ?_
  refine u_bipush (v := nI 42) hX dX8_init_21 (by decide) ?_
  refine u_new_int (N := 42) hX (Nat.le_of_ble_eq_true rfl) (Nat.le_of_ble_eq_true rfl) (Nat.le_of_ble_eq_true rfl) dX8_init_23 (fun q3 => ?_)
  refine u_putF (q0 := 0) (ty := (.array .int)) hX fX8_18 hI rfl (Nat.le_of_ble_eq_true rfl) tyF_8_2 rfl rfl (show _ = [(h0, .inr (8, [.ref q1, .ref q2, .ref q3, .null, .null, .null])), (q1, zA cI 42), (q2, zA cI 42), (q3, zA cI 42)] from rfl) dX8_init_25 ?_
  refine u_aload (kk := 0) hX dX8_init_28 rfl rfl ?_
  refine u_bipush (v := nI 42) hX dX8_init_29 (by decide) ?_
  refine u_new_int (N := 42) hX (Nat.le_of_ble_eq_true rfl) (Nat.le_of_ble_eq_true rfl) (Nat.le_of_ble_eq_true rfl) dX8_init_31 (fun q4 => ?_)
  refine u_putF (q0 := 0) (ty := (.array .int)) hX fX8_21 hI rfl (Nat.le_of_ble_eq_true rfl) tyF_8_3 rfl rfl (show _ = [(h0, .inr (8, [.ref q1, .ref q2, .ref q3, .ref q4, .null, .null])), (q1, zA cI 42), (q2, zA cI 42), (q3, zA cI 42), (q4, zA cI 42)] from rfl) dX8_init_33 ?_
  refine u_aload (kk := 0) hX dX8_init_36 rfl rfl ?_
  refine u_bipush (v := nI 42) hX dX8_init_37 (by decide) ?_
  refine u_new_int (N := 42) hX (Nat.le_of_ble_eq_true rfl) (Nat.le_of_ble_eq_true rfl) (Nat.le_of_ble_eq_true rfl) dX8_init_39 (fun q5 => ?_)
  refine u_putF (q0 := 0) (ty := (.array .int)) hX fX8_24 hI rfl (Nat.le_of_ble_eq_true rfl) tyF_8_4 rfl rfl (show _ = [(h0, .inr (8, [.ref q1, .ref q2, .ref q3, .ref q4, .ref q5, .null])), (q1, zA cI 42), (q2, zA cI 42), (q3, zA cI 42), (q4, zA cI 42), (q5, zA cI 42)] from rfl) dX8_init_41 ?_
  refine u_aload (kk := 0) hX dX8_init_44 rfl rfl ?_
  refine u_bipush (v := nI 42) hX dX8_init_45 (by decide) ?_
  refine u_new_boolean (N := 42) hX (Nat.le_of_ble_eq_true rfl) (Nat.le_of_ble_eq_true rfl) (Nat.le_of_ble_eq_true rfl) dX8_init_47 (fun q6 => ?_)
  refine u_putF (q0 := 0) (ty := (.array .boolean)) hX fX8_27 hI rfl (Nat.le_of_ble_eq_true rfl) tyF_8_5 rfl rfl (show _ = [(h0, .inr (8, [.ref q1, .ref q2, .ref q3, .ref q4, .ref q5, .ref q6])), (q1, zA cI 42), (q2, zA cI 42), (q3, zA cI 42), (q4, zA cI 42), (q5, zA cI 42), (q6, zA cZ 42)] from rfl) dX8_init_49 ?_
  exact u_vret hX hR (fun k => if k = 0 then h0 else if k = 1 then q1 else if k = 2 then q2 else if k = 3 then q3 else if k = 4 then q4 else if k = 5 then q5 else q6) rfl rfl (Nat.le_of_ble_eq_true rfl) (Nat.le_of_ble_eq_true rfl) dX8_init_52
def wiX1 : ClassId → ClassId → ClassId → (Nat → Nat) → va_W := fun cI cZ cB a => [(a 0, .inr (1, [.ref (a 1), .ref (a 2), .ref (a 3), .int 0])), (a 1, zA cI 40), (a 2, zA cI 80), (a 3, zA cI 80)]
set_option maxHeartbeats 8000000 in
set_option maxRecDepth 100000 in
theorem c_X1_init : AI yX1_init cX1_init 1 [.null, .null, .null, .int 0] 1 3 200 (fun _ => True) wiX1 := by
  refine AI.of (by decide) rfl (fun X cI cZ cB h0 hX hI hE hR => ?_)
  refine u_aload (kk := 0) hX dX1_init_0 rfl rfl ?_
  refine u_obj hX lX1_3 (by decide) (Nat.le_of_ble_eq_true rfl) dX1_init_1 ?_
  refine u_aload (kk := 0) hX dX1_init_4 rfl rfl ?_
  refine u_bipush (v := nI 40) hX dX1_init_5 (by decide) ?_
  refine u_new_int (N := 40) hX (Nat.le_of_ble_eq_true rfl) (Nat.le_of_ble_eq_true rfl) (Nat.le_of_ble_eq_true rfl) dX1_init_7 (fun q1 => ?_)
  refine u_putF (q0 := 0) (ty := (.array .int)) hX fX1_9 hI rfl (Nat.le_of_ble_eq_true rfl) tyF_1_0 rfl rfl (show _ = [(h0, .inr (1, [.ref q1, .null, .null, .int 0])), (q1, zA cI 40)] from rfl) dX1_init_9 ?_
  refine u_aload (kk := 0) hX dX1_init_12 rfl rfl ?_
  refine u_bipush (v := nI 80) hX dX1_init_13 (by decide) ?_
  refine u_new_int (N := 80) hX (Nat.le_of_ble_eq_true rfl) (Nat.le_of_ble_eq_true rfl) (Nat.le_of_ble_eq_true rfl) dX1_init_15 (fun q2 => ?_)
  refine u_putF (q0 := 0) (ty := (.array .int)) hX fX1_15 hI rfl (Nat.le_of_ble_eq_true rfl) tyF_1_1 rfl rfl (show _ = [(h0, .inr (1, [.ref q1, .ref q2, .null, .int 0])), (q1, zA cI 40), (q2, zA cI 80)] from rfl) dX1_init_17 ?_
  refine u_aload (kk := 0) hX dX1_init_20 rfl rfl ?_
  refine u_bipush (v := nI 80) hX dX1_init_21 (by decide) ?_
  refine u_new_int (N := 80) hX (Nat.le_of_ble_eq_true rfl) (Nat.le_of_ble_eq_true rfl) (Nat.le_of_ble_eq_true rfl) dX1_init_23 (fun q3 => ?_)
  refine u_putF (q0 := 0) (ty := (.array .int)) hX fX1_18 hI rfl (Nat.le_of_ble_eq_true rfl) tyF_1_2 rfl rfl (show _ = [(h0, .inr (1, [.ref q1, .ref q2, .ref q3, .int 0])), (q1, zA cI 40), (q2, zA cI 80), (q3, zA cI 80)] from rfl) dX1_init_25 ?_
  refine u_aload (kk := 0) hX dX1_init_28 rfl rfl ?_
  refine u_iconst (v := nI 0) hX dX1_init_29 (by decide) ?_
  refine u_put (q0 := 0) (ty := .int) hX fX1_21 rfl (Nat.le_of_ble_eq_true rfl) ty_1_3 rfl rfl (show _ = [(h0, .inr (1, [.ref q1, .ref q2, .ref q3, .int (nI 0)])), (q1, zA cI 40), (q2, zA cI 80), (q3, zA cI 80)] from rfl) dX1_init_30 ?_
  exact u_vret hX hR (fun k => if k = 0 then h0 else if k = 1 then q1 else if k = 2 then q2 else q3) rfl rfl (Nat.le_of_ble_eq_true rfl) (Nat.le_of_ble_eq_true rfl) dX1_init_33
def wiX4 : ClassId → ClassId → ClassId → (Nat → Nat) → va_W := fun cI cZ cB a => [(a 0, .inr (4, [.ref (a 1), .ref (a 2), .int 0, .int 0, .int 0, .int 0])), (a 1, zA cI 60), (a 2, zA cI 60)]
set_option maxHeartbeats 8000000 in
set_option maxRecDepth 100000 in
theorem c_X4_init : AI yX4_init cX4_init 4 [.null, .null, .int 0, .int 0, .int 0, .int 0] 1 2 120 (fun _ => True) wiX4 := by
  refine AI.of (by decide) rfl (fun X cI cZ cB h0 hX hI hE hR => ?_)
  refine u_aload (kk := 0) hX dX4_init_0 rfl rfl ?_
  refine u_obj hX lX4_3 (by decide) (Nat.le_of_ble_eq_true rfl) dX4_init_1 ?_
  refine u_aload (kk := 0) hX dX4_init_4 rfl rfl ?_
  refine u_bipush (v := nI 60) hX dX4_init_5 (by decide) ?_
  refine u_new_int (N := 60) hX (Nat.le_of_ble_eq_true rfl) (Nat.le_of_ble_eq_true rfl) (Nat.le_of_ble_eq_true rfl) dX4_init_7 (fun q1 => ?_)
  refine u_putF (q0 := 0) (ty := (.array .int)) hX fX4_9 hI rfl (Nat.le_of_ble_eq_true rfl) tyF_4_0 rfl rfl (show _ = [(h0, .inr (4, [.ref q1, .null, .int 0, .int 0, .int 0, .int 0])), (q1, zA cI 60)] from rfl) dX4_init_9 ?_
  refine u_aload (kk := 0) hX dX4_init_12 rfl rfl ?_
  refine u_bipush (v := nI 60) hX dX4_init_13 (by decide) ?_
  refine u_new_int (N := 60) hX (Nat.le_of_ble_eq_true rfl) (Nat.le_of_ble_eq_true rfl) (Nat.le_of_ble_eq_true rfl) dX4_init_15 (fun q2 => ?_)
  refine u_putF (q0 := 0) (ty := (.array .int)) hX fX4_15 hI rfl (Nat.le_of_ble_eq_true rfl) tyF_4_1 rfl rfl (show _ = [(h0, .inr (4, [.ref q1, .ref q2, .int 0, .int 0, .int 0, .int 0])), (q1, zA cI 60), (q2, zA cI 60)] from rfl) dX4_init_17 ?_
  refine u_aload (kk := 0) hX dX4_init_20 rfl rfl ?_
  refine u_iconst (v := nI 0) hX dX4_init_21 (by decide) ?_
  refine u_put (q0 := 0) (ty := .int) hX fX4_18 rfl (Nat.le_of_ble_eq_true rfl) ty_4_2 rfl rfl (show _ = [(h0, .inr (4, [.ref q1, .ref q2, .int (nI 0), .int 0, .int 0, .int 0])), (q1, zA cI 60), (q2, zA cI 60)] from rfl) dX4_init_22 ?_
  refine u_aload (kk := 0) hX dX4_init_25 rfl rfl ?_
  refine u_iconst (v := nI 0) hX dX4_init_26 (by decide) ?_
  refine u_put (q0 := 0) (ty := .int) hX fX4_22 rfl (Nat.le_of_ble_eq_true rfl) ty_4_3 rfl rfl (show _ = [(h0, .inr (4, [.ref q1, .ref q2, .int (nI 0), .int (nI 0), .int 0, .int 0])), (q1, zA cI 60), (q2, zA cI 60)] from rfl) dX4_init_27 ?_
  refine u_aload (kk := 0) hX dX4_init_30 rfl rfl ?_
  refine u_iconst (v := nI 0) hX dX4_init_31 (by decide) ?_
  refine u_put (q0 := 0) (ty := .int) hX fX4_25 rfl (Nat.le_of_ble_eq_true rfl) ty_4_4 rfl rfl (show _ = [(h0, .inr (4, [.ref q1, .ref q2, .int (nI 0), .int (nI 0), .int (nI 0), .int 0])), (q1, zA cI 60), (q2, zA cI 60)] from rfl) dX4_init_32 ?_
  refine u_aload (kk := 0) hX dX4_init_35 rfl rfl ?_
  refine u_iconst (v := nI 0) hX dX4_init_36 (by decide) ?_
  refine u_put (q0 := 0) (ty := .int) hX fX4_28 rfl (Nat.le_of_ble_eq_true rfl) ty_4_5 rfl rfl (show _ = [(h0, .inr (4, [.ref q1, .ref q2, .int (nI 0), .int (nI 0), .int (nI 0), .int (nI 0)])), (q1, zA cI 60), (q2, zA cI 60)] from rfl) dX4_init_37 ?_
  exact u_vret hX hR (fun k => if k = 0 then h0 else if k = 1 then q1 else q2) rfl rfl (Nat.le_of_ble_eq_true rfl) (Nat.le_of_ble_eq_true rfl) dX4_init_40
def wiX0 : ClassId → ClassId → ClassId → (Nat → Nat) → va_W := fun cI cZ cB a => [(a 0, .inr (0, [.ref (a 1), .ref (a 2), .ref (a 3), .ref (a 4), .ref (a 5)])), (a 1, zA cI 7), (a 2, zA cI 7), (a 3, zA cI 7), (a 4, zA cI 49), (a 5, zA cI 128)]
set_option maxHeartbeats 8000000 in
set_option maxRecDepth 100000 in
theorem c_X0_init : AI yX0_init cX0_init 0 [.null, .null, .null, .null, .null] 1 5 198 (fun _ => True) wiX0 := by
  refine AI.of (by decide) rfl (fun X cI cZ cB h0 hX hI hE hR => ?_)
  refine u_aload (kk := 0) hX dX0_init_0 rfl rfl ?_
  refine u_obj hX lX0_3 (by decide) (Nat.le_of_ble_eq_true rfl) dX0_init_1 ?_
  refine u_aload (kk := 0) hX dX0_init_4 rfl rfl ?_
  refine u_bipush (v := nI 7) hX dX0_init_5 (by decide) ?_
  refine u_new_int (N := 7) hX (Nat.le_of_ble_eq_true rfl) (Nat.le_of_ble_eq_true rfl) (Nat.le_of_ble_eq_true rfl) dX0_init_7 (fun q1 => ?_)
  refine u_putF (q0 := 0) (ty := (.array .int)) hX fX0_9 hI rfl (Nat.le_of_ble_eq_true rfl) tyF_0_0 rfl rfl (show _ = [(h0, .inr (0, [.ref q1, .null, .null, .null, .null])), (q1, zA cI 7)] from rfl) dX0_init_9 ?_
  refine u_aload (kk := 0) hX dX0_init_12 rfl rfl ?_
  refine u_bipush (v := nI 7) hX dX0_init_13 (by decide) ?_
  refine u_new_int (N := 7) hX (Nat.le_of_ble_eq_true rfl) (Nat.le_of_ble_eq_true rfl) (Nat.le_of_ble_eq_true rfl) dX0_init_15 (fun q2 => ?_)
  refine u_putF (q0 := 0) (ty := (.array .int)) hX fX0_15 hI rfl (Nat.le_of_ble_eq_true rfl) tyF_0_1 rfl rfl (show _ = [(h0, .inr (0, [.ref q1, .ref q2, .null, .null, .null])), (q1, zA cI 7), (q2, zA cI 7)] from rfl) dX0_init_17 ?_
  refine u_aload (kk := 0) hX dX0_init_20 rfl rfl ?_
  refine u_bipush (v := nI 7) hX dX0_init_21 (by decide) ?_
  refine u_new_int (N := 7) hX (Nat.le_of_ble_eq_true rfl) (Nat.le_of_ble_eq_true rfl) (Nat.le_of_ble_eq_true rfl) dX0_init_23 (fun q3 => ?_)
  refine u_putF (q0 := 0) (ty := (.array .int)) hX fX0_18 hI rfl (Nat.le_of_ble_eq_true rfl) tyF_0_2 rfl rfl (show _ = [(h0, .inr (0, [.ref q1, .ref q2, .ref q3, .null, .null])), (q1, zA cI 7), (q2, zA cI 7), (q3, zA cI 7)] from rfl) dX0_init_25 ?_
  refine u_aload (kk := 0) hX dX0_init_28 rfl rfl ?_
  refine u_bipush (v := nI 49) hX dX0_init_29 (by decide) ?_
  refine u_new_int (N := 49) hX (Nat.le_of_ble_eq_true rfl) (Nat.le_of_ble_eq_true rfl) (Nat.le_of_ble_eq_true rfl) dX0_init_31 (fun q4 => ?_)
  refine u_putF (q0 := 0) (ty := (.array .int)) hX fX0_21 hI rfl (Nat.le_of_ble_eq_true rfl) tyF_0_3 rfl rfl (show _ = [(h0, .inr (0, [.ref q1, .ref q2, .ref q3, .ref q4, .null])), (q1, zA cI 7), (q2, zA cI 7), (q3, zA cI 7), (q4, zA cI 49)] from rfl) dX0_init_33 ?_
  refine u_aload (kk := 0) hX dX0_init_36 rfl rfl ?_
  refine u_sipush (v := nI 128) hX dX0_init_37 (by decide) ?_
  refine u_new_int (N := 128) hX (Nat.le_of_ble_eq_true rfl) (Nat.le_of_ble_eq_true rfl) (Nat.le_of_ble_eq_true rfl) dX0_init_40 (fun q5 => ?_)
  refine u_putF (q0 := 0) (ty := (.array .int)) hX fX0_24 hI rfl (Nat.le_of_ble_eq_true rfl) tyF_0_4 rfl rfl (show _ = [(h0, .inr (0, [.ref q1, .ref q2, .ref q3, .ref q4, .ref q5])), (q1, zA cI 7), (q2, zA cI 7), (q3, zA cI 7), (q4, zA cI 49), (q5, zA cI 128)] from rfl) dX0_init_42 ?_
  exact u_vret hX hR (fun k => if k = 0 then h0 else if k = 1 then q1 else if k = 2 then q2 else if k = 3 then q3 else if k = 4 then q4 else q5) rfl rfl (Nat.le_of_ble_eq_true rfl) (Nat.le_of_ble_eq_true rfl) dX0_init_45
def wiX3 : ClassId → ClassId → ClassId → (Nat → Nat) → va_W := fun cI cZ cB a => [(a 0, .inr (3, [.ref (a 1), .ref (a 2), .ref (a 3), .ref (a 4), .ref (a 5), .ref (a 6), .ref (a 7), .int 0, .int 0, .int 0])), (a 1, zA cI 240), (a 2, zA cI 240), (a 3, zA cI 32), (a 4, zA cI 16), (a 5, zA cI 16), (a 6, zA cI 16), (a 7, zA cI 16)]
set_option maxHeartbeats 8000000 in
set_option maxRecDepth 100000 in
theorem c_X3_init : AI yX3_init cX3_init 3 [.null, .null, .null, .null, .null, .null, .null, .int 0, .int 0, .int 0] 1 7 576 (fun _ => True) wiX3 := by
  refine AI.of (by decide) rfl (fun X cI cZ cB h0 hX hI hE hR => ?_)
  refine u_aload (kk := 0) hX dX3_init_0 rfl rfl ?_
  refine u_obj hX lX3_3 (by decide) (Nat.le_of_ble_eq_true rfl) dX3_init_1 ?_
  refine u_aload (kk := 0) hX dX3_init_4 rfl rfl ?_
  refine u_sipush (v := nI 240) hX dX3_init_5 (by decide) ?_
  refine u_new_int (N := 240) hX (Nat.le_of_ble_eq_true rfl) (Nat.le_of_ble_eq_true rfl) (Nat.le_of_ble_eq_true rfl) dX3_init_8 (fun q1 => ?_)
  refine u_putF (q0 := 0) (ty := (.array .int)) hX fX3_9 hI rfl (Nat.le_of_ble_eq_true rfl) tyF_3_0 rfl rfl (show _ = [(h0, .inr (3, [.ref q1, .null, .null, .null, .null, .null, .null, .int 0, .int 0, .int 0])), (q1, zA cI 240)] from rfl) dX3_init_10 ?_
  refine u_aload (kk := 0) hX dX3_init_13 rfl rfl ?_
  refine u_sipush (v := nI 240) hX dX3_init_14 (by decide) ?_
  refine u_new_int (N := 240) hX (Nat.le_of_ble_eq_true rfl) (Nat.le_of_ble_eq_true rfl) (Nat.le_of_ble_eq_true rfl) dX3_init_17 (fun q2 => ?_)
  refine u_putF (q0 := 0) (ty := (.array .int)) hX fX3_15 hI rfl (Nat.le_of_ble_eq_true rfl) tyF_3_1 rfl rfl (show _ = [(h0, .inr (3, [.ref q1, .ref q2, .null, .null, .null, .null, .null, .int 0, .int 0, .int 0])), (q1, zA cI 240), (q2, zA cI 240)] from rfl) dX3_init_19 ?_
  refine u_aload (kk := 0) hX dX3_init_22 rfl rfl ?_
  refine u_bipush (v := nI 32) hX dX3_init_23 (by decide) ?_
  refine u_new_int (N := 32) hX (Nat.le_of_ble_eq_true rfl) (Nat.le_of_ble_eq_true rfl) (Nat.le_of_ble_eq_true rfl) dX3_init_25 (fun q3 => ?_)
  refine u_putF (q0 := 0) (ty := (.array .int)) hX fX3_18 hI rfl (Nat.le_of_ble_eq_true rfl) tyF_3_2 rfl rfl (show _ = [(h0, .inr (3, [.ref q1, .ref q2, .ref q3, .null, .null, .null, .null, .int 0, .int 0, .int 0])), (q1, zA cI 240), (q2, zA cI 240), (q3, zA cI 32)] from rfl) dX3_init_27 ?_
  refine u_aload (kk := 0) hX dX3_init_30 rfl rfl ?_
  refine u_bipush (v := nI 16) hX dX3_init_31 (by decide) ?_
  refine u_new_int (N := 16) hX (Nat.le_of_ble_eq_true rfl) (Nat.le_of_ble_eq_true rfl) (Nat.le_of_ble_eq_true rfl) dX3_init_33 (fun q4 => ?_)
  refine u_putF (q0 := 0) (ty := (.array .int)) hX fX3_21 hI rfl (Nat.le_of_ble_eq_true rfl) tyF_3_3 rfl rfl (show _ = [(h0, .inr (3, [.ref q1, .ref q2, .ref q3, .ref q4, .null, .null, .null, .int 0, .int 0, .int 0])), (q1, zA cI 240), (q2, zA cI 240), (q3, zA cI 32), (q4, zA cI 16)] from rfl) dX3_init_35 ?_
  refine u_aload (kk := 0) hX dX3_init_38 rfl rfl ?_
  refine u_bipush (v := nI 16) hX dX3_init_39 (by decide) ?_
  refine u_new_int (N := 16) hX (Nat.le_of_ble_eq_true rfl) (Nat.le_of_ble_eq_true rfl) (Nat.le_of_ble_eq_true rfl) dX3_init_41 (fun q5 => ?_)
  refine u_putF (q0 := 0) (ty := (.array .int)) hX fX3_24 hI rfl (Nat.le_of_ble_eq_true rfl) tyF_3_4 rfl rfl (show _ = [(h0, .inr (3, [.ref q1, .ref q2, .ref q3, .ref q4, .ref q5, .null, .null, .int 0, .int 0, .int 0])), (q1, zA cI 240), (q2, zA cI 240), (q3, zA cI 32), (q4, zA cI 16), (q5, zA cI 16)] from rfl) dX3_init_43 ?_
  refine u_aload (kk := 0) hX dX3_init_46 rfl rfl ?_
  refine u_bipush (v := nI 16) hX dX3_init_47 (by decide) ?_
  refine u_new_int (N := 16) hX (Nat.le_of_ble_eq_true rfl) (Nat.le_of_ble_eq_true rfl) (Nat.le_of_ble_eq_true rfl) dX3_init_49 (fun q6 => ?_)
  refine u_putF (q0 := 0) (ty := (.array .int)) hX fX3_27 hI rfl (Nat.le_of_ble_eq_true rfl) tyF_3_5 rfl rfl (show _ = [(h0, .inr (3, [.ref q1, .ref q2, .ref q3, .ref q4, .ref q5, .ref q6, .null, .int 0, .int 0, .int 0])), (q1, zA cI 240), (q2, zA cI 240), (q3, zA cI 32), (q4, zA cI 16), (q5, zA cI 16), (q6, zA cI 16)] from rfl) dX3_init_51 ?_
  refine u_aload (kk := 0) hX dX3_init_54 rfl rfl ?_
  refine u_bipush (v := nI 16) hX dX3_init_55 (by decide) ?_
  refine u_new_int (N := 16) hX (Nat.le_of_ble_eq_true rfl) (Nat.le_of_ble_eq_true rfl) (Nat.le_of_ble_eq_true rfl) dX3_init_57 (fun q7 => ?_)
  refine u_putF (q0 := 0) (ty := (.array .int)) hX fX3_30 hI rfl (Nat.le_of_ble_eq_true rfl) tyF_3_6 rfl rfl (show _ = [(h0, .inr (3, [.ref q1, .ref q2, .ref q3, .ref q4, .ref q5, .ref q6, .ref q7, .int 0, .int 0, .int 0])), (q1, zA cI 240), (q2, zA cI 240), (q3, zA cI 32), (q4, zA cI 16), (q5, zA cI 16), (q6, zA cI 16), (q7, zA cI 16)] from rfl) dX3_init_59 ?_
  refine u_aload (kk := 0) hX dX3_init_62 rfl rfl ?_
  refine u_iconst (v := nI 0) hX dX3_init_63 (by decide) ?_
  refine u_put (q0 := 0) (ty := .int) hX fX3_33 rfl (Nat.le_of_ble_eq_true rfl) ty_3_7 rfl rfl (show _ = [(h0, .inr (3, [.ref q1, .ref q2, .ref q3, .ref q4, .ref q5, .ref q6, .ref q7, .int (nI 0), .int 0, .int 0])), (q1, zA cI 240), (q2, zA cI 240), (q3, zA cI 32), (q4, zA cI 16), (q5, zA cI 16), (q6, zA cI 16), (q7, zA cI 16)] from rfl) dX3_init_64 ?_
  refine u_aload (kk := 0) hX dX3_init_67 rfl rfl ?_
  refine u_iconst (v := nI 0) hX dX3_init_68 (by decide) ?_
  refine u_put (q0 := 0) (ty := .int) hX fX3_37 rfl (Nat.le_of_ble_eq_true rfl) ty_3_8 rfl rfl (show _ = [(h0, .inr (3, [.ref q1, .ref q2, .ref q3, .ref q4, .ref q5, .ref q6, .ref q7, .int (nI 0), .int (nI 0), .int 0])), (q1, zA cI 240), (q2, zA cI 240), (q3, zA cI 32), (q4, zA cI 16), (q5, zA cI 16), (q6, zA cI 16), (q7, zA cI 16)] from rfl) dX3_init_69 ?_
  refine u_aload (kk := 0) hX dX3_init_72 rfl rfl ?_
  refine u_iconst (v := nI 0) hX dX3_init_73 (by decide) ?_
  refine u_put (q0 := 0) (ty := .boolean) hX fX3_40 rfl (Nat.le_of_ble_eq_true rfl) ty_3_9 rfl rfl (show _ = [(h0, .inr (3, [.ref q1, .ref q2, .ref q3, .ref q4, .ref q5, .ref q6, .ref q7, .int (nI 0), .int (nI 0), .int (nI 0)])), (q1, zA cI 240), (q2, zA cI 240), (q3, zA cI 32), (q4, zA cI 16), (q5, zA cI 16), (q6, zA cI 16), (q7, zA cI 16)] from rfl) dX3_init_74 ?_
  exact u_vret hX hR (fun k => if k = 0 then h0 else if k = 1 then q1 else if k = 2 then q2 else if k = 3 then q3 else if k = 4 then q4 else if k = 5 then q5 else if k = 6 then q6 else q7) rfl rfl (Nat.le_of_ble_eq_true rfl) (Nat.le_of_ble_eq_true rfl) dX3_init_77
