set_option maxHeartbeats 4000000 in
theorem c_X2_stoneAt (b : Nat) (hb : isF b) (x y : Int32) (M : Mem) (hT : ∀ j, j < 40 → M (b + 4) j = 0) : AM yX2_stoneAt cX2_stoneAt 4 (some .int) 0 60 glC (fun ad => [.ref (ad b), .int x, .int y]) M (PI (fun r M' => r = -1 ∧ M' = M)) := by
  refine AM.of (by decide) (fun _ => Nat.le_of_ble_eq_true rfl) (fun X ad cI cZ cB hX hR => ?_)
  show V X M [(0, .ref (ad b)), (1, .int x), (2, .int y)] [] 0
  refine s_iconst (v := (nI 0)) hX dX2_stoneAt_0 (by decide) ?_
  refine s_istore_n (lv' := [(0, .ref (ad b)), (1, .int x), (2, .int y), (3, .int (nI 0))]) hX dX2_stoneAt_1 rfl (by decide) rfl ?_
  have lp2 : ∀ (N : Nat) (i : Nat), (i ≤ 40) → (40 < i + N) → V X M [(0, .ref (ad b)), (1, .int x), (2, .int y), (3, .int (nI i))] [] 2 := by
    intro N
    induction N with
    | zero => intro i hi hN; exact absurd hN (by omega)
    | succ N ih =>
      intro i hi hN
      refine s_iload_n (k := 3) hX dX2_stoneAt_2 rfl rfl ?_
      refine s_bipush (v := (nI 40)) hX dX2_stoneAt_3 (by decide) ?_
      refine s_icmp_ge (tgt := 45) hX dX2_stoneAt_5 (by decide) (fun c5 => ?_) (fun c5 => ?_)
      · (try first | replace c5 := (nI_leI (by omega) (by omega)).mp c5 | replace c5 := mt (nI_leI (by omega) (by omega)).mpr c5 | replace c5 := (nI_ltI (by omega) (by omega)).mp c5 | replace c5 := mt (nI_ltI (by omega) (by omega)).mpr c5 | replace c5 := (nI_eq (by omega) (by omega)).mp c5 | replace c5 := mt (nI_eq (by omega) (by omega)).mpr c5)
        refine s_iconst (v := (-1)) hX dX2_stoneAt_45 (by decide) ?_
        exact s_iret hX hR dX2_stoneAt_46 ⟨rfl, rfl⟩
      · (try first | replace c5 := (nI_leI (by omega) (by omega)).mp c5 | replace c5 := mt (nI_leI (by omega) (by omega)).mpr c5 | replace c5 := (nI_ltI (by omega) (by omega)).mp c5 | replace c5 := mt (nI_ltI (by omega) (by omega)).mpr c5 | replace c5 := (nI_eq (by omega) (by omega)).mp c5 | replace c5 := mt (nI_eq (by omega) (by omega)).mpr c5)
        refine s_aload_n (k := 0) hX dX2_stoneAt_8 rfl rfl ?_
        refine s_get hX fX2_21 (oF hb) rfl dX2_stoneAt_9 ?_
        refine s_iload_n (k := 3) hX dX2_stoneAt_12 rfl rfl ?_
        refine s_zald hX (aF4 hb) (by first | assumption | exact vin_of (by assumption) (by assumption) | exact vp_in_nI (by omega) (by omega)) dX2_stoneAt_13 ?_
        refine s_if_eq (tgt := 39) hX dX2_stoneAt_14 (by decide) (fun c14 => ?_) (fun c14 => ?_)
        · refine s_iinc (k := 3) (v := nI (i + 1)) (lv' := [(0, .ref (ad b)), (1, .int x), (2, .int y), (3, .int (nI (i + 1)))]) hX dX2_stoneAt_39 (nI_1 _) (by decide) rfl rfl ?_
          refine s_goto (tgt := 2) hX dX2_stoneAt_42 (by decide) ?_
          exact ih (i + 1) (by omega) (by omega)
        · exact absurd (by rw [nI_clamp (by omega)]; exact hT i (by omega)) c14
  exact lp2 41 0 (by omega) (by omega)
set_option maxHeartbeats 4000000 in
theorem c_X2_isTold (b : Nat) (hb : isF b) (i : Int32) (M : Mem) (hT : ∀ j, j < 40 → M (b + 4) j = 0) : AM yX2_isTold cX2_isTold 2 (some .boolean) 0 60 glC (fun ad => [.ref (ad b), .int i]) M (PI (fun r M' => r = nI 0 ∧ M' = M)) := by
  refine AM.of (by decide) (fun _ => Nat.le_of_ble_eq_true rfl) (fun X ad cI cZ cB hX hR => ?_)
  show V X M [(0, .ref (ad b)), (1, .int i)] [] 0
  refine s_iload_n (k := 1) hX dX2_isTold_0 rfl rfl ?_
  refine s_if_lt (tgt := 23) hX dX2_isTold_1 (by decide) (fun c1 => ?_) (fun c1 => ?_)
  · refine s_iconst (v := (nI 0)) hX dX2_isTold_23 (by decide) ?_
    exact s_zret hX hR dX2_isTold_24 (by first | exact Or.inl rfl | exact Or.inr rfl | assumption) ⟨rfl, rfl⟩
  · refine s_iload_n (k := 1) hX dX2_isTold_4 rfl rfl ?_
    refine s_bipush (v := (nI 40)) hX dX2_isTold_5 (by decide) ?_
    refine s_icmp_ge (tgt := 23) hX dX2_isTold_7 (by decide) (fun c7 => ?_) (fun c7 => ?_)
    · (try first | replace c7 := (nI_leI (by omega) (by omega)).mp c7 | replace c7 := mt (nI_leI (by omega) (by omega)).mpr c7 | replace c7 := (nI_ltI (by omega) (by omega)).mp c7 | replace c7 := mt (nI_ltI (by omega) (by omega)).mpr c7 | replace c7 := (nI_eq (by omega) (by omega)).mp c7 | replace c7 := mt (nI_eq (by omega) (by omega)).mpr c7)
      refine s_iconst (v := (nI 0)) hX dX2_isTold_23 (by decide) ?_
      exact s_zret hX hR dX2_isTold_24 (by first | exact Or.inl rfl | exact Or.inr rfl | assumption) ⟨rfl, rfl⟩
    · (try first | replace c7 := (nI_leI (by omega) (by omega)).mp c7 | replace c7 := mt (nI_leI (by omega) (by omega)).mpr c7 | replace c7 := (nI_ltI (by omega) (by omega)).mp c7 | replace c7 := mt (nI_ltI (by omega) (by omega)).mpr c7 | replace c7 := (nI_eq (by omega) (by omega)).mp c7 | replace c7 := mt (nI_eq (by omega) (by omega)).mpr c7)
      obtain ⟨j, hj, rfl⟩ := ix_of c1 c7
      refine s_aload_n (k := 0) hX dX2_isTold_10 rfl rfl ?_
      refine s_get hX fX2_21 (oF hb) rfl dX2_isTold_11 ?_
      refine s_iload_n (k := 1) hX dX2_isTold_14 rfl rfl ?_
      refine s_zald hX (aF4 hb) (by first | assumption | exact vin_of (by assumption) (by assumption) | exact vp_in_nI (by omega) (by omega)) dX2_isTold_15 ?_
      refine s_if_eq (tgt := 23) hX dX2_isTold_16 (by decide) (fun c16 => ?_) (fun c16 => ?_)
      · refine s_iconst (v := (nI 0)) hX dX2_isTold_23 (by decide) ?_
        exact s_zret hX hR dX2_isTold_24 (by first | exact Or.inl rfl | exact Or.inr rfl | assumption) ⟨rfl, rfl⟩
      · exact absurd (by rw [nI_clamp (by omega)]; exact hT j hj) c16
