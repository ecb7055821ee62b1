/-! words: one list for every method -/
def UL : List Cond := lw_tbl.filter goodWord
theorem ul_tbl {w : Cond} (h : w ∈ UL) : w ∈ lw_tbl := (List.mem_filter.mp h).1
theorem ul_in {w : Cond} (h : w ∈ lw_tbl) (g : goodWord w = true) : w ∈ UL := List.mem_filter.mpr ⟨h, g⟩
theorem ul_0 {k : Nat} {w : Cond} (h : (k2_sels lw_privs)[k]? = some w) (g : goodWord w = true) : w ∈ UL := ul_in (List.mem_append_left _ (List.mem_of_getElem? h)) g
theorem ul_1 {k : Nat} {w : Cond} (h : tables_1_1[k]? = some w) (g : goodWord w = true) : w ∈ UL := ul_in (List.mem_append_right _ (List.mem_append_left _ (List.mem_of_getElem? h))) g
theorem ul_2 {k : Nat} {w : Cond} (h : tables_1_2[k]? = some w) (g : goodWord w = true) : w ∈ UL := ul_in (List.mem_append_right _ (List.mem_append_right _ (List.mem_append_left _ (List.mem_of_getElem? h)))) g
theorem ul_3 {k : Nat} {w : Cond} (h : tables_1_3[k]? = some w) (g : goodWord w = true) : w ∈ UL := ul_in (List.mem_append_right _ (List.mem_append_right _ (List.mem_append_right _ (List.mem_append_left _ (List.mem_of_getElem? h))))) g
theorem ul_4 {k : Nat} {w : Cond} (h : tables_1_4[k]? = some w) (g : goodWord w = true) : w ∈ UL := ul_in (List.mem_append_right _ (List.mem_append_right _ (List.mem_append_right _ (List.mem_append_right _ (List.mem_append_left _ (List.mem_of_getElem? h)))))) g
theorem ul_5 {k : Nat} {w : Cond} (h : tables_1_5[k]? = some w) (g : goodWord w = true) : w ∈ UL := ul_in (List.mem_append_right _ (List.mem_append_right _ (List.mem_append_right _ (List.mem_append_right _ (List.mem_append_right _ (List.mem_append_left _ (List.mem_of_getElem? h))))))) g
theorem ul_6 {k : Nat} {w : Cond} (h : tables_1_6[k]? = some w) (g : goodWord w = true) : w ∈ UL := ul_in (List.mem_append_right _ (List.mem_append_right _ (List.mem_append_right _ (List.mem_append_right _ (List.mem_append_right _ (List.mem_append_right _ (List.mem_append_left _ (List.mem_of_getElem? h)))))))) g
theorem ul_7 {k : Nat} {w : Cond} (h : tables_1_7[k]? = some w) (g : goodWord w = true) : w ∈ UL := ul_in (List.mem_append_right _ (List.mem_append_right _ (List.mem_append_right _ (List.mem_append_right _ (List.mem_append_right _ (List.mem_append_right _ (List.mem_append_right _ (List.mem_of_getElem? h)))))))) g
def UW (y : MethodName) (cc : ByteArray) (n : Nat) (ret : Option FieldType) : List Cond := .code y cc n ret :: UL
theorem wl_gi {ws : List Cond} (h : ∀ w ∈ ws, w ∈ UL) : GoodIn UL ws := fun w hw => ⟨h w hw, good_of_word (List.mem_filter.mp (h w hw)).2⟩
theorem wl_gt {ws : List Cond} (h : ∀ w ∈ ws, w ∈ UL) : GoodIn lw_tbl ws := fun w hw => ⟨ul_tbl (h w hw), good_of_word (List.mem_filter.mp (h w hw)).2⟩
def cls11 : List vw_C := [(RX0, TX0, 5), (RX1, TX1, 4), (RX2, TX2, 7), (RX3, TX3, 10), (RX4, TX4, 6), (RX5, TX5, 3), (RX5, TX5, 3), (RX7, TX7, 5), (RX8, TX8, 6), (RX9, TX9, 13), (RX10, TX10, 55)]
def clsAll (P : vw_C → Prop) : Prop := P (RX0, TX0, 5) ∧ P (RX1, TX1, 4) ∧ P (RX2, TX2, 7) ∧ P (RX3, TX3, 10) ∧ P (RX4, TX4, 6) ∧ P (RX5, TX5, 3) ∧ P (RX5, TX5, 3) ∧ P (RX7, TX7, 5) ∧ P (RX8, TX8, 6) ∧ P (RX9, TX9, 13) ∧ P (RX10, TX10, 55)
theorem clsAll_of {P : vw_C → Prop} (h : clsAll P) : ∀ (ci : Nat) (q : vw_C), cls11[ci]? = some q → P q := by
  intro ci q hq
  have hm : q ∈ cls11 := List.mem_of_getElem? hq
  obtain ⟨h0, h1, h2, h3, h4, h5, h6, h7, h8, h9, h10⟩ := h
  simp only [cls11, List.mem_cons, List.not_mem_nil, or_false] at hm
  rcases hm with rfl | rfl | rfl | rfl | rfl | rfl | rfl | rfl | rfl | rfl | rfl <;> assumption
theorem u_wsAll {C : String} {T : u_T} {N : Nat} (h : ∀ k, k < N → u_lay C T k ∈ UL) : ∀ w ∈ u_ws C T N, w ∈ UL := by
  intro w hw
  obtain ⟨k, hk, rfl⟩ := List.mem_map.mp hw
  exact h k (List.mem_range.mp hk)
theorem ulyX0_0 : u_lay RX0 TX0 0 ∈ UL := (ul_1 (k := 202) (by decide +kernel) rfl)
theorem ulyX0_1 : u_lay RX0 TX0 1 ∈ UL := (ul_1 (k := 204) (by decide +kernel) rfl)
theorem ulyX0_2 : u_lay RX0 TX0 2 ∈ UL := (ul_1 (k := 206) (by decide +kernel) rfl)
theorem ulyX0_3 : u_lay RX0 TX0 3 ∈ UL := (ul_1 (k := 208) (by decide +kernel) rfl)
theorem ulyX0_4 : u_lay RX0 TX0 4 ∈ UL := (ul_1 (k := 210) (by decide +kernel) rfl)
theorem iulX0 : ∀ w ∈ u_ws RX0 TX0 5, w ∈ UL := u_wsAll (fun k h => match k, h with
  | 0, _ => ulyX0_0
  | 1, _ => ulyX0_1
  | 2, _ => ulyX0_2
  | 3, _ => ulyX0_3
  | 4, _ => ulyX0_4
  | k + 5, h => absurd h (by omega))
theorem ulyX1_0 : u_lay RX1 TX1 0 ∈ UL := (ul_1 (k := 154) (by decide +kernel) rfl)
theorem ulyX1_1 : u_lay RX1 TX1 1 ∈ UL := (ul_1 (k := 156) (by decide +kernel) rfl)
theorem ulyX1_2 : u_lay RX1 TX1 2 ∈ UL := (ul_1 (k := 158) (by decide +kernel) rfl)
theorem ulyX1_3 : u_lay RX1 TX1 3 ∈ UL := (ul_1 (k := 160) (by decide +kernel) rfl)
theorem iulX1 : ∀ w ∈ u_ws RX1 TX1 4, w ∈ UL := u_wsAll (fun k h => match k, h with
  | 0, _ => ulyX1_0
  | 1, _ => ulyX1_1
  | 2, _ => ulyX1_2
  | 3, _ => ulyX1_3
  | k + 4, h => absurd h (by omega))
theorem ulyX2_0 : u_lay RX2 TX2 0 ∈ UL := (ul_1 (k := 56) (by decide +kernel) rfl)
theorem ulyX2_1 : u_lay RX2 TX2 1 ∈ UL := (ul_1 (k := 58) (by decide +kernel) rfl)
theorem ulyX2_2 : u_lay RX2 TX2 2 ∈ UL := (ul_1 (k := 60) (by decide +kernel) rfl)
theorem ulyX2_3 : u_lay RX2 TX2 3 ∈ UL := (ul_1 (k := 62) (by decide +kernel) rfl)
theorem ulyX2_4 : u_lay RX2 TX2 4 ∈ UL := (ul_1 (k := 64) (by decide +kernel) rfl)
theorem ulyX2_5 : u_lay RX2 TX2 5 ∈ UL := (ul_1 (k := 66) (by decide +kernel) rfl)
theorem ulyX2_6 : u_lay RX2 TX2 6 ∈ UL := (ul_1 (k := 68) (by decide +kernel) rfl)
theorem iulX2 : ∀ w ∈ u_ws RX2 TX2 7, w ∈ UL := u_wsAll (fun k h => match k, h with
  | 0, _ => ulyX2_0
  | 1, _ => ulyX2_1
  | 2, _ => ulyX2_2
  | 3, _ => ulyX2_3
  | 4, _ => ulyX2_4
  | 5, _ => ulyX2_5
  | 6, _ => ulyX2_6
  | k + 7, h => absurd h (by omega))
theorem ulyX3_0 : u_lay RX3 TX3 0 ∈ UL := (ul_1 (k := 231) (by decide +kernel) rfl)
theorem ulyX3_1 : u_lay RX3 TX3 1 ∈ UL := (ul_1 (k := 233) (by decide +kernel) rfl)
theorem ulyX3_2 : u_lay RX3 TX3 2 ∈ UL := (ul_1 (k := 235) (by decide +kernel) rfl)
theorem ulyX3_3 : u_lay RX3 TX3 3 ∈ UL := (ul_1 (k := 237) (by decide +kernel) rfl)
theorem ulyX3_4 : u_lay RX3 TX3 4 ∈ UL := (ul_1 (k := 239) (by decide +kernel) rfl)
theorem ulyX3_5 : u_lay RX3 TX3 5 ∈ UL := (ul_2 (k := 1) (by decide +kernel) rfl)
theorem ulyX3_6 : u_lay RX3 TX3 6 ∈ UL := (ul_2 (k := 3) (by decide +kernel) rfl)
theorem ulyX3_7 : u_lay RX3 TX3 7 ∈ UL := (ul_2 (k := 5) (by decide +kernel) rfl)
theorem ulyX3_8 : u_lay RX3 TX3 8 ∈ UL := (ul_2 (k := 7) (by decide +kernel) rfl)
theorem ulyX3_9 : u_lay RX3 TX3 9 ∈ UL := (ul_2 (k := 9) (by decide +kernel) rfl)
theorem iulX3 : ∀ w ∈ u_ws RX3 TX3 10, w ∈ UL := u_wsAll (fun k h => match k, h with
  | 0, _ => ulyX3_0
  | 1, _ => ulyX3_1
  | 2, _ => ulyX3_2
  | 3, _ => ulyX3_3
  | 4, _ => ulyX3_4
  | 5, _ => ulyX3_5
  | 6, _ => ulyX3_6
  | 7, _ => ulyX3_7
  | 8, _ => ulyX3_8
  | 9, _ => ulyX3_9
  | k + 10, h => absurd h (by omega))
theorem ulyX4_0 : u_lay RX4 TX4 0 ∈ UL := (ul_1 (k := 178) (by decide +kernel) rfl)
theorem ulyX4_1 : u_lay RX4 TX4 1 ∈ UL := (ul_1 (k := 180) (by decide +kernel) rfl)
theorem ulyX4_2 : u_lay RX4 TX4 2 ∈ UL := (ul_1 (k := 182) (by decide +kernel) rfl)
theorem ulyX4_3 : u_lay RX4 TX4 3 ∈ UL := (ul_1 (k := 184) (by decide +kernel) rfl)
theorem ulyX4_4 : u_lay RX4 TX4 4 ∈ UL := (ul_1 (k := 186) (by decide +kernel) rfl)
theorem ulyX4_5 : u_lay RX4 TX4 5 ∈ UL := (ul_1 (k := 188) (by decide +kernel) rfl)
theorem iulX4 : ∀ w ∈ u_ws RX4 TX4 6, w ∈ UL := u_wsAll (fun k h => match k, h with
  | 0, _ => ulyX4_0
  | 1, _ => ulyX4_1
  | 2, _ => ulyX4_2
  | 3, _ => ulyX4_3
  | 4, _ => ulyX4_4
  | 5, _ => ulyX4_5
  | k + 6, h => absurd h (by omega))
theorem ulyX5_0 : u_lay RX5 TX5 0 ∈ UL := (ul_1 (k := 112) (by decide +kernel) rfl)
theorem ulyX5_1 : u_lay RX5 TX5 1 ∈ UL := (ul_1 (k := 114) (by decide +kernel) rfl)
theorem ulyX5_2 : u_lay RX5 TX5 2 ∈ UL := (ul_1 (k := 116) (by decide +kernel) rfl)
theorem iulX5 : ∀ w ∈ u_ws RX5 TX5 3, w ∈ UL := u_wsAll (fun k h => match k, h with
  | 0, _ => ulyX5_0
  | 1, _ => ulyX5_1
  | 2, _ => ulyX5_2
  | k + 3, h => absurd h (by omega))
theorem iulX6 : ∀ w ∈ u_ws RX6 TX6 0, w ∈ UL := u_wsAll (fun k h => absurd h (Nat.not_lt_zero k))
theorem ulyX7_0 : u_lay RX7 TX7 0 ∈ UL := (ul_1 (k := 90) (by decide +kernel) rfl)
theorem ulyX7_1 : u_lay RX7 TX7 1 ∈ UL := (ul_1 (k := 92) (by decide +kernel) rfl)
theorem ulyX7_2 : u_lay RX7 TX7 2 ∈ UL := (ul_1 (k := 94) (by decide +kernel) rfl)
theorem ulyX7_3 : u_lay RX7 TX7 3 ∈ UL := (ul_1 (k := 96) (by decide +kernel) rfl)
theorem ulyX7_4 : u_lay RX7 TX7 4 ∈ UL := (ul_1 (k := 98) (by decide +kernel) rfl)
theorem iulX7 : ∀ w ∈ u_ws RX7 TX7 5, w ∈ UL := u_wsAll (fun k h => match k, h with
  | 0, _ => ulyX7_0
  | 1, _ => ulyX7_1
  | 2, _ => ulyX7_2
  | 3, _ => ulyX7_3
  | 4, _ => ulyX7_4
  | k + 5, h => absurd h (by omega))
theorem ulyX8_0 : u_lay RX8 TX8 0 ∈ UL := (ul_1 (k := 131) (by decide +kernel) rfl)
theorem ulyX8_1 : u_lay RX8 TX8 1 ∈ UL := (ul_1 (k := 133) (by decide +kernel) rfl)
theorem ulyX8_2 : u_lay RX8 TX8 2 ∈ UL := (ul_1 (k := 135) (by decide +kernel) rfl)
theorem ulyX8_3 : u_lay RX8 TX8 3 ∈ UL := (ul_1 (k := 137) (by decide +kernel) rfl)
theorem ulyX8_4 : u_lay RX8 TX8 4 ∈ UL := (ul_1 (k := 139) (by decide +kernel) rfl)
theorem ulyX8_5 : u_lay RX8 TX8 5 ∈ UL := (ul_1 (k := 141) (by decide +kernel) rfl)
theorem iulX8 : ∀ w ∈ u_ws RX8 TX8 6, w ∈ UL := u_wsAll (fun k h => match k, h with
  | 0, _ => ulyX8_0
  | 1, _ => ulyX8_1
  | 2, _ => ulyX8_2
  | 3, _ => ulyX8_3
  | 4, _ => ulyX8_4
  | 5, _ => ulyX8_5
  | k + 6, h => absurd h (by omega))
theorem ulyX9_0 : u_lay RX9 TX9 0 ∈ UL := (ul_2 (k := 25) (by decide +kernel) rfl)
theorem ulyX9_1 : u_lay RX9 TX9 1 ∈ UL := (ul_2 (k := 27) (by decide +kernel) rfl)
theorem ulyX9_2 : u_lay RX9 TX9 2 ∈ UL := (ul_2 (k := 29) (by decide +kernel) rfl)
theorem ulyX9_3 : u_lay RX9 TX9 3 ∈ UL := (ul_2 (k := 31) (by decide +kernel) rfl)
theorem ulyX9_4 : u_lay RX9 TX9 4 ∈ UL := (ul_2 (k := 33) (by decide +kernel) rfl)
theorem ulyX9_5 : u_lay RX9 TX9 5 ∈ UL := (ul_2 (k := 35) (by decide +kernel) rfl)
theorem ulyX9_6 : u_lay RX9 TX9 6 ∈ UL := (ul_2 (k := 37) (by decide +kernel) rfl)
theorem ulyX9_7 : u_lay RX9 TX9 7 ∈ UL := (ul_2 (k := 39) (by decide +kernel) rfl)
theorem ulyX9_8 : u_lay RX9 TX9 8 ∈ UL := (ul_2 (k := 41) (by decide +kernel) rfl)
theorem ulyX9_9 : u_lay RX9 TX9 9 ∈ UL := (ul_2 (k := 43) (by decide +kernel) rfl)
theorem ulyX9_10 : u_lay RX9 TX9 10 ∈ UL := (ul_2 (k := 45) (by decide +kernel) rfl)
theorem ulyX9_11 : u_lay RX9 TX9 11 ∈ UL := (ul_2 (k := 47) (by decide +kernel) rfl)
theorem ulyX9_12 : u_lay RX9 TX9 12 ∈ UL := (ul_2 (k := 49) (by decide +kernel) rfl)
theorem iulX9 : ∀ w ∈ u_ws RX9 TX9 13, w ∈ UL := u_wsAll (fun k h => match k, h with
  | 0, _ => ulyX9_0
  | 1, _ => ulyX9_1
  | 2, _ => ulyX9_2
  | 3, _ => ulyX9_3
  | 4, _ => ulyX9_4
  | 5, _ => ulyX9_5
  | 6, _ => ulyX9_6
  | 7, _ => ulyX9_7
  | 8, _ => ulyX9_8
  | 9, _ => ulyX9_9
  | 10, _ => ulyX9_10
  | 11, _ => ulyX9_11
  | 12, _ => ulyX9_12
  | k + 13, h => absurd h (by omega))
theorem ulyX10_0 : u_lay RX10 TX10 0 ∈ UL := (ul_4 (k := 229) (by decide +kernel) rfl)
theorem ulyX10_1 : u_lay RX10 TX10 1 ∈ UL := (ul_4 (k := 231) (by decide +kernel) rfl)
theorem ulyX10_2 : u_lay RX10 TX10 2 ∈ UL := (ul_4 (k := 233) (by decide +kernel) rfl)
theorem ulyX10_3 : u_lay RX10 TX10 3 ∈ UL := (ul_4 (k := 235) (by decide +kernel) rfl)
theorem ulyX10_4 : u_lay RX10 TX10 4 ∈ UL := (ul_4 (k := 237) (by decide +kernel) rfl)
theorem ulyX10_5 : u_lay RX10 TX10 5 ∈ UL := (ul_4 (k := 239) (by decide +kernel) rfl)
theorem ulyX10_6 : u_lay RX10 TX10 6 ∈ UL := (ul_5 (k := 1) (by decide +kernel) rfl)
theorem ulyX10_7 : u_lay RX10 TX10 7 ∈ UL := (ul_5 (k := 3) (by decide +kernel) rfl)
theorem ulyX10_8 : u_lay RX10 TX10 8 ∈ UL := (ul_5 (k := 5) (by decide +kernel) rfl)
theorem ulyX10_9 : u_lay RX10 TX10 9 ∈ UL := (ul_5 (k := 7) (by decide +kernel) rfl)
theorem ulyX10_10 : u_lay RX10 TX10 10 ∈ UL := (ul_5 (k := 9) (by decide +kernel) rfl)
theorem ulyX10_11 : u_lay RX10 TX10 11 ∈ UL := (ul_5 (k := 11) (by decide +kernel) rfl)
theorem ulyX10_12 : u_lay RX10 TX10 12 ∈ UL := (ul_5 (k := 13) (by decide +kernel) rfl)
theorem ulyX10_13 : u_lay RX10 TX10 13 ∈ UL := (ul_5 (k := 15) (by decide +kernel) rfl)
theorem ulyX10_14 : u_lay RX10 TX10 14 ∈ UL := (ul_5 (k := 17) (by decide +kernel) rfl)
theorem ulyX10_15 : u_lay RX10 TX10 15 ∈ UL := (ul_5 (k := 19) (by decide +kernel) rfl)
theorem ulyX10_16 : u_lay RX10 TX10 16 ∈ UL := (ul_5 (k := 21) (by decide +kernel) rfl)
theorem ulyX10_17 : u_lay RX10 TX10 17 ∈ UL := (ul_5 (k := 23) (by decide +kernel) rfl)
theorem ulyX10_18 : u_lay RX10 TX10 18 ∈ UL := (ul_5 (k := 25) (by decide +kernel) rfl)
theorem ulyX10_19 : u_lay RX10 TX10 19 ∈ UL := (ul_5 (k := 27) (by decide +kernel) rfl)
theorem ulyX10_20 : u_lay RX10 TX10 20 ∈ UL := (ul_5 (k := 29) (by decide +kernel) rfl)
theorem ulyX10_21 : u_lay RX10 TX10 21 ∈ UL := (ul_5 (k := 31) (by decide +kernel) rfl)
theorem ulyX10_22 : u_lay RX10 TX10 22 ∈ UL := (ul_5 (k := 33) (by decide +kernel) rfl)
theorem ulyX10_23 : u_lay RX10 TX10 23 ∈ UL := (ul_5 (k := 35) (by decide +kernel) rfl)
theorem ulyX10_24 : u_lay RX10 TX10 24 ∈ UL := (ul_5 (k := 37) (by decide +kernel) rfl)
theorem ulyX10_25 : u_lay RX10 TX10 25 ∈ UL := (ul_5 (k := 39) (by decide +kernel) rfl)
theorem ulyX10_26 : u_lay RX10 TX10 26 ∈ UL := (ul_5 (k := 41) (by decide +kernel) rfl)
theorem ulyX10_27 : u_lay RX10 TX10 27 ∈ UL := (ul_5 (k := 43) (by decide +kernel) rfl)
theorem ulyX10_28 : u_lay RX10 TX10 28 ∈ UL := (ul_5 (k := 45) (by decide +kernel) rfl)
theorem ulyX10_29 : u_lay RX10 TX10 29 ∈ UL := (ul_5 (k := 47) (by decide +kernel) rfl)
theorem ulyX10_30 : u_lay RX10 TX10 30 ∈ UL := (ul_5 (k := 49) (by decide +kernel) rfl)
theorem ulyX10_31 : u_lay RX10 TX10 31 ∈ UL := (ul_5 (k := 51) (by decide +kernel) rfl)
theorem ulyX10_32 : u_lay RX10 TX10 32 ∈ UL := (ul_5 (k := 53) (by decide +kernel) rfl)
theorem ulyX10_33 : u_lay RX10 TX10 33 ∈ UL := (ul_5 (k := 55) (by decide +kernel) rfl)
theorem ulyX10_34 : u_lay RX10 TX10 34 ∈ UL := (ul_5 (k := 57) (by decide +kernel) rfl)
theorem ulyX10_35 : u_lay RX10 TX10 35 ∈ UL := (ul_5 (k := 59) (by decide +kernel) rfl)
theorem ulyX10_36 : u_lay RX10 TX10 36 ∈ UL := (ul_5 (k := 61) (by decide +kernel) rfl)
theorem ulyX10_37 : u_lay RX10 TX10 37 ∈ UL := (ul_5 (k := 63) (by decide +kernel) rfl)
theorem ulyX10_38 : u_lay RX10 TX10 38 ∈ UL := (ul_5 (k := 65) (by decide +kernel) rfl)
theorem ulyX10_39 : u_lay RX10 TX10 39 ∈ UL := (ul_5 (k := 67) (by decide +kernel) rfl)
theorem ulyX10_40 : u_lay RX10 TX10 40 ∈ UL := (ul_5 (k := 69) (by decide +kernel) rfl)
theorem ulyX10_41 : u_lay RX10 TX10 41 ∈ UL := (ul_5 (k := 71) (by decide +kernel) rfl)
theorem ulyX10_42 : u_lay RX10 TX10 42 ∈ UL := (ul_5 (k := 73) (by decide +kernel) rfl)
theorem ulyX10_43 : u_lay RX10 TX10 43 ∈ UL := (ul_5 (k := 75) (by decide +kernel) rfl)
theorem ulyX10_44 : u_lay RX10 TX10 44 ∈ UL := (ul_5 (k := 77) (by decide +kernel) rfl)
theorem ulyX10_45 : u_lay RX10 TX10 45 ∈ UL := (ul_5 (k := 79) (by decide +kernel) rfl)
theorem ulyX10_46 : u_lay RX10 TX10 46 ∈ UL := (ul_5 (k := 81) (by decide +kernel) rfl)
theorem ulyX10_47 : u_lay RX10 TX10 47 ∈ UL := (ul_5 (k := 83) (by decide +kernel) rfl)
theorem ulyX10_48 : u_lay RX10 TX10 48 ∈ UL := (ul_5 (k := 85) (by decide +kernel) rfl)
theorem ulyX10_49 : u_lay RX10 TX10 49 ∈ UL := (ul_5 (k := 87) (by decide +kernel) rfl)
theorem ulyX10_50 : u_lay RX10 TX10 50 ∈ UL := (ul_5 (k := 89) (by decide +kernel) rfl)
theorem ulyX10_51 : u_lay RX10 TX10 51 ∈ UL := (ul_5 (k := 91) (by decide +kernel) rfl)
theorem ulyX10_52 : u_lay RX10 TX10 52 ∈ UL := (ul_5 (k := 93) (by decide +kernel) rfl)
theorem ulyX10_53 : u_lay RX10 TX10 53 ∈ UL := (ul_5 (k := 95) (by decide +kernel) rfl)
theorem ulyX10_54 : u_lay RX10 TX10 54 ∈ UL := (ul_5 (k := 97) (by decide +kernel) rfl)
theorem iulX10 : ∀ w ∈ u_ws RX10 TX10 55, w ∈ UL := u_wsAll (fun k h => match k, h with
  | 0, _ => ulyX10_0
  | 1, _ => ulyX10_1
  | 2, _ => ulyX10_2
  | 3, _ => ulyX10_3
  | 4, _ => ulyX10_4
  | 5, _ => ulyX10_5
  | 6, _ => ulyX10_6
  | 7, _ => ulyX10_7
  | 8, _ => ulyX10_8
  | 9, _ => ulyX10_9
  | 10, _ => ulyX10_10
  | 11, _ => ulyX10_11
  | 12, _ => ulyX10_12
  | 13, _ => ulyX10_13
  | 14, _ => ulyX10_14
  | 15, _ => ulyX10_15
  | 16, _ => ulyX10_16
  | 17, _ => ulyX10_17
  | 18, _ => ulyX10_18
  | 19, _ => ulyX10_19
  | 20, _ => ulyX10_20
  | 21, _ => ulyX10_21
  | 22, _ => ulyX10_22
  | 23, _ => ulyX10_23
  | 24, _ => ulyX10_24
  | 25, _ => ulyX10_25
  | 26, _ => ulyX10_26
  | 27, _ => ulyX10_27
  | 28, _ => ulyX10_28
  | 29, _ => ulyX10_29
  | 30, _ => ulyX10_30
  | 31, _ => ulyX10_31
  | 32, _ => ulyX10_32
  | 33, _ => ulyX10_33
  | 34, _ => ulyX10_34
  | 35, _ => ulyX10_35
  | 36, _ => ulyX10_36
  | 37, _ => ulyX10_37
  | 38, _ => ulyX10_38
  | 39, _ => ulyX10_39
  | 40, _ => ulyX10_40
  | 41, _ => ulyX10_41
  | 42, _ => ulyX10_42
  | 43, _ => ulyX10_43
  | 44, _ => ulyX10_44
  | 45, _ => ulyX10_45
  | 46, _ => ulyX10_46
  | 47, _ => ulyX10_47
  | 48, _ => ulyX10_48
  | 49, _ => ulyX10_49
  | 50, _ => ulyX10_50
  | 51, _ => ulyX10_51
  | 52, _ => ulyX10_52
  | 53, _ => ulyX10_53
  | 54, _ => ulyX10_54
  | k + 55, h => absurd h (by omega))
theorem cls_in : ∀ (ci : Nat) (q : vw_C), cls11[ci]? = some q → ∀ w ∈ u_ws q.1 q.2.1 q.2.2, w ∈ UL :=
  clsAll_of ⟨iulX0, iulX1, iulX2, iulX3, iulX4, iulX5, iulX5, iulX7, iulX8, iulX9, iulX10⟩
theorem cls_ty : ∀ (ci : Nat) (q : vw_C), cls11[ci]? = some q → ∃ ty0 : Nat → FieldType, ∀ k, k < q.2.2 → parseFieldDescriptor (q.2.1 k).2.2.1 = some (ty0 k) :=
  clsAll_of ⟨⟨_, tyX0_ok⟩, ⟨_, tyX1_ok⟩, ⟨_, tyX2_ok⟩, ⟨_, tyX3_ok⟩, ⟨_, tyX4_ok⟩, ⟨_, tyX5_ok⟩, ⟨_, tyX5_ok⟩, ⟨_, tyX7_ok⟩, ⟨_, tyX8_ok⟩, ⟨_, tyX9_ok⟩, ⟨_, tyX10_ok⟩⟩
theorem cls_nm : ∀ (ci : Nat) (q : vw_C), cls11[ci]? = some q → ∀ a, a < q.2.2 → ∀ b, b < q.2.2 → a ≠ b → (q.2.1 a).2.1 ≠ (q.2.1 b).2.1 :=
  clsAll_of ⟨nmX0, nmX1, nmX2, nmX3, nmX4, nmX5, nmX5, nmX7, nmX8, nmX9, nmX10⟩
/-- a field's link: own's constant idx is field j of class ci -/
def FL (own : String) (idx ci j : Nat) : Prop := ∃ q : vw_C, cls11[ci]? = some q ∧ j < q.2.2 ∧ Cond.fieldLink own idx (q.2.1 j).1 (q.2.1 j).2.1 (q.2.1 j).2.2.1 ∈ UL
/-- a method's words, virtual and static -/
def MV (y : MethodName) (cc : ByteArray) (maxL : Nat) (ret : Option FieldType) (n : Nat) : Prop := (Cond.instanceMethod y ∈ UL ∧ Cond.selects y.cls y y ∈ UL ∧ Cond.initialized y.cls ∈ UL ∧ Cond.code y cc maxL ret ∈ UL) ∧ (y.cls ≠ "java/lang/invoke/MethodHandle" ∧ y.cls ≠ "java/lang/invoke/VarHandle" ∧ (parseMethodDescriptor y.desc).map (fun d => d.parameters.length) = some n)
def MS (y : MethodName) (cc : ByteArray) (maxL : Nat) (ret : Option FieldType) (n : Nat) : Prop := (Cond.static y ∈ UL ∧ Cond.initialized y.cls ∈ UL ∧ Cond.code y cc maxL ret ∈ UL) ∧ (y.cls ≠ "java/lang/invoke/MethodHandle" ∧ y.cls ≠ "java/lang/invoke/VarHandle" ∧ (parseMethodDescriptor y.desc).map (fun d => d.parameters.length) = some n)
theorem mlv_gi {own : String} {idx : Nat} {y : MethodName} {cc : ByteArray} {maxL : Nat} {ret : Option FieldType} {n : Nat} (h : MV y cc maxL ret n) (hl : Cond.methodLink own idx y ∈ UL) : ∀ w ∈ wsV own idx y.cls y (UW y cc maxL ret), w ∈ UL := by
  intro w hw
  obtain ⟨⟨h1, h2, h3, h4⟩, -⟩ := h
  simp only [wsV, UW, List.mem_append, List.mem_cons, List.not_mem_nil, or_false] at hw
  rcases hw with (rfl | rfl | rfl | rfl) | (rfl | hw) <;> assumption
theorem mls_gi {own : String} {idx : Nat} {y : MethodName} {cc : ByteArray} {maxL : Nat} {ret : Option FieldType} {n : Nat} (h : MS y cc maxL ret n) (hl : Cond.methodLink own idx y ∈ UL) : ∀ w ∈ va_wsS own idx y (UW y cc maxL ret), w ∈ UL := by
  intro w hw
  obtain ⟨⟨h1, h2, h3⟩, -⟩ := h
  simp only [va_wsS, UW, List.mem_append, List.mem_cons, List.not_mem_nil, or_false] at hw
  rcases hw with (rfl | rfl | rfl) | (rfl | hw) <;> assumption
theorem fX2_9 : FL RX2 9 2 0 := ⟨_, rfl, by decide, (ul_1 (k := 29) (by decide +kernel) rfl)⟩
theorem fX6_38 : FL RX6 38 2 0 := ⟨_, rfl, by decide, (ul_1 (k := 30) (by decide +kernel) rfl)⟩
theorem fX0_55 : FL RX0 55 2 0 := ⟨_, rfl, by decide, (ul_1 (k := 31) (by decide +kernel) rfl)⟩
theorem fX5_63 : FL RX5 63 2 0 := ⟨_, rfl, by decide, (ul_1 (k := 32) (by decide +kernel) rfl)⟩
theorem fX9_152 : FL RX9 152 2 0 := ⟨_, rfl, by decide, (ul_1 (k := 33) (by decide +kernel) rfl)⟩
theorem fX2_15 : FL RX2 15 2 1 := ⟨_, rfl, by decide, (ul_1 (k := 34) (by decide +kernel) rfl)⟩
theorem fX6_42 : FL RX6 42 2 1 := ⟨_, rfl, by decide, (ul_1 (k := 35) (by decide +kernel) rfl)⟩
theorem fX0_61 : FL RX0 61 2 1 := ⟨_, rfl, by decide, (ul_1 (k := 36) (by decide +kernel) rfl)⟩
theorem fX5_66 : FL RX5 66 2 1 := ⟨_, rfl, by decide, (ul_1 (k := 37) (by decide +kernel) rfl)⟩
theorem fX9_155 : FL RX9 155 2 1 := ⟨_, rfl, by decide, (ul_1 (k := 38) (by decide +kernel) rfl)⟩
theorem fX2_18 : FL RX2 18 2 2 := ⟨_, rfl, by decide, (ul_1 (k := 39) (by decide +kernel) rfl)⟩
theorem fX5_69 : FL RX5 69 2 2 := ⟨_, rfl, by decide, (ul_1 (k := 40) (by decide +kernel) rfl)⟩
theorem fX9_168 : FL RX9 168 2 2 := ⟨_, rfl, by decide, (ul_1 (k := 41) (by decide +kernel) rfl)⟩
theorem fX8_79 : FL RX8 79 2 2 := ⟨_, rfl, by decide, (ul_1 (k := 42) (by decide +kernel) rfl)⟩
theorem fX2_21 : FL RX2 21 2 3 := ⟨_, rfl, by decide, (ul_1 (k := 43) (by decide +kernel) rfl)⟩
theorem fX6_21 : FL RX6 21 2 3 := ⟨_, rfl, by decide, (ul_1 (k := 44) (by decide +kernel) rfl)⟩
theorem fX9_101 : FL RX9 101 2 3 := ⟨_, rfl, by decide, (ul_1 (k := 45) (by decide +kernel) rfl)⟩
theorem fX5_27 : FL RX5 27 2 3 := ⟨_, rfl, by decide, (ul_1 (k := 46) (by decide +kernel) rfl)⟩
theorem fX2_25 : FL RX2 25 2 4 := ⟨_, rfl, by decide, (ul_1 (k := 47) (by decide +kernel) rfl)⟩
theorem fX9_105 : FL RX9 105 2 4 := ⟨_, rfl, by decide, (ul_1 (k := 48) (by decide +kernel) rfl)⟩
theorem fX5_56 : FL RX5 56 2 4 := ⟨_, rfl, by decide, (ul_1 (k := 49) (by decide +kernel) rfl)⟩
theorem fX8_108 : FL RX8 108 2 4 := ⟨_, rfl, by decide, (ul_1 (k := 50) (by decide +kernel) rfl)⟩
theorem fX2_28 : FL RX2 28 2 5 := ⟨_, rfl, by decide, (ul_1 (k := 51) (by decide +kernel) rfl)⟩
theorem fX5_22 : FL RX5 22 2 5 := ⟨_, rfl, by decide, (ul_1 (k := 52) (by decide +kernel) rfl)⟩
theorem fX9_285 : FL RX9 285 2 5 := ⟨_, rfl, by decide, (ul_1 (k := 53) (by decide +kernel) rfl)⟩
theorem fX2_32 : FL RX2 32 2 6 := ⟨_, rfl, by decide, (ul_1 (k := 54) (by decide +kernel) rfl)⟩
theorem fX9_282 : FL RX9 282 2 6 := ⟨_, rfl, by decide, (ul_1 (k := 55) (by decide +kernel) rfl)⟩
theorem fX7_9 : FL RX7 9 7 0 := ⟨_, rfl, by decide, (ul_1 (k := 79) (by decide +kernel) rfl)⟩
theorem fX7_15 : FL RX7 15 7 1 := ⟨_, rfl, by decide, (ul_1 (k := 80) (by decide +kernel) rfl)⟩
theorem fX9_111 : FL RX9 111 7 1 := ⟨_, rfl, by decide, (ul_1 (k := 81) (by decide +kernel) rfl)⟩
theorem fX7_19 : FL RX7 19 7 2 := ⟨_, rfl, by decide, (ul_1 (k := 82) (by decide +kernel) rfl)⟩
theorem fX7_22 : FL RX7 22 7 3 := ⟨_, rfl, by decide, (ul_1 (k := 83) (by decide +kernel) rfl)⟩
theorem fX4_41 : FL RX4 41 7 3 := ⟨_, rfl, by decide, (ul_1 (k := 84) (by decide +kernel) rfl)⟩
theorem fX3_54 : FL RX3 54 7 3 := ⟨_, rfl, by decide, (ul_1 (k := 85) (by decide +kernel) rfl)⟩
theorem fX9_310 : FL RX9 310 7 3 := ⟨_, rfl, by decide, (ul_1 (k := 86) (by decide +kernel) rfl)⟩
theorem fX7_25 : FL RX7 25 7 4 := ⟨_, rfl, by decide, (ul_1 (k := 87) (by decide +kernel) rfl)⟩
theorem fX3_61 : FL RX3 61 7 4 := ⟨_, rfl, by decide, (ul_1 (k := 88) (by decide +kernel) rfl)⟩
theorem fX9_220 : FL RX9 220 7 4 := ⟨_, rfl, by decide, (ul_1 (k := 89) (by decide +kernel) rfl)⟩
theorem fX5_11 : FL RX5 11 5 0 := ⟨_, rfl, by decide, (ul_1 (k := 107) (by decide +kernel) rfl)⟩
theorem fX5_15 : FL RX5 15 5 1 := ⟨_, rfl, by decide, (ul_1 (k := 108) (by decide +kernel) rfl)⟩
theorem fX9_145 : FL RX9 145 5 1 := ⟨_, rfl, by decide, (ul_1 (k := 109) (by decide +kernel) rfl)⟩
theorem fX5_19 : FL RX5 19 5 2 := ⟨_, rfl, by decide, (ul_1 (k := 110) (by decide +kernel) rfl)⟩
theorem fX9_158 : FL RX9 158 5 2 := ⟨_, rfl, by decide, (ul_1 (k := 111) (by decide +kernel) rfl)⟩
theorem fX8_9 : FL RX8 9 8 0 := ⟨_, rfl, by decide, (ul_1 (k := 125) (by decide +kernel) rfl)⟩
theorem fX8_15 : FL RX8 15 8 1 := ⟨_, rfl, by decide, (ul_1 (k := 126) (by decide +kernel) rfl)⟩
theorem fX8_18 : FL RX8 18 8 2 := ⟨_, rfl, by decide, (ul_1 (k := 127) (by decide +kernel) rfl)⟩
theorem fX8_21 : FL RX8 21 8 3 := ⟨_, rfl, by decide, (ul_1 (k := 128) (by decide +kernel) rfl)⟩
theorem fX8_24 : FL RX8 24 8 4 := ⟨_, rfl, by decide, (ul_1 (k := 129) (by decide +kernel) rfl)⟩
theorem fX8_27 : FL RX8 27 8 5 := ⟨_, rfl, by decide, (ul_1 (k := 130) (by decide +kernel) rfl)⟩
theorem fX1_9 : FL RX1 9 1 0 := ⟨_, rfl, by decide, (ul_1 (k := 150) (by decide +kernel) rfl)⟩
theorem fX1_15 : FL RX1 15 1 1 := ⟨_, rfl, by decide, (ul_1 (k := 151) (by decide +kernel) rfl)⟩
theorem fX1_18 : FL RX1 18 1 2 := ⟨_, rfl, by decide, (ul_1 (k := 152) (by decide +kernel) rfl)⟩
theorem fX1_21 : FL RX1 21 1 3 := ⟨_, rfl, by decide, (ul_1 (k := 153) (by decide +kernel) rfl)⟩
theorem fX4_9 : FL RX4 9 4 0 := ⟨_, rfl, by decide, (ul_1 (k := 169) (by decide +kernel) rfl)⟩
theorem fX4_15 : FL RX4 15 4 1 := ⟨_, rfl, by decide, (ul_1 (k := 170) (by decide +kernel) rfl)⟩
theorem fX4_18 : FL RX4 18 4 2 := ⟨_, rfl, by decide, (ul_1 (k := 171) (by decide +kernel) rfl)⟩
theorem fX4_22 : FL RX4 22 4 3 := ⟨_, rfl, by decide, (ul_1 (k := 172) (by decide +kernel) rfl)⟩
theorem fX9_227 : FL RX9 227 4 3 := ⟨_, rfl, by decide, (ul_1 (k := 173) (by decide +kernel) rfl)⟩
theorem fX4_25 : FL RX4 25 4 4 := ⟨_, rfl, by decide, (ul_1 (k := 174) (by decide +kernel) rfl)⟩
theorem fX9_232 : FL RX9 232 4 4 := ⟨_, rfl, by decide, (ul_1 (k := 175) (by decide +kernel) rfl)⟩
theorem fX4_28 : FL RX4 28 4 5 := ⟨_, rfl, by decide, (ul_1 (k := 176) (by decide +kernel) rfl)⟩
theorem fX9_230 : FL RX9 230 4 5 := ⟨_, rfl, by decide, (ul_1 (k := 177) (by decide +kernel) rfl)⟩
theorem fX0_9 : FL RX0 9 0 0 := ⟨_, rfl, by decide, (ul_1 (k := 197) (by decide +kernel) rfl)⟩
theorem fX0_15 : FL RX0 15 0 1 := ⟨_, rfl, by decide, (ul_1 (k := 198) (by decide +kernel) rfl)⟩
theorem fX0_18 : FL RX0 18 0 2 := ⟨_, rfl, by decide, (ul_1 (k := 199) (by decide +kernel) rfl)⟩
theorem fX0_21 : FL RX0 21 0 3 := ⟨_, rfl, by decide, (ul_1 (k := 200) (by decide +kernel) rfl)⟩
theorem fX0_24 : FL RX0 24 0 4 := ⟨_, rfl, by decide, (ul_1 (k := 201) (by decide +kernel) rfl)⟩
theorem fX3_9 : FL RX3 9 3 0 := ⟨_, rfl, by decide, (ul_1 (k := 219) (by decide +kernel) rfl)⟩
theorem fX3_15 : FL RX3 15 3 1 := ⟨_, rfl, by decide, (ul_1 (k := 220) (by decide +kernel) rfl)⟩
theorem fX3_18 : FL RX3 18 3 2 := ⟨_, rfl, by decide, (ul_1 (k := 221) (by decide +kernel) rfl)⟩
theorem fX3_21 : FL RX3 21 3 3 := ⟨_, rfl, by decide, (ul_1 (k := 222) (by decide +kernel) rfl)⟩
theorem fX3_24 : FL RX3 24 3 4 := ⟨_, rfl, by decide, (ul_1 (k := 223) (by decide +kernel) rfl)⟩
theorem fX3_27 : FL RX3 27 3 5 := ⟨_, rfl, by decide, (ul_1 (k := 224) (by decide +kernel) rfl)⟩
theorem fX3_30 : FL RX3 30 3 6 := ⟨_, rfl, by decide, (ul_1 (k := 225) (by decide +kernel) rfl)⟩
theorem fX3_33 : FL RX3 33 3 7 := ⟨_, rfl, by decide, (ul_1 (k := 226) (by decide +kernel) rfl)⟩
theorem fX3_37 : FL RX3 37 3 8 := ⟨_, rfl, by decide, (ul_1 (k := 227) (by decide +kernel) rfl)⟩
theorem fX9_291 : FL RX9 291 3 8 := ⟨_, rfl, by decide, (ul_1 (k := 228) (by decide +kernel) rfl)⟩
theorem fX3_40 : FL RX3 40 3 9 := ⟨_, rfl, by decide, (ul_1 (k := 229) (by decide +kernel) rfl)⟩
theorem fX5_72 : FL RX5 72 3 9 := ⟨_, rfl, by decide, (ul_1 (k := 230) (by decide +kernel) rfl)⟩
theorem fX9_10 : FL RX9 10 9 0 := ⟨_, rfl, by decide, (ul_2 (k := 12) (by decide +kernel) rfl)⟩
theorem fX9_16 : FL RX9 16 9 1 := ⟨_, rfl, by decide, (ul_2 (k := 13) (by decide +kernel) rfl)⟩
theorem fX9_19 : FL RX9 19 9 2 := ⟨_, rfl, by decide, (ul_2 (k := 14) (by decide +kernel) rfl)⟩
theorem fX9_25 : FL RX9 25 9 3 := ⟨_, rfl, by decide, (ul_2 (k := 15) (by decide +kernel) rfl)⟩
theorem fX9_32 : FL RX9 32 9 4 := ⟨_, rfl, by decide, (ul_2 (k := 16) (by decide +kernel) rfl)⟩
theorem fX9_39 : FL RX9 39 9 5 := ⟨_, rfl, by decide, (ul_2 (k := 17) (by decide +kernel) rfl)⟩
theorem fX9_46 : FL RX9 46 9 6 := ⟨_, rfl, by decide, (ul_2 (k := 18) (by decide +kernel) rfl)⟩
theorem fX9_53 : FL RX9 53 9 7 := ⟨_, rfl, by decide, (ul_2 (k := 19) (by decide +kernel) rfl)⟩
theorem fX9_60 : FL RX9 60 9 8 := ⟨_, rfl, by decide, (ul_2 (k := 20) (by decide +kernel) rfl)⟩
theorem fX9_64 : FL RX9 64 9 9 := ⟨_, rfl, by decide, (ul_2 (k := 21) (by decide +kernel) rfl)⟩
theorem fX9_71 : FL RX9 71 9 10 := ⟨_, rfl, by decide, (ul_2 (k := 22) (by decide +kernel) rfl)⟩
theorem fX9_75 : FL RX9 75 9 11 := ⟨_, rfl, by decide, (ul_2 (k := 23) (by decide +kernel) rfl)⟩
theorem fX9_78 : FL RX9 78 9 12 := ⟨_, rfl, by decide, (ul_2 (k := 24) (by decide +kernel) rfl)⟩
theorem fX10_7 : FL RX10 7 10 0 := ⟨_, rfl, by decide, (ul_4 (k := 174) (by decide +kernel) rfl)⟩
theorem fX10_13 : FL RX10 13 10 1 := ⟨_, rfl, by decide, (ul_4 (k := 175) (by decide +kernel) rfl)⟩
theorem fX10_16 : FL RX10 16 10 2 := ⟨_, rfl, by decide, (ul_4 (k := 176) (by decide +kernel) rfl)⟩
theorem fX10_19 : FL RX10 19 10 3 := ⟨_, rfl, by decide, (ul_4 (k := 177) (by decide +kernel) rfl)⟩
theorem fX10_136 : FL RX10 136 10 4 := ⟨_, rfl, by decide, (ul_4 (k := 178) (by decide +kernel) rfl)⟩
theorem fX10_22 : FL RX10 22 10 5 := ⟨_, rfl, by decide, (ul_4 (k := 179) (by decide +kernel) rfl)⟩
theorem fX10_158 : FL RX10 158 10 6 := ⟨_, rfl, by decide, (ul_4 (k := 180) (by decide +kernel) rfl)⟩
theorem fX10_165 : FL RX10 165 10 7 := ⟨_, rfl, by decide, (ul_4 (k := 181) (by decide +kernel) rfl)⟩
theorem fX10_168 : FL RX10 168 10 8 := ⟨_, rfl, by decide, (ul_4 (k := 182) (by decide +kernel) rfl)⟩
theorem fX10_175 : FL RX10 175 10 9 := ⟨_, rfl, by decide, (ul_4 (k := 183) (by decide +kernel) rfl)⟩
theorem fX10_181 : FL RX10 181 10 10 := ⟨_, rfl, by decide, (ul_4 (k := 184) (by decide +kernel) rfl)⟩
theorem fX10_192 : FL RX10 192 10 11 := ⟨_, rfl, by decide, (ul_4 (k := 185) (by decide +kernel) rfl)⟩
theorem fX10_188 : FL RX10 188 10 12 := ⟨_, rfl, by decide, (ul_4 (k := 186) (by decide +kernel) rfl)⟩
theorem fX10_195 : FL RX10 195 10 13 := ⟨_, rfl, by decide, (ul_4 (k := 187) (by decide +kernel) rfl)⟩
theorem fX10_243 : FL RX10 243 10 14 := ⟨_, rfl, by decide, (ul_4 (k := 188) (by decide +kernel) rfl)⟩
theorem fX10_258 : FL RX10 258 10 15 := ⟨_, rfl, by decide, (ul_4 (k := 189) (by decide +kernel) rfl)⟩
theorem fX10_26 : FL RX10 26 10 16 := ⟨_, rfl, by decide, (ul_4 (k := 190) (by decide +kernel) rfl)⟩
theorem fX10_29 : FL RX10 29 10 17 := ⟨_, rfl, by decide, (ul_4 (k := 191) (by decide +kernel) rfl)⟩
theorem fX10_32 : FL RX10 32 10 18 := ⟨_, rfl, by decide, (ul_4 (k := 192) (by decide +kernel) rfl)⟩
theorem fX10_35 : FL RX10 35 10 19 := ⟨_, rfl, by decide, (ul_4 (k := 193) (by decide +kernel) rfl)⟩
theorem fX10_38 : FL RX10 38 10 20 := ⟨_, rfl, by decide, (ul_4 (k := 194) (by decide +kernel) rfl)⟩
theorem fX10_41 : FL RX10 41 10 21 := ⟨_, rfl, by decide, (ul_4 (k := 195) (by decide +kernel) rfl)⟩
theorem fX10_44 : FL RX10 44 10 22 := ⟨_, rfl, by decide, (ul_4 (k := 196) (by decide +kernel) rfl)⟩
theorem fX10_47 : FL RX10 47 10 23 := ⟨_, rfl, by decide, (ul_4 (k := 197) (by decide +kernel) rfl)⟩
theorem fX10_50 : FL RX10 50 10 24 := ⟨_, rfl, by decide, (ul_4 (k := 198) (by decide +kernel) rfl)⟩
theorem fX10_53 : FL RX10 53 10 25 := ⟨_, rfl, by decide, (ul_4 (k := 199) (by decide +kernel) rfl)⟩
theorem fX10_56 : FL RX10 56 10 26 := ⟨_, rfl, by decide, (ul_4 (k := 200) (by decide +kernel) rfl)⟩
theorem fX10_59 : FL RX10 59 10 27 := ⟨_, rfl, by decide, (ul_4 (k := 201) (by decide +kernel) rfl)⟩
theorem fX10_62 : FL RX10 62 10 28 := ⟨_, rfl, by decide, (ul_4 (k := 202) (by decide +kernel) rfl)⟩
theorem fX10_65 : FL RX10 65 10 29 := ⟨_, rfl, by decide, (ul_4 (k := 203) (by decide +kernel) rfl)⟩
theorem fX10_68 : FL RX10 68 10 30 := ⟨_, rfl, by decide, (ul_4 (k := 204) (by decide +kernel) rfl)⟩
theorem fX10_71 : FL RX10 71 10 31 := ⟨_, rfl, by decide, (ul_4 (k := 205) (by decide +kernel) rfl)⟩
theorem fX10_74 : FL RX10 74 10 32 := ⟨_, rfl, by decide, (ul_4 (k := 206) (by decide +kernel) rfl)⟩
theorem fX10_274 : FL RX10 274 10 33 := ⟨_, rfl, by decide, (ul_4 (k := 207) (by decide +kernel) rfl)⟩
theorem fX10_293 : FL RX10 293 10 34 := ⟨_, rfl, by decide, (ul_4 (k := 208) (by decide +kernel) rfl)⟩
theorem fX10_296 : FL RX10 296 10 35 := ⟨_, rfl, by decide, (ul_4 (k := 209) (by decide +kernel) rfl)⟩
theorem fX10_77 : FL RX10 77 10 36 := ⟨_, rfl, by decide, (ul_4 (k := 210) (by decide +kernel) rfl)⟩
theorem fX10_80 : FL RX10 80 10 37 := ⟨_, rfl, by decide, (ul_4 (k := 211) (by decide +kernel) rfl)⟩
theorem fX10_83 : FL RX10 83 10 38 := ⟨_, rfl, by decide, (ul_4 (k := 212) (by decide +kernel) rfl)⟩
theorem fX10_86 : FL RX10 86 10 39 := ⟨_, rfl, by decide, (ul_4 (k := 213) (by decide +kernel) rfl)⟩
theorem fX10_89 : FL RX10 89 10 40 := ⟨_, rfl, by decide, (ul_4 (k := 214) (by decide +kernel) rfl)⟩
theorem fX10_92 : FL RX10 92 10 41 := ⟨_, rfl, by decide, (ul_4 (k := 215) (by decide +kernel) rfl)⟩
theorem fX10_95 : FL RX10 95 10 42 := ⟨_, rfl, by decide, (ul_4 (k := 216) (by decide +kernel) rfl)⟩
theorem fX10_98 : FL RX10 98 10 43 := ⟨_, rfl, by decide, (ul_4 (k := 217) (by decide +kernel) rfl)⟩
theorem fX10_101 : FL RX10 101 10 44 := ⟨_, rfl, by decide, (ul_4 (k := 218) (by decide +kernel) rfl)⟩
theorem fX10_104 : FL RX10 104 10 45 := ⟨_, rfl, by decide, (ul_4 (k := 219) (by decide +kernel) rfl)⟩
theorem fX10_107 : FL RX10 107 10 46 := ⟨_, rfl, by decide, (ul_4 (k := 220) (by decide +kernel) rfl)⟩
theorem fX10_110 : FL RX10 110 10 47 := ⟨_, rfl, by decide, (ul_4 (k := 221) (by decide +kernel) rfl)⟩
theorem fX10_113 : FL RX10 113 10 48 := ⟨_, rfl, by decide, (ul_4 (k := 222) (by decide +kernel) rfl)⟩
theorem fX10_359 : FL RX10 359 10 49 := ⟨_, rfl, by decide, (ul_4 (k := 223) (by decide +kernel) rfl)⟩
theorem fX10_362 : FL RX10 362 10 50 := ⟨_, rfl, by decide, (ul_4 (k := 224) (by decide +kernel) rfl)⟩
theorem fX10_116 : FL RX10 116 10 51 := ⟨_, rfl, by decide, (ul_4 (k := 225) (by decide +kernel) rfl)⟩
theorem fX10_119 : FL RX10 119 10 52 := ⟨_, rfl, by decide, (ul_4 (k := 226) (by decide +kernel) rfl)⟩
theorem fX10_122 : FL RX10 122 10 53 := ⟨_, rfl, by decide, (ul_4 (k := 227) (by decide +kernel) rfl)⟩
theorem fX10_415 : FL RX10 415 10 54 := ⟨_, rfl, by decide, (ul_4 (k := 228) (by decide +kernel) rfl)⟩
set_option maxRecDepth 20000 in
theorem mX9_stone : MV yX9_stone cX9_stone 6 (some .boolean) 4 := ⟨⟨(ul_2 (k := 53) (by decide +kernel) rfl), (ul_2 (k := 54) (by decide +kernel) rfl), (ul_1 (k := 1) (by decide +kernel) rfl), (ul_2 (k := 55) rfl rfl)⟩, by decide +kernel⟩
set_option maxRecDepth 20000 in
theorem mX9_isStone : MS yX9_isStone cX9_isStone 1 (some .boolean) 1 := ⟨⟨(ul_2 (k := 57) (by decide +kernel) rfl), (ul_1 (k := 1) (by decide +kernel) rfl), (ul_2 (k := 58) rfl rfl)⟩, by decide +kernel⟩
set_option maxRecDepth 20000 in
theorem mX9_isPlace : MS yX9_isPlace cX9_isPlace 2 (some .boolean) 2 := ⟨⟨(ul_2 (k := 60) (by decide +kernel) rfl), (ul_1 (k := 1) (by decide +kernel) rfl), (ul_2 (k := 61) rfl rfl)⟩, by decide +kernel⟩
set_option maxRecDepth 20000 in
theorem mX2_stoneAt : MV yX2_stoneAt cX2_stoneAt 4 (some .int) 2 := ⟨⟨(ul_2 (k := 63) (by decide +kernel) rfl), (ul_2 (k := 64) (by decide +kernel) rfl), (ul_1 (k := 2) (by decide +kernel) rfl), (ul_2 (k := 65) rfl rfl)⟩, by decide +kernel⟩
set_option maxRecDepth 20000 in
theorem mX2_lay : MV yX2_lay cX2_lay 6 none 5 := ⟨⟨(ul_2 (k := 67) (by decide +kernel) rfl), (ul_2 (k := 68) (by decide +kernel) rfl), (ul_1 (k := 2) (by decide +kernel) rfl), (ul_2 (k := 69) rfl rfl)⟩, by decide +kernel⟩
set_option maxRecDepth 20000 in
theorem mX9_take : MV yX9_take cX9_take 2 (some .boolean) 1 := ⟨⟨(ul_2 (k := 71) (by decide +kernel) rfl), (ul_2 (k := 72) (by decide +kernel) rfl), (ul_1 (k := 1) (by decide +kernel) rfl), (ul_2 (k := 73) rfl rfl)⟩, by decide +kernel⟩
set_option maxRecDepth 20000 in
theorem mX2_isTold : MV yX2_isTold cX2_isTold 2 (some .boolean) 1 := ⟨⟨(ul_2 (k := 75) (by decide +kernel) rfl), (ul_2 (k := 76) (by decide +kernel) rfl), (ul_1 (k := 2) (by decide +kernel) rfl), (ul_2 (k := 77) rfl rfl)⟩, by decide +kernel⟩
set_option maxRecDepth 20000 in
theorem mX9_under : MV yX9_under cX9_under 3 (some .boolean) 2 := ⟨⟨(ul_2 (k := 79) (by decide +kernel) rfl), (ul_2 (k := 80) (by decide +kernel) rfl), (ul_1 (k := 1) (by decide +kernel) rfl), (ul_2 (k := 81) rfl rfl)⟩, by decide +kernel⟩
set_option maxRecDepth 20000 in
theorem mX9_person : MV yX9_person cX9_person 3 (some .boolean) 2 := ⟨⟨(ul_2 (k := 83) (by decide +kernel) rfl), (ul_2 (k := 84) (by decide +kernel) rfl), (ul_1 (k := 1) (by decide +kernel) rfl), (ul_2 (k := 85) rfl rfl)⟩, by decide +kernel⟩
set_option maxRecDepth 20000 in
theorem mX9_isStride : MS yX9_isStride cX9_isStride 1 (some .boolean) 1 := ⟨⟨(ul_2 (k := 87) (by decide +kernel) rfl), (ul_1 (k := 1) (by decide +kernel) rfl), (ul_2 (k := 88) rfl rfl)⟩, by decide +kernel⟩
set_option maxRecDepth 20000 in
theorem mX9_feed : MV yX9_feed cX9_feed 6 (some .int) 5 := ⟨⟨(ul_2 (k := 90) (by decide +kernel) rfl), (ul_2 (k := 91) (by decide +kernel) rfl), (ul_1 (k := 1) (by decide +kernel) rfl), (ul_2 (k := 92) rfl rfl)⟩, by decide +kernel⟩
set_option maxRecDepth 20000 in
theorem mX7_append : MV yX7_append cX7_append 3 none 1 := ⟨⟨(ul_2 (k := 94) (by decide +kernel) rfl), (ul_2 (k := 95) (by decide +kernel) rfl), (ul_1 (k := 3) (by decide +kernel) rfl), (ul_2 (k := 96) rfl rfl)⟩, by decide +kernel⟩
set_option maxRecDepth 20000 in
theorem mX9_law : MV yX9_law cX9_law 4 (some .int) 1 := ⟨⟨(ul_2 (k := 98) (by decide +kernel) rfl), (ul_2 (k := 99) (by decide +kernel) rfl), (ul_1 (k := 1) (by decide +kernel) rfl), (ul_2 (k := 100) rfl rfl)⟩, by decide +kernel⟩
set_option maxRecDepth 20000 in
theorem mX7_holds : MV yX7_holds cX7_holds 4 (some .boolean) 3 := ⟨⟨(ul_2 (k := 102) (by decide +kernel) rfl), (ul_2 (k := 103) (by decide +kernel) rfl), (ul_1 (k := 3) (by decide +kernel) rfl), (ul_2 (k := 104) rfl rfl)⟩, by decide +kernel⟩
set_option maxRecDepth 20000 in
theorem mX7_open : MV yX7_open cX7_open 2 none 1 := ⟨⟨(ul_2 (k := 106) (by decide +kernel) rfl), (ul_2 (k := 107) (by decide +kernel) rfl), (ul_1 (k := 3) (by decide +kernel) rfl), (ul_2 (k := 108) rfl rfl)⟩, by decide +kernel⟩
set_option maxRecDepth 20000 in
theorem mX3_compile : MV yX3_compile cX3_compile 4 (some .int) 1 := ⟨⟨(ul_2 (k := 110) (by decide +kernel) rfl), (ul_2 (k := 111) (by decide +kernel) rfl), (ul_1 (k := 9) (by decide +kernel) rfl), (ul_2 (k := 112) rfl rfl)⟩, by decide +kernel⟩
set_option maxRecDepth 20000 in
theorem mX7_here : MV yX7_here cX7_here 1 (some .int) 0 := ⟨⟨(ul_2 (k := 114) (by decide +kernel) rfl), (ul_2 (k := 115) (by decide +kernel) rfl), (ul_1 (k := 3) (by decide +kernel) rfl), (ul_2 (k := 116) rfl rfl)⟩, by decide +kernel⟩
set_option maxRecDepth 20000 in
theorem mX3_isRuleLetter : MS yX3_isRuleLetter cX3_isRuleLetter 1 (some .boolean) 1 := ⟨⟨(ul_2 (k := 118) (by decide +kernel) rfl), (ul_1 (k := 9) (by decide +kernel) rfl), (ul_2 (k := 119) rfl rfl)⟩, by decide +kernel⟩
set_option maxRecDepth 20000 in
theorem mX7_refuse : MV yX7_refuse cX7_refuse 3 (some .boolean) 2 := ⟨⟨(ul_2 (k := 121) (by decide +kernel) rfl), (ul_2 (k := 122) (by decide +kernel) rfl), (ul_1 (k := 3) (by decide +kernel) rfl), (ul_2 (k := 123) rfl rfl)⟩, by decide +kernel⟩
set_option maxRecDepth 20000 in
theorem mX3_compileSum : MV yX3_compileSum cX3_compileSum 7 (some .boolean) 2 := ⟨⟨(ul_2 (k := 126) (by decide +kernel) rfl), (ul_0 (k := 0) (by decide +kernel) rfl), (ul_1 (k := 9) (by decide +kernel) rfl), (ul_2 (k := 127) rfl rfl)⟩, by decide +kernel⟩
set_option maxRecDepth 20000 in
theorem mX3_compileFactor : MV yX3_compileFactor cX3_compileFactor 5 (some .boolean) 2 := ⟨⟨(ul_2 (k := 130) (by decide +kernel) rfl), (ul_0 (k := 1) (by decide +kernel) rfl), (ul_1 (k := 9) (by decide +kernel) rfl), (ul_2 (k := 131) rfl rfl)⟩, by decide +kernel⟩
set_option maxRecDepth 20000 in
theorem mX7_skip : MV yX7_skip cX7_skip 2 (some .boolean) 1 := ⟨⟨(ul_2 (k := 133) (by decide +kernel) rfl), (ul_2 (k := 134) (by decide +kernel) rfl), (ul_1 (k := 3) (by decide +kernel) rfl), (ul_2 (k := 135) rfl rfl)⟩, by decide +kernel⟩
set_option maxRecDepth 20000 in
theorem mX7_isDigit : MS yX7_isDigit cX7_isDigit 1 (some .boolean) 1 := ⟨⟨(ul_2 (k := 139) (by decide +kernel) rfl), (ul_1 (k := 3) (by decide +kernel) rfl), (ul_2 (k := 140) rfl rfl)⟩, by decide +kernel⟩
set_option maxRecDepth 20000 in
theorem mX7_number : MV yX7_number cX7_number 4 (some .int) 1 := ⟨⟨(ul_2 (k := 142) (by decide +kernel) rfl), (ul_2 (k := 143) (by decide +kernel) rfl), (ul_1 (k := 3) (by decide +kernel) rfl), (ul_2 (k := 144) rfl rfl)⟩, by decide +kernel⟩
set_option maxRecDepth 20000 in
theorem mX3_order : MV yX3_order cX3_order 3 none 2 := ⟨⟨(ul_2 (k := 147) (by decide +kernel) rfl), (ul_2 (k := 148) (by decide +kernel) rfl), (ul_1 (k := 9) (by decide +kernel) rfl), (ul_2 (k := 149) rfl rfl)⟩, by decide +kernel⟩
set_option maxRecDepth 20000 in
theorem mX5_indexOf : MS yX5_indexOf cX5_indexOf 1 (some .int) 1 := ⟨⟨(ul_2 (k := 151) (by decide +kernel) rfl), (ul_1 (k := 4) (by decide +kernel) rfl), (ul_2 (k := 152) rfl rfl)⟩, by decide +kernel⟩
set_option maxRecDepth 20000 in
theorem mX3_compileChoice : MV yX3_compileChoice cX3_compileChoice 7 (some .boolean) 2 := ⟨⟨(ul_2 (k := 155) (by decide +kernel) rfl), (ul_0 (k := 2) (by decide +kernel) rfl), (ul_1 (k := 9) (by decide +kernel) rfl), (ul_2 (k := 156) rfl rfl)⟩, by decide +kernel⟩
set_option maxRecDepth 20000 in
theorem mX3_compileTest : MV yX3_compileTest cX3_compileTest 5 (some .boolean) 2 := ⟨⟨(ul_2 (k := 159) (by decide +kernel) rfl), (ul_0 (k := 3) (by decide +kernel) rfl), (ul_1 (k := 9) (by decide +kernel) rfl), (ul_2 (k := 160) rfl rfl)⟩, by decide +kernel⟩
set_option maxRecDepth 20000 in
theorem mX3_landHere : MV yX3_landHere cX3_landHere 2 none 1 := ⟨⟨(ul_2 (k := 162) (by decide +kernel) rfl), (ul_2 (k := 163) (by decide +kernel) rfl), (ul_1 (k := 9) (by decide +kernel) rfl), (ul_2 (k := 164) rfl rfl)⟩, by decide +kernel⟩
set_option maxRecDepth 20000 in
theorem mX9_notebook : MV yX9_notebook cX9_notebook 3 (some .int) 1 := ⟨⟨(ul_2 (k := 166) (by decide +kernel) rfl), (ul_2 (k := 167) (by decide +kernel) rfl), (ul_1 (k := 1) (by decide +kernel) rfl), (ul_2 (k := 168) rfl rfl)⟩, by decide +kernel⟩
set_option maxRecDepth 20000 in
theorem mX9_readNotebook : MS yX9_readNotebook cX9_readNotebook 3 (some .int) 2 := ⟨⟨(ul_2 (k := 170) (by decide +kernel) rfl), (ul_1 (k := 1) (by decide +kernel) rfl), (ul_2 (k := 171) rfl rfl)⟩, by decide +kernel⟩
set_option maxRecDepth 20000 in
theorem mX2_clearStones : MV yX2_clearStones cX2_clearStones 2 none 0 := ⟨⟨(ul_2 (k := 173) (by decide +kernel) rfl), (ul_2 (k := 174) (by decide +kernel) rfl), (ul_1 (k := 2) (by decide +kernel) rfl), (ul_2 (k := 175) rfl rfl)⟩, by decide +kernel⟩
set_option maxRecDepth 20000 in
theorem mX9_readLine : MS yX9_readLine cX9_readLine 9 (some .boolean) 3 := ⟨⟨(ul_2 (k := 177) (by decide +kernel) rfl), (ul_1 (k := 1) (by decide +kernel) rfl), (ul_2 (k := 178) rfl rfl)⟩, by decide +kernel⟩
set_option maxRecDepth 20000 in
theorem mX2_copyStones : MV yX2_copyStones cX2_copyStones 3 none 1 := ⟨⟨(ul_2 (k := 185) (by decide +kernel) rfl), (ul_2 (k := 186) (by decide +kernel) rfl), (ul_1 (k := 2) (by decide +kernel) rfl), (ul_2 (k := 187) rfl rfl)⟩, by decide +kernel⟩
set_option maxRecDepth 20000 in
theorem mX9_nights : MV yX9_nights cX9_nights 2 (some .int) 1 := ⟨⟨(ul_2 (k := 189) (by decide +kernel) rfl), (ul_2 (k := 190) (by decide +kernel) rfl), (ul_1 (k := 1) (by decide +kernel) rfl), (ul_2 (k := 191) rfl rfl)⟩, by decide +kernel⟩
set_option maxRecDepth 20000 in
theorem mX9_isNights : MS yX9_isNights cX9_isNights 1 (some .boolean) 1 := ⟨⟨(ul_2 (k := 193) (by decide +kernel) rfl), (ul_1 (k := 1) (by decide +kernel) rfl), (ul_2 (k := 194) rfl rfl)⟩, by decide +kernel⟩
set_option maxRecDepth 20000 in
theorem mX5_pass : MV yX5_pass cX5_pass 6 none 3 := ⟨⟨(ul_2 (k := 196) (by decide +kernel) rfl), (ul_2 (k := 197) (by decide +kernel) rfl), (ul_1 (k := 4) (by decide +kernel) rfl), (ul_2 (k := 198) rfl rfl)⟩, by decide +kernel⟩
set_option maxRecDepth 20000 in
theorem mX5_turn : MV yX5_turn cX5_turn 6 none 3 := ⟨⟨(ul_2 (k := 200) (by decide +kernel) rfl), (ul_2 (k := 201) (by decide +kernel) rfl), (ul_1 (k := 4) (by decide +kernel) rfl), (ul_2 (k := 202) rfl rfl)⟩, by decide +kernel⟩
set_option maxRecDepth 20000 in
theorem mX2_draw : MV yX2_draw cX2_draw 1 (some .int) 0 := ⟨⟨(ul_2 (k := 205) (by decide +kernel) rfl), (ul_2 (k := 206) (by decide +kernel) rfl), (ul_1 (k := 2) (by decide +kernel) rfl), (ul_2 (k := 207) rfl rfl)⟩, by decide +kernel⟩
set_option maxRecDepth 20000 in
theorem mX5_look : MV yX5_look cX5_look 4 none 3 := ⟨⟨(ul_2 (k := 210) (by decide +kernel) rfl), (ul_2 (k := 211) (by decide +kernel) rfl), (ul_1 (k := 4) (by decide +kernel) rfl), (ul_2 (k := 212) rfl rfl)⟩, by decide +kernel⟩
set_option maxRecDepth 20000 in
theorem mX2_countClose : MV yX2_countClose cX2_countClose 4 (some .int) 1 := ⟨⟨(ul_2 (k := 214) (by decide +kernel) rfl), (ul_2 (k := 215) (by decide +kernel) rfl), (ul_1 (k := 2) (by decide +kernel) rfl), (ul_2 (k := 216) rfl rfl)⟩, by decide +kernel⟩
set_option maxRecDepth 20000 in
theorem mX2_squares : MV yX2_squares cX2_squares 5 (some .int) 2 := ⟨⟨(ul_2 (k := 218) (by decide +kernel) rfl), (ul_2 (k := 219) (by decide +kernel) rfl), (ul_1 (k := 2) (by decide +kernel) rfl), (ul_2 (k := 220) rfl rfl)⟩, by decide +kernel⟩
set_option maxRecDepth 20000 in
theorem mX3_amountOf : MV yX3_amountOf cX3_amountOf 5 (some .int) 2 := ⟨⟨(ul_2 (k := 223) (by decide +kernel) rfl), (ul_2 (k := 224) (by decide +kernel) rfl), (ul_1 (k := 9) (by decide +kernel) rfl), (ul_2 (k := 225) rfl rfl)⟩, by decide +kernel⟩
set_option maxRecDepth 20000 in
theorem mX3_doesHold : MV yX3_doesHold cX3_doesHold 3 (some .boolean) 2 := ⟨⟨(ul_2 (k := 227) (by decide +kernel) rfl), (ul_2 (k := 228) (by decide +kernel) rfl), (ul_1 (k := 9) (by decide +kernel) rfl), (ul_2 (k := 229) rfl rfl)⟩, by decide +kernel⟩
set_option maxRecDepth 20000 in
theorem mX3_reckon : MV yX3_reckon cX3_reckon 9 (some .int) 3 := ⟨⟨(ul_2 (k := 231) (by decide +kernel) rfl), (ul_2 (k := 232) (by decide +kernel) rfl), (ul_1 (k := 9) (by decide +kernel) rfl), (ul_2 (k := 233) rfl rfl)⟩, by decide +kernel⟩
set_option maxRecDepth 20000 in
theorem mX3_combine : MS yX3_combine cX3_combine 3 (some .int) 3 := ⟨⟨(ul_2 (k := 235) (by decide +kernel) rfl), (ul_1 (k := 9) (by decide +kernel) rfl), (ul_2 (k := 236) rfl rfl)⟩, by decide +kernel⟩
set_option maxRecDepth 20000 in
theorem mX5_shift : MV yX5_shift cX5_shift 7 none 4 := ⟨⟨(ul_3 (k := 4) (by decide +kernel) rfl), (ul_3 (k := 5) (by decide +kernel) rfl), (ul_1 (k := 4) (by decide +kernel) rfl), (ul_3 (k := 6) rfl rfl)⟩, by decide +kernel⟩
set_option maxRecDepth 20000 in
theorem mX3_doesSink : MV yX3_doesSink cX3_doesSink 3 (some .boolean) 1 := ⟨⟨(ul_3 (k := 11) (by decide +kernel) rfl), (ul_3 (k := 12) (by decide +kernel) rfl), (ul_1 (k := 9) (by decide +kernel) rfl), (ul_3 (k := 13) rfl rfl)⟩, by decide +kernel⟩
set_option maxRecDepth 20000 in
theorem mX9_tried : MV yX9_tried cX9_tried 5 (some .int) 2 := ⟨⟨(ul_3 (k := 15) (by decide +kernel) rfl), (ul_3 (k := 16) (by decide +kernel) rfl), (ul_1 (k := 1) (by decide +kernel) rfl), (ul_3 (k := 17) rfl rfl)⟩, by decide +kernel⟩
set_option maxRecDepth 20000 in
theorem mX2_copyAll : MV yX2_copyAll cX2_copyAll 2 none 1 := ⟨⟨(ul_3 (k := 20) (by decide +kernel) rfl), (ul_3 (k := 21) (by decide +kernel) rfl), (ul_1 (k := 2) (by decide +kernel) rfl), (ul_3 (k := 22) rfl rfl)⟩, by decide +kernel⟩
set_option maxRecDepth 20000 in
theorem mX2_countSunk : MV yX2_countSunk cX2_countSunk 3 (some .int) 0 := ⟨⟨(ul_3 (k := 25) (by decide +kernel) rfl), (ul_3 (k := 26) (by decide +kernel) rfl), (ul_1 (k := 2) (by decide +kernel) rfl), (ul_3 (k := 27) rfl rfl)⟩, by decide +kernel⟩
set_option maxRecDepth 20000 in
theorem mX2_sumOfX : MV yX2_sumOfX cX2_sumOfX 3 (some .int) 0 := ⟨⟨(ul_3 (k := 29) (by decide +kernel) rfl), (ul_3 (k := 30) (by decide +kernel) rfl), (ul_1 (k := 2) (by decide +kernel) rfl), (ul_3 (k := 31) rfl rfl)⟩, by decide +kernel⟩
set_option maxRecDepth 20000 in
theorem mX9_stoneIs : MV yX9_stoneIs cX9_stoneIs 3 (some .int) 2 := ⟨⟨(ul_3 (k := 33) (by decide +kernel) rfl), (ul_3 (k := 34) (by decide +kernel) rfl), (ul_1 (k := 1) (by decide +kernel) rfl), (ul_3 (k := 35) rfl rfl)⟩, by decide +kernel⟩
set_option maxRecDepth 20000 in
theorem mX9_at : MV yX9_at cX9_at 4 (some .int) 2 := ⟨⟨(ul_3 (k := 38) (by decide +kernel) rfl), (ul_3 (k := 39) (by decide +kernel) rfl), (ul_1 (k := 1) (by decide +kernel) rfl), (ul_3 (k := 40) rfl rfl)⟩, by decide +kernel⟩
set_option maxRecDepth 20000 in
theorem mX9_cross : MV yX9_cross cX9_cross 4 (some .int) 2 := ⟨⟨(ul_3 (k := 42) (by decide +kernel) rfl), (ul_3 (k := 43) (by decide +kernel) rfl), (ul_1 (k := 1) (by decide +kernel) rfl), (ul_3 (k := 44) rfl rfl)⟩, by decide +kernel⟩
set_option maxRecDepth 20000 in
theorem mX9_strideOf : MV yX9_strideOf cX9_strideOf 2 (some .int) 1 := ⟨⟨(ul_3 (k := 47) (by decide +kernel) rfl), (ul_0 (k := 4) (by decide +kernel) rfl), (ul_1 (k := 1) (by decide +kernel) rfl), (ul_3 (k := 48) rfl rfl)⟩, by decide +kernel⟩
set_option maxRecDepth 20000 in
theorem mX8_crossing : MV yX8_crossing cX8_crossing 6 (some .int) 3 := ⟨⟨(ul_3 (k := 50) (by decide +kernel) rfl), (ul_3 (k := 51) (by decide +kernel) rfl), (ul_1 (k := 5) (by decide +kernel) rfl), (ul_3 (k := 52) rfl rfl)⟩, by decide +kernel⟩
set_option maxRecDepth 20000 in
theorem mX8_spread : MV yX8_spread cX8_spread 6 (some .int) 5 := ⟨⟨(ul_3 (k := 54) (by decide +kernel) rfl), (ul_3 (k := 55) (by decide +kernel) rfl), (ul_1 (k := 5) (by decide +kernel) rfl), (ul_3 (k := 56) rfl rfl)⟩, by decide +kernel⟩
set_option maxRecDepth 20000 in
theorem mJ7_fill_53178 : MS yJ7_fill_53178 cJ7_fill_53178 4 none 2 := ⟨⟨(ul_3 (k := 58) (by decide +kernel) rfl), (ul_1 (k := 12) (by decide +kernel) rfl), (ul_3 (k := 59) rfl rfl)⟩, by decide +kernel⟩
set_option maxRecDepth 20000 in
theorem mX8_spreadOn : MV yX8_spreadOn cX8_spreadOn 11 (some .int) 5 := ⟨⟨(ul_3 (k := 61) (by decide +kernel) rfl), (ul_3 (k := 62) (by decide +kernel) rfl), (ul_1 (k := 5) (by decide +kernel) rfl), (ul_3 (k := 63) rfl rfl)⟩, by decide +kernel⟩
set_option maxRecDepth 20000 in
theorem mX2_isStep : MV yX2_isStep cX2_isStep 4 (some .boolean) 3 := ⟨⟨(ul_3 (k := 65) (by decide +kernel) rfl), (ul_3 (k := 66) (by decide +kernel) rfl), (ul_1 (k := 2) (by decide +kernel) rfl), (ul_3 (k := 67) rfl rfl)⟩, by decide +kernel⟩
set_option maxRecDepth 20000 in
theorem mX2_canStand : MV yX2_canStand cX2_canStand 2 (some .boolean) 1 := ⟨⟨(ul_3 (k := 69) (by decide +kernel) rfl), (ul_3 (k := 70) (by decide +kernel) rfl), (ul_1 (k := 2) (by decide +kernel) rfl), (ul_3 (k := 71) rfl rfl)⟩, by decide +kernel⟩
set_option maxRecDepth 20000 in
theorem mX2_isDry : MV yX2_isDry cX2_isDry 2 (some .boolean) 1 := ⟨⟨(ul_3 (k := 73) (by decide +kernel) rfl), (ul_3 (k := 74) (by decide +kernel) rfl), (ul_1 (k := 2) (by decide +kernel) rfl), (ul_3 (k := 75) rfl rfl)⟩, by decide +kernel⟩
set_option maxRecDepth 20000 in
theorem mX2_isStepFrom : MV yX2_isStepFrom cX2_isStepFrom 7 (some .boolean) 4 := ⟨⟨(ul_3 (k := 77) (by decide +kernel) rfl), (ul_3 (k := 78) (by decide +kernel) rfl), (ul_1 (k := 2) (by decide +kernel) rfl), (ul_3 (k := 79) rfl rfl)⟩, by decide +kernel⟩
set_option maxRecDepth 20000 in
theorem mX2_heightOf : MV yX2_heightOf cX2_heightOf 2 (some .int) 1 := ⟨⟨(ul_3 (k := 81) (by decide +kernel) rfl), (ul_3 (k := 82) (by decide +kernel) rfl), (ul_1 (k := 2) (by decide +kernel) rfl), (ul_3 (k := 83) rfl rfl)⟩, by decide +kernel⟩
set_option maxRecDepth 20000 in
theorem mX8_countRows : MV yX8_countRows cX8_countRows 5 (some .int) 3 := ⟨⟨(ul_3 (k := 88) (by decide +kernel) rfl), (ul_3 (k := 89) (by decide +kernel) rfl), (ul_1 (k := 5) (by decide +kernel) rfl), (ul_3 (k := 90) rfl rfl)⟩, by decide +kernel⟩
set_option maxRecDepth 20000 in
theorem mX8_leadOn : MV yX8_leadOn cX8_leadOn 5 none 3 := ⟨⟨(ul_3 (k := 92) (by decide +kernel) rfl), (ul_3 (k := 93) (by decide +kernel) rfl), (ul_1 (k := 5) (by decide +kernel) rfl), (ul_3 (k := 94) rfl rfl)⟩, by decide +kernel⟩
set_option maxRecDepth 20000 in
theorem mX8_stoneOfLeastRow : MV yX8_stoneOfLeastRow cX8_stoneOfLeastRow 7 (some .int) 4 := ⟨⟨(ul_3 (k := 98) (by decide +kernel) rfl), (ul_3 (k := 99) (by decide +kernel) rfl), (ul_1 (k := 5) (by decide +kernel) rfl), (ul_3 (k := 100) rfl rfl)⟩, by decide +kernel⟩
set_option maxRecDepth 20000 in
theorem mX8_lowestOnward : MV yX8_lowestOnward cX8_lowestOnward 6 (some .int) 4 := ⟨⟨(ul_3 (k := 102) (by decide +kernel) rfl), (ul_3 (k := 103) (by decide +kernel) rfl), (ul_1 (k := 5) (by decide +kernel) rfl), (ul_3 (k := 104) rfl rfl)⟩, by decide +kernel⟩
set_option maxRecDepth 20000 in
theorem mX9_driest : MV yX9_driest cX9_driest 4 (some .int) 2 := ⟨⟨(ul_3 (k := 106) (by decide +kernel) rfl), (ul_3 (k := 107) (by decide +kernel) rfl), (ul_1 (k := 1) (by decide +kernel) rfl), (ul_3 (k := 108) rfl rfl)⟩, by decide +kernel⟩
set_option maxRecDepth 20000 in
theorem mX9_isEither : MS yX9_isEither cX9_isEither 1 (some .boolean) 1 := ⟨⟨(ul_3 (k := 110) (by decide +kernel) rfl), (ul_1 (k := 1) (by decide +kernel) rfl), (ul_3 (k := 111) rfl rfl)⟩, by decide +kernel⟩
set_option maxRecDepth 20000 in
theorem mX8_driestWay : MV yX8_driestWay cX8_driestWay 6 (some .int) 3 := ⟨⟨(ul_3 (k := 113) (by decide +kernel) rfl), (ul_3 (k := 114) (by decide +kernel) rfl), (ul_1 (k := 5) (by decide +kernel) rfl), (ul_3 (k := 115) rfl rfl)⟩, by decide +kernel⟩
set_option maxRecDepth 20000 in
theorem mX8_cheapest : MV yX8_cheapest cX8_cheapest 3 (some .int) 0 := ⟨⟨(ul_3 (k := 117) (by decide +kernel) rfl), (ul_3 (k := 118) (by decide +kernel) rfl), (ul_1 (k := 5) (by decide +kernel) rfl), (ul_3 (k := 119) rfl rfl)⟩, by decide +kernel⟩
set_option maxRecDepth 20000 in
theorem mX8_settle : MV yX8_settle cX8_settle 6 none 3 := ⟨⟨(ul_3 (k := 121) (by decide +kernel) rfl), (ul_3 (k := 122) (by decide +kernel) rfl), (ul_1 (k := 5) (by decide +kernel) rfl), (ul_3 (k := 123) rfl rfl)⟩, by decide +kernel⟩
set_option maxRecDepth 20000 in
theorem mX9_leastStride : MV yX9_leastStride cX9_leastStride 2 (some .int) 0 := ⟨⟨(ul_3 (k := 125) (by decide +kernel) rfl), (ul_3 (k := 126) (by decide +kernel) rfl), (ul_1 (k := 1) (by decide +kernel) rfl), (ul_3 (k := 127) rfl rfl)⟩, by decide +kernel⟩
set_option maxRecDepth 20000 in
theorem mX8_canCross : MV yX8_canCross cX8_canCross 3 (some .boolean) 2 := ⟨⟨(ul_3 (k := 129) (by decide +kernel) rfl), (ul_3 (k := 130) (by decide +kernel) rfl), (ul_1 (k := 5) (by decide +kernel) rfl), (ul_3 (k := 131) rfl rfl)⟩, by decide +kernel⟩
set_option maxRecDepth 20000 in
theorem mX9_howFar : MV yX9_howFar cX9_howFar 3 (some .int) 1 := ⟨⟨(ul_3 (k := 133) (by decide +kernel) rfl), (ul_3 (k := 134) (by decide +kernel) rfl), (ul_1 (k := 1) (by decide +kernel) rfl), (ul_3 (k := 135) rfl rfl)⟩, by decide +kernel⟩
set_option maxRecDepth 20000 in
theorem mX8_farthest : MV yX8_farthest cX8_farthest 5 (some .int) 2 := ⟨⟨(ul_3 (k := 137) (by decide +kernel) rfl), (ul_3 (k := 138) (by decide +kernel) rfl), (ul_1 (k := 5) (by decide +kernel) rfl), (ul_3 (k := 139) rfl rfl)⟩, by decide +kernel⟩
set_option maxRecDepth 20000 in
theorem mX9_hold : MV yX9_hold cX9_hold 3 (some .int) 1 := ⟨⟨(ul_3 (k := 143) (by decide +kernel) rfl), (ul_3 (k := 144) (by decide +kernel) rfl), (ul_1 (k := 1) (by decide +kernel) rfl), (ul_3 (k := 145) rfl rfl)⟩, by decide +kernel⟩
set_option maxRecDepth 20000 in
theorem mX1_fewest : MV yX1_fewest cX1_fewest 5 (some .int) 2 := ⟨⟨(ul_3 (k := 147) (by decide +kernel) rfl), (ul_3 (k := 148) (by decide +kernel) rfl), (ul_1 (k := 6) (by decide +kernel) rfl), (ul_3 (k := 149) rfl rfl)⟩, by decide +kernel⟩
set_option maxRecDepth 20000 in
theorem mX1_search : MV yX1_search cX1_search 5 (some .int) 2 := ⟨⟨(ul_3 (k := 152) (by decide +kernel) rfl), (ul_3 (k := 153) (by decide +kernel) rfl), (ul_1 (k := 6) (by decide +kernel) rfl), (ul_3 (k := 154) rfl rfl)⟩, by decide +kernel⟩
set_option maxRecDepth 20000 in
theorem mX1_reach : MV yX1_reach cX1_reach 3 none 2 := ⟨⟨(ul_3 (k := 157) (by decide +kernel) rfl), (ul_3 (k := 158) (by decide +kernel) rfl), (ul_1 (k := 6) (by decide +kernel) rfl), (ul_3 (k := 159) rfl rfl)⟩, by decide +kernel⟩
set_option maxRecDepth 20000 in
theorem mX1_comeOn : MV yX1_comeOn cX1_comeOn 2 none 1 := ⟨⟨(ul_3 (k := 161) (by decide +kernel) rfl), (ul_3 (k := 162) (by decide +kernel) rfl), (ul_1 (k := 6) (by decide +kernel) rfl), (ul_3 (k := 163) rfl rfl)⟩, by decide +kernel⟩
set_option maxRecDepth 20000 in
theorem mX1_leave : MV yX1_leave cX1_leave 5 (some .boolean) 3 := ⟨⟨(ul_3 (k := 165) (by decide +kernel) rfl), (ul_3 (k := 166) (by decide +kernel) rfl), (ul_1 (k := 6) (by decide +kernel) rfl), (ul_3 (k := 167) rfl rfl)⟩, by decide +kernel⟩
set_option maxRecDepth 20000 in
theorem mX1_weave : MV yX1_weave cX1_weave 5 none 1 := ⟨⟨(ul_3 (k := 169) (by decide +kernel) rfl), (ul_3 (k := 170) (by decide +kernel) rfl), (ul_1 (k := 6) (by decide +kernel) rfl), (ul_3 (k := 171) rfl rfl)⟩, by decide +kernel⟩
set_option maxRecDepth 20000 in
theorem mX1_join : MV yX1_join cX1_join 3 none 2 := ⟨⟨(ul_3 (k := 173) (by decide +kernel) rfl), (ul_3 (k := 174) (by decide +kernel) rfl), (ul_1 (k := 6) (by decide +kernel) rfl), (ul_3 (k := 175) rfl rfl)⟩, by decide +kernel⟩
set_option maxRecDepth 20000 in
theorem mX9_oneMore : MV yX9_oneMore cX9_oneMore 4 (some .int) 2 := ⟨⟨(ul_3 (k := 177) (by decide +kernel) rfl), (ul_3 (k := 178) (by decide +kernel) rfl), (ul_1 (k := 1) (by decide +kernel) rfl), (ul_3 (k := 179) rfl rfl)⟩, by decide +kernel⟩
set_option maxRecDepth 20000 in
theorem mX8_helpfulPlace : MV yX8_helpfulPlace cX8_helpfulPlace 6 (some .int) 3 := ⟨⟨(ul_3 (k := 181) (by decide +kernel) rfl), (ul_3 (k := 182) (by decide +kernel) rfl), (ul_1 (k := 5) (by decide +kernel) rfl), (ul_3 (k := 183) rfl rfl)⟩, by decide +kernel⟩
set_option maxRecDepth 20000 in
theorem mX8_wouldJoin : MV yX8_wouldJoin cX8_wouldJoin 9 (some .boolean) 4 := ⟨⟨(ul_3 (k := 186) (by decide +kernel) rfl), (ul_3 (k := 187) (by decide +kernel) rfl), (ul_1 (k := 5) (by decide +kernel) rfl), (ul_3 (k := 188) rfl rfl)⟩, by decide +kernel⟩
set_option maxRecDepth 20000 in
theorem mX9_islands : MV yX9_islands cX9_islands 3 (some .int) 2 := ⟨⟨(ul_3 (k := 192) (by decide +kernel) rfl), (ul_3 (k := 193) (by decide +kernel) rfl), (ul_1 (k := 1) (by decide +kernel) rfl), (ul_3 (k := 194) rfl rfl)⟩, by decide +kernel⟩
set_option maxRecDepth 20000 in
theorem mX8_countIslands : MV yX8_countIslands cX8_countIslands 5 (some .int) 2 := ⟨⟨(ul_3 (k := 196) (by decide +kernel) rfl), (ul_3 (k := 197) (by decide +kernel) rfl), (ul_1 (k := 5) (by decide +kernel) rfl), (ul_3 (k := 198) rfl rfl)⟩, by decide +kernel⟩
set_option maxRecDepth 20000 in
theorem mX8_islandSize : MV yX8_islandSize cX8_islandSize 4 (some .int) 3 := ⟨⟨(ul_3 (k := 201) (by decide +kernel) rfl), (ul_3 (k := 202) (by decide +kernel) rfl), (ul_1 (k := 5) (by decide +kernel) rfl), (ul_3 (k := 203) rfl rfl)⟩, by decide +kernel⟩
set_option maxRecDepth 20000 in
theorem mX9_key : MV yX9_key cX9_key 7 (some .int) 2 := ⟨⟨(ul_3 (k := 205) (by decide +kernel) rfl), (ul_3 (k := 206) (by decide +kernel) rfl), (ul_1 (k := 1) (by decide +kernel) rfl), (ul_3 (k := 207) rfl rfl)⟩, by decide +kernel⟩
set_option maxRecDepth 20000 in
theorem mX8_needs : MV yX8_needs cX8_needs 5 (some .boolean) 3 := ⟨⟨(ul_3 (k := 209) (by decide +kernel) rfl), (ul_3 (k := 210) (by decide +kernel) rfl), (ul_1 (k := 5) (by decide +kernel) rfl), (ul_3 (k := 211) rfl rfl)⟩, by decide +kernel⟩
set_option maxRecDepth 20000 in
theorem mX9_meet : MV yX9_meet cX9_meet 6 (some .int) 3 := ⟨⟨(ul_3 (k := 213) (by decide +kernel) rfl), (ul_3 (k := 214) (by decide +kernel) rfl), (ul_1 (k := 1) (by decide +kernel) rfl), (ul_3 (k := 215) rfl rfl)⟩, by decide +kernel⟩
set_option maxRecDepth 20000 in
theorem mX8_meeting : MV yX8_meeting cX8_meeting 9 (some .int) 4 := ⟨⟨(ul_3 (k := 217) (by decide +kernel) rfl), (ul_3 (k := 218) (by decide +kernel) rfl), (ul_1 (k := 5) (by decide +kernel) rfl), (ul_3 (k := 219) rfl rfl)⟩, by decide +kernel⟩
set_option maxRecDepth 20000 in
theorem mX9_market : MV yX9_market cX9_market 3 (some .int) 0 := ⟨⟨(ul_3 (k := 221) (by decide +kernel) rfl), (ul_3 (k := 222) (by decide +kernel) rfl), (ul_1 (k := 1) (by decide +kernel) rfl), (ul_3 (k := 223) rfl rfl)⟩, by decide +kernel⟩
set_option maxRecDepth 20000 in
theorem mX9_firstNight : MV yX9_firstNight cX9_firstNight 4 (some .int) 1 := ⟨⟨(ul_3 (k := 225) (by decide +kernel) rfl), (ul_3 (k := 226) (by decide +kernel) rfl), (ul_1 (k := 1) (by decide +kernel) rfl), (ul_3 (k := 227) rfl rfl)⟩, by decide +kernel⟩
set_option maxRecDepth 20000 in
theorem mX9_walk : MV yX9_walk cX9_walk 6 (some .int) 4 := ⟨⟨(ul_3 (k := 229) (by decide +kernel) rfl), (ul_3 (k := 230) (by decide +kernel) rfl), (ul_1 (k := 1) (by decide +kernel) rfl), (ul_3 (k := 231) rfl rfl)⟩, by decide +kernel⟩
set_option maxRecDepth 20000 in
theorem mX4_read : MV yX4_read cX4_read 2 (some .boolean) 1 := ⟨⟨(ul_3 (k := 233) (by decide +kernel) rfl), (ul_3 (k := 234) (by decide +kernel) rfl), (ul_1 (k := 7) (by decide +kernel) rfl), (ul_3 (k := 235) rfl rfl)⟩, by decide +kernel⟩
set_option maxRecDepth 20000 in
theorem mX4_readSteps : MV yX4_readSteps cX4_readSteps 5 (some .boolean) 2 := ⟨⟨(ul_3 (k := 238) (by decide +kernel) rfl), (ul_0 (k := 5) (by decide +kernel) rfl), (ul_1 (k := 7) (by decide +kernel) rfl), (ul_3 (k := 239) rfl rfl)⟩, by decide +kernel⟩
set_option maxRecDepth 20000 in
theorem mX4_readRound : MV yX4_readRound cX4_readRound 6 (some .boolean) 2 := ⟨⟨(ul_4 (k := 3) (by decide +kernel) rfl), (ul_0 (k := 6) (by decide +kernel) rfl), (ul_1 (k := 7) (by decide +kernel) rfl), (ul_4 (k := 4) rfl rfl)⟩, by decide +kernel⟩
set_option maxRecDepth 20000 in
theorem mX4_repeat : MV yX4_repeat cX4_repeat 6 (some .boolean) 2 := ⟨⟨(ul_4 (k := 8) (by decide +kernel) rfl), (ul_4 (k := 9) (by decide +kernel) rfl), (ul_1 (k := 7) (by decide +kernel) rfl), (ul_4 (k := 10) rfl rfl)⟩, by decide +kernel⟩
set_option maxRecDepth 20000 in
theorem mX4_readHops : MV yX4_readHops cX4_readHops 8 (some .boolean) 1 := ⟨⟨(ul_4 (k := 12) (by decide +kernel) rfl), (ul_4 (k := 13) (by decide +kernel) rfl), (ul_1 (k := 7) (by decide +kernel) rfl), (ul_4 (k := 14) rfl rfl)⟩, by decide +kernel⟩
set_option maxRecDepth 20000 in
theorem mX4_isHop : MS yX4_isHop cX4_isHop 1 (some .boolean) 1 := ⟨⟨(ul_4 (k := 16) (by decide +kernel) rfl), (ul_1 (k := 7) (by decide +kernel) rfl), (ul_4 (k := 17) rfl rfl)⟩, by decide +kernel⟩
set_option maxRecDepth 20000 in
theorem mX4_go : MV yX4_go cX4_go 8 none 3 := ⟨⟨(ul_4 (k := 21) (by decide +kernel) rfl), (ul_4 (k := 22) (by decide +kernel) rfl), (ul_1 (k := 7) (by decide +kernel) rfl), (ul_4 (k := 23) rfl rfl)⟩, by decide +kernel⟩
set_option maxRecDepth 20000 in
theorem mX4_isFooting : MS yX4_isFooting cX4_isFooting 3 (some .boolean) 3 := ⟨⟨(ul_4 (k := 27) (by decide +kernel) rfl), (ul_1 (k := 7) (by decide +kernel) rfl), (ul_4 (k := 28) rfl rfl)⟩, by decide +kernel⟩
set_option maxRecDepth 20000 in
theorem mX9_chalk : MV yX9_chalk cX9_chalk 3 (some .int) 2 := ⟨⟨(ul_4 (k := 32) (by decide +kernel) rfl), (ul_4 (k := 33) (by decide +kernel) rfl), (ul_1 (k := 1) (by decide +kernel) rfl), (ul_4 (k := 34) rfl rfl)⟩, by decide +kernel⟩
set_option maxRecDepth 20000 in
theorem mX2_countTold : MV yX2_countTold cX2_countTold 3 (some .int) 0 := ⟨⟨(ul_4 (k := 36) (by decide +kernel) rfl), (ul_4 (k := 37) (by decide +kernel) rfl), (ul_1 (k := 2) (by decide +kernel) rfl), (ul_4 (k := 38) rfl rfl)⟩, by decide +kernel⟩
set_option maxRecDepth 20000 in
theorem mX0_read : MV yX0_read cX0_read 4 (some .boolean) 2 := ⟨⟨(ul_4 (k := 40) (by decide +kernel) rfl), (ul_4 (k := 41) (by decide +kernel) rfl), (ul_1 (k := 8) (by decide +kernel) rfl), (ul_4 (k := 42) rfl rfl)⟩, by decide +kernel⟩
set_option maxRecDepth 20000 in
theorem mX7_byteAt : MV yX7_byteAt cX7_byteAt 2 (some .int) 1 := ⟨⟨(ul_4 (k := 44) (by decide +kernel) rfl), (ul_4 (k := 45) (by decide +kernel) rfl), (ul_1 (k := 3) (by decide +kernel) rfl), (ul_4 (k := 46) rfl rfl)⟩, by decide +kernel⟩
set_option maxRecDepth 20000 in
theorem mX0_match : MV yX0_match cX0_match 5 none 2 := ⟨⟨(ul_4 (k := 48) (by decide +kernel) rfl), (ul_4 (k := 49) (by decide +kernel) rfl), (ul_1 (k := 8) (by decide +kernel) rfl), (ul_4 (k := 50) rfl rfl)⟩, by decide +kernel⟩
set_option maxRecDepth 20000 in
theorem mX2_nextTold : MV yX2_nextTold cX2_nextTold 3 (some .int) 1 := ⟨⟨(ul_4 (k := 52) (by decide +kernel) rfl), (ul_4 (k := 53) (by decide +kernel) rfl), (ul_1 (k := 2) (by decide +kernel) rfl), (ul_4 (k := 54) rfl rfl)⟩, by decide +kernel⟩
set_option maxRecDepth 20000 in
theorem mX0_measure : MV yX0_measure cX0_measure 6 none 3 := ⟨⟨(ul_4 (k := 57) (by decide +kernel) rfl), (ul_4 (k := 58) (by decide +kernel) rfl), (ul_1 (k := 8) (by decide +kernel) rfl), (ul_4 (k := 59) rfl rfl)⟩, by decide +kernel⟩
set_option maxRecDepth 20000 in
theorem mX0_fewestBehind : MV yX0_fewestBehind cX0_fewestBehind 6 (some .int) 2 := ⟨⟨(ul_4 (k := 64) (by decide +kernel) rfl), (ul_4 (k := 65) (by decide +kernel) rfl), (ul_1 (k := 8) (by decide +kernel) rfl), (ul_4 (k := 66) rfl rfl)⟩, by decide +kernel⟩
set_option maxRecDepth 20000 in
theorem mJ6_bitCount_0f7a4 : MS yJ6_bitCount_0f7a4 cJ6_bitCount_0f7a4 1 (some .int) 1 := ⟨⟨(ul_4 (k := 68) (by decide +kernel) rfl), (ul_1 (k := 13) (by decide +kernel) rfl), (ul_4 (k := 69) rfl rfl)⟩, by decide +kernel⟩
set_option maxRecDepth 20000 in
theorem mX0_wayWith : MV yX0_wayWith cX0_wayWith 5 (some .int) 3 := ⟨⟨(ul_4 (k := 75) (by decide +kernel) rfl), (ul_4 (k := 76) (by decide +kernel) rfl), (ul_1 (k := 8) (by decide +kernel) rfl), (ul_4 (k := 77) rfl rfl)⟩, by decide +kernel⟩
set_option maxRecDepth 20000 in
theorem mX0_wayInAll : MV yX0_wayInAll cX0_wayInAll 1 (some .int) 0 := ⟨⟨(ul_4 (k := 79) (by decide +kernel) rfl), (ul_4 (k := 80) (by decide +kernel) rfl), (ul_1 (k := 8) (by decide +kernel) rfl), (ul_4 (k := 81) rfl rfl)⟩, by decide +kernel⟩
set_option maxRecDepth 20000 in
theorem mX0_stoneOf : MV yX0_stoneOf cX0_stoneOf 7 (some .int) 2 := ⟨⟨(ul_4 (k := 83) (by decide +kernel) rfl), (ul_4 (k := 84) (by decide +kernel) rfl), (ul_1 (k := 8) (by decide +kernel) rfl), (ul_4 (k := 85) rfl rfl)⟩, by decide +kernel⟩
set_option maxRecDepth 20000 in
theorem mX9_shape : MV yX9_shape cX9_shape 2 (some .int) 1 := ⟨⟨(ul_4 (k := 87) (by decide +kernel) rfl), (ul_4 (k := 88) (by decide +kernel) rfl), (ul_1 (k := 1) (by decide +kernel) rfl), (ul_4 (k := 89) rfl rfl)⟩, by decide +kernel⟩
set_option maxRecDepth 20000 in
theorem mX6_line : MS yX6_line cX6_line 4 (some .int) 1 := ⟨⟨(ul_4 (k := 91) (by decide +kernel) rfl), (ul_1 (k := 14) (by decide +kernel) rfl), (ul_4 (k := 92) rfl rfl)⟩, by decide +kernel⟩
set_option maxRecDepth 20000 in
theorem mX6_countOnLine : MS yX6_countOnLine cX6_countOnLine 7 (some .int) 3 := ⟨⟨(ul_4 (k := 96) (by decide +kernel) rfl), (ul_1 (k := 14) (by decide +kernel) rfl), (ul_4 (k := 97) rfl rfl)⟩, by decide +kernel⟩
set_option maxRecDepth 20000 in
theorem mX6_yardApart : MS yX6_yardApart cX6_yardApart 4 (some .int) 1 := ⟨⟨(ul_4 (k := 101) (by decide +kernel) rfl), (ul_1 (k := 14) (by decide +kernel) rfl), (ul_4 (k := 102) rfl rfl)⟩, by decide +kernel⟩
set_option maxRecDepth 20000 in
theorem mX6_pairs : MS yX6_pairs cX6_pairs 4 (some .int) 1 := ⟨⟨(ul_4 (k := 105) (by decide +kernel) rfl), (ul_1 (k := 14) (by decide +kernel) rfl), (ul_4 (k := 106) rfl rfl)⟩, by decide +kernel⟩
set_option maxRecDepth 20000 in
theorem mX6_nearest : MS yX6_nearest cX6_nearest 4 (some .int) 2 := ⟨⟨(ul_4 (k := 108) (by decide +kernel) rfl), (ul_1 (k := 14) (by decide +kernel) rfl), (ul_4 (k := 109) rfl rfl)⟩, by decide +kernel⟩
set_option maxRecDepth 20000 in
theorem mX6_closest : MS yX6_closest cX6_closest 4 (some .int) 1 := ⟨⟨(ul_4 (k := 112) (by decide +kernel) rfl), (ul_1 (k := 14) (by decide +kernel) rfl), (ul_4 (k := 113) rfl rfl)⟩, by decide +kernel⟩
set_option maxRecDepth 20000 in
theorem mX9_letters : MV yX9_letters cX9_letters 4 (some .int) 2 := ⟨⟨(ul_4 (k := 115) (by decide +kernel) rfl), (ul_4 (k := 116) (by decide +kernel) rfl), (ul_1 (k := 1) (by decide +kernel) rfl), (ul_4 (k := 117) rfl rfl)⟩, by decide +kernel⟩
set_option maxRecDepth 20000 in
theorem mX9_evenBag : MV yX9_evenBag cX9_evenBag 4 (some .int) 1 := ⟨⟨(ul_4 (k := 121) (by decide +kernel) rfl), (ul_0 (k := 7) (by decide +kernel) rfl), (ul_1 (k := 1) (by decide +kernel) rfl), (ul_4 (k := 122) rfl rfl)⟩, by decide +kernel⟩
set_option maxRecDepth 20000 in
theorem mX9_unlike : MV yX9_unlike cX9_unlike 5 (some .int) 2 := ⟨⟨(ul_4 (k := 125) (by decide +kernel) rfl), (ul_0 (k := 8) (by decide +kernel) rfl), (ul_1 (k := 1) (by decide +kernel) rfl), (ul_4 (k := 126) rfl rfl)⟩, by decide +kernel⟩
set_option maxRecDepth 20000 in
theorem mX9_thrown : MV yX9_thrown cX9_thrown 5 (some .int) 1 := ⟨⟨(ul_4 (k := 129) (by decide +kernel) rfl), (ul_4 (k := 130) (by decide +kernel) rfl), (ul_1 (k := 1) (by decide +kernel) rfl), (ul_4 (k := 131) rfl rfl)⟩, by decide +kernel⟩
set_option maxRecDepth 20000 in
theorem mX2_nextDry : MV yX2_nextDry cX2_nextDry 3 (some .int) 1 := ⟨⟨(ul_4 (k := 133) (by decide +kernel) rfl), (ul_4 (k := 134) (by decide +kernel) rfl), (ul_1 (k := 2) (by decide +kernel) rfl), (ul_4 (k := 135) rfl rfl)⟩, by decide +kernel⟩
set_option maxRecDepth 20000 in
theorem mX9_fewestThrows : MS yX9_fewestThrows cX9_fewestThrows 9 (some .int) 5 := ⟨⟨(ul_4 (k := 137) (by decide +kernel) rfl), (ul_1 (k := 1) (by decide +kernel) rfl), (ul_4 (k := 138) rfl rfl)⟩, by decide +kernel⟩
set_option maxRecDepth 20000 in
theorem mX9_seed : MV yX9_seed cX9_seed 2 (some .boolean) 1 := ⟨⟨(ul_4 (k := 144) (by decide +kernel) rfl), (ul_4 (k := 145) (by decide +kernel) rfl), (ul_1 (k := 1) (by decide +kernel) rfl), (ul_4 (k := 146) rfl rfl)⟩, by decide +kernel⟩
set_option maxRecDepth 20000 in
theorem mX9_keep : MV yX9_keep cX9_keep 1 (some .int) 0 := ⟨⟨(ul_4 (k := 149) (by decide +kernel) rfl), (ul_4 (k := 150) (by decide +kernel) rfl), (ul_1 (k := 1) (by decide +kernel) rfl), (ul_4 (k := 151) rfl rfl)⟩, by decide +kernel⟩
set_option maxRecDepth 20000 in
theorem mX9_undo : MV yX9_undo cX9_undo 1 (some .boolean) 0 := ⟨⟨(ul_4 (k := 153) (by decide +kernel) rfl), (ul_4 (k := 154) (by decide +kernel) rfl), (ul_1 (k := 1) (by decide +kernel) rfl), (ul_4 (k := 155) rfl rfl)⟩, by decide +kernel⟩
set_option maxRecDepth 20000 in
theorem mX9_check : MV yX9_check cX9_check 4 (some .int) 1 := ⟨⟨(ul_4 (k := 157) (by decide +kernel) rfl), (ul_4 (k := 158) (by decide +kernel) rfl), (ul_1 (k := 1) (by decide +kernel) rfl), (ul_4 (k := 159) rfl rfl)⟩, by decide +kernel⟩
set_option maxRecDepth 20000 in
theorem mX9_count : MV yX9_count cX9_count 2 (some .int) 1 := ⟨⟨(ul_4 (k := 161) (by decide +kernel) rfl), (ul_4 (k := 162) (by decide +kernel) rfl), (ul_1 (k := 1) (by decide +kernel) rfl), (ul_4 (k := 163) rfl rfl)⟩, by decide +kernel⟩
set_option maxRecDepth 20000 in
theorem mX9_toldPeople : MV yX9_toldPeople cX9_toldPeople 3 (some .int) 0 := ⟨⟨(ul_4 (k := 166) (by decide +kernel) rfl), (ul_0 (k := 9) (by decide +kernel) rfl), (ul_1 (k := 1) (by decide +kernel) rfl), (ul_4 (k := 167) rfl rfl)⟩, by decide +kernel⟩
set_option maxRecDepth 20000 in
theorem mX10_stone : MV yX10_stone cX10_stone 6 (some .boolean) 4 := ⟨⟨(ul_5 (k := 102) (by decide +kernel) rfl), (ul_5 (k := 103) (by decide +kernel) rfl), (ul_1 (k := 10) (by decide +kernel) rfl), (ul_5 (k := 104) rfl rfl)⟩, by decide +kernel⟩
set_option maxRecDepth 20000 in
theorem mX10_in : MS yX10_in cX10_in 3 (some .boolean) 3 := ⟨⟨(ul_5 (k := 106) (by decide +kernel) rfl), (ul_1 (k := 10) (by decide +kernel) rfl), (ul_5 (k := 107) rfl rfl)⟩, by decide +kernel⟩
set_option maxRecDepth 20000 in
theorem mX10_stoneAt : MV yX10_stoneAt cX10_stoneAt 4 (some .int) 2 := ⟨⟨(ul_5 (k := 110) (by decide +kernel) rfl), (ul_0 (k := 10) (by decide +kernel) rfl), (ul_1 (k := 10) (by decide +kernel) rfl), (ul_5 (k := 111) rfl rfl)⟩, by decide +kernel⟩
set_option maxRecDepth 20000 in
theorem mX10_laysStone : MV yX10_laysStone cX10_laysStone 6 none 5 := ⟨⟨(ul_5 (k := 114) (by decide +kernel) rfl), (ul_0 (k := 11) (by decide +kernel) rfl), (ul_1 (k := 10) (by decide +kernel) rfl), (ul_5 (k := 115) rfl rfl)⟩, by decide +kernel⟩
set_option maxRecDepth 20000 in
theorem mX10_take : MV yX10_take cX10_take 2 (some .boolean) 1 := ⟨⟨(ul_5 (k := 117) (by decide +kernel) rfl), (ul_5 (k := 118) (by decide +kernel) rfl), (ul_1 (k := 10) (by decide +kernel) rfl), (ul_5 (k := 119) rfl rfl)⟩, by decide +kernel⟩
set_option maxRecDepth 20000 in
theorem mX10_isStone : MV yX10_isStone cX10_isStone 2 (some .boolean) 1 := ⟨⟨(ul_5 (k := 122) (by decide +kernel) rfl), (ul_0 (k := 12) (by decide +kernel) rfl), (ul_1 (k := 10) (by decide +kernel) rfl), (ul_5 (k := 123) rfl rfl)⟩, by decide +kernel⟩
set_option maxRecDepth 20000 in
theorem mX10_under : MV yX10_under cX10_under 3 (some .boolean) 2 := ⟨⟨(ul_5 (k := 125) (by decide +kernel) rfl), (ul_5 (k := 126) (by decide +kernel) rfl), (ul_1 (k := 10) (by decide +kernel) rfl), (ul_5 (k := 127) rfl rfl)⟩, by decide +kernel⟩
set_option maxRecDepth 20000 in
theorem mX10_person : MV yX10_person cX10_person 3 (some .boolean) 2 := ⟨⟨(ul_5 (k := 129) (by decide +kernel) rfl), (ul_5 (k := 130) (by decide +kernel) rfl), (ul_1 (k := 10) (by decide +kernel) rfl), (ul_5 (k := 131) rfl rfl)⟩, by decide +kernel⟩
set_option maxRecDepth 20000 in
theorem mX10_feed : MV yX10_feed cX10_feed 6 (some .int) 5 := ⟨⟨(ul_5 (k := 133) (by decide +kernel) rfl), (ul_5 (k := 134) (by decide +kernel) rfl), (ul_1 (k := 10) (by decide +kernel) rfl), (ul_5 (k := 135) rfl rfl)⟩, by decide +kernel⟩
set_option maxRecDepth 20000 in
theorem mX10_types : MV yX10_types cX10_types 3 none 1 := ⟨⟨(ul_5 (k := 138) (by decide +kernel) rfl), (ul_0 (k := 13) (by decide +kernel) rfl), (ul_1 (k := 10) (by decide +kernel) rfl), (ul_5 (k := 139) rfl rfl)⟩, by decide +kernel⟩
set_option maxRecDepth 20000 in
theorem mX10_law : MV yX10_law cX10_law 4 (some .int) 1 := ⟨⟨(ul_5 (k := 141) (by decide +kernel) rfl), (ul_5 (k := 142) (by decide +kernel) rfl), (ul_1 (k := 10) (by decide +kernel) rfl), (ul_5 (k := 143) rfl rfl)⟩, by decide +kernel⟩
set_option maxRecDepth 20000 in
theorem mX10_beginsText : MV yX10_beginsText cX10_beginsText 2 none 1 := ⟨⟨(ul_5 (k := 146) (by decide +kernel) rfl), (ul_0 (k := 14) (by decide +kernel) rfl), (ul_1 (k := 10) (by decide +kernel) rfl), (ul_5 (k := 147) rfl rfl)⟩, by decide +kernel⟩
set_option maxRecDepth 20000 in
theorem mX10_readsRule : MV yX10_readsRule cX10_readsRule 2 (some .boolean) 0 := ⟨⟨(ul_5 (k := 150) (by decide +kernel) rfl), (ul_0 (k := 15) (by decide +kernel) rfl), (ul_1 (k := 10) (by decide +kernel) rfl), (ul_5 (k := 151) rfl rfl)⟩, by decide +kernel⟩
set_option maxRecDepth 20000 in
theorem mX10_here : MV yX10_here cX10_here 1 (some .int) 0 := ⟨⟨(ul_5 (k := 154) (by decide +kernel) rfl), (ul_0 (k := 16) (by decide +kernel) rfl), (ul_1 (k := 10) (by decide +kernel) rfl), (ul_5 (k := 155) rfl rfl)⟩, by decide +kernel⟩
set_option maxRecDepth 20000 in
theorem mX10_wrongAt : MV yX10_wrongAt cX10_wrongAt 3 (some .boolean) 2 := ⟨⟨(ul_5 (k := 158) (by decide +kernel) rfl), (ul_0 (k := 17) (by decide +kernel) rfl), (ul_1 (k := 10) (by decide +kernel) rfl), (ul_5 (k := 159) rfl rfl)⟩, by decide +kernel⟩
set_option maxRecDepth 20000 in
theorem mX10_readsSum : MV yX10_readsSum cX10_readsSum 3 (some .boolean) 0 := ⟨⟨(ul_5 (k := 162) (by decide +kernel) rfl), (ul_0 (k := 18) (by decide +kernel) rfl), (ul_1 (k := 10) (by decide +kernel) rfl), (ul_5 (k := 163) rfl rfl)⟩, by decide +kernel⟩
set_option maxRecDepth 20000 in
theorem mX10_readsFactor : MV yX10_readsFactor cX10_readsFactor 2 (some .boolean) 0 := ⟨⟨(ul_5 (k := 166) (by decide +kernel) rfl), (ul_0 (k := 19) (by decide +kernel) rfl), (ul_1 (k := 10) (by decide +kernel) rfl), (ul_5 (k := 167) rfl rfl)⟩, by decide +kernel⟩
set_option maxRecDepth 20000 in
theorem mX10_opens : MV yX10_opens cX10_opens 2 (some .boolean) 1 := ⟨⟨(ul_5 (k := 170) (by decide +kernel) rfl), (ul_0 (k := 20) (by decide +kernel) rfl), (ul_1 (k := 10) (by decide +kernel) rfl), (ul_5 (k := 171) rfl rfl)⟩, by decide +kernel⟩
set_option maxRecDepth 20000 in
theorem mX10_isDigit : MV yX10_isDigit cX10_isDigit 1 (some .boolean) 0 := ⟨⟨(ul_5 (k := 175) (by decide +kernel) rfl), (ul_0 (k := 21) (by decide +kernel) rfl), (ul_1 (k := 10) (by decide +kernel) rfl), (ul_5 (k := 176) rfl rfl)⟩, by decide +kernel⟩
set_option maxRecDepth 20000 in
theorem mX10_readsNumber : MV yX10_readsNumber cX10_readsNumber 2 (some .boolean) 0 := ⟨⟨(ul_5 (k := 179) (by decide +kernel) rfl), (ul_0 (k := 22) (by decide +kernel) rfl), (ul_1 (k := 10) (by decide +kernel) rfl), (ul_5 (k := 180) rfl rfl)⟩, by decide +kernel⟩
set_option maxRecDepth 20000 in
theorem mX10_notes : MV yX10_notes cX10_notes 3 none 2 := ⟨⟨(ul_5 (k := 183) (by decide +kernel) rfl), (ul_0 (k := 23) (by decide +kernel) rfl), (ul_1 (k := 10) (by decide +kernel) rfl), (ul_5 (k := 184) rfl rfl)⟩, by decide +kernel⟩
set_option maxRecDepth 20000 in
theorem mX10_factOf : MS yX10_factOf cX10_factOf 1 (some .int) 1 := ⟨⟨(ul_5 (k := 186) (by decide +kernel) rfl), (ul_1 (k := 10) (by decide +kernel) rfl), (ul_5 (k := 187) rfl rfl)⟩, by decide +kernel⟩
set_option maxRecDepth 20000 in
theorem mX10_sumSign : MS yX10_sumSign cX10_sumSign 1 (some .int) 1 := ⟨⟨(ul_5 (k := 189) (by decide +kernel) rfl), (ul_1 (k := 10) (by decide +kernel) rfl), (ul_5 (k := 190) rfl rfl)⟩, by decide +kernel⟩
set_option maxRecDepth 20000 in
theorem mX10_closesSums : MV yX10_closesSums cX10_closesSums 2 none 1 := ⟨⟨(ul_5 (k := 193) (by decide +kernel) rfl), (ul_0 (k := 24) (by decide +kernel) rfl), (ul_1 (k := 10) (by decide +kernel) rfl), (ul_5 (k := 194) rfl rfl)⟩, by decide +kernel⟩
set_option maxRecDepth 20000 in
theorem mX10_waitTop : MV yX10_waitTop cX10_waitTop 1 (some .int) 0 := ⟨⟨(ul_5 (k := 197) (by decide +kernel) rfl), (ul_0 (k := 25) (by decide +kernel) rfl), (ul_1 (k := 10) (by decide +kernel) rfl), (ul_5 (k := 198) rfl rfl)⟩, by decide +kernel⟩
set_option maxRecDepth 20000 in
theorem mX10_hasOpenSum : MV yX10_hasOpenSum cX10_hasOpenSum 3 (some .boolean) 1 := ⟨⟨(ul_5 (k := 201) (by decide +kernel) rfl), (ul_0 (k := 26) (by decide +kernel) rfl), (ul_1 (k := 10) (by decide +kernel) rfl), (ul_5 (k := 202) rfl rfl)⟩, by decide +kernel⟩
set_option maxRecDepth 20000 in
theorem mX10_readsCondition : MV yX10_readsCondition cX10_readsCondition 1 (some .boolean) 0 := ⟨⟨(ul_5 (k := 205) (by decide +kernel) rfl), (ul_0 (k := 27) (by decide +kernel) rfl), (ul_1 (k := 10) (by decide +kernel) rfl), (ul_5 (k := 206) rfl rfl)⟩, by decide +kernel⟩
set_option maxRecDepth 20000 in
theorem mX10_readsCompared : MV yX10_readsCompared cX10_readsCompared 2 (some .boolean) 0 := ⟨⟨(ul_5 (k := 209) (by decide +kernel) rfl), (ul_0 (k := 28) (by decide +kernel) rfl), (ul_1 (k := 10) (by decide +kernel) rfl), (ul_5 (k := 210) rfl rfl)⟩, by decide +kernel⟩
set_option maxRecDepth 20000 in
theorem mX10_endsPiece : MV yX10_endsPiece cX10_endsPiece 1 none 0 := ⟨⟨(ul_5 (k := 213) (by decide +kernel) rfl), (ul_0 (k := 29) (by decide +kernel) rfl), (ul_1 (k := 10) (by decide +kernel) rfl), (ul_5 (k := 214) rfl rfl)⟩, by decide +kernel⟩
set_option maxRecDepth 20000 in
theorem mX10_lands : MV yX10_lands cX10_lands 3 none 1 := ⟨⟨(ul_5 (k := 217) (by decide +kernel) rfl), (ul_0 (k := 30) (by decide +kernel) rfl), (ul_1 (k := 10) (by decide +kernel) rfl), (ul_5 (k := 218) rfl rfl)⟩, by decide +kernel⟩
set_option maxRecDepth 20000 in
theorem mX10_jumps : MV yX10_jumps cX10_jumps 2 none 1 := ⟨⟨(ul_5 (k := 221) (by decide +kernel) rfl), (ul_0 (k := 31) (by decide +kernel) rfl), (ul_1 (k := 10) (by decide +kernel) rfl), (ul_5 (k := 222) rfl rfl)⟩, by decide +kernel⟩
set_option maxRecDepth 20000 in
theorem mX10_takesSign : MV yX10_takesSign cX10_takesSign 2 (some .boolean) 1 := ⟨⟨(ul_5 (k := 225) (by decide +kernel) rfl), (ul_0 (k := 32) (by decide +kernel) rfl), (ul_1 (k := 10) (by decide +kernel) rfl), (ul_5 (k := 226) rfl rfl)⟩, by decide +kernel⟩
set_option maxRecDepth 20000 in
theorem mX10_notebook : MV yX10_notebook cX10_notebook 4 (some .int) 1 := ⟨⟨(ul_5 (k := 228) (by decide +kernel) rfl), (ul_5 (k := 229) (by decide +kernel) rfl), (ul_1 (k := 10) (by decide +kernel) rfl), (ul_5 (k := 230) rfl rfl)⟩, by decide +kernel⟩
set_option maxRecDepth 20000 in
theorem mX10_readsLine : MV yX10_readsLine cX10_readsLine 3 (some .boolean) 0 := ⟨⟨(ul_5 (k := 233) (by decide +kernel) rfl), (ul_0 (k := 33) (by decide +kernel) rfl), (ul_1 (k := 10) (by decide +kernel) rfl), (ul_5 (k := 234) rfl rfl)⟩, by decide +kernel⟩
set_option maxRecDepth 20000 in
theorem mX10_readsBetween : MV yX10_readsBetween cX10_readsBetween 4 (some .boolean) 2 := ⟨⟨(ul_5 (k := 237) (by decide +kernel) rfl), (ul_0 (k := 34) (by decide +kernel) rfl), (ul_1 (k := 10) (by decide +kernel) rfl), (ul_5 (k := 238) rfl rfl)⟩, by decide +kernel⟩
set_option maxRecDepth 20000 in
theorem mX10_readsAmount : MV yX10_readsAmount cX10_readsAmount 2 (some .boolean) 0 := ⟨⟨(ul_6 (k := 1) (by decide +kernel) rfl), (ul_0 (k := 35) (by decide +kernel) rfl), (ul_1 (k := 10) (by decide +kernel) rfl), (ul_6 (k := 2) rfl rfl)⟩, by decide +kernel⟩
set_option maxRecDepth 20000 in
theorem mX10_nights : MV yX10_nights cX10_nights 2 (some .int) 1 := ⟨⟨(ul_6 (k := 4) (by decide +kernel) rfl), (ul_6 (k := 5) (by decide +kernel) rfl), (ul_1 (k := 10) (by decide +kernel) rfl), (ul_6 (k := 6) rfl rfl)⟩, by decide +kernel⟩
set_option maxRecDepth 20000 in
theorem mX10_nightsGo : MV yX10_nightsGo cX10_nightsGo 3 none 1 := ⟨⟨(ul_6 (k := 9) (by decide +kernel) rfl), (ul_0 (k := 36) (by decide +kernel) rfl), (ul_1 (k := 10) (by decide +kernel) rfl), (ul_6 (k := 10) rfl rfl)⟩, by decide +kernel⟩
set_option maxRecDepth 20000 in
theorem mX10_nightGoes : MV yX10_nightGoes cX10_nightGoes 2 none 0 := ⟨⟨(ul_6 (k := 13) (by decide +kernel) rfl), (ul_0 (k := 37) (by decide +kernel) rfl), (ul_1 (k := 10) (by decide +kernel) rfl), (ul_6 (k := 14) rfl rfl)⟩, by decide +kernel⟩
set_option maxRecDepth 20000 in
theorem mX10_moves : MV yX10_moves cX10_moves 6 none 1 := ⟨⟨(ul_6 (k := 17) (by decide +kernel) rfl), (ul_0 (k := 38) (by decide +kernel) rfl), (ul_1 (k := 10) (by decide +kernel) rfl), (ul_6 (k := 18) rfl rfl)⟩, by decide +kernel⟩
set_option maxRecDepth 20000 in
theorem mX10_feels : MV yX10_feels cX10_feels 3 none 2 := ⟨⟨(ul_6 (k := 22) (by decide +kernel) rfl), (ul_0 (k := 39) (by decide +kernel) rfl), (ul_1 (k := 10) (by decide +kernel) rfl), (ul_6 (k := 23) rfl rfl)⟩, by decide +kernel⟩
set_option maxRecDepth 20000 in
theorem mX10_nearTo : MV yX10_nearTo cX10_nearTo 4 (some .int) 1 := ⟨⟨(ul_6 (k := 26) (by decide +kernel) rfl), (ul_0 (k := 40) (by decide +kernel) rfl), (ul_1 (k := 10) (by decide +kernel) rfl), (ul_6 (k := 27) rfl rfl)⟩, by decide +kernel⟩
set_option maxRecDepth 20000 in
theorem mX10_apart : MV yX10_apart cX10_apart 5 (some .int) 2 := ⟨⟨(ul_6 (k := 30) (by decide +kernel) rfl), (ul_0 (k := 41) (by decide +kernel) rfl), (ul_1 (k := 10) (by decide +kernel) rfl), (ul_6 (k := 31) rfl rfl)⟩, by decide +kernel⟩
set_option maxRecDepth 20000 in
theorem mX10_byLaw : MV yX10_byLaw cX10_byLaw 5 (some .int) 2 := ⟨⟨(ul_6 (k := 34) (by decide +kernel) rfl), (ul_0 (k := 42) (by decide +kernel) rfl), (ul_1 (k := 10) (by decide +kernel) rfl), (ul_6 (k := 35) rfl rfl)⟩, by decide +kernel⟩
set_option maxRecDepth 20000 in
theorem mX10_comesTo : MV yX10_comesTo cX10_comesTo 8 (some .int) 2 := ⟨⟨(ul_6 (k := 38) (by decide +kernel) rfl), (ul_0 (k := 43) (by decide +kernel) rfl), (ul_1 (k := 10) (by decide +kernel) rfl), (ul_6 (k := 39) rfl rfl)⟩, by decide +kernel⟩
set_option maxRecDepth 20000 in
theorem mX10_reckon : MS yX10_reckon cX10_reckon 3 (some .int) 3 := ⟨⟨(ul_6 (k := 41) (by decide +kernel) rfl), (ul_1 (k := 10) (by decide +kernel) rfl), (ul_6 (k := 42) rfl rfl)⟩, by decide +kernel⟩
set_option maxRecDepth 20000 in
theorem mX10_bounded : MS yX10_bounded cX10_bounded 3 (some .int) 3 := ⟨⟨(ul_6 (k := 44) (by decide +kernel) rfl), (ul_1 (k := 10) (by decide +kernel) rfl), (ul_6 (k := 45) rfl rfl)⟩, by decide +kernel⟩
set_option maxRecDepth 20000 in
theorem mX10_min : MS yX10_min cX10_min 2 (some .int) 2 := ⟨⟨(ul_6 (k := 47) (by decide +kernel) rfl), (ul_1 (k := 10) (by decide +kernel) rfl), (ul_6 (k := 48) rfl rfl)⟩, by decide +kernel⟩
set_option maxRecDepth 20000 in
theorem mX10_max : MS yX10_max cX10_max 2 (some .int) 2 := ⟨⟨(ul_6 (k := 50) (by decide +kernel) rfl), (ul_1 (k := 10) (by decide +kernel) rfl), (ul_6 (k := 51) rfl rfl)⟩, by decide +kernel⟩
set_option maxRecDepth 20000 in
theorem mX10_holdsAny : MV yX10_holdsAny cX10_holdsAny 3 (some .boolean) 1 := ⟨⟨(ul_6 (k := 54) (by decide +kernel) rfl), (ul_0 (k := 44) (by decide +kernel) rfl), (ul_1 (k := 10) (by decide +kernel) rfl), (ul_6 (k := 55) rfl rfl)⟩, by decide +kernel⟩
set_option maxRecDepth 20000 in
theorem mX10_tried : MV yX10_tried cX10_tried 5 (some .int) 2 := ⟨⟨(ul_6 (k := 57) (by decide +kernel) rfl), (ul_6 (k := 58) (by decide +kernel) rfl), (ul_1 (k := 10) (by decide +kernel) rfl), (ul_6 (k := 59) rfl rfl)⟩, by decide +kernel⟩
set_option maxRecDepth 20000 in
theorem mX10_sumOf : MV yX10_sumOf cX10_sumOf 4 (some .int) 1 := ⟨⟨(ul_6 (k := 63) (by decide +kernel) rfl), (ul_0 (k := 45) (by decide +kernel) rfl), (ul_1 (k := 10) (by decide +kernel) rfl), (ul_6 (k := 64) rfl rfl)⟩, by decide +kernel⟩
set_option maxRecDepth 20000 in
theorem mX10_copies : MS yX10_copies cX10_copies 3 none 2 := ⟨⟨(ul_6 (k := 66) (by decide +kernel) rfl), (ul_1 (k := 10) (by decide +kernel) rfl), (ul_6 (k := 67) rfl rfl)⟩, by decide +kernel⟩
set_option maxRecDepth 20000 in
theorem mX10_stoneIs : MV yX10_stoneIs cX10_stoneIs 3 (some .int) 2 := ⟨⟨(ul_6 (k := 69) (by decide +kernel) rfl), (ul_6 (k := 70) (by decide +kernel) rfl), (ul_1 (k := 10) (by decide +kernel) rfl), (ul_6 (k := 71) rfl rfl)⟩, by decide +kernel⟩
set_option maxRecDepth 20000 in
theorem mX10_at : MV yX10_at cX10_at 4 (some .int) 2 := ⟨⟨(ul_6 (k := 73) (by decide +kernel) rfl), (ul_6 (k := 74) (by decide +kernel) rfl), (ul_1 (k := 10) (by decide +kernel) rfl), (ul_6 (k := 75) rfl rfl)⟩, by decide +kernel⟩
set_option maxRecDepth 20000 in
theorem mX10_cross : MV yX10_cross cX10_cross 8 (some .int) 2 := ⟨⟨(ul_6 (k := 77) (by decide +kernel) rfl), (ul_6 (k := 78) (by decide +kernel) rfl), (ul_1 (k := 10) (by decide +kernel) rfl), (ul_6 (k := 79) rfl rfl)⟩, by decide +kernel⟩
set_option maxRecDepth 20000 in
theorem mX10_isPerson : MV yX10_isPerson cX10_isPerson 2 (some .boolean) 1 := ⟨⟨(ul_6 (k := 82) (by decide +kernel) rfl), (ul_0 (k := 46) (by decide +kernel) rfl), (ul_1 (k := 10) (by decide +kernel) rfl), (ul_6 (k := 83) rfl rfl)⟩, by decide +kernel⟩
set_option maxRecDepth 20000 in
theorem mX10_has : MS yX10_has cX10_has 2 (some .boolean) 2 := ⟨⟨(ul_6 (k := 85) (by decide +kernel) rfl), (ul_1 (k := 10) (by decide +kernel) rfl), (ul_6 (k := 86) rfl rfl)⟩, by decide +kernel⟩
set_option maxRecDepth 20000 in
theorem mX10_crossing : MV yX10_crossing cX10_crossing 4 (some .int) 1 := ⟨⟨(ul_6 (k := 89) (by decide +kernel) rfl), (ul_0 (k := 47) (by decide +kernel) rfl), (ul_1 (k := 10) (by decide +kernel) rfl), (ul_6 (k := 90) rfl rfl)⟩, by decide +kernel⟩
set_option maxRecDepth 20000 in
theorem mX10_laysSteps : MV yX10_laysSteps cX10_laysSteps 8 none 3 := ⟨⟨(ul_6 (k := 93) (by decide +kernel) rfl), (ul_0 (k := 48) (by decide +kernel) rfl), (ul_1 (k := 10) (by decide +kernel) rfl), (ul_6 (k := 94) rfl rfl)⟩, by decide +kernel⟩
set_option maxRecDepth 20000 in
theorem mX10_isByBank : MV yX10_isByBank cX10_isByBank 5 (some .boolean) 3 := ⟨⟨(ul_6 (k := 97) (by decide +kernel) rfl), (ul_0 (k := 49) (by decide +kernel) rfl), (ul_1 (k := 10) (by decide +kernel) rfl), (ul_6 (k := 98) rfl rfl)⟩, by decide +kernel⟩
set_option maxRecDepth 20000 in
theorem mX10_isDry : MV yX10_isDry cX10_isDry 2 (some .boolean) 1 := ⟨⟨(ul_6 (k := 101) (by decide +kernel) rfl), (ul_0 (k := 50) (by decide +kernel) rfl), (ul_1 (k := 10) (by decide +kernel) rfl), (ul_6 (k := 102) rfl rfl)⟩, by decide +kernel⟩
set_option maxRecDepth 20000 in
theorem mX10_canStep : MV yX10_canStep cX10_canStep 4 (some .boolean) 3 := ⟨⟨(ul_6 (k := 105) (by decide +kernel) rfl), (ul_0 (k := 51) (by decide +kernel) rfl), (ul_1 (k := 10) (by decide +kernel) rfl), (ul_6 (k := 106) rfl rfl)⟩, by decide +kernel⟩
set_option maxRecDepth 20000 in
theorem mX10_laysRows : MV yX10_laysRows cX10_laysRows 5 none 1 := ⟨⟨(ul_6 (k := 109) (by decide +kernel) rfl), (ul_0 (k := 52) (by decide +kernel) rfl), (ul_1 (k := 10) (by decide +kernel) rfl), (ul_6 (k := 110) rfl rfl)⟩, by decide +kernel⟩
set_option maxRecDepth 20000 in
theorem mX10_driest : MV yX10_driest cX10_driest 4 (some .int) 2 := ⟨⟨(ul_6 (k := 113) (by decide +kernel) rfl), (ul_6 (k := 114) (by decide +kernel) rfl), (ul_1 (k := 10) (by decide +kernel) rfl), (ul_6 (k := 115) rfl rfl)⟩, by decide +kernel⟩
set_option maxRecDepth 20000 in
theorem mX10_dryCost : MV yX10_dryCost cX10_dryCost 6 (some .int) 1 := ⟨⟨(ul_6 (k := 118) (by decide +kernel) rfl), (ul_0 (k := 53) (by decide +kernel) rfl), (ul_1 (k := 10) (by decide +kernel) rfl), (ul_6 (k := 119) rfl rfl)⟩, by decide +kernel⟩
set_option maxRecDepth 20000 in
theorem mX10_leastStride : MV yX10_leastStride cX10_leastStride 2 (some .int) 0 := ⟨⟨(ul_6 (k := 122) (by decide +kernel) rfl), (ul_6 (k := 123) (by decide +kernel) rfl), (ul_1 (k := 10) (by decide +kernel) rfl), (ul_6 (k := 124) rfl rfl)⟩, by decide +kernel⟩
set_option maxRecDepth 20000 in
theorem mX10_howFar : MV yX10_howFar cX10_howFar 4 (some .int) 1 := ⟨⟨(ul_6 (k := 126) (by decide +kernel) rfl), (ul_6 (k := 127) (by decide +kernel) rfl), (ul_1 (k := 10) (by decide +kernel) rfl), (ul_6 (k := 128) rfl rfl)⟩, by decide +kernel⟩
set_option maxRecDepth 20000 in
theorem mX10_hold : MV yX10_hold cX10_hold 3 (some .int) 1 := ⟨⟨(ul_6 (k := 130) (by decide +kernel) rfl), (ul_6 (k := 131) (by decide +kernel) rfl), (ul_1 (k := 10) (by decide +kernel) rfl), (ul_6 (k := 132) rfl rfl)⟩, by decide +kernel⟩
set_option maxRecDepth 20000 in
theorem mX10_laysRoom : MV yX10_laysRoom cX10_laysRoom 4 none 1 := ⟨⟨(ul_6 (k := 135) (by decide +kernel) rfl), (ul_0 (k := 54) (by decide +kernel) rfl), (ul_1 (k := 10) (by decide +kernel) rfl), (ul_6 (k := 136) rfl rfl)⟩, by decide +kernel⟩
set_option maxRecDepth 20000 in
theorem mX10_goesAcross : MV yX10_goesAcross cX10_goesAcross 4 (some .boolean) 0 := ⟨⟨(ul_6 (k := 139) (by decide +kernel) rfl), (ul_0 (k := 55) (by decide +kernel) rfl), (ul_1 (k := 10) (by decide +kernel) rfl), (ul_6 (k := 140) rfl rfl)⟩, by decide +kernel⟩
set_option maxRecDepth 20000 in
theorem mX10_oneMore : MV yX10_oneMore cX10_oneMore 6 (some .int) 2 := ⟨⟨(ul_6 (k := 142) (by decide +kernel) rfl), (ul_6 (k := 143) (by decide +kernel) rfl), (ul_1 (k := 10) (by decide +kernel) rfl), (ul_6 (k := 144) rfl rfl)⟩, by decide +kernel⟩
set_option maxRecDepth 20000 in
theorem mX10_wouldDo : MV yX10_wouldDo cX10_wouldDo 9 (some .boolean) 3 := ⟨⟨(ul_6 (k := 147) (by decide +kernel) rfl), (ul_0 (k := 56) (by decide +kernel) rfl), (ul_1 (k := 10) (by decide +kernel) rfl), (ul_6 (k := 148) rfl rfl)⟩, by decide +kernel⟩
set_option maxRecDepth 20000 in
theorem mX10_islands : MV yX10_islands cX10_islands 6 (some .int) 2 := ⟨⟨(ul_6 (k := 150) (by decide +kernel) rfl), (ul_6 (k := 151) (by decide +kernel) rfl), (ul_1 (k := 10) (by decide +kernel) rfl), (ul_6 (k := 152) rfl rfl)⟩, by decide +kernel⟩
set_option maxRecDepth 20000 in
theorem mX10_laysIslands : MV yX10_laysIslands cX10_laysIslands 7 (some .int) 1 := ⟨⟨(ul_6 (k := 155) (by decide +kernel) rfl), (ul_0 (k := 57) (by decide +kernel) rfl), (ul_1 (k := 10) (by decide +kernel) rfl), (ul_6 (k := 156) rfl rfl)⟩, by decide +kernel⟩
set_option maxRecDepth 20000 in
theorem mX10_key : MV yX10_key cX10_key 8 (some .int) 2 := ⟨⟨(ul_6 (k := 158) (by decide +kernel) rfl), (ul_6 (k := 159) (by decide +kernel) rfl), (ul_1 (k := 10) (by decide +kernel) rfl), (ul_6 (k := 160) rfl rfl)⟩, by decide +kernel⟩
set_option maxRecDepth 20000 in
theorem mX10_meet : MV yX10_meet cX10_meet 8 (some .int) 3 := ⟨⟨(ul_6 (k := 162) (by decide +kernel) rfl), (ul_6 (k := 163) (by decide +kernel) rfl), (ul_1 (k := 10) (by decide +kernel) rfl), (ul_6 (k := 164) rfl rfl)⟩, by decide +kernel⟩
set_option maxRecDepth 20000 in
theorem mX10_market : MV yX10_market cX10_market 3 (some .int) 0 := ⟨⟨(ul_6 (k := 166) (by decide +kernel) rfl), (ul_6 (k := 167) (by decide +kernel) rfl), (ul_1 (k := 10) (by decide +kernel) rfl), (ul_6 (k := 168) rfl rfl)⟩, by decide +kernel⟩
set_option maxRecDepth 20000 in
theorem mX10_firstNight : MV yX10_firstNight cX10_firstNight 4 (some .int) 1 := ⟨⟨(ul_6 (k := 170) (by decide +kernel) rfl), (ul_6 (k := 171) (by decide +kernel) rfl), (ul_1 (k := 10) (by decide +kernel) rfl), (ul_6 (k := 172) rfl rfl)⟩, by decide +kernel⟩
set_option maxRecDepth 20000 in
theorem mX10_walk : MV yX10_walk cX10_walk 15 (some .int) 4 := ⟨⟨(ul_6 (k := 174) (by decide +kernel) rfl), (ul_6 (k := 175) (by decide +kernel) rfl), (ul_1 (k := 10) (by decide +kernel) rfl), (ul_6 (k := 176) rfl rfl)⟩, by decide +kernel⟩
set_option maxRecDepth 20000 in
theorem mX10_readsWalk : MV yX10_readsWalk cX10_readsWalk 2 (some .boolean) 0 := ⟨⟨(ul_6 (k := 179) (by decide +kernel) rfl), (ul_0 (k := 58) (by decide +kernel) rfl), (ul_1 (k := 10) (by decide +kernel) rfl), (ul_6 (k := 180) rfl rfl)⟩, by decide +kernel⟩
set_option maxRecDepth 20000 in
theorem mX10_readsHops : MV yX10_readsHops cX10_readsHops 6 (some .boolean) 0 := ⟨⟨(ul_6 (k := 183) (by decide +kernel) rfl), (ul_0 (k := 59) (by decide +kernel) rfl), (ul_1 (k := 10) (by decide +kernel) rfl), (ul_6 (k := 184) rfl rfl)⟩, by decide +kernel⟩
set_option maxRecDepth 20000 in
theorem mX10_endsRound : MV yX10_endsRound cX10_endsRound 4 (some .boolean) 0 := ⟨⟨(ul_6 (k := 187) (by decide +kernel) rfl), (ul_0 (k := 60) (by decide +kernel) rfl), (ul_1 (k := 10) (by decide +kernel) rfl), (ul_6 (k := 188) rfl rfl)⟩, by decide +kernel⟩
set_option maxRecDepth 20000 in
theorem mX10_chalk : MV yX10_chalk cX10_chalk 7 (some .int) 2 := ⟨⟨(ul_6 (k := 190) (by decide +kernel) rfl), (ul_6 (k := 191) (by decide +kernel) rfl), (ul_1 (k := 10) (by decide +kernel) rfl), (ul_6 (k := 192) rfl rfl)⟩, by decide +kernel⟩
set_option maxRecDepth 20000 in
theorem mX10_listsStones : MV yX10_listsStones cX10_listsStones 5 (some .boolean) 2 := ⟨⟨(ul_6 (k := 195) (by decide +kernel) rfl), (ul_0 (k := 61) (by decide +kernel) rfl), (ul_1 (k := 10) (by decide +kernel) rfl), (ul_6 (k := 196) rfl rfl)⟩, by decide +kernel⟩
set_option maxRecDepth 20000 in
theorem mX10_octet : MV yX10_octet cX10_octet 2 (some .int) 1 := ⟨⟨(ul_6 (k := 199) (by decide +kernel) rfl), (ul_0 (k := 62) (by decide +kernel) rfl), (ul_1 (k := 10) (by decide +kernel) rfl), (ul_6 (k := 200) rfl rfl)⟩, by decide +kernel⟩
set_option maxRecDepth 20000 in
theorem mX10_beginsRows : MV yX10_beginsRows cX10_beginsRows 3 none 1 := ⟨⟨(ul_6 (k := 203) (by decide +kernel) rfl), (ul_0 (k := 63) (by decide +kernel) rfl), (ul_1 (k := 10) (by decide +kernel) rfl), (ul_6 (k := 204) rfl rfl)⟩, by decide +kernel⟩
set_option maxRecDepth 20000 in
theorem mX10_chalkOff : MV yX10_chalkOff cX10_chalkOff 5 (some .int) 1 := ⟨⟨(ul_6 (k := 207) (by decide +kernel) rfl), (ul_0 (k := 64) (by decide +kernel) rfl), (ul_1 (k := 10) (by decide +kernel) rfl), (ul_6 (k := 208) rfl rfl)⟩, by decide +kernel⟩
set_option maxRecDepth 20000 in
theorem mX10_size : MS yX10_size cX10_size 1 (some .int) 1 := ⟨⟨(ul_6 (k := 210) (by decide +kernel) rfl), (ul_1 (k := 10) (by decide +kernel) rfl), (ul_6 (k := 211) rfl rfl)⟩, by decide +kernel⟩
set_option maxRecDepth 20000 in
theorem mX10_nextRow : MV yX10_nextRow cX10_nextRow 7 (some .boolean) 2 := ⟨⟨(ul_6 (k := 214) (by decide +kernel) rfl), (ul_0 (k := 65) (by decide +kernel) rfl), (ul_1 (k := 10) (by decide +kernel) rfl), (ul_6 (k := 215) rfl rfl)⟩, by decide +kernel⟩
set_option maxRecDepth 20000 in
theorem mX10_changes : MV yX10_changes cX10_changes 4 none 2 := ⟨⟨(ul_6 (k := 218) (by decide +kernel) rfl), (ul_0 (k := 66) (by decide +kernel) rfl), (ul_1 (k := 10) (by decide +kernel) rfl), (ul_6 (k := 219) rfl rfl)⟩, by decide +kernel⟩
set_option maxRecDepth 20000 in
theorem mX10_shape : MV yX10_shape cX10_shape 2 (some .int) 1 := ⟨⟨(ul_6 (k := 221) (by decide +kernel) rfl), (ul_6 (k := 222) (by decide +kernel) rfl), (ul_1 (k := 10) (by decide +kernel) rfl), (ul_6 (k := 223) rfl rfl)⟩, by decide +kernel⟩
set_option maxRecDepth 20000 in
theorem mX10_mostInLine : MV yX10_mostInLine cX10_mostInLine 6 (some .int) 0 := ⟨⟨(ul_6 (k := 226) (by decide +kernel) rfl), (ul_0 (k := 67) (by decide +kernel) rfl), (ul_1 (k := 10) (by decide +kernel) rfl), (ul_6 (k := 227) rfl rfl)⟩, by decide +kernel⟩
set_option maxRecDepth 20000 in
theorem mX10_areInLine : MV yX10_areInLine cX10_areInLine 6 (some .boolean) 3 := ⟨⟨(ul_6 (k := 230) (by decide +kernel) rfl), (ul_0 (k := 68) (by decide +kernel) rfl), (ul_1 (k := 10) (by decide +kernel) rfl), (ul_6 (k := 231) rfl rfl)⟩, by decide +kernel⟩
set_option maxRecDepth 20000 in
theorem mX10_yardRow : MV yX10_yardRow cX10_yardRow 4 (some .int) 0 := ⟨⟨(ul_6 (k := 234) (by decide +kernel) rfl), (ul_0 (k := 69) (by decide +kernel) rfl), (ul_1 (k := 10) (by decide +kernel) rfl), (ul_6 (k := 235) rfl rfl)⟩, by decide +kernel⟩
set_option maxRecDepth 20000 in
theorem mX10_pairsOf : MV yX10_pairsOf cX10_pairsOf 4 (some .int) 0 := ⟨⟨(ul_6 (k := 238) (by decide +kernel) rfl), (ul_0 (k := 70) (by decide +kernel) rfl), (ul_1 (k := 10) (by decide +kernel) rfl), (ul_6 (k := 239) rfl rfl)⟩, by decide +kernel⟩
set_option maxRecDepth 20000 in
theorem mX10_nearestTo : MV yX10_nearestTo cX10_nearestTo 4 (some .int) 1 := ⟨⟨(ul_7 (k := 2) (by decide +kernel) rfl), (ul_0 (k := 71) (by decide +kernel) rfl), (ul_1 (k := 10) (by decide +kernel) rfl), (ul_7 (k := 3) rfl rfl)⟩, by decide +kernel⟩
set_option maxRecDepth 20000 in
theorem mX10_closest : MV yX10_closest cX10_closest 4 (some .int) 0 := ⟨⟨(ul_7 (k := 6) (by decide +kernel) rfl), (ul_0 (k := 72) (by decide +kernel) rfl), (ul_1 (k := 10) (by decide +kernel) rfl), (ul_7 (k := 7) rfl rfl)⟩, by decide +kernel⟩
set_option maxRecDepth 20000 in
theorem mX10_letters : MV yX10_letters cX10_letters 8 (some .int) 2 := ⟨⟨(ul_7 (k := 9) (by decide +kernel) rfl), (ul_7 (k := 10) (by decide +kernel) rfl), (ul_1 (k := 10) (by decide +kernel) rfl), (ul_7 (k := 11) rfl rfl)⟩, by decide +kernel⟩
set_option maxRecDepth 20000 in
theorem mX10_thrown : MV yX10_thrown cX10_thrown 6 (some .int) 1 := ⟨⟨(ul_7 (k := 13) (by decide +kernel) rfl), (ul_7 (k := 14) (by decide +kernel) rfl), (ul_1 (k := 10) (by decide +kernel) rfl), (ul_7 (k := 15) rfl rfl)⟩, by decide +kernel⟩
set_option maxRecDepth 20000 in
theorem mX10_seed : MV yX10_seed cX10_seed 2 (some .boolean) 1 := ⟨⟨(ul_7 (k := 17) (by decide +kernel) rfl), (ul_7 (k := 18) (by decide +kernel) rfl), (ul_1 (k := 10) (by decide +kernel) rfl), (ul_7 (k := 19) rfl rfl)⟩, by decide +kernel⟩
set_option maxRecDepth 20000 in
theorem mX10_keep : MV yX10_keep cX10_keep 1 (some .int) 0 := ⟨⟨(ul_7 (k := 22) (by decide +kernel) rfl), (ul_7 (k := 23) (by decide +kernel) rfl), (ul_1 (k := 10) (by decide +kernel) rfl), (ul_7 (k := 24) rfl rfl)⟩, by decide +kernel⟩
set_option maxRecDepth 20000 in
theorem mX10_undo : MV yX10_undo cX10_undo 1 (some .boolean) 0 := ⟨⟨(ul_7 (k := 26) (by decide +kernel) rfl), (ul_7 (k := 27) (by decide +kernel) rfl), (ul_1 (k := 10) (by decide +kernel) rfl), (ul_7 (k := 28) rfl rfl)⟩, by decide +kernel⟩
set_option maxRecDepth 20000 in
theorem mX10_check : MV yX10_check cX10_check 3 (some .int) 1 := ⟨⟨(ul_7 (k := 30) (by decide +kernel) rfl), (ul_7 (k := 31) (by decide +kernel) rfl), (ul_1 (k := 10) (by decide +kernel) rfl), (ul_7 (k := 32) rfl rfl)⟩, by decide +kernel⟩
set_option maxRecDepth 20000 in
theorem mX10_count : MV yX10_count cX10_count 2 (some .int) 1 := ⟨⟨(ul_7 (k := 34) (by decide +kernel) rfl), (ul_7 (k := 35) (by decide +kernel) rfl), (ul_1 (k := 10) (by decide +kernel) rfl), (ul_7 (k := 36) rfl rfl)⟩, by decide +kernel⟩
theorem lL_9 : Cond.methodLink RL 9 yX9_init ∈ UL := (ul_1 (k := 17) (by decide +kernel) rfl)
theorem lX9_1 : Cond.methodLink RX9 1 objectInit ∈ UL := (ul_1 (k := 20) (by decide +kernel) rfl)
theorem lX2_3 : Cond.methodLink RX2 3 objectInit ∈ UL := (ul_1 (k := 28) (by decide +kernel) rfl)
theorem lX7_3 : Cond.methodLink RX7 3 objectInit ∈ UL := (ul_1 (k := 78) (by decide +kernel) rfl)
theorem lX5_3 : Cond.methodLink RX5 3 objectInit ∈ UL := (ul_1 (k := 106) (by decide +kernel) rfl)
theorem lX8_3 : Cond.methodLink RX8 3 objectInit ∈ UL := (ul_1 (k := 124) (by decide +kernel) rfl)
theorem lX1_3 : Cond.methodLink RX1 3 objectInit ∈ UL := (ul_1 (k := 149) (by decide +kernel) rfl)
theorem lX4_3 : Cond.methodLink RX4 3 objectInit ∈ UL := (ul_1 (k := 168) (by decide +kernel) rfl)
theorem lX0_3 : Cond.methodLink RX0 3 objectInit ∈ UL := (ul_1 (k := 196) (by decide +kernel) rfl)
theorem lX3_3 : Cond.methodLink RX3 3 objectInit ∈ UL := (ul_1 (k := 218) (by decide +kernel) rfl)
theorem lL_13 : Cond.methodLink RL 13 yX9_stone ∈ UL := (ul_2 (k := 52) (by decide +kernel) rfl)
theorem lX9_82 : Cond.methodLink RX9 82 yX9_isStone ∈ UL := (ul_2 (k := 56) (by decide +kernel) rfl)
theorem lX9_86 : Cond.methodLink RX9 86 yX9_isPlace ∈ UL := (ul_2 (k := 59) (by decide +kernel) rfl)
theorem lX9_90 : Cond.methodLink RX9 90 yX2_stoneAt ∈ UL := (ul_2 (k := 62) (by decide +kernel) rfl)
theorem lX9_94 : Cond.methodLink RX9 94 yX2_lay ∈ UL := (ul_2 (k := 66) (by decide +kernel) rfl)
theorem lL_18 : Cond.methodLink RL 18 yX9_take ∈ UL := (ul_2 (k := 70) (by decide +kernel) rfl)
theorem lX9_98 : Cond.methodLink RX9 98 yX2_isTold ∈ UL := (ul_2 (k := 74) (by decide +kernel) rfl)
theorem lL_23 : Cond.methodLink RL 23 yX9_under ∈ UL := (ul_2 (k := 78) (by decide +kernel) rfl)
theorem lL_28 : Cond.methodLink RL 28 yX9_person ∈ UL := (ul_2 (k := 82) (by decide +kernel) rfl)
theorem lX9_108 : Cond.methodLink RX9 108 yX9_isStride ∈ UL := (ul_2 (k := 86) (by decide +kernel) rfl)
theorem lL_33 : Cond.methodLink RL 33 yX9_feed ∈ UL := (ul_2 (k := 89) (by decide +kernel) rfl)
theorem lX9_115 : Cond.methodLink RX9 115 yX7_append ∈ UL := (ul_2 (k := 93) (by decide +kernel) rfl)
theorem lL_38 : Cond.methodLink RL 38 yX9_law ∈ UL := (ul_2 (k := 97) (by decide +kernel) rfl)
theorem lX9_119 : Cond.methodLink RX9 119 yX7_holds ∈ UL := (ul_2 (k := 101) (by decide +kernel) rfl)
theorem lX9_123 : Cond.methodLink RX9 123 yX7_open ∈ UL := (ul_2 (k := 105) (by decide +kernel) rfl)
theorem lX9_126 : Cond.methodLink RX9 126 yX3_compile ∈ UL := (ul_2 (k := 109) (by decide +kernel) rfl)
theorem lX3_44 : Cond.methodLink RX3 44 yX7_here ∈ UL := (ul_2 (k := 113) (by decide +kernel) rfl)
theorem lX3_50 : Cond.methodLink RX3 50 yX3_isRuleLetter ∈ UL := (ul_2 (k := 117) (by decide +kernel) rfl)
theorem lX3_57 : Cond.methodLink RX3 57 yX7_refuse ∈ UL := (ul_2 (k := 120) (by decide +kernel) rfl)
theorem lX3_64 : Cond.methodLink RX3 64 yX3_compileSum ∈ UL := (ul_2 (k := 124) (by decide +kernel) rfl)
theorem lX3_85 : Cond.methodLink RX3 85 yX3_compileFactor ∈ UL := (ul_2 (k := 128) (by decide +kernel) rfl)
theorem lX3_68 : Cond.methodLink RX3 68 yX7_skip ∈ UL := (ul_2 (k := 132) (by decide +kernel) rfl)
theorem lX7_28 : Cond.methodLink RX7 28 yX7_here ∈ UL := (ul_2 (k := 136) (by decide +kernel) rfl)
theorem lX7_32 : Cond.methodLink RX7 32 yX7_refuse ∈ UL := (ul_2 (k := 137) (by decide +kernel) rfl)
theorem lX3_88 : Cond.methodLink RX3 88 yX7_isDigit ∈ UL := (ul_2 (k := 138) (by decide +kernel) rfl)
theorem lX3_91 : Cond.methodLink RX3 91 yX7_number ∈ UL := (ul_2 (k := 141) (by decide +kernel) rfl)
theorem lX7_36 : Cond.methodLink RX7 36 yX7_isDigit ∈ UL := (ul_2 (k := 145) (by decide +kernel) rfl)
theorem lX3_81 : Cond.methodLink RX3 81 yX3_order ∈ UL := (ul_2 (k := 146) (by decide +kernel) rfl)
theorem lX3_95 : Cond.methodLink RX3 95 yX5_indexOf ∈ UL := (ul_2 (k := 150) (by decide +kernel) rfl)
theorem lX3_71 : Cond.methodLink RX3 71 yX3_compileChoice ∈ UL := (ul_2 (k := 153) (by decide +kernel) rfl)
theorem lX3_74 : Cond.methodLink RX3 74 yX3_compileTest ∈ UL := (ul_2 (k := 157) (by decide +kernel) rfl)
theorem lX3_77 : Cond.methodLink RX3 77 yX3_landHere ∈ UL := (ul_2 (k := 161) (by decide +kernel) rfl)
theorem lL_43 : Cond.methodLink RL 43 yX9_notebook ∈ UL := (ul_2 (k := 165) (by decide +kernel) rfl)
theorem lX9_130 : Cond.methodLink RX9 130 yX9_readNotebook ∈ UL := (ul_2 (k := 169) (by decide +kernel) rfl)
theorem lX9_294 : Cond.methodLink RX9 294 yX2_clearStones ∈ UL := (ul_2 (k := 172) (by decide +kernel) rfl)
theorem lX9_297 : Cond.methodLink RX9 297 yX9_readLine ∈ UL := (ul_2 (k := 176) (by decide +kernel) rfl)
theorem lX9_316 : Cond.methodLink RX9 316 yX7_number ∈ UL := (ul_2 (k := 179) (by decide +kernel) rfl)
theorem lX9_313 : Cond.methodLink RX9 313 yX7_refuse ∈ UL := (ul_2 (k := 180) (by decide +kernel) rfl)
theorem lX9_304 : Cond.methodLink RX9 304 yX7_skip ∈ UL := (ul_2 (k := 181) (by decide +kernel) rfl)
theorem lX9_301 : Cond.methodLink RX9 301 yX7_here ∈ UL := (ul_2 (k := 182) (by decide +kernel) rfl)
theorem lX9_307 : Cond.methodLink RX9 307 yX7_isDigit ∈ UL := (ul_2 (k := 183) (by decide +kernel) rfl)
theorem lX9_134 : Cond.methodLink RX9 134 yX2_copyStones ∈ UL := (ul_2 (k := 184) (by decide +kernel) rfl)
theorem lL_47 : Cond.methodLink RL 47 yX9_nights ∈ UL := (ul_2 (k := 188) (by decide +kernel) rfl)
theorem lX9_138 : Cond.methodLink RX9 138 yX9_isNights ∈ UL := (ul_2 (k := 192) (by decide +kernel) rfl)
theorem lX9_141 : Cond.methodLink RX9 141 yX5_pass ∈ UL := (ul_2 (k := 195) (by decide +kernel) rfl)
theorem lX5_31 : Cond.methodLink RX5 31 yX5_turn ∈ UL := (ul_2 (k := 199) (by decide +kernel) rfl)
theorem lX5_35 : Cond.methodLink RX5 35 yX2_isTold ∈ UL := (ul_2 (k := 203) (by decide +kernel) rfl)
theorem lX5_39 : Cond.methodLink RX5 39 yX2_draw ∈ UL := (ul_2 (k := 204) (by decide +kernel) rfl)
theorem lX5_43 : Cond.methodLink RX5 43 yX5_look ∈ UL := (ul_2 (k := 209) (by decide +kernel) rfl)
theorem lX5_76 : Cond.methodLink RX5 76 yX2_countClose ∈ UL := (ul_2 (k := 213) (by decide +kernel) rfl)
theorem lX2_49 : Cond.methodLink RX2 49 yX2_squares ∈ UL := (ul_2 (k := 217) (by decide +kernel) rfl)
theorem lX2_52 : Cond.methodLink RX2 52 yX2_isTold ∈ UL := (ul_2 (k := 221) (by decide +kernel) rfl)
theorem lX5_46 : Cond.methodLink RX5 46 yX3_amountOf ∈ UL := (ul_2 (k := 222) (by decide +kernel) rfl)
theorem lX3_100 : Cond.methodLink RX3 100 yX3_doesHold ∈ UL := (ul_2 (k := 226) (by decide +kernel) rfl)
theorem lX3_104 : Cond.methodLink RX3 104 yX3_reckon ∈ UL := (ul_2 (k := 230) (by decide +kernel) rfl)
theorem lX3_117 : Cond.methodLink RX3 117 yX3_combine ∈ UL := (ul_2 (k := 234) (by decide +kernel) rfl)
theorem lX3_108 : Cond.methodLink RX3 108 Lib.Math.min.name ∈ UL := (ul_2 (k := 237) (by decide +kernel) rfl)
theorem lX3_114 : Cond.methodLink RX3 114 Lib.Math.max.name ∈ UL := (ul_3 (k := 0) (by decide +kernel) rfl)
theorem lX5_52 : Cond.methodLink RX5 52 yX5_shift ∈ UL := (ul_3 (k := 3) (by decide +kernel) rfl)
theorem lX5_80 : Cond.methodLink RX5 80 Lib.Math.min.name ∈ UL := (ul_3 (k := 7) (by decide +kernel) rfl)
theorem lX5_86 : Cond.methodLink RX5 86 Lib.Math.max.name ∈ UL := (ul_3 (k := 8) (by decide +kernel) rfl)
theorem lX5_89 : Cond.methodLink RX5 89 yX2_stoneAt ∈ UL := (ul_3 (k := 9) (by decide +kernel) rfl)
theorem lX5_59 : Cond.methodLink RX5 59 yX3_doesSink ∈ UL := (ul_3 (k := 10) (by decide +kernel) rfl)
theorem lL_51 : Cond.methodLink RL 51 yX9_tried ∈ UL := (ul_3 (k := 14) (by decide +kernel) rfl)
theorem lX9_149 : Cond.methodLink RX9 149 yX2_copyAll ∈ UL := (ul_3 (k := 19) (by decide +kernel) rfl)
theorem lX2_35 : Cond.methodLink RX2 35 yX2_copyStones ∈ UL := (ul_3 (k := 23) (by decide +kernel) rfl)
theorem lX9_161 : Cond.methodLink RX9 161 yX2_countSunk ∈ UL := (ul_3 (k := 24) (by decide +kernel) rfl)
theorem lX9_165 : Cond.methodLink RX9 165 yX2_sumOfX ∈ UL := (ul_3 (k := 28) (by decide +kernel) rfl)
theorem lL_56 : Cond.methodLink RL 56 yX9_stoneIs ∈ UL := (ul_3 (k := 32) (by decide +kernel) rfl)
theorem lX9_171 : Cond.methodLink RX9 171 yX2_countClose ∈ UL := (ul_3 (k := 36) (by decide +kernel) rfl)
theorem lL_60 : Cond.methodLink RL 60 yX9_at ∈ UL := (ul_3 (k := 37) (by decide +kernel) rfl)
theorem lL_64 : Cond.methodLink RL 64 yX9_cross ∈ UL := (ul_3 (k := 41) (by decide +kernel) rfl)
theorem lX9_175 : Cond.methodLink RX9 175 yX9_strideOf ∈ UL := (ul_3 (k := 45) (by decide +kernel) rfl)
theorem lX9_178 : Cond.methodLink RX9 178 yX8_crossing ∈ UL := (ul_3 (k := 49) (by decide +kernel) rfl)
theorem lX8_47 : Cond.methodLink RX8 47 yX8_spread ∈ UL := (ul_3 (k := 53) (by decide +kernel) rfl)
theorem lX8_31 : Cond.methodLink RX8 31 yJ7_fill_53178 ∈ UL := (ul_3 (k := 57) (by decide +kernel) rfl)
theorem lX8_37 : Cond.methodLink RX8 37 yX8_spreadOn ∈ UL := (ul_3 (k := 60) (by decide +kernel) rfl)
theorem lX8_41 : Cond.methodLink RX8 41 yX2_isStep ∈ UL := (ul_3 (k := 64) (by decide +kernel) rfl)
theorem lX2_56 : Cond.methodLink RX2 56 yX2_canStand ∈ UL := (ul_3 (k := 68) (by decide +kernel) rfl)
theorem lX2_45 : Cond.methodLink RX2 45 yX2_isDry ∈ UL := (ul_3 (k := 72) (by decide +kernel) rfl)
theorem lX2_59 : Cond.methodLink RX2 59 yX2_isStepFrom ∈ UL := (ul_3 (k := 76) (by decide +kernel) rfl)
theorem lX2_63 : Cond.methodLink RX2 63 yX2_heightOf ∈ UL := (ul_3 (k := 80) (by decide +kernel) rfl)
theorem lX2_67 : Cond.methodLink RX2 67 Lib.Math.abs.name ∈ UL := (ul_3 (k := 84) (by decide +kernel) rfl)
theorem lX8_50 : Cond.methodLink RX8 50 yX8_countRows ∈ UL := (ul_3 (k := 87) (by decide +kernel) rfl)
theorem lX8_58 : Cond.methodLink RX8 58 yX8_leadOn ∈ UL := (ul_3 (k := 91) (by decide +kernel) rfl)
theorem lX8_63 : Cond.methodLink RX8 63 Lib.Math.min.name ∈ UL := (ul_3 (k := 96) (by decide +kernel) rfl)
theorem lX8_54 : Cond.methodLink RX8 54 yX8_stoneOfLeastRow ∈ UL := (ul_3 (k := 97) (by decide +kernel) rfl)
theorem lX8_69 : Cond.methodLink RX8 69 yX8_lowestOnward ∈ UL := (ul_3 (k := 101) (by decide +kernel) rfl)
theorem lL_68 : Cond.methodLink RL 68 yX9_driest ∈ UL := (ul_3 (k := 105) (by decide +kernel) rfl)
theorem lX9_182 : Cond.methodLink RX9 182 yX9_isEither ∈ UL := (ul_3 (k := 109) (by decide +kernel) rfl)
theorem lX9_185 : Cond.methodLink RX9 185 yX8_driestWay ∈ UL := (ul_3 (k := 112) (by decide +kernel) rfl)
theorem lX8_72 : Cond.methodLink RX8 72 yX8_cheapest ∈ UL := (ul_3 (k := 116) (by decide +kernel) rfl)
theorem lX8_76 : Cond.methodLink RX8 76 yX8_settle ∈ UL := (ul_3 (k := 120) (by decide +kernel) rfl)
theorem lL_72 : Cond.methodLink RL 72 yX9_leastStride ∈ UL := (ul_3 (k := 124) (by decide +kernel) rfl)
theorem lX9_188 : Cond.methodLink RX9 188 yX8_canCross ∈ UL := (ul_3 (k := 128) (by decide +kernel) rfl)
theorem lL_77 : Cond.methodLink RL 77 yX9_howFar ∈ UL := (ul_3 (k := 132) (by decide +kernel) rfl)
theorem lX9_192 : Cond.methodLink RX9 192 yX8_farthest ∈ UL := (ul_3 (k := 136) (by decide +kernel) rfl)
theorem lX8_82 : Cond.methodLink RX8 82 yX2_heightOf ∈ UL := (ul_3 (k := 140) (by decide +kernel) rfl)
theorem lX8_86 : Cond.methodLink RX8 86 Lib.Math.max.name ∈ UL := (ul_3 (k := 141) (by decide +kernel) rfl)
theorem lL_81 : Cond.methodLink RL 81 yX9_hold ∈ UL := (ul_3 (k := 142) (by decide +kernel) rfl)
theorem lX9_196 : Cond.methodLink RX9 196 yX1_fewest ∈ UL := (ul_3 (k := 146) (by decide +kernel) rfl)
theorem lX1_25 : Cond.methodLink RX1 25 yJ7_fill_53178 ∈ UL := (ul_3 (k := 150) (by decide +kernel) rfl)
theorem lX1_31 : Cond.methodLink RX1 31 yX1_search ∈ UL := (ul_3 (k := 151) (by decide +kernel) rfl)
theorem lX1_39 : Cond.methodLink RX1 39 yX2_isStep ∈ UL := (ul_3 (k := 155) (by decide +kernel) rfl)
theorem lX1_45 : Cond.methodLink RX1 45 yX1_reach ∈ UL := (ul_3 (k := 156) (by decide +kernel) rfl)
theorem lX1_49 : Cond.methodLink RX1 49 yX1_comeOn ∈ UL := (ul_3 (k := 160) (by decide +kernel) rfl)
theorem lX1_52 : Cond.methodLink RX1 52 yX1_leave ∈ UL := (ul_3 (k := 164) (by decide +kernel) rfl)
theorem lX1_35 : Cond.methodLink RX1 35 yX1_weave ∈ UL := (ul_3 (k := 168) (by decide +kernel) rfl)
theorem lX1_56 : Cond.methodLink RX1 56 yX1_join ∈ UL := (ul_3 (k := 172) (by decide +kernel) rfl)
theorem lL_85 : Cond.methodLink RL 85 yX9_oneMore ∈ UL := (ul_3 (k := 176) (by decide +kernel) rfl)
theorem lX9_199 : Cond.methodLink RX9 199 yX8_helpfulPlace ∈ UL := (ul_3 (k := 180) (by decide +kernel) rfl)
theorem lX8_89 : Cond.methodLink RX8 89 yX8_canCross ∈ UL := (ul_3 (k := 184) (by decide +kernel) rfl)
theorem lX8_93 : Cond.methodLink RX8 93 yX8_wouldJoin ∈ UL := (ul_3 (k := 185) (by decide +kernel) rfl)
theorem lX8_97 : Cond.methodLink RX8 97 yX2_isStepFrom ∈ UL := (ul_3 (k := 189) (by decide +kernel) rfl)
theorem lX8_101 : Cond.methodLink RX8 101 yX2_stoneAt ∈ UL := (ul_3 (k := 190) (by decide +kernel) rfl)
theorem lL_89 : Cond.methodLink RL 89 yX9_islands ∈ UL := (ul_3 (k := 191) (by decide +kernel) rfl)
theorem lX9_202 : Cond.methodLink RX9 202 yX8_countIslands ∈ UL := (ul_3 (k := 195) (by decide +kernel) rfl)
theorem lX8_104 : Cond.methodLink RX8 104 yX2_isDry ∈ UL := (ul_3 (k := 199) (by decide +kernel) rfl)
theorem lX9_205 : Cond.methodLink RX9 205 yX8_islandSize ∈ UL := (ul_3 (k := 200) (by decide +kernel) rfl)
theorem lL_93 : Cond.methodLink RL 93 yX9_key ∈ UL := (ul_3 (k := 204) (by decide +kernel) rfl)
theorem lX9_208 : Cond.methodLink RX9 208 yX8_needs ∈ UL := (ul_3 (k := 208) (by decide +kernel) rfl)
theorem lL_97 : Cond.methodLink RL 97 yX9_meet ∈ UL := (ul_3 (k := 212) (by decide +kernel) rfl)
theorem lX9_212 : Cond.methodLink RX9 212 yX8_meeting ∈ UL := (ul_3 (k := 216) (by decide +kernel) rfl)
theorem lL_102 : Cond.methodLink RL 102 yX9_market ∈ UL := (ul_3 (k := 220) (by decide +kernel) rfl)
theorem lL_106 : Cond.methodLink RL 106 yX9_firstNight ∈ UL := (ul_3 (k := 224) (by decide +kernel) rfl)
theorem lL_110 : Cond.methodLink RL 110 yX9_walk ∈ UL := (ul_3 (k := 228) (by decide +kernel) rfl)
theorem lX9_216 : Cond.methodLink RX9 216 yX4_read ∈ UL := (ul_3 (k := 232) (by decide +kernel) rfl)
theorem lX4_31 : Cond.methodLink RX4 31 yX4_readSteps ∈ UL := (ul_3 (k := 236) (by decide +kernel) rfl)
theorem lX4_35 : Cond.methodLink RX4 35 yX7_here ∈ UL := (ul_4 (k := 0) (by decide +kernel) rfl)
theorem lX4_48 : Cond.methodLink RX4 48 yX4_readRound ∈ UL := (ul_4 (k := 1) (by decide +kernel) rfl)
theorem lX4_44 : Cond.methodLink RX4 44 yX7_refuse ∈ UL := (ul_4 (k := 5) (by decide +kernel) rfl)
theorem lX4_55 : Cond.methodLink RX4 55 yX7_skip ∈ UL := (ul_4 (k := 6) (by decide +kernel) rfl)
theorem lX4_59 : Cond.methodLink RX4 59 yX4_repeat ∈ UL := (ul_4 (k := 7) (by decide +kernel) rfl)
theorem lX4_51 : Cond.methodLink RX4 51 yX4_readHops ∈ UL := (ul_4 (k := 11) (by decide +kernel) rfl)
theorem lX4_62 : Cond.methodLink RX4 62 yX4_isHop ∈ UL := (ul_4 (k := 15) (by decide +kernel) rfl)
theorem lX4_65 : Cond.methodLink RX4 65 yX7_isDigit ∈ UL := (ul_4 (k := 18) (by decide +kernel) rfl)
theorem lX4_68 : Cond.methodLink RX4 68 yX7_number ∈ UL := (ul_4 (k := 19) (by decide +kernel) rfl)
theorem lX9_223 : Cond.methodLink RX9 223 yX4_go ∈ UL := (ul_4 (k := 20) (by decide +kernel) rfl)
theorem lX4_72 : Cond.methodLink RX4 72 Lib.Math.min.name ∈ UL := (ul_4 (k := 24) (by decide +kernel) rfl)
theorem lX4_78 : Cond.methodLink RX4 78 Lib.Math.max.name ∈ UL := (ul_4 (k := 25) (by decide +kernel) rfl)
theorem lX4_81 : Cond.methodLink RX4 81 yX4_isFooting ∈ UL := (ul_4 (k := 26) (by decide +kernel) rfl)
theorem lX4_85 : Cond.methodLink RX4 85 yX2_stoneAt ∈ UL := (ul_4 (k := 29) (by decide +kernel) rfl)
theorem lX4_90 : Cond.methodLink RX4 90 yX2_isDry ∈ UL := (ul_4 (k := 30) (by decide +kernel) rfl)
theorem lL_115 : Cond.methodLink RL 115 yX9_chalk ∈ UL := (ul_4 (k := 31) (by decide +kernel) rfl)
theorem lX9_234 : Cond.methodLink RX9 234 yX2_countTold ∈ UL := (ul_4 (k := 35) (by decide +kernel) rfl)
theorem lX9_237 : Cond.methodLink RX9 237 yX0_read ∈ UL := (ul_4 (k := 39) (by decide +kernel) rfl)
theorem lX0_27 : Cond.methodLink RX0 27 yX7_byteAt ∈ UL := (ul_4 (k := 43) (by decide +kernel) rfl)
theorem lX9_240 : Cond.methodLink RX9 240 yX0_match ∈ UL := (ul_4 (k := 47) (by decide +kernel) rfl)
theorem lX0_33 : Cond.methodLink RX0 33 yX2_nextTold ∈ UL := (ul_4 (k := 51) (by decide +kernel) rfl)
theorem lX2_39 : Cond.methodLink RX2 39 Lib.Math.max.name ∈ UL := (ul_4 (k := 55) (by decide +kernel) rfl)
theorem lX0_38 : Cond.methodLink RX0 38 yX0_measure ∈ UL := (ul_4 (k := 56) (by decide +kernel) rfl)
theorem lX0_51 : Cond.methodLink RX0 51 yX2_isTold ∈ UL := (ul_4 (k := 60) (by decide +kernel) rfl)
theorem lX0_58 : Cond.methodLink RX0 58 Lib.Math.abs.name ∈ UL := (ul_4 (k := 61) (by decide +kernel) rfl)
theorem lX0_42 : Cond.methodLink RX0 42 Lib.Math.min.name ∈ UL := (ul_4 (k := 62) (by decide +kernel) rfl)
theorem lX0_48 : Cond.methodLink RX0 48 yX0_fewestBehind ∈ UL := (ul_4 (k := 63) (by decide +kernel) rfl)
theorem lX0_64 : Cond.methodLink RX0 64 yJ6_bitCount_0f7a4 ∈ UL := (ul_4 (k := 67) (by decide +kernel) rfl)
theorem lX0_70 : Cond.methodLink RX0 70 yX0_wayWith ∈ UL := (ul_4 (k := 74) (by decide +kernel) rfl)
theorem lX9_244 : Cond.methodLink RX9 244 yX0_wayInAll ∈ UL := (ul_4 (k := 78) (by decide +kernel) rfl)
theorem lX9_247 : Cond.methodLink RX9 247 yX0_stoneOf ∈ UL := (ul_4 (k := 82) (by decide +kernel) rfl)
theorem lL_119 : Cond.methodLink RL 119 yX9_shape ∈ UL := (ul_4 (k := 86) (by decide +kernel) rfl)
theorem lX9_250 : Cond.methodLink RX9 250 yX6_line ∈ UL := (ul_4 (k := 90) (by decide +kernel) rfl)
theorem lX6_9 : Cond.methodLink RX6 9 yX2_countTold ∈ UL := (ul_4 (k := 93) (by decide +kernel) rfl)
theorem lX6_15 : Cond.methodLink RX6 15 Lib.Math.min.name ∈ UL := (ul_4 (k := 94) (by decide +kernel) rfl)
theorem lX6_25 : Cond.methodLink RX6 25 yX6_countOnLine ∈ UL := (ul_4 (k := 95) (by decide +kernel) rfl)
theorem lX6_34 : Cond.methodLink RX6 34 yX2_isTold ∈ UL := (ul_4 (k := 98) (by decide +kernel) rfl)
theorem lX6_31 : Cond.methodLink RX6 31 Lib.Math.max.name ∈ UL := (ul_4 (k := 99) (by decide +kernel) rfl)
theorem lX9_256 : Cond.methodLink RX9 256 yX6_yardApart ∈ UL := (ul_4 (k := 100) (by decide +kernel) rfl)
theorem lX6_45 : Cond.methodLink RX6 45 yX2_stoneAt ∈ UL := (ul_4 (k := 103) (by decide +kernel) rfl)
theorem lX9_259 : Cond.methodLink RX9 259 yX6_pairs ∈ UL := (ul_4 (k := 104) (by decide +kernel) rfl)
theorem lX6_48 : Cond.methodLink RX6 48 yX6_nearest ∈ UL := (ul_4 (k := 107) (by decide +kernel) rfl)
theorem lX6_52 : Cond.methodLink RX6 52 yX2_squares ∈ UL := (ul_4 (k := 110) (by decide +kernel) rfl)
theorem lX9_262 : Cond.methodLink RX9 262 yX6_closest ∈ UL := (ul_4 (k := 111) (by decide +kernel) rfl)
theorem lL_123 : Cond.methodLink RL 123 yX9_letters ∈ UL := (ul_4 (k := 114) (by decide +kernel) rfl)
theorem lX9_265 : Cond.methodLink RX9 265 yX7_byteAt ∈ UL := (ul_4 (k := 118) (by decide +kernel) rfl)
theorem lX9_268 : Cond.methodLink RX9 268 yX9_evenBag ∈ UL := (ul_4 (k := 119) (by decide +kernel) rfl)
theorem lX9_271 : Cond.methodLink RX9 271 yX9_unlike ∈ UL := (ul_4 (k := 123) (by decide +kernel) rfl)
theorem lX9_319 : Cond.methodLink RX9 319 Lib.Math.abs.name ∈ UL := (ul_4 (k := 127) (by decide +kernel) rfl)
theorem lL_127 : Cond.methodLink RL 127 yX9_thrown ∈ UL := (ul_4 (k := 128) (by decide +kernel) rfl)
theorem lX9_274 : Cond.methodLink RX9 274 yX2_nextDry ∈ UL := (ul_4 (k := 132) (by decide +kernel) rfl)
theorem lX9_277 : Cond.methodLink RX9 277 yX9_fewestThrows ∈ UL := (ul_4 (k := 136) (by decide +kernel) rfl)
theorem lX9_327 : Cond.methodLink RX9 327 yX2_isDry ∈ UL := (ul_4 (k := 140) (by decide +kernel) rfl)
theorem lX9_330 : Cond.methodLink RX9 330 yX2_squares ∈ UL := (ul_4 (k := 141) (by decide +kernel) rfl)
theorem lX9_333 : Cond.methodLink RX9 333 Lib.Math.min.name ∈ UL := (ul_4 (k := 142) (by decide +kernel) rfl)
theorem lL_131 : Cond.methodLink RL 131 yX9_seed ∈ UL := (ul_4 (k := 143) (by decide +kernel) rfl)
theorem lL_135 : Cond.methodLink RL 135 yX9_keep ∈ UL := (ul_4 (k := 148) (by decide +kernel) rfl)
theorem lL_139 : Cond.methodLink RL 139 yX9_undo ∈ UL := (ul_4 (k := 152) (by decide +kernel) rfl)
theorem lL_144 : Cond.methodLink RL 144 yX9_check ∈ UL := (ul_4 (k := 156) (by decide +kernel) rfl)
theorem lL_148 : Cond.methodLink RL 148 yX9_count ∈ UL := (ul_4 (k := 160) (by decide +kernel) rfl)
theorem lX9_288 : Cond.methodLink RX9 288 yX9_toldPeople ∈ UL := (ul_4 (k := 164) (by decide +kernel) rfl)
theorem lL_12 : Cond.methodLink RL 12 yX10_init ∈ UL := (ul_4 (k := 170) (by decide +kernel) rfl)
theorem lX10_1 : Cond.methodLink RX10 1 objectInit ∈ UL := (ul_4 (k := 173) (by decide +kernel) rfl)
theorem lL_17 : Cond.methodLink RL 17 yX10_stone ∈ UL := (ul_5 (k := 101) (by decide +kernel) rfl)
theorem lX10_132 : Cond.methodLink RX10 132 yX10_in ∈ UL := (ul_5 (k := 105) (by decide +kernel) rfl)
theorem lX10_147 : Cond.methodLink RX10 147 yX10_stoneAt ∈ UL := (ul_5 (k := 108) (by decide +kernel) rfl)
theorem lX10_150 : Cond.methodLink RX10 150 yX10_laysStone ∈ UL := (ul_5 (k := 112) (by decide +kernel) rfl)
theorem lL_22 : Cond.methodLink RL 22 yX10_take ∈ UL := (ul_5 (k := 116) (by decide +kernel) rfl)
theorem lX10_154 : Cond.methodLink RX10 154 yX10_isStone ∈ UL := (ul_5 (k := 120) (by decide +kernel) rfl)
theorem lL_27 : Cond.methodLink RL 27 yX10_under ∈ UL := (ul_5 (k := 124) (by decide +kernel) rfl)
theorem lL_32 : Cond.methodLink RL 32 yX10_person ∈ UL := (ul_5 (k := 128) (by decide +kernel) rfl)
theorem lL_37 : Cond.methodLink RL 37 yX10_feed ∈ UL := (ul_5 (k := 132) (by decide +kernel) rfl)
theorem lX10_161 : Cond.methodLink RX10 161 yX10_types ∈ UL := (ul_5 (k := 136) (by decide +kernel) rfl)
theorem lL_42 : Cond.methodLink RL 42 yX10_law ∈ UL := (ul_5 (k := 140) (by decide +kernel) rfl)
theorem lX10_249 : Cond.methodLink RX10 249 yX10_beginsText ∈ UL := (ul_5 (k := 144) (by decide +kernel) rfl)
theorem lX10_252 : Cond.methodLink RX10 252 yX10_readsRule ∈ UL := (ul_5 (k := 148) (by decide +kernel) rfl)
theorem lX10_171 : Cond.methodLink RX10 171 yX10_here ∈ UL := (ul_5 (k := 152) (by decide +kernel) rfl)
theorem lX10_178 : Cond.methodLink RX10 178 yX10_wrongAt ∈ UL := (ul_5 (k := 156) (by decide +kernel) rfl)
theorem lX10_228 : Cond.methodLink RX10 228 yX10_readsSum ∈ UL := (ul_5 (k := 160) (by decide +kernel) rfl)
theorem lX10_215 : Cond.methodLink RX10 215 yX10_readsFactor ∈ UL := (ul_5 (k := 164) (by decide +kernel) rfl)
theorem lX10_205 : Cond.methodLink RX10 205 yX10_opens ∈ UL := (ul_5 (k := 168) (by decide +kernel) rfl)
theorem lX10_184 : Cond.methodLink RX10 184 yX10_isDigit ∈ UL := (ul_5 (k := 173) (by decide +kernel) rfl)
theorem lX10_208 : Cond.methodLink RX10 208 yX10_readsNumber ∈ UL := (ul_5 (k := 177) (by decide +kernel) rfl)
theorem lX10_201 : Cond.methodLink RX10 201 yX10_notes ∈ UL := (ul_5 (k := 181) (by decide +kernel) rfl)
theorem lX10_211 : Cond.methodLink RX10 211 yX10_factOf ∈ UL := (ul_5 (k := 185) (by decide +kernel) rfl)
theorem lX10_218 : Cond.methodLink RX10 218 yX10_sumSign ∈ UL := (ul_5 (k := 188) (by decide +kernel) rfl)
theorem lX10_221 : Cond.methodLink RX10 221 yX10_closesSums ∈ UL := (ul_5 (k := 191) (by decide +kernel) rfl)
theorem lX10_198 : Cond.methodLink RX10 198 yX10_waitTop ∈ UL := (ul_5 (k := 195) (by decide +kernel) rfl)
theorem lX10_225 : Cond.methodLink RX10 225 yX10_hasOpenSum ∈ UL := (ul_5 (k := 199) (by decide +kernel) rfl)
theorem lX10_246 : Cond.methodLink RX10 246 yX10_readsCondition ∈ UL := (ul_5 (k := 203) (by decide +kernel) rfl)
theorem lX10_234 : Cond.methodLink RX10 234 yX10_readsCompared ∈ UL := (ul_5 (k := 207) (by decide +kernel) rfl)
theorem lX10_231 : Cond.methodLink RX10 231 yX10_endsPiece ∈ UL := (ul_5 (k := 211) (by decide +kernel) rfl)
theorem lX10_237 : Cond.methodLink RX10 237 yX10_lands ∈ UL := (ul_5 (k := 215) (by decide +kernel) rfl)
theorem lX10_240 : Cond.methodLink RX10 240 yX10_jumps ∈ UL := (ul_5 (k := 219) (by decide +kernel) rfl)
theorem lX10_255 : Cond.methodLink RX10 255 yX10_takesSign ∈ UL := (ul_5 (k := 223) (by decide +kernel) rfl)
theorem lL_46 : Cond.methodLink RL 46 yX10_notebook ∈ UL := (ul_5 (k := 227) (by decide +kernel) rfl)
theorem lX10_280 : Cond.methodLink RX10 280 yX10_readsLine ∈ UL := (ul_5 (k := 231) (by decide +kernel) rfl)
theorem lX10_277 : Cond.methodLink RX10 277 yX10_readsBetween ∈ UL := (ul_5 (k := 235) (by decide +kernel) rfl)
theorem lX10_271 : Cond.methodLink RX10 271 yX10_readsAmount ∈ UL := (ul_5 (k := 239) (by decide +kernel) rfl)
theorem lL_50 : Cond.methodLink RL 50 yX10_nights ∈ UL := (ul_6 (k := 3) (by decide +kernel) rfl)
theorem lX10_308 : Cond.methodLink RX10 308 yX10_nightsGo ∈ UL := (ul_6 (k := 7) (by decide +kernel) rfl)
theorem lX10_305 : Cond.methodLink RX10 305 yX10_nightGoes ∈ UL := (ul_6 (k := 11) (by decide +kernel) rfl)
theorem lX10_302 : Cond.methodLink RX10 302 yX10_moves ∈ UL := (ul_6 (k := 15) (by decide +kernel) rfl)
theorem lX10_284 : Cond.methodLink RX10 284 yX10_feels ∈ UL := (ul_6 (k := 20) (by decide +kernel) rfl)
theorem lX10_268 : Cond.methodLink RX10 268 yX10_nearTo ∈ UL := (ul_6 (k := 24) (by decide +kernel) rfl)
theorem lX10_144 : Cond.methodLink RX10 144 yX10_apart ∈ UL := (ul_6 (k := 28) (by decide +kernel) rfl)
theorem lX10_287 : Cond.methodLink RX10 287 yX10_byLaw ∈ UL := (ul_6 (k := 32) (by decide +kernel) rfl)
theorem lX10_265 : Cond.methodLink RX10 265 yX10_comesTo ∈ UL := (ul_6 (k := 36) (by decide +kernel) rfl)
theorem lX10_261 : Cond.methodLink RX10 261 yX10_reckon ∈ UL := (ul_6 (k := 40) (by decide +kernel) rfl)
theorem lX10_290 : Cond.methodLink RX10 290 yX10_bounded ∈ UL := (ul_6 (k := 43) (by decide +kernel) rfl)
theorem lX10_125 : Cond.methodLink RX10 125 yX10_min ∈ UL := (ul_6 (k := 46) (by decide +kernel) rfl)
theorem lX10_129 : Cond.methodLink RX10 129 yX10_max ∈ UL := (ul_6 (k := 49) (by decide +kernel) rfl)
theorem lX10_299 : Cond.methodLink RX10 299 yX10_holdsAny ∈ UL := (ul_6 (k := 52) (by decide +kernel) rfl)
theorem lL_55 : Cond.methodLink RL 55 yX10_tried ∈ UL := (ul_6 (k := 56) (by decide +kernel) rfl)
theorem lX10_312 : Cond.methodLink RX10 312 yX10_sumOf ∈ UL := (ul_6 (k := 61) (by decide +kernel) rfl)
theorem lX10_315 : Cond.methodLink RX10 315 yX10_copies ∈ UL := (ul_6 (k := 65) (by decide +kernel) rfl)
theorem lL_59 : Cond.methodLink RL 59 yX10_stoneIs ∈ UL := (ul_6 (k := 68) (by decide +kernel) rfl)
theorem lL_63 : Cond.methodLink RL 63 yX10_at ∈ UL := (ul_6 (k := 72) (by decide +kernel) rfl)
theorem lL_67 : Cond.methodLink RL 67 yX10_cross ∈ UL := (ul_6 (k := 76) (by decide +kernel) rfl)
theorem lX10_334 : Cond.methodLink RX10 334 yX10_isPerson ∈ UL := (ul_6 (k := 80) (by decide +kernel) rfl)
theorem lX10_140 : Cond.methodLink RX10 140 yX10_has ∈ UL := (ul_6 (k := 84) (by decide +kernel) rfl)
theorem lX10_337 : Cond.methodLink RX10 337 yX10_crossing ∈ UL := (ul_6 (k := 87) (by decide +kernel) rfl)
theorem lX10_329 : Cond.methodLink RX10 329 yX10_laysSteps ∈ UL := (ul_6 (k := 91) (by decide +kernel) rfl)
theorem lX10_322 : Cond.methodLink RX10 322 yX10_isByBank ∈ UL := (ul_6 (k := 95) (by decide +kernel) rfl)
theorem lX10_319 : Cond.methodLink RX10 319 yX10_isDry ∈ UL := (ul_6 (k := 99) (by decide +kernel) rfl)
theorem lX10_326 : Cond.methodLink RX10 326 yX10_canStep ∈ UL := (ul_6 (k := 103) (by decide +kernel) rfl)
theorem lX10_340 : Cond.methodLink RX10 340 yX10_laysRows ∈ UL := (ul_6 (k := 107) (by decide +kernel) rfl)
theorem lL_71 : Cond.methodLink RL 71 yX10_driest ∈ UL := (ul_6 (k := 112) (by decide +kernel) rfl)
theorem lX10_344 : Cond.methodLink RX10 344 yX10_dryCost ∈ UL := (ul_6 (k := 116) (by decide +kernel) rfl)
theorem lL_76 : Cond.methodLink RL 76 yX10_leastStride ∈ UL := (ul_6 (k := 121) (by decide +kernel) rfl)
theorem lL_80 : Cond.methodLink RL 80 yX10_howFar ∈ UL := (ul_6 (k := 125) (by decide +kernel) rfl)
theorem lL_84 : Cond.methodLink RL 84 yX10_hold ∈ UL := (ul_6 (k := 129) (by decide +kernel) rfl)
theorem lX10_347 : Cond.methodLink RX10 347 yX10_laysRoom ∈ UL := (ul_6 (k := 133) (by decide +kernel) rfl)
theorem lX10_350 : Cond.methodLink RX10 350 yX10_goesAcross ∈ UL := (ul_6 (k := 137) (by decide +kernel) rfl)
theorem lL_88 : Cond.methodLink RL 88 yX10_oneMore ∈ UL := (ul_6 (k := 141) (by decide +kernel) rfl)
theorem lX10_353 : Cond.methodLink RX10 353 yX10_wouldDo ∈ UL := (ul_6 (k := 145) (by decide +kernel) rfl)
theorem lL_92 : Cond.methodLink RL 92 yX10_islands ∈ UL := (ul_6 (k := 149) (by decide +kernel) rfl)
theorem lX10_356 : Cond.methodLink RX10 356 yX10_laysIslands ∈ UL := (ul_6 (k := 153) (by decide +kernel) rfl)
theorem lL_96 : Cond.methodLink RL 96 yX10_key ∈ UL := (ul_6 (k := 157) (by decide +kernel) rfl)
theorem lL_101 : Cond.methodLink RL 101 yX10_meet ∈ UL := (ul_6 (k := 161) (by decide +kernel) rfl)
theorem lL_105 : Cond.methodLink RL 105 yX10_market ∈ UL := (ul_6 (k := 165) (by decide +kernel) rfl)
theorem lL_109 : Cond.methodLink RL 109 yX10_firstNight ∈ UL := (ul_6 (k := 169) (by decide +kernel) rfl)
theorem lL_114 : Cond.methodLink RL 114 yX10_walk ∈ UL := (ul_6 (k := 173) (by decide +kernel) rfl)
theorem lX10_371 : Cond.methodLink RX10 371 yX10_readsWalk ∈ UL := (ul_6 (k := 177) (by decide +kernel) rfl)
theorem lX10_365 : Cond.methodLink RX10 365 yX10_readsHops ∈ UL := (ul_6 (k := 181) (by decide +kernel) rfl)
theorem lX10_368 : Cond.methodLink RX10 368 yX10_endsRound ∈ UL := (ul_6 (k := 185) (by decide +kernel) rfl)
theorem lL_118 : Cond.methodLink RL 118 yX10_chalk ∈ UL := (ul_6 (k := 189) (by decide +kernel) rfl)
theorem lX10_383 : Cond.methodLink RX10 383 yX10_listsStones ∈ UL := (ul_6 (k := 193) (by decide +kernel) rfl)
theorem lX10_377 : Cond.methodLink RX10 377 yX10_octet ∈ UL := (ul_6 (k := 197) (by decide +kernel) rfl)
theorem lX10_387 : Cond.methodLink RX10 387 yX10_beginsRows ∈ UL := (ul_6 (k := 201) (by decide +kernel) rfl)
theorem lX10_390 : Cond.methodLink RX10 390 yX10_chalkOff ∈ UL := (ul_6 (k := 205) (by decide +kernel) rfl)
theorem lX10_380 : Cond.methodLink RX10 380 yX10_size ∈ UL := (ul_6 (k := 209) (by decide +kernel) rfl)
theorem lX10_393 : Cond.methodLink RX10 393 yX10_nextRow ∈ UL := (ul_6 (k := 212) (by decide +kernel) rfl)
theorem lX10_374 : Cond.methodLink RX10 374 yX10_changes ∈ UL := (ul_6 (k := 216) (by decide +kernel) rfl)
theorem lL_122 : Cond.methodLink RL 122 yX10_shape ∈ UL := (ul_6 (k := 220) (by decide +kernel) rfl)
theorem lX10_402 : Cond.methodLink RX10 402 yX10_mostInLine ∈ UL := (ul_6 (k := 224) (by decide +kernel) rfl)
theorem lX10_396 : Cond.methodLink RX10 396 yX10_areInLine ∈ UL := (ul_6 (k := 228) (by decide +kernel) rfl)
theorem lX10_405 : Cond.methodLink RX10 405 yX10_yardRow ∈ UL := (ul_6 (k := 232) (by decide +kernel) rfl)
theorem lX10_408 : Cond.methodLink RX10 408 yX10_pairsOf ∈ UL := (ul_6 (k := 236) (by decide +kernel) rfl)
theorem lX10_399 : Cond.methodLink RX10 399 yX10_nearestTo ∈ UL := (ul_7 (k := 0) (by decide +kernel) rfl)
theorem lX10_411 : Cond.methodLink RX10 411 yX10_closest ∈ UL := (ul_7 (k := 4) (by decide +kernel) rfl)
theorem lL_126 : Cond.methodLink RL 126 yX10_letters ∈ UL := (ul_7 (k := 8) (by decide +kernel) rfl)
theorem lL_130 : Cond.methodLink RL 130 yX10_thrown ∈ UL := (ul_7 (k := 12) (by decide +kernel) rfl)
theorem lL_134 : Cond.methodLink RL 134 yX10_seed ∈ UL := (ul_7 (k := 16) (by decide +kernel) rfl)
theorem lL_138 : Cond.methodLink RL 138 yX10_keep ∈ UL := (ul_7 (k := 21) (by decide +kernel) rfl)
theorem lL_143 : Cond.methodLink RL 143 yX10_undo ∈ UL := (ul_7 (k := 25) (by decide +kernel) rfl)
theorem lL_147 : Cond.methodLink RL 147 yX10_check ∈ UL := (ul_7 (k := 29) (by decide +kernel) rfl)
theorem lL_151 : Cond.methodLink RL 151 yX10_count ∈ UL := (ul_7 (k := 33) (by decide +kernel) rfl)
theorem mJ9_max : Cond.static Lib.Math.max.name ∈ UL ∧ Cond.initialized "java/lang/Math" ∈ UL ∧ Cond.code Lib.Math.max.name Lib.Math.max.code 2 (some .int) ∈ UL := ⟨(ul_3 (k := 1) (by decide +kernel) rfl), (ul_1 (k := 11) (by decide +kernel) rfl), (ul_3 (k := 2) (by decide +kernel) rfl)⟩
theorem mJ9_min : Cond.static Lib.Math.min.name ∈ UL ∧ Cond.initialized "java/lang/Math" ∈ UL ∧ Cond.code Lib.Math.min.name Lib.Math.min.code 2 (some .int) ∈ UL := ⟨(ul_2 (k := 238) (by decide +kernel) rfl), (ul_1 (k := 11) (by decide +kernel) rfl), (ul_2 (k := 239) (by decide +kernel) rfl)⟩
theorem mJ9_abs : Cond.static Lib.Math.abs.name ∈ UL ∧ Cond.initialized "java/lang/Math" ∈ UL ∧ Cond.code Lib.Math.abs.name Lib.Math.abs.code 1 (some .int) ∈ UL := ⟨(ul_3 (k := 85) (by decide +kernel) rfl), (ul_1 (k := 11) (by decide +kernel) rfl), (ul_3 (k := 86) (by decide +kernel) rfl)⟩
theorem kX2_55 : Cond.constant RX2 55 (65535) ∈ UL := (ul_2 (k := 208) (by decide +kernel) rfl)
theorem kX9_148 : Cond.constant RX9 148 (-100000) ∈ UL := (ul_3 (k := 18) (by decide +kernel) rfl)
theorem kX8_62 : Cond.constant RX8 62 (1000000000) ∈ UL := (ul_3 (k := 95) (by decide +kernel) rfl)
theorem kJ6_265 : Cond.constant RJ6 265 (1431655765) ∈ UL := (ul_4 (k := 70) (by decide +kernel) rfl)
theorem kJ6_266 : Cond.constant RJ6 266 (858993459) ∈ UL := (ul_4 (k := 71) (by decide +kernel) rfl)
theorem kJ6_267 : Cond.constant RJ6 267 (252645135) ∈ UL := (ul_4 (k := 72) (by decide +kernel) rfl)
theorem kX0_69 : Cond.constant RX0 69 (2147483647) ∈ UL := (ul_4 (k := 73) (by decide +kernel) rfl)
theorem kX9_326 : Cond.constant RX9 326 (2147483647) ∈ UL := (ul_4 (k := 139) (by decide +kernel) rfl)
theorem kX9_281 : Cond.constant RX9 281 (65535) ∈ UL := (ul_4 (k := 147) (by decide +kernel) rfl)
theorem kX10_191 : Cond.constant RX10 191 (1048576) ∈ UL := (ul_5 (k := 172) (by decide +kernel) rfl)
theorem kX10_283 : Cond.constant RX10 283 (65536) ∈ UL := (ul_6 (k := 19) (by decide +kernel) rfl)
theorem kX10_311 : Cond.constant RX10 311 (-100000) ∈ UL := (ul_6 (k := 60) (by decide +kernel) rfl)
theorem kX10_333 : Cond.constant RX10 333 (1000000000) ∈ UL := (ul_6 (k := 111) (by decide +kernel) rfl)
theorem kX10_343 : Cond.constant RX10 343 (1000000) ∈ UL := (ul_6 (k := 120) (by decide +kernel) rfl)
theorem kX10_414 : Cond.constant RX10 414 (65535) ∈ UL := (ul_7 (k := 20) (by decide +kernel) rfl)
