/-! a stone's turn in a night -/
def tn1 (G : Mem) : Mem := mset G 0 6 (drw (G 0 6))
def tnd (G : Mem) : Int32 := rm (drw (G 0 6)) (nI 10)
def tnA (R : Nat) (F : Nat → Int × Int) (tb : Tbl) (G : Mem) (i : Nat) (l : Int) : Int32 := amt F (vlF (tn1 G) i (tnd G)) tb l R 0
def tnX (R : Nat) (F : Nat → Int × Int) (tb : Tbl) (G : Mem) (i : Nat) : Int32 := gx (tn1 G) i (tnA R F tb G i 117 - tnA R F tb G i 100)
def tnY (R : Nat) (F : Nat → Int × Int) (tb : Tbl) (G : Mem) (i : Nat) : Int32 := gy (tn1 G) i (tnA R F tb G i 111 - tnA R F tb G i 98)
def tnH (R : Nat) (F : Nat → Int × Int) (tb : Tbl) (G : Mem) (i : Nat) : Nat := hwF (tn1 G) i (tnX R F tb G i) (tnY R F tb G i)
def tn2 (R : Nat) (F : Nat → Int × Int) (tb : Tbl) (G : Mem) (i : Nat) : Mem := shF (tn1 G) i (tnX R F tb G i) (tnY R F tb G i)
def tnG (R : Nat) (F : Nat → Int × Int) (tb : Tbl) (G : Mem) (i : Nat) : Mem := mset (tn2 R F tb G i) 5 i (snk F (vlF (tn2 R F tb G i) i (tnd G)) tb R 0)
theorem sh_row {G : Mem} {i a j : Nat} {x y : Int32} (h : ¬ a = 1 ∧ ¬ a = 2) : shF G i x y a j = G a j := by
  unfold shF
  by_cases c : hwF G i x y = 1
  · rw [if_pos c, mset_ne (by first | exact nz1 (by decide) | exact nz2 (by decide) | exact nz1 (nzA hc0 (by decide)) | exact nz1 (nzE (by decide)) | exact nz1 (nzB hc0 (by decide)) | exact nz1 (nzC hc0 (by decide)) | exact nz1 (nzD hc0 (by decide)) | exact nz1 (nzF (by decide)) | exact nz1 (nzG (by decide)) | omega), mset_ne (by first | exact nz1 (by decide) | exact nz2 (by decide) | exact nz1 (nzA hc0 (by decide)) | exact nz1 (nzE (by decide)) | exact nz1 (nzB hc0 (by decide)) | exact nz1 (nzC hc0 (by decide)) | exact nz1 (nzD hc0 (by decide)) | exact nz1 (nzF (by decide)) | exact nz1 (nzG (by decide)) | omega)]
  · rw [if_neg c]
theorem tn1_row {G : Mem} {a j : Nat} (h : ¬ a = 0) : tn1 G a j = G a j := mset_ne (by first | exact nz1 (by decide) | exact nz2 (by decide) | exact nz1 (nzA hc0 (by decide)) | exact nz1 (nzE (by decide)) | exact nz1 (nzB hc0 (by decide)) | exact nz1 (nzC hc0 (by decide)) | exact nz1 (nzD hc0 (by decide)) | exact nz1 (nzF (by decide)) | exact nz1 (nzG (by decide)) | omega)
theorem tn2_row {R : Nat} {F : Nat → Int × Int} {tb : Tbl} {G : Mem} {i a j : Nat} (h : ¬ a = 0 ∧ ¬ a = 1 ∧ ¬ a = 2) : tn2 R F tb G i a j = G a j := (sh_row ⟨h.2.1, h.2.2⟩).trans (tn1_row h.1)
theorem tld_1 {G : Mem} {i : Nat} : tld (tn1 G) i ↔ tld G i := by
  unfold tld
  rw [tn1_row (by omega)]
theorem tld_2 {R : Nat} {F : Nat → Int × Int} {tb : Tbl} {G : Mem} {i j : Nat} : tld (tn2 R F tb G i) j ↔ tld G j := by
  unfold tld
  rw [tn2_row (by omega)]
theorem udb_1 {G : Mem} (h : UdB G) : UdB (tn1 G) := fun j hj => by
  rw [tn1_row (by omega)]
  exact h j hj
theorem udb_2 {R : Nat} {F : Nat → Int × Int} {tb : Tbl} {G : Mem} {i : Nat} (h : UdB G) : UdB (tn2 R F tb G i) := fun j hj => by
  rw [tn2_row (by omega)]
  exact h j hj
def N5P (M : Mem) (c : Nat) (F : Nat → Int × Int) : Prop := (M c 9).toInt = 0 → ∀ k : Nat, (k : Int) < (M c 7).toInt → (F k).1 = 1 → ¬ (F k).2 = 5
theorem vlc_of {N : Mem} {c i : Nat} {F : Nat → Int × Int} {G : Mem} {d : Int32} (hN : ∀ j : Nat, j < 8 → ¬ j = 6 → (j = 5 → ¬ (N c 9).toInt = 0) → N 22 j = vlF G i d j) (h6 : N 22 6 = d) (hA : N5P N c F) : VlC N c F (vlF G i d) := fun k k1 k2 k3 => by
  by_cases c6 : (F k).2.toNat = 6
  · rw [c6, h6, vl_6]
  · refine hN _ (by omega) c6 (fun z => fun z2 => ?_)
    exact hA z2 k k1 k2 (by omega)
theorem n5_fr {M N : Mem} {c : Nat} {F : Nat → Int × Int} (h : N5P M c F) (e9 : N c 9 = M c 9) (e7 : N c 7 = M c 7) : N5P N c F := by
  unfold N5P
  rw [e9, e7]
  exact h
theorem snk_b {F : Nat → Int × Int} {V : Nat → Int32} {tb : Tbl} : ∀ (n r : Nat), snk F V tb n r = 0 ∨ snk F V tb n r = 1
  | 0, r => Or.inl (by show nI 0 = 0; decide)
  | n + 1, r => by
    show (if _ then nI 1 else snk F V tb n (r + 1)) = 0 ∨ (if _ then nI 1 else snk F V tb n (r + 1)) = 1
    by_cases c : (tb r).1 = 120 ∧ ¬ (hEv F V (tb r)).toInt = 0
    · rw [if_pos c]; exact Or.inr (by decide)
    · rw [if_neg c]; exact snk_b n (r + 1)
theorem nar01 {x : Int32} (h : x = 0 ∨ x = 1) : vp_nar .boolean x = x := by
  rcases h with rfl | rfl <;> decide

set_option maxHeartbeats 4000000 in
theorem o8_X5_turn {b : Nat} (hb : isF b) {c : Nat} (hc : isL c) (M : Mem) (v3 : Int32) (R : Nat) (F : Nat → Int × Int) (tb : Tbl) (hu : 0 ≤ v3.toInt ∧ v3.toInt < 40) (htl : tld (FdC M b) (ix v3)) (hU : UdB (FdC M b)) (hL : LwC M c R F tb) (hQ : LwQ R F tb) (hN : N5P M c F) : Wp (f_X5_turn b c M v3) (fun q => (∀ a i, ¬ ((a = 21 ∧ i = 1) ∨ (a = 21 ∧ i = 2) ∨ a = 22 ∨ a = (b + 1) ∨ a = (b + 2) ∨ a = (b + 5) ∨ a = (c + 3) ∨ (a = b ∧ i = 6)) → q a i = M a i) ∧ (FdC q b = tnG R F tb (FdC M b) (ix v3) ∧ q 21 1 = (if tnH R F tb (FdC M b) (ix v3) = 1 then M 21 1 + nI 1 else M 21 1) ∧ q 21 2 = (if tnH R F tb (FdC M b) (ix v3) = 2 then M 21 2 + nI 1 else M 21 2))) := by
  have hb0 : b = 1 ∨ b = 7 ∨ b = 13 := hb
  have hc0 : c = 44 ∨ c = 52 := hc
  refine wp_bind2 (o8_X2_isTold hb M v3) (fun r_1 he2 hq2 => ?_)
  obtain ⟨hz_r_1, hr_2, htd_2⟩ := hq2
  replace hr_2 : ¬ r_1.toInt = 0 → 0 ≤ v3.toInt ∧ v3.toInt < 40 := hr_2
  replace htd_2 : TdP r_1.toInt (FdC M b) v3 := htd_2
  refine wp_ite (fun c5 => ?_) (fun c5 => ?_)
  · exact wp_some ⟨(fun _ _ _ => rfl), (absurd ⟨hu, htl⟩ (td_n htd_2 c5))⟩
  · have i40 := ix40 hu.1 hu.2
    refine wp_cb2 (o8_X2_draw hb M) (fun r_2 M_3 he16 hq16 => ?_)
    obtain ⟨hg_M_3, hdr_16⟩ := hq16
    replace hdr_16 : FdC M_3 b = mset (FdC M b) 0 6 (drw ((FdC M b) 0 6)) ∧ r_2 = rm (drw ((FdC M b) 0 6)) (nI 10) := hdr_16
    replace hg_M_3 : ∀ a i, ¬ ((a = b ∧ i = 6)) → M_3 a i = M a i := by exact fun a i q0 => hg_M_3 a i (by first | decide | (rcases hc0 with h | h <;> rw [h] <;> simp; done) | (rcases hb0 with h | h | h <;> rw [h] <;> simp; done) | (simp; done) | omega)
    have f3 : FdC M_3 b = tn1 (FdC M b) := hdr_16.1
    have hL3 : LwC M_3 c R F tb := lwc_fr hL (fun a i q => hg_M_3 a i (by first | decide | (rcases hc0 with h | h <;> rw [h] <;> simp; done) | (rcases hb0 with h | h | h <;> rw [h] <;> simp; done) | (simp; done) | omega))
    have hN3 : N5P M_3 c F := n5_fr hN (hg_M_3 c 9 (by first | decide | (rcases hc0 with h | h <;> rw [h] <;> simp; done) | (rcases hb0 with h | h | h <;> rw [h] <;> simp; done) | (simp; done) | omega)) (hg_M_3 c 7 (by first | decide | (rcases hc0 with h | h <;> rw [h] <;> simp; done) | (rcases hb0 with h | h | h <;> rw [h] <;> simp; done) | (simp; done) | omega))
    have e2 : r_2 = tnd (FdC M b) := hdr_16.2
    refine wp_bnd (fun M_4 eM_4 => ?_)
    have f4 : FdC M_4 b = tn1 (FdC M b) := (fdc_fr (fun a i h1 h2 => by rw [eM_4, mset_ne (by first | exact nz1 (by decide) | exact nz2 (by decide) | exact nz1 (nzA hc0 (by decide)) | exact nz1 (nzE (by decide)) | exact nz1 (nzB hc0 (by decide)) | exact nz1 (nzC hc0 (by decide)) | exact nz1 (nzD hc0 (by decide)) | exact nz1 (nzF (by decide)) | exact nz1 (nzG (by decide)) | omega)])).trans f3
    have hL4 : LwC M_4 c R F tb := lwc_fr hL3 (fun a i q => by rw [eM_4, mset_ne (by first | exact nz1 (by decide) | exact nz2 (by decide) | exact nz1 (nzA hc0 (by decide)) | exact nz1 (nzE (by decide)) | exact nz1 (nzB hc0 (by decide)) | exact nz1 (nzC hc0 (by decide)) | exact nz1 (nzD hc0 (by decide)) | exact nz1 (nzF (by decide)) | exact nz1 (nzG (by decide)) | omega)])
    have hN4 : N5P M_4 c F := n5_fr hN3 (by rw [eM_4, mset_ne (by first | exact nz1 (by decide) | exact nz2 (by decide) | exact nz1 (nzA hc0 (by decide)) | exact nz1 (nzE (by decide)) | exact nz1 (nzB hc0 (by decide)) | exact nz1 (nzC hc0 (by decide)) | exact nz1 (nzD hc0 (by decide)) | exact nz1 (nzF (by decide)) | exact nz1 (nzG (by decide)) | omega)]) (by rw [eM_4, mset_ne (by first | exact nz1 (by decide) | exact nz2 (by decide) | exact nz1 (nzA hc0 (by decide)) | exact nz1 (nzE (by decide)) | exact nz1 (nzB hc0 (by decide)) | exact nz1 (nzC hc0 (by decide)) | exact nz1 (nzD hc0 (by decide)) | exact nz1 (nzF (by decide)) | exact nz1 (nzG (by decide)) | omega)])
    refine wp_bind2 (o8_X5_look hb hc M_4 v3 hu (by rw [f4]; exact tld_1.mpr htl) (by rw [f4]; exact udb_1 hU)) (fun M_5 he24 hq24 => ?_)
    obtain ⟨hg_M_5, hlk_24, h6_24⟩ := hq24
    replace hlk_24 : ∀ (d : Int32) (j : Nat), j < 8 → ¬ j = 6 → (j = 5 → ¬ (M_4 c 9).toInt = 0) → M_5 22 j = vlF (FdC M_4 b) (ix v3) d j := hlk_24
    replace h6_24 : M_5 22 6 = M_4 22 6 := h6_24
    replace hg_M_5 : ∀ a i, ¬ (a = 22) → M_5 a i = M_4 a i := by exact fun a i q0 => hg_M_5 a i (by first | decide | (rcases hc0 with h | h <;> rw [h] <;> simp; done) | (rcases hb0 with h | h | h <;> rw [h] <;> simp; done) | (simp; done) | omega)
    have hL5 : LwC M_5 c R F tb := lwc_fr hL4 (fun a i q => hg_M_5 a i (by first | decide | (rcases hc0 with h | h <;> rw [h] <;> simp; done) | (rcases hb0 with h | h | h <;> rw [h] <;> simp; done) | (simp; done) | omega))
    have hN5 : N5P M_5 c F := n5_fr hN4 (hg_M_5 c 9 (by first | decide | (rcases hc0 with h | h <;> rw [h] <;> simp; done) | (rcases hb0 with h | h | h <;> rw [h] <;> simp; done) | (simp; done) | omega)) (hg_M_5 c 7 (by first | decide | (rcases hc0 with h | h <;> rw [h] <;> simp; done) | (rcases hb0 with h | h | h <;> rw [h] <;> simp; done) | (simp; done) | omega))
    have f5 : FdC M_5 b = tn1 (FdC M b) := (fdc_fr (fun a i h1 h2 => hg_M_5 a i (by first | decide | (rcases hc0 with h | h <;> rw [h] <;> simp; done) | (rcases hb0 with h | h | h <;> rw [h] <;> simp; done) | (simp; done) | omega))).trans f4
    rw [f4] at hlk_24
    have hV5 : VlC M_5 c F (vlF (tn1 (FdC M b)) (ix v3) (tnd (FdC M b))) := vlc_of (fun j j1 j2 j3 => hlk_24 _ j j1 j2 (fun z => by rw [← hg_M_5 c 9 (by first | decide | (rcases hc0 with h | h <;> rw [h] <;> simp; done) | (rcases hb0 with h | h | h <;> rw [h] <;> simp; done) | (simp; done) | omega)]; exact j3 z)) (by rw [h6_24, eM_4, mset_eq, e2]) hN5
    refine wp_cb2 (o7_X3_amountOf hc M_5 (nI 117) R F tb (vlF (tn1 (FdC M b)) (ix v3) (tnd (FdC M b))) hL5 hQ hV5 (by decide)) (fun r_6 M_7 he34 hq34 => ?_)
    obtain ⟨hg_M_7, hr_34⟩ := hq34
    replace hr_34 : r_6 = amt F (vlF (tn1 (FdC M b)) (ix v3) (tnd (FdC M b))) tb (nI 117).toInt R 0 := hr_34
    have := t_lit 117
    replace hg_M_7 : ∀ a i, ¬ (a = (c + 3)) → M_7 a i = M_5 a i := by exact fun a i q0 => hg_M_7 a i (by first | decide | (rcases hc0 with h | h <;> rw [h] <;> simp; done) | (rcases hb0 with h | h | h <;> rw [h] <;> simp; done) | (simp; done) | omega)
    have hL7 : LwC M_7 c R F tb := lwc_fr hL5 (fun a i q => hg_M_7 a i (by first | decide | (rcases hc0 with h | h <;> rw [h] <;> simp; done) | (rcases hb0 with h | h | h <;> rw [h] <;> simp; done) | (simp; done) | omega))
    have hN7 : N5P M_7 c F := n5_fr hN5 (hg_M_7 c 9 (by first | decide | (rcases hc0 with h | h <;> rw [h] <;> simp; done) | (rcases hb0 with h | h | h <;> rw [h] <;> simp; done) | (simp; done) | omega)) (hg_M_7 c 7 (by first | decide | (rcases hc0 with h | h <;> rw [h] <;> simp; done) | (rcases hb0 with h | h | h <;> rw [h] <;> simp; done) | (simp; done) | omega))
    have f7 : FdC M_7 b = tn1 (FdC M b) := (fdc_fr (fun a i h1 h2 => hg_M_7 a i (by first | decide | (rcases hc0 with h | h <;> rw [h] <;> simp; done) | (rcases hb0 with h | h | h <;> rw [h] <;> simp; done) | (simp; done) | omega))).trans f5
    have hV7 : VlC M_7 c F (vlF (tn1 (FdC M b)) (ix v3) (tnd (FdC M b))) := fun k k1 k2 k3 => by
      rw [hg_M_7 c 7 (by first | decide | (rcases hc0 with h | h <;> rw [h] <;> simp; done) | (rcases hb0 with h | h | h <;> rw [h] <;> simp; done) | (simp; done) | omega)] at k1
      rw [hg_M_7 22 _ (by first | decide | (rcases hc0 with h | h <;> rw [h] <;> simp; done) | (rcases hb0 with h | h | h <;> rw [h] <;> simp; done) | (simp; done) | omega)]
      exact hV5 k k1 k2 k3
    refine wp_cb2 (o7_X3_amountOf hc M_7 (nI 100) R F tb (vlF (tn1 (FdC M b)) (ix v3) (tnd (FdC M b))) hL7 hQ hV7 (by decide)) (fun r_8 M_9 he44 hq44 => ?_)
    obtain ⟨hg_M_9, hr_44⟩ := hq44
    replace hr_44 : r_8 = amt F (vlF (tn1 (FdC M b)) (ix v3) (tnd (FdC M b))) tb (nI 100).toInt R 0 := hr_44
    have := t_lit 100
    replace hg_M_9 : ∀ a i, ¬ (a = (c + 3)) → M_9 a i = M_7 a i := by exact fun a i q0 => hg_M_9 a i (by first | decide | (rcases hc0 with h | h <;> rw [h] <;> simp; done) | (rcases hb0 with h | h | h <;> rw [h] <;> simp; done) | (simp; done) | omega)
    have hL9 : LwC M_9 c R F tb := lwc_fr hL7 (fun a i q => hg_M_9 a i (by first | decide | (rcases hc0 with h | h <;> rw [h] <;> simp; done) | (rcases hb0 with h | h | h <;> rw [h] <;> simp; done) | (simp; done) | omega))
    have hN9 : N5P M_9 c F := n5_fr hN7 (hg_M_9 c 9 (by first | decide | (rcases hc0 with h | h <;> rw [h] <;> simp; done) | (rcases hb0 with h | h | h <;> rw [h] <;> simp; done) | (simp; done) | omega)) (hg_M_9 c 7 (by first | decide | (rcases hc0 with h | h <;> rw [h] <;> simp; done) | (rcases hb0 with h | h | h <;> rw [h] <;> simp; done) | (simp; done) | omega))
    have f9 : FdC M_9 b = tn1 (FdC M b) := (fdc_fr (fun a i h1 h2 => hg_M_9 a i (by first | decide | (rcases hc0 with h | h <;> rw [h] <;> simp; done) | (rcases hb0 with h | h | h <;> rw [h] <;> simp; done) | (simp; done) | omega))).trans f7
    have hV9 : VlC M_9 c F (vlF (tn1 (FdC M b)) (ix v3) (tnd (FdC M b))) := fun k k1 k2 k3 => by
      rw [hg_M_9 c 7 (by first | decide | (rcases hc0 with h | h <;> rw [h] <;> simp; done) | (rcases hb0 with h | h | h <;> rw [h] <;> simp; done) | (simp; done) | omega)] at k1
      rw [hg_M_9 22 _ (by first | decide | (rcases hc0 with h | h <;> rw [h] <;> simp; done) | (rcases hb0 with h | h | h <;> rw [h] <;> simp; done) | (simp; done) | omega)]
      exact hV7 k k1 k2 k3
    refine wp_bnd (fun x_10 ex_10 => ?_)
    have ex10 : x_10 = tnA R F tb (FdC M b) (ix v3) 117 - tnA R F tb (FdC M b) (ix v3) 100 := by
      rw [ex_10, hr_34, hr_44, show (nI 117).toInt = 117 from t_lit 117, show (nI 100).toInt = 100 from t_lit 100]
      rfl
    refine wp_cb2 (o7_X3_amountOf hc M_9 (nI 111) R F tb (vlF (tn1 (FdC M b)) (ix v3) (tnd (FdC M b))) hL9 hQ hV9 (by decide)) (fun r_11 M_12 he57 hq57 => ?_)
    obtain ⟨hg_M_12, hr_57⟩ := hq57
    replace hr_57 : r_11 = amt F (vlF (tn1 (FdC M b)) (ix v3) (tnd (FdC M b))) tb (nI 111).toInt R 0 := hr_57
    have := t_lit 111
    replace hg_M_12 : ∀ a i, ¬ (a = (c + 3)) → M_12 a i = M_9 a i := by exact fun a i q0 => hg_M_12 a i (by first | decide | (rcases hc0 with h | h <;> rw [h] <;> simp; done) | (rcases hb0 with h | h | h <;> rw [h] <;> simp; done) | (simp; done) | omega)
    have hL12 : LwC M_12 c R F tb := lwc_fr hL9 (fun a i q => hg_M_12 a i (by first | decide | (rcases hc0 with h | h <;> rw [h] <;> simp; done) | (rcases hb0 with h | h | h <;> rw [h] <;> simp; done) | (simp; done) | omega))
    have hN12 : N5P M_12 c F := n5_fr hN9 (hg_M_12 c 9 (by first | decide | (rcases hc0 with h | h <;> rw [h] <;> simp; done) | (rcases hb0 with h | h | h <;> rw [h] <;> simp; done) | (simp; done) | omega)) (hg_M_12 c 7 (by first | decide | (rcases hc0 with h | h <;> rw [h] <;> simp; done) | (rcases hb0 with h | h | h <;> rw [h] <;> simp; done) | (simp; done) | omega))
    have f12 : FdC M_12 b = tn1 (FdC M b) := (fdc_fr (fun a i h1 h2 => hg_M_12 a i (by first | decide | (rcases hc0 with h | h <;> rw [h] <;> simp; done) | (rcases hb0 with h | h | h <;> rw [h] <;> simp; done) | (simp; done) | omega))).trans f9
    have hV12 : VlC M_12 c F (vlF (tn1 (FdC M b)) (ix v3) (tnd (FdC M b))) := fun k k1 k2 k3 => by
      rw [hg_M_12 c 7 (by first | decide | (rcases hc0 with h | h <;> rw [h] <;> simp; done) | (rcases hb0 with h | h | h <;> rw [h] <;> simp; done) | (simp; done) | omega)] at k1
      rw [hg_M_12 22 _ (by first | decide | (rcases hc0 with h | h <;> rw [h] <;> simp; done) | (rcases hb0 with h | h | h <;> rw [h] <;> simp; done) | (simp; done) | omega)]
      exact hV9 k k1 k2 k3
    refine wp_cb2 (o7_X3_amountOf hc M_12 (nI 98) R F tb (vlF (tn1 (FdC M b)) (ix v3) (tnd (FdC M b))) hL12 hQ hV12 (by decide)) (fun r_13 M_14 he67 hq67 => ?_)
    obtain ⟨hg_M_14, hr_67⟩ := hq67
    replace hr_67 : r_13 = amt F (vlF (tn1 (FdC M b)) (ix v3) (tnd (FdC M b))) tb (nI 98).toInt R 0 := hr_67
    have := t_lit 98
    replace hg_M_14 : ∀ a i, ¬ (a = (c + 3)) → M_14 a i = M_12 a i := by exact fun a i q0 => hg_M_14 a i (by first | decide | (rcases hc0 with h | h <;> rw [h] <;> simp; done) | (rcases hb0 with h | h | h <;> rw [h] <;> simp; done) | (simp; done) | omega)
    have hL14 : LwC M_14 c R F tb := lwc_fr hL12 (fun a i q => hg_M_14 a i (by first | decide | (rcases hc0 with h | h <;> rw [h] <;> simp; done) | (rcases hb0 with h | h | h <;> rw [h] <;> simp; done) | (simp; done) | omega))
    have hN14 : N5P M_14 c F := n5_fr hN12 (hg_M_14 c 9 (by first | decide | (rcases hc0 with h | h <;> rw [h] <;> simp; done) | (rcases hb0 with h | h | h <;> rw [h] <;> simp; done) | (simp; done) | omega)) (hg_M_14 c 7 (by first | decide | (rcases hc0 with h | h <;> rw [h] <;> simp; done) | (rcases hb0 with h | h | h <;> rw [h] <;> simp; done) | (simp; done) | omega))
    have f14 : FdC M_14 b = tn1 (FdC M b) := (fdc_fr (fun a i h1 h2 => hg_M_14 a i (by first | decide | (rcases hc0 with h | h <;> rw [h] <;> simp; done) | (rcases hb0 with h | h | h <;> rw [h] <;> simp; done) | (simp; done) | omega))).trans f12
    refine wp_bnd (fun x_15 ex_15 => ?_)
    have ex15 : x_15 = tnA R F tb (FdC M b) (ix v3) 111 - tnA R F tb (FdC M b) (ix v3) 98 := by
      rw [ex_15, hr_57, hr_67, show (nI 111).toInt = 111 from t_lit 111, show (nI 98).toInt = 98 from t_lit 98]
      rfl
    refine wp_bind2 (o8_X5_shift hb M_14 v3 x_10 x_15 hu (by rw [f14]; exact tld_1.mpr htl)) (fun M_16 he80 hq80 => ?_)
    obtain ⟨hg_M_16, hsh_80⟩ := hq80
    replace hsh_80 : FdC M_16 b = shF (FdC M_14 b) (ix v3) (gx (FdC M_14 b) (ix v3) x_10) (gy (FdC M_14 b) (ix v3) x_15) ∧ M_16 21 1 = (if hwF (FdC M_14 b) (ix v3) (gx (FdC M_14 b) (ix v3) x_10) (gy (FdC M_14 b) (ix v3) x_15) = 1 then M_14 21 1 + nI 1 else M_14 21 1) ∧ M_16 21 2 = (if hwF (FdC M_14 b) (ix v3) (gx (FdC M_14 b) (ix v3) x_10) (gy (FdC M_14 b) (ix v3) x_15) = 2 then M_14 21 2 + nI 1 else M_14 21 2) := hsh_80
    replace hg_M_16 : ∀ a i, ¬ ((a = 21 ∧ i = 1) ∨ (a = 21 ∧ i = 2) ∨ a = (b + 1) ∨ a = (b + 2)) → M_16 a i = M_14 a i := by exact fun a i q0 => hg_M_16 a i (by first | decide | (rcases hc0 with h | h <;> rw [h] <;> simp; done) | (rcases hb0 with h | h | h <;> rw [h] <;> simp; done) | (simp; done) | omega)
    rw [f14, ex10, ex15] at hsh_80
    have f16 : FdC M_16 b = tn2 R F tb (FdC M b) (ix v3) := hsh_80.1
    have hL16 : LwC M_16 c R F tb := lwc_fr hL14 (fun a i q => hg_M_16 a i (by first | decide | (rcases hc0 with h | h <;> rw [h] <;> simp; done) | (rcases hb0 with h | h | h <;> rw [h] <;> simp; done) | (simp; done) | omega))
    have hN16 : N5P M_16 c F := n5_fr hN14 (hg_M_16 c 9 (by first | decide | (rcases hc0 with h | h <;> rw [h] <;> simp; done) | (rcases hb0 with h | h | h <;> rw [h] <;> simp; done) | (simp; done) | omega)) (hg_M_16 c 7 (by first | decide | (rcases hc0 with h | h <;> rw [h] <;> simp; done) | (rcases hb0 with h | h | h <;> rw [h] <;> simp; done) | (simp; done) | omega))
    have m1 : M_14 21 1 = M 21 1 := by rw [hg_M_14 21 1 (by first | decide | (rcases hc0 with h | h <;> rw [h] <;> simp; done) | (rcases hb0 with h | h | h <;> rw [h] <;> simp; done) | (simp; done) | omega), hg_M_12 21 1 (by first | decide | (rcases hc0 with h | h <;> rw [h] <;> simp; done) | (rcases hb0 with h | h | h <;> rw [h] <;> simp; done) | (simp; done) | omega), hg_M_9 21 1 (by first | decide | (rcases hc0 with h | h <;> rw [h] <;> simp; done) | (rcases hb0 with h | h | h <;> rw [h] <;> simp; done) | (simp; done) | omega), hg_M_7 21 1 (by first | decide | (rcases hc0 with h | h <;> rw [h] <;> simp; done) | (rcases hb0 with h | h | h <;> rw [h] <;> simp; done) | (simp; done) | omega), hg_M_5 21 1 (by first | decide | (rcases hc0 with h | h <;> rw [h] <;> simp; done) | (rcases hb0 with h | h | h <;> rw [h] <;> simp; done) | (simp; done) | omega), eM_4, mset_ne (by first | exact nz1 (by decide) | exact nz2 (by decide) | exact nz1 (nzA hc0 (by decide)) | exact nz1 (nzE (by decide)) | exact nz1 (nzB hc0 (by decide)) | exact nz1 (nzC hc0 (by decide)) | exact nz1 (nzD hc0 (by decide)) | exact nz1 (nzF (by decide)) | exact nz1 (nzG (by decide)) | omega), hg_M_3 21 1 (by first | decide | (rcases hc0 with h | h <;> rw [h] <;> simp; done) | (rcases hb0 with h | h | h <;> rw [h] <;> simp; done) | (simp; done) | omega)]
    have m2 : M_14 21 2 = M 21 2 := by rw [hg_M_14 21 2 (by first | decide | (rcases hc0 with h | h <;> rw [h] <;> simp; done) | (rcases hb0 with h | h | h <;> rw [h] <;> simp; done) | (simp; done) | omega), hg_M_12 21 2 (by first | decide | (rcases hc0 with h | h <;> rw [h] <;> simp; done) | (rcases hb0 with h | h | h <;> rw [h] <;> simp; done) | (simp; done) | omega), hg_M_9 21 2 (by first | decide | (rcases hc0 with h | h <;> rw [h] <;> simp; done) | (rcases hb0 with h | h | h <;> rw [h] <;> simp; done) | (simp; done) | omega), hg_M_7 21 2 (by first | decide | (rcases hc0 with h | h <;> rw [h] <;> simp; done) | (rcases hb0 with h | h | h <;> rw [h] <;> simp; done) | (simp; done) | omega), hg_M_5 21 2 (by first | decide | (rcases hc0 with h | h <;> rw [h] <;> simp; done) | (rcases hb0 with h | h | h <;> rw [h] <;> simp; done) | (simp; done) | omega), eM_4, mset_ne (by first | exact nz1 (by decide) | exact nz2 (by decide) | exact nz1 (nzA hc0 (by decide)) | exact nz1 (nzE (by decide)) | exact nz1 (nzB hc0 (by decide)) | exact nz1 (nzC hc0 (by decide)) | exact nz1 (nzD hc0 (by decide)) | exact nz1 (nzF (by decide)) | exact nz1 (nzG (by decide)) | omega), hg_M_3 21 2 (by first | decide | (rcases hc0 with h | h <;> rw [h] <;> simp; done) | (rcases hb0 with h | h | h <;> rw [h] <;> simp; done) | (simp; done) | omega)]
    have d16 : M_16 22 6 = tnd (FdC M b) := by rw [hg_M_16 22 6 (by first | decide | (rcases hc0 with h | h <;> rw [h] <;> simp; done) | (rcases hb0 with h | h | h <;> rw [h] <;> simp; done) | (simp; done) | omega), hg_M_14 22 6 (by first | decide | (rcases hc0 with h | h <;> rw [h] <;> simp; done) | (rcases hb0 with h | h | h <;> rw [h] <;> simp; done) | (simp; done) | omega), hg_M_12 22 6 (by first | decide | (rcases hc0 with h | h <;> rw [h] <;> simp; done) | (rcases hb0 with h | h | h <;> rw [h] <;> simp; done) | (simp; done) | omega), hg_M_9 22 6 (by first | decide | (rcases hc0 with h | h <;> rw [h] <;> simp; done) | (rcases hb0 with h | h | h <;> rw [h] <;> simp; done) | (simp; done) | omega), hg_M_7 22 6 (by first | decide | (rcases hc0 with h | h <;> rw [h] <;> simp; done) | (rcases hb0 with h | h | h <;> rw [h] <;> simp; done) | (simp; done) | omega), h6_24, eM_4, mset_eq, e2]
    refine wp_bind2 (o8_X5_look hb hc M_16 v3 hu (by rw [f16]; exact tld_2.mpr htl) (by rw [f16]; exact udb_2 hU)) (fun M_17 he87 hq87 => ?_)
    obtain ⟨hg_M_17, hlk_87, h6_87⟩ := hq87
    replace hlk_87 : ∀ (d : Int32) (j : Nat), j < 8 → ¬ j = 6 → (j = 5 → ¬ (M_16 c 9).toInt = 0) → M_17 22 j = vlF (FdC M_16 b) (ix v3) d j := hlk_87
    replace h6_87 : M_17 22 6 = M_16 22 6 := h6_87
    replace hg_M_17 : ∀ a i, ¬ (a = 22) → M_17 a i = M_16 a i := by exact fun a i q0 => hg_M_17 a i (by first | decide | (rcases hc0 with h | h <;> rw [h] <;> simp; done) | (rcases hb0 with h | h | h <;> rw [h] <;> simp; done) | (simp; done) | omega)
    have f17 : FdC M_17 b = tn2 R F tb (FdC M b) (ix v3) := (fdc_fr (fun a i h1 h2 => hg_M_17 a i (by first | decide | (rcases hc0 with h | h <;> rw [h] <;> simp; done) | (rcases hb0 with h | h | h <;> rw [h] <;> simp; done) | (simp; done) | omega))).trans f16
    have hL17 : LwC M_17 c R F tb := lwc_fr hL16 (fun a i q => hg_M_17 a i (by first | decide | (rcases hc0 with h | h <;> rw [h] <;> simp; done) | (rcases hb0 with h | h | h <;> rw [h] <;> simp; done) | (simp; done) | omega))
    have hN17 : N5P M_17 c F := n5_fr hN16 (hg_M_17 c 9 (by first | decide | (rcases hc0 with h | h <;> rw [h] <;> simp; done) | (rcases hb0 with h | h | h <;> rw [h] <;> simp; done) | (simp; done) | omega)) (hg_M_17 c 7 (by first | decide | (rcases hc0 with h | h <;> rw [h] <;> simp; done) | (rcases hb0 with h | h | h <;> rw [h] <;> simp; done) | (simp; done) | omega))
    rw [f16] at hlk_87
    have hV17 : VlC M_17 c F (vlF (tn2 R F tb (FdC M b) (ix v3)) (ix v3) (tnd (FdC M b))) := vlc_of (fun j j1 j2 j3 => hlk_87 _ j j1 j2 (fun z => by rw [← hg_M_17 c 9 (by first | decide | (rcases hc0 with h | h <;> rw [h] <;> simp; done) | (rcases hb0 with h | h | h <;> rw [h] <;> simp; done) | (simp; done) | omega)]; exact j3 z)) (by rw [h6_87, d16]) hN17
    refine wp_cb2 (o7_X3_doesSink hc M_17 R F tb (vlF (tn2 R F tb (FdC M b) (ix v3)) (ix v3) (tnd (FdC M b))) hL17 hQ hV17) (fun r_18 M_19 he100 hq100 => ?_)
    obtain ⟨hz_r_18, hg_M_19, hr_100⟩ := hq100
    replace hr_100 : r_18 = snk F (vlF (tn2 R F tb (FdC M b) (ix v3)) (ix v3) (tnd (FdC M b))) tb R 0 := hr_100
    replace hg_M_19 : ∀ a i, ¬ (a = (c + 3)) → M_19 a i = M_17 a i := by exact fun a i q0 => hg_M_19 a i (by first | decide | (rcases hc0 with h | h <;> rw [h] <;> simp; done) | (rcases hb0 with h | h | h <;> rw [h] <;> simp; done) | (simp; done) | omega)
    have f19 : FdC M_19 b = tn2 R F tb (FdC M b) (ix v3) := (fdc_fr (fun a i h1 h2 => hg_M_19 a i (by first | decide | (rcases hc0 with h | h <;> rw [h] <;> simp; done) | (rcases hb0 with h | h | h <;> rw [h] <;> simp; done) | (simp; done) | omega))).trans f17
    refine wp_gd (by omega) ?_
    refine wp_bnd (fun M_20 eM_20 => ?_)
    exact wp_some ⟨(fun a i q0 => ((congrFun (congrFun eM_20 a) i).trans ((mset_ne (fun h9 => q0 (Or.inr (Or.inr (Or.inr (Or.inr (Or.inr (Or.inl (h9).1)))))))).trans ((hg_M_19 a i (fun h9 => q0 (Or.inr (Or.inr (Or.inr (Or.inr (Or.inr (Or.inr (Or.inl h9))))))))).trans ((hg_M_17 a i (fun h9 => q0 (Or.inr (Or.inr (Or.inl h9))))).trans ((hg_M_16 a i (fun z8 => q0 ((fun z9 => Or.elim z9 (fun h9 => Or.inl h9) (fun z9 => Or.elim z9 (fun h9 => Or.inr (Or.inl h9)) (fun z9 => Or.elim z9 (fun h9 => Or.inr (Or.inr (Or.inr (Or.inl h9)))) (fun h9 => Or.inr (Or.inr (Or.inr (Or.inr (Or.inl h9)))))))) z8))).trans ((hg_M_14 a i (fun h9 => q0 (Or.inr (Or.inr (Or.inr (Or.inr (Or.inr (Or.inr (Or.inl h9))))))))).trans ((hg_M_12 a i (fun h9 => q0 (Or.inr (Or.inr (Or.inr (Or.inr (Or.inr (Or.inr (Or.inl h9))))))))).trans ((hg_M_9 a i (fun h9 => q0 (Or.inr (Or.inr (Or.inr (Or.inr (Or.inr (Or.inr (Or.inl h9))))))))).trans ((hg_M_7 a i (fun h9 => q0 (Or.inr (Or.inr (Or.inr (Or.inr (Or.inr (Or.inr (Or.inl h9))))))))).trans ((hg_M_5 a i (fun h9 => q0 (Or.inr (Or.inr (Or.inl h9))))).trans ((congrFun (congrFun eM_4 a) i).trans ((mset_ne (fun h9 => q0 (Or.inr (Or.inr (Or.inl (h9).1))))).trans ((hg_M_3 a i (fun h9 => q0 (Or.inr (Or.inr (Or.inr (Or.inr (Or.inr (Or.inr (Or.inr (h9)))))))))).trans rfl)))))))))))))), (by show FdC M_20 b = tnG R F tb (FdC M b) (ix v3) ∧ M_20 21 1 = (if tnH R F tb (FdC M b) (ix v3) = 1 then M 21 1 + nI 1 else M 21 1) ∧ M_20 21 2 = (if tnH R F tb (FdC M b) (ix v3) = 2 then M 21 2 + nI 1 else M 21 2); refine ⟨?_, ?_, ?_⟩; (rw [show FdC M_20 b = mset (FdC M_19 b) 5 (ix v3) (vp_nar .boolean r_18) from (by have t19 : tld (FdC M_19 b) (ix v3) := (by rw [f19]; exact tld_2.mpr htl); unfold FdC at t19 ⊢; rw [eM_20, rwC_set (by omega), mk_set i40 (by omega) (by omega) t19]), f19, hr_100, nar01 (snk_b _ _)]; rfl); (rw [eM_20, mset_ne (by first | exact nz1 (by decide) | exact nz2 (by decide) | exact nz1 (nzA hc0 (by decide)) | exact nz1 (nzE (by decide)) | exact nz1 (nzB hc0 (by decide)) | exact nz1 (nzC hc0 (by decide)) | exact nz1 (nzD hc0 (by decide)) | exact nz1 (nzF (by decide)) | exact nz1 (nzG (by decide)) | omega), hg_M_19 21 1 (by first | decide | (rcases hc0 with h | h <;> rw [h] <;> simp; done) | (rcases hb0 with h | h | h <;> rw [h] <;> simp; done) | (simp; done) | omega), hg_M_17 21 1 (by first | decide | (rcases hc0 with h | h <;> rw [h] <;> simp; done) | (rcases hb0 with h | h | h <;> rw [h] <;> simp; done) | (simp; done) | omega), hsh_80.2.1, m1]; rfl); (rw [eM_20, mset_ne (by first | exact nz1 (by decide) | exact nz2 (by decide) | exact nz1 (nzA hc0 (by decide)) | exact nz1 (nzE (by decide)) | exact nz1 (nzB hc0 (by decide)) | exact nz1 (nzC hc0 (by decide)) | exact nz1 (nzD hc0 (by decide)) | exact nz1 (nzF (by decide)) | exact nz1 (nzG (by decide)) | omega), hg_M_19 21 2 (by first | decide | (rcases hc0 with h | h <;> rw [h] <;> simp; done) | (rcases hb0 with h | h | h <;> rw [h] <;> simp; done) | (simp; done) | omega), hg_M_17 21 2 (by first | decide | (rcases hc0 with h | h <;> rw [h] <;> simp; done) | (rcases hb0 with h | h | h <;> rw [h] <;> simp; done) | (simp; done) | omega), hsh_80.2.2, m2]; rfl))⟩
