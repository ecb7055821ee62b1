/-! what is done to a ford by calls, and what is told of it -/
theorem ly_o {G : Mem} {i a j : Nat} {x y s u : Int32} (h : ¬ j = i) : lyF G i x y s u a j = G a j := by
  unfold lyF
  rw [mset_ne (by first | exact nz1 (by decide) | exact nz2 (by decide) | exact nz1 (nzA hc0 (by decide)) | exact nz1 (nzE (by decide)) | exact nz1 (nzB hc0 (by decide)) | exact nz1 (nzC hc0 (by decide)) | exact nz1 (nzD hc0 (by decide)) | exact nz1 (nzF (by decide)) | exact nz1 (nzG (by decide)) | omega), mset_ne (by first | exact nz1 (by decide) | exact nz2 (by decide) | exact nz1 (nzA hc0 (by decide)) | exact nz1 (nzE (by decide)) | exact nz1 (nzB hc0 (by decide)) | exact nz1 (nzC hc0 (by decide)) | exact nz1 (nzD hc0 (by decide)) | exact nz1 (nzF (by decide)) | exact nz1 (nzG (by decide)) | omega), mset_ne (by first | exact nz1 (by decide) | exact nz2 (by decide) | exact nz1 (nzA hc0 (by decide)) | exact nz1 (nzE (by decide)) | exact nz1 (nzB hc0 (by decide)) | exact nz1 (nzC hc0 (by decide)) | exact nz1 (nzD hc0 (by decide)) | exact nz1 (nzF (by decide)) | exact nz1 (nzG (by decide)) | omega), mset_ne (by first | exact nz1 (by decide) | exact nz2 (by decide) | exact nz1 (nzA hc0 (by decide)) | exact nz1 (nzE (by decide)) | exact nz1 (nzB hc0 (by decide)) | exact nz1 (nzC hc0 (by decide)) | exact nz1 (nzD hc0 (by decide)) | exact nz1 (nzF (by decide)) | exact nz1 (nzG (by decide)) | omega), mset_ne (by first | exact nz1 (by decide) | exact nz2 (by decide) | exact nz1 (nzA hc0 (by decide)) | exact nz1 (nzE (by decide)) | exact nz1 (nzB hc0 (by decide)) | exact nz1 (nzC hc0 (by decide)) | exact nz1 (nzD hc0 (by decide)) | exact nz1 (nzF (by decide)) | exact nz1 (nzG (by decide)) | omega)]
theorem ly_0 {G : Mem} {i j : Nat} {x y s u : Int32} : lyF G i x y s u 0 j = G 0 j := by
  unfold lyF
  rw [mset_ne (by first | exact nz1 (by decide) | exact nz2 (by decide) | exact nz1 (nzA hc0 (by decide)) | exact nz1 (nzE (by decide)) | exact nz1 (nzB hc0 (by decide)) | exact nz1 (nzC hc0 (by decide)) | exact nz1 (nzD hc0 (by decide)) | exact nz1 (nzF (by decide)) | exact nz1 (nzG (by decide)) | omega), mset_ne (by first | exact nz1 (by decide) | exact nz2 (by decide) | exact nz1 (nzA hc0 (by decide)) | exact nz1 (nzE (by decide)) | exact nz1 (nzB hc0 (by decide)) | exact nz1 (nzC hc0 (by decide)) | exact nz1 (nzD hc0 (by decide)) | exact nz1 (nzF (by decide)) | exact nz1 (nzG (by decide)) | omega), mset_ne (by first | exact nz1 (by decide) | exact nz2 (by decide) | exact nz1 (nzA hc0 (by decide)) | exact nz1 (nzE (by decide)) | exact nz1 (nzB hc0 (by decide)) | exact nz1 (nzC hc0 (by decide)) | exact nz1 (nzD hc0 (by decide)) | exact nz1 (nzF (by decide)) | exact nz1 (nzG (by decide)) | omega), mset_ne (by first | exact nz1 (by decide) | exact nz2 (by decide) | exact nz1 (nzA hc0 (by decide)) | exact nz1 (nzE (by decide)) | exact nz1 (nzB hc0 (by decide)) | exact nz1 (nzC hc0 (by decide)) | exact nz1 (nzD hc0 (by decide)) | exact nz1 (nzF (by decide)) | exact nz1 (nzG (by decide)) | omega), mset_ne (by first | exact nz1 (by decide) | exact nz2 (by decide) | exact nz1 (nzA hc0 (by decide)) | exact nz1 (nzE (by decide)) | exact nz1 (nzB hc0 (by decide)) | exact nz1 (nzC hc0 (by decide)) | exact nz1 (nzD hc0 (by decide)) | exact nz1 (nzF (by decide)) | exact nz1 (nzG (by decide)) | omega)]
theorem ly_1 {G : Mem} {i : Nat} {x y s u : Int32} : lyF G i x y s u 1 i = x := by
  unfold lyF
  rw [mset_ne (by first | exact nz1 (by decide) | exact nz2 (by decide) | exact nz1 (nzA hc0 (by decide)) | exact nz1 (nzE (by decide)) | exact nz1 (nzB hc0 (by decide)) | exact nz1 (nzC hc0 (by decide)) | exact nz1 (nzD hc0 (by decide)) | exact nz1 (nzF (by decide)) | exact nz1 (nzG (by decide)) | omega), mset_ne (by first | exact nz1 (by decide) | exact nz2 (by decide) | exact nz1 (nzA hc0 (by decide)) | exact nz1 (nzE (by decide)) | exact nz1 (nzB hc0 (by decide)) | exact nz1 (nzC hc0 (by decide)) | exact nz1 (nzD hc0 (by decide)) | exact nz1 (nzF (by decide)) | exact nz1 (nzG (by decide)) | omega), mset_ne (by first | exact nz1 (by decide) | exact nz2 (by decide) | exact nz1 (nzA hc0 (by decide)) | exact nz1 (nzE (by decide)) | exact nz1 (nzB hc0 (by decide)) | exact nz1 (nzC hc0 (by decide)) | exact nz1 (nzD hc0 (by decide)) | exact nz1 (nzF (by decide)) | exact nz1 (nzG (by decide)) | omega), mset_eq]
theorem ly_2 {G : Mem} {i : Nat} {x y s u : Int32} : lyF G i x y s u 2 i = y := by
  unfold lyF
  rw [mset_ne (by first | exact nz1 (by decide) | exact nz2 (by decide) | exact nz1 (nzA hc0 (by decide)) | exact nz1 (nzE (by decide)) | exact nz1 (nzB hc0 (by decide)) | exact nz1 (nzC hc0 (by decide)) | exact nz1 (nzD hc0 (by decide)) | exact nz1 (nzF (by decide)) | exact nz1 (nzG (by decide)) | omega), mset_ne (by first | exact nz1 (by decide) | exact nz2 (by decide) | exact nz1 (nzA hc0 (by decide)) | exact nz1 (nzE (by decide)) | exact nz1 (nzB hc0 (by decide)) | exact nz1 (nzC hc0 (by decide)) | exact nz1 (nzD hc0 (by decide)) | exact nz1 (nzF (by decide)) | exact nz1 (nzG (by decide)) | omega), mset_eq]
theorem ly_3 {G : Mem} {i : Nat} {x y s u : Int32} : lyF G i x y s u 3 i = s := by
  unfold lyF
  rw [mset_ne (by first | exact nz1 (by decide) | exact nz2 (by decide) | exact nz1 (nzA hc0 (by decide)) | exact nz1 (nzE (by decide)) | exact nz1 (nzB hc0 (by decide)) | exact nz1 (nzC hc0 (by decide)) | exact nz1 (nzD hc0 (by decide)) | exact nz1 (nzF (by decide)) | exact nz1 (nzG (by decide)) | omega), mset_eq]
theorem ly_4 {G : Mem} {i : Nat} {x y s u : Int32} : lyF G i x y s u 4 i = 1 := by
  unfold lyF
  rw [mset_ne (by first | exact nz1 (by decide) | exact nz2 (by decide) | exact nz1 (nzA hc0 (by decide)) | exact nz1 (nzE (by decide)) | exact nz1 (nzB hc0 (by decide)) | exact nz1 (nzC hc0 (by decide)) | exact nz1 (nzD hc0 (by decide)) | exact nz1 (nzF (by decide)) | exact nz1 (nzG (by decide)) | omega), mset_ne (by first | exact nz1 (by decide) | exact nz2 (by decide) | exact nz1 (nzA hc0 (by decide)) | exact nz1 (nzE (by decide)) | exact nz1 (nzB hc0 (by decide)) | exact nz1 (nzC hc0 (by decide)) | exact nz1 (nzD hc0 (by decide)) | exact nz1 (nzF (by decide)) | exact nz1 (nzG (by decide)) | omega), mset_ne (by first | exact nz1 (by decide) | exact nz2 (by decide) | exact nz1 (nzA hc0 (by decide)) | exact nz1 (nzE (by decide)) | exact nz1 (nzB hc0 (by decide)) | exact nz1 (nzC hc0 (by decide)) | exact nz1 (nzD hc0 (by decide)) | exact nz1 (nzF (by decide)) | exact nz1 (nzG (by decide)) | omega), mset_ne (by first | exact nz1 (by decide) | exact nz2 (by decide) | exact nz1 (nzA hc0 (by decide)) | exact nz1 (nzE (by decide)) | exact nz1 (nzB hc0 (by decide)) | exact nz1 (nzC hc0 (by decide)) | exact nz1 (nzD hc0 (by decide)) | exact nz1 (nzF (by decide)) | exact nz1 (nzG (by decide)) | omega), mset_eq]
theorem ly_5 {G : Mem} {i : Nat} {x y s u : Int32} : lyF G i x y s u 5 i = u := by
  unfold lyF
  rw [mset_eq]
theorem ly_t {G : Mem} {i j : Nat} {x y s u : Int32} : tld (lyF G i x y s u) j ↔ (j = i ∨ tld G j) := by
  unfold tld
  by_cases c : j = i
  · rw [c, ly_4]
    exact ⟨fun _ => Or.inl rfl, fun _ => by decide⟩
  · rw [ly_o c]
    exact ⟨Or.inr, fun z => z.resolve_left c⟩
/-- a stone is laid where none is, or where it is itself -/
theorem gd_ly {G : Mem} {i : Nat} {x y s u : Int32} (h : GdF G) (hi : i < 40) (hx : 0 ≤ x.toInt ∧ x.toInt ≤ 39) (hy : 1 ≤ y.toInt ∧ y.toInt ≤ 20) (hs : 0 ≤ s.toInt ∧ s.toInt ≤ 9) (hu : u = 0 ∨ u = 1) (hn : ∀ k, k < 40 → ¬ k = i → ¬ (tld G k ∧ (G 1 k).toInt = x.toInt ∧ (G 2 k).toInt = y.toInt)) : GdF (lyF G i x y s u) := by
  obtain ⟨⟨h1, h2, h3⟩, h4, h5⟩ := h
  refine ⟨⟨fun j hj => ?_, fun j hj => ?_, fun j k hj hk tj tk e1 e2 => ?_⟩, by rw [ly_0, ly_0]; exact h4, fun j hj tj => ?_⟩
  · by_cases c : j = i
    · rw [c, ly_4]
      exact Or.inr (by decide)
    · rw [ly_o c]
      exact h1 j hj
  · by_cases c : j = i
    · rw [c, ly_5]
      exact b01_to hu
    · rw [ly_o c]
      exact h2 j hj
  · by_cases c : j = i
    · by_cases d : k = i
      · rw [c, d]
      · rw [c, ly_1, ly_o d] at e1
        rw [c, ly_2, ly_o d] at e2
        exact absurd ⟨(ly_t.mp tk).resolve_left d, e1.symm, e2.symm⟩ (hn k hk d)
    · by_cases d : k = i
      · rw [d, ly_1, ly_o c] at e1
        rw [d, ly_2, ly_o c] at e2
        exact absurd ⟨(ly_t.mp tj).resolve_left c, e1, e2⟩ (hn j hj c)
      · rw [ly_o c, ly_o d] at e1 e2
        exact h3 j k hj hk ((ly_t.mp tj).resolve_left c) ((ly_t.mp tk).resolve_left d) e1 e2
  · by_cases c : j = i
    · rw [c, ly_1, ly_2, ly_3]
      exact ⟨hx, hy, hs⟩
    · rw [ly_o c, ly_o c, ly_o c]
      exact h5 j hj ((ly_t.mp tj).resolve_left c)
theorem gd_tk {G : Mem} {i : Nat} (h : GdF G) : GdF (tkF G i) := by
  obtain ⟨⟨h1, h2, h3⟩, h4, h5⟩ := h
  have eo : ∀ a j, ¬ j = i → tkF G i a j = G a j := fun a j hj => if_neg (by omega)
  have ei : ∀ a, 1 ≤ a → a ≤ 5 → tkF G i a i = 0 := fun a a1 a2 => if_pos ⟨rfl, a1, a2⟩
  have e0 : ∀ j, tkF G i 0 j = G 0 j := fun j => if_neg (by omega)
  have et : ∀ j, tld (tkF G i) j → ¬ j = i ∧ tld G j := fun j hj => by
    unfold tld at hj
    by_cases c : j = i
    · rw [c, ei 4 (by omega) (by omega)] at hj
      exact absurd (by decide) hj
    · rw [eo 4 j c] at hj
      exact ⟨c, hj⟩
  have z0 : (0 : Int32).toInt = 0 := by decide
  refine ⟨⟨fun j hj => ?_, fun j hj => ?_, fun j k hj hk tj tk e1 e2 => ?_⟩, by rw [e0, e0]; exact h4, fun j hj tj => ?_⟩
  · by_cases c : j = i
    · rw [c, ei 4 (by omega) (by omega)]
      exact Or.inl z0
    · rw [eo 4 j c]
      exact h1 j hj
  · by_cases c : j = i
    · rw [c, ei 5 (by omega) (by omega)]
      exact Or.inl z0
    · rw [eo 5 j c]
      exact h2 j hj
  · have a := et j tj
    have b := et k tk
    rw [eo 1 j a.1, eo 1 k b.1] at e1
    rw [eo 2 j a.1, eo 2 k b.1] at e2
    exact h3 j k hj hk a.2 b.2 e1 e2
  · have a := et j tj
    rw [eo 1 j a.1, eo 2 j a.1, eo 3 j a.1]
    exact h5 j hj a.2
/-! relations: ford before, ford behind, answer -/
def StC (G : Mem) (i x y s : Int32) : Prop := (0 ≤ i.toInt ∧ i.toInt < 40) ∧ (0 ≤ x.toInt ∧ x.toInt ≤ 39) ∧ (1 ≤ y.toInt ∧ y.toInt ≤ 20) ∧ (0 ≤ s.toInt ∧ s.toInt ≤ 9) ∧ ((stA G x.toInt y.toInt 40 0).toInt = -1 ∨ (stA G x.toInt y.toInt 40 0).toInt = i.toInt)
def TlC (G : Mem) (i : Int32) : Prop := (0 ≤ i.toInt ∧ i.toInt < 40) ∧ tld G (ix i)
def OqP (C : Prop) (A B H : Mem) (a b r : Int32) : Prop := (C ∧ H = A ∧ r = a) ∨ (¬ C ∧ H = B ∧ r = b)
theorem op_fn {C : Prop} {A B H H' : Mem} {a b r r' : Int32} (h : OqP C A B H a b r) (h' : OqP C A B H' a b r') : H = H' ∧ r = r' := by
  rcases h with ⟨c, e1, e2⟩ | ⟨c, e1, e2⟩ <;> rcases h' with ⟨d, f1, f2⟩ | ⟨d, f1, f2⟩
  · exact ⟨e1.trans f1.symm, e2.trans f2.symm⟩
  · exact absurd c d
  · exact absurd d c
  · exact ⟨e1.trans f1.symm, e2.trans f2.symm⟩
theorem op_gd {C : Prop} {A B H : Mem} {a b r : Int32} (h : OqP C A B H a b r) (hA : C → GdF A) (hB : GdF B) : GdF H := by
  rcases h with ⟨c, e1, e2⟩ | ⟨c, e1, e2⟩
  · rw [e1]
    exact hA c
  · rw [e1]
    exact hB
theorem op_y {C : Prop} {A B H : Mem} {a b r : Int32} (c : C) (e1 : H = A) (e2 : r = a) : OqP C A B H a b r := Or.inl ⟨c, e1, e2⟩
theorem op_n {C : Prop} {A B H : Mem} {a b r : Int32} (c : ¬ C) (e1 : H = B) (e2 : r = b) : OqP C A B H a b r := Or.inr ⟨c, e1, e2⟩
def StP (G H : Mem) (r i x y s : Int32) : Prop := OqP (StC G i x y s) (lyF G (ix i) x y s 0) G H (nI 1) (nI 0) r
def TkP (G H : Mem) (r i : Int32) : Prop := OqP (TlC G i) (tkF G (ix i)) G H (nI 1) (nI 0) r
def UnP (G H : Mem) (r i v : Int32) : Prop := OqP (TlC G i) (mset G 5 (ix i) v) G H (nI 1) (nI 0) r
def SdP (G H : Mem) (r v : Int32) : Prop := OqP (0 ≤ v.toInt ∧ v.toInt ≤ 65535) (mset G 0 6 v) G H (nI 1) (nI 0) r
def NgP (R : Nat) (F : Nat → Int × Int) (tb : Tbl) (G H : Mem) (r v : Int32) : Prop := OqP (1 ≤ v.toInt ∧ v.toInt ≤ 60) (ngs R F tb v.toInt.toNat (G, nI 0, nI 0)).1 G H (ngs R F tb v.toInt.toNat (G, nI 0, nI 0)).2.1 (-1) r
theorem gd_st {G H : Mem} {r i x y s : Int32} (h : StP G H r i x y s) (hG : GdF G) : GdF H := op_gd h (fun c => by
  obtain ⟨c1, c2, c3, c4, c5⟩ := c
  refine gd_ly hG (ix40 c1.1 c1.2) c2 c3 c4 (Or.inl rfl) (fun k hk ki z => ?_)
  rcases stA_is (F := G) (x := x.toInt) (y := y.toInt) 40 0 rfl with q | ⟨m, m1, m2, m3, m4, m5, m6⟩
  · exact q.2 k (Nat.zero_le _) hk z
  · have e := hG.1.2.2 k m hk m2 z.1 m4 (z.2.1.trans m5.symm) (z.2.2.trans m6.symm)
    rw [m3, t_lit m (by omega)] at c5
    have f := t_ixn i c1.1
    omega) hG
theorem gd_take {G H : Mem} {r i : Int32} (h : TkP G H r i) (hG : GdF G) : GdF H := op_gd h (fun _ => gd_tk hG) hG
theorem gd_und {G H : Mem} {r i v : Int32} (h : UnP G H r i v) (hv : v = 0 ∨ v = 1) (hG : GdF G) : GdF H := op_gd h (fun _ => gd_5 hG hv) hG
theorem gd_sd {G H : Mem} {r v : Int32} (h : SdP G H r v) (hG : GdF G) : GdF H := op_gd h (fun c => gd_row hG (fun a i h1 h2 h3 => mset_ne (by first | exact nz1 (by decide) | exact nz2 (by decide) | exact nz1 (nzA hc0 (by decide)) | exact nz1 (nzE (by decide)) | exact nz1 (nzB hc0 (by decide)) | exact nz1 (nzC hc0 (by decide)) | exact nz1 (nzD hc0 (by decide)) | exact nz1 (nzF (by decide)) | exact nz1 (nzG (by decide)) | omega)) (by
  rw [mset_eq, mset_ne (by first | exact nz1 (by decide) | exact nz2 (by decide) | exact nz1 (nzA hc0 (by decide)) | exact nz1 (nzE (by decide)) | exact nz1 (nzB hc0 (by decide)) | exact nz1 (nzC hc0 (by decide)) | exact nz1 (nzD hc0 (by decide)) | exact nz1 (nzF (by decide)) | exact nz1 (nzG (by decide)) | omega)]
  exact ⟨c, hG.2.1.2⟩)) hG
theorem gd_ng {R : Nat} {F : Nat → Int × Int} {tb : Tbl} {G H : Mem} {r v : Int32} (h : NgP R F tb G H r v) (hG : GdF G) : GdF H := op_gd h (fun _ => gd_ngs _ _ hG) hG
/-! places of the class's rows -/
theorem fdc_tk {M N : Mem} {i : Nat} (h : i < 40) (e : N = mset M 5 i (vp_nar .boolean (nI 0))) : FdC N 1 = tkF (FdC M 1) i := by
  have z : rwC (mset M (1 + 4) i 0) 1 = mset (rwC M 1) 4 i 0 := rwC_set (by omega)
  have e0 : vp_nar .boolean (nI 0) = 0 := by decide
  rw [e, e0]
  exact (congrArg mskF z).trans (mk_take h)
theorem fdc_un {M N : Mem} {i : Nat} {v : Int32} (h : i < 40) (ht : tld (FdC M 1) i) (hv : v = 0 ∨ v = 1) (e : N = mset M 6 i (vp_nar .boolean v)) : FdC N 1 = mset (FdC M 1) 5 i v := by
  have z : rwC (mset M (1 + 5) i v) 1 = mset (rwC M 1) 5 i v := rwC_set (by omega)
  rw [e, nar01 hv]
  exact (congrArg mskF z).trans (mk_set h (by omega) (by omega) ht)
theorem fdc_sd {M N : Mem} {v : Int32} (e : N = mset M 1 6 v) : FdC N 1 = mset (FdC M 1) 0 6 v := by
  rw [e]
  unfold FdC
  rw [rwC_set0, mk_set0 (Or.inr rfl)]
theorem fdc_6 (M : Mem) (b : Nat) : FdC M b 0 6 = M b 6 := by
  unfold FdC
  rw [mk_0 (by omega)]
  rfl
theorem rwR_s4 {f : Nat → Int32} {i : Nat} {v : Int32} (h : i < 40) : rwR (upd f i v) = mset (rwR f) 4 i v := by
  have z := rwR_set (f := f) (a := 4) (v := v) h (by omega)
  have e : clR 4 + i = i := by
    show 0 + i = i
    exact Nat.zero_add i
  rw [e] at z
  exact z
theorem fdr_tk {M N : Mem} {i : Nat} (h : i < 40) (e : N 1 = upd (M 1) i (nI 0)) : FdR N 1 = tkF (FdR M 1) i := by
  have e0 : nI 0 = 0 := by decide
  unfold FdR
  rw [e, e0, rwR_s4 h, mk_take h]
theorem fdr_ly {M N : Mem} {i : Nat} {x y s u : Int32} (h : i < 40) (e : N 1 = upd (upd (upd (upd (upd (M 1) i (nI 1)) (40 + i) x) (80 + i) y) (120 + i) s) (160 + i) u) : FdR N 1 = lyF (FdR M 1) i x y s u := by
  have e0 : nI 1 = 1 := by decide
  have z1 : ∀ f, rwR (upd f (40 + i) x) = mset (rwR f) 1 i x := fun f => rwR_set (f := f) (a := 1) (v := x) h (by omega)
  have z2 : ∀ f, rwR (upd f (80 + i) y) = mset (rwR f) 2 i y := fun f => rwR_set (f := f) (a := 2) (v := y) h (by omega)
  have z3 : ∀ f, rwR (upd f (120 + i) s) = mset (rwR f) 3 i s := fun f => rwR_set (f := f) (a := 3) (v := s) h (by omega)
  have z5 : ∀ f, rwR (upd f (160 + i) u) = mset (rwR f) 5 i u := fun f => rwR_set (f := f) (a := 5) (v := u) h (by omega)
  unfold FdR
  rw [e, e0, z5, z3, z2, z1, rwR_s4 h, ← mk_lay h]
  rfl
theorem fdr_sd {M N : Mem} {v : Int32} (e : N 1 = upd (M 1) 201 v) : FdR N 1 = mset (FdR M 1) 0 6 v := by
  unfold FdR
  rw [e, fdr_draw]
theorem fdr_cp {M N : Mem} {k k2 : Nat} (h : ∀ j, j < 202 → N k2 j = M k j) : FdR N k2 = FdR M k := fdr_fr h
/-! stones are copied -/
def cpS (A B : Mem) : Mem := fun a i => if a = 0 then A 0 i else B a i
def CpR (N M : Mem) (b b2 n : Nat) : Prop := ∀ j, j < n → N (b + 4) j = vp_nar .boolean (M (b2 + 4) j) ∧ N (b + 1) j = M (b2 + 1) j ∧ N (b + 2) j = M (b2 + 2) j ∧ N (b + 3) j = M (b2 + 3) j ∧ N (b + 5) j = vp_nar .boolean (M (b2 + 5) j)
theorem cpr_0 {N M : Mem} {b b2 : Nat} : CpR N M b b2 (ix (nI 0)) := fun j hj => absurd hj (by rw [show ix (nI 0) = 0 from (by decide)]; omega)
theorem cpr_1 {N M M1 M2 M3 M4 M5 : Mem} {b b2 n : Nat} (h : CpR N M b b2 n) (hb : b2 + 6 ≤ b ∨ b + 6 ≤ b2) (ef : ∀ a, 1 ≤ a → a ≤ 5 → N (b2 + a) n = M (b2 + a) n) (e1 : M1 = mset N (b + 1) n (N (b2 + 1) n)) (e2 : M2 = mset M1 (b + 2) n (M1 (b2 + 2) n)) (e3 : M3 = mset M2 (b + 3) n (M2 (b2 + 3) n)) (e4 : M4 = mset M3 (b + 4) n (vp_nar .boolean (M3 (b2 + 4) n))) (e5 : M5 = mset M4 (b + 5) n (vp_nar .boolean (M4 (b2 + 5) n))) : CpR M5 M b b2 (n + 1) := fun j hj => by
  by_cases c : j = n
  · rw [c]
    refine ⟨?_, ?_, ?_, ?_, ?_⟩
    · rw [e5, mset_ne (by first | exact nz1 (by decide) | exact nz2 (by decide) | exact nz1 (nzA hc0 (by decide)) | exact nz1 (nzE (by decide)) | exact nz1 (nzB hc0 (by decide)) | exact nz1 (nzC hc0 (by decide)) | exact nz1 (nzD hc0 (by decide)) | exact nz1 (nzF (by decide)) | exact nz1 (nzG (by decide)) | omega), e4, mset_eq, e3, mset_ne (by first | exact nz1 (by decide) | exact nz2 (by decide) | exact nz1 (nzA hc0 (by decide)) | exact nz1 (nzE (by decide)) | exact nz1 (nzB hc0 (by decide)) | exact nz1 (nzC hc0 (by decide)) | exact nz1 (nzD hc0 (by decide)) | exact nz1 (nzF (by decide)) | exact nz1 (nzG (by decide)) | omega), e2, mset_ne (by first | exact nz1 (by decide) | exact nz2 (by decide) | exact nz1 (nzA hc0 (by decide)) | exact nz1 (nzE (by decide)) | exact nz1 (nzB hc0 (by decide)) | exact nz1 (nzC hc0 (by decide)) | exact nz1 (nzD hc0 (by decide)) | exact nz1 (nzF (by decide)) | exact nz1 (nzG (by decide)) | omega), e1, mset_ne (by first | exact nz1 (by decide) | exact nz2 (by decide) | exact nz1 (nzA hc0 (by decide)) | exact nz1 (nzE (by decide)) | exact nz1 (nzB hc0 (by decide)) | exact nz1 (nzC hc0 (by decide)) | exact nz1 (nzD hc0 (by decide)) | exact nz1 (nzF (by decide)) | exact nz1 (nzG (by decide)) | omega), ef 4 (by omega) (by omega)]
    · rw [e5, mset_ne (by first | exact nz1 (by decide) | exact nz2 (by decide) | exact nz1 (nzA hc0 (by decide)) | exact nz1 (nzE (by decide)) | exact nz1 (nzB hc0 (by decide)) | exact nz1 (nzC hc0 (by decide)) | exact nz1 (nzD hc0 (by decide)) | exact nz1 (nzF (by decide)) | exact nz1 (nzG (by decide)) | omega), e4, mset_ne (by first | exact nz1 (by decide) | exact nz2 (by decide) | exact nz1 (nzA hc0 (by decide)) | exact nz1 (nzE (by decide)) | exact nz1 (nzB hc0 (by decide)) | exact nz1 (nzC hc0 (by decide)) | exact nz1 (nzD hc0 (by decide)) | exact nz1 (nzF (by decide)) | exact nz1 (nzG (by decide)) | omega), e3, mset_ne (by first | exact nz1 (by decide) | exact nz2 (by decide) | exact nz1 (nzA hc0 (by decide)) | exact nz1 (nzE (by decide)) | exact nz1 (nzB hc0 (by decide)) | exact nz1 (nzC hc0 (by decide)) | exact nz1 (nzD hc0 (by decide)) | exact nz1 (nzF (by decide)) | exact nz1 (nzG (by decide)) | omega), e2, mset_ne (by first | exact nz1 (by decide) | exact nz2 (by decide) | exact nz1 (nzA hc0 (by decide)) | exact nz1 (nzE (by decide)) | exact nz1 (nzB hc0 (by decide)) | exact nz1 (nzC hc0 (by decide)) | exact nz1 (nzD hc0 (by decide)) | exact nz1 (nzF (by decide)) | exact nz1 (nzG (by decide)) | omega), e1, mset_eq, ef 1 (by omega) (by omega)]
    · rw [e5, mset_ne (by first | exact nz1 (by decide) | exact nz2 (by decide) | exact nz1 (nzA hc0 (by decide)) | exact nz1 (nzE (by decide)) | exact nz1 (nzB hc0 (by decide)) | exact nz1 (nzC hc0 (by decide)) | exact nz1 (nzD hc0 (by decide)) | exact nz1 (nzF (by decide)) | exact nz1 (nzG (by decide)) | omega), e4, mset_ne (by first | exact nz1 (by decide) | exact nz2 (by decide) | exact nz1 (nzA hc0 (by decide)) | exact nz1 (nzE (by decide)) | exact nz1 (nzB hc0 (by decide)) | exact nz1 (nzC hc0 (by decide)) | exact nz1 (nzD hc0 (by decide)) | exact nz1 (nzF (by decide)) | exact nz1 (nzG (by decide)) | omega), e3, mset_ne (by first | exact nz1 (by decide) | exact nz2 (by decide) | exact nz1 (nzA hc0 (by decide)) | exact nz1 (nzE (by decide)) | exact nz1 (nzB hc0 (by decide)) | exact nz1 (nzC hc0 (by decide)) | exact nz1 (nzD hc0 (by decide)) | exact nz1 (nzF (by decide)) | exact nz1 (nzG (by decide)) | omega), e2, mset_eq, e1, mset_ne (by first | exact nz1 (by decide) | exact nz2 (by decide) | exact nz1 (nzA hc0 (by decide)) | exact nz1 (nzE (by decide)) | exact nz1 (nzB hc0 (by decide)) | exact nz1 (nzC hc0 (by decide)) | exact nz1 (nzD hc0 (by decide)) | exact nz1 (nzF (by decide)) | exact nz1 (nzG (by decide)) | omega), ef 2 (by omega) (by omega)]
    · rw [e5, mset_ne (by first | exact nz1 (by decide) | exact nz2 (by decide) | exact nz1 (nzA hc0 (by decide)) | exact nz1 (nzE (by decide)) | exact nz1 (nzB hc0 (by decide)) | exact nz1 (nzC hc0 (by decide)) | exact nz1 (nzD hc0 (by decide)) | exact nz1 (nzF (by decide)) | exact nz1 (nzG (by decide)) | omega), e4, mset_ne (by first | exact nz1 (by decide) | exact nz2 (by decide) | exact nz1 (nzA hc0 (by decide)) | exact nz1 (nzE (by decide)) | exact nz1 (nzB hc0 (by decide)) | exact nz1 (nzC hc0 (by decide)) | exact nz1 (nzD hc0 (by decide)) | exact nz1 (nzF (by decide)) | exact nz1 (nzG (by decide)) | omega), e3, mset_eq, e2, mset_ne (by first | exact nz1 (by decide) | exact nz2 (by decide) | exact nz1 (nzA hc0 (by decide)) | exact nz1 (nzE (by decide)) | exact nz1 (nzB hc0 (by decide)) | exact nz1 (nzC hc0 (by decide)) | exact nz1 (nzD hc0 (by decide)) | exact nz1 (nzF (by decide)) | exact nz1 (nzG (by decide)) | omega), e1, mset_ne (by first | exact nz1 (by decide) | exact nz2 (by decide) | exact nz1 (nzA hc0 (by decide)) | exact nz1 (nzE (by decide)) | exact nz1 (nzB hc0 (by decide)) | exact nz1 (nzC hc0 (by decide)) | exact nz1 (nzD hc0 (by decide)) | exact nz1 (nzF (by decide)) | exact nz1 (nzG (by decide)) | omega), ef 3 (by omega) (by omega)]
    · rw [e5, mset_eq, e4, mset_ne (by first | exact nz1 (by decide) | exact nz2 (by decide) | exact nz1 (nzA hc0 (by decide)) | exact nz1 (nzE (by decide)) | exact nz1 (nzB hc0 (by decide)) | exact nz1 (nzC hc0 (by decide)) | exact nz1 (nzD hc0 (by decide)) | exact nz1 (nzF (by decide)) | exact nz1 (nzG (by decide)) | omega), e3, mset_ne (by first | exact nz1 (by decide) | exact nz2 (by decide) | exact nz1 (nzA hc0 (by decide)) | exact nz1 (nzE (by decide)) | exact nz1 (nzB hc0 (by decide)) | exact nz1 (nzC hc0 (by decide)) | exact nz1 (nzD hc0 (by decide)) | exact nz1 (nzF (by decide)) | exact nz1 (nzG (by decide)) | omega), e2, mset_ne (by first | exact nz1 (by decide) | exact nz2 (by decide) | exact nz1 (nzA hc0 (by decide)) | exact nz1 (nzE (by decide)) | exact nz1 (nzB hc0 (by decide)) | exact nz1 (nzC hc0 (by decide)) | exact nz1 (nzD hc0 (by decide)) | exact nz1 (nzF (by decide)) | exact nz1 (nzG (by decide)) | omega), e1, mset_ne (by first | exact nz1 (by decide) | exact nz2 (by decide) | exact nz1 (nzA hc0 (by decide)) | exact nz1 (nzE (by decide)) | exact nz1 (nzB hc0 (by decide)) | exact nz1 (nzC hc0 (by decide)) | exact nz1 (nzD hc0 (by decide)) | exact nz1 (nzF (by decide)) | exact nz1 (nzG (by decide)) | omega), ef 5 (by omega) (by omega)]
  · have o : ∀ a, M5 (b + a) j = N (b + a) j := fun a => by
      rw [e5, mset_ne (by first | exact nz1 (by decide) | exact nz2 (by decide) | exact nz1 (nzA hc0 (by decide)) | exact nz1 (nzE (by decide)) | exact nz1 (nzB hc0 (by decide)) | exact nz1 (nzC hc0 (by decide)) | exact nz1 (nzD hc0 (by decide)) | exact nz1 (nzF (by decide)) | exact nz1 (nzG (by decide)) | omega), e4, mset_ne (by first | exact nz1 (by decide) | exact nz2 (by decide) | exact nz1 (nzA hc0 (by decide)) | exact nz1 (nzE (by decide)) | exact nz1 (nzB hc0 (by decide)) | exact nz1 (nzC hc0 (by decide)) | exact nz1 (nzD hc0 (by decide)) | exact nz1 (nzF (by decide)) | exact nz1 (nzG (by decide)) | omega), e3, mset_ne (by first | exact nz1 (by decide) | exact nz2 (by decide) | exact nz1 (nzA hc0 (by decide)) | exact nz1 (nzE (by decide)) | exact nz1 (nzB hc0 (by decide)) | exact nz1 (nzC hc0 (by decide)) | exact nz1 (nzD hc0 (by decide)) | exact nz1 (nzF (by decide)) | exact nz1 (nzG (by decide)) | omega), e2, mset_ne (by first | exact nz1 (by decide) | exact nz2 (by decide) | exact nz1 (nzA hc0 (by decide)) | exact nz1 (nzE (by decide)) | exact nz1 (nzB hc0 (by decide)) | exact nz1 (nzC hc0 (by decide)) | exact nz1 (nzD hc0 (by decide)) | exact nz1 (nzF (by decide)) | exact nz1 (nzG (by decide)) | omega), e1, mset_ne (by first | exact nz1 (by decide) | exact nz2 (by decide) | exact nz1 (nzA hc0 (by decide)) | exact nz1 (nzE (by decide)) | exact nz1 (nzB hc0 (by decide)) | exact nz1 (nzC hc0 (by decide)) | exact nz1 (nzD hc0 (by decide)) | exact nz1 (nzF (by decide)) | exact nz1 (nzG (by decide)) | omega)]
    rw [o, o, o, o, o]
    exact h j (by omega)
theorem fdc_cp {N M : Mem} {b b2 : Nat} (h : CpR N M b b2 40) (hB : TdB (FdC M b2)) (hU : UdB (FdC M b2)) (e5 : N b 5 = M b 5) (e6 : N b 6 = M b 6) : FdC N b = cpS (FdC M b) (FdC M b2) := funext (fun a => funext (fun i => by
  unfold cpS
  by_cases c : a = 0
  · rw [if_pos c, c]
    by_cases d : i = 5 ∨ i = 6
    · unfold FdC
      rw [mk_0 d, mk_0 d]
      show N b i = M b i
      rcases d with d | d <;> rw [d]
      · exact e5
      · exact e6
    · unfold FdC mskF
      rw [if_pos rfl, if_neg d, if_pos rfl, if_neg d]
  · rw [if_neg c]
    by_cases d : i < 40 ∧ a ≤ 5
    · obtain ⟨h4, h1, h2, h3, h5⟩ := h i d.1
      have b4 := hB i d.1
      rw [fdc_4 d.1] at b4
      have n4 : N (b + 4) i = M (b2 + 4) i := h4.trans (nar01 (b01_of b4))
      have t4 : FdC N b 4 i = FdC M b2 4 i := by rw [fdc_4 d.1, fdc_4 d.1, n4]
      by_cases t : tld (FdC M b2) i
      · have t2 : tld (FdC N b) i := by
          unfold tld at t ⊢
          rw [t4]
          exact t
        rw [fdc_at d.1 (by omega) t, fdc_at d.1 (by omega) t2]
        rcases (show a = 1 ∨ a = 2 ∨ a = 3 ∨ a = 4 ∨ a = 5 by omega) with e | e | e | e | e <;> rw [e]
        · exact h1
        · exact h2
        · exact h3
        · exact n4
        · have b5 := hU i d.1
          rw [fdc_at d.1 (by omega) t] at b5
          exact h5.trans (nar01 (b01_of b5))
      · have z : ∀ (P : Mem) (k : Nat), (P (k + 4) i).toInt = 0 → FdC P k a i = (if a = 4 then P (k + 4) i else 0) := fun P k hp => by
          unfold FdC mskF
          rw [if_neg c, if_pos d]
          by_cases q : a = 4
          · rw [if_pos q, if_pos q]
            rfl
          · rw [if_neg q, if_neg q]
            exact if_pos hp
        have t0 : (M (b2 + 4) i).toInt = 0 := by
          unfold tld at t
          rw [fdc_4 d.1] at t
          exact Classical.byContradiction t
        rw [z M b2 t0, z N b (by rw [n4]; exact t0), n4]
    · unfold FdC mskF
      rw [if_neg c, if_neg d, if_neg c, if_neg d]))
def cpA (A B : Mem) : Prop := A = B
theorem cps_all {A B : Mem} (h5 : A 0 5 = B 0 5) (h6 : A 0 6 = B 0 6) (hA : ∀ i, ¬ i = 5 → ¬ i = 6 → A 0 i = B 0 i) : cpS A B = B := funext (fun a => funext (fun i => by
  unfold cpS
  by_cases c : a = 0
  · rw [if_pos c, c]
    by_cases d : i = 5
    · rw [d, h5]
    · by_cases e : i = 6
      · rw [e, h6]
      · exact hA i d e
  · exact if_neg c))
theorem fdc_0o {M : Mem} {b i : Nat} (h5 : ¬ i = 5) (h6 : ¬ i = 6) : FdC M b 0 i = 0 := by
  unfold FdC mskF
  rw [if_pos rfl, if_neg (by omega)]
/-! sums over the stones -/
def vlT (a : Nat) (G : Mem) (i : Nat) : Int32 := if (G 4 i).toInt = 0 then nI 0 else G a i
def smT (a : Nat) (G : Mem) : Nat → Int32
  | 0 => nI 0
  | n + 1 => smT a G n + vlT a G n
theorem sm_n {a : Nat} {G : Mem} {n : Nat} {v : Int32} (h : (G 4 n).toInt = 0) (hv : v = smT a G n) : v + nI 0 = smT a G (n + 1) := by
  rw [hv]
  show smT a G n + nI 0 = smT a G n + vlT a G n
  rw [show vlT a G n = nI 0 from if_pos h]
theorem sm_y {a : Nat} {G : Mem} {n : Nat} {v w : Int32} (h : ¬ (G 4 n).toInt = 0) (hv : v = smT a G n) (hw : w = G a n) : v + w = smT a G (n + 1) := by
  rw [hv, hw]
  show smT a G n + G a n = smT a G n + vlT a G n
  rw [show vlT a G n = G a n from if_neg h]
theorem b01y {x : Int32} (h : x.toInt = 0 ∨ x.toInt = 1) (h1 : ¬ x.toInt = 0) : nI 1 = x := by
  rcases b01_of h with rfl | rfl
  · exact absurd (by decide) h1
  · decide
theorem b01n {x : Int32} (h1 : x.toInt = 0) : nI 0 = x := t_of (by rw [h1]; exact nI0)
theorem cp_all {A B : Mem} {x y : Int32} (hA : ∀ i, ¬ i = 5 → ¬ i = 6 → A 0 i = B 0 i) (hx : x = B 0 5) (hy : y = B 0 6) : mset (mset (cpS A B) 0 5 x) 0 6 y = B := funext (fun a => funext (fun i => by
  by_cases c : a = 0
  · rw [c]
    by_cases e : i = 6
    · rw [e, mset_eq, hy]
    · rw [mset_ne (by first | exact nz1 (by decide) | exact nz2 (by decide) | exact nz1 (nzA hc0 (by decide)) | exact nz1 (nzE (by decide)) | exact nz1 (nzB hc0 (by decide)) | exact nz1 (nzC hc0 (by decide)) | exact nz1 (nzD hc0 (by decide)) | exact nz1 (nzF (by decide)) | exact nz1 (nzG (by decide)) | omega)]
      by_cases d : i = 5
      · rw [d, mset_eq, hx]
      · rw [mset_ne (by first | exact nz1 (by decide) | exact nz2 (by decide) | exact nz1 (nzA hc0 (by decide)) | exact nz1 (nzE (by decide)) | exact nz1 (nzB hc0 (by decide)) | exact nz1 (nzC hc0 (by decide)) | exact nz1 (nzD hc0 (by decide)) | exact nz1 (nzF (by decide)) | exact nz1 (nzG (by decide)) | omega)]
        exact (if_pos rfl).trans (hA i d e)
  · rw [mset_ne (by first | exact nz1 (by decide) | exact nz2 (by decide) | exact nz1 (nzA hc0 (by decide)) | exact nz1 (nzE (by decide)) | exact nz1 (nzB hc0 (by decide)) | exact nz1 (nzC hc0 (by decide)) | exact nz1 (nzD hc0 (by decide)) | exact nz1 (nzF (by decide)) | exact nz1 (nzG (by decide)) | omega), mset_ne (by first | exact nz1 (by decide) | exact nz2 (by decide) | exact nz1 (nzA hc0 (by decide)) | exact nz1 (nzE (by decide)) | exact nz1 (nzB hc0 (by decide)) | exact nz1 (nzC hc0 (by decide)) | exact nz1 (nzD hc0 (by decide)) | exact nz1 (nzF (by decide)) | exact nz1 (nzG (by decide)) | omega)]
    exact if_neg c))
theorem fdc_dr {M : Mem} {b : Nat} {v : Int32} : FdC (mset M b 6 v) b = mset (FdC M b) 0 6 v := by
  unfold FdC
  rw [rwC_set0, mk_set0 (Or.inr rfl)]
/-! what is told -/
def AtP (G : Mem) (r x y : Int32) : Prop := OqP ((0 ≤ x.toInt ∧ x.toInt ≤ 39) ∧ 1 ≤ y.toInt ∧ y.toInt ≤ 20) G G G (if (stA G x.toInt y.toInt 40 0).toInt = -1 then -2 else stA G x.toInt y.toInt 40 0) (-1) r
def siV (G : Mem) (i : Nat) (w : Int) : Int32 := if w = 0 then G 1 i else if w = 1 then G 2 i else if w = 2 then G 3 i else if w = 3 then G 5 i else if w = 4 then clF G i 40 else -1
def SiP (G : Mem) (r i w : Int32) : Prop := OqP (TlC G i) G G G (siV G (ix i) w.toInt) (-1) r
theorem si_0 {G : Mem} {i : Nat} {w : Int} (h : w = 0) : siV G i w = G 1 i := if_pos h
theorem si_1 {G : Mem} {i : Nat} {w : Int} (h : w = 1) : siV G i w = G 2 i := by
  unfold siV
  rw [if_neg (by omega), if_pos h]
theorem si_2 {G : Mem} {i : Nat} {w : Int} (h : w = 2) : siV G i w = G 3 i := by
  unfold siV
  rw [if_neg (by omega), if_neg (by omega), if_pos h]
theorem si_3 {G : Mem} {i : Nat} {w : Int} (h : w = 3) : siV G i w = G 5 i := by
  unfold siV
  rw [if_neg (by omega), if_neg (by omega), if_neg (by omega), if_pos h]
theorem si_4 {G : Mem} {i : Nat} {w : Int} (h : w = 4) : siV G i w = clF G i 40 := by
  unfold siV
  rw [if_neg (by omega), if_neg (by omega), if_neg (by omega), if_neg (by omega), if_pos h]
theorem si_5 {G : Mem} {i : Nat} {w : Int} (h : ¬ (0 ≤ w ∧ w ≤ 4)) : siV G i w = -1 := by
  unfold siV
  rw [if_neg (by omega), if_neg (by omega), if_neg (by omega), if_neg (by omega), if_neg (by omega)]
theorem ngs_4 {R : Nat} {F : Nat → Int × Int} {tb : Tbl} {j : Nat} : ∀ (n : Nat) (s : Mem × Int32 × Int32), (ngs R F tb n s).1 4 j = s.1 4 j := by
  have t4 : ∀ (G : Mem) (i : Nat), tnG R F tb G i 4 j = G 4 j := fun G i => by
    unfold tnG
    rw [mset_ne (by first | exact nz1 (by decide) | exact nz2 (by decide) | exact nz1 (nzA hc0 (by decide)) | exact nz1 (nzE (by decide)) | exact nz1 (nzB hc0 (by decide)) | exact nz1 (nzC hc0 (by decide)) | exact nz1 (nzD hc0 (by decide)) | exact nz1 (nzF (by decide)) | exact nz1 (nzG (by decide)) | omega), tn2_row (by omega)]
  have l4 : ∀ (n k : Nat) (s : Mem × Int32 × Int32), (nlp R F tb n k s).1 4 j = s.1 4 j := fun n => by
    induction n with
    | zero => exact fun _ _ => rfl
    | succ n ih =>
      intro k s
      refine (ih (k + 1) (stp R F tb s k)).trans ?_
      unfold stp
      by_cases c : (s.1 4 k).toInt = 0
      · rw [if_pos c]
      · rw [if_neg c]
        exact t4 s.1 k
  intro n
  induction n with
  | zero => exact fun _ => rfl
  | succ n ih =>
    intro s
    show (if 9999 ≤ (s.1 0 5).toInt then s else ngs R F tb n (nit R F tb s)).1 4 j = s.1 4 j
    by_cases c : 9999 ≤ (s.1 0 5).toInt
    · rw [if_pos c]
    · rw [if_neg c]
      refine (ih (nit R F tb s)).trans ?_
      have q := l4 40 0 s
      unfold nit
      generalize nlp R F tb 40 0 s = t at q ⊢
      have q2 : mset t.1 0 5 (t.1 0 5 + nI 1) 4 j = t.1 4 j := mset_ne (by first | exact nz1 (by decide) | exact nz2 (by decide) | exact nz1 (nzA hc0 (by decide)) | exact nz1 (nzE (by decide)) | exact nz1 (nzB hc0 (by decide)) | exact nz1 (nzC hc0 (by decide)) | exact nz1 (nzD hc0 (by decide)) | exact nz1 (nzF (by decide)) | exact nz1 (nzG (by decide)) | omega)
      exact q2.trans q
/-- nights that are tried -/
def TrC (G : Mem) (v w : Int32) : Prop := (1 ≤ v.toInt ∧ v.toInt ≤ 60) ∧ ((0 ≤ w.toInt ∧ w.toInt ≤ 3) ∨ TlC G (w - nI 100) ∨ TlC G (w - nI 200))
def trV (s : Mem × Int32 × Int32) (G : Mem) (w : Int32) : Int32 := if w.toInt = 0 then s.2.1 else if w.toInt = 1 then s.2.2 else if w.toInt = 2 then smT 5 s.1 40 else if w.toInt = 3 then smT 1 s.1 40 - smT 1 G 40 else if w.toInt < 200 then s.1 1 (ix (w - nI 100)) else s.1 2 (ix (w - nI 200))
def TrP (R : Nat) (F : Nat → Int × Int) (tb : Tbl) (G : Mem) (r v w : Int32) : Prop := OqP (TrC G v w) G G G (trV (ngs R F tb v.toInt.toNat (G, nI 0, nI 0)) G w) (-100000) r
theorem trv_0 {s : Mem × Int32 × Int32} {G : Mem} {w : Int32} (h : w.toInt = 0) : trV s G w = s.2.1 := if_pos h
theorem trv_1 {s : Mem × Int32 × Int32} {G : Mem} {w : Int32} (h : w.toInt = 1) : trV s G w = s.2.2 := by
  unfold trV
  rw [if_neg (by omega), if_pos h]
theorem trv_2 {s : Mem × Int32 × Int32} {G : Mem} {w : Int32} (h : w.toInt = 2) : trV s G w = smT 5 s.1 40 := by
  unfold trV
  rw [if_neg (by omega), if_neg (by omega), if_pos h]
theorem trv_3 {s : Mem × Int32 × Int32} {G : Mem} {w : Int32} (h : w.toInt = 3) : trV s G w = smT 1 s.1 40 - smT 1 G 40 := by
  unfold trV
  rw [if_neg (by omega), if_neg (by omega), if_neg (by omega), if_pos h]
theorem trv_x {s : Mem × Int32 × Int32} {G : Mem} {w : Int32} (h : 100 ≤ w.toInt ∧ w.toInt < 200) : trV s G w = s.1 1 (ix (w - nI 100)) := by
  unfold trV
  rw [if_neg (by omega), if_neg (by omega), if_neg (by omega), if_neg (by omega), if_pos h.2]
theorem trv_y {s : Mem × Int32 × Int32} {G : Mem} {w : Int32} (h : 200 ≤ w.toInt) : trV s G w = s.1 2 (ix (w - nI 200)) := by
  unfold trV
  rw [if_neg (by omega), if_neg (by omega), if_neg (by omega), if_neg (by omega), if_neg (by omega)]
theorem tl_100 {G : Mem} {w : Int32} (h : TlC G (w - nI 100)) : 100 ≤ w.toInt ∧ w.toInt < 140 := by
  have f := t_sub w (nI 100)
  have f2 := t_lit 100
  have z := h.1
  omega
theorem tl_200 {G : Mem} {w : Int32} (h : TlC G (w - nI 200)) : 200 ≤ w.toInt ∧ w.toInt < 240 := by
  have f := t_sub w (nI 200)
  have f2 := t_lit 200
  have z := h.1
  omega
/-- a place of the reference's row by its row's beginning -/
theorem fdr_v {M : Mem} {a i : Nat} {v y : Int32} (h : i < 40) (hy : ix y = i) (hy2 : 0 ≤ y.toInt ∧ y.toInt < 40) (ha : (a = 4 ∧ v = nI 0) ∨ (a = 1 ∧ v = nI 40) ∨ (a = 5 ∧ v = nI 160)) (ht : tld (FdR M 1) i) : M 1 (ix (v + y)) = FdR M 1 a i := by
  rcases ha with ⟨e, e2⟩ | ⟨e, e2⟩ | ⟨e, e2⟩ <;> rw [e, e2, ← hy]
  · rw [ixc hy2.1 hy2.2 (by omega), Nat.zero_add]
    exact (fdr_4 (by omega)).symm
  · rw [← hy] at ht
    exact fdr_x hy2.1 hy2.2 ht
  · rw [← hy] at ht
    exact fdr_u hy2.1 hy2.2 ht
