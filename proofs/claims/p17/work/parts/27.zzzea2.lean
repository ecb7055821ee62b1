/-! hold: the room of the split net; the reference's search for one more way -/
def edG (G : Mem) (s : Int) (u v : Nat) : Prop := (u = 80 ∧ v < 40 ∧ nearG G s v) ∨ (u < 40 ∧ v = u + 40 ∧ dryG G u) ∨ ((40 ≤ u ∧ u < 80) ∧ v = 81 ∧ farG G s (u - 40)) ∨ ((40 ≤ u ∧ u < 80) ∧ (v < 40 ∧ ¬ v = u - 40) ∧ adjG G s (u - 40) v)
def edA (u v : Nat) : Prop := (u = 80 ∧ v < 40) ∨ (u < 40 ∧ v = u + 40) ∨ ((40 ≤ u ∧ u < 80) ∧ v = 81) ∨ ((40 ≤ u ∧ u < 80) ∧ (v < 40 ∧ ¬ v = u - 40))
theorem ed_a {G : Mem} {s : Int} {u v : Nat} (h : edG G s u v) : edA u v := by
  unfold edA
  rcases h with h | h | h | h
  · exact Or.inl ⟨h.1, h.2.1⟩
  · exact Or.inr (Or.inl ⟨h.1, h.2.1⟩)
  · exact Or.inr (Or.inr (Or.inl ⟨h.1, h.2.1⟩))
  · exact Or.inr (Or.inr (Or.inr ⟨h.1, h.2.1⟩))
noncomputable def cpG (G : Mem) (s : Int) (u v : Nat) : Int := @ite Int (edG G s u v) (Classical.propDecidable _) 1 0
theorem cp_1 {G : Mem} {s : Int} {u v : Nat} (h : edG G s u v) : cpG G s u v = 1 := by
  unfold cpG
  exact if_pos h
theorem cp_0 {G : Mem} {s : Int} {u v : Nat} (h : ¬ edG G s u v) : cpG G s u v = 0 := by
  unfold cpG
  exact if_neg h
theorem cp_b {G : Mem} {s : Int} {u v : Nat} : 0 ≤ cpG G s u v ∧ cpG G s u v ≤ 1 := by
  rcases Classical.em (edG G s u v) with h | h
  · rw [cp_1 h]
    omega
  · rw [cp_0 h]
    omega
def InD (M : Mem) (E : Nat → Nat → Prop) : Prop := ∀ u v, u < 82 → v < 82 → (E u v → (M 28 (82 * u + v)).toInt = 1) ∧ (¬ E u v → (M 28 (82 * u + v)).toInt = 0)
theorem in_k {M : Mem} {E F : Nat → Nat → Prop} (h : InD M E) (e : ∀ u v, u < 82 → v < 82 → (F u v ↔ E u v)) : InD M F := fun u v hu hv => ⟨fun z => (h u v hu hv).1 ((e u v hu hv).mp z), fun z => (h u v hu hv).2 (fun q => z ((e u v hu hv).mpr q))⟩
theorem in_w {M M1 : Mem} {E F : Nat → Nat → Prop} {x y z : Nat} (h : InD M E) (hy : y < 82) (hz : z = 82 * x + y) (em : M1 = mset M 28 z (vp_nar .byte (nI 1))) (e : ∀ u v, u < 82 → v < 82 → (F u v ↔ E u v ∨ (u = x ∧ v = y))) : InD M1 F := fun u v hu hv => by
  have n1 : (vp_nar .byte (nI 1)).toInt = 1 := by decide
  by_cases q : u = x ∧ v = y
  · rw [em, q.1, q.2, hz, mset_eq]
    exact ⟨fun _ => n1, fun w => absurd ((e x y (by omega) hy).mpr (Or.inr ⟨rfl, rfl⟩)) w⟩
  · rw [em, mset_ne (by first | exact nz1 (by decide) | exact nz2 (by decide) | exact nz1 (nzA hc0 (by decide)) | exact nz1 (nzE (by decide)) | exact nz1 (nzB hc0 (by decide)) | exact nz1 (nzC hc0 (by decide)) | exact nz1 (nzD hc0 (by decide)) | exact nz1 (nzF (by decide)) | exact nz1 (nzG (by decide)) | omega)]
    exact ⟨fun w => (h u v hu hv).1 (((e u v hu hv).mp w).resolve_right q), fun w => (h u v hu hv).2 (fun p => w ((e u v hu hv).mpr (Or.inl p)))⟩
/-- what is written when k of stone n's cells are, and m of its steps -/
def stW (n k m u v : Nat) : Prop := (u < 40 ∧ (u < n ∨ (u = n ∧ 1 ≤ k))) ∨ (u = 80 ∧ (v < n ∨ (v = n ∧ 2 ≤ k))) ∨ ((40 ≤ u ∧ u < 80) ∧ (u < n + 40 ∨ (u = n + 40 ∧ 3 ≤ k ∧ (v = 81 ∨ v < m))))
def edS (G : Mem) (s : Int) (n k m : Nat) (u v : Nat) : Prop := edG G s u v ∧ stW n k m u v
theorem es_y {G : Mem} {s : Int} {M M1 : Mem} {n k m n' k' m' x y z : Nat} (h : InD M (edS G s n k m)) (hy : y < 82) (hz : z = 82 * x + y) (em : M1 = mset M 28 z (vp_nar .byte (nI 1))) (hd : edG G s x y) (hb : stW n' k' m' x y) (e1 : ∀ u v, edA u v → stW n k m u v → stW n' k' m' u v) (e2 : ∀ u v, edA u v → stW n' k' m' u v → stW n k m u v ∨ (u = x ∧ v = y)) : InD M1 (edS G s n' k' m') := in_w h hy hz em (fun u v hu hv => ⟨fun w => (e2 u v (ed_a w.1) w.2).elim (fun q => Or.inl ⟨w.1, q⟩) Or.inr, fun w => w.elim (fun q => ⟨q.1, e1 u v (ed_a q.1) q.2⟩) (fun q => by rw [q.1, q.2]; exact ⟨hd, hb⟩)⟩)
theorem es_n {G : Mem} {s : Int} {M : Mem} {n k m n' k' m' x y : Nat} (h : InD M (edS G s n k m)) (hd : ¬ edG G s x y) (e1 : ∀ u v, edA u v → stW n k m u v → stW n' k' m' u v) (e2 : ∀ u v, edA u v → stW n' k' m' u v → stW n k m u v ∨ (u = x ∧ v = y)) : InD M (edS G s n' k' m') := in_k h (fun u v hu hv => ⟨fun w => ⟨w.1, (e2 u v (ed_a w.1) w.2).elim id (fun q => absurd (by rw [← q.1, ← q.2]; exact w.1) hd)⟩, fun w => ⟨w.1, e1 u v (ed_a w.1) w.2⟩⟩)
theorem rs_0 {G : Mem} {s : Int} {M : Mem} (h : ∀ j : Nat, j < 6724 → (M 28 j).toInt = 0) : InD M (edS G s 0 0 0) := fun u v hu hv => ⟨fun w => by
  have a := ed_a w.1
  have b := w.2
  unfold stW at b
  unfold edA at a
  omega, fun _ => h _ (by omega)⟩
theorem ed_d {G : Mem} {s : Int} {u v n : Nat} (h : edG G s u v) (a : (u < 40 ∧ u = n) ∨ (u = 80 ∧ v = n) ∨ ((40 ≤ u ∧ u < 80) ∧ u = n + 40)) : dryG G n := by
  rcases h with h | h | h | h
  · rw [show n = v from by omega]
    exact h.2.2.1
  · rw [show n = u from by omega]
    exact h.2.2
  · rw [show n = u - 40 from by omega]
    exact h.2.2.1
  · rw [show n = u - 40 from by omega]
    exact h.2.2.1
theorem rs_n {G : Mem} {s : Int} {M : Mem} {n : Nat} (h : InD M (edS G s n 0 0)) (hd : ¬ dryG G n) : InD M (edS G s (n + 1) 0 0) := in_k h (fun u v hu hv => ⟨fun w => ⟨w.1, by
  have a := ed_a w.1
  have b := w.2
  have c : ¬ ((u < 40 ∧ u = n) ∨ (u = 80 ∧ v = n) ∨ ((40 ≤ u ∧ u < 80) ∧ u = n + 40)) := fun q => hd (ed_d w.1 q)
  unfold stW at b ⊢
  unfold edA at a
  omega⟩, fun w => ⟨w.1, by
  have a := ed_a w.1
  have b := w.2
  unfold stW at b ⊢
  unfold edA at a
  omega⟩⟩)
theorem st_e1 {n u v : Nat} (_a : edA u v) (b : stW n 0 0 u v) : stW n 1 0 u v := by
  unfold stW at b ⊢
  omega
theorem st_e2 {n u v : Nat} (a : edA u v) (b : stW n 1 0 u v) : stW n 0 0 u v ∨ (u = n ∧ v = n + 40) := by
  unfold stW at b ⊢
  unfold edA at a
  omega
theorem rs_1 {G : Mem} {s : Int} {M M1 : Mem} {n z : Nat} (h : InD M (edS G s n 0 0)) (hn : n < 40) (hd : dryG G n) (hz : z = 82 * n + (n + 40)) (em : M1 = mset M 28 z (vp_nar .byte (nI 1))) : InD M1 (edS G s n 1 0) := es_y h (by omega) hz em (Or.inr (Or.inl ⟨hn, rfl, hd⟩)) (by unfold stW; omega) (fun _ _ a b => st_e1 a b) (fun _ _ a b => st_e2 a b)
theorem st_e3 {n u v : Nat} (_a : edA u v) (b : stW n 1 0 u v) : stW n 2 0 u v := by
  unfold stW at b ⊢
  omega
theorem st_e4 {n u v : Nat} (a : edA u v) (b : stW n 2 0 u v) : stW n 1 0 u v ∨ (u = 80 ∧ v = n) := by
  unfold stW at b ⊢
  unfold edA at a
  omega
theorem ed_80 {G : Mem} {s : Int} {n : Nat} : edG G s 80 n → nearG G s n := fun h => by
  rcases h with h | h | h | h
  · exact h.2.2
  · exact absurd h.1 (by omega)
  · exact absurd h.1 (by omega)
  · exact absurd h.1 (by omega)
theorem rs_2y {G : Mem} {s : Int} {M M1 : Mem} {n z : Nat} (h : InD M (edS G s n 1 0)) (hn : n < 40) (hd : nearG G s n) (hz : z = 82 * 80 + n) (em : M1 = mset M 28 z (vp_nar .byte (nI 1))) : InD M1 (edS G s n 2 0) := es_y h (by omega) hz em (Or.inl ⟨rfl, hn, hd⟩) (by unfold stW; omega) (fun _ _ a b => st_e3 a b) (fun _ _ a b => st_e4 a b)
theorem rs_2n {G : Mem} {s : Int} {M : Mem} {n : Nat} (h : InD M (edS G s n 1 0)) (hd : ¬ nearG G s n) : InD M (edS G s n 2 0) := es_n (x := 80) (y := n) h (fun z => hd (ed_80 z)) (fun _ _ a b => st_e3 a b) (fun _ _ a b => st_e4 a b)
theorem st_e5 {n u v : Nat} (_a : edA u v) (b : stW n 2 0 u v) : stW n 3 0 u v := by
  unfold stW at b ⊢
  omega
theorem st_e6 {n u v : Nat} (a : edA u v) (b : stW n 3 0 u v) : stW n 2 0 u v ∨ (u = n + 40 ∧ v = 81) := by
  unfold stW at b ⊢
  unfold edA at a
  omega
theorem ed_81 {G : Mem} {s : Int} {n : Nat} : edG G s (n + 40) 81 → farG G s n := fun h => by
  rcases h with h | h | h | h
  · exact absurd h.2.1 (by omega)
  · exact absurd h.1 (by omega)
  · have z := h.2.2
    rw [show n + 40 - 40 = n from by omega] at z
    exact z
  · exact absurd h.2.1.1 (by omega)
theorem rs_3y {G : Mem} {s : Int} {M M1 : Mem} {n z : Nat} (h : InD M (edS G s n 2 0)) (hn : n < 40) (hd : farG G s n) (hz : z = 82 * (n + 40) + 81) (em : M1 = mset M 28 z (vp_nar .byte (nI 1))) : InD M1 (edS G s n 3 0) := es_y h (by omega) hz em (Or.inr (Or.inr (Or.inl ⟨by omega, rfl, by rw [show n + 40 - 40 = n from by omega]; exact hd⟩))) (by unfold stW; omega) (fun _ _ a b => st_e5 a b) (fun _ _ a b => st_e6 a b)
theorem rs_3n {G : Mem} {s : Int} {M : Mem} {n : Nat} (h : InD M (edS G s n 2 0)) (hd : ¬ farG G s n) : InD M (edS G s n 3 0) := es_n (x := n + 40) (y := 81) h (fun z => hd (ed_81 z)) (fun _ _ a b => st_e5 a b) (fun _ _ a b => st_e6 a b)
theorem st_e7 {n m u v : Nat} (_a : edA u v) (b : stW n 3 m u v) : stW n 3 (m + 1) u v := by
  unfold stW at b ⊢
  omega
theorem st_e8 {n m u v : Nat} (_a : edA u v) (b : stW n 3 (m + 1) u v) : stW n 3 m u v ∨ (u = n + 40 ∧ v = m) := by
  unfold stW at b ⊢
  omega
theorem ed_st {G : Mem} {s : Int} {n m : Nat} (hn : n < 40) (hm : m < 40) : edG G s (n + 40) m → ¬ m = n ∧ adjG G s n m := fun h => by
  rcases h with h | h | h | h
  · exact absurd h.1 (by omega)
  · exact absurd h.1 (by omega)
  · exact absurd h.2.1 (by omega)
  · have z := h.2.2
    rw [show n + 40 - 40 = n from by omega] at z
    exact ⟨by omega, z⟩
theorem rs_4y {G : Mem} {s : Int} {M M1 : Mem} {n m z : Nat} (h : InD M (edS G s n 3 m)) (hn : n < 40) (hm : m < 40) (hq : ¬ m = n) (hd : adjG G s n m) (hz : z = 82 * (n + 40) + m) (em : M1 = mset M 28 z (vp_nar .byte (nI 1))) : InD M1 (edS G s n 3 (m + 1)) := es_y h (by omega) hz em (Or.inr (Or.inr (Or.inr ⟨by omega, by omega, by rw [show n + 40 - 40 = n from by omega]; exact hd⟩))) (by unfold stW; omega) (fun _ _ a b => st_e7 a b) (fun _ _ a b => st_e8 a b)
theorem rs_4n {G : Mem} {s : Int} {M : Mem} {n m : Nat} (h : InD M (edS G s n 3 m)) (hn : n < 40) (hm : m < 40) (hd : ¬ (¬ m = n ∧ adjG G s n m)) : InD M (edS G s n 3 (m + 1)) := es_n (x := n + 40) (y := m) h (fun z => hd (ed_st hn hm z)) (fun _ _ a b => st_e7 a b) (fun _ _ a b => st_e8 a b)
theorem rs_5 {G : Mem} {s : Int} {M : Mem} {n m : Nat} (h : InD M (edS G s n 3 m)) (hm : m = 40) : InD M (edS G s (n + 1) 0 0) := in_k h (fun u v hu hv => ⟨fun w => ⟨w.1, by
  have a := ed_a w.1
  have b := w.2
  unfold stW at b ⊢
  unfold edA at a
  omega⟩, fun w => ⟨w.1, by
  have a := ed_a w.1
  have b := w.2
  unfold stW at b ⊢
  unfold edA at a
  omega⟩⟩)
def rmM (M : Mem) (u v : Nat) : Int := (M 28 (82 * u + v)).toInt
theorem rm_cg {M M1 : Mem} (h : ∀ i, M1 28 i = M 28 i) : rmM M1 = rmM M := funext (fun u => funext (fun v => by
  unfold rmM
  rw [h]))
def RmP (G : Mem) (s : Int) (M : Mem) : Prop := ∀ u v, u < 82 → v < 82 → rmM M u v = cpG G s u v
theorem rs_e {G : Mem} {s : Int} {M : Mem} {n : Nat} (h : InD M (edS G s n 0 0)) (hn : n = 40) : RmP G s M := fun u v hu hv => by
  rcases Classical.em (edG G s u v) with q | q
  · rw [cp_1 q]
    refine (h u v hu hv).1 ⟨q, ?_⟩
    have a := ed_a q
    unfold stW
    unfold edA at a
    omega
  · rw [cp_0 q]
    exact (h u v hu hv).2 (fun z => q z.1)
def R02 (M : Mem) : Prop := ∀ u v, u < 82 → v < 82 → 0 ≤ rmM M u v ∧ rmM M u v + rmM M v u ≤ 2
def FlR (c : Nat → Nat → Int) (M : Mem) (k : Int) : Prop := FlW (fun u v => c u v - rmM M u v) k
theorem fr_0 {G : Mem} {s : Int} {M : Mem} (h : RmP G s M) : FlR (cpG G s) M 0 ∧ R02 M := by
  have z : ∀ u v, u < 82 → v < 82 → cpG G s u v - rmM M u v = 0 := fun u v hu hv => by
    rw [h u v hu hv]
    omega
  refine ⟨⟨fun u v hu hv => ?_, fun w hw => sI_z (fun v hv => z w v (by omega) hv), sI_z (fun v hv => z 80 v (by omega) hv)⟩, fun u v hu hv => ?_⟩
  · show cpG G s u v - rmM M u v = - (cpG G s v u - rmM M v u)
    have a := z u v hu hv
    have b := z v u hv hu
    omega
  · rw [h u v hu hv, h v u hv hu]
    have a := cp_b (G := G) (s := s) (u := u) (v := v)
    have b := cp_b (G := G) (s := s) (u := v) (v := u)
    omega
theorem sI_1 : ∀ n : Nat, sI (fun _ => (1 : Int)) n = (n : Int)
  | 0 => rfl
  | n + 1 => by
    show sI (fun _ => (1 : Int)) n + 1 = ((n + 1 : Nat) : Int)
    rw [sI_1 n]
    omega
theorem fr_le {c : Nat → Nat → Int} {M : Mem} {k : Int} (h : FlR c M k) (hr : R02 M) (hc : ∀ u v, c u v ≤ 1) : k ≤ 82 := by
  have a : sI (fun v => c 80 v - rmM M 80 v) 82 ≤ sI (fun _ => (1 : Int)) 82 := sI_le (fun v hv => by
    show c 80 v - rmM M 80 v ≤ (1 : Int)
    have x := hc 80 v
    have y := (hr 80 v (by omega) hv).1
    omega)
  have b : sI (fun v => c 80 v - rmM M 80 v) 82 = k := h.2.2
  rw [b, sI_1] at a
  omega
/-- whether one way more goes across -/
def AcP (M M1 : Mem) (r : Int32) : Prop := ∀ (c : Nat → Nat → Int) (k : Int), FlR c M k → (r.toInt = 0 → McP c k) ∧ (¬ r.toInt = 0 → FlR c M1 (k + 1))
def mtM (M : Mem) (j : Nat) : Prop := ¬ (M 29 j).toInt = -1
def PaQ (M : Mem) (n : Nat) (ρ : Nat → Nat) : Prop := ∀ j, j < 82 → mtM M j → ρ j < n ∧ ix (M 30 (ρ j)) = j ∧ (j = 80 ∨ (ix (M 29 j) < 82 ∧ mtM M (ix (M 29 j)) ∧ ρ (ix (M 29 j)) < ρ j ∧ ¬ rmM M (ix (M 29 j)) j = 0))
def AcQ (M : Mem) (n m : Nat) : Prop := mtM M 80 ∧ (∃ ρ : Nat → Nat, PaQ M n ρ) ∧ ∀ t, t < m → ∀ v, v < 82 → ¬ rmM M (ix (M 30 t)) v = 0 → mtM M v
def AcJ (M : Mem) (n m e : Nat) : Prop := AcQ M n m ∧ ∀ v, v < e → ¬ rmM M (ix (M 30 m)) v = 0 → mtM M v
theorem aq_0 {M M1 M2 : Mem} (h : ∀ j : Nat, j < 82 → (M 29 j).toInt = -1) (e1 : M1 = mset M 30 0 (nI 80)) (e2 : M2 = mset M1 29 80 (nI 80)) : AcQ M2 1 0 := by
  have e8 : (nI 80).toInt = 80 := t_lit 80
  have a1 : ∀ j, ¬ j = 80 → M2 29 j = M 29 j := fun j hj => by rw [e2, mset_ne (by first | exact nz1 (by decide) | exact nz2 (by decide) | exact nz1 (nzA hc0 (by decide)) | exact nz1 (nzE (by decide)) | exact nz1 (nzB hc0 (by decide)) | exact nz1 (nzC hc0 (by decide)) | exact nz1 (nzD hc0 (by decide)) | exact nz1 (nzF (by decide)) | exact nz1 (nzG (by decide)) | omega), e1, mset_ne (by first | exact nz1 (by decide) | exact nz2 (by decide) | exact nz1 (nzA hc0 (by decide)) | exact nz1 (nzE (by decide)) | exact nz1 (nzB hc0 (by decide)) | exact nz1 (nzC hc0 (by decide)) | exact nz1 (nzD hc0 (by decide)) | exact nz1 (nzF (by decide)) | exact nz1 (nzG (by decide)) | omega)]
  have a2 : M2 29 80 = nI 80 := by rw [e2, mset_eq]
  have a3 : M2 30 0 = nI 80 := by rw [e2, mset_ne (by first | exact nz1 (by decide) | exact nz2 (by decide) | exact nz1 (nzA hc0 (by decide)) | exact nz1 (nzE (by decide)) | exact nz1 (nzB hc0 (by decide)) | exact nz1 (nzC hc0 (by decide)) | exact nz1 (nzD hc0 (by decide)) | exact nz1 (nzF (by decide)) | exact nz1 (nzG (by decide)) | omega), e1, mset_eq]
  refine ⟨by unfold mtM; rw [a2]; omega, ⟨fun _ => 0, fun j hj hm => ?_⟩, fun t ht => absurd ht (Nat.not_lt_zero _)⟩
  by_cases e : j = 80
  · refine ⟨by show 0 < 1; omega, ?_, Or.inl e⟩
    show ix (M2 30 0) = j
    rw [a3, e]
    decide
  · unfold mtM at hm
    rw [a1 j e] at hm
    exact absurd (h j hj) hm
theorem aq_j {M : Mem} {n m e : Nat} (h : AcQ M n m) (he : e = 0) : AcJ M n m e := ⟨h, fun v hv => absurd hv (by omega)⟩
theorem aq_k {M : Mem} {n m e : Nat} (h : AcJ M n m e) (q : ¬ rmM M (ix (M 30 m)) e = 0 → mtM M e) : AcJ M n m (e + 1) := ⟨h.1, fun v hv z => by
  by_cases c : v = e
  · rw [c] at z ⊢
    exact q z
  · exact h.2 v (by omega) z⟩
theorem aq_s {M : Mem} {n m e : Nat} (h : AcJ M n m e) (he : e = 82) : AcQ M n (m + 1) := ⟨h.1.1, h.1.2.1, fun t ht v hv z => by
  by_cases c : t = m
  · rw [c] at z
    exact h.2 v (by omega) z
  · exact h.1.2.2 t (by omega) v hv z⟩
theorem aq_p {M M1 M2 : Mem} {n m : Nat} {y : Int32} (h : AcJ M n m (ix y)) (hm : m < n) (hy : 0 ≤ y.toInt ∧ y.toInt < 82) (hx : 0 ≤ (M 30 m).toInt ∧ (M 30 m).toInt < 82 ∧ mtM M (ix (M 30 m))) (hv : (M 29 (ix y)).toInt = -1) (hr : ¬ rmM M (ix (M 30 m)) (ix y) = 0) (e1 : M1 = mset M 29 (ix y) (M 30 m)) (e2 : M2 = mset M1 30 n y) : AcJ M2 (n + 1) m (ix y + 1) := by
  obtain ⟨⟨h0, ⟨ρ, h1⟩, h2⟩, h3⟩ := h
  have fy := t_ixn y hy.1
  have fx := t_ixn (M 30 m) hx.1
  have a1 : ∀ j, ¬ j = ix y → M2 29 j = M 29 j := fun j hj => by rw [e2, mset_ne (by first | exact nz1 (by decide) | exact nz2 (by decide) | exact nz1 (nzA hc0 (by decide)) | exact nz1 (nzE (by decide)) | exact nz1 (nzB hc0 (by decide)) | exact nz1 (nzC hc0 (by decide)) | exact nz1 (nzD hc0 (by decide)) | exact nz1 (nzF (by decide)) | exact nz1 (nzG (by decide)) | omega), e1, mset_ne (by first | exact nz1 (by decide) | exact nz2 (by decide) | exact nz1 (nzA hc0 (by decide)) | exact nz1 (nzE (by decide)) | exact nz1 (nzB hc0 (by decide)) | exact nz1 (nzC hc0 (by decide)) | exact nz1 (nzD hc0 (by decide)) | exact nz1 (nzF (by decide)) | exact nz1 (nzG (by decide)) | omega)]
  have a2 : M2 29 (ix y) = M 30 m := by rw [e2, mset_ne (by first | exact nz1 (by decide) | exact nz2 (by decide) | exact nz1 (nzA hc0 (by decide)) | exact nz1 (nzE (by decide)) | exact nz1 (nzB hc0 (by decide)) | exact nz1 (nzC hc0 (by decide)) | exact nz1 (nzD hc0 (by decide)) | exact nz1 (nzF (by decide)) | exact nz1 (nzG (by decide)) | omega), e1, mset_eq]
  have a3 : ∀ t, ¬ t = n → M2 30 t = M 30 t := fun t ht => by rw [e2, mset_ne (by first | exact nz1 (by decide) | exact nz2 (by decide) | exact nz1 (nzA hc0 (by decide)) | exact nz1 (nzE (by decide)) | exact nz1 (nzB hc0 (by decide)) | exact nz1 (nzC hc0 (by decide)) | exact nz1 (nzD hc0 (by decide)) | exact nz1 (nzF (by decide)) | exact nz1 (nzG (by decide)) | omega), e1, mset_ne (by first | exact nz1 (by decide) | exact nz2 (by decide) | exact nz1 (nzA hc0 (by decide)) | exact nz1 (nzE (by decide)) | exact nz1 (nzB hc0 (by decide)) | exact nz1 (nzC hc0 (by decide)) | exact nz1 (nzD hc0 (by decide)) | exact nz1 (nzF (by decide)) | exact nz1 (nzG (by decide)) | omega)]
  have a4 : M2 30 n = y := by rw [e2, mset_eq]
  have a5 : rmM M2 = rmM M := rm_cg (fun i => by rw [e2, mset_ne (by first | exact nz1 (by decide) | exact nz2 (by decide) | exact nz1 (nzA hc0 (by decide)) | exact nz1 (nzE (by decide)) | exact nz1 (nzB hc0 (by decide)) | exact nz1 (nzC hc0 (by decide)) | exact nz1 (nzD hc0 (by decide)) | exact nz1 (nzF (by decide)) | exact nz1 (nzG (by decide)) | omega), e1, mset_ne (by first | exact nz1 (by decide) | exact nz2 (by decide) | exact nz1 (nzA hc0 (by decide)) | exact nz1 (nzE (by decide)) | exact nz1 (nzB hc0 (by decide)) | exact nz1 (nzC hc0 (by decide)) | exact nz1 (nzD hc0 (by decide)) | exact nz1 (nzF (by decide)) | exact nz1 (nzG (by decide)) | omega)])
  have gr : ∀ j, mtM M j → mtM M2 j := fun j hj => by
    unfold mtM at hj ⊢
    by_cases c : j = ix y
    · rw [c, a2]
      omega
    · rw [a1 j c]
      exact hj
  have my : mtM M2 (ix y) := by
    unfold mtM
    rw [a2]
    omega
  have ny : ∀ j, mtM M j → ¬ j = ix y := fun j hj c => hj (by rw [c]; exact hv)
  refine ⟨⟨gr 80 h0, ⟨pu ρ (ix y) n, fun j hj hj2 => ?_⟩, fun t ht v hv2 z => ?_⟩, fun v hv2 z => ?_⟩
  · by_cases e : j = ix y
    · rw [e, a2, pu_s, a4, a5, pu_n (ny _ hx.2.2)]
      refine ⟨by omega, rfl, Or.inr ⟨by omega, gr _ hx.2.2, ?_, hr⟩⟩
      exact (h1 (ix (M 30 m)) (by omega) hx.2.2).1
    · unfold mtM at hj2
      rw [a1 j e] at hj2
      obtain ⟨b1, b2, b3⟩ := h1 j hj hj2
      rw [pu_n e, a3 _ (by omega), a1 j e, a5]
      refine ⟨by omega, b2, b3.elim Or.inl (fun b => Or.inr ⟨b.1, gr _ b.2.1, ?_, b.2.2.2⟩)⟩
      rw [pu_n (ny _ b.2.1)]
      exact b.2.2.1
  · rw [a3 t (by omega), a5] at z
    exact gr v (h2 t ht v hv2 z)
  · rw [a3 m (by omega), a5] at z
    by_cases c : v = ix y
    · rw [c]
      exact my
    · exact gr v (h3 v (by omega) z)
/-- no way more: those met are a cut without room -/
theorem aq_f {M0 M M1 : Mem} {n m : Nat} {r : Int32} (h : AcQ M n m) (hn : n ≤ m) (h81 : (M 29 81).toInt = -1) (hr : R02 M) (e0 : rmM M = rmM M0) (er : r.toInt = 0) : AcP M0 M1 r := by
  obtain ⟨h0, ⟨ρ, h1⟩, h2⟩ := h
  intro c k hf
  refine ⟨fun _ => ?_, fun z => absurd er z⟩
  unfold FlR at hf
  rw [← e0] at hf
  refine mc_of (T := fun j => decide (¬ (M 29 j).toInt = -1)) hf (fun u v hu hv => ?_) (decide_eq_true h0) (decide_eq_false (fun z => z h81)) (fun u v hu hv tu tv => ?_)
  · show c u v - rmM M u v ≤ c u v
    have := (hr u v hu hv).1
    omega
  · show c u v ≤ c u v - rmM M u v
    have mu : ¬ (M 29 u).toInt = -1 := of_decide_eq_true tu
    have nv : ¬ ¬ (M 29 v).toInt = -1 := of_decide_eq_false tv
    obtain ⟨b1, b2, -⟩ := h1 u hu mu
    have z : rmM M u v = 0 := Classical.byContradiction (fun z => nv (h2 (ρ u) (by omega) v hv (by rw [b2]; exact z)))
    omega
theorem nr_m {z : Int32} (h0 : 0 ≤ z.toInt) (h2 : z.toInt ≤ 2) (hz : ¬ z.toInt = 0) : (vp_nar .byte (i2b (z - nI 1))).toInt = z.toInt - 1 := by
  have e : z.toInt = ((1 : Nat) : Int) ∨ z.toInt = ((2 : Nat) : Int) := by omega
  rcases e with e | e
  · rw [t_nI e (by omega)]
    decide
  · rw [t_nI e (by omega)]
    decide
theorem nr_p {z : Int32} (h0 : 0 ≤ z.toInt) (h2 : z.toInt ≤ 2) : (vp_nar .byte (i2b (z + nI 1))).toInt = z.toInt + 1 := by
  have e : z.toInt = ((0 : Nat) : Int) ∨ z.toInt = ((1 : Nat) : Int) ∨ z.toInt = ((2 : Nat) : Int) := by omega
  rcases e with e | e | e
  · rw [t_nI e (by omega)]
    decide
  · rw [t_nI e (by omega)]
    decide
  · rw [t_nI e (by omega)]
    decide
def WbI (M0 M : Mem) (ρ : Nat → Nat) (w : Nat) : Prop := ρ w ≤ ρ 81 ∧ (∀ u v, u < 82 → v < 82 → (ρ u < ρ w ∨ ρ v < ρ w) → rmM M u v = rmM M0 u v) ∧ R02 M ∧ ∀ (c : Nat → Nat → Int) (k : Int), FlR c M0 k → FlV (fun u v => c u v - rmM M u v) k w
theorem wb_0 {M : Mem} {ρ : Nat → Nat} (h : R02 M) : WbI M M ρ 81 := ⟨Nat.le_refl _, fun _ _ _ _ _ => rfl, h, fun _ _ hf => fv_0 hf⟩
theorem wb_s {M0 M M4 M5 : Mem} {ρ : Nat → Nat} {x y : Nat} (h : WbI M0 M ρ y) (hx : x < 82) (hy : y < 82) (hy8 : ¬ y = 80) (hp : ρ x < ρ y) (hr : ¬ rmM M0 x y = 0) (e4 : M4 = mset M 28 (82 * x + y) (vp_nar .byte (i2b (M 28 (82 * x + y) - nI 1)))) (e5 : M5 = mset M4 28 (82 * y + x) (vp_nar .byte (i2b (M4 28 (82 * y + x) + nI 1)))) : WbI M0 M5 ρ x := by
  obtain ⟨h1, h2, h3, h4⟩ := h
  have ne : ¬ x = y := fun z => by
    rw [z] at hp
    omega
  have rx : rmM M x y = rmM M0 x y := h2 x y hx hy (Or.inl hp)
  have bx := h3 x y hx hy
  have b2 := h3 y x hy hx
  have c4 : rmM M5 x y = rmM M x y - 1 := by
    unfold rmM at rx bx hr b2 ⊢
    rw [e5, mset_ne (by first | exact nz1 (by decide) | exact nz2 (by decide) | exact nz1 (nzA hc0 (by decide)) | exact nz1 (nzE (by decide)) | exact nz1 (nzB hc0 (by decide)) | exact nz1 (nzC hc0 (by decide)) | exact nz1 (nzD hc0 (by decide)) | exact nz1 (nzF (by decide)) | exact nz1 (nzG (by decide)) | omega), e4, mset_eq]
    exact nr_m (by omega) (by omega) (by omega)
  have c5 : rmM M5 y x = rmM M y x + 1 := by
    unfold rmM at bx b2 ⊢
    rw [e5, mset_eq, e4, mset_ne (by first | exact nz1 (by decide) | exact nz2 (by decide) | exact nz1 (nzA hc0 (by decide)) | exact nz1 (nzE (by decide)) | exact nz1 (nzB hc0 (by decide)) | exact nz1 (nzC hc0 (by decide)) | exact nz1 (nzD hc0 (by decide)) | exact nz1 (nzF (by decide)) | exact nz1 (nzG (by decide)) | omega)]
    exact nr_p (by omega) (by omega)
  have co : ∀ u v, u < 82 → v < 82 → ¬ (u = x ∧ v = y) → ¬ (u = y ∧ v = x) → rmM M5 u v = rmM M u v := fun u v hu hv q1 q2 => by
    unfold rmM
    rw [e5, mset_ne (by first | exact nz1 (by decide) | exact nz2 (by decide) | exact nz1 (nzA hc0 (by decide)) | exact nz1 (nzE (by decide)) | exact nz1 (nzB hc0 (by decide)) | exact nz1 (nzC hc0 (by decide)) | exact nz1 (nzD hc0 (by decide)) | exact nz1 (nzF (by decide)) | exact nz1 (nzG (by decide)) | omega), e4, mset_ne (by first | exact nz1 (by decide) | exact nz2 (by decide) | exact nz1 (nzA hc0 (by decide)) | exact nz1 (nzE (by decide)) | exact nz1 (nzB hc0 (by decide)) | exact nz1 (nzC hc0 (by decide)) | exact nz1 (nzD hc0 (by decide)) | exact nz1 (nzF (by decide)) | exact nz1 (nzG (by decide)) | omega)]
  refine ⟨by omega, fun u v hu hv q => ?_, fun u v hu hv => ?_, fun c k hf => ?_⟩
  · have q1 : ¬ (u = x ∧ v = y) := fun z => by
      rw [z.1, z.2] at q
      omega
    have q2 : ¬ (u = y ∧ v = x) := fun z => by
      rw [z.1, z.2] at q
      omega
    rw [co u v hu hv q1 q2]
    exact h2 u v hu hv (by omega)
  · by_cases q1 : u = x ∧ v = y
    · rw [q1.1, q1.2, c4, c5]
      rw [← rx] at hr
      omega
    · by_cases q2 : u = y ∧ v = x
      · rw [q2.1, q2.2, c4, c5]
        omega
      · rw [co u v hu hv q1 q2, co v u hv hu (fun z => q2 ⟨z.2, z.1⟩) (fun z => q1 ⟨z.2, z.1⟩)]
        exact h3 u v hu hv
  · have hv9 := fv_s (h4 c k hf) hx hy ne hy8 (fun z => by
      rw [z] at hp
      omega)
    refine fv_cg hv9 (fun u v hu hv => ?_)
    show c u v - rmM M5 u v = (c u v - rmM M u v) + ((if u = x ∧ v = y then 1 else 0) + (if u = y ∧ v = x then -1 else 0))
    by_cases q1 : u = x ∧ v = y
    · rw [if_pos q1, if_neg (fun z => ne (q1.1.symm.trans z.1)), q1.1, q1.2, c4]
      omega
    · by_cases q2 : u = y ∧ v = x
      · rw [if_neg q1, if_pos q2, q2.1, q2.2, c5]
        omega
      · rw [if_neg q1, if_neg q2, co u v hu hv q1 q2]
        omega
theorem wb_e {M0 M M9 : Mem} {ρ : Nat → Nat} {w : Nat} {r : Int32} (h : WbI M0 M ρ w) (hw : w = 80) (e0 : rmM M0 = rmM M9) (er : r.toInt = 1) : AcP M9 M r := fun c k hf => ⟨fun z => absurd z (by omega), fun _ => fv_e (by
  have z := h.2.2.2 c k (by unfold FlR at hf ⊢; rw [e0]; exact hf)
  rw [hw] at z
  exact z)⟩
def HoV (G : Mem) (s r : Int) : Prop := (21 ≤ s ∧ r = -2) ∨ (s < 21 ∧ McP (cpG G s) r)
theorem ho_fn {G : Mem} {s r r' : Int} (h : HoV G s r) (h' : HoV G s r') : r = r' := by
  rcases h with ⟨a, b⟩ | ⟨a, b⟩
  · rcases h' with ⟨a', b'⟩ | ⟨a', b'⟩
    · rw [b, b']
    · omega
  · rcases h' with ⟨a', b'⟩ | ⟨a', b'⟩
    · omega
    · exact mc_fn b b'
theorem ff_ho {MC MM : Mem} {r r' v : Int32} (h : FF MC MM) (hq : QQ MC MM) (hP : PP MC MM) (h1 : PqP (TpC MC v) (HoV (FdC MC 1) (MC 43 (ix v)).toInt r.toInt) r) (h2 : PqP (TpR MM v) (HoV (FdR MM 1) (MM 4 (ix v)).toInt r'.toInt) r') : r = r' := pq_fn h1 h2 (tp_iff hP) (fun t a b => by
  rw [h.1.1, qq_e hq t] at a
  exact t_of (ho_fn a b))
