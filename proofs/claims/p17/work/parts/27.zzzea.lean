/-! sums of throws -/
def sI (f : Nat → Int) : Nat → Int
  | 0 => 0
  | m + 1 => sI f m + f m
theorem sI_cg {f g : Nat → Int} : ∀ {m : Nat}, (∀ j, j < m → f j = g j) → sI f m = sI g m
  | 0, _ => rfl
  | m + 1, h => by
    show sI f m + f m = sI g m + g m
    rw [sI_cg (m := m) (fun j hj => h j (by omega)), h m (by omega)]
/-! nets: sums, cuts, flows (hold, p17); wants sI, sI_cg of 27.tr ahead of it -/
theorem sI_z {f : Nat → Int} : ∀ {n : Nat}, (∀ j, j < n → f j = 0) → sI f n = 0
  | 0, _ => rfl
  | n + 1, h => by
    show sI f n + f n = 0
    rw [sI_z (n := n) (fun j hj => h j (by omega)), h n (by omega)]
    rfl
theorem sI_add (f g : Nat → Int) : ∀ n, sI (fun j => f j + g j) n = sI f n + sI g n
  | 0 => rfl
  | n + 1 => by
    show sI (fun j => f j + g j) n + (f n + g n) = sI f n + f n + (sI g n + g n)
    rw [sI_add f g n]
    omega
theorem sI_neg (f : Nat → Int) : ∀ n, sI (fun j => - f j) n = - sI f n
  | 0 => rfl
  | n + 1 => by
    show sI (fun j => - f j) n + - f n = - (sI f n + f n)
    rw [sI_neg f n]
    omega
theorem sI_le {f g : Nat → Int} : ∀ {n : Nat}, (∀ j, j < n → f j ≤ g j) → sI f n ≤ sI g n
  | 0, _ => Int.le_refl _
  | n + 1, h => by
    have a := sI_le (n := n) (fun j hj => h j (by omega))
    have b := h n (by omega)
    show sI f n + f n ≤ sI g n + g n
    omega
theorem sI_swap (f : Nat → Nat → Int) (m : Nat) : ∀ n, sI (fun u => sI (fun v => f u v) m) n = sI (fun v => sI (fun u => f u v) n) m
  | 0 => (sI_z (fun j _ => rfl)).symm
  | n + 1 => by
    show sI (fun u => sI (fun v => f u v) m) n + sI (fun v => f n v) m = sI (fun v => sI (fun u => f u v) n + f n v) m
    rw [sI_swap f m n, sI_add]
/-- only one place counts -/
theorem sI_at {f : Nat → Int} {k : Nat} (h : ∀ j, ¬ j = k → f j = 0) : ∀ n, k < n → sI f n = f k
  | 0, hk => absurd hk (Nat.not_lt_zero _)
  | n + 1, hk => by
    show sI f n + f n = f k
    by_cases c : n = k
    · rw [sI_z (n := n) (fun j hj => h j (by omega)), c]
      omega
    · rw [sI_at h n (by omega), h n c]
      omega
def cutS (c : Nat → Nat → Int) (S : Nat → Bool) : Int := sI (fun u => sI (fun v => if S u = true ∧ S v = false then c u v else 0) 82) 82
/-- what goes over each pair of nodes, k in all from 80 to 81 -/
def FlW (f : Nat → Nat → Int) (k : Int) : Prop := (∀ u v, u < 82 → v < 82 → f u v = - f v u) ∧ (∀ w, w < 80 → sI (fun v => f w v) 82 = 0) ∧ sI (fun v => f 80 v) 82 = k
theorem fl_cut {f : Nat → Nat → Int} {k : Int} {S : Nat → Bool} (h : FlW f k) (h0 : S 80 = true) (h1 : S 81 = false) : cutS f S = k := by
  obtain ⟨a, b, c⟩ := h
  have in0 : sI (fun u => sI (fun v => if S u = true ∧ S v = true then f u v else 0) 82) 82 = 0 := by
    have e : sI (fun u => sI (fun v => if S u = true ∧ S v = true then f u v else 0) 82) 82 = - sI (fun u => sI (fun v => if S u = true ∧ S v = true then f u v else 0) 82) 82 := by
      rw [← sI_neg]
      rw [sI_swap (fun u v => if S u = true ∧ S v = true then f u v else 0) 82 82]
      refine sI_cg (fun v hv => ?_)
      rw [← sI_neg]
      refine sI_cg (fun u hu => ?_)
      show (if S u = true ∧ S v = true then f u v else 0) = - (if S v = true ∧ S u = true then f v u else 0)
      by_cases q : S u = true ∧ S v = true
      · rw [if_pos q, if_pos ⟨q.2, q.1⟩]
        exact a u v hu hv
      · rw [if_neg q, if_neg (fun z => q ⟨z.2, z.1⟩)]
        rfl
    omega
  have all : sI (fun u => if S u = true then sI (fun v => f u v) 82 else 0) 82 = k := by
    rw [← c]
    have z := sI_at (f := fun u => if S u = true then (if u < 82 then sI (fun v => f u v) 82 else 0) else 0) (k := 80) (fun j hj => by
      show (if S j = true then (if j < 82 then sI (fun v => f j v) 82 else 0) else 0) = 0
      by_cases q : S j = true
      · rw [if_pos q]
        by_cases q2 : j < 82
        · rw [if_pos q2]
          have q3 : ¬ j = 81 := fun z => by
            rw [z, h1] at q
            exact absurd q (by decide)
          exact b j (by omega)
        · exact if_neg q2
      · exact if_neg q) 82 (by omega)
    have z2 : sI (fun u => if S u = true then sI (fun v => f u v) 82 else 0) 82 = sI (fun u => if S u = true then (if u < 82 then sI (fun v => f u v) 82 else 0) else 0) 82 := sI_cg (fun j hj => by rw [if_pos hj])
    rw [z2, z]
    show (if S 80 = true then (if 80 < 82 then sI (fun v => f 80 v) 82 else 0) else 0) = sI (fun v => f 80 v) 82
    rw [if_pos h0, if_pos (by omega)]
  have sp : sI (fun u => if S u = true then sI (fun v => f u v) 82 else 0) 82 = sI (fun u => sI (fun v => if S u = true ∧ S v = true then f u v else 0) 82) 82 + cutS f S := by
    unfold cutS
    rw [← sI_add]
    refine sI_cg (fun u hu => ?_)
    rw [← sI_add]
    by_cases q : S u = true
    · rw [if_pos q]
      refine sI_cg (fun v hv => ?_)
      cases hs9 : S v with
      | true => rw [if_pos ⟨q, rfl⟩, if_neg (fun z => absurd z.2 (by decide))]; omega
      | false => rw [if_neg (fun z => absurd z.2 (by decide)), if_pos ⟨q, rfl⟩]; omega
    · rw [if_neg q]
      refine (sI_z (fun v hv => ?_)).symm
      rw [if_neg (fun z => q z.1), if_neg (fun z => q z.1)]
      rfl
  omega
/-- the least cut -/
def McP (c : Nat → Nat → Int) (k : Int) : Prop := (∃ S : Nat → Bool, S 80 = true ∧ S 81 = false ∧ cutS c S = k) ∧ ∀ S : Nat → Bool, S 80 = true → S 81 = false → k ≤ cutS c S
theorem mc_fn {c : Nat → Nat → Int} {k l : Int} (h : McP c k) (h' : McP c l) : k = l := by
  obtain ⟨⟨S, a1, a2, a3⟩, a4⟩ := h
  obtain ⟨⟨T, b1, b2, b3⟩, b4⟩ := h'
  have := a4 T b1 b2
  have := b4 S a1 a2
  omega
theorem cut_le {c d : Nat → Nat → Int} {S : Nat → Bool} (h : ∀ u v, u < 82 → v < 82 → S u = true → S v = false → c u v ≤ d u v) : cutS c S ≤ cutS d S := sI_le (fun u hu => sI_le (fun v hv => by
  by_cases q : S u = true ∧ S v = false
  · rw [if_pos q, if_pos q]
    exact h u v hu hv q.1 q.2
  · rw [if_neg q, if_neg q]
    exact Int.le_refl _))
/-- a flow within c that leaves no room over some cut: the least cut -/
theorem mc_of {c f : Nat → Nat → Int} {k : Int} {T : Nat → Bool} (h : FlW f k) (hc : ∀ u v, u < 82 → v < 82 → f u v ≤ c u v) (t0 : T 80 = true) (t1 : T 81 = false) (ht : ∀ u v, u < 82 → v < 82 → T u = true → T v = false → c u v ≤ f u v) : McP c k := by
  have lo : ∀ S : Nat → Bool, S 80 = true → S 81 = false → k ≤ cutS c S := fun S s0 s1 => by
    rw [← fl_cut h s0 s1]
    exact cut_le (fun u v hu hv _ _ => hc u v hu hv)
  refine ⟨⟨T, t0, t1, ?_⟩, lo⟩
  have a := lo T t0 t1
  have b := cut_le (S := T) ht
  rw [fl_cut h t0 t1] at b
  omega
theorem mc_cg {c d : Nat → Nat → Int} {k : Int} (h : McP c k) (e : ∀ u v, u < 82 → v < 82 → c u v = d u v) : McP d k := by
  have ec : ∀ S, cutS c S = cutS d S := fun S => sI_cg (fun u hu => sI_cg (fun v hv => by rw [e u v hu hv]))
  obtain ⟨⟨S, a1, a2, a3⟩, a4⟩ := h
  exact ⟨⟨S, a1, a2, by rw [← ec]; exact a3⟩, fun T t0 t1 => by rw [← ec]; exact a4 T t0 t1⟩
/-! one more way: from 81 back to 80, step by step; w is where it has come -/
def FlV (f : Nat → Nat → Int) (k : Int) (w : Nat) : Prop := (∀ u v, u < 82 → v < 82 → f u v = - f v u) ∧ (∀ j, j < 80 → sI (fun v => f j v) 82 = (if j = w then 1 else 0)) ∧ sI (fun v => f 80 v) 82 = k + (if w = 80 then 1 else 0)
def plF (f : Nat → Nat → Int) (x y : Nat) : Nat → Nat → Int := fun u v => f u v + ((if u = x ∧ v = y then 1 else 0) + (if u = y ∧ v = x then -1 else 0))
theorem fv_0 {f : Nat → Nat → Int} {k : Int} (h : FlW f k) : FlV f k 81 := ⟨h.1, fun j hj => by rw [if_neg (by omega)]; exact h.2.1 j hj, by rw [if_neg (by omega), h.2.2]; omega⟩
theorem fv_e {f : Nat → Nat → Int} {k : Int} (h : FlV f k 80) : FlW f (k + 1) := ⟨h.1, fun j hj => by rw [h.2.1 j hj, if_neg (by omega)], by rw [h.2.2, if_pos rfl]⟩
theorem pl_s {f : Nat → Nat → Int} {x y : Nat} (hx : x < 82) (hy : y < 82) (hn : ¬ x = y) (j : Nat) : sI (fun v => plF f x y j v) 82 = sI (fun v => f j v) 82 + ((if j = x then 1 else 0) + (if j = y then -1 else 0)) := by
  unfold plF
  rw [sI_add, sI_add]
  have a : sI (fun v => if j = x ∧ v = y then (1 : Int) else 0) 82 = (if j = x then 1 else 0) := by
    rw [sI_at (k := y) (fun v hv => if_neg (fun z => hv z.2)) 82 hy]
    by_cases c : j = x
    · rw [if_pos ⟨c, rfl⟩, if_pos c]
    · rw [if_neg (fun z => c z.1), if_neg c]
  have b : sI (fun v => if j = y ∧ v = x then (-1 : Int) else 0) 82 = (if j = y then -1 else 0) := by
    rw [sI_at (k := x) (fun v hv => if_neg (fun z => hv z.2)) 82 hx]
    by_cases c : j = y
    · rw [if_pos ⟨c, rfl⟩, if_pos c]
    · rw [if_neg (fun z => c z.1), if_neg c]
  rw [a, b]
theorem fv_s {f : Nat → Nat → Int} {k : Int} {x y : Nat} (h : FlV f k y) (hx : x < 82) (hy : y < 82) (hn : ¬ x = y) (hy8 : ¬ y = 80) (hx1 : ¬ x = 81) : FlV (plF f x y) k x := by
  refine ⟨fun u v hu hv => ?_, fun j hj => ?_, ?_⟩
  · have z := h.1 u v hu hv
    unfold plF
    by_cases c1 : u = x ∧ v = y
    · rw [if_pos c1, if_neg (fun q => hn (c1.1.symm.trans q.1)), if_neg (fun q => hn (q.1.symm.trans c1.2)), if_pos ⟨c1.2, c1.1⟩]
      omega
    · by_cases c2 : u = y ∧ v = x
      · rw [if_neg c1, if_pos c2, if_pos ⟨c2.2, c2.1⟩, if_neg (fun q => c1 ⟨q.2, q.1⟩)]
        omega
      · rw [if_neg c1, if_neg c2, if_neg (fun q => c2 ⟨q.2, q.1⟩), if_neg (fun q => c1 ⟨q.2, q.1⟩)]
        omega
  · rw [pl_s hx hy hn, h.2.1 j hj]
    by_cases c : j = x
    · rw [if_pos c, if_neg (fun q => hn (c.symm.trans q)), if_neg (fun q => hn (c.symm.trans q))]
      rfl
    · rw [if_neg c]
      by_cases d : j = y
      · rw [if_pos d, if_pos d]
        rfl
      · rw [if_neg d, if_neg d]
        rfl
  · rw [pl_s hx hy hn, h.2.2, if_neg hy8]
    by_cases c : x = 80
    · rw [if_pos c.symm, if_pos c, if_neg (fun q => hy8 q.symm)]
      omega
    · rw [if_neg (fun q => c q.symm), if_neg c, if_neg (fun q => hy8 q.symm)]
      omega
theorem fv_cg {f g : Nat → Nat → Int} {k : Int} {w : Nat} (h : FlV f k w) (e : ∀ u v, u < 82 → v < 82 → g u v = f u v) : FlV g k w := ⟨fun u v hu hv => by rw [e u v hu hv, e v u hv hu]; exact h.1 u v hu hv, fun j hj => by rw [sI_cg (fun v hv => e j v (by omega) hv)]; exact h.2.1 j hj, by rw [sI_cg (fun v hv => e 80 v (by omega) hv)]; exact h.2.2⟩
