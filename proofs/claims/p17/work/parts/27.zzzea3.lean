/-! hold: the class's ways that share no stone -/
def Pck (G : Mem) (s : Int) (b : Nat → Int) : Prop := (∀ i, i < 40 → b i = -1 ∨ (b i = 40 ∧ nearG G s i) ∨ ∃ j : Nat, j < 40 ∧ b i = (j : Int) ∧ ¬ j = i ∧ adjG G s j i ∧ ¬ b j = -1) ∧ (∀ i l, i < 40 → l < 40 → 0 ≤ b i → b i < 40 → b i = b l → i = l) ∧ (∀ i : Nat, i < 40 → ¬ b i = -1 → (∀ j, j < 40 → ¬ b j = (i : Int)) → farG G s i)
def nrC (b : Nat → Int) : Int := sI (fun i => if b i = 40 then 1 else 0) 40
def usC (b : Nat → Int) (i : Nat) : Int := if b i = -1 then 0 else 1
def suC (b : Nat → Int) (i : Nat) : Int := sI (fun j => if b j = (i : Int) then 1 else 0) 40
def gfC (b : Nat → Int) (u v : Nat) : Int := if v < 40 then (if 40 ≤ u ∧ (u : Int) = 40 + b v then 1 else 0) else if v < 80 then (if v = u + 40 ∧ ¬ b u = -1 then 1 else 0) else if v = 81 then (if 40 ≤ u ∧ u < 80 then usC b (u - 40) - suC b (u - 40) else 0) else 0
theorem gf_i {b : Nat → Int} {u v : Nat} (h : v < 40) : gfC b u v = if 40 ≤ u ∧ (u : Int) = 40 + b v then 1 else 0 := if_pos h
theorem gf_o {b : Nat → Int} {u v : Nat} (h : ¬ v < 40) (h2 : v < 80) : gfC b u v = if v = u + 40 ∧ ¬ b u = -1 then 1 else 0 := by
  unfold gfC
  rw [if_neg h, if_pos h2]
theorem gf_e {b : Nat → Int} {u : Nat} : gfC b u 81 = if 40 ≤ u ∧ u < 80 then usC b (u - 40) - suC b (u - 40) else 0 := by
  unfold gfC
  rw [if_neg (by omega), if_neg (by omega), if_pos rfl]
theorem gf_n {b : Nat → Int} {u : Nat} : gfC b u 80 = 0 := by
  unfold gfC
  rw [if_neg (by omega), if_neg (by omega), if_neg (by omega)]
theorem sI_lo (F : Nat → Int) {n : Nat} : ∀ m, n ≤ m → sI (fun v => if v < n then F v else 0) m = sI F n
  | 0, h => by
    rw [show n = 0 from by omega] <;> rfl
  | m + 1, h => by
    show sI (fun v => if v < n then F v else 0) m + (if m < n then F m else 0) = sI F n
    by_cases c : n = m + 1
    · rw [if_pos (by omega), c]
      show _ = sI F m + F m
      rw [sI_cg (g := F) (fun v hv => by rw [if_pos (by omega)])]
    · rw [if_neg (by omega), sI_lo F m (by omega)]
      omega
theorem su_b {G : Mem} {s : Int} {b : Nat → Int} {i : Nat} (h : Pck G s b) (hi : i < 40) : (suC b i = 0 ∧ ∀ j, j < 40 → ¬ b j = (i : Int)) ∨ (suC b i = 1 ∧ ¬ b i = -1) := by
  rcases Classical.em (∃ j, j < 40 ∧ b j = (i : Int)) with q | q
  · obtain ⟨j, hj, e⟩ := q
    refine Or.inr ⟨?_, ?_⟩
    · unfold suC
      have z := sI_at (f := fun x => if x < 40 ∧ b x = (i : Int) then (1 : Int) else 0) (k := j) (fun x hx => if_neg (fun y => hx (h.2.1 x j y.1 hj (by omega) (by omega) (y.2.trans e.symm)))) 40 hj
      rw [sI_cg (g := fun x => if x < 40 ∧ b x = (i : Int) then (1 : Int) else 0) (fun x hx => by
        show (if b x = (i : Int) then (1 : Int) else 0) = (if x < 40 ∧ b x = (i : Int) then (1 : Int) else 0)
        by_cases c : b x = (i : Int)
        · rw [if_pos c, if_pos ⟨hx, c⟩]
        · rw [if_neg c, if_neg (fun y => c y.2)]), z]
      exact if_pos ⟨hj, e⟩
    · rcases h.1 j hj with z | z | ⟨l, z1, z2, z3, z4, z5⟩
      · omega
      · have := z.1
        omega
      · rw [show i = l from by omega]
        exact z5
  · have q' : ∀ j, j < 40 → ¬ b j = (i : Int) := fun j hj e => q ⟨j, hj, e⟩
    refine Or.inl ⟨?_, q'⟩
    unfold suC
    exact sI_z (fun j hj => if_neg (q' j hj))
theorem pk_r {G : Mem} {s : Int} {b : Nat → Int} {i : Nat} (h : Pck G s b) (hi : i < 40) : -1 ≤ b i ∧ b i ≤ 40 := by
  rcases h.1 i hi with z | z | ⟨l, z1, z2, z3, z4, z5⟩ <;> omega
theorem us_b {b : Nat → Int} {i : Nat} : 0 ≤ usC b i ∧ usC b i ≤ 1 := by
  unfold usC
  by_cases c : b i = -1
  · rw [if_pos c]
    omega
  · rw [if_neg c]
    omega
theorem gf_0 {G : Mem} {s : Int} {b : Nat → Int} {u v : Nat} (h : Pck G s b) (hv : v < 82) : 0 ≤ gfC b u v := by
  by_cases c1 : v < 40
  · rw [gf_i c1]
    split <;> omega
  · by_cases c2 : v < 80
    · rw [gf_o c1 c2]
      split <;> omega
    · by_cases c3 : v = 81
      · rw [c3, gf_e]
        by_cases c4 : 40 ≤ u ∧ u < 80
        · rw [if_pos c4]
          rcases su_b (i := u - 40) h (by omega) with z | z
          · have := us_b (b := b) (i := u - 40)
            omega
          · unfold usC
            rw [if_neg z.2]
            omega
        · rw [if_neg c4]
          omega
      · rw [show v = 80 from by omega, gf_n]
        omega
theorem gf_c {G : Mem} {s : Int} {b : Nat → Int} {u v : Nat} (h : Pck G s b) (hu : u < 82) (hv : v < 82) : gfC b u v ≤ cpG G s u v := by
  have cb := cp_b (G := G) (s := s) (u := u) (v := v)
  by_cases c1 : v < 40
  · rw [gf_i c1]
    by_cases q : 40 ≤ u ∧ (u : Int) = 40 + b v
    · have ed : edG G s u v := by
        rcases h.1 v c1 with z | z | ⟨l, z1, z2, z3, z4, z5⟩
        · omega
        · exact Or.inl ⟨by omega, c1, z.2⟩
        · exact Or.inr (Or.inr (Or.inr ⟨by omega, ⟨c1, by omega⟩, by rw [show u - 40 = l from by omega]; exact z4⟩))
      have e1 := cp_1 ed
      rw [if_pos q]
      omega
    · rw [if_neg q]
      omega
  · by_cases c2 : v < 80
    · rw [gf_o c1 c2]
      by_cases q : v = u + 40 ∧ ¬ b u = -1
      · have ed : edG G s u v := by
          refine Or.inr (Or.inl ⟨by omega, q.1, ?_⟩)
          rcases h.1 u (by omega) with z | z | ⟨l, z1, z2, z3, z4, z5⟩
          · exact absurd z q.2
          · exact z.2.1
          · exact z4.2.1
        have e1 := cp_1 ed
        rw [if_pos q]
        omega
      · rw [if_neg q]
        omega
    · by_cases c3 : v = 81
      · rw [c3, gf_e]
        by_cases c4 : 40 ≤ u ∧ u < 80
        · rw [if_pos c4]
          rw [c3] at cb
          have ub := us_b (b := b) (i := u - 40)
          rcases su_b (i := u - 40) h (by omega) with z | z
          · by_cases c5 : b (u - 40) = -1
            · unfold usC
              rw [if_pos c5]
              omega
            · have e1 := cp_1 (G := G) (s := s) (u := u) (v := 81) (Or.inr (Or.inr (Or.inl ⟨c4, rfl, h.2.2 (u - 40) (by omega) c5 z.2⟩)))
              omega
          · omega
        · rw [if_neg c4]
          rw [c3] at cb
          exact cb.1
      · rw [show v = 80 from by omega] at cb ⊢
        rw [gf_n]
        exact cb.1
theorem sI_sub (f g : Nat → Int) (n : Nat) : sI (fun j => f j - g j) n = sI f n - sI g n := by
  have a : sI (fun j => f j + - g j) n = sI f n + - sI g n := (sI_add f (fun j => - g j) n).trans (by rw [sI_neg])
  have e : sI (fun j => f j - g j) n = sI (fun j => f j + - g j) n := sI_cg (fun j hj => by
    show f j - g j = f j + - g j
    omega)
  omega
theorem gs_i {b : Nat → Int} {w : Nat} (h : w < 40) : sI (fun v => gfC b w v) 82 = usC b w := by
  rw [sI_at (k := w + 40) (fun v hv => ?_) 82 (by omega)]
  · rw [gf_o (by omega) (by omega)]
    unfold usC
    by_cases c : b w = -1
    · rw [if_pos c, if_neg (fun z => z.2 c)]
    · rw [if_neg c, if_pos ⟨rfl, c⟩]
  · by_cases c1 : v < 40
    · rw [gf_i c1, if_neg (by omega)]
    · by_cases c2 : v < 80
      · rw [gf_o c1 c2, if_neg (fun z => hv z.1)]
      · unfold gfC
        rw [if_neg c1, if_neg c2]
        by_cases c3 : v = 81
        · rw [if_pos c3, if_neg (by omega)]
        · rw [if_neg c3]
theorem gs_ib {G : Mem} {s : Int} {b : Nat → Int} {w : Nat} (hp : Pck G s b) (h : w < 40) : sI (fun v => gfC b v w) 82 = usC b w := by
  have br := pk_r hp h
  unfold usC
  by_cases c : b w = -1
  · rw [if_pos c]
    exact sI_z (fun v hv => by rw [gf_i h, if_neg (by omega)])
  · rw [if_neg c, sI_at (k := (40 + b w).toNat) (fun v hv => ?_) 82 (by omega)]
    · rw [gf_i h, if_pos (by omega)]
    · rw [gf_i h, if_neg (by omega)]
theorem gs_o {b : Nat → Int} {w : Nat} (h : w < 40) : sI (fun v => gfC b (w + 40) v) 82 = usC b w := by
  have e : sI (fun v => gfC b (w + 40) v) 82 = sI (fun v => (if v < 40 then (if b v = (w : Int) then 1 else 0) else 0) + (if v = 81 then usC b w - suC b w else 0)) 82 := sI_cg (fun v hv => by
    by_cases c1 : v < 40
    · rw [gf_i c1, if_pos c1, if_neg (show ¬ v = 81 by omega)]
      by_cases c : b v = (w : Int)
      · rw [if_pos c, if_pos (by omega)] <;> rfl
      · rw [if_neg c, if_neg (by omega)] <;> rfl
    · rw [if_neg c1]
      by_cases c2 : v < 80
      · rw [gf_o c1 c2, if_neg (by omega), if_neg (show ¬ v = 81 by omega)] <;> rfl
      · by_cases c3 : v = 81
        · rw [c3, gf_e, if_pos (by omega), if_pos rfl, show w + 40 - 40 = w from by omega]
          omega
        · rw [if_neg c3, show v = 80 from by omega, gf_n] <;> rfl)
  rw [e, sI_add, sI_lo (fun v => if b v = (w : Int) then 1 else 0) 82 (by omega), sI_at (f := fun v => if v = 81 then usC b w - suC b w else 0) (k := 81) (fun v hv => if_neg hv) 82 (by omega), if_pos rfl]
  unfold suC
  omega
theorem gs_ob {b : Nat → Int} {w : Nat} (h : w < 40) : sI (fun v => gfC b v (w + 40)) 82 = usC b w := by
  unfold usC
  rw [sI_at (k := w) (fun v hv => by rw [gf_o (by omega) (by omega), if_neg (fun z => hv (by omega))]) 82 (by omega), gf_o (by omega) (by omega)]
  by_cases c : b w = -1
  · rw [if_pos c, if_neg (fun z => z.2 c)]
  · rw [if_neg c, if_pos ⟨rfl, c⟩]
theorem gs_80 {b : Nat → Int} : sI (fun v => gfC b 80 v) 82 = nrC b := by
  have e : sI (fun v => gfC b 80 v) 82 = sI (fun v => if v < 40 then (if b v = 40 then 1 else 0) else 0) 82 := sI_cg (fun v hv => by
    by_cases c1 : v < 40
    · rw [gf_i c1, if_pos c1]
      by_cases c : b v = 40
      · rw [if_pos c, if_pos (by omega)]
      · rw [if_neg c, if_neg (by omega)]
    · rw [if_neg c1]
      by_cases c2 : v < 80
      · rw [gf_o c1 c2, if_neg (by omega)]
      · by_cases c3 : v = 81
        · rw [c3, gf_e, if_neg (by omega)]
        · rw [show v = 80 from by omega, gf_n])
  rw [e, sI_lo (fun v => if b v = 40 then 1 else 0) 82 (by omega)] <;> rfl
theorem gf_w {G : Mem} {s : Int} {b : Nat → Int} (h : Pck G s b) : FlW (fun u v => gfC b u v - gfC b v u) (nrC b) := by
  refine ⟨fun u v _ _ => by
    show gfC b u v - gfC b v u = - (gfC b v u - gfC b u v)
    omega, fun w hw => ?_, ?_⟩
  · show sI (fun v => gfC b w v - gfC b v w) 82 = 0
    rw [sI_sub (fun v => gfC b w v) (fun v => gfC b v w)]
    by_cases c : w < 40
    · rw [gs_i c, gs_ib h c]
      omega
    · have e := gs_o (b := b) (w := w - 40) (by omega)
      have f := gs_ob (b := b) (w := w - 40) (by omega)
      rw [show w - 40 + 40 = w from by omega] at e f
      rw [e, f]
      omega
  · show sI (fun v => gfC b 80 v - gfC b v 80) 82 = nrC b
    rw [sI_sub (fun v => gfC b 80 v) (fun v => gfC b v 80), gs_80, sI_z (f := fun v => gfC b v 80) (fun v _ => gf_n)]
    omega
theorem gf_le {G : Mem} {s : Int} {b : Nat → Int} (h : Pck G s b) (u v : Nat) (hu : u < 82) (hv : v < 82) : gfC b u v - gfC b v u ≤ cpG G s u v := by
  have a := gf_c h hu hv
  have c := gf_0 (u := v) (v := u) h hu
  omega
/-- what a search that ends has met -/
def ClQ (G : Mem) (s : Int) (b : Nat → Int) (mt : Nat → Prop) (x : Nat) : Prop := (x < 40 → (b x = -1 → mt (x + 40)) ∧ ∀ j : Nat, j < 40 → b x = (j : Int) → mt (j + 40)) ∧ (40 ≤ x → ¬ farG G s (x - 40) ∧ (∀ j, j < 40 → ¬ j = x - 40 → adjG G s (x - 40) j → mt j) ∧ mt (x - 40))
theorem pk_mc {G : Mem} {s : Int} {b : Nat → Int} {mt : Nat → Prop} (h : Pck G s b) (hn : ∀ i, i < 40 → nearG G s i → mt i) (hc : ∀ x, x < 80 → mt x → ClQ G s b mt x) : McP (cpG G s) (nrC b) := by
  refine mc_of (T := fun j => @decide (j = 80 ∨ (j < 80 ∧ mt j)) (Classical.propDecidable _)) (gf_w h) (gf_le h) (@decide_eq_true _ (Classical.propDecidable _) (Or.inl rfl)) (@decide_eq_false _ (Classical.propDecidable _) (fun z => z.elim (fun q => absurd q (by decide)) (fun q => absurd q.1 (by decide)))) (fun u v hu hv tu tv => ?_)
  have mu : u = 80 ∨ (u < 80 ∧ mt u) := @of_decide_eq_true _ (Classical.propDecidable _) tu
  have nv : ¬ (v = 80 ∨ (v < 80 ∧ mt v)) := @of_decide_eq_false _ (Classical.propDecidable _) tv
  have g1 := gf_0 (u := u) (v := v) h hv
  have cb := cp_b (G := G) (s := s) (u := u) (v := v)
  rcases mu with mu | ⟨hu8, mu⟩
  · have z1 : gfC b v u = 0 := by rw [mu, gf_n]
    have z2 : cpG G s u v = 0 := cp_0 (fun q => by
      rcases q with q | q | q | q
      · exact nv (Or.inr ⟨by omega, hn v q.2.1 q.2.2⟩)
      · omega
      · omega
      · omega)
    show cpG G s u v ≤ gfC b u v - gfC b v u
    omega
  · have cl := hc u hu8 mu
    show cpG G s u v ≤ gfC b u v - gfC b v u
    by_cases cu : u < 40
    · have k := cl.1 cu
      have z1 : gfC b v u = 0 := by
        rw [gf_i cu]
        refine if_neg (fun q => nv ?_)
        by_cases c8 : v = 80
        · exact Or.inl c8
        · have br := pk_r h cu
          exact Or.inr ⟨by omega, by
            have y := k.2 (v - 40) (by omega) (by omega)
            rw [show v - 40 + 40 = v from by omega] at y
            exact y⟩
      rcases Classical.em (edG G s u v) with q | q
      · have qa := ed_a q
        unfold edA at qa
        have ev : v = u + 40 := by omega
        rw [gf_o (b := b) (u := u) (v := v) (by omega) (by omega)]
        by_cases c : b u = -1
        · exact absurd (Or.inr ⟨by omega, by rw [ev]; exact k.1 c⟩) nv
        · rw [if_pos ⟨ev, c⟩]
          omega
      · rw [cp_0 q]
        omega
    · have k := cl.2 (by omega)
      have z1 : gfC b v u = 0 := by
        rw [gf_o cu hu8]
        refine if_neg (fun q => nv (Or.inr ⟨by omega, ?_⟩))
        rw [show v = u - 40 from by omega]
        exact k.2.2
      have z2 : cpG G s u v = 0 := cp_0 (fun q => by
        rcases q with q | q | q | q
        · omega
        · omega
        · exact k.1 q.2.2
        · exact nv (Or.inr ⟨by omega, k.2.1 v q.2.1.1 q.2.1.2 q.2.2⟩))
      omega
/-- forty ways: every stone is by the near bank, and used -/
theorem pk_40 {G : Mem} {s : Int} {b : Nat → Int} (h : Pck G s b) (h4 : nrC b = 40) : McP (cpG G s) (nrC b) := by
  have al : ∀ i, i < 40 → b i = 40 := fun i hi => Classical.byContradiction (fun q => by
    have a : nrC b ≤ sI (fun j => (1 : Int) - (if j = i then (1 : Int) else 0)) 40 := sI_le (fun j hj => by
      show (if b j = 40 then (1 : Int) else 0) ≤ 1 - (if j = i then (1 : Int) else 0)
      by_cases c : j = i
      · have x : (if j = i then (1 : Int) else 0) = 1 := if_pos c
        have y : (if b j = 40 then (1 : Int) else 0) = 0 := if_neg (by rw [c]; exact q)
        exact Int.le_of_eq (by rw [x, y] <;> decide)
      · have x : (if j = i then (1 : Int) else 0) = 0 := if_neg c
        rw [x]
        split <;> omega)
    have e := sI_sub (fun _ => (1 : Int)) (fun w => if w = i then (1 : Int) else 0) 40
    have e2 := sI_at (f := fun w => if w = i then (1 : Int) else 0) (k := i) (fun v hv => if_neg hv) 40 hi
    have e3 : (if i = i then (1 : Int) else 0) = 1 := if_pos rfl
    rw [e, sI_1, e2, e3, h4] at a
    omega)
  refine mc_of (T := fun j => decide (j = 80)) (gf_w h) (gf_le h) (by decide) (by decide) (fun u v hu hv tu tv => ?_)
  have eu : u = 80 := of_decide_eq_true tu
  show cpG G s u v ≤ gfC b u v - gfC b v u
  rw [eu, gf_n]
  have cb := cp_b (G := G) (s := s) (u := 80) (v := v)
  by_cases c : v < 40
  · rw [gf_i c, if_pos (by rw [al v c]; omega)]
    omega
  · have g1 := gf_0 (u := 80) (v := v) h hv
    rw [cp_0 (fun q => by
      have qa := ed_a q
      unfold edA at qa
      omega)]
    omega
theorem pk_0 {G : Mem} {s : Int} {b : Nat → Int} (h : ∀ i, i < 40 → b i = -1) : Pck G s b ∧ nrC b = 0 := ⟨⟨fun i hi => Or.inl (h i hi), fun i l hi _ h0 => absurd h0 (by rw [h i hi]; omega), fun i hi q => absurd (h i hi) q⟩, sI_z (fun i hi => if_neg (by rw [h i hi]; omega))⟩
